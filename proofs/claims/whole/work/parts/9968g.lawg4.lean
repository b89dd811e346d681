set_option maxRecDepth 20000 in
theorem ggL_law_X12_dateOf : GoodIn wsL_law wsX12_dateOf := goodIn_r _ [1290, 227, 155, 1225, 1226, 5, 1227, 1222, 1223, 1224, 1219, 1220, 1221, 1261, 1262, 1263, 1264, 1265, 1266, 1267, 1268, 228, 229, 230, 1269, 1270, 1271, 1272, 1273, 1274, 1275, 1276, 1209, 156, 157, 231, 232, 233, 234, 1291, 1292, 1293, 1635, 1636, 1637, 1638, 1639, 1640, 1641, 1642, 1643, 1644, 1645, 1646, 1647, 1648, 1649, 1650, 1651, 1652, 1653, 1654, 1655, 1656, 1657, 1658, 1659, 1660, 1661, 1662, 1663, 1664] (by decide +kernel) (by decide +kernel)
set_option maxRecDepth 20000 in
theorem gL_law_X12_dateOf : GoodIn wsL_law (wsV RL 301 RX12 yX12_dateOf wsX12_dateOf) := goodIn_app (goodIn_of _ (by decide +kernel)) ggL_law_X12_dateOf
set_option maxRecDepth 20000 in
theorem ggL_law_L_numberOf : GoodIn wsL_law wsL_numberOf := goodIn_ca (goodIn_r _ [1296, 165, 1297, 1298, 1299, 2, 1300, 53, 1284, 1168, 1169, 1170, 1171, 171, 172, 1172, 1173, 1174, 52, 1175, 1176, 1177, 1178, 1179, 1180, 1181, 1182, 1183, 1184, 1185, 1285, 1254, 1255, 1256, 123, 1249, 1250, 1251, 1252, 1253, 1624, 1625, 1626, 1627, 1628, 1629, 1630, 1631, 1632, 1633, 1634, 1703, 1704, 1705] (by decide +kernel) (by decide +kernel)) (goodIn_sub (fun _ h => List.mem_append_left _ (List.mem_append_left _ (List.mem_append_right _ h))) (by decide +kernel))
set_option maxRecDepth 20000 in
theorem gL_law_L_numberOf : GoodIn wsL_law (va_wsS RL 302 yL_numberOf wsL_numberOf) := goodIn_app (goodIn_of _ (by decide +kernel)) ggL_law_L_numberOf
set_option maxRecDepth 20000 in
theorem ggL_law_X12_numberOf : GoodIn wsL_law wsX12_numberOf := goodIn_r _ [1304, 227, 1210, 1211, 1212, 5, 1213, 1214, 1215, 1216, 1217, 1218, 228, 229, 230, 1219, 1220, 1221, 1222, 1223, 1224, 231, 232, 233, 234, 1225, 1226, 1227, 1269, 1270, 1271, 1272, 1265, 1266, 1267, 1268, 155, 1273, 1274, 1275, 1276, 1209, 156, 157, 1261, 1262, 1263, 1264, 1635, 1636, 1637, 1638, 1639, 1640, 1641, 1642, 1643, 1644, 1645, 1646, 1647, 1648, 1649, 1650, 1651, 1652, 1653, 1654, 1655, 1656, 1657, 1658, 1659, 1660, 1661, 1662, 1663, 1664] (by decide +kernel) (by decide +kernel)
set_option maxRecDepth 20000 in
theorem gL_law_X12_numberOf : GoodIn wsL_law (wsV RL 304 RX12 yX12_numberOf wsX12_numberOf) := goodIn_app (goodIn_of _ (by decide +kernel)) ggL_law_X12_numberOf
set_option maxRecDepth 20000 in
theorem ggL_law_L_nextDay : GoodIn wsL_law wsL_nextDay := goodIn_ca (goodIn_r _ [1307, 165, 1308, 1309, 1310, 2, 1311, 53, 1284, 1312, 864, 209, 865, 1168, 1169, 1170, 1171, 171, 172, 1172, 1173, 1174, 52, 1175, 1176, 1177, 1178, 1179, 1180, 1181, 1182, 1183, 1184, 1185, 1285, 1254, 1255, 1256, 123, 1286, 1200, 1201, 1202, 1203, 1204, 1624, 1625, 1626, 1627, 1628, 1629, 1630, 1631, 1632, 1633, 1634, 1703, 1704, 1705] (by decide +kernel) (by decide +kernel)) (goodIn_sub (fun _ h => List.mem_append_left _ (List.mem_append_left _ (List.mem_append_right _ h))) (by decide +kernel))
set_option maxRecDepth 20000 in
theorem gL_law_L_nextDay : GoodIn wsL_law (va_wsS RL 305 yL_nextDay wsL_nextDay) := goodIn_app (goodIn_of _ (by decide +kernel)) ggL_law_L_nextDay
set_option maxRecDepth 20000 in
theorem ggL_law_X12_nextDay : GoodIn wsL_law wsX12_nextDay := goodIn_r _ [1316, 227, 155, 1210, 1211, 1212, 5, 1213, 1214, 1215, 1216, 1217, 1218, 228, 229, 230, 1219, 1220, 1221, 1222, 1223, 1224, 231, 232, 233, 234, 1225, 1226, 1227, 1269, 1270, 1271, 1272, 1265, 1266, 1267, 1268, 1273, 1274, 1275, 1276, 1209, 156, 157, 1291, 1292, 1293, 1635, 1636, 1637, 1638, 1639, 1640, 1641, 1642, 1643, 1644, 1645, 1646, 1647, 1648, 1649, 1650, 1651, 1652, 1653, 1654, 1655, 1656, 1657, 1658, 1659, 1660, 1661, 1662, 1663, 1664] (by decide +kernel) (by decide +kernel)
set_option maxRecDepth 20000 in
theorem gL_law_X12_nextDay : GoodIn wsL_law (wsV RL 307 RX12 yX12_nextDay wsX12_nextDay) := goodIn_app (goodIn_of _ (by decide +kernel)) ggL_law_X12_nextDay
set_option maxRecDepth 20000 in
theorem ggL_law_L_weekOf : GoodIn wsL_law wsL_weekOf := goodIn_ca (goodIn_r _ [1319, 165, 1320, 1321, 1322, 2, 1323, 53, 1284, 1168, 1169, 1170, 1171, 171, 172, 1172, 1173, 1174, 52, 1175, 1176, 1177, 1178, 1179, 1180, 1181, 1182, 1183, 1184, 1185, 175, 176, 177, 178, 179, 180, 181, 182, 1324, 1325, 1326, 1327, 1328, 1329, 1330, 1331, 1332, 1250, 1251, 1252, 1253, 1254, 1255, 1256, 123, 1249, 1624, 1625, 1626, 1627, 1628, 1629, 1630, 1631, 1632, 1633, 1634, 1703, 1704, 1705] (by decide +kernel) (by decide +kernel)) (goodIn_sub (fun _ h => List.mem_append_left _ (List.mem_append_left _ (List.mem_append_right _ h))) (by decide +kernel))
set_option maxRecDepth 20000 in
theorem gL_law_L_weekOf : GoodIn wsL_law (va_wsS RL 308 yL_weekOf wsL_weekOf) := goodIn_app (goodIn_of _ (by decide +kernel)) ggL_law_L_weekOf
set_option maxRecDepth 20000 in
theorem ggL_law_X12_weekOf : GoodIn wsL_law wsX12_weekOf := goodIn_r _ [1336, 227, 155, 1210, 1211, 1212, 5, 1213, 1214, 1215, 1216, 1217, 1218, 228, 229, 230, 1219, 1220, 1221, 1222, 1223, 1224, 231, 232, 233, 234, 1225, 1226, 1227, 1265, 1266, 1267, 1268, 1337, 1338, 1339, 1340, 1269, 1270, 1271, 1272, 1273, 1274, 1275, 1276, 1209, 156, 157, 1635, 1636, 1637, 1638, 1639, 1640, 1641, 1642, 1643, 1644, 1645, 1646, 1647, 1648, 1649, 1650, 1651, 1652, 1653, 1654, 1655, 1656, 1657, 1658, 1659, 1660, 1661, 1662, 1663, 1664] (by decide +kernel) (by decide +kernel)
set_option maxRecDepth 20000 in
theorem gL_law_X12_weekOf : GoodIn wsL_law (wsV RL 310 RX12 yX12_weekOf wsX12_weekOf) := goodIn_app (goodIn_of _ (by decide +kernel)) ggL_law_X12_weekOf
set_option maxRecDepth 20000 in
theorem ggL_law_L_dayOfWeek : GoodIn wsL_law wsL_dayOfWeek := goodIn_ca (goodIn_r _ [1343, 165, 1344, 1345, 1346, 2, 1347, 53, 1168, 1169, 1170, 1171, 171, 172, 1172, 1173, 1174, 52, 1175, 1176, 1177, 1178, 1179, 1180, 1181, 1182, 1183, 1184, 1185, 1186, 1187, 1188, 1189, 1190, 1191, 1192, 1193, 1624, 1625, 1626, 1627, 1628, 1629, 1630, 1631, 1632, 1633, 1634] (by decide +kernel) (by decide +kernel)) (goodIn_sub (fun _ h => List.mem_append_left _ (List.mem_append_left _ (List.mem_append_right _ h))) (by decide +kernel))
set_option maxRecDepth 20000 in
theorem gL_law_L_dayOfWeek : GoodIn wsL_law (va_wsS RL 311 yL_dayOfWeek wsL_dayOfWeek) := goodIn_app (goodIn_of _ (by decide +kernel)) ggL_law_L_dayOfWeek
set_option maxRecDepth 20000 in
theorem ggL_law_X12_dayOfWeek : GoodIn wsL_law wsX12_dayOfWeek := goodIn_r _ [1351, 227, 1210, 1211, 1212, 5, 1213, 1214, 1215, 1216, 1217, 1218, 228, 229, 230, 1219, 1220, 1221, 1222, 1223, 1224, 231, 232, 233, 234, 1225, 1226, 1227, 1635, 1636, 1637, 1638, 1639, 1640, 1641, 1642, 1643, 1644, 1645, 1646, 1647, 1648, 1649, 1650, 1651, 1652, 1653, 1654, 1655, 1656, 1657, 1658, 1659, 1660, 1661, 1662, 1663, 1664] (by decide +kernel) (by decide +kernel)
set_option maxRecDepth 20000 in
theorem gL_law_X12_dayOfWeek : GoodIn wsL_law (wsV RL 313 RX12 yX12_dayOfWeek wsX12_dayOfWeek) := goodIn_app (goodIn_of _ (by decide +kernel)) ggL_law_X12_dayOfWeek
set_option maxRecDepth 20000 in
theorem ggL_law_L_later : GoodIn wsL_law wsL_later := goodIn_ca (goodIn_r _ [1354, 165, 1355, 1356, 1357, 2, 1358, 53, 1168, 1169, 1170, 1171, 171, 172, 1172, 1173, 1174, 52, 1175, 1176, 1177, 1178, 1179, 1180, 1181, 1182, 1183, 1184, 1185, 179, 180, 181, 182, 1286, 1200, 1201, 1202, 1203, 1204, 1624, 1625, 1626, 1627, 1628, 1629, 1630, 1631, 1632, 1633, 1634] (by decide +kernel) (by decide +kernel)) (goodIn_sub (fun _ h => List.mem_append_left _ (List.mem_append_left _ (List.mem_append_right _ h))) (by decide +kernel))
set_option maxRecDepth 20000 in
theorem gL_law_L_later : GoodIn wsL_law (va_wsS RL 314 yL_later wsL_later) := goodIn_app (goodIn_of _ (by decide +kernel)) ggL_law_L_later
set_option maxRecDepth 20000 in
theorem ggL_law_X12_later : GoodIn wsL_law wsX12_later := goodIn_r _ [1362, 227, 1210, 1211, 1212, 5, 1213, 1214, 1215, 1216, 1217, 1218, 228, 229, 230, 1219, 1220, 1221, 1222, 1223, 1224, 231, 232, 233, 234, 1225, 1226, 1227, 1291, 1292, 1293, 1635, 1636, 1637, 1638, 1639, 1640, 1641, 1642, 1643, 1644, 1645, 1646, 1647, 1648, 1649, 1650, 1651, 1652, 1653, 1654, 1655, 1656, 1657, 1658, 1659, 1660, 1661, 1662, 1663, 1664] (by decide +kernel) (by decide +kernel)
set_option maxRecDepth 20000 in
theorem gL_law_X12_later : GoodIn wsL_law (wsV RL 316 RX12 yX12_later wsX12_later) := goodIn_app (goodIn_of _ (by decide +kernel)) ggL_law_X12_later
set_option maxRecDepth 20000 in
theorem ggL_law_L_lostLessons : GoodIn wsL_law wsL_lostLessons := goodIn_ca (goodIn_ca (goodIn_r _ [1365, 165, 166, 1366, 1367, 1368, 2, 1369, 17, 53, 625, 175, 176, 177, 178, 179, 180, 181, 182, 171, 172, 626, 627, 628, 629, 173, 174, 630, 631, 632, 16, 633, 63, 187, 188, 189, 190, 653, 347, 348, 349, 1370, 1371, 1372, 52, 1373, 123, 1624, 1625, 1626, 1627, 1628, 1629, 1630, 1631, 1632, 1633, 1634, 1665, 1666, 1703, 1704, 1705] (by decide +kernel) (by decide +kernel)) (goodIn_sub (fun _ h => List.mem_append_left _ (List.mem_append_left _ (List.mem_append_right _ h))) (by decide +kernel))) (goodIn_sub (fun _ h => List.mem_append_left _ (List.mem_append_right _ h)) (by decide +kernel))
set_option maxRecDepth 20000 in
theorem gL_law_L_lostLessons : GoodIn wsL_law (va_wsS RL 317 yL_lostLessons wsL_lostLessons) := goodIn_app (goodIn_of _ (by decide +kernel)) ggL_law_L_lostLessons
set_option maxRecDepth 20000 in
theorem ggL_law_X12_lostLessons : GoodIn wsL_law wsX12_lostLessons := goodIn_r _ [1377, 227, 155, 137, 228, 229, 5, 230, 231, 232, 233, 234, 638, 639, 640, 641, 1225, 1226, 1227, 1222, 1223, 1224, 1219, 1220, 1221, 1273, 1274, 1275, 1276, 1209, 156, 157, 235, 236, 237, 238, 1635, 1636, 1637, 1638, 1639, 1640, 1641, 1642, 1643, 1644, 1645, 1646, 1647, 1648, 1649, 1650, 1651, 1652, 1653, 1654, 1655, 1656, 1657, 1658, 1659, 1660, 1661, 1662, 1663, 1664] (by decide +kernel) (by decide +kernel)
set_option maxRecDepth 20000 in
theorem gL_law_X12_lostLessons : GoodIn wsL_law (wsV RL 319 RX12 yX12_lostLessons wsX12_lostLessons) := goodIn_app (goodIn_of _ (by decide +kernel)) ggL_law_X12_lostLessons
set_option maxRecDepth 20000 in
theorem ggL_law_L_append : GoodIn wsL_law wsL_append := goodIn_ca (goodIn_r _ [1380, 166, 1381, 1382, 1383, 2, 1384, 173, 174, 57, 1385, 1386, 1387, 1388, 56, 1389, 1390, 1391, 1392, 1393, 1394, 132, 1624, 1625, 1626, 1627, 1628, 1629, 1630, 1631, 1632, 1633, 1634, 1706, 1707, 1708, 1709, 1710, 1711, 1712, 1713] (by decide +kernel) (by decide +kernel)) (goodIn_sub (fun _ h => List.mem_append_left _ (List.mem_append_right _ h)) (by decide +kernel))
set_option maxRecDepth 20000 in
theorem gL_law_L_append : GoodIn wsL_law (va_wsS RL 320 yL_append wsL_append) := goodIn_app (goodIn_of _ (by decide +kernel)) ggL_law_L_append
set_option maxRecDepth 20000 in
theorem ggL_law_X12_append : GoodIn wsL_law wsX12_append := goodIn_r _ [1398, 227, 1399, 1400, 1401, 5, 1402, 231, 232, 233, 234, 1403, 1404, 1405, 1406, 158, 1635, 1636, 1637, 1638, 1639, 1640, 1641, 1642, 1643, 1644, 1645, 1646, 1647, 1648, 1649, 1650, 1651, 1652, 1653, 1654, 1655, 1656, 1657, 1658, 1659, 1660, 1661, 1662, 1663, 1664] (by decide +kernel) (by decide +kernel)
set_option maxRecDepth 20000 in
theorem gL_law_X12_append : GoodIn wsL_law (wsV RL 323 RX12 yX12_append wsX12_append) := goodIn_app (goodIn_of _ (by decide +kernel)) ggL_law_X12_append
set_option maxRecDepth 20000 in
theorem ggL_law_X11_clearTape : GoodIn wsL_law wsX11_clearTape := goodIn_r _ [1410, 57, 1411, 1412, 1413, 56, 1414, 1394, 1624, 1625, 1626, 1627, 1628, 1629, 1630, 1631, 1632, 1633, 1634, 1706, 1707, 1708, 1709, 1710, 1711, 1712, 1713] (by decide +kernel) (by decide +kernel)
set_option maxRecDepth 20000 in
theorem gL_law_X11_clearTape : GoodIn wsL_law (wsV RL 324 RX11 yX11_clearTape wsX11_clearTape) := goodIn_app (goodIn_of _ (by decide +kernel)) ggL_law_X11_clearTape
set_option maxRecDepth 20000 in
theorem ggL_law_X12_clearTape : GoodIn wsL_law wsX12_clearTape := goodIn_r _ [1418, 227, 1399, 1635, 1636, 1637, 1638, 1639, 1640, 1641, 1642, 1643, 1644, 1645, 1646, 1647, 1648, 1649, 1650, 1651, 1652, 1653, 1654, 1655, 1656, 1657, 1658, 1659, 1660, 1661, 1662, 1663, 1664] (by decide +kernel) (by decide +kernel)
set_option maxRecDepth 20000 in
theorem gL_law_X12_clearTape : GoodIn wsL_law (wsV RL 327 RX12 yX12_clearTape wsX12_clearTape) := goodIn_app (goodIn_of _ (by decide +kernel)) ggL_law_X12_clearTape
set_option maxRecDepth 20000 in
theorem ggL_law_L_read : GoodIn wsL_law wsL_read := goodIn_ca (goodIn_ca (goodIn_r _ [1421, 165, 166, 1422, 1423, 1424, 2, 1425, 171, 172, 173, 174, 57, 17, 25, 1426, 33, 625, 1427, 1428, 1429, 56, 1430, 1431, 131, 1394, 132, 1432, 1433, 1434, 1435, 1436, 1437, 1438, 1439, 1440, 1441, 188, 189, 16, 190, 63, 1442, 1443, 1444, 1445, 128, 1446, 1447, 1448, 1449, 1450, 1451, 1452, 1453, 1454, 1455, 1456, 1457, 1458, 1459, 1460, 1461, 1462, 1463, 1464, 1465, 1466, 1467, 1468, 1469, 1470, 1471, 1472, 1473, 1474, 1475, 1476, 1477, 1478, 1479, 1480, 1481, 1482, 1483, 1484, 1485, 1486, 1487, 1488, 1489, 1490, 1491, 1492, 1493, 1494, 1495, 320, 321, 322, 1411, 1412, 1413, 1414, 713, 446, 447, 448, 267, 268, 269, 270, 275, 276, 277, 278, 685, 450, 451, 24, 452, 453, 454, 455, 456, 457, 458, 81, 73, 74, 72, 459, 460, 75, 76, 77, 78, 79, 80, 461, 462, 463, 464, 465, 466, 467, 468, 469, 470, 471, 472, 473, 474, 475, 476, 347, 348, 349, 1496, 847, 848, 849, 850, 518, 519, 520, 191, 192, 193, 194, 21, 29, 195, 196, 197, 20, 198, 199, 68, 200, 201, 202, 203, 204, 205, 206, 207, 208, 209, 210, 211, 212, 213, 28, 214, 90, 526, 527, 528, 529, 64, 266, 737, 738, 739, 32, 740, 741, 742, 743, 744, 287, 346, 745, 655, 656, 657, 746, 747, 748, 749, 750, 751, 752, 753, 754, 755, 756, 716, 717, 718, 719, 720, 721, 757, 758, 759, 760, 761, 762, 763, 1624, 1625, 1626, 1627, 1628, 1629, 1630, 1631, 1632, 1633, 1634, 1706, 1707, 1708, 1709, 1710, 1711, 1712, 1713, 1665, 1666, 1670, 1671, 1672, 1673, 1674, 1675, 1676, 1677, 1678, 1679, 1680, 1681, 1667, 1668, 1669, 1682, 1683, 1684, 1685, 1686, 1687, 1688, 1689] (by decide +kernel) (by decide +kernel)) (goodIn_sub (fun _ h => List.mem_append_left _ (List.mem_append_left _ (List.mem_append_right _ h))) (by decide +kernel))) (goodIn_sub (fun _ h => List.mem_append_left _ (List.mem_append_right _ h)) (by decide +kernel))
set_option maxRecDepth 20000 in
theorem gL_law_L_read : GoodIn wsL_law (va_wsS RL 328 yL_read wsL_read) := goodIn_app (goodIn_of _ (by decide +kernel)) ggL_law_L_read
set_option maxRecDepth 20000 in
theorem ggL_law_X12_read : GoodIn wsL_law wsX12_read := goodIn_r _ [1500, 227, 140, 159, 1399, 1501, 1502, 1503, 5, 1504, 158, 137, 139, 235, 236, 237, 238, 228, 229, 230, 1505, 1506, 1507, 231, 232, 233, 234, 726, 727, 728, 729, 558, 559, 560, 561, 562, 563, 564, 565, 546, 547, 548, 549, 300, 301, 302, 303, 566, 567, 568, 569, 570, 571, 572, 573, 586, 587, 588, 589, 574, 575, 576, 577, 578, 579, 580, 581, 582, 583, 584, 585, 593, 594, 595, 596, 239, 240, 241, 242, 243, 138, 142, 768, 769, 770, 771, 772, 773, 774, 775, 670, 671, 672, 673, 674, 675, 676, 677, 776, 777, 778, 779, 1635, 1636, 1637, 1638, 1639, 1640, 1641, 1642, 1643, 1644, 1645, 1646, 1647, 1648, 1649, 1650, 1651, 1652, 1653, 1654, 1655, 1656, 1657, 1658, 1659, 1660, 1661, 1662, 1663, 1664] (by decide +kernel) (by decide +kernel)
set_option maxRecDepth 20000 in
theorem gL_law_X12_read : GoodIn wsL_law (wsV RL 330 RX12 yX12_read wsX12_read) := goodIn_app (goodIn_of _ (by decide +kernel)) ggL_law_X12_read
set_option maxRecDepth 20000 in
theorem ggL_law_X11_errorPosition : GoodIn wsL_law wsX11_errorPosition := goodIn_r _ [1511, 57, 1512, 1624, 1625, 1626, 1627, 1628, 1629, 1630, 1631, 1632, 1633, 1634, 1706, 1707, 1708, 1709, 1710, 1711, 1712, 1713] (by decide +kernel) (by decide +kernel)
set_option maxRecDepth 20000 in
theorem gL_law_X11_errorPosition : GoodIn wsL_law (wsV RL 331 RX11 yX11_errorPosition wsX11_errorPosition) := goodIn_app (goodIn_of _ (by decide +kernel)) ggL_law_X11_errorPosition
