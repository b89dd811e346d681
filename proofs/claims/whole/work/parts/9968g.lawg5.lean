set_option maxRecDepth 20000 in
theorem ggL_law_X12_errorPosition : GoodIn wsL_law wsX12_errorPosition := goodIn_r _ [1516, 227, 159, 1635, 1636, 1637, 1638, 1639, 1640, 1641, 1642, 1643, 1644, 1645, 1646, 1647, 1648, 1649, 1650, 1651, 1652, 1653, 1654, 1655, 1656, 1657, 1658, 1659, 1660, 1661, 1662, 1663, 1664] (by decide +kernel) (by decide +kernel)
set_option maxRecDepth 20000 in
theorem gL_law_X12_errorPosition : GoodIn wsL_law (wsV RL 334 RX12 yX12_errorPosition wsX12_errorPosition) := goodIn_app (goodIn_of _ (by decide +kernel)) ggL_law_X12_errorPosition
set_option maxRecDepth 20000 in
theorem ggL_law_L_write : GoodIn wsL_law wsL_write := goodIn_ca (goodIn_r _ [1519, 166, 1520, 1521, 1522, 2, 1523, 57, 17, 626, 627, 628, 629, 173, 174, 630, 631, 632, 16, 633, 63, 1524, 1525, 1526, 56, 1527, 1528, 1529, 130, 1441, 188, 189, 190, 1446, 1447, 1448, 1449, 1450, 1451, 1452, 1453, 1454, 1455, 1456, 1457, 1458, 1459, 1460, 1461, 1462, 1463, 1464, 1465, 1466, 1467, 1468, 1469, 1470, 1471, 1472, 1473, 1474, 1475, 1476, 1477, 1478, 1479, 1480, 1481, 1482, 1483, 1484, 1485, 1486, 1487, 1488, 1489, 1490, 1624, 1625, 1626, 1627, 1628, 1629, 1630, 1631, 1632, 1633, 1634, 1665, 1666, 1706, 1707, 1708, 1709, 1710, 1711, 1712, 1713] (by decide +kernel) (by decide +kernel)) (goodIn_sub (fun _ h => List.mem_append_left _ (List.mem_append_right _ h)) (by decide +kernel))
set_option maxRecDepth 20000 in
theorem gL_law_L_write : GoodIn wsL_law (va_wsS RL 335 yL_write wsL_write) := goodIn_app (goodIn_of _ (by decide +kernel)) ggL_law_L_write
set_option maxRecDepth 20000 in
theorem ggL_law_X12_write : GoodIn wsL_law wsX12_write := goodIn_r _ [1533, 227, 160, 137, 1534, 638, 639, 640, 5, 641, 231, 232, 233, 234, 235, 236, 237, 238, 1535, 1536, 1537, 1635, 1636, 1637, 1638, 1639, 1640, 1641, 1642, 1643, 1644, 1645, 1646, 1647, 1648, 1649, 1650, 1651, 1652, 1653, 1654, 1655, 1656, 1657, 1658, 1659, 1660, 1661, 1662, 1663, 1664] (by decide +kernel) (by decide +kernel)
set_option maxRecDepth 20000 in
theorem gL_law_X12_write : GoodIn wsL_law (wsV RL 337 RX12 yX12_write wsX12_write) := goodIn_app (goodIn_of _ (by decide +kernel)) ggL_law_X12_write
set_option maxRecDepth 20000 in
theorem ggL_law_L_writtenAt : GoodIn wsL_law wsL_writtenAt := goodIn_ca (goodIn_r _ [1540, 251, 1541, 1542, 1543, 2, 1544, 260, 261, 57, 1545, 1546, 1624, 1625, 1626, 1627, 1628, 1629, 1630, 1631, 1632, 1633, 1634, 1706, 1707, 1708, 1709, 1710, 1711, 1712, 1713] (by decide +kernel) (by decide +kernel)) (goodIn_sub (fun _ h => List.mem_append_right _ h) (by decide +kernel))
set_option maxRecDepth 20000 in
theorem gL_law_L_writtenAt : GoodIn wsL_law (va_wsS RL 338 yL_writtenAt wsL_writtenAt) := goodIn_app (goodIn_of _ (by decide +kernel)) ggL_law_L_writtenAt
set_option maxRecDepth 20000 in
theorem ggL_law_X12_writtenAt : GoodIn wsL_law wsX12_writtenAt := goodIn_r _ [1550, 227, 1534, 160, 228, 229, 5, 230, 231, 232, 233, 234, 1635, 1636, 1637, 1638, 1639, 1640, 1641, 1642, 1643, 1644, 1645, 1646, 1647, 1648, 1649, 1650, 1651, 1652, 1653, 1654, 1655, 1656, 1657, 1658, 1659, 1660, 1661, 1662, 1663, 1664] (by decide +kernel) (by decide +kernel)
set_option maxRecDepth 20000 in
theorem gL_law_X12_writtenAt : GoodIn wsL_law (wsV RL 340 RX12 yX12_writtenAt wsX12_writtenAt) := goodIn_app (goodIn_of _ (by decide +kernel)) ggL_law_X12_writtenAt
set_option maxRecDepth 20000 in
theorem ggL_law_X11_undo : GoodIn wsL_law wsX11_undo := goodIn_r _ [1554, 21, 1555, 29, 17, 211, 212, 213, 28, 214, 90, 1556, 1557, 1558, 20, 1559, 200, 206, 68, 199, 201, 202, 203, 204, 205, 1624, 1625, 1626, 1627, 1628, 1629, 1630, 1631, 1632, 1633, 1634, 1667, 1668, 1669, 1682, 1683, 1684, 1685, 1686, 1687, 1688, 1689, 1665, 1666] (by decide +kernel) (by decide +kernel)
set_option maxRecDepth 20000 in
theorem gL_law_X11_undo : GoodIn wsL_law (wsV RL 341 RX11 yX11_undo wsX11_undo) := goodIn_app (goodIn_of _ (by decide +kernel)) ggL_law_X11_undo
set_option maxRecDepth 20000 in
theorem ggL_law_X12_undo : GoodIn wsL_law wsX12_undo := goodIn_r _ [1563, 227, 243, 137, 138, 142, 1635, 1636, 1637, 1638, 1639, 1640, 1641, 1642, 1643, 1644, 1645, 1646, 1647, 1648, 1649, 1650, 1651, 1652, 1653, 1654, 1655, 1656, 1657, 1658, 1659, 1660, 1661, 1662, 1663, 1664] (by decide +kernel) (by decide +kernel)
set_option maxRecDepth 20000 in
theorem gL_law_X12_undo : GoodIn wsL_law (wsV RL 344 RX12 yX12_undo wsX12_undo) := goodIn_app (goodIn_of _ (by decide +kernel)) ggL_law_X12_undo
set_option maxRecDepth 20000 in
theorem ggL_law_X11_checksum : GoodIn wsL_law wsX11_checksum := goodIn_r _ [1567, 17, 625, 630, 631, 632, 16, 633, 63, 187, 188, 189, 190, 1624, 1625, 1626, 1627, 1628, 1629, 1630, 1631, 1632, 1633, 1634, 1665, 1666] (by decide +kernel) (by decide +kernel)
set_option maxRecDepth 20000 in
theorem gL_law_X11_checksum : GoodIn wsL_law (wsV RL 345 RX11 yX11_checksum wsX11_checksum) := goodIn_app (goodIn_of _ (by decide +kernel)) ggL_law_X11_checksum
set_option maxRecDepth 20000 in
theorem ggL_law_X12_checksum : GoodIn wsL_law wsX12_checksum := goodIn_r _ [1571, 227, 137, 235, 236, 237, 5, 238, 1635, 1636, 1637, 1638, 1639, 1640, 1641, 1642, 1643, 1644, 1645, 1646, 1647, 1648, 1649, 1650, 1651, 1652, 1653, 1654, 1655, 1656, 1657, 1658, 1659, 1660, 1661, 1662, 1663, 1664] (by decide +kernel) (by decide +kernel)
set_option maxRecDepth 20000 in
theorem gL_law_X12_checksum : GoodIn wsL_law (wsV RL 348 RX12 yX12_checksum wsX12_checksum) := goodIn_app (goodIn_of _ (by decide +kernel)) ggL_law_X12_checksum
set_option maxRecDepth 20000 in
theorem ggL_law_L_meanSlot : GoodIn wsL_law wsL_meanSlot := goodIn_ca (goodIn_r _ [1574, 166, 1575, 1576, 1577, 2, 1578, 17, 625, 626, 627, 628, 629, 173, 174, 630, 631, 632, 16, 633, 63, 187, 188, 189, 190, 1624, 1625, 1626, 1627, 1628, 1629, 1630, 1631, 1632, 1633, 1634, 1665, 1666] (by decide +kernel) (by decide +kernel)) (goodIn_sub (fun _ h => List.mem_append_left _ (List.mem_append_right _ h)) (by decide +kernel))
set_option maxRecDepth 20000 in
theorem gL_law_L_meanSlot : GoodIn wsL_law (va_wsS RL 349 yL_meanSlot wsL_meanSlot) := goodIn_app (goodIn_of _ (by decide +kernel)) ggL_law_L_meanSlot
set_option maxRecDepth 20000 in
theorem ggL_law_X12_meanSlot : GoodIn wsL_law wsX12_meanSlot := goodIn_r _ [1582, 227, 137, 638, 639, 640, 5, 641, 231, 232, 233, 234, 235, 236, 237, 238, 1635, 1636, 1637, 1638, 1639, 1640, 1641, 1642, 1643, 1644, 1645, 1646, 1647, 1648, 1649, 1650, 1651, 1652, 1653, 1654, 1655, 1656, 1657, 1658, 1659, 1660, 1661, 1662, 1663, 1664] (by decide +kernel) (by decide +kernel)
set_option maxRecDepth 20000 in
theorem gL_law_X12_meanSlot : GoodIn wsL_law (wsV RL 352 RX12 yX12_meanSlot wsX12_meanSlot) := goodIn_app (goodIn_of _ (by decide +kernel)) ggL_law_X12_meanSlot
set_option maxRecDepth 20000 in
theorem ggL_law_L_taken : GoodIn wsL_law wsL_taken := goodIn_ca (goodIn_r _ [1585, 166, 1586, 1587, 1588, 2, 1589, 17, 1590, 626, 627, 628, 629, 173, 174, 630, 631, 632, 16, 633, 63, 187, 188, 189, 190, 319, 320, 321, 322, 1624, 1625, 1626, 1627, 1628, 1629, 1630, 1631, 1632, 1633, 1634, 1665, 1666] (by decide +kernel) (by decide +kernel)) (goodIn_sub (fun _ h => List.mem_append_left _ (List.mem_append_right _ h)) (by decide +kernel))
set_option maxRecDepth 20000 in
theorem gL_law_L_taken : GoodIn wsL_law (va_wsS RL 353 yL_taken wsL_taken) := goodIn_app (goodIn_of _ (by decide +kernel)) ggL_law_L_taken
set_option maxRecDepth 20000 in
theorem ggL_law_X12_taken : GoodIn wsL_law wsX12_taken := goodIn_r _ [1594, 227, 137, 1595, 638, 639, 640, 5, 641, 231, 232, 233, 234, 235, 236, 237, 238, 1635, 1636, 1637, 1638, 1639, 1640, 1641, 1642, 1643, 1644, 1645, 1646, 1647, 1648, 1649, 1650, 1651, 1652, 1653, 1654, 1655, 1656, 1657, 1658, 1659, 1660, 1661, 1662, 1663, 1664] (by decide +kernel) (by decide +kernel)
set_option maxRecDepth 20000 in
theorem gL_law_X12_taken : GoodIn wsL_law (wsV RL 355 RX12 yX12_taken wsX12_taken) := goodIn_app (goodIn_of _ (by decide +kernel)) ggL_law_X12_taken
set_option maxRecDepth 20000 in
theorem ggL_law_X11_errors : GoodIn wsL_law wsX11_errors := goodIn_r _ [1599, 37, 17, 45, 25, 29, 438, 625, 41, 1600, 1601, 1602, 36, 1603, 102, 1604, 889, 890, 891, 892, 860, 861, 862, 863, 864, 209, 865, 866, 867, 868, 869, 870, 188, 189, 16, 190, 63, 871, 347, 348, 349, 893, 894, 895, 896, 897, 320, 321, 322, 898, 899, 900, 901, 902, 903, 904, 905, 906, 907, 908, 909, 1605, 1606, 1607, 44, 1608, 111, 1609, 1057, 1058, 1059, 1060, 1061, 1062, 1063, 1064, 1065, 1066, 1067, 1068, 1069, 1070, 1610, 1104, 1105, 1106, 1107, 716, 717, 718, 719, 720, 721, 1108, 1109, 1110, 1111, 630, 631, 632, 633, 713, 446, 447, 448, 267, 268, 269, 270, 275, 276, 277, 278, 685, 450, 451, 24, 452, 453, 454, 455, 456, 457, 458, 81, 73, 74, 72, 459, 460, 75, 76, 77, 78, 79, 80, 461, 462, 463, 464, 465, 466, 467, 468, 469, 470, 471, 472, 473, 474, 475, 476, 439, 440, 441, 28, 442, 87, 443, 444, 88, 445, 449, 477, 478, 479, 480, 481, 93, 92, 482, 202, 203, 204, 483, 484, 485, 486, 487, 488, 489, 490, 91, 491, 492, 493, 494, 495, 496, 497, 498, 499, 500, 501, 502, 503, 504, 505, 506, 507, 508, 509, 510, 511, 512, 513, 514, 515, 516, 517, 518, 519, 520, 1611, 1612, 1613, 1614, 64, 287, 1496, 847, 848, 849, 850, 1615, 1616, 1617, 40, 1618, 962, 107, 963, 1619, 959, 960, 961, 964, 106, 965, 966, 967, 968, 969, 970, 742, 743, 744, 346, 745, 655, 656, 657, 971, 972, 973, 974, 975, 976, 977, 978, 979, 980, 981, 982, 184, 185, 186, 983, 984, 985, 986, 987, 988, 989, 990, 1624, 1625, 1626, 1627, 1628, 1629, 1630, 1631, 1632, 1633, 1634, 1682, 1683, 1684, 1685, 1686, 1687, 1688, 1689, 1665, 1666, 1693, 1699, 1670, 1671, 1672, 1673, 1674, 1675, 1676, 1677, 1678, 1679, 1680, 1681, 1694, 1695, 1696, 1697, 1698] (by decide +kernel) (by decide +kernel)
set_option maxRecDepth 20000 in
theorem gL_law_X11_errors : GoodIn wsL_law (wsV RL 356 RX11 yX11_errors wsX11_errors) := goodIn_app (goodIn_of _ (by decide +kernel)) ggL_law_X11_errors
set_option maxRecDepth 20000 in
theorem ggL_law_X12_errors : GoodIn wsL_law wsX12_errors := goodIn_r _ [1623, 227, 1635, 1636, 1637, 1638, 1639, 1640, 1641, 1642, 1643, 1644, 1645, 1646, 1647, 1648, 1649, 1650, 1651, 1652, 1653, 1654, 1655, 1656, 1657, 1658, 1659, 1660, 1661, 1662, 1663, 1664] (by decide +kernel) (by decide +kernel)
set_option maxRecDepth 20000 in
theorem gL_law_X12_errors : GoodIn wsL_law (wsV RL 359 RX12 yX12_errors wsX12_errors) := goodIn_app (goodIn_of _ (by decide +kernel)) ggL_law_X12_errors
