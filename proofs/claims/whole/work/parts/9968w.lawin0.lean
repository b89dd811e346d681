set_option maxRecDepth 20000 in
theorem wl_wsL_law0_r1 : GoodIn lw_tbl wsL_law0_r1 := goodIn_r _ [120, 121, 94, 1456, 1457, 106, 2039, 2040, 122, 123, 124, 125, 126, 127, 128, 129, 95, 387, 148, 149, 96, 388, 165, 166] (by decide +kernel) (by decide +kernel)
set_option maxRecDepth 20000 in
theorem wl_wsL_law0_r2 : GoodIn lw_tbl wsL_law0_r2 := goodIn_r _ [97, 389, 214, 215, 98, 390, 250, 251, 99, 391, 267, 268, 100, 392, 278, 279, 101, 393, 304, 305, 102, 394, 315, 316] (by decide +kernel) (by decide +kernel)
set_option maxRecDepth 20000 in
theorem wl_wsL_law0_r3 : GoodIn lw_tbl wsL_law0_r3 := goodIn_r _ [103, 395, 331, 332, 104, 396, 350, 351, 105, 397, 130, 131, 132, 133, 147, 134, 136, 151, 152, 153, 154, 168, 169, 170] (by decide +kernel) (by decide +kernel)
set_option maxRecDepth 20000 in
theorem wl_wsL_law0_r4 : GoodIn lw_tbl wsL_law0_r4 := goodIn_r _ [174, 176, 177, 178, 179, 181, 182, 184, 186, 187, 188, 217, 218, 219, 220, 222, 223, 225, 227, 229, 230, 231, 253, 254] (by decide +kernel) (by decide +kernel)
set_option maxRecDepth 20000 in
theorem wl_wsL_law0_r5 : GoodIn lw_tbl wsL_law0_r5 := goodIn_r _ [255, 256, 258, 270, 271, 272, 273, 281, 282, 283, 284, 292, 307, 308, 309, 310, 317, 318, 319, 320, 321, 322, 323, 334] (by decide +kernel) (by decide +kernel)
set_option maxRecDepth 20000 in
theorem wl_wsL_law0_r6 : GoodIn lw_tbl wsL_law0_r6 := goodIn_r _ [335, 336, 349, 337, 338, 353, 354, 355, 356, 386, 358, 362, 366, 1458, 1459, 1460, 1461, 1464, 1465, 1467, 1468, 1469, 1470, 1471] (by decide +kernel) (by decide +kernel)
set_option maxRecDepth 20000 in
theorem wl_wsL_law0_r7 : GoodIn lw_tbl wsL_law0_r7 := goodIn_r _ [1472, 1473, 1474, 1475, 1476, 1477, 1480, 1481, 1482, 1483, 1462, 1484, 1486, 1487, 1488, 1490, 1491, 745, 746, 93, 747, 748, 749, 750] (by decide +kernel) (by decide +kernel)
set_option maxRecDepth 20000 in
theorem wl_wsL_law0_r8 : GoodIn lw_tbl wsL_law0_r8 := goodIn_r _ [751, 752, 753, 762, 110, 832, 111, 754, 756, 18, 757, 758, 760, 19, 761, 830, 734, 735, 736, 425, 426, 427, 428, 534] (by decide +kernel) (by decide +kernel)
set_option maxRecDepth 20000 in
theorem wl_wsL_law0_r9 : GoodIn lw_tbl wsL_law0_r9 := goodIn_r _ [536, 8, 537, 538, 539, 540, 541, 135, 155, 542, 528, 527, 112, 137, 156, 543, 544, 113, 545, 546, 547, 548, 549, 848] (by decide +kernel) (by decide +kernel)
set_option maxRecDepth 20000 in
theorem wl_wsL_law0_r10 : GoodIn lw_tbl wsL_law0_r10 := goodIn_r _ [849, 850, 851, 852, 853, 854, 855, 1558, 1559, 1560, 1561, 1463, 1562, 1563, 1564, 1565, 1567, 36, 1568, 1569, 1571, 37, 1572, 1573] (by decide +kernel) (by decide +kernel)
set_option maxRecDepth 20000 in
theorem wl_wsL_law0_r11 : GoodIn lw_tbl wsL_law0_r11 := goodIn_r _ [1575, 38, 1576, 1466, 1452, 1453, 1454, 1455, 856, 857, 858, 859, 860, 861, 862, 863, 864, 866, 21, 867, 868, 114, 884, 885] (by decide +kernel) (by decide +kernel)
set_option maxRecDepth 20000 in
theorem wl_wsL_law0_r12 : GoodIn lw_tbl wsL_law0_r12 := goodIn_r _ [886, 887, 554, 449, 434, 435, 436, 888, 889, 890, 891, 450, 451, 452, 453, 892, 893, 894, 895, 896, 897, 898, 899, 695] (by decide +kernel) (by decide +kernel)
set_option maxRecDepth 20000 in
theorem wl_wsL_law0_r13 : GoodIn lw_tbl wsL_law0_r13 := goodIn_r _ [1577, 1578, 1579, 1580, 1581, 1583, 39, 1584, 1585, 1587, 40, 1588, 1589, 1591, 41, 1592, 1593, 1595, 42, 1596, 1597, 1599, 43, 1600] (by decide +kernel) (by decide +kernel)
set_option maxRecDepth 20000 in
theorem wl_wsL_law0_r14 : GoodIn lw_tbl wsL_law0_r14 := goodIn_r _ [900, 901, 902, 903, 904, 905, 906, 907, 464, 465, 466, 1601, 1602, 1603, 1604, 421, 422, 423, 424, 1605, 1606, 1607, 1608, 908] (by decide +kernel) (by decide +kernel)
set_option maxRecDepth 20000 in
theorem wl_wsL_law0_r15 : GoodIn lw_tbl wsL_law0_r15 := goodIn_r _ [909, 910, 911, 912, 913, 914, 915, 916, 917, 918, 717, 484, 485, 486, 919, 921, 922, 923, 924, 1609, 1610, 1611, 1612, 1613] (by decide +kernel) (by decide +kernel)
set_option maxRecDepth 20000 in
theorem wl_wsL_law0_r16 : GoodIn lw_tbl wsL_law0_r16 := goodIn_r _ [1615, 44, 1616, 925, 926, 927, 928, 929, 930, 931, 932, 933, 934, 935, 1617, 1618, 1619, 1620, 936, 937, 938, 939, 940, 941] (by decide +kernel) (by decide +kernel)
set_option maxRecDepth 20000 in
theorem wl_wsL_law0_r17 : GoodIn lw_tbl wsL_law0_r17 := goodIn_r _ [942, 433, 945, 946, 947, 948, 1621, 1622, 1623, 1624, 949, 950, 951, 952, 953, 954, 955, 956, 958, 22, 959, 961, 1625, 1626] (by decide +kernel) (by decide +kernel)
set_option maxRecDepth 20000 in
theorem wl_wsL_law0_r18 : GoodIn lw_tbl wsL_law0_r18 := goodIn_r _ [1627, 1628, 1629, 1631, 45, 1632, 962, 963, 964, 965, 966, 967, 968, 969, 1633, 1634, 1635, 1636, 429, 430, 431, 432, 1637, 1638] (by decide +kernel) (by decide +kernel)
set_option maxRecDepth 20000 in
theorem wl_wsL_law0_r19 : GoodIn lw_tbl wsL_law0_r19 := goodIn_r _ [1639, 1640, 437, 438, 439, 440, 224, 441, 442, 443, 444, 172, 175, 445, 446, 447, 448, 454, 455, 456, 457, 171, 458, 459] (by decide +kernel) (by decide +kernel)
set_option maxRecDepth 20000 in
theorem wl_wsL_law0_r20 : GoodIn lw_tbl wsL_law0_r20 := goodIn_r _ [460, 461, 462, 471, 472, 463, 467, 468, 469, 470, 473, 474, 475, 476, 477, 478, 479, 480, 481, 482, 483, 487, 489, 0] (by decide +kernel) (by decide +kernel)
set_option maxRecDepth 20000 in
theorem wl_wsL_law0_r21 : GoodIn lw_tbl wsL_law0_r21 := goodIn_r _ [490, 232, 526, 491, 493, 1, 494, 495, 497, 2, 498, 499, 501, 3, 518, 520, 6, 521, 502, 503, 505, 4, 522, 524] (by decide +kernel) (by decide +kernel)
set_option maxRecDepth 20000 in
theorem wl_wsL_law0_r22 : GoodIn lw_tbl wsL_law0_r22 := goodIn_r _ [7, 525, 185, 180, 506, 507, 509, 5, 510, 183, 511, 512, 513, 514, 515, 516, 517, 529, 530, 531, 532, 533, 550, 551] (by decide +kernel) (by decide +kernel)
set_option maxRecDepth 20000 in
theorem wl_wsL_law0_r23 : GoodIn lw_tbl wsL_law0_r23 := goodIn_r _ [552, 553, 1641, 1642, 1643, 1644, 1645, 1647, 46, 1648, 1649, 1651, 47, 1652, 1653, 1655, 48, 1656, 1657, 1659, 49, 1660, 1661, 1663] (by decide +kernel) (by decide +kernel)
