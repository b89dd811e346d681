set_option maxRecDepth 20000 in
theorem wl_wsL_law0_r24 : GoodIn lw_tbl wsL_law0_r24 := goodIn_r _ [50, 1664, 1665, 1667, 51, 1668, 1669, 1671, 52, 1672, 1673, 1675, 53, 1676, 1677, 1679, 54, 1680, 1681, 1683, 55, 1684, 1685, 1687] (by decide +kernel) (by decide +kernel)
set_option maxRecDepth 20000 in
theorem wl_wsL_law0_r25 : GoodIn lw_tbl wsL_law0_r25 := goodIn_r _ [56, 1688, 1689, 1691, 57, 1692, 1693, 1695, 58, 1696, 1697, 1699, 59, 1700, 1701, 1702, 1703, 1704, 1706, 60, 1707, 555, 556, 557] (by decide +kernel) (by decide +kernel)
set_option maxRecDepth 20000 in
theorem wl_wsL_law0_r26 : GoodIn lw_tbl wsL_law0_r26 := goodIn_r _ [558, 228, 1708, 1709, 1710, 1711, 970, 971, 972, 973, 974, 975, 976, 226, 1712, 1713, 1714, 1715, 978, 979, 980, 981, 982, 983] (by decide +kernel) (by decide +kernel)
set_option maxRecDepth 20000 in
theorem wl_wsL_law0_r27 : GoodIn lw_tbl wsL_law0_r27 := goodIn_r _ [984, 141, 985, 987, 23, 988, 649, 650, 651, 652, 1716, 1717, 1718, 1719, 1720, 1722, 61, 1723, 990, 991, 992, 993, 994, 995] (by decide +kernel) (by decide +kernel)
set_option maxRecDepth 20000 in
theorem wl_wsL_law0_r28 : GoodIn lw_tbl wsL_law0_r28 := goodIn_r _ [996, 997, 999, 24, 1000, 1001, 1002, 719, 720, 721, 1724, 1725, 1726, 1727, 1728, 1730, 62, 1731, 1732, 1734, 63, 1735, 1736, 1738] (by decide +kernel) (by decide +kernel)
set_option maxRecDepth 20000 in
theorem wl_wsL_law0_r29 : GoodIn lw_tbl wsL_law0_r29 := goodIn_r _ [64, 1739, 1740, 1742, 65, 1743, 1003, 1004, 1005, 1006, 1007, 1008, 1009, 690, 1010, 1011, 1012, 1013, 1014, 1015, 1016, 1017, 1744, 1745] (by decide +kernel) (by decide +kernel)
set_option maxRecDepth 20000 in
theorem wl_wsL_law0_r30 : GoodIn lw_tbl wsL_law0_r30 := goodIn_r _ [1746, 1747, 1748, 1750, 66, 1751, 1752, 1754, 67, 1755, 1018, 1019, 1020, 1021, 1022, 1023, 1024, 689, 1025, 1026, 604, 115, 605, 606] (by decide +kernel) (by decide +kernel)
set_option maxRecDepth 20000 in
theorem wl_wsL_law0_r31 : GoodIn lw_tbl wsL_law0_r31 := goodIn_r _ [607, 608, 1756, 1757, 1758, 1759, 1760, 1762, 68, 1763, 1027, 1028, 1029, 1030, 1031, 1032, 1033, 1035, 1036, 1037, 1038, 1039, 714, 715] (by decide +kernel) (by decide +kernel)
set_option maxRecDepth 20000 in
theorem wl_wsL_law0_r32 : GoodIn lw_tbl wsL_law0_r32 := goodIn_r _ [716, 718, 1040, 1041, 1042, 1043, 1044, 1045, 1046, 1047, 1048, 1049, 1050, 1051, 1052, 1053, 1054, 1055, 1056, 1057, 1764, 1765, 1766, 1767] (by decide +kernel) (by decide +kernel)
set_option maxRecDepth 20000 in
theorem wl_wsL_law0_r33 : GoodIn lw_tbl wsL_law0_r33 := goodIn_r _ [1768, 1770, 69, 1771, 1772, 1774, 70, 1775, 1776, 1778, 71, 1779, 1058, 1059, 1060, 1061, 1062, 1063, 1064, 1065, 1780, 1781, 1782, 1783] (by decide +kernel) (by decide +kernel)
set_option maxRecDepth 20000 in
theorem wl_wsL_law0_r34 : GoodIn lw_tbl wsL_law0_r34 := goodIn_r _ [1066, 1067, 1068, 1069, 1070, 1071, 1072, 1784, 1785, 1786, 1787, 1073, 1074, 1075, 1076, 1077, 1078, 1079, 1080, 1081, 1788, 1789, 1790, 1791] (by decide +kernel) (by decide +kernel)
set_option maxRecDepth 20000 in
theorem wl_wsL_law0_r35 : GoodIn lw_tbl wsL_law0_r35 := goodIn_r _ [1082, 1083, 1084, 1085, 1086, 1087, 1088, 257, 1089, 1090, 1091, 1092, 139, 259, 1094, 173, 1093, 1095, 1097, 25, 1098, 1099, 1100, 1102] (by decide +kernel) (by decide +kernel)
set_option maxRecDepth 20000 in
theorem wl_wsL_law0_r36 : GoodIn lw_tbl wsL_law0_r36 := goodIn_r _ [26, 1103, 1104, 1106, 27, 1107, 1108, 697, 698, 699, 700, 1792, 1793, 1794, 1795, 559, 560, 561, 562, 563, 564, 565, 566, 573] (by decide +kernel) (by decide +kernel)
set_option maxRecDepth 20000 in
theorem wl_wsL_law0_r37 : GoodIn lw_tbl wsL_law0_r37 := goodIn_r _ [574, 575, 567, 569, 9, 570, 571, 572, 1796, 1797, 1798, 1799, 1800, 1802, 72, 1803, 1109, 1110, 1111, 1112, 1113, 1114, 1115, 274] (by decide +kernel) (by decide +kernel)
set_option maxRecDepth 20000 in
theorem wl_wsL_law0_r38 : GoodIn lw_tbl wsL_law0_r38 := goodIn_r _ [1116, 662, 663, 664, 665, 666, 668, 11, 669, 670, 671, 673, 12, 674, 675, 677, 13, 678, 679, 681, 14, 682, 1804, 1805] (by decide +kernel) (by decide +kernel)
set_option maxRecDepth 20000 in
theorem wl_wsL_law0_r39 : GoodIn lw_tbl wsL_law0_r39 := goodIn_r _ [1806, 1807, 1808, 1810, 73, 1811, 1812, 1814, 74, 1815, 1816, 1818, 75, 1819, 1117, 1118, 1119, 1120, 1121, 1122, 1123, 1124, 1125, 1126] (by decide +kernel) (by decide +kernel)
set_option maxRecDepth 20000 in
theorem wl_wsL_law0_r40 : GoodIn lw_tbl wsL_law0_r40 := goodIn_r _ [1127, 1128, 1129, 1130, 1131, 1820, 1821, 1822, 1823, 1824, 1826, 76, 1827, 1132, 1133, 1134, 1135, 1136, 1137, 1138, 289, 287, 1139, 706] (by decide +kernel) (by decide +kernel)
set_option maxRecDepth 20000 in
theorem wl_wsL_law0_r41 : GoodIn lw_tbl wsL_law0_r41 := goodIn_r _ [707, 708, 288, 290, 286, 709, 711, 15, 712, 138, 713, 722, 723, 724, 725, 726, 727, 728, 729, 731, 16, 732, 733, 737] (by decide +kernel) (by decide +kernel)
set_option maxRecDepth 20000 in
theorem wl_wsL_law0_r42 : GoodIn lw_tbl wsL_law0_r42 := goodIn_r _ [738, 739, 740, 741, 743, 17, 744, 1828, 1829, 1830, 1831, 1478, 1479, 1832, 1834, 77, 1835, 1836, 1838, 78, 1839, 1840, 1842, 79] (by decide +kernel) (by decide +kernel)
set_option maxRecDepth 20000 in
theorem wl_wsL_law0_r43 : GoodIn lw_tbl wsL_law0_r43 := goodIn_r _ [1843, 1140, 1141, 1142, 1143, 1144, 1145, 1146, 285, 1844, 1845, 1846, 1847, 1147, 1148, 1149, 1150, 1151, 1152, 1153, 291, 1848, 1849, 1850] (by decide +kernel) (by decide +kernel)
set_option maxRecDepth 20000 in
theorem wl_wsL_law0_r44 : GoodIn lw_tbl wsL_law0_r44 := goodIn_r _ [1851, 1154, 1155, 1156, 1157, 1158, 1159, 1160, 1162, 1163, 1164, 1165, 1852, 1853, 1854, 1855, 1856, 1858, 80, 1859, 576, 577, 578, 579] (by decide +kernel) (by decide +kernel)
set_option maxRecDepth 20000 in
theorem wl_wsL_law0_r45 : GoodIn lw_tbl wsL_law0_r45 := goodIn_r _ [580, 581, 582, 583, 584, 585, 586, 594, 587, 588, 589, 590, 591, 592, 593, 1860, 1861, 1862, 1863, 1864, 1866, 81, 1867, 1868] (by decide +kernel) (by decide +kernel)
set_option maxRecDepth 20000 in
theorem wl_wsL_law0_r46 : GoodIn lw_tbl wsL_law0_r46 := goodIn_r _ [1870, 82, 1871, 1872, 1874, 83, 1875, 1166, 1167, 1168, 1169, 1170, 1171, 1172, 311, 1876, 1877, 1878, 1879, 595, 596, 597, 598, 599] (by decide +kernel) (by decide +kernel)
