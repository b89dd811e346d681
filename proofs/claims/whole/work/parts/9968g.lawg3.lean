set_option maxRecDepth 20000 in
theorem ggL_law_X12_setApart : GoodIn wsL_law wsX12_setApart := goodIn_r _ [1047, 227, 137, 228, 229, 5, 230, 231, 232, 233, 234, 239, 240, 241, 242, 243, 138, 142, 1048, 1049, 1050, 1051, 1635, 1636, 1637, 1638, 1639, 1640, 1641, 1642, 1643, 1644, 1645, 1646, 1647, 1648, 1649, 1650, 1651, 1652, 1653, 1654, 1655, 1656, 1657, 1658, 1659, 1660, 1661, 1662, 1663, 1664] (by decide +kernel) (by decide +kernel)
set_option maxRecDepth 20000 in
theorem gL_law_X12_setApart : GoodIn wsL_law (wsV RL 268 RX12 yX12_setApart wsX12_setApart) := goodIn_app (goodIn_of _ (by decide +kernel)) ggL_law_X12_setApart
set_option maxRecDepth 20000 in
theorem ggL_law_X11_daysNeeded : GoodIn wsL_law wsX11_daysNeeded := goodIn_r _ [1055, 45, 17, 1056, 1057, 1058, 44, 1059, 111, 1060, 1061, 1062, 1063, 864, 209, 865, 1064, 1065, 1066, 1067, 1068, 1069, 16, 1070, 63, 1624, 1625, 1626, 1627, 1628, 1629, 1630, 1631, 1632, 1633, 1634, 1699, 1665, 1666] (by decide +kernel) (by decide +kernel)
set_option maxRecDepth 20000 in
theorem gL_law_X11_daysNeeded : GoodIn wsL_law (wsV RL 269 RX11 yX11_daysNeeded wsX11_daysNeeded) := goodIn_app (goodIn_of _ (by decide +kernel)) ggL_law_X11_daysNeeded
set_option maxRecDepth 20000 in
theorem ggL_law_X12_daysNeeded : GoodIn wsL_law wsX12_daysNeeded := goodIn_r _ [1074, 227, 1075, 1076, 1077, 5, 1078, 1079, 1080, 1081, 1082, 150, 1083, 1084, 1085, 1086, 1048, 1049, 1050, 1051, 137, 1635, 1636, 1637, 1638, 1639, 1640, 1641, 1642, 1643, 1644, 1645, 1646, 1647, 1648, 1649, 1650, 1651, 1652, 1653, 1654, 1655, 1656, 1657, 1658, 1659, 1660, 1661, 1662, 1663, 1664] (by decide +kernel) (by decide +kernel)
set_option maxRecDepth 20000 in
theorem gL_law_X12_daysNeeded : GoodIn wsL_law (wsV RL 272 RX12 yX12_daysNeeded wsX12_daysNeeded) := goodIn_app (goodIn_of _ (by decide +kernel)) ggL_law_X12_daysNeeded
set_option maxRecDepth 20000 in
theorem ggL_law_L_examDay : GoodIn wsL_law wsL_examDay := goodIn_ca (goodIn_r _ [1089, 165, 1090, 1091, 1092, 2, 1093, 45, 17, 1094, 175, 176, 177, 178, 179, 180, 181, 182, 171, 172, 1056, 1057, 1058, 44, 1059, 111, 1060, 1061, 1062, 1063, 864, 209, 865, 1064, 1065, 1066, 1067, 1068, 1069, 16, 1070, 63, 1624, 1625, 1626, 1627, 1628, 1629, 1630, 1631, 1632, 1633, 1634, 1699, 1665, 1666] (by decide +kernel) (by decide +kernel)) (goodIn_sub (fun _ h => List.mem_append_left _ (List.mem_append_left _ (List.mem_append_right _ h))) (by decide +kernel))
set_option maxRecDepth 20000 in
theorem gL_law_L_examDay : GoodIn wsL_law (va_wsS RL 273 yL_examDay wsL_examDay) := goodIn_app (goodIn_of _ (by decide +kernel)) ggL_law_L_examDay
set_option maxRecDepth 20000 in
theorem ggL_law_X12_examDay : GoodIn wsL_law wsX12_examDay := goodIn_r _ [1098, 227, 150, 228, 229, 5, 230, 231, 232, 233, 234, 1075, 1076, 1077, 1078, 1079, 1080, 1081, 1082, 1083, 1084, 1085, 1086, 1048, 1049, 1050, 1051, 137, 1635, 1636, 1637, 1638, 1639, 1640, 1641, 1642, 1643, 1644, 1645, 1646, 1647, 1648, 1649, 1650, 1651, 1652, 1653, 1654, 1655, 1656, 1657, 1658, 1659, 1660, 1661, 1662, 1663, 1664] (by decide +kernel) (by decide +kernel)
set_option maxRecDepth 20000 in
theorem gL_law_X12_examDay : GoodIn wsL_law (wsV RL 275 RX12 yX12_examDay wsX12_examDay) := goodIn_app (goodIn_of _ (by decide +kernel)) ggL_law_X12_examDay
set_option maxRecDepth 20000 in
theorem ggL_law_X11_group : GoodIn wsL_law wsX11_group := goodIn_r _ [1102, 45, 17, 1103, 1104, 1105, 44, 1106, 1107, 716, 717, 718, 719, 720, 721, 1108, 1109, 1110, 1111, 1067, 1068, 1069, 16, 1070, 63, 1624, 1625, 1626, 1627, 1628, 1629, 1630, 1631, 1632, 1633, 1634, 1665, 1666] (by decide +kernel) (by decide +kernel)
set_option maxRecDepth 20000 in
theorem gL_law_X11_group : GoodIn wsL_law (wsV RL 276 RX11 yX11_group wsX11_group) := goodIn_app (goodIn_of _ (by decide +kernel)) ggL_law_X11_group
set_option maxRecDepth 20000 in
theorem ggL_law_X12_group : GoodIn wsL_law wsX12_group := goodIn_r _ [1115, 227, 1048, 1049, 1050, 5, 1051, 137, 1635, 1636, 1637, 1638, 1639, 1640, 1641, 1642, 1643, 1644, 1645, 1646, 1647, 1648, 1649, 1650, 1651, 1652, 1653, 1654, 1655, 1656, 1657, 1658, 1659, 1660, 1661, 1662, 1663, 1664] (by decide +kernel) (by decide +kernel)
set_option maxRecDepth 20000 in
theorem gL_law_X12_group : GoodIn wsL_law (wsV RL 279 RX12 yX12_group wsX12_group) := goodIn_app (goodIn_of _ (by decide +kernel)) ggL_law_X12_group
set_option maxRecDepth 20000 in
theorem ggL_law_L_setBells : GoodIn wsL_law wsL_setBells := goodIn_ca (goodIn_r _ [1118, 165, 1119, 1120, 1121, 2, 1122, 49, 175, 176, 177, 178, 179, 180, 181, 182, 171, 172, 1123, 1124, 1125, 48, 1126, 116, 117, 118, 1127, 1128, 1129, 1130, 1624, 1625, 1626, 1627, 1628, 1629, 1630, 1631, 1632, 1633, 1634, 1700, 1701, 1702] (by decide +kernel) (by decide +kernel)) (goodIn_sub (fun _ h => List.mem_append_left _ (List.mem_append_left _ (List.mem_append_right _ h))) (by decide +kernel))
set_option maxRecDepth 20000 in
theorem gL_law_L_setBells : GoodIn wsL_law (va_wsS RL 280 yL_setBells wsL_setBells) := goodIn_app (goodIn_of _ (by decide +kernel)) ggL_law_L_setBells
set_option maxRecDepth 20000 in
theorem ggL_law_X12_setBells : GoodIn wsL_law wsX12_setBells := goodIn_r _ [1134, 227, 151, 152, 153, 228, 229, 5, 230, 231, 232, 233, 234, 1135, 1136, 1137, 1138, 1635, 1636, 1637, 1638, 1639, 1640, 1641, 1642, 1643, 1644, 1645, 1646, 1647, 1648, 1649, 1650, 1651, 1652, 1653, 1654, 1655, 1656, 1657, 1658, 1659, 1660, 1661, 1662, 1663, 1664] (by decide +kernel) (by decide +kernel)
set_option maxRecDepth 20000 in
theorem gL_law_X12_setBells : GoodIn wsL_law (wsV RL 282 RX12 yX12_setBells wsX12_setBells) := goodIn_app (goodIn_of _ (by decide +kernel)) ggL_law_X12_setBells
set_option maxRecDepth 20000 in
theorem ggL_law_L_bell : GoodIn wsL_law wsL_bell := goodIn_ca (goodIn_r _ [1141, 165, 1142, 1143, 1144, 2, 1145, 49, 175, 176, 177, 178, 179, 180, 181, 182, 171, 172, 1127, 1128, 1129, 48, 1130, 116, 117, 118, 1624, 1625, 1626, 1627, 1628, 1629, 1630, 1631, 1632, 1633, 1634, 1700, 1701, 1702] (by decide +kernel) (by decide +kernel)) (goodIn_sub (fun _ h => List.mem_append_left _ (List.mem_append_left _ (List.mem_append_right _ h))) (by decide +kernel))
set_option maxRecDepth 20000 in
theorem gL_law_L_bell : GoodIn wsL_law (va_wsS RL 283 yL_bell wsL_bell) := goodIn_app (goodIn_of _ (by decide +kernel)) ggL_law_L_bell
set_option maxRecDepth 20000 in
theorem ggL_law_X12_bell : GoodIn wsL_law wsX12_bell := goodIn_r _ [1149, 227, 228, 229, 5, 230, 231, 232, 233, 234, 1135, 1136, 1137, 1138, 151, 152, 153, 1635, 1636, 1637, 1638, 1639, 1640, 1641, 1642, 1643, 1644, 1645, 1646, 1647, 1648, 1649, 1650, 1651, 1652, 1653, 1654, 1655, 1656, 1657, 1658, 1659, 1660, 1661, 1662, 1663, 1664] (by decide +kernel) (by decide +kernel)
set_option maxRecDepth 20000 in
theorem gL_law_X12_bell : GoodIn wsL_law (wsV RL 285 RX12 yX12_bell wsX12_bell) := goodIn_app (goodIn_of _ (by decide +kernel)) ggL_law_X12_bell
set_option maxRecDepth 20000 in
theorem ggL_law_L_slotAt : GoodIn wsL_law wsL_slotAt := goodIn_ca (goodIn_r _ [1152, 165, 1153, 1154, 1155, 2, 1156, 49, 175, 176, 177, 178, 179, 180, 181, 182, 171, 172, 1127, 1128, 1129, 48, 1130, 116, 117, 118, 1624, 1625, 1626, 1627, 1628, 1629, 1630, 1631, 1632, 1633, 1634, 1700, 1701, 1702] (by decide +kernel) (by decide +kernel)) (goodIn_sub (fun _ h => List.mem_append_left _ (List.mem_append_left _ (List.mem_append_right _ h))) (by decide +kernel))
set_option maxRecDepth 20000 in
theorem gL_law_L_slotAt : GoodIn wsL_law (va_wsS RL 286 yL_slotAt wsL_slotAt) := goodIn_app (goodIn_of _ (by decide +kernel)) ggL_law_L_slotAt
set_option maxRecDepth 20000 in
theorem ggL_law_X12_slotAt : GoodIn wsL_law wsX12_slotAt := goodIn_r _ [1160, 227, 228, 229, 5, 230, 231, 232, 233, 234, 1135, 1136, 1137, 1138, 151, 152, 153, 1635, 1636, 1637, 1638, 1639, 1640, 1641, 1642, 1643, 1644, 1645, 1646, 1647, 1648, 1649, 1650, 1651, 1652, 1653, 1654, 1655, 1656, 1657, 1658, 1659, 1660, 1661, 1662, 1663, 1664] (by decide +kernel) (by decide +kernel)
set_option maxRecDepth 20000 in
theorem gL_law_X12_slotAt : GoodIn wsL_law (wsV RL 288 RX12 yX12_slotAt wsX12_slotAt) := goodIn_app (goodIn_of _ (by decide +kernel)) ggL_law_X12_slotAt
set_option maxRecDepth 20000 in
theorem ggL_law_L_setYear : GoodIn wsL_law wsL_setYear := goodIn_ca (goodIn_r _ [1163, 165, 1164, 1165, 1166, 2, 1167, 171, 172, 53, 1168, 1169, 1170, 1171, 1172, 1173, 1174, 52, 1175, 1176, 1177, 1178, 1179, 1180, 1181, 1182, 1183, 1184, 1185, 1186, 1187, 1188, 1189, 1190, 1191, 1192, 1193, 1194, 1195, 1196, 1197, 124, 1198, 123, 1199, 1200, 1201, 1202, 1203, 1204, 1624, 1625, 1626, 1627, 1628, 1629, 1630, 1631, 1632, 1633, 1634, 1703, 1704, 1705] (by decide +kernel) (by decide +kernel)) (goodIn_sub (fun _ h => List.mem_append_left _ (List.mem_append_left _ (List.mem_append_right _ h))) (by decide +kernel))
set_option maxRecDepth 20000 in
theorem gL_law_L_setYear : GoodIn wsL_law (va_wsS RL 289 yL_setYear wsL_setYear) := goodIn_app (goodIn_of _ (by decide +kernel)) ggL_law_L_setYear
set_option maxRecDepth 20000 in
theorem ggL_law_X12_setYear : GoodIn wsL_law wsX12_setYear := goodIn_r _ [1208, 227, 155, 1209, 1210, 1211, 1212, 5, 1213, 1214, 1215, 1216, 1217, 1218, 228, 229, 230, 1219, 1220, 1221, 1222, 1223, 1224, 231, 232, 233, 234, 1225, 1226, 1227, 1635, 1636, 1637, 1638, 1639, 1640, 1641, 1642, 1643, 1644, 1645, 1646, 1647, 1648, 1649, 1650, 1651, 1652, 1653, 1654, 1655, 1656, 1657, 1658, 1659, 1660, 1661, 1662, 1663, 1664] (by decide +kernel) (by decide +kernel)
set_option maxRecDepth 20000 in
theorem gL_law_X12_setYear : GoodIn wsL_law (wsV RL 291 RX12 yX12_setYear wsX12_setYear) := goodIn_app (goodIn_of _ (by decide +kernel)) ggL_law_X12_setYear
set_option maxRecDepth 20000 in
theorem ggL_law_L_holiday : GoodIn wsL_law wsL_holiday := goodIn_ca (goodIn_ca (goodIn_r _ [1230, 165, 166, 1231, 1232, 1233, 2, 1234, 171, 172, 173, 174, 53, 1235, 1168, 1169, 1170, 1171, 1172, 1173, 1174, 52, 1175, 1176, 1177, 1178, 1179, 1180, 1181, 1182, 1183, 1184, 1185, 1236, 1237, 1238, 1239, 124, 1240, 864, 209, 865, 123, 1198, 1624, 1625, 1626, 1627, 1628, 1629, 1630, 1631, 1632, 1633, 1634, 1703, 1704, 1705] (by decide +kernel) (by decide +kernel)) (goodIn_sub (fun _ h => List.mem_append_left _ (List.mem_append_left _ (List.mem_append_right _ h))) (by decide +kernel))) (goodIn_sub (fun _ h => List.mem_append_left _ (List.mem_append_right _ h)) (by decide +kernel))
set_option maxRecDepth 20000 in
theorem gL_law_L_holiday : GoodIn wsL_law (va_wsS RL 292 yL_holiday wsL_holiday) := goodIn_app (goodIn_of _ (by decide +kernel)) ggL_law_L_holiday
set_option maxRecDepth 20000 in
theorem ggL_law_X12_holiday : GoodIn wsL_law wsX12_holiday := goodIn_r _ [1244, 227, 1209, 156, 157, 1210, 1211, 1212, 5, 1213, 1214, 1215, 1216, 1217, 1218, 228, 229, 230, 1219, 1220, 1221, 1222, 1223, 1224, 231, 232, 233, 234, 1225, 1226, 1227, 1635, 1636, 1637, 1638, 1639, 1640, 1641, 1642, 1643, 1644, 1645, 1646, 1647, 1648, 1649, 1650, 1651, 1652, 1653, 1654, 1655, 1656, 1657, 1658, 1659, 1660, 1661, 1662, 1663, 1664] (by decide +kernel) (by decide +kernel)
set_option maxRecDepth 20000 in
theorem gL_law_X12_holiday : GoodIn wsL_law (wsV RL 294 RX12 yX12_holiday wsX12_holiday) := goodIn_app (goodIn_of _ (by decide +kernel)) ggL_law_X12_holiday
set_option maxRecDepth 20000 in
theorem ggL_law_X11_schoolDays : GoodIn wsL_law wsX11_schoolDays := goodIn_r _ [1248, 53, 1249, 1250, 1251, 52, 1252, 1253, 1254, 1255, 1256, 123, 1624, 1625, 1626, 1627, 1628, 1629, 1630, 1631, 1632, 1633, 1634, 1703, 1704, 1705] (by decide +kernel) (by decide +kernel)
set_option maxRecDepth 20000 in
theorem gL_law_X11_schoolDays : GoodIn wsL_law (wsV RL 295 RX11 yX11_schoolDays wsX11_schoolDays) := goodIn_app (goodIn_of _ (by decide +kernel)) ggL_law_X11_schoolDays
set_option maxRecDepth 20000 in
theorem ggL_law_X12_schoolDays : GoodIn wsL_law wsX12_schoolDays := goodIn_r _ [1260, 227, 155, 1225, 1226, 5, 1227, 1222, 1223, 1224, 1219, 1220, 1221, 1261, 1262, 1263, 1264, 1265, 1266, 1267, 1268, 228, 229, 230, 1269, 1270, 1271, 1272, 1273, 1274, 1275, 1276, 1209, 156, 157, 1635, 1636, 1637, 1638, 1639, 1640, 1641, 1642, 1643, 1644, 1645, 1646, 1647, 1648, 1649, 1650, 1651, 1652, 1653, 1654, 1655, 1656, 1657, 1658, 1659, 1660, 1661, 1662, 1663, 1664] (by decide +kernel) (by decide +kernel)
set_option maxRecDepth 20000 in
theorem gL_law_X12_schoolDays : GoodIn wsL_law (wsV RL 298 RX12 yX12_schoolDays wsX12_schoolDays) := goodIn_app (goodIn_of _ (by decide +kernel)) ggL_law_X12_schoolDays
set_option maxRecDepth 20000 in
theorem ggL_law_L_dateOf : GoodIn wsL_law wsL_dateOf := goodIn_ca (goodIn_r _ [1279, 251, 1280, 1281, 1282, 2, 1283, 260, 261, 53, 1284, 1285, 1254, 1255, 52, 1256, 123, 1286, 1200, 1201, 1202, 1185, 1184, 1203, 1204, 1624, 1625, 1626, 1627, 1628, 1629, 1630, 1631, 1632, 1633, 1634, 1703, 1704, 1705] (by decide +kernel) (by decide +kernel)) (goodIn_sub (fun _ h => List.mem_append_right _ h) (by decide +kernel))
set_option maxRecDepth 20000 in
theorem gL_law_L_dateOf : GoodIn wsL_law (va_wsS RL 299 yL_dateOf wsL_dateOf) := goodIn_app (goodIn_of _ (by decide +kernel)) ggL_law_L_dateOf
