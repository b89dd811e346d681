set_option maxRecDepth 20000 in
theorem ggL_law_X11_init : GoodIn wsL_law wsX11_init := goodIn_r _ [10, 11, 12, 13, 14, 15, 16, 17, 18, 19, 20, 21, 22, 23, 24, 25, 26, 27, 28, 29, 30, 31, 32, 33, 34, 35, 36, 37, 38, 39, 40, 41, 42, 43, 44, 45, 46, 47, 48, 49, 50, 51, 52, 53, 54, 55, 56, 57, 58, 59, 60, 61, 62, 63, 64, 65, 66, 67, 68, 69, 70, 71, 72, 73, 74, 75, 76, 77, 78, 79, 80, 81, 82, 83, 84, 85, 86, 87, 88, 89, 90, 91, 92, 93, 94, 95, 96, 97, 98, 99, 100, 101, 102, 103, 104, 105, 106, 107, 108, 109, 110, 111, 112, 113, 114, 115, 116, 117, 118, 119, 120, 121, 122, 123, 124, 125, 126, 127, 128, 129, 130, 131, 132, 1665, 1666, 1624, 1625, 1626, 1627, 1628, 1629, 1630, 1631, 1632, 1633, 1634, 1667, 1668, 1669, 1670, 1671, 1672, 1673, 1674, 1675, 1676, 1677, 1678, 1679, 1680, 1681, 1682, 1683, 1684, 1685, 1686, 1687, 1688, 1689, 1690, 1691, 1692, 1693, 1694, 1695, 1696, 1697, 1698, 1699, 1700, 1701, 1702, 1703, 1704, 1705, 1706, 1707, 1708, 1709, 1710, 1711, 1712, 1713] (by decide +kernel) (by decide +kernel)
set_option maxRecDepth 20000 in
theorem gL_law_X11_init : GoodIn wsL_law (wsX11_init) := ggL_law_X11_init
set_option maxRecDepth 20000 in
theorem ggL_law_X12_init : GoodIn wsL_law wsX12_init := goodIn_r _ [135, 136, 12, 13, 62, 137, 138, 139, 122, 140, 141, 142, 143, 144, 145, 146, 147, 148, 149, 150, 151, 152, 153, 154, 155, 156, 157, 158, 159, 160, 1635, 1636, 1637, 1638, 1639, 1640, 1641, 1642, 1643, 1644, 1645, 1646, 1647, 1648, 1649, 1650, 1651, 1652, 1653, 1654, 1655, 1656, 1657, 1658, 1659, 1660, 1661, 1662, 1663, 1664] (by decide +kernel) (by decide +kernel)
set_option maxRecDepth 20000 in
theorem gL_law_X12_init : GoodIn wsL_law (wsX12_init) := ggL_law_X12_init
set_option maxRecDepth 20000 in
theorem ggL_law_L_lesson : GoodIn wsL_law wsL_lesson := goodIn_ca (goodIn_ca (goodIn_r _ [164, 165, 166, 167, 168, 169, 2, 170, 171, 172, 173, 174, 17, 175, 176, 177, 178, 179, 180, 181, 182, 183, 184, 185, 16, 186, 63, 187, 188, 189, 190, 191, 192, 193, 194, 21, 29, 195, 196, 197, 20, 198, 199, 68, 200, 201, 202, 203, 204, 205, 206, 207, 208, 209, 210, 211, 212, 213, 28, 214, 90, 215, 216, 217, 218, 219, 220, 221, 222, 1624, 1625, 1626, 1627, 1628, 1629, 1630, 1631, 1632, 1633, 1634, 1665, 1666, 1667, 1668, 1669, 1682, 1683, 1684, 1685, 1686, 1687, 1688, 1689] (by decide +kernel) (by decide +kernel)) (goodIn_sub (fun _ h => List.mem_append_left _ (List.mem_append_left _ (List.mem_append_right _ h))) (by decide +kernel))) (goodIn_sub (fun _ h => List.mem_append_left _ (List.mem_append_right _ h)) (by decide +kernel))
set_option maxRecDepth 20000 in
theorem gL_law_L_lesson : GoodIn wsL_law (va_wsS RL 162 yL_lesson wsL_lesson) := goodIn_app (goodIn_of _ (by decide +kernel)) ggL_law_L_lesson
set_option maxRecDepth 20000 in
theorem ggL_law_X12_lesson : GoodIn wsL_law wsX12_lesson := goodIn_r _ [226, 227, 137, 228, 229, 5, 230, 231, 232, 233, 234, 235, 236, 237, 238, 239, 240, 241, 242, 243, 138, 142, 1635, 1636, 1637, 1638, 1639, 1640, 1641, 1642, 1643, 1644, 1645, 1646, 1647, 1648, 1649, 1650, 1651, 1652, 1653, 1654, 1655, 1656, 1657, 1658, 1659, 1660, 1661, 1662, 1663, 1664] (by decide +kernel) (by decide +kernel)
set_option maxRecDepth 20000 in
theorem gL_law_X12_lesson : GoodIn wsL_law (wsV RL 167 RX12 yX12_lesson wsX12_lesson) := goodIn_app (goodIn_of _ (by decide +kernel)) ggL_law_X12_lesson
set_option maxRecDepth 20000 in
theorem ggL_law_X12_thrown : GoodIn wsL_law wsX12_thrown := goodIn_r _ [247, 227, 1635, 1636, 1637, 1638, 1639, 1640, 1641, 1642, 1643, 1644, 1645, 1646, 1647, 1648, 1649, 1650, 1651, 1652, 1653, 1654, 1655, 1656, 1657, 1658, 1659, 1660, 1661, 1662, 1663, 1664] (by decide +kernel) (by decide +kernel)
set_option maxRecDepth 20000 in
theorem gL_law_X12_thrown : GoodIn wsL_law (wsV RL 168 RX12 yX12_thrown wsX12_thrown) := goodIn_app (goodIn_of _ (by decide +kernel)) ggL_law_X12_thrown
set_option maxRecDepth 20000 in
theorem ggL_law_L_dropLesson : GoodIn wsL_law wsL_dropLesson := goodIn_ca (goodIn_r _ [250, 251, 252, 253, 254, 2, 255, 17, 256, 257, 258, 259, 260, 261, 187, 188, 189, 16, 190, 63, 191, 192, 193, 194, 21, 29, 195, 196, 197, 20, 198, 199, 68, 200, 201, 202, 203, 204, 205, 206, 207, 208, 209, 210, 211, 212, 213, 28, 214, 90, 215, 216, 217, 218, 262, 263, 264, 265, 266, 267, 268, 269, 270, 271, 272, 273, 274, 275, 276, 277, 278, 279, 280, 281, 282, 283, 284, 285, 286, 287, 1624, 1625, 1626, 1627, 1628, 1629, 1630, 1631, 1632, 1633, 1634, 1665, 1666, 1667, 1668, 1669, 1682, 1683, 1684, 1685, 1686, 1687, 1688, 1689] (by decide +kernel) (by decide +kernel)) (goodIn_sub (fun _ h => List.mem_append_right _ h) (by decide +kernel))
set_option maxRecDepth 20000 in
theorem gL_law_L_dropLesson : GoodIn wsL_law (va_wsS RL 171 yL_dropLesson wsL_dropLesson) := goodIn_app (goodIn_of _ (by decide +kernel)) ggL_law_L_dropLesson
set_option maxRecDepth 20000 in
theorem ggL_law_X12_dropLesson : GoodIn wsL_law wsX12_dropLesson := goodIn_r _ [291, 227, 137, 292, 293, 294, 5, 295, 235, 236, 237, 238, 228, 229, 230, 231, 232, 233, 234, 239, 240, 241, 242, 243, 138, 142, 296, 297, 298, 299, 300, 301, 302, 303, 304, 305, 306, 307, 308, 309, 310, 311, 1635, 1636, 1637, 1638, 1639, 1640, 1641, 1642, 1643, 1644, 1645, 1646, 1647, 1648, 1649, 1650, 1651, 1652, 1653, 1654, 1655, 1656, 1657, 1658, 1659, 1660, 1661, 1662, 1663, 1664] (by decide +kernel) (by decide +kernel)
set_option maxRecDepth 20000 in
theorem gL_law_X12_dropLesson : GoodIn wsL_law (wsV RL 174 RX12 yX12_dropLesson wsX12_dropLesson) := goodIn_app (goodIn_of _ (by decide +kernel)) ggL_law_X12_dropLesson
set_option maxRecDepth 20000 in
theorem ggL_law_L_lessonOf : GoodIn wsL_law wsL_lessonOf := goodIn_ca (goodIn_ca (goodIn_r _ [314, 251, 165, 315, 316, 317, 2, 318, 17, 256, 257, 258, 259, 260, 261, 187, 188, 189, 16, 190, 63, 175, 176, 177, 178, 179, 180, 181, 182, 171, 172, 319, 320, 321, 322, 1624, 1625, 1626, 1627, 1628, 1629, 1630, 1631, 1632, 1633, 1634, 1665, 1666] (by decide +kernel) (by decide +kernel)) (goodIn_sub (fun _ h => List.mem_append_right _ h) (by decide +kernel))) (goodIn_sub (fun _ h => List.mem_append_left _ (List.mem_append_left _ (List.mem_append_right _ h))) (by decide +kernel))
set_option maxRecDepth 20000 in
theorem gL_law_L_lessonOf : GoodIn wsL_law (va_wsS RL 175 yL_lessonOf wsL_lessonOf) := goodIn_app (goodIn_of _ (by decide +kernel)) ggL_law_L_lessonOf
set_option maxRecDepth 20000 in
theorem ggL_law_X12_lessonOf : GoodIn wsL_law wsX12_lessonOf := goodIn_r _ [326, 227, 137, 292, 293, 294, 5, 295, 235, 236, 237, 238, 228, 229, 230, 231, 232, 233, 234, 1635, 1636, 1637, 1638, 1639, 1640, 1641, 1642, 1643, 1644, 1645, 1646, 1647, 1648, 1649, 1650, 1651, 1652, 1653, 1654, 1655, 1656, 1657, 1658, 1659, 1660, 1661, 1662, 1663, 1664] (by decide +kernel) (by decide +kernel)
set_option maxRecDepth 20000 in
theorem gL_law_X12_lessonOf : GoodIn wsL_law (wsV RL 178 RX12 yX12_lessonOf wsX12_lessonOf) := goodIn_app (goodIn_of _ (by decide +kernel)) ggL_law_X12_lessonOf
set_option maxRecDepth 20000 in
theorem ggL_law_X11_lessons : GoodIn wsL_law wsX11_lessons := goodIn_r _ [330, 17, 187, 188, 189, 16, 190, 63, 1624, 1625, 1626, 1627, 1628, 1629, 1630, 1631, 1632, 1633, 1634, 1665, 1666] (by decide +kernel) (by decide +kernel)
set_option maxRecDepth 20000 in
theorem gL_law_X11_lessons : GoodIn wsL_law (wsV RL 179 RX11 yX11_lessons wsX11_lessons) := goodIn_app (goodIn_of _ (by decide +kernel)) ggL_law_X11_lessons
set_option maxRecDepth 20000 in
theorem ggL_law_X12_lessons : GoodIn wsL_law wsX12_lessons := goodIn_r _ [334, 227, 235, 236, 237, 5, 238, 137, 1635, 1636, 1637, 1638, 1639, 1640, 1641, 1642, 1643, 1644, 1645, 1646, 1647, 1648, 1649, 1650, 1651, 1652, 1653, 1654, 1655, 1656, 1657, 1658, 1659, 1660, 1661, 1662, 1663, 1664] (by decide +kernel) (by decide +kernel)
set_option maxRecDepth 20000 in
theorem gL_law_X12_lessons : GoodIn wsL_law (wsV RL 182 RX12 yX12_lessons wsX12_lessons) := goodIn_app (goodIn_of _ (by decide +kernel)) ggL_law_X12_lessons
set_option maxRecDepth 20000 in
theorem ggL_law_L_setSubjects : GoodIn wsL_law wsL_setSubjects := goodIn_ca (goodIn_ca (goodIn_r _ [337, 165, 166, 338, 339, 340, 2, 341, 173, 174, 17, 175, 176, 177, 178, 179, 180, 181, 182, 171, 172, 342, 343, 344, 16, 345, 287, 188, 189, 190, 63, 346, 347, 348, 349, 350, 320, 321, 322, 191, 192, 193, 194, 21, 29, 195, 196, 197, 20, 198, 199, 68, 200, 201, 202, 203, 204, 205, 206, 207, 208, 209, 210, 211, 212, 213, 28, 214, 90, 215, 216, 217, 218, 351, 352, 353, 354, 1624, 1625, 1626, 1627, 1628, 1629, 1630, 1631, 1632, 1633, 1634, 1665, 1666, 1667, 1668, 1669, 1682, 1683, 1684, 1685, 1686, 1687, 1688, 1689] (by decide +kernel) (by decide +kernel)) (goodIn_sub (fun _ h => List.mem_append_left _ (List.mem_append_right _ h)) (by decide +kernel))) (goodIn_sub (fun _ h => List.mem_append_left _ (List.mem_append_left _ (List.mem_append_right _ h))) (by decide +kernel))
set_option maxRecDepth 20000 in
theorem gL_law_L_setSubjects : GoodIn wsL_law (va_wsS RL 183 yL_setSubjects wsL_setSubjects) := goodIn_app (goodIn_of _ (by decide +kernel)) ggL_law_L_setSubjects
set_option maxRecDepth 20000 in
theorem ggL_law_X12_setSubjects : GoodIn wsL_law wsX12_setSubjects := goodIn_r _ [358, 227, 137, 359, 360, 361, 5, 362, 228, 229, 230, 231, 232, 233, 234, 235, 236, 237, 238, 239, 240, 241, 242, 243, 138, 142, 1635, 1636, 1637, 1638, 1639, 1640, 1641, 1642, 1643, 1644, 1645, 1646, 1647, 1648, 1649, 1650, 1651, 1652, 1653, 1654, 1655, 1656, 1657, 1658, 1659, 1660, 1661, 1662, 1663, 1664] (by decide +kernel) (by decide +kernel)
set_option maxRecDepth 20000 in
theorem gL_law_X12_setSubjects : GoodIn wsL_law (wsV RL 185 RX12 yX12_setSubjects wsX12_setSubjects) := goodIn_app (goodIn_of _ (by decide +kernel)) ggL_law_X12_setSubjects
set_option maxRecDepth 20000 in
theorem ggL_law_L_setRooms : GoodIn wsL_law wsL_setRooms := goodIn_ca (goodIn_r _ [365, 165, 366, 367, 368, 2, 369, 17, 175, 176, 177, 178, 179, 180, 181, 182, 171, 172, 191, 192, 193, 194, 21, 29, 195, 196, 197, 20, 198, 199, 68, 200, 201, 202, 203, 204, 205, 206, 207, 208, 209, 210, 211, 212, 213, 28, 214, 90, 215, 216, 217, 16, 218, 63, 370, 371, 372, 373, 1624, 1625, 1626, 1627, 1628, 1629, 1630, 1631, 1632, 1633, 1634, 1665, 1666, 1667, 1668, 1669, 1682, 1683, 1684, 1685, 1686, 1687, 1688, 1689] (by decide +kernel) (by decide +kernel)) (goodIn_sub (fun _ h => List.mem_append_left _ (List.mem_append_left _ (List.mem_append_right _ h))) (by decide +kernel))
set_option maxRecDepth 20000 in
theorem gL_law_L_setRooms : GoodIn wsL_law (va_wsS RL 186 yL_setRooms wsL_setRooms) := goodIn_app (goodIn_of _ (by decide +kernel)) ggL_law_L_setRooms
set_option maxRecDepth 20000 in
theorem ggL_law_X12_setRooms : GoodIn wsL_law wsX12_setRooms := goodIn_r _ [377, 227, 137, 228, 229, 5, 230, 231, 232, 233, 234, 239, 240, 241, 242, 243, 138, 142, 1635, 1636, 1637, 1638, 1639, 1640, 1641, 1642, 1643, 1644, 1645, 1646, 1647, 1648, 1649, 1650, 1651, 1652, 1653, 1654, 1655, 1656, 1657, 1658, 1659, 1660, 1661, 1662, 1663, 1664] (by decide +kernel) (by decide +kernel)
set_option maxRecDepth 20000 in
theorem gL_law_X12_setRooms : GoodIn wsL_law (wsV RL 188 RX12 yX12_setRooms wsX12_setRooms) := goodIn_app (goodIn_of _ (by decide +kernel)) ggL_law_X12_setRooms
set_option maxRecDepth 20000 in
theorem ggL_law_L_wish : GoodIn wsL_law wsL_wish := goodIn_ca (goodIn_ca (goodIn_ca (goodIn_r _ [380, 165, 251, 166, 381, 382, 383, 2, 384, 171, 172, 173, 174, 17, 175, 176, 177, 178, 179, 180, 181, 182, 256, 257, 258, 259, 260, 261, 187, 188, 189, 16, 190, 63, 385, 268, 269, 270, 191, 192, 193, 194, 21, 29, 195, 196, 197, 20, 198, 199, 68, 200, 201, 202, 203, 204, 205, 206, 207, 208, 209, 210, 211, 212, 213, 28, 214, 90, 215, 216, 217, 218, 386, 387, 388, 389, 1624, 1625, 1626, 1627, 1628, 1629, 1630, 1631, 1632, 1633, 1634, 1665, 1666, 1667, 1668, 1669, 1682, 1683, 1684, 1685, 1686, 1687, 1688, 1689] (by decide +kernel) (by decide +kernel)) (goodIn_sub (fun _ h => List.mem_append_left _ (List.mem_append_left _ (List.mem_append_right _ h))) (by decide +kernel))) (goodIn_sub (fun _ h => List.mem_append_left _ (List.mem_append_right _ h)) (by decide +kernel))) (goodIn_sub (fun _ h => List.mem_append_right _ h) (by decide +kernel))
set_option maxRecDepth 20000 in
theorem gL_law_L_wish : GoodIn wsL_law (va_wsS RL 189 yL_wish wsL_wish) := goodIn_app (goodIn_of _ (by decide +kernel)) ggL_law_L_wish
set_option maxRecDepth 20000 in
theorem ggL_law_X12_wish : GoodIn wsL_law wsX12_wish := goodIn_r _ [393, 227, 137, 228, 229, 5, 230, 231, 232, 233, 234, 300, 301, 302, 303, 296, 297, 298, 299, 292, 293, 294, 295, 235, 236, 237, 238, 239, 240, 241, 242, 243, 138, 142, 1635, 1636, 1637, 1638, 1639, 1640, 1641, 1642, 1643, 1644, 1645, 1646, 1647, 1648, 1649, 1650, 1651, 1652, 1653, 1654, 1655, 1656, 1657, 1658, 1659, 1660, 1661, 1662, 1663, 1664] (by decide +kernel) (by decide +kernel)
set_option maxRecDepth 20000 in
theorem gL_law_X12_wish : GoodIn wsL_law (wsV RL 192 RX12 yX12_wish wsX12_wish) := goodIn_app (goodIn_of _ (by decide +kernel)) ggL_law_X12_wish
set_option maxRecDepth 20000 in
theorem ggL_law_L_dropWish : GoodIn wsL_law wsL_dropWish := goodIn_ca (goodIn_r _ [396, 251, 397, 398, 399, 2, 400, 17, 401, 402, 403, 404, 260, 261, 385, 268, 269, 16, 270, 63, 191, 192, 193, 194, 21, 29, 195, 196, 197, 20, 198, 199, 68, 200, 201, 202, 203, 204, 205, 206, 207, 208, 209, 210, 211, 212, 213, 28, 214, 90, 215, 216, 217, 218, 405, 280, 281, 282, 266, 267, 1624, 1625, 1626, 1627, 1628, 1629, 1630, 1631, 1632, 1633, 1634, 1665, 1666, 1667, 1668, 1669, 1682, 1683, 1684, 1685, 1686, 1687, 1688, 1689] (by decide +kernel) (by decide +kernel)) (goodIn_sub (fun _ h => List.mem_append_right _ h) (by decide +kernel))
set_option maxRecDepth 20000 in
theorem gL_law_L_dropWish : GoodIn wsL_law (va_wsS RL 193 yL_dropWish wsL_dropWish) := goodIn_app (goodIn_of _ (by decide +kernel)) ggL_law_L_dropWish
set_option maxRecDepth 20000 in
theorem ggL_law_X12_dropWish : GoodIn wsL_law wsX12_dropWish := goodIn_r _ [409, 227, 137, 410, 411, 412, 5, 413, 228, 229, 230, 231, 232, 233, 234, 239, 240, 241, 242, 243, 138, 142, 304, 305, 306, 307, 308, 309, 310, 311, 1635, 1636, 1637, 1638, 1639, 1640, 1641, 1642, 1643, 1644, 1645, 1646, 1647, 1648, 1649, 1650, 1651, 1652, 1653, 1654, 1655, 1656, 1657, 1658, 1659, 1660, 1661, 1662, 1663, 1664] (by decide +kernel) (by decide +kernel)
set_option maxRecDepth 20000 in
theorem gL_law_X12_dropWish : GoodIn wsL_law (wsV RL 195 RX12 yX12_dropWish wsX12_dropWish) := goodIn_app (goodIn_of _ (by decide +kernel)) ggL_law_X12_dropWish
set_option maxRecDepth 20000 in
theorem ggL_law_L_wishOf : GoodIn wsL_law wsL_wishOf := goodIn_ca (goodIn_ca (goodIn_r _ [416, 251, 165, 417, 418, 419, 2, 420, 17, 401, 402, 403, 404, 260, 261, 385, 268, 269, 16, 270, 63, 175, 176, 177, 178, 179, 180, 181, 182, 171, 172, 421, 276, 277, 278, 1624, 1625, 1626, 1627, 1628, 1629, 1630, 1631, 1632, 1633, 1634, 1665, 1666] (by decide +kernel) (by decide +kernel)) (goodIn_sub (fun _ h => List.mem_append_right _ h) (by decide +kernel))) (goodIn_sub (fun _ h => List.mem_append_left _ (List.mem_append_left _ (List.mem_append_right _ h))) (by decide +kernel))
set_option maxRecDepth 20000 in
theorem gL_law_L_wishOf : GoodIn wsL_law (va_wsS RL 196 yL_wishOf wsL_wishOf) := goodIn_app (goodIn_of _ (by decide +kernel)) ggL_law_L_wishOf
