def tCodeIx : List Nat := [297, 884, 891, 895, 244, 363, 371, 375, 399, 1255, 1277, 379, 264, 1131, 1143, 1220, 1147, 1155, 1158, 1166, 108, 343, 339, 387, 430, 464, 642, 472, 661, 666, 101, 335, 383, 587, 736, 678, 686, 468, 707, 422, 850, 418, 771, 868, 814, 819, 864, 480, 460, 931, 446, 410, 456, 1023, 989, 1007, 753, 1036, 403, 1057, 1062, 1073, 1077, 1081, 1086, 1090, 1119, 1224, 1228, 1234, 1238, 1244, 1250, 154, 351, 347, 394, 359, 355, 777, 414, 993, 682, 802, 440, 757, 450, 940, 936, 476, 426, 93, 331, 495, 619, 650, 674, 694, 703, 730, 744, 767, 810, 827, 838, 845, 860, 876, 907, 915, 923, 948, 959, 966, 975, 985, 1003, 1019, 1031, 367, 1044, 1052, 1069, 1112, 1126, 1139, 1264, 1272, 485, 1285, 623, 748, 926, 653, 830, 781, 880, 406, 656, 1291, 1411, 1426, 1458, 1422, 1503, 1454, 1472, 1476, 1462, 1546, 1488, 1522, 1492, 1558, 1554, 1592, 1588, 1572, 1518, 1514, 1568, 1538, 1584, 1646, 1642, 1652, 1668, 1415, 1419, 1465, 1450, 1469, 1484, 1496, 1500, 1480, 1510, 1507, 1530, 1526, 1534, 1550, 1542, 1576, 1564, 1580, 1596, 1600, 1604, 1608, 1623, 1619, 1616, 1612, 1627, 1631, 1638, 1635, 1656, 1660, 1664, 1672, 1680, 1676, 1688, 1692, 1684, 1696, 1700, 1704, 1708, 1716, 1712, 1728, 1724, 1720, 1732, 1736, 1752, 1760, 1756, 1748, 1744, 1764, 1740, 1773, 1442, 1446, 1438, 1434, 1430, 1777, 1781, 1785, 433, 1170, 1151, 1180, 1174, 1184, 1190, 1187, 1195, 489, 591, 646, 670, 690, 698, 726, 740, 762, 806, 823, 834, 841, 856, 872, 903, 911, 919, 944, 955, 962, 971, 981, 999, 1015, 1027, 1040, 1048, 1065, 1094, 1122, 1135, 1260, 1268, 1281, 9999]
def tCallIx : List (Nat × Nat × Nat × Nat) := [(91, 92, 0, 64), (99, 100, 0, 65), (106, 107, 0, 66), (152, 153, 0, 67), (242, 243, 0, 68), (248, 100, 0, 65), (262, 263, 0, 69), (295, 296, 0, 70), (328, 329, 330, 64), (332, 333, 334, 65), (336, 337, 338, 66), (340, 341, 342, 66), (344, 345, 346, 67), (348, 349, 350, 67), (352, 353, 354, 67), (356, 357, 358, 67), (360, 361, 362, 68), (364, 365, 366, 64), (368, 369, 370, 68), (372, 373, 374, 68), (376, 378, 0, 68), (380, 381, 382, 65), (384, 385, 386, 66), (391, 392, 393, 67), (396, 397, 398, 68), (400, 401, 402, 65), (407, 408, 409, 65), (411, 412, 413, 67), (415, 416, 417, 65), (419, 420, 421, 65), (423, 424, 425, 67), (427, 428, 429, 66), (431, 432, 0, 82), (437, 438, 439, 67), (443, 444, 445, 65), (447, 448, 449, 67), (453, 454, 455, 65), (457, 458, 459, 65), (461, 462, 463, 66), (465, 466, 467, 65), (469, 470, 471, 66), (473, 474, 475, 67), (477, 478, 479, 65), (481, 357, 358, 67), (482, 483, 484, 64), (486, 381, 382, 65), (487, 488, 0, 63), (492, 493, 494, 64), (496, 405, 0, 64), (584, 585, 586, 65), (588, 341, 342, 66), (589, 590, 0, 63), (616, 617, 618, 64), (620, 622, 2, 64), (638, 462, 463, 66), (639, 640, 641, 66), (643, 428, 429, 66), (644, 645, 0, 63), (647, 648, 649, 64), (651, 652, 0, 64), (654, 655, 0, 64), (658, 659, 660, 66), (662, 470, 471, 66), (663, 664, 665, 66), (667, 659, 660, 66), (668, 669, 0, 63), (671, 672, 673, 64), (675, 676, 677, 65), (679, 680, 681, 67), (683, 684, 685, 65), (688, 689, 0, 63), (691, 692, 693, 64), (695, 466, 467, 65), (696, 697, 0, 63), (700, 701, 702, 64), (704, 705, 706, 65), (724, 725, 0, 63), (727, 728, 729, 64), (733, 734, 735, 65), (737, 349, 350, 67), (738, 739, 0, 63), (741, 742, 743, 64), (745, 747, 3, 64), (750, 751, 752, 65), (754, 755, 756, 67), (758, 438, 439, 67), (760, 761, 0, 63), (764, 765, 766, 64), (768, 769, 770, 65), (772, 676, 677, 65), (773, 755, 756, 67), (774, 775, 776, 67), (778, 780, 4, 64), (798, 428, 429, 66), (799, 800, 801, 67), (803, 432, 0, 82), (804, 805, 0, 63), (807, 808, 809, 64), (811, 812, 813, 65), (816, 817, 818, 65), (820, 353, 354, 67), (821, 822, 0, 63), (824, 825, 826, 64), (828, 829, 0, 64), (832, 833, 0, 63), (835, 836, 837, 64), (839, 840, 0, 63), (842, 843, 844, 64), (847, 848, 849, 65), (854, 855, 0, 63), (857, 858, 859, 64), (861, 862, 863, 65), (865, 866, 867, 65), (869, 769, 770, 65), (870, 871, 0, 63), (873, 874, 875, 64), (877, 879, 5, 64), (881, 882, 883, 70), (885, 420, 421, 65), (886, 866, 867, 65), (887, 755, 756, 67), (888, 800, 801, 67), (889, 890, 0, 70), (892, 894, 6, 70), (896, 432, 0, 82), (897, 438, 439, 67), (898, 462, 463, 66), (899, 428, 429, 66), (901, 902, 0, 63), (904, 905, 906, 64), (908, 432, 0, 82), (909, 910, 0, 63), (912, 913, 914, 64), (917, 918, 0, 63), (920, 921, 922, 64), (924, 925, 0, 64), (928, 929, 930, 65), (932, 357, 358, 67), (933, 934, 935, 67), (937, 938, 939, 67), (941, 448, 449, 67), (942, 943, 0, 63), (945, 946, 947, 64), (949, 775, 776, 67), (950, 412, 413, 67), (952, 353, 354, 67), (953, 954, 0, 63), (956, 957, 958, 64), (960, 961, 0, 63), (963, 964, 965, 64), (967, 408, 409, 65), (969, 970, 0, 63), (972, 973, 974, 64), (978, 938, 939, 67), (979, 980, 0, 63), (982, 983, 984, 64), (986, 987, 988, 65), (990, 991, 992, 67), (994, 775, 776, 67), (995, 412, 413, 67), (997, 998, 0, 63), (1000, 1001, 1002, 64), (1004, 1005, 1006, 65), (1008, 934, 935, 67), (1013, 1014, 0, 63), (1016, 1017, 1018, 64), (1020, 1021, 1022, 65), (1025, 1026, 0, 63), (1028, 1029, 1030, 64), (1033, 1034, 1035, 65), (1037, 751, 752, 65), (1038, 1039, 0, 63), (1041, 1042, 1043, 64), (1046, 1047, 0, 63), (1049, 1050, 1051, 64), (1054, 1055, 1056, 65), (1059, 1060, 1061, 65), (1063, 1064, 0, 63), (1066, 1067, 1068, 64), (1070, 1071, 1072, 65), (1074, 1075, 1076, 65), (1078, 1079, 1080, 65), (1082, 800, 801, 67), (1083, 1084, 1085, 65), (1087, 1088, 1089, 65), (1092, 1093, 0, 63), (1109, 1110, 1111, 64), (1116, 1117, 1118, 65), (1120, 1121, 0, 63), (1123, 1124, 1125, 64), (1128, 1129, 1130, 69), (1133, 1134, 0, 63), (1136, 1137, 1138, 64), (1140, 1141, 1142, 69), (1144, 1146, 7, 69), (1148, 1149, 1150, 80), (1152, 1154, 8, 69), (1156, 1157, 0, 69), (1163, 1165, 9, 69), (1167, 1168, 1169, 80), (1171, 1172, 1173, 80), (1177, 1178, 1179, 80), (1181, 1182, 1183, 80), (1185, 1186, 0, 86), (1188, 1189, 0, 80), (1193, 1194, 0, 87), (1216, 373, 374, 68), (1217, 1218, 1219, 69), (1221, 1222, 1223, 65), (1225, 1227, 10, 65), (1229, 1055, 1056, 65), (1230, 1060, 1061, 65), (1231, 1233, 11, 65), (1235, 1237, 12, 65), (1239, 812, 813, 65), (1240, 817, 818, 65), (1241, 1243, 13, 65), (1246, 929, 930, 65), (1247, 1249, 14, 65), (1251, 987, 988, 65), (1252, 1253, 1254, 68), (1257, 397, 398, 68), (1258, 1259, 0, 63), (1261, 1262, 1263, 64), (1266, 1267, 0, 63), (1269, 1270, 1271, 64), (1274, 1275, 1276, 68), (1278, 1253, 1254, 68), (1279, 1280, 0, 63), (1282, 1283, 1284, 64), (1289, 1290, 0, 71), (1408, 1409, 1410, 71), (1412, 1413, 1414, 71), (1416, 1417, 1418, 71), (1420, 1421, 0, 71), (1423, 1425, 15, 71), (1427, 1429, 16, 71), (1431, 1433, 17, 71), (1435, 1437, 18, 71), (1439, 1441, 19, 71), (1443, 1445, 20, 71), (1447, 1448, 1449, 71), (1451, 1453, 21, 71), (1455, 1457, 22, 71), (1459, 1461, 23, 71), (1463, 1464, 0, 71), (1466, 1467, 1468, 71), (1470, 1471, 0, 71), (1473, 1475, 24, 71), (1477, 1478, 1479, 71), (1481, 1483, 25, 71), (1485, 1487, 26, 71), (1489, 1491, 27, 71), (1493, 1495, 28, 71), (1497, 1499, 29, 71), (1501, 1502, 0, 71), (1504, 1505, 1506, 71), (1508, 1509, 0, 71), (1511, 1513, 30, 71), (1515, 1517, 31, 71), (1519, 1521, 32, 71), (1523, 1524, 1525, 71), (1527, 1529, 33, 71), (1531, 1532, 1533, 71), (1535, 1537, 34, 71), (1539, 1540, 1541, 71), (1543, 1545, 35, 71), (1547, 1549, 36, 71), (1551, 1553, 37, 71), (1555, 1557, 38, 71), (1561, 1562, 1563, 71), (1565, 1567, 39, 71), (1569, 1571, 40, 71), (1573, 1575, 41, 71), (1577, 1578, 1579, 71), (1581, 1583, 42, 71), (1585, 1587, 43, 71), (1589, 1591, 44, 71), (1593, 1594, 1595, 71), (1597, 1598, 1599, 71), (1601, 1602, 1603, 71), (1605, 1606, 1607, 71), (1609, 1610, 1611, 71), (1613, 1615, 45, 71), (1617, 1618, 0, 71), (1620, 1622, 46, 71), (1624, 1625, 1626, 71), (1628, 1629, 1630, 71), (1632, 1633, 1634, 71), (1636, 1637, 0, 71), (1639, 1641, 47, 71), (1643, 1645, 48, 71), (1649, 1651, 49, 71), (1653, 1654, 1655, 71), (1657, 1658, 1659, 71), (1661, 1662, 1663, 71), (1665, 1667, 50, 71), (1669, 1670, 1671, 71), (1673, 1674, 1675, 71), (1677, 1679, 51, 71), (1681, 1682, 1683, 71), (1685, 1687, 52, 71), (1689, 1691, 53, 71), (1693, 1694, 1695, 71), (1697, 1698, 1699, 71), (1701, 1702, 1703, 71), (1705, 1706, 1707, 71), (1709, 1710, 1711, 71), (1713, 1715, 54, 71), (1717, 1718, 1719, 71), (1721, 1723, 55, 71), (1725, 1727, 56, 71), (1729, 1730, 1731, 71), (1733, 1734, 1735, 71), (1737, 1738, 1739, 71), (1741, 1743, 57, 71), (1745, 1747, 58, 71), (1749, 1751, 59, 71), (1753, 1755, 60, 71), (1757, 1759, 61, 71), (1761, 1763, 62, 71), (1765, 1562, 1563, 71), (1766, 1578, 1579, 71), (1767, 1633, 1634, 71), (1768, 1674, 1675, 71), (1769, 1710, 1711, 71), (1770, 1771, 1772, 71), (1774, 1775, 1776, 71), (1778, 1779, 1780, 71), (1782, 1783, 1784, 71), (404, 405, 0, 64), (1245, 655, 0, 64)]
def tFldIx : List Nat := [110, 111, 112, 113, 114, 115, 116, 117, 118, 119, 120, 121, 122, 123, 124, 125, 126, 127, 128, 129, 130, 156, 157, 158, 159, 160, 161, 162, 163, 164, 165, 166, 167, 168, 169, 170, 171, 172, 173, 174, 175, 176, 177, 178, 179, 180, 181, 182, 183, 205, 206, 207, 208, 209, 210, 211, 212, 213, 214, 215, 216, 217, 218, 219, 220, 221, 249, 250, 251, 252, 267, 268, 269, 270, 271, 272, 273, 274, 275, 299, 303, 304, 305, 306, 307, 308, 309, 310, 1293, 1294, 1295, 1296, 1297, 1298, 1299, 1300, 1301, 1302, 1303, 1304, 1305, 1306, 1307, 1308, 1309, 1310, 1311, 1312, 1313, 1314, 1315, 1316, 1317, 1318, 1319, 1320, 1321, 1322, 1323, 1324, 1325, 1326, 1327, 1328, 1329, 1330, 1806, 1807]
def tLayIx : List Nat := [300, 253, 255, 257, 276, 278, 280, 282, 284, 286, 288, 131, 133, 135, 137, 139, 141, 143, 145, 222, 224, 226, 228, 230, 232, 234, 236, 184, 186, 188, 190, 192, 194, 196, 198, 200, 202, 311, 313, 315, 317, 319, 321, 323, 325, 1331, 1333, 1335, 1337, 1339, 1341, 1343, 1345, 1347, 1349, 1351, 1353, 1355, 1357, 1359, 1361, 1363, 1365, 1367, 1369, 1371, 1373, 1375, 1377, 1379, 1381, 1383, 1385, 1387, 1389, 1391, 1393, 1395, 1397, 1399, 1401, 1403, 1405]
def tNewIx : List (Nat × Nat × Nat) := [(89, 90, 64), (97, 98, 65), (103, 105, 66), (149, 151, 67), (240, 241, 68), (246, 98, 65), (260, 261, 69), (293, 294, 70), (1287, 1288, 71)]
/-- words that hold in every warmer state -/
def xW (w : Cond) : Bool := goodWord w || match w with
  | .declares _ => true
  | .castable .. => true
  | .fieldLinkNest .. => true
  | .methodLinkNest .. => true
  | _ => false
theorem xW_at {s U : State} {args a' : Array Value} {w : Cond} (hW : s.WarmedH U.vm) (h : xW w = true) (hb : w.before args s = true) : w.before a' U = true := by
  by_cases g : goodWord w = true
  · exact word_at hW (good_of_word g) hb
  · cases w <;> first
      | exact va_Nw.use rfl (va_Nw.warmD hW (va_Nw.of rfl hb))
      | exact va_Nw.use rfl (va_Nw.warmC hW (va_Nw.of rfl hb))
      | exact va_Nw.use rfl (va_Nw.warmF hW (va_Nw.of rfl hb))
      | exact va_Nw.use rfl (va_Nw.warmM hW (va_Nw.of rfl hb))
      | (exfalso; simp [xW, g] at h; done)
      | (exfalso; simp [xW] at h; exact g h)
def lwX : List Cond := lw_tbl.filter xW
def inT (i : Nat) (w : Cond) : Bool := decide (lw_tbl[i]? = some w) && xW w
theorem inT_mem {i : Nat} {w : Cond} (h : inT i w = true) : w ∈ lwX := by
  simp only [inT, Bool.and_eq_true, decide_eq_true_eq] at h
  exact List.mem_filter.mpr ⟨List.mem_of_getElem? h.1, h.2⟩
theorem all_zip {α β : Type} (p : α → β → Bool) : ∀ (l1 : List α) (l2 : List β), l1.length ≤ l2.length → ((l1.zip l2).all fun q => p q.1 q.2) = true → ∀ a ∈ l1, ∃ b, p a b = true
  | [], _, _, _, a, ha => absurd ha List.not_mem_nil
  | x :: r, [], hl, _, _, _ => absurd hl (by simp)
  | x :: r, y :: t, hl, h, a, ha => by
    simp only [List.zip_cons_cons, List.all_cons, Bool.and_eq_true] at h
    rcases List.mem_cons.mp ha with rfl | ha
    · exact ⟨y, h.1⟩
    · exact all_zip p r t (by simpa using hl) h.2 a ha
def codeW (j : Nat) : Cond := match lk1 tHnd j with
  | none => .code (mY j) (mB j) (mL j) (mR j)
  | some l => .codeWith (mY j) (mB j) (mL j) (mR j) l
theorem lwX_in {w : Cond} (h : w ∈ tables_1) (hx : xW w = true) : w ∈ lwX := List.mem_filter.mpr ⟨List.mem_append_right _ h, hx⟩
theorem tb_1 {w : Cond} (h : w ∈ tables_1_1) : w ∈ tables_1 := List.mem_append_left _ h
theorem tb_2 {w : Cond} (h : w ∈ tables_1_2) : w ∈ tables_1 := List.mem_append_right _ (List.mem_append_left _ h)
theorem tb_3 {w : Cond} (h : w ∈ tables_1_3) : w ∈ tables_1 := List.mem_append_right _ (List.mem_append_right _ (List.mem_append_left _ h))
theorem tb_4 {w : Cond} (h : w ∈ tables_1_4) : w ∈ tables_1 := List.mem_append_right _ (List.mem_append_right _ (List.mem_append_right _ (List.mem_append_left _ h)))
theorem tb_5 {w : Cond} (h : w ∈ tables_1_5) : w ∈ tables_1 := List.mem_append_right _ (List.mem_append_right _ (List.mem_append_right _ (List.mem_append_right _ (List.mem_append_left _ h))))
theorem tb_6 {w : Cond} (h : w ∈ tables_1_6) : w ∈ tables_1 := List.mem_append_right _ (List.mem_append_right _ (List.mem_append_right _ (List.mem_append_right _ (List.mem_append_right _ (List.mem_append_left _ h)))))
theorem tb_7 {w : Cond} (h : w ∈ tables_1_7) : w ∈ tables_1 := List.mem_append_right _ (List.mem_append_right _ (List.mem_append_right _ (List.mem_append_right _ (List.mem_append_right _ (List.mem_append_right _ (List.mem_append_left _ h))))))
theorem tb_8 {w : Cond} (h : w ∈ tables_1_8) : w ∈ tables_1 := List.mem_append_right _ (List.mem_append_right _ (List.mem_append_right _ (List.mem_append_right _ (List.mem_append_right _ (List.mem_append_right _ (List.mem_append_right _ h))))))

set_option maxRecDepth 100000 in
theorem cw_0 : codeW 0 ∈ lwX := lwX_in (tb_1 (List.mem_of_getElem? (i := 234) rfl)) rfl
set_option maxRecDepth 100000 in
theorem cw_1 : codeW 1 ∈ lwX := lwX_in (tb_4 (List.mem_of_getElem? (i := 101) rfl)) rfl
set_option maxRecDepth 100000 in
theorem cw_2 : codeW 2 ∈ lwX := lwX_in (tb_4 (List.mem_of_getElem? (i := 108) rfl)) rfl
set_option maxRecDepth 100000 in
theorem cw_3 : codeW 3 ∈ lwX := lwX_in (tb_4 (List.mem_of_getElem? (i := 112) rfl)) rfl
set_option maxRecDepth 100000 in
theorem cw_4 : codeW 4 ∈ lwX := lwX_in (tb_1 (List.mem_of_getElem? (i := 181) rfl)) rfl
set_option maxRecDepth 100000 in
theorem cw_5 : codeW 5 ∈ lwX := lwX_in (tb_2 (List.mem_of_getElem? (i := 60) rfl)) rfl
set_option maxRecDepth 100000 in
theorem cw_6 : codeW 6 ∈ lwX := lwX_in (tb_2 (List.mem_of_getElem? (i := 68) rfl)) rfl
set_option maxRecDepth 100000 in
theorem cw_7 : codeW 7 ∈ lwX := lwX_in (tb_2 (List.mem_of_getElem? (i := 72) rfl)) rfl
set_option maxRecDepth 100000 in
theorem cw_8 : codeW 8 ∈ lwX := lwX_in (tb_2 (List.mem_of_getElem? (i := 96) rfl)) rfl
set_option maxRecDepth 100000 in
theorem cw_9 : codeW 9 ∈ lwX := lwX_in (tb_5 (List.mem_of_getElem? (i := 232) rfl)) rfl
set_option maxRecDepth 100000 in
theorem cw_10 : codeW 10 ∈ lwX := lwX_in (tb_6 (List.mem_of_getElem? (i := 14) rfl)) rfl
set_option maxRecDepth 100000 in
theorem cw_11 : codeW 11 ∈ lwX := lwX_in (tb_2 (List.mem_of_getElem? (i := 76) rfl)) rfl
set_option maxRecDepth 100000 in
theorem cw_12 : codeW 12 ∈ lwX := lwX_in (tb_1 (List.mem_of_getElem? (i := 201) rfl)) rfl
set_option maxRecDepth 100000 in
theorem cw_13 : codeW 13 ∈ lwX := lwX_in (tb_5 (List.mem_of_getElem? (i := 108) rfl)) rfl
set_option maxRecDepth 100000 in
theorem cw_14 : codeW 14 ∈ lwX := lwX_in (tb_5 (List.mem_of_getElem? (i := 120) rfl)) rfl
set_option maxRecDepth 100000 in
theorem cw_15 : codeW 15 ∈ lwX := lwX_in (tb_5 (List.mem_of_getElem? (i := 197) rfl)) rfl
theorem cwg_0 : ∀ w ∈ [codeW 0, codeW 1, codeW 2, codeW 3, codeW 4, codeW 5, codeW 6, codeW 7, codeW 8, codeW 9, codeW 10, codeW 11, codeW 12, codeW 13, codeW 14, codeW 15], w ∈ lwX := List.forall_mem_cons.mpr ⟨cw_0, List.forall_mem_cons.mpr ⟨cw_1, List.forall_mem_cons.mpr ⟨cw_2, List.forall_mem_cons.mpr ⟨cw_3, List.forall_mem_cons.mpr ⟨cw_4, List.forall_mem_cons.mpr ⟨cw_5, List.forall_mem_cons.mpr ⟨cw_6, List.forall_mem_cons.mpr ⟨cw_7, List.forall_mem_cons.mpr ⟨cw_8, List.forall_mem_cons.mpr ⟨cw_9, List.forall_mem_cons.mpr ⟨cw_10, List.forall_mem_cons.mpr ⟨cw_11, List.forall_mem_cons.mpr ⟨cw_12, List.forall_mem_cons.mpr ⟨cw_13, List.forall_mem_cons.mpr ⟨cw_14, List.forall_mem_cons.mpr ⟨cw_15, fun _ h => absurd h List.not_mem_nil⟩⟩⟩⟩⟩⟩⟩⟩⟩⟩⟩⟩⟩⟩⟩⟩
set_option maxRecDepth 100000 in
theorem cw_16 : codeW 16 ∈ lwX := lwX_in (tb_5 (List.mem_of_getElem? (i := 124) rfl)) rfl
set_option maxRecDepth 100000 in
theorem cw_17 : codeW 17 ∈ lwX := lwX_in (tb_5 (List.mem_of_getElem? (i := 132) rfl)) rfl
set_option maxRecDepth 100000 in
theorem cw_18 : codeW 18 ∈ lwX := lwX_in (tb_5 (List.mem_of_getElem? (i := 135) rfl)) rfl
set_option maxRecDepth 100000 in
theorem cw_19 : codeW 19 ∈ lwX := lwX_in (tb_5 (List.mem_of_getElem? (i := 143) rfl)) rfl
set_option maxRecDepth 100000 in
theorem cw_20 : codeW 20 ∈ lwX := lwX_in (tb_1 (List.mem_of_getElem? (i := 45) rfl)) rfl
set_option maxRecDepth 100000 in
theorem cw_21 : codeW 21 ∈ lwX := lwX_in (tb_2 (List.mem_of_getElem? (i := 40) rfl)) rfl
set_option maxRecDepth 100000 in
theorem cw_22 : codeW 22 ∈ lwX := lwX_in (tb_2 (List.mem_of_getElem? (i := 36) rfl)) rfl
set_option maxRecDepth 100000 in
theorem cw_23 : codeW 23 ∈ lwX := lwX_in (tb_2 (List.mem_of_getElem? (i := 84) rfl)) rfl
set_option maxRecDepth 100000 in
theorem cw_24 : codeW 24 ∈ lwX := lwX_in (tb_2 (List.mem_of_getElem? (i := 127) rfl)) rfl
set_option maxRecDepth 100000 in
theorem cw_25 : codeW 25 ∈ lwX := lwX_in (tb_2 (List.mem_of_getElem? (i := 161) rfl)) rfl
set_option maxRecDepth 100000 in
theorem cw_26 : codeW 26 ∈ lwX := lwX_in (tb_3 (List.mem_of_getElem? (i := 99) rfl)) rfl
set_option maxRecDepth 100000 in
theorem cw_27 : codeW 27 ∈ lwX := lwX_in (tb_2 (List.mem_of_getElem? (i := 169) rfl)) rfl
set_option maxRecDepth 100000 in
theorem cw_28 : codeW 28 ∈ lwX := lwX_in (tb_3 (List.mem_of_getElem? (i := 118) rfl)) rfl
set_option maxRecDepth 100000 in
theorem cw_29 : codeW 29 ∈ lwX := lwX_in (tb_3 (List.mem_of_getElem? (i := 123) rfl)) rfl
set_option maxRecDepth 100000 in
theorem cw_30 : codeW 30 ∈ lwX := lwX_in (tb_1 (List.mem_of_getElem? (i := 38) rfl)) rfl
set_option maxRecDepth 100000 in
theorem cw_31 : codeW 31 ∈ lwX := lwX_in (tb_2 (List.mem_of_getElem? (i := 32) rfl)) rfl
theorem cwg_1 : ∀ w ∈ [codeW 16, codeW 17, codeW 18, codeW 19, codeW 20, codeW 21, codeW 22, codeW 23, codeW 24, codeW 25, codeW 26, codeW 27, codeW 28, codeW 29, codeW 30, codeW 31], w ∈ lwX := List.forall_mem_cons.mpr ⟨cw_16, List.forall_mem_cons.mpr ⟨cw_17, List.forall_mem_cons.mpr ⟨cw_18, List.forall_mem_cons.mpr ⟨cw_19, List.forall_mem_cons.mpr ⟨cw_20, List.forall_mem_cons.mpr ⟨cw_21, List.forall_mem_cons.mpr ⟨cw_22, List.forall_mem_cons.mpr ⟨cw_23, List.forall_mem_cons.mpr ⟨cw_24, List.forall_mem_cons.mpr ⟨cw_25, List.forall_mem_cons.mpr ⟨cw_26, List.forall_mem_cons.mpr ⟨cw_27, List.forall_mem_cons.mpr ⟨cw_28, List.forall_mem_cons.mpr ⟨cw_29, List.forall_mem_cons.mpr ⟨cw_30, List.forall_mem_cons.mpr ⟨cw_31, fun _ h => absurd h List.not_mem_nil⟩⟩⟩⟩⟩⟩⟩⟩⟩⟩⟩⟩⟩⟩⟩⟩
set_option maxRecDepth 100000 in
theorem cw_32 : codeW 32 ∈ lwX := lwX_in (tb_2 (List.mem_of_getElem? (i := 80) rfl)) rfl
set_option maxRecDepth 100000 in
theorem cw_33 : codeW 33 ∈ lwX := lwX_in (tb_3 (List.mem_of_getElem? (i := 44) rfl)) rfl
set_option maxRecDepth 100000 in
theorem cw_34 : codeW 34 ∈ lwX := lwX_in (tb_3 (List.mem_of_getElem? (i := 193) rfl)) rfl
set_option maxRecDepth 100000 in
theorem cw_35 : codeW 35 ∈ lwX := lwX_in (tb_3 (List.mem_of_getElem? (i := 135) rfl)) rfl
set_option maxRecDepth 100000 in
theorem cw_36 : codeW 36 ∈ lwX := lwX_in (tb_3 (List.mem_of_getElem? (i := 143) rfl)) rfl
set_option maxRecDepth 100000 in
theorem cw_37 : codeW 37 ∈ lwX := lwX_in (tb_2 (List.mem_of_getElem? (i := 165) rfl)) rfl
set_option maxRecDepth 100000 in
theorem cw_38 : codeW 38 ∈ lwX := lwX_in (tb_3 (List.mem_of_getElem? (i := 164) rfl)) rfl
set_option maxRecDepth 100000 in
theorem cw_39 : codeW 39 ∈ lwX := lwX_in (tb_2 (List.mem_of_getElem? (i := 119) rfl)) rfl
set_option maxRecDepth 100000 in
theorem cw_40 : codeW 40 ∈ lwX := lwX_in (tb_4 (List.mem_of_getElem? (i := 67) rfl)) rfl
set_option maxRecDepth 100000 in
theorem cw_41 : codeW 41 ∈ lwX := lwX_in (tb_2 (List.mem_of_getElem? (i := 115) rfl)) rfl
set_option maxRecDepth 100000 in
theorem cw_42 : codeW 42 ∈ lwX := lwX_in (tb_3 (List.mem_of_getElem? (i := 228) rfl)) rfl
set_option maxRecDepth 100000 in
theorem cw_43 : codeW 43 ∈ lwX := lwX_in (tb_4 (List.mem_of_getElem? (i := 85) rfl)) rfl
set_option maxRecDepth 100000 in
theorem cw_44 : codeW 44 ∈ lwX := lwX_in (tb_4 (List.mem_of_getElem? (i := 31) rfl)) rfl
set_option maxRecDepth 100000 in
theorem cw_45 : codeW 45 ∈ lwX := lwX_in (tb_4 (List.mem_of_getElem? (i := 36) rfl)) rfl
set_option maxRecDepth 100000 in
theorem cw_46 : codeW 46 ∈ lwX := lwX_in (tb_4 (List.mem_of_getElem? (i := 81) rfl)) rfl
set_option maxRecDepth 100000 in
theorem cw_47 : codeW 47 ∈ lwX := lwX_in (tb_2 (List.mem_of_getElem? (i := 177) rfl)) rfl
theorem cwg_2 : ∀ w ∈ [codeW 32, codeW 33, codeW 34, codeW 35, codeW 36, codeW 37, codeW 38, codeW 39, codeW 40, codeW 41, codeW 42, codeW 43, codeW 44, codeW 45, codeW 46, codeW 47], w ∈ lwX := List.forall_mem_cons.mpr ⟨cw_32, List.forall_mem_cons.mpr ⟨cw_33, List.forall_mem_cons.mpr ⟨cw_34, List.forall_mem_cons.mpr ⟨cw_35, List.forall_mem_cons.mpr ⟨cw_36, List.forall_mem_cons.mpr ⟨cw_37, List.forall_mem_cons.mpr ⟨cw_38, List.forall_mem_cons.mpr ⟨cw_39, List.forall_mem_cons.mpr ⟨cw_40, List.forall_mem_cons.mpr ⟨cw_41, List.forall_mem_cons.mpr ⟨cw_42, List.forall_mem_cons.mpr ⟨cw_43, List.forall_mem_cons.mpr ⟨cw_44, List.forall_mem_cons.mpr ⟨cw_45, List.forall_mem_cons.mpr ⟨cw_46, List.forall_mem_cons.mpr ⟨cw_47, fun _ h => absurd h List.not_mem_nil⟩⟩⟩⟩⟩⟩⟩⟩⟩⟩⟩⟩⟩⟩⟩⟩
set_option maxRecDepth 100000 in
theorem cw_48 : codeW 48 ∈ lwX := lwX_in (tb_2 (List.mem_of_getElem? (i := 157) rfl)) rfl
set_option maxRecDepth 100000 in
theorem cw_49 : codeW 49 ∈ lwX := lwX_in (tb_4 (List.mem_of_getElem? (i := 148) rfl)) rfl
set_option maxRecDepth 100000 in
theorem cw_50 : codeW 50 ∈ lwX := lwX_in (tb_2 (List.mem_of_getElem? (i := 143) rfl)) rfl
set_option maxRecDepth 100000 in
theorem cw_51 : codeW 51 ∈ lwX := lwX_in (tb_2 (List.mem_of_getElem? (i := 107) rfl)) rfl
set_option maxRecDepth 100000 in
theorem cw_52 : codeW 52 ∈ lwX := lwX_in (tb_2 (List.mem_of_getElem? (i := 153) rfl)) rfl
set_option maxRecDepth 100000 in
theorem cw_53 : codeW 53 ∈ lwX := lwX_in (tb_5 (List.mem_of_getElem? (i := 0) rfl)) rfl
set_option maxRecDepth 100000 in
theorem cw_54 : codeW 54 ∈ lwX := lwX_in (tb_4 (List.mem_of_getElem? (i := 206) rfl)) rfl
set_option maxRecDepth 100000 in
theorem cw_55 : codeW 55 ∈ lwX := lwX_in (tb_4 (List.mem_of_getElem? (i := 224) rfl)) rfl
set_option maxRecDepth 100000 in
theorem cw_56 : codeW 56 ∈ lwX := lwX_in (tb_3 (List.mem_of_getElem? (i := 210) rfl)) rfl
set_option maxRecDepth 100000 in
theorem cw_57 : codeW 57 ∈ lwX := lwX_in (tb_5 (List.mem_of_getElem? (i := 13) rfl)) rfl
set_option maxRecDepth 100000 in
theorem cw_58 : codeW 58 ∈ lwX := lwX_in (tb_2 (List.mem_of_getElem? (i := 100) rfl)) rfl
set_option maxRecDepth 100000 in
theorem cw_59 : codeW 59 ∈ lwX := lwX_in (tb_5 (List.mem_of_getElem? (i := 34) rfl)) rfl
set_option maxRecDepth 100000 in
theorem cw_60 : codeW 60 ∈ lwX := lwX_in (tb_5 (List.mem_of_getElem? (i := 39) rfl)) rfl
set_option maxRecDepth 100000 in
theorem cw_61 : codeW 61 ∈ lwX := lwX_in (tb_5 (List.mem_of_getElem? (i := 50) rfl)) rfl
set_option maxRecDepth 100000 in
theorem cw_62 : codeW 62 ∈ lwX := lwX_in (tb_5 (List.mem_of_getElem? (i := 54) rfl)) rfl
set_option maxRecDepth 100000 in
theorem cw_63 : codeW 63 ∈ lwX := lwX_in (tb_5 (List.mem_of_getElem? (i := 58) rfl)) rfl
theorem cwg_3 : ∀ w ∈ [codeW 48, codeW 49, codeW 50, codeW 51, codeW 52, codeW 53, codeW 54, codeW 55, codeW 56, codeW 57, codeW 58, codeW 59, codeW 60, codeW 61, codeW 62, codeW 63], w ∈ lwX := List.forall_mem_cons.mpr ⟨cw_48, List.forall_mem_cons.mpr ⟨cw_49, List.forall_mem_cons.mpr ⟨cw_50, List.forall_mem_cons.mpr ⟨cw_51, List.forall_mem_cons.mpr ⟨cw_52, List.forall_mem_cons.mpr ⟨cw_53, List.forall_mem_cons.mpr ⟨cw_54, List.forall_mem_cons.mpr ⟨cw_55, List.forall_mem_cons.mpr ⟨cw_56, List.forall_mem_cons.mpr ⟨cw_57, List.forall_mem_cons.mpr ⟨cw_58, List.forall_mem_cons.mpr ⟨cw_59, List.forall_mem_cons.mpr ⟨cw_60, List.forall_mem_cons.mpr ⟨cw_61, List.forall_mem_cons.mpr ⟨cw_62, List.forall_mem_cons.mpr ⟨cw_63, fun _ h => absurd h List.not_mem_nil⟩⟩⟩⟩⟩⟩⟩⟩⟩⟩⟩⟩⟩⟩⟩⟩
set_option maxRecDepth 100000 in
theorem cw_64 : codeW 64 ∈ lwX := lwX_in (tb_5 (List.mem_of_getElem? (i := 63) rfl)) rfl
set_option maxRecDepth 100000 in
theorem cw_65 : codeW 65 ∈ lwX := lwX_in (tb_5 (List.mem_of_getElem? (i := 67) rfl)) rfl
set_option maxRecDepth 100000 in
theorem cw_66 : codeW 66 ∈ lwX := lwX_in (tb_5 (List.mem_of_getElem? (i := 96) rfl)) rfl
set_option maxRecDepth 100000 in
theorem cw_67 : codeW 67 ∈ lwX := lwX_in (tb_5 (List.mem_of_getElem? (i := 201) rfl)) rfl
set_option maxRecDepth 100000 in
theorem cw_68 : codeW 68 ∈ lwX := lwX_in (tb_5 (List.mem_of_getElem? (i := 205) rfl)) rfl
set_option maxRecDepth 100000 in
theorem cw_69 : codeW 69 ∈ lwX := lwX_in (tb_5 (List.mem_of_getElem? (i := 211) rfl)) rfl
set_option maxRecDepth 100000 in
theorem cw_70 : codeW 70 ∈ lwX := lwX_in (tb_5 (List.mem_of_getElem? (i := 215) rfl)) rfl
set_option maxRecDepth 100000 in
theorem cw_71 : codeW 71 ∈ lwX := lwX_in (tb_5 (List.mem_of_getElem? (i := 221) rfl)) rfl
set_option maxRecDepth 100000 in
theorem cw_72 : codeW 72 ∈ lwX := lwX_in (tb_5 (List.mem_of_getElem? (i := 227) rfl)) rfl
set_option maxRecDepth 100000 in
theorem cw_73 : codeW 73 ∈ lwX := lwX_in (tb_1 (List.mem_of_getElem? (i := 91) rfl)) rfl
set_option maxRecDepth 100000 in
theorem cw_74 : codeW 74 ∈ lwX := lwX_in (tb_2 (List.mem_of_getElem? (i := 48) rfl)) rfl
set_option maxRecDepth 100000 in
theorem cw_75 : codeW 75 ∈ lwX := lwX_in (tb_2 (List.mem_of_getElem? (i := 44) rfl)) rfl
set_option maxRecDepth 100000 in
theorem cw_76 : codeW 76 ∈ lwX := lwX_in (tb_2 (List.mem_of_getElem? (i := 91) rfl)) rfl
set_option maxRecDepth 100000 in
theorem cw_77 : codeW 77 ∈ lwX := lwX_in (tb_2 (List.mem_of_getElem? (i := 56) rfl)) rfl
set_option maxRecDepth 100000 in
theorem cw_78 : codeW 78 ∈ lwX := lwX_in (tb_2 (List.mem_of_getElem? (i := 52) rfl)) rfl
set_option maxRecDepth 100000 in
theorem cw_79 : codeW 79 ∈ lwX := lwX_in (tb_3 (List.mem_of_getElem? (i := 234) rfl)) rfl
theorem cwg_4 : ∀ w ∈ [codeW 64, codeW 65, codeW 66, codeW 67, codeW 68, codeW 69, codeW 70, codeW 71, codeW 72, codeW 73, codeW 74, codeW 75, codeW 76, codeW 77, codeW 78, codeW 79], w ∈ lwX := List.forall_mem_cons.mpr ⟨cw_64, List.forall_mem_cons.mpr ⟨cw_65, List.forall_mem_cons.mpr ⟨cw_66, List.forall_mem_cons.mpr ⟨cw_67, List.forall_mem_cons.mpr ⟨cw_68, List.forall_mem_cons.mpr ⟨cw_69, List.forall_mem_cons.mpr ⟨cw_70, List.forall_mem_cons.mpr ⟨cw_71, List.forall_mem_cons.mpr ⟨cw_72, List.forall_mem_cons.mpr ⟨cw_73, List.forall_mem_cons.mpr ⟨cw_74, List.forall_mem_cons.mpr ⟨cw_75, List.forall_mem_cons.mpr ⟨cw_76, List.forall_mem_cons.mpr ⟨cw_77, List.forall_mem_cons.mpr ⟨cw_78, List.forall_mem_cons.mpr ⟨cw_79, fun _ h => absurd h List.not_mem_nil⟩⟩⟩⟩⟩⟩⟩⟩⟩⟩⟩⟩⟩⟩⟩⟩
set_option maxRecDepth 100000 in
theorem cw_80 : codeW 80 ∈ lwX := lwX_in (tb_2 (List.mem_of_getElem? (i := 111) rfl)) rfl
set_option maxRecDepth 100000 in
theorem cw_81 : codeW 81 ∈ lwX := lwX_in (tb_4 (List.mem_of_getElem? (i := 210) rfl)) rfl
set_option maxRecDepth 100000 in
theorem cw_82 : codeW 82 ∈ lwX := lwX_in (tb_3 (List.mem_of_getElem? (i := 139) rfl)) rfl
set_option maxRecDepth 100000 in
theorem cw_83 : codeW 83 ∈ lwX := lwX_in (tb_4 (List.mem_of_getElem? (i := 19) rfl)) rfl
set_option maxRecDepth 100000 in
theorem cw_84 : codeW 84 ∈ lwX := lwX_in (tb_2 (List.mem_of_getElem? (i := 137) rfl)) rfl
set_option maxRecDepth 100000 in
theorem cw_85 : codeW 85 ∈ lwX := lwX_in (tb_3 (List.mem_of_getElem? (i := 214) rfl)) rfl
set_option maxRecDepth 100000 in
theorem cw_86 : codeW 86 ∈ lwX := lwX_in (tb_2 (List.mem_of_getElem? (i := 147) rfl)) rfl
set_option maxRecDepth 100000 in
theorem cw_87 : codeW 87 ∈ lwX := lwX_in (tb_4 (List.mem_of_getElem? (i := 157) rfl)) rfl
set_option maxRecDepth 100000 in
theorem cw_88 : codeW 88 ∈ lwX := lwX_in (tb_4 (List.mem_of_getElem? (i := 153) rfl)) rfl
set_option maxRecDepth 100000 in
theorem cw_89 : codeW 89 ∈ lwX := lwX_in (tb_2 (List.mem_of_getElem? (i := 173) rfl)) rfl
set_option maxRecDepth 100000 in
theorem cw_90 : codeW 90 ∈ lwX := lwX_in (tb_2 (List.mem_of_getElem? (i := 123) rfl)) rfl
set_option maxRecDepth 100000 in
theorem cw_91 : codeW 91 ∈ lwX := lwX_in (tb_1 (List.mem_of_getElem? (i := 30) rfl)) rfl
set_option maxRecDepth 100000 in
theorem cw_92 : codeW 92 ∈ lwX := lwX_in (tb_2 (List.mem_of_getElem? (i := 28) rfl)) rfl
set_option maxRecDepth 100000 in
theorem cw_93 : codeW 93 ∈ lwX := lwX_in (tb_2 (List.mem_of_getElem? (i := 192) rfl)) rfl
set_option maxRecDepth 100000 in
theorem cw_94 : codeW 94 ∈ lwX := lwX_in (tb_3 (List.mem_of_getElem? (i := 76) rfl)) rfl
set_option maxRecDepth 100000 in
theorem cw_95 : codeW 95 ∈ lwX := lwX_in (tb_3 (List.mem_of_getElem? (i := 107) rfl)) rfl
theorem cwg_5 : ∀ w ∈ [codeW 80, codeW 81, codeW 82, codeW 83, codeW 84, codeW 85, codeW 86, codeW 87, codeW 88, codeW 89, codeW 90, codeW 91, codeW 92, codeW 93, codeW 94, codeW 95], w ∈ lwX := List.forall_mem_cons.mpr ⟨cw_80, List.forall_mem_cons.mpr ⟨cw_81, List.forall_mem_cons.mpr ⟨cw_82, List.forall_mem_cons.mpr ⟨cw_83, List.forall_mem_cons.mpr ⟨cw_84, List.forall_mem_cons.mpr ⟨cw_85, List.forall_mem_cons.mpr ⟨cw_86, List.forall_mem_cons.mpr ⟨cw_87, List.forall_mem_cons.mpr ⟨cw_88, List.forall_mem_cons.mpr ⟨cw_89, List.forall_mem_cons.mpr ⟨cw_90, List.forall_mem_cons.mpr ⟨cw_91, List.forall_mem_cons.mpr ⟨cw_92, List.forall_mem_cons.mpr ⟨cw_93, List.forall_mem_cons.mpr ⟨cw_94, List.forall_mem_cons.mpr ⟨cw_95, fun _ h => absurd h List.not_mem_nil⟩⟩⟩⟩⟩⟩⟩⟩⟩⟩⟩⟩⟩⟩⟩⟩
set_option maxRecDepth 100000 in
theorem cw_96 : codeW 96 ∈ lwX := lwX_in (tb_3 (List.mem_of_getElem? (i := 131) rfl)) rfl
set_option maxRecDepth 100000 in
theorem cw_97 : codeW 97 ∈ lwX := lwX_in (tb_3 (List.mem_of_getElem? (i := 151) rfl)) rfl
set_option maxRecDepth 100000 in
theorem cw_98 : codeW 98 ∈ lwX := lwX_in (tb_3 (List.mem_of_getElem? (i := 160) rfl)) rfl
set_option maxRecDepth 100000 in
theorem cw_99 : codeW 99 ∈ lwX := lwX_in (tb_3 (List.mem_of_getElem? (i := 187) rfl)) rfl
set_option maxRecDepth 100000 in
theorem cw_100 : codeW 100 ∈ lwX := lwX_in (tb_3 (List.mem_of_getElem? (i := 201) rfl)) rfl
set_option maxRecDepth 100000 in
theorem cw_101 : codeW 101 ∈ lwX := lwX_in (tb_3 (List.mem_of_getElem? (i := 224) rfl)) rfl
set_option maxRecDepth 100000 in
theorem cw_102 : codeW 102 ∈ lwX := lwX_in (tb_4 (List.mem_of_getElem? (i := 27) rfl)) rfl
set_option maxRecDepth 100000 in
theorem cw_103 : codeW 103 ∈ lwX := lwX_in (tb_4 (List.mem_of_getElem? (i := 44) rfl)) rfl
set_option maxRecDepth 100000 in
theorem cw_104 : codeW 104 ∈ lwX := lwX_in (tb_4 (List.mem_of_getElem? (i := 55) rfl)) rfl
set_option maxRecDepth 100000 in
theorem cw_105 : codeW 105 ∈ lwX := lwX_in (tb_4 (List.mem_of_getElem? (i := 62) rfl)) rfl
set_option maxRecDepth 100000 in
theorem cw_106 : codeW 106 ∈ lwX := lwX_in (tb_4 (List.mem_of_getElem? (i := 77) rfl)) rfl
set_option maxRecDepth 100000 in
theorem cw_107 : codeW 107 ∈ lwX := lwX_in (tb_4 (List.mem_of_getElem? (i := 93) rfl)) rfl
set_option maxRecDepth 100000 in
theorem cw_108 : codeW 108 ∈ lwX := lwX_in (tb_4 (List.mem_of_getElem? (i := 124) rfl)) rfl
set_option maxRecDepth 100000 in
theorem cw_109 : codeW 109 ∈ lwX := lwX_in (tb_4 (List.mem_of_getElem? (i := 132) rfl)) rfl
set_option maxRecDepth 100000 in
theorem cw_110 : codeW 110 ∈ lwX := lwX_in (tb_4 (List.mem_of_getElem? (i := 140) rfl)) rfl
set_option maxRecDepth 100000 in
theorem cw_111 : codeW 111 ∈ lwX := lwX_in (tb_4 (List.mem_of_getElem? (i := 165) rfl)) rfl
theorem cwg_6 : ∀ w ∈ [codeW 96, codeW 97, codeW 98, codeW 99, codeW 100, codeW 101, codeW 102, codeW 103, codeW 104, codeW 105, codeW 106, codeW 107, codeW 108, codeW 109, codeW 110, codeW 111], w ∈ lwX := List.forall_mem_cons.mpr ⟨cw_96, List.forall_mem_cons.mpr ⟨cw_97, List.forall_mem_cons.mpr ⟨cw_98, List.forall_mem_cons.mpr ⟨cw_99, List.forall_mem_cons.mpr ⟨cw_100, List.forall_mem_cons.mpr ⟨cw_101, List.forall_mem_cons.mpr ⟨cw_102, List.forall_mem_cons.mpr ⟨cw_103, List.forall_mem_cons.mpr ⟨cw_104, List.forall_mem_cons.mpr ⟨cw_105, List.forall_mem_cons.mpr ⟨cw_106, List.forall_mem_cons.mpr ⟨cw_107, List.forall_mem_cons.mpr ⟨cw_108, List.forall_mem_cons.mpr ⟨cw_109, List.forall_mem_cons.mpr ⟨cw_110, List.forall_mem_cons.mpr ⟨cw_111, fun _ h => absurd h List.not_mem_nil⟩⟩⟩⟩⟩⟩⟩⟩⟩⟩⟩⟩⟩⟩⟩⟩
set_option maxRecDepth 100000 in
theorem cw_112 : codeW 112 ∈ lwX := lwX_in (tb_4 (List.mem_of_getElem? (i := 176) rfl)) rfl
set_option maxRecDepth 100000 in
theorem cw_113 : codeW 113 ∈ lwX := lwX_in (tb_4 (List.mem_of_getElem? (i := 183) rfl)) rfl
set_option maxRecDepth 100000 in
theorem cw_114 : codeW 114 ∈ lwX := lwX_in (tb_4 (List.mem_of_getElem? (i := 192) rfl)) rfl
set_option maxRecDepth 100000 in
theorem cw_115 : codeW 115 ∈ lwX := lwX_in (tb_4 (List.mem_of_getElem? (i := 202) rfl)) rfl
set_option maxRecDepth 100000 in
theorem cw_116 : codeW 116 ∈ lwX := lwX_in (tb_4 (List.mem_of_getElem? (i := 220) rfl)) rfl
set_option maxRecDepth 100000 in
theorem cw_117 : codeW 117 ∈ lwX := lwX_in (tb_4 (List.mem_of_getElem? (i := 236) rfl)) rfl
set_option maxRecDepth 100000 in
theorem cw_118 : codeW 118 ∈ lwX := lwX_in (tb_5 (List.mem_of_getElem? (i := 8) rfl)) rfl
set_option maxRecDepth 100000 in
theorem cw_119 : codeW 119 ∈ lwX := lwX_in (tb_2 (List.mem_of_getElem? (i := 64) rfl)) rfl
set_option maxRecDepth 100000 in
theorem cw_120 : codeW 120 ∈ lwX := lwX_in (tb_5 (List.mem_of_getElem? (i := 21) rfl)) rfl
set_option maxRecDepth 100000 in
theorem cw_121 : codeW 121 ∈ lwX := lwX_in (tb_5 (List.mem_of_getElem? (i := 29) rfl)) rfl
set_option maxRecDepth 100000 in
theorem cw_122 : codeW 122 ∈ lwX := lwX_in (tb_5 (List.mem_of_getElem? (i := 46) rfl)) rfl
set_option maxRecDepth 100000 in
theorem cw_123 : codeW 123 ∈ lwX := lwX_in (tb_5 (List.mem_of_getElem? (i := 89) rfl)) rfl
set_option maxRecDepth 100000 in
theorem cw_124 : codeW 124 ∈ lwX := lwX_in (tb_5 (List.mem_of_getElem? (i := 103) rfl)) rfl
set_option maxRecDepth 100000 in
theorem cw_125 : codeW 125 ∈ lwX := lwX_in (tb_5 (List.mem_of_getElem? (i := 116) rfl)) rfl
set_option maxRecDepth 100000 in
theorem cw_126 : codeW 126 ∈ lwX := lwX_in (tb_6 (List.mem_of_getElem? (i := 1) rfl)) rfl
set_option maxRecDepth 100000 in
theorem cw_127 : codeW 127 ∈ lwX := lwX_in (tb_6 (List.mem_of_getElem? (i := 9) rfl)) rfl
theorem cwg_7 : ∀ w ∈ [codeW 112, codeW 113, codeW 114, codeW 115, codeW 116, codeW 117, codeW 118, codeW 119, codeW 120, codeW 121, codeW 122, codeW 123, codeW 124, codeW 125, codeW 126, codeW 127], w ∈ lwX := List.forall_mem_cons.mpr ⟨cw_112, List.forall_mem_cons.mpr ⟨cw_113, List.forall_mem_cons.mpr ⟨cw_114, List.forall_mem_cons.mpr ⟨cw_115, List.forall_mem_cons.mpr ⟨cw_116, List.forall_mem_cons.mpr ⟨cw_117, List.forall_mem_cons.mpr ⟨cw_118, List.forall_mem_cons.mpr ⟨cw_119, List.forall_mem_cons.mpr ⟨cw_120, List.forall_mem_cons.mpr ⟨cw_121, List.forall_mem_cons.mpr ⟨cw_122, List.forall_mem_cons.mpr ⟨cw_123, List.forall_mem_cons.mpr ⟨cw_124, List.forall_mem_cons.mpr ⟨cw_125, List.forall_mem_cons.mpr ⟨cw_126, List.forall_mem_cons.mpr ⟨cw_127, fun _ h => absurd h List.not_mem_nil⟩⟩⟩⟩⟩⟩⟩⟩⟩⟩⟩⟩⟩⟩⟩⟩
set_option maxRecDepth 100000 in
theorem cw_128 : codeW 128 ∈ lwX := lwX_in (tb_2 (List.mem_of_getElem? (i := 182) rfl)) rfl
set_option maxRecDepth 100000 in
theorem cw_129 : codeW 129 ∈ lwX := lwX_in (tb_6 (List.mem_of_getElem? (i := 22) rfl)) rfl
set_option maxRecDepth 100000 in
theorem cw_130 : codeW 130 ∈ lwX := lwX_in (tb_3 (List.mem_of_getElem? (i := 80) rfl)) rfl
set_option maxRecDepth 100000 in
theorem cw_131 : codeW 131 ∈ lwX := lwX_in (tb_3 (List.mem_of_getElem? (i := 205) rfl)) rfl
set_option maxRecDepth 100000 in
theorem cw_132 : codeW 132 ∈ lwX := lwX_in (tb_4 (List.mem_of_getElem? (i := 143) rfl)) rfl
set_option maxRecDepth 100000 in
theorem cw_133 : codeW 133 ∈ lwX := lwX_in (tb_3 (List.mem_of_getElem? (i := 110) rfl)) rfl
set_option maxRecDepth 100000 in
theorem cw_134 : codeW 134 ∈ lwX := lwX_in (tb_4 (List.mem_of_getElem? (i := 47) rfl)) rfl
set_option maxRecDepth 100000 in
theorem cw_135 : codeW 135 ∈ lwX := lwX_in (tb_3 (List.mem_of_getElem? (i := 238) rfl)) rfl
set_option maxRecDepth 100000 in
theorem cw_136 : codeW 136 ∈ lwX := lwX_in (tb_4 (List.mem_of_getElem? (i := 97) rfl)) rfl
set_option maxRecDepth 100000 in
theorem cw_137 : codeW 137 ∈ lwX := lwX_in (tb_2 (List.mem_of_getElem? (i := 103) rfl)) rfl
set_option maxRecDepth 100000 in
theorem cw_138 : codeW 138 ∈ lwX := lwX_in (tb_3 (List.mem_of_getElem? (i := 113) rfl)) rfl
set_option maxRecDepth 100000 in
theorem cw_139 : codeW 139 ∈ lwX := lwX_in (tb_6 (List.mem_of_getElem? (i := 28) rfl)) rfl
set_option maxRecDepth 100000 in
theorem cw_140 : codeW 140 ∈ lwX := lwX_in (tb_6 (List.mem_of_getElem? (i := 148) rfl)) rfl
set_option maxRecDepth 100000 in
theorem cw_141 : codeW 141 ∈ lwX := lwX_in (tb_6 (List.mem_of_getElem? (i := 163) rfl)) rfl
set_option maxRecDepth 100000 in
theorem cw_142 : codeW 142 ∈ lwX := lwX_in (tb_6 (List.mem_of_getElem? (i := 195) rfl)) rfl
set_option maxRecDepth 100000 in
theorem cw_143 : codeW 143 ∈ lwX := lwX_in (tb_6 (List.mem_of_getElem? (i := 159) rfl)) rfl
theorem cwg_8 : ∀ w ∈ [codeW 128, codeW 129, codeW 130, codeW 131, codeW 132, codeW 133, codeW 134, codeW 135, codeW 136, codeW 137, codeW 138, codeW 139, codeW 140, codeW 141, codeW 142, codeW 143], w ∈ lwX := List.forall_mem_cons.mpr ⟨cw_128, List.forall_mem_cons.mpr ⟨cw_129, List.forall_mem_cons.mpr ⟨cw_130, List.forall_mem_cons.mpr ⟨cw_131, List.forall_mem_cons.mpr ⟨cw_132, List.forall_mem_cons.mpr ⟨cw_133, List.forall_mem_cons.mpr ⟨cw_134, List.forall_mem_cons.mpr ⟨cw_135, List.forall_mem_cons.mpr ⟨cw_136, List.forall_mem_cons.mpr ⟨cw_137, List.forall_mem_cons.mpr ⟨cw_138, List.forall_mem_cons.mpr ⟨cw_139, List.forall_mem_cons.mpr ⟨cw_140, List.forall_mem_cons.mpr ⟨cw_141, List.forall_mem_cons.mpr ⟨cw_142, List.forall_mem_cons.mpr ⟨cw_143, fun _ h => absurd h List.not_mem_nil⟩⟩⟩⟩⟩⟩⟩⟩⟩⟩⟩⟩⟩⟩⟩⟩
set_option maxRecDepth 100000 in
theorem cw_144 : codeW 144 ∈ lwX := lwX_in (tb_7 (List.mem_of_getElem? (i := 0) rfl)) rfl
set_option maxRecDepth 100000 in
theorem cw_145 : codeW 145 ∈ lwX := lwX_in (tb_6 (List.mem_of_getElem? (i := 191) rfl)) rfl
set_option maxRecDepth 100000 in
theorem cw_146 : codeW 146 ∈ lwX := lwX_in (tb_6 (List.mem_of_getElem? (i := 209) rfl)) rfl
set_option maxRecDepth 100000 in
theorem cw_147 : codeW 147 ∈ lwX := lwX_in (tb_6 (List.mem_of_getElem? (i := 213) rfl)) rfl
set_option maxRecDepth 100000 in
theorem cw_148 : codeW 148 ∈ lwX := lwX_in (tb_6 (List.mem_of_getElem? (i := 199) rfl)) rfl
set_option maxRecDepth 100000 in
theorem cw_149 : codeW 149 ∈ lwX := lwX_in (tb_7 (List.mem_of_getElem? (i := 43) rfl)) rfl
set_option maxRecDepth 100000 in
theorem cw_150 : codeW 150 ∈ lwX := lwX_in (tb_6 (List.mem_of_getElem? (i := 225) rfl)) rfl
set_option maxRecDepth 100000 in
theorem cw_151 : codeW 151 ∈ lwX := lwX_in (tb_7 (List.mem_of_getElem? (i := 19) rfl)) rfl
set_option maxRecDepth 100000 in
theorem cw_152 : codeW 152 ∈ lwX := lwX_in (tb_6 (List.mem_of_getElem? (i := 229) rfl)) rfl
set_option maxRecDepth 100000 in
theorem cw_153 : codeW 153 ∈ lwX := lwX_in (tb_7 (List.mem_of_getElem? (i := 55) rfl)) rfl
set_option maxRecDepth 100000 in
theorem cw_154 : codeW 154 ∈ lwX := lwX_in (tb_7 (List.mem_of_getElem? (i := 51) rfl)) rfl
set_option maxRecDepth 100000 in
theorem cw_155 : codeW 155 ∈ lwX := lwX_in (tb_7 (List.mem_of_getElem? (i := 89) rfl)) rfl
set_option maxRecDepth 100000 in
theorem cw_156 : codeW 156 ∈ lwX := lwX_in (tb_7 (List.mem_of_getElem? (i := 85) rfl)) rfl
set_option maxRecDepth 100000 in
theorem cw_157 : codeW 157 ∈ lwX := lwX_in (tb_7 (List.mem_of_getElem? (i := 69) rfl)) rfl
set_option maxRecDepth 100000 in
theorem cw_158 : codeW 158 ∈ lwX := lwX_in (tb_7 (List.mem_of_getElem? (i := 15) rfl)) rfl
set_option maxRecDepth 100000 in
theorem cw_159 : codeW 159 ∈ lwX := lwX_in (tb_7 (List.mem_of_getElem? (i := 11) rfl)) rfl
theorem cwg_9 : ∀ w ∈ [codeW 144, codeW 145, codeW 146, codeW 147, codeW 148, codeW 149, codeW 150, codeW 151, codeW 152, codeW 153, codeW 154, codeW 155, codeW 156, codeW 157, codeW 158, codeW 159], w ∈ lwX := List.forall_mem_cons.mpr ⟨cw_144, List.forall_mem_cons.mpr ⟨cw_145, List.forall_mem_cons.mpr ⟨cw_146, List.forall_mem_cons.mpr ⟨cw_147, List.forall_mem_cons.mpr ⟨cw_148, List.forall_mem_cons.mpr ⟨cw_149, List.forall_mem_cons.mpr ⟨cw_150, List.forall_mem_cons.mpr ⟨cw_151, List.forall_mem_cons.mpr ⟨cw_152, List.forall_mem_cons.mpr ⟨cw_153, List.forall_mem_cons.mpr ⟨cw_154, List.forall_mem_cons.mpr ⟨cw_155, List.forall_mem_cons.mpr ⟨cw_156, List.forall_mem_cons.mpr ⟨cw_157, List.forall_mem_cons.mpr ⟨cw_158, List.forall_mem_cons.mpr ⟨cw_159, fun _ h => absurd h List.not_mem_nil⟩⟩⟩⟩⟩⟩⟩⟩⟩⟩⟩⟩⟩⟩⟩⟩
set_option maxRecDepth 100000 in
theorem cw_160 : codeW 160 ∈ lwX := lwX_in (tb_7 (List.mem_of_getElem? (i := 65) rfl)) rfl
set_option maxRecDepth 100000 in
theorem cw_161 : codeW 161 ∈ lwX := lwX_in (tb_7 (List.mem_of_getElem? (i := 35) rfl)) rfl
set_option maxRecDepth 100000 in
theorem cw_162 : codeW 162 ∈ lwX := lwX_in (tb_7 (List.mem_of_getElem? (i := 81) rfl)) rfl
set_option maxRecDepth 100000 in
theorem cw_163 : codeW 163 ∈ lwX := lwX_in (tb_7 (List.mem_of_getElem? (i := 143) rfl)) rfl
set_option maxRecDepth 100000 in
theorem cw_164 : codeW 164 ∈ lwX := lwX_in (tb_7 (List.mem_of_getElem? (i := 139) rfl)) rfl
set_option maxRecDepth 100000 in
theorem cw_165 : codeW 165 ∈ lwX := lwX_in (tb_7 (List.mem_of_getElem? (i := 149) rfl)) rfl
set_option maxRecDepth 100000 in
theorem cw_166 : codeW 166 ∈ lwX := lwX_in (tb_7 (List.mem_of_getElem? (i := 165) rfl)) rfl
set_option maxRecDepth 100000 in
theorem cw_167 : codeW 167 ∈ lwX := lwX_in (tb_6 (List.mem_of_getElem? (i := 152) rfl)) rfl
set_option maxRecDepth 100000 in
theorem cw_168 : codeW 168 ∈ lwX := lwX_in (tb_6 (List.mem_of_getElem? (i := 156) rfl)) rfl
set_option maxRecDepth 100000 in
theorem cw_169 : codeW 169 ∈ lwX := lwX_in (tb_6 (List.mem_of_getElem? (i := 202) rfl)) rfl
set_option maxRecDepth 100000 in
theorem cw_170 : codeW 170 ∈ lwX := lwX_in (tb_6 (List.mem_of_getElem? (i := 187) rfl)) rfl
set_option maxRecDepth 100000 in
theorem cw_171 : codeW 171 ∈ lwX := lwX_in (tb_6 (List.mem_of_getElem? (i := 206) rfl)) rfl
set_option maxRecDepth 100000 in
theorem cw_172 : codeW 172 ∈ lwX := lwX_in (tb_6 (List.mem_of_getElem? (i := 221) rfl)) rfl
set_option maxRecDepth 100000 in
theorem cw_173 : codeW 173 ∈ lwX := lwX_in (tb_6 (List.mem_of_getElem? (i := 233) rfl)) rfl
set_option maxRecDepth 100000 in
theorem cw_174 : codeW 174 ∈ lwX := lwX_in (tb_6 (List.mem_of_getElem? (i := 237) rfl)) rfl
set_option maxRecDepth 100000 in
theorem cw_175 : codeW 175 ∈ lwX := lwX_in (tb_6 (List.mem_of_getElem? (i := 217) rfl)) rfl
theorem cwg_10 : ∀ w ∈ [codeW 160, codeW 161, codeW 162, codeW 163, codeW 164, codeW 165, codeW 166, codeW 167, codeW 168, codeW 169, codeW 170, codeW 171, codeW 172, codeW 173, codeW 174, codeW 175], w ∈ lwX := List.forall_mem_cons.mpr ⟨cw_160, List.forall_mem_cons.mpr ⟨cw_161, List.forall_mem_cons.mpr ⟨cw_162, List.forall_mem_cons.mpr ⟨cw_163, List.forall_mem_cons.mpr ⟨cw_164, List.forall_mem_cons.mpr ⟨cw_165, List.forall_mem_cons.mpr ⟨cw_166, List.forall_mem_cons.mpr ⟨cw_167, List.forall_mem_cons.mpr ⟨cw_168, List.forall_mem_cons.mpr ⟨cw_169, List.forall_mem_cons.mpr ⟨cw_170, List.forall_mem_cons.mpr ⟨cw_171, List.forall_mem_cons.mpr ⟨cw_172, List.forall_mem_cons.mpr ⟨cw_173, List.forall_mem_cons.mpr ⟨cw_174, List.forall_mem_cons.mpr ⟨cw_175, fun _ h => absurd h List.not_mem_nil⟩⟩⟩⟩⟩⟩⟩⟩⟩⟩⟩⟩⟩⟩⟩⟩
set_option maxRecDepth 100000 in
theorem cw_176 : codeW 176 ∈ lwX := lwX_in (tb_7 (List.mem_of_getElem? (i := 7) rfl)) rfl
set_option maxRecDepth 100000 in
theorem cw_177 : codeW 177 ∈ lwX := lwX_in (tb_7 (List.mem_of_getElem? (i := 4) rfl)) rfl
set_option maxRecDepth 100000 in
theorem cw_178 : codeW 178 ∈ lwX := lwX_in (tb_7 (List.mem_of_getElem? (i := 27) rfl)) rfl
set_option maxRecDepth 100000 in
theorem cw_179 : codeW 179 ∈ lwX := lwX_in (tb_7 (List.mem_of_getElem? (i := 23) rfl)) rfl
set_option maxRecDepth 100000 in
theorem cw_180 : codeW 180 ∈ lwX := lwX_in (tb_7 (List.mem_of_getElem? (i := 31) rfl)) rfl
set_option maxRecDepth 100000 in
theorem cw_181 : codeW 181 ∈ lwX := lwX_in (tb_7 (List.mem_of_getElem? (i := 47) rfl)) rfl
set_option maxRecDepth 100000 in
theorem cw_182 : codeW 182 ∈ lwX := lwX_in (tb_7 (List.mem_of_getElem? (i := 39) rfl)) rfl
set_option maxRecDepth 100000 in
theorem cw_183 : codeW 183 ∈ lwX := lwX_in (tb_7 (List.mem_of_getElem? (i := 73) rfl)) rfl
set_option maxRecDepth 100000 in
theorem cw_184 : codeW 184 ∈ lwX := lwX_in (tb_7 (List.mem_of_getElem? (i := 61) rfl)) rfl
set_option maxRecDepth 100000 in
theorem cw_185 : codeW 185 ∈ lwX := lwX_in (tb_7 (List.mem_of_getElem? (i := 77) rfl)) rfl
set_option maxRecDepth 100000 in
theorem cw_186 : codeW 186 ∈ lwX := lwX_in (tb_7 (List.mem_of_getElem? (i := 93) rfl)) rfl
set_option maxRecDepth 100000 in
theorem cw_187 : codeW 187 ∈ lwX := lwX_in (tb_7 (List.mem_of_getElem? (i := 97) rfl)) rfl
set_option maxRecDepth 100000 in
theorem cw_188 : codeW 188 ∈ lwX := lwX_in (tb_7 (List.mem_of_getElem? (i := 101) rfl)) rfl
set_option maxRecDepth 100000 in
theorem cw_189 : codeW 189 ∈ lwX := lwX_in (tb_7 (List.mem_of_getElem? (i := 105) rfl)) rfl
set_option maxRecDepth 100000 in
theorem cw_190 : codeW 190 ∈ lwX := lwX_in (tb_7 (List.mem_of_getElem? (i := 120) rfl)) rfl
set_option maxRecDepth 100000 in
theorem cw_191 : codeW 191 ∈ lwX := lwX_in (tb_7 (List.mem_of_getElem? (i := 116) rfl)) rfl
theorem cwg_11 : ∀ w ∈ [codeW 176, codeW 177, codeW 178, codeW 179, codeW 180, codeW 181, codeW 182, codeW 183, codeW 184, codeW 185, codeW 186, codeW 187, codeW 188, codeW 189, codeW 190, codeW 191], w ∈ lwX := List.forall_mem_cons.mpr ⟨cw_176, List.forall_mem_cons.mpr ⟨cw_177, List.forall_mem_cons.mpr ⟨cw_178, List.forall_mem_cons.mpr ⟨cw_179, List.forall_mem_cons.mpr ⟨cw_180, List.forall_mem_cons.mpr ⟨cw_181, List.forall_mem_cons.mpr ⟨cw_182, List.forall_mem_cons.mpr ⟨cw_183, List.forall_mem_cons.mpr ⟨cw_184, List.forall_mem_cons.mpr ⟨cw_185, List.forall_mem_cons.mpr ⟨cw_186, List.forall_mem_cons.mpr ⟨cw_187, List.forall_mem_cons.mpr ⟨cw_188, List.forall_mem_cons.mpr ⟨cw_189, List.forall_mem_cons.mpr ⟨cw_190, List.forall_mem_cons.mpr ⟨cw_191, fun _ h => absurd h List.not_mem_nil⟩⟩⟩⟩⟩⟩⟩⟩⟩⟩⟩⟩⟩⟩⟩⟩
set_option maxRecDepth 100000 in
theorem cw_192 : codeW 192 ∈ lwX := lwX_in (tb_7 (List.mem_of_getElem? (i := 113) rfl)) rfl
set_option maxRecDepth 100000 in
theorem cw_193 : codeW 193 ∈ lwX := lwX_in (tb_7 (List.mem_of_getElem? (i := 109) rfl)) rfl
set_option maxRecDepth 100000 in
theorem cw_194 : codeW 194 ∈ lwX := lwX_in (tb_7 (List.mem_of_getElem? (i := 124) rfl)) rfl
set_option maxRecDepth 100000 in
theorem cw_195 : codeW 195 ∈ lwX := lwX_in (tb_7 (List.mem_of_getElem? (i := 128) rfl)) rfl
set_option maxRecDepth 100000 in
theorem cw_196 : codeW 196 ∈ lwX := lwX_in (tb_7 (List.mem_of_getElem? (i := 135) rfl)) rfl
set_option maxRecDepth 100000 in
theorem cw_197 : codeW 197 ∈ lwX := lwX_in (tb_7 (List.mem_of_getElem? (i := 132) rfl)) rfl
set_option maxRecDepth 100000 in
theorem cw_198 : codeW 198 ∈ lwX := lwX_in (tb_7 (List.mem_of_getElem? (i := 153) rfl)) rfl
set_option maxRecDepth 100000 in
theorem cw_199 : codeW 199 ∈ lwX := lwX_in (tb_7 (List.mem_of_getElem? (i := 157) rfl)) rfl
set_option maxRecDepth 100000 in
theorem cw_200 : codeW 200 ∈ lwX := lwX_in (tb_7 (List.mem_of_getElem? (i := 161) rfl)) rfl
set_option maxRecDepth 100000 in
theorem cw_201 : codeW 201 ∈ lwX := lwX_in (tb_7 (List.mem_of_getElem? (i := 169) rfl)) rfl
set_option maxRecDepth 100000 in
theorem cw_202 : codeW 202 ∈ lwX := lwX_in (tb_7 (List.mem_of_getElem? (i := 177) rfl)) rfl
set_option maxRecDepth 100000 in
theorem cw_203 : codeW 203 ∈ lwX := lwX_in (tb_7 (List.mem_of_getElem? (i := 173) rfl)) rfl
set_option maxRecDepth 100000 in
theorem cw_204 : codeW 204 ∈ lwX := lwX_in (tb_7 (List.mem_of_getElem? (i := 185) rfl)) rfl
set_option maxRecDepth 100000 in
theorem cw_205 : codeW 205 ∈ lwX := lwX_in (tb_7 (List.mem_of_getElem? (i := 189) rfl)) rfl
set_option maxRecDepth 100000 in
theorem cw_206 : codeW 206 ∈ lwX := lwX_in (tb_7 (List.mem_of_getElem? (i := 181) rfl)) rfl
set_option maxRecDepth 100000 in
theorem cw_207 : codeW 207 ∈ lwX := lwX_in (tb_7 (List.mem_of_getElem? (i := 193) rfl)) rfl
theorem cwg_12 : ∀ w ∈ [codeW 192, codeW 193, codeW 194, codeW 195, codeW 196, codeW 197, codeW 198, codeW 199, codeW 200, codeW 201, codeW 202, codeW 203, codeW 204, codeW 205, codeW 206, codeW 207], w ∈ lwX := List.forall_mem_cons.mpr ⟨cw_192, List.forall_mem_cons.mpr ⟨cw_193, List.forall_mem_cons.mpr ⟨cw_194, List.forall_mem_cons.mpr ⟨cw_195, List.forall_mem_cons.mpr ⟨cw_196, List.forall_mem_cons.mpr ⟨cw_197, List.forall_mem_cons.mpr ⟨cw_198, List.forall_mem_cons.mpr ⟨cw_199, List.forall_mem_cons.mpr ⟨cw_200, List.forall_mem_cons.mpr ⟨cw_201, List.forall_mem_cons.mpr ⟨cw_202, List.forall_mem_cons.mpr ⟨cw_203, List.forall_mem_cons.mpr ⟨cw_204, List.forall_mem_cons.mpr ⟨cw_205, List.forall_mem_cons.mpr ⟨cw_206, List.forall_mem_cons.mpr ⟨cw_207, fun _ h => absurd h List.not_mem_nil⟩⟩⟩⟩⟩⟩⟩⟩⟩⟩⟩⟩⟩⟩⟩⟩
set_option maxRecDepth 100000 in
theorem cw_208 : codeW 208 ∈ lwX := lwX_in (tb_7 (List.mem_of_getElem? (i := 197) rfl)) rfl
set_option maxRecDepth 100000 in
theorem cw_209 : codeW 209 ∈ lwX := lwX_in (tb_7 (List.mem_of_getElem? (i := 201) rfl)) rfl
set_option maxRecDepth 100000 in
theorem cw_210 : codeW 210 ∈ lwX := lwX_in (tb_7 (List.mem_of_getElem? (i := 205) rfl)) rfl
set_option maxRecDepth 100000 in
theorem cw_211 : codeW 211 ∈ lwX := lwX_in (tb_7 (List.mem_of_getElem? (i := 213) rfl)) rfl
set_option maxRecDepth 100000 in
theorem cw_212 : codeW 212 ∈ lwX := lwX_in (tb_7 (List.mem_of_getElem? (i := 209) rfl)) rfl
set_option maxRecDepth 100000 in
theorem cw_213 : codeW 213 ∈ lwX := lwX_in (tb_7 (List.mem_of_getElem? (i := 225) rfl)) rfl
set_option maxRecDepth 100000 in
theorem cw_214 : codeW 214 ∈ lwX := lwX_in (tb_7 (List.mem_of_getElem? (i := 221) rfl)) rfl
set_option maxRecDepth 100000 in
theorem cw_215 : codeW 215 ∈ lwX := lwX_in (tb_7 (List.mem_of_getElem? (i := 217) rfl)) rfl
set_option maxRecDepth 100000 in
theorem cw_216 : codeW 216 ∈ lwX := lwX_in (tb_7 (List.mem_of_getElem? (i := 229) rfl)) rfl
set_option maxRecDepth 100000 in
theorem cw_217 : codeW 217 ∈ lwX := lwX_in (tb_7 (List.mem_of_getElem? (i := 233) rfl)) rfl
set_option maxRecDepth 100000 in
theorem cw_218 : codeW 218 ∈ lwX := lwX_in (tb_8 (List.mem_of_getElem? (i := 9) rfl)) rfl
set_option maxRecDepth 100000 in
theorem cw_219 : codeW 219 ∈ lwX := lwX_in (tb_8 (List.mem_of_getElem? (i := 17) rfl)) rfl
set_option maxRecDepth 100000 in
theorem cw_220 : codeW 220 ∈ lwX := lwX_in (tb_8 (List.mem_of_getElem? (i := 13) rfl)) rfl
set_option maxRecDepth 100000 in
theorem cw_221 : codeW 221 ∈ lwX := lwX_in (tb_8 (List.mem_of_getElem? (i := 5) rfl)) rfl
set_option maxRecDepth 100000 in
theorem cw_222 : codeW 222 ∈ lwX := lwX_in (tb_8 (List.mem_of_getElem? (i := 1) rfl)) rfl
set_option maxRecDepth 100000 in
theorem cw_223 : codeW 223 ∈ lwX := lwX_in (tb_8 (List.mem_of_getElem? (i := 21) rfl)) rfl
theorem cwg_13 : ∀ w ∈ [codeW 208, codeW 209, codeW 210, codeW 211, codeW 212, codeW 213, codeW 214, codeW 215, codeW 216, codeW 217, codeW 218, codeW 219, codeW 220, codeW 221, codeW 222, codeW 223], w ∈ lwX := List.forall_mem_cons.mpr ⟨cw_208, List.forall_mem_cons.mpr ⟨cw_209, List.forall_mem_cons.mpr ⟨cw_210, List.forall_mem_cons.mpr ⟨cw_211, List.forall_mem_cons.mpr ⟨cw_212, List.forall_mem_cons.mpr ⟨cw_213, List.forall_mem_cons.mpr ⟨cw_214, List.forall_mem_cons.mpr ⟨cw_215, List.forall_mem_cons.mpr ⟨cw_216, List.forall_mem_cons.mpr ⟨cw_217, List.forall_mem_cons.mpr ⟨cw_218, List.forall_mem_cons.mpr ⟨cw_219, List.forall_mem_cons.mpr ⟨cw_220, List.forall_mem_cons.mpr ⟨cw_221, List.forall_mem_cons.mpr ⟨cw_222, List.forall_mem_cons.mpr ⟨cw_223, fun _ h => absurd h List.not_mem_nil⟩⟩⟩⟩⟩⟩⟩⟩⟩⟩⟩⟩⟩⟩⟩⟩
set_option maxRecDepth 100000 in
theorem cw_224 : codeW 224 ∈ lwX := lwX_in (tb_7 (List.mem_of_getElem? (i := 237) rfl)) rfl
set_option maxRecDepth 100000 in
theorem cw_225 : codeW 225 ∈ lwX := lwX_in (tb_8 (List.mem_of_getElem? (i := 30) rfl)) rfl
set_option maxRecDepth 100000 in
theorem cw_226 : codeW 226 ∈ lwX := lwX_in (tb_6 (List.mem_of_getElem? (i := 179) rfl)) rfl
set_option maxRecDepth 100000 in
theorem cw_227 : codeW 227 ∈ lwX := lwX_in (tb_6 (List.mem_of_getElem? (i := 183) rfl)) rfl
set_option maxRecDepth 100000 in
theorem cw_228 : codeW 228 ∈ lwX := lwX_in (tb_6 (List.mem_of_getElem? (i := 175) rfl)) rfl
set_option maxRecDepth 100000 in
theorem cw_229 : codeW 229 ∈ lwX := lwX_in (tb_6 (List.mem_of_getElem? (i := 171) rfl)) rfl
set_option maxRecDepth 100000 in
theorem cw_230 : codeW 230 ∈ lwX := lwX_in (tb_6 (List.mem_of_getElem? (i := 167) rfl)) rfl
set_option maxRecDepth 100000 in
theorem cw_231 : codeW 231 ∈ lwX := lwX_in (tb_8 (List.mem_of_getElem? (i := 34) rfl)) rfl
set_option maxRecDepth 100000 in
theorem cw_232 : codeW 232 ∈ lwX := lwX_in (tb_8 (List.mem_of_getElem? (i := 38) rfl)) rfl
set_option maxRecDepth 100000 in
theorem cw_233 : codeW 233 ∈ lwX := lwX_in (tb_8 (List.mem_of_getElem? (i := 42) rfl)) rfl
set_option maxRecDepth 100000 in
theorem cw_234 : codeW 234 ∈ lwX := lwX_in (tb_2 (List.mem_of_getElem? (i := 130) rfl)) rfl
set_option maxRecDepth 100000 in
theorem cw_235 : codeW 235 ∈ lwX := lwX_in (tb_5 (List.mem_of_getElem? (i := 147) rfl)) rfl
set_option maxRecDepth 100000 in
theorem cw_236 : codeW 236 ∈ lwX := lwX_in (tb_5 (List.mem_of_getElem? (i := 128) rfl)) rfl
set_option maxRecDepth 100000 in
theorem cw_237 : codeW 237 ∈ lwX := lwX_in (tb_5 (List.mem_of_getElem? (i := 157) rfl)) rfl
set_option maxRecDepth 100000 in
theorem cw_238 : codeW 238 ∈ lwX := lwX_in (tb_5 (List.mem_of_getElem? (i := 151) rfl)) rfl
set_option maxRecDepth 100000 in
theorem cw_239 : codeW 239 ∈ lwX := lwX_in (tb_5 (List.mem_of_getElem? (i := 161) rfl)) rfl
theorem cwg_14 : ∀ w ∈ [codeW 224, codeW 225, codeW 226, codeW 227, codeW 228, codeW 229, codeW 230, codeW 231, codeW 232, codeW 233, codeW 234, codeW 235, codeW 236, codeW 237, codeW 238, codeW 239], w ∈ lwX := List.forall_mem_cons.mpr ⟨cw_224, List.forall_mem_cons.mpr ⟨cw_225, List.forall_mem_cons.mpr ⟨cw_226, List.forall_mem_cons.mpr ⟨cw_227, List.forall_mem_cons.mpr ⟨cw_228, List.forall_mem_cons.mpr ⟨cw_229, List.forall_mem_cons.mpr ⟨cw_230, List.forall_mem_cons.mpr ⟨cw_231, List.forall_mem_cons.mpr ⟨cw_232, List.forall_mem_cons.mpr ⟨cw_233, List.forall_mem_cons.mpr ⟨cw_234, List.forall_mem_cons.mpr ⟨cw_235, List.forall_mem_cons.mpr ⟨cw_236, List.forall_mem_cons.mpr ⟨cw_237, List.forall_mem_cons.mpr ⟨cw_238, List.forall_mem_cons.mpr ⟨cw_239, fun _ h => absurd h List.not_mem_nil⟩⟩⟩⟩⟩⟩⟩⟩⟩⟩⟩⟩⟩⟩⟩⟩
set_option maxRecDepth 100000 in
theorem cw_240 : codeW 240 ∈ lwX := lwX_in (tb_5 (List.mem_of_getElem? (i := 167) rfl)) rfl
set_option maxRecDepth 100000 in
theorem cw_241 : codeW 241 ∈ lwX := lwX_in (tb_5 (List.mem_of_getElem? (i := 164) rfl)) rfl
set_option maxRecDepth 100000 in
theorem cw_242 : codeW 242 ∈ lwX := lwX_in (tb_5 (List.mem_of_getElem? (i := 172) rfl)) rfl
set_option maxRecDepth 100000 in
theorem cw_243 : codeW 243 ∈ lwX := lwX_in (tb_2 (List.mem_of_getElem? (i := 186) rfl)) rfl
set_option maxRecDepth 100000 in
theorem cw_244 : codeW 244 ∈ lwX := lwX_in (tb_3 (List.mem_of_getElem? (i := 48) rfl)) rfl
set_option maxRecDepth 100000 in
theorem cw_245 : codeW 245 ∈ lwX := lwX_in (tb_3 (List.mem_of_getElem? (i := 103) rfl)) rfl
set_option maxRecDepth 100000 in
theorem cw_246 : codeW 246 ∈ lwX := lwX_in (tb_3 (List.mem_of_getElem? (i := 127) rfl)) rfl
set_option maxRecDepth 100000 in
theorem cw_247 : codeW 247 ∈ lwX := lwX_in (tb_3 (List.mem_of_getElem? (i := 147) rfl)) rfl
set_option maxRecDepth 100000 in
theorem cw_248 : codeW 248 ∈ lwX := lwX_in (tb_3 (List.mem_of_getElem? (i := 155) rfl)) rfl
set_option maxRecDepth 100000 in
theorem cw_249 : codeW 249 ∈ lwX := lwX_in (tb_3 (List.mem_of_getElem? (i := 183) rfl)) rfl
set_option maxRecDepth 100000 in
theorem cw_250 : codeW 250 ∈ lwX := lwX_in (tb_3 (List.mem_of_getElem? (i := 197) rfl)) rfl
set_option maxRecDepth 100000 in
theorem cw_251 : codeW 251 ∈ lwX := lwX_in (tb_3 (List.mem_of_getElem? (i := 219) rfl)) rfl
set_option maxRecDepth 100000 in
theorem cw_252 : codeW 252 ∈ lwX := lwX_in (tb_4 (List.mem_of_getElem? (i := 23) rfl)) rfl
set_option maxRecDepth 100000 in
theorem cw_253 : codeW 253 ∈ lwX := lwX_in (tb_4 (List.mem_of_getElem? (i := 40) rfl)) rfl
set_option maxRecDepth 100000 in
theorem cw_254 : codeW 254 ∈ lwX := lwX_in (tb_4 (List.mem_of_getElem? (i := 51) rfl)) rfl
set_option maxRecDepth 100000 in
theorem cw_255 : codeW 255 ∈ lwX := lwX_in (tb_4 (List.mem_of_getElem? (i := 58) rfl)) rfl
theorem cwg_15 : ∀ w ∈ [codeW 240, codeW 241, codeW 242, codeW 243, codeW 244, codeW 245, codeW 246, codeW 247, codeW 248, codeW 249, codeW 250, codeW 251, codeW 252, codeW 253, codeW 254, codeW 255], w ∈ lwX := List.forall_mem_cons.mpr ⟨cw_240, List.forall_mem_cons.mpr ⟨cw_241, List.forall_mem_cons.mpr ⟨cw_242, List.forall_mem_cons.mpr ⟨cw_243, List.forall_mem_cons.mpr ⟨cw_244, List.forall_mem_cons.mpr ⟨cw_245, List.forall_mem_cons.mpr ⟨cw_246, List.forall_mem_cons.mpr ⟨cw_247, List.forall_mem_cons.mpr ⟨cw_248, List.forall_mem_cons.mpr ⟨cw_249, List.forall_mem_cons.mpr ⟨cw_250, List.forall_mem_cons.mpr ⟨cw_251, List.forall_mem_cons.mpr ⟨cw_252, List.forall_mem_cons.mpr ⟨cw_253, List.forall_mem_cons.mpr ⟨cw_254, List.forall_mem_cons.mpr ⟨cw_255, fun _ h => absurd h List.not_mem_nil⟩⟩⟩⟩⟩⟩⟩⟩⟩⟩⟩⟩⟩⟩⟩⟩
set_option maxRecDepth 100000 in
theorem cw_256 : codeW 256 ∈ lwX := lwX_in (tb_4 (List.mem_of_getElem? (i := 73) rfl)) rfl
set_option maxRecDepth 100000 in
theorem cw_257 : codeW 257 ∈ lwX := lwX_in (tb_4 (List.mem_of_getElem? (i := 89) rfl)) rfl
set_option maxRecDepth 100000 in
theorem cw_258 : codeW 258 ∈ lwX := lwX_in (tb_4 (List.mem_of_getElem? (i := 120) rfl)) rfl
set_option maxRecDepth 100000 in
theorem cw_259 : codeW 259 ∈ lwX := lwX_in (tb_4 (List.mem_of_getElem? (i := 128) rfl)) rfl
set_option maxRecDepth 100000 in
theorem cw_260 : codeW 260 ∈ lwX := lwX_in (tb_4 (List.mem_of_getElem? (i := 136) rfl)) rfl
set_option maxRecDepth 100000 in
theorem cw_261 : codeW 261 ∈ lwX := lwX_in (tb_4 (List.mem_of_getElem? (i := 161) rfl)) rfl
set_option maxRecDepth 100000 in
theorem cw_262 : codeW 262 ∈ lwX := lwX_in (tb_4 (List.mem_of_getElem? (i := 172) rfl)) rfl
set_option maxRecDepth 100000 in
theorem cw_263 : codeW 263 ∈ lwX := lwX_in (tb_4 (List.mem_of_getElem? (i := 179) rfl)) rfl
set_option maxRecDepth 100000 in
theorem cw_264 : codeW 264 ∈ lwX := lwX_in (tb_4 (List.mem_of_getElem? (i := 188) rfl)) rfl
set_option maxRecDepth 100000 in
theorem cw_265 : codeW 265 ∈ lwX := lwX_in (tb_4 (List.mem_of_getElem? (i := 198) rfl)) rfl
set_option maxRecDepth 100000 in
theorem cw_266 : codeW 266 ∈ lwX := lwX_in (tb_4 (List.mem_of_getElem? (i := 216) rfl)) rfl
set_option maxRecDepth 100000 in
theorem cw_267 : codeW 267 ∈ lwX := lwX_in (tb_4 (List.mem_of_getElem? (i := 232) rfl)) rfl
set_option maxRecDepth 100000 in
theorem cw_268 : codeW 268 ∈ lwX := lwX_in (tb_5 (List.mem_of_getElem? (i := 4) rfl)) rfl
set_option maxRecDepth 100000 in
theorem cw_269 : codeW 269 ∈ lwX := lwX_in (tb_5 (List.mem_of_getElem? (i := 17) rfl)) rfl
set_option maxRecDepth 100000 in
theorem cw_270 : codeW 270 ∈ lwX := lwX_in (tb_5 (List.mem_of_getElem? (i := 25) rfl)) rfl
set_option maxRecDepth 100000 in
theorem cw_271 : codeW 271 ∈ lwX := lwX_in (tb_5 (List.mem_of_getElem? (i := 42) rfl)) rfl
theorem cwg_16 : ∀ w ∈ [codeW 256, codeW 257, codeW 258, codeW 259, codeW 260, codeW 261, codeW 262, codeW 263, codeW 264, codeW 265, codeW 266, codeW 267, codeW 268, codeW 269, codeW 270, codeW 271], w ∈ lwX := List.forall_mem_cons.mpr ⟨cw_256, List.forall_mem_cons.mpr ⟨cw_257, List.forall_mem_cons.mpr ⟨cw_258, List.forall_mem_cons.mpr ⟨cw_259, List.forall_mem_cons.mpr ⟨cw_260, List.forall_mem_cons.mpr ⟨cw_261, List.forall_mem_cons.mpr ⟨cw_262, List.forall_mem_cons.mpr ⟨cw_263, List.forall_mem_cons.mpr ⟨cw_264, List.forall_mem_cons.mpr ⟨cw_265, List.forall_mem_cons.mpr ⟨cw_266, List.forall_mem_cons.mpr ⟨cw_267, List.forall_mem_cons.mpr ⟨cw_268, List.forall_mem_cons.mpr ⟨cw_269, List.forall_mem_cons.mpr ⟨cw_270, List.forall_mem_cons.mpr ⟨cw_271, fun _ h => absurd h List.not_mem_nil⟩⟩⟩⟩⟩⟩⟩⟩⟩⟩⟩⟩⟩⟩⟩⟩
set_option maxRecDepth 100000 in
theorem cw_272 : codeW 272 ∈ lwX := lwX_in (tb_5 (List.mem_of_getElem? (i := 71) rfl)) rfl
set_option maxRecDepth 100000 in
theorem cw_273 : codeW 273 ∈ lwX := lwX_in (tb_5 (List.mem_of_getElem? (i := 99) rfl)) rfl
set_option maxRecDepth 100000 in
theorem cw_274 : codeW 274 ∈ lwX := lwX_in (tb_5 (List.mem_of_getElem? (i := 112) rfl)) rfl
set_option maxRecDepth 100000 in
theorem cw_275 : codeW 275 ∈ lwX := lwX_in (tb_5 (List.mem_of_getElem? (i := 237) rfl)) rfl
set_option maxRecDepth 100000 in
theorem cw_276 : codeW 276 ∈ lwX := lwX_in (tb_6 (List.mem_of_getElem? (i := 5) rfl)) rfl
set_option maxRecDepth 100000 in
theorem cw_277 : codeW 277 ∈ lwX := lwX_in (tb_6 (List.mem_of_getElem? (i := 18) rfl)) rfl
theorem cwg_17 : ∀ w ∈ [codeW 272, codeW 273, codeW 274, codeW 275, codeW 276, codeW 277], w ∈ lwX := List.forall_mem_cons.mpr ⟨cw_272, List.forall_mem_cons.mpr ⟨cw_273, List.forall_mem_cons.mpr ⟨cw_274, List.forall_mem_cons.mpr ⟨cw_275, List.forall_mem_cons.mpr ⟨cw_276, List.forall_mem_cons.mpr ⟨cw_277, fun _ h => absurd h List.not_mem_nil⟩⟩⟩⟩⟩⟩
set_option maxRecDepth 100000 in
theorem cw_all : ∀ w ∈ (List.range 278).map codeW, w ∈ lwX := by
  show ∀ w ∈ [codeW 0, codeW 1, codeW 2, codeW 3, codeW 4, codeW 5, codeW 6, codeW 7, codeW 8, codeW 9, codeW 10, codeW 11, codeW 12, codeW 13, codeW 14, codeW 15] ++ ([codeW 16, codeW 17, codeW 18, codeW 19, codeW 20, codeW 21, codeW 22, codeW 23, codeW 24, codeW 25, codeW 26, codeW 27, codeW 28, codeW 29, codeW 30, codeW 31] ++ ([codeW 32, codeW 33, codeW 34, codeW 35, codeW 36, codeW 37, codeW 38, codeW 39, codeW 40, codeW 41, codeW 42, codeW 43, codeW 44, codeW 45, codeW 46, codeW 47] ++ ([codeW 48, codeW 49, codeW 50, codeW 51, codeW 52, codeW 53, codeW 54, codeW 55, codeW 56, codeW 57, codeW 58, codeW 59, codeW 60, codeW 61, codeW 62, codeW 63] ++ ([codeW 64, codeW 65, codeW 66, codeW 67, codeW 68, codeW 69, codeW 70, codeW 71, codeW 72, codeW 73, codeW 74, codeW 75, codeW 76, codeW 77, codeW 78, codeW 79] ++ ([codeW 80, codeW 81, codeW 82, codeW 83, codeW 84, codeW 85, codeW 86, codeW 87, codeW 88, codeW 89, codeW 90, codeW 91, codeW 92, codeW 93, codeW 94, codeW 95] ++ ([codeW 96, codeW 97, codeW 98, codeW 99, codeW 100, codeW 101, codeW 102, codeW 103, codeW 104, codeW 105, codeW 106, codeW 107, codeW 108, codeW 109, codeW 110, codeW 111] ++ ([codeW 112, codeW 113, codeW 114, codeW 115, codeW 116, codeW 117, codeW 118, codeW 119, codeW 120, codeW 121, codeW 122, codeW 123, codeW 124, codeW 125, codeW 126, codeW 127] ++ ([codeW 128, codeW 129, codeW 130, codeW 131, codeW 132, codeW 133, codeW 134, codeW 135, codeW 136, codeW 137, codeW 138, codeW 139, codeW 140, codeW 141, codeW 142, codeW 143] ++ ([codeW 144, codeW 145, codeW 146, codeW 147, codeW 148, codeW 149, codeW 150, codeW 151, codeW 152, codeW 153, codeW 154, codeW 155, codeW 156, codeW 157, codeW 158, codeW 159] ++ ([codeW 160, codeW 161, codeW 162, codeW 163, codeW 164, codeW 165, codeW 166, codeW 167, codeW 168, codeW 169, codeW 170, codeW 171, codeW 172, codeW 173, codeW 174, codeW 175] ++ ([codeW 176, codeW 177, codeW 178, codeW 179, codeW 180, codeW 181, codeW 182, codeW 183, codeW 184, codeW 185, codeW 186, codeW 187, codeW 188, codeW 189, codeW 190, codeW 191] ++ ([codeW 192, codeW 193, codeW 194, codeW 195, codeW 196, codeW 197, codeW 198, codeW 199, codeW 200, codeW 201, codeW 202, codeW 203, codeW 204, codeW 205, codeW 206, codeW 207] ++ ([codeW 208, codeW 209, codeW 210, codeW 211, codeW 212, codeW 213, codeW 214, codeW 215, codeW 216, codeW 217, codeW 218, codeW 219, codeW 220, codeW 221, codeW 222, codeW 223] ++ ([codeW 224, codeW 225, codeW 226, codeW 227, codeW 228, codeW 229, codeW 230, codeW 231, codeW 232, codeW 233, codeW 234, codeW 235, codeW 236, codeW 237, codeW 238, codeW 239] ++ ([codeW 240, codeW 241, codeW 242, codeW 243, codeW 244, codeW 245, codeW 246, codeW 247, codeW 248, codeW 249, codeW 250, codeW 251, codeW 252, codeW 253, codeW 254, codeW 255] ++ ([codeW 256, codeW 257, codeW 258, codeW 259, codeW 260, codeW 261, codeW 262, codeW 263, codeW 264, codeW 265, codeW 266, codeW 267, codeW 268, codeW 269, codeW 270, codeW 271] ++ ([codeW 272, codeW 273, codeW 274, codeW 275, codeW 276, codeW 277]))))))))))))))))), w ∈ lwX
  exact List.forall_mem_append.mpr ⟨cwg_0, List.forall_mem_append.mpr ⟨cwg_1, List.forall_mem_append.mpr ⟨cwg_2, List.forall_mem_append.mpr ⟨cwg_3, List.forall_mem_append.mpr ⟨cwg_4, List.forall_mem_append.mpr ⟨cwg_5, List.forall_mem_append.mpr ⟨cwg_6, List.forall_mem_append.mpr ⟨cwg_7, List.forall_mem_append.mpr ⟨cwg_8, List.forall_mem_append.mpr ⟨cwg_9, List.forall_mem_append.mpr ⟨cwg_10, List.forall_mem_append.mpr ⟨cwg_11, List.forall_mem_append.mpr ⟨cwg_12, List.forall_mem_append.mpr ⟨cwg_13, List.forall_mem_append.mpr ⟨cwg_14, List.forall_mem_append.mpr ⟨cwg_15, List.forall_mem_append.mpr ⟨cwg_16, cwg_17⟩⟩⟩⟩⟩⟩⟩⟩⟩⟩⟩⟩⟩⟩⟩⟩⟩
theorem code_in {j : Nat} (hj : j < 278) : codeW j ∈ lwX := cw_all _ (List.mem_map.mpr ⟨j, List.mem_range.mpr hj, rfl⟩)
