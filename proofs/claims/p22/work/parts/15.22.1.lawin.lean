theorem inR {big : List Cond} (ws : List Cond) (ps : List Nat) (hp : ws = ps.filterMap (fun i => big[i]?)) : ∀ w ∈ ws, w ∈ big := by
  intro w hw
  rw [hp] at hw
  obtain ⟨i, -, hi⟩ := List.mem_filterMap.mp hw
  exact List.mem_of_getElem? hi
theorem inA {big a b : List Cond} (ha : ∀ w ∈ a, w ∈ big) (hb : ∀ w ∈ b, w ∈ big) : ∀ w ∈ a ++ b, w ∈ big := fun w h => (List.mem_append.mp h).elim (ha w) (hb w)
set_option maxRecDepth 20000 in
theorem wsL_law0_i1 : ∀ w ∈ wsL_law0_r1, w ∈ lw_tbl := inR _ [131, 132, 104, 1401, 1402, 115, 1929, 1928, 133, 134, 135, 136, 137, 138, 139, 140, 105, 461, 462, 154, 155, 106, 463, 209] rfl
set_option maxRecDepth 20000 in
theorem wsL_law0_i2 : ∀ w ∈ wsL_law0_r2, w ∈ lw_tbl := inR _ [210, 108, 464, 256, 257, 109, 465, 268, 269, 110, 466, 439, 440, 114, 467, 456, 294, 112, 468, 469, 458, 161, 107, 470] rfl
set_option maxRecDepth 20000 in
theorem wsL_law0_i3 : ∀ w ∈ wsL_law0_r3, w ∈ lw_tbl := inR _ [142, 143, 144, 145, 147, 148, 157, 158, 159, 160, 202, 203, 163, 164, 165, 201, 166, 171, 172, 173, 178, 180, 182, 212] rfl
set_option maxRecDepth 20000 in
theorem wsL_law0_i4 : ∀ w ∈ wsL_law0_r4, w ∈ lw_tbl := inR _ [213, 214, 215, 219, 217, 220, 229, 259, 260, 261, 262, 264, 270, 271, 272, 273, 274, 402, 276, 277, 111, 403, 291, 404] rfl
set_option maxRecDepth 20000 in
theorem wsL_law0_i5 : ∀ w ∈ wsL_law0_r5, w ∈ lw_tbl := inR _ [293, 405, 406, 407, 408, 409, 410, 411, 399, 412, 413, 279, 280, 281, 282, 284, 285, 295, 296, 297, 298, 299, 365, 301] rfl
set_option maxRecDepth 20000 in
theorem wsL_law0_i6 : ∀ w ∈ wsL_law0_r6, w ∈ lw_tbl := inR _ [302, 113, 368, 369, 370, 349, 372, 373, 377, 381, 304, 305, 306, 309, 313, 317, 321, 325, 329, 307, 330, 351, 352, 353] rfl
set_option maxRecDepth 20000 in
theorem wsL_law0_i7 : ∀ w ∈ wsL_law0_r7, w ∈ lw_tbl := inR _ [354, 359, 355, 356, 357, 358, 361, 362, 363, 364, 441, 442, 443, 444, 445, 449, 447, 450, 457, 460, 1403, 1404, 1405, 1406] rfl
set_option maxRecDepth 20000 in
theorem wsL_law0_i8 : ∀ w ∈ wsL_law0_r8, w ∈ lw_tbl := inR _ [511, 1504, 1407, 1506, 1509, 1510, 1511, 1512, 1513, 1514, 1515, 1516, 1408, 1517, 1518, 1519, 1520, 1521, 1522, 1523, 1524, 1525, 1526, 1532] rfl
set_option maxRecDepth 20000 in
theorem wsL_law0_i9 : ∀ w ∈ wsL_law0_r9, w ∈ lw_tbl := inR _ [1533, 1534, 1536, 1537, 1409, 1411, 35, 1412, 1413, 1415, 36, 1416, 1417, 1419, 37, 1420, 1527, 1528, 1529, 1530, 1531, 1421, 1423, 38] rfl
set_option maxRecDepth 20000 in
theorem wsL_law0_i10 : ∀ w ∈ wsL_law0_r10, w ∈ lw_tbl := inR _ [1424, 1425, 1427, 39, 1428, 1429, 1431, 40, 1432, 1433, 1434, 1435, 1436, 1438, 41, 1439, 1440, 1442, 42, 1443, 1444, 1445, 1446, 1447] rfl
set_option maxRecDepth 20000 in
theorem wsL_law0_i11 : ∀ w ∈ wsL_law0_r11, w ∈ lw_tbl := inR _ [1449, 43, 1450, 1451, 1453, 44, 1454, 1535, 1455, 1456, 1457, 1458, 1460, 45, 1461, 1462, 1464, 46, 1465, 1466, 1468, 47, 1469, 1470] rfl
set_option maxRecDepth 20000 in
theorem wsL_law0_i12 : ∀ w ∈ wsL_law0_r12, w ∈ lw_tbl := inR _ [1472, 48, 1473, 1474, 1476, 49, 1477, 1478, 1480, 50, 1481, 1482, 1484, 51, 1485, 1486, 1488, 52, 1489, 1490, 1492, 53, 1493, 1494] rfl
set_option maxRecDepth 20000 in
theorem wsL_law0_i13 : ∀ w ∈ wsL_law0_r13, w ∈ lw_tbl := inR _ [1496, 54, 1497, 1498, 1500, 55, 1501, 492, 493, 494, 495, 496, 497, 498, 499, 500, 501, 502, 503, 504, 505, 506, 507, 508] rfl
set_option maxRecDepth 20000 in
theorem wsL_law0_i14 : ∀ w ∈ wsL_law0_r14, w ∈ lw_tbl := inR _ [510, 509, 116, 1792, 1793, 1794, 1795, 1502, 1503, 1796, 1797, 1798, 1799, 512, 513, 514, 515, 516, 517, 518, 519, 1800, 1801, 1802] rfl
set_option maxRecDepth 20000 in
theorem wsL_law0_i15 : ∀ w ∈ wsL_law0_r15, w ∈ lw_tbl := inR _ [1803, 520, 521, 522, 523, 524, 525, 526, 527, 528, 529, 530, 531, 532, 533, 534, 535, 536, 537, 538, 539, 540, 541, 543] rfl
set_option maxRecDepth 20000 in
theorem wsL_law0_i16 : ∀ w ∈ wsL_law0_r16, w ∈ lw_tbl := inR _ [0, 544, 545, 546, 547, 548, 549, 550, 552, 1, 553, 375, 367, 554, 556, 2, 557, 558, 560, 561, 563, 564, 565, 566] rfl
set_option maxRecDepth 20000 in
theorem wsL_law0_i17 : ∀ w ∈ wsL_law0_r17, w ∈ lw_tbl := inR _ [568, 3, 569, 570, 572, 4, 573, 574, 575, 576, 577, 591, 578, 579, 580, 581, 582, 117, 584, 585, 586, 587, 589, 593] rfl
set_option maxRecDepth 20000 in
theorem wsL_law0_i18 : ∀ w ∈ wsL_law0_r18, w ∈ lw_tbl := inR _ [602, 603, 604, 605, 606, 608, 609, 610, 611, 612, 613, 614, 118, 615, 1931, 616, 617, 618, 619, 620, 1932, 622, 623, 624] rfl
set_option maxRecDepth 20000 in
theorem wsL_law0_i19 : ∀ w ∈ wsL_law0_r19, w ∈ lw_tbl := inR _ [625, 626, 627, 628, 629, 630, 631, 632, 633, 634, 635, 119, 636, 637, 638, 639, 640, 642, 643, 120, 644, 645, 646, 121] rfl
set_option maxRecDepth 20000 in
theorem wsL_law0_i20 : ∀ w ∈ wsL_law0_r20, w ∈ lw_tbl := inR _ [647, 648, 649, 650, 651, 652, 653, 654, 655, 656, 657, 658, 660, 662, 664, 665, 666, 667, 668, 669, 671, 5, 672, 673] rfl
set_option maxRecDepth 20000 in
theorem wsL_law0_i21 : ∀ w ∈ wsL_law0_r21, w ∈ lw_tbl := inR _ [675, 6, 676, 677, 678, 680, 7, 681, 683, 684, 687, 688, 689, 690, 691, 692, 693, 694, 695, 696, 697, 698, 702, 703] rfl
set_option maxRecDepth 20000 in
theorem wsL_law0_i22 : ∀ w ∈ wsL_law0_r22, w ∈ lw_tbl := inR _ [122, 704, 705, 706, 707, 699, 700, 701, 708, 709, 710, 711, 712, 713, 714, 715, 716, 717, 718, 719, 720, 721, 722, 723] rfl
set_option maxRecDepth 20000 in
theorem wsL_law0_i23 : ∀ w ∈ wsL_law0_r23, w ∈ lw_tbl := inR _ [724, 725, 726, 727, 728, 729, 730, 731, 732, 733, 734, 735, 736, 123, 737, 738, 739, 740, 741, 742, 743, 744, 745, 746] rfl
set_option maxRecDepth 20000 in
theorem wsL_law0_i24 : ∀ w ∈ wsL_law0_r24, w ∈ lw_tbl := inR _ [747, 749, 8, 750, 175, 751, 753, 9, 754, 179, 756, 757, 758, 760, 10, 761, 181, 763, 764, 765, 766, 767, 768, 769] rfl
set_option maxRecDepth 20000 in
theorem wsL_law0_i25 : ∀ w ∈ wsL_law0_r25, w ∈ lw_tbl := inR _ [771, 11, 772, 774, 776, 12, 777, 184, 778, 779, 780, 781, 169, 782, 783, 784, 785, 786, 787, 788, 789, 790, 791, 792] rfl
set_option maxRecDepth 20000 in
theorem wsL_law0_i26 : ∀ w ∈ wsL_law0_r26, w ∈ lw_tbl := inR _ [793, 794, 795, 796, 797, 798, 799, 800, 801, 802, 803, 804, 805, 806, 807, 808, 809, 810, 811, 595, 812, 813, 814, 815] rfl
set_option maxRecDepth 20000 in
theorem wsL_law0_i27 : ∀ w ∈ wsL_law0_r27, w ∈ lw_tbl := inR _ [816, 817, 818, 819, 820, 821, 822, 823, 824, 825, 827, 13, 828, 829, 831, 14, 832, 845, 833, 834, 835, 836, 837, 838] rfl
set_option maxRecDepth 20000 in
theorem wsL_law0_i28 : ∀ w ∈ wsL_law0_r28, w ∈ lw_tbl := inR _ [839, 840, 841, 842, 843, 844, 846, 847, 848, 849, 850, 851, 852, 853, 854, 855, 857, 15, 858, 860, 861, 866, 867, 869] rfl
set_option maxRecDepth 20000 in
theorem wsL_law0_i29 : ∀ w ∈ wsL_law0_r29, w ∈ lw_tbl := inR _ [16, 870, 312, 871, 873, 17, 874, 185, 875, 877, 18, 878, 879, 881, 19, 882, 883, 885, 20, 886, 887, 888, 889, 890] rfl
set_option maxRecDepth 20000 in
theorem wsL_law0_i30 : ∀ w ∈ wsL_law0_r30, w ∈ lw_tbl := inR _ [891, 892, 893, 230, 228, 227, 894, 896, 21, 897, 898, 899, 900, 901, 902, 904, 22, 905, 226, 221, 222, 225, 907, 910] rfl
set_option maxRecDepth 20000 in
theorem wsL_law0_i31 : ∀ w ∈ wsL_law0_r31, w ∈ lw_tbl := inR _ [911, 913, 915, 917, 23, 918, 223, 224, 921, 923, 24, 924, 176, 925, 926, 927, 928, 929, 931, 25, 932, 168, 933, 934] rfl
set_option maxRecDepth 20000 in
theorem wsL_law0_i32 : ∀ w ∈ wsL_law0_r32, w ∈ lw_tbl := inR _ [935, 936, 937, 938, 939, 940, 941, 942, 943, 944, 945, 946, 948, 26, 949, 950, 951, 953, 27, 954, 955, 956, 957, 958] rfl
set_option maxRecDepth 20000 in
theorem wsL_law0_i33 : ∀ w ∈ wsL_law0_r33, w ∈ lw_tbl := inR _ [174, 959, 960, 961, 962, 963, 964, 965, 966, 967, 968, 969, 970, 971, 972, 973, 974, 975, 976, 977, 979, 28, 980, 981] rfl
set_option maxRecDepth 20000 in
theorem wsL_law0_i34 : ∀ w ∈ wsL_law0_r34, w ∈ lw_tbl := inR _ [982, 983, 984, 318, 314, 322, 985, 986, 987, 988, 989, 990, 991, 993, 29, 994, 995, 996, 997, 998, 999, 1000, 1001, 1002] rfl
set_option maxRecDepth 20000 in
theorem wsL_law0_i35 : ∀ w ∈ wsL_law0_r35, w ∈ lw_tbl := inR _ [1004, 30, 1005, 328, 1006, 1007, 1008, 1009, 380, 1010, 1011, 1012, 1013, 1015, 1017, 1018, 1019, 1020, 1021, 1022, 1023, 1024, 1025, 1026] rfl
set_option maxRecDepth 20000 in
theorem wsL_law0_i36 : ∀ w ∈ wsL_law0_r36, w ∈ lw_tbl := inR _ [1027, 1028, 1029, 310, 1030, 1031, 1623, 1624, 1625, 1626, 1507, 1508, 1627, 1629, 56, 1630, 1539, 1631, 1633, 57, 1634, 1635, 1637, 58] rfl
set_option maxRecDepth 20000 in
theorem wsL_law0_i37 : ∀ w ∈ wsL_law0_r37, w ∈ lw_tbl := inR _ [1638, 1639, 1641, 59, 1642, 1643, 1644, 1645, 1646, 1647, 1648, 1649, 1650, 1651, 1652, 1654, 60, 1655, 1656, 1658, 61, 1659, 1660, 1662] rfl
set_option maxRecDepth 20000 in
theorem wsL_law0_i38 : ∀ w ∈ wsL_law0_r38, w ∈ lw_tbl := inR _ [62, 1663, 1540, 1541, 1664, 1666, 63, 1667, 1668, 1670, 64, 1671, 1672, 1673, 1674, 1675, 1677, 65, 1678, 1679, 1681, 66, 1682, 1683] rfl
set_option maxRecDepth 20000 in
theorem wsL_law0_i39 : ∀ w ∈ wsL_law0_r39, w ∈ lw_tbl := inR _ [1685, 67, 1686, 1687, 1689, 68, 1690, 1691, 1693, 69, 1694, 1695, 1697, 70, 1698, 1699, 1701, 71, 1702, 1703, 1705, 72, 1706, 1707] rfl
set_option maxRecDepth 20000 in
theorem wsL_law0_i40 : ∀ w ∈ wsL_law0_r40, w ∈ lw_tbl := inR _ [1709, 73, 1710, 1711, 1713, 74, 1714, 1715, 1717, 75, 1718, 1719, 1721, 76, 1722, 1723, 1725, 77, 1726, 1727, 1729, 78, 1730, 1731] rfl
set_option maxRecDepth 20000 in
theorem wsL_law0_i41 : ∀ w ∈ wsL_law0_r41, w ∈ lw_tbl := inR _ [1733, 79, 1734, 1735, 1737, 80, 1738, 1538, 1739, 1741, 81, 1742, 1743, 1744, 1745, 1746, 1748, 82, 1749, 1750, 1752, 83, 1753, 1754] rfl
set_option maxRecDepth 20000 in
theorem wsL_law0_i42 : ∀ w ∈ wsL_law0_r42, w ∈ lw_tbl := inR _ [1756, 84, 1757, 1758, 1760, 85, 1761, 1762, 1764, 86, 1765, 1766, 1768, 87, 1769, 1770, 1772, 88, 1773, 1774, 1776, 89, 1777, 1778] rfl
set_option maxRecDepth 20000 in
theorem wsL_law0_i43 : ∀ w ∈ wsL_law0_r43, w ∈ lw_tbl := inR _ [1780, 90, 1781, 1782, 1783, 1784, 1785, 1786, 1787, 1033, 1034, 1035, 1036, 1037, 1788, 1789, 1790, 1791, 1038, 1039, 1040, 1041, 319, 1042] rfl
set_option maxRecDepth 20000 in
theorem wsL_law0_i44 : ∀ w ∈ wsL_law0_r44, w ∈ lw_tbl := inR _ [1043, 1044, 1045, 374, 590, 594, 366, 1046, 1047, 1048, 1050, 1051, 1052, 1053, 1054, 1055, 1056, 1057, 1058, 1060, 1061, 1062, 1063, 331] rfl
set_option maxRecDepth 20000 in
theorem wsL_law0_i45 : ∀ w ∈ wsL_law0_r45, w ∈ lw_tbl := inR _ [1064, 1065, 1066, 1067, 1068, 1071, 31, 1072, 323, 315, 320, 1073, 1075, 32, 1076, 177, 183, 326, 1077, 1078, 1079, 1080, 1083, 1084] rfl
set_option maxRecDepth 20000 in
theorem wsL_law0_i46 : ∀ w ∈ wsL_law0_r46, w ∈ lw_tbl := inR _ [1085, 1086, 1087, 1090, 1091, 1092, 1094, 1095, 1096, 1097, 1098, 1100, 33, 1101, 167, 1102, 1103, 1105, 1106, 1108, 1109, 1110, 1111, 1112] rfl
set_option maxRecDepth 20000 in
theorem wsL_law0_i47 : ∀ w ∈ wsL_law0_r47, w ∈ lw_tbl := inR _ [1113, 1114, 1115, 1116, 1117, 1118, 1119, 1120, 1121, 1122, 1123, 1124, 378, 1804, 1805, 1806, 1807, 1505, 1808, 1810, 91, 1811, 1812, 1814] rfl
set_option maxRecDepth 20000 in
theorem wsL_law0_i48 : ∀ w ∈ wsL_law0_r48, w ∈ lw_tbl := inR _ [92, 1815, 1816, 1818, 93, 1819, 1820, 1822, 94, 1823, 1824, 1826, 95, 1827, 1828, 1830, 96, 1831, 1832, 1834, 97, 1835, 1156, 1157] rfl
set_option maxRecDepth 20000 in
theorem wsL_law0_i49 : ∀ w ∈ wsL_law0_r49, w ∈ lw_tbl := inR _ [103, 1158, 1159, 1160, 1161, 1162, 1163, 1168, 127, 1164, 1165, 1166, 1167, 1147, 1236, 1836, 1837, 1838, 1839, 1840, 1842, 98, 1843, 1126] rfl
set_option maxRecDepth 20000 in
theorem wsL_law0_i50 : ∀ w ∈ wsL_law0_r50, w ∈ lw_tbl := inR _ [1127, 1128, 1129, 1130, 1844, 1845, 1846, 1847, 1131, 1132, 1133, 1134, 371, 1848, 1849, 1850, 1851, 1237, 1238, 1239, 1240, 1241, 1242, 1243] rfl
set_option maxRecDepth 20000 in
theorem wsL_law0_i51 : ∀ w ∈ wsL_law0_r51, w ∈ lw_tbl := inR _ [1244, 1249, 128, 311, 316, 324, 327, 332, 1245, 1246, 1247, 1248, 1852, 1853, 1854, 1855, 1856, 1858, 99, 1859, 1266, 1267, 1268, 1269] rfl
set_option maxRecDepth 20000 in
theorem wsL_law0_i52 : ∀ w ∈ wsL_law0_r52, w ∈ lw_tbl := inR _ [1270, 1271, 1272, 1274, 1860, 1861, 1862, 1863, 1275, 1276, 1277, 1278, 1279, 1280, 1281, 1864, 1865, 1866, 1867, 1135, 1136, 1137, 1138, 1868] rfl
set_option maxRecDepth 20000 in
theorem wsL_law0_i53 : ∀ w ∈ wsL_law0_r53, w ∈ lw_tbl := inR _ [1869, 1870, 1871, 1283, 1284, 1285, 1286, 1287, 1288, 1289, 1872, 1873, 1874, 1875, 1290, 1291, 1292, 1293, 1294, 1295, 1296, 170, 1876, 1877] rfl
set_option maxRecDepth 20000 in
theorem wsL_law0_i54 : ∀ w ∈ wsL_law0_r54, w ∈ lw_tbl := inR _ [1878, 1879, 1139, 1140, 1141, 1142, 1143, 1144, 1145, 1146, 1880, 1881, 1882, 1883, 1298, 1299, 1300, 1301, 1302, 1303, 1304, 1305, 1312, 129] rfl
set_option maxRecDepth 20000 in
theorem wsL_law0_i55 : ∀ w ∈ wsL_law0_r55, w ∈ lw_tbl := inR _ [1306, 1307, 1308, 1309, 1310, 1311, 1328, 1329, 1884, 1885, 1886, 1887, 1888, 1890, 100, 1891, 1892, 1894, 101, 1895, 1330, 1331, 1332, 1333] rfl
set_option maxRecDepth 20000 in
theorem wsL_law0_i56 : ∀ w ∈ wsL_law0_r56, w ∈ lw_tbl := inR _ [1334, 1335, 1336, 1337, 1339, 130, 1355, 1896, 1897, 1898, 1899, 1356, 1357, 1358, 1359, 1360, 1361, 1362, 1363, 1365, 1900, 1901, 1902, 1903] rfl
set_option maxRecDepth 20000 in
theorem wsL_law0_i57 : ∀ w ∈ wsL_law0_r57, w ∈ lw_tbl := inR _ [1366, 1367, 1368, 1369, 1370, 1371, 1372, 1374, 1375, 1376, 1377, 1378, 1380, 1381, 1382, 1383, 1904, 1905, 1906, 1907, 1908, 1910, 102, 1911] rfl
set_option maxRecDepth 20000 in
theorem wsL_law0_i58 : ∀ w ∈ wsL_law0_r58, w ∈ lw_tbl := inR _ [1384, 1385, 1386, 1387, 1388, 1389, 1390, 379, 1912, 1913, 1914, 1915, 1148, 1149, 1150, 1151, 1916, 1917, 1918, 1919, 1152, 1153, 1154, 1155] rfl
set_option maxRecDepth 20000 in
theorem wsL_law0_i59 : ∀ w ∈ wsL_law0_r59, w ∈ lw_tbl := inR _ [376, 1920, 1921, 1922, 1923, 1392, 1393, 1394, 1395, 1396, 1397, 1398, 596, 592, 1400, 1924, 1925, 1926, 1927] rfl
theorem wsX110_i : ∀ w ∈ wsX110, w ∈ lw_tbl := by decide +kernel
theorem wsX120_i : ∀ w ∈ wsX120, w ∈ lw_tbl := by decide +kernel
theorem wsX60_i : ∀ w ∈ wsX60, w ∈ lw_tbl := by decide +kernel
theorem wsX70_i : ∀ w ∈ wsX70, w ∈ lw_tbl := by decide +kernel
theorem wsX80_i : ∀ w ∈ wsX80, w ∈ lw_tbl := by decide +kernel
theorem wsX90_i : ∀ w ∈ wsX90, w ∈ lw_tbl := by decide +kernel
theorem wsX20_i : ∀ w ∈ wsX20, w ∈ lw_tbl := by decide +kernel
theorem wsX30_i : ∀ w ∈ wsX30, w ∈ lw_tbl := by decide +kernel
theorem wsX10_i : ∀ w ∈ wsX10, w ∈ lw_tbl := by decide +kernel
theorem wsX00_i : ∀ w ∈ wsX00, w ∈ lw_tbl := by decide +kernel
theorem wsX50_i : ∀ w ∈ wsX50, w ∈ lw_tbl := by decide +kernel
theorem wsX40_i : ∀ w ∈ wsX40, w ∈ lw_tbl := by decide +kernel
theorem wsX100_i : ∀ w ∈ wsX100, w ∈ lw_tbl := by decide +kernel
theorem wsL_law_in0 : ∀ w ∈ wsL_law0, w ∈ lw_tbl := inA (inA (inA (inA (inA (inA (inA (inA (inA (inA (inA (inA (inA (inA (inA wsL_law0_i1 (inA wsL_law0_i2 (inA wsL_law0_i3 (inA wsL_law0_i4 (inA wsL_law0_i5 (inA wsL_law0_i6 (inA wsL_law0_i7 (inA wsL_law0_i8 (inA wsL_law0_i9 (inA wsL_law0_i10 (inA wsL_law0_i11 (inA wsL_law0_i12 (inA wsL_law0_i13 (inA wsL_law0_i14 (inA wsL_law0_i15 (inA wsL_law0_i16 (inA wsL_law0_i17 (inA wsL_law0_i18 (inA wsL_law0_i19 (inA wsL_law0_i20 (inA wsL_law0_i21 (inA wsL_law0_i22 (inA wsL_law0_i23 (inA wsL_law0_i24 (inA wsL_law0_i25 (inA wsL_law0_i26 (inA wsL_law0_i27 (inA wsL_law0_i28 (inA wsL_law0_i29 (inA wsL_law0_i30 (inA wsL_law0_i31 (inA wsL_law0_i32 (inA wsL_law0_i33 (inA wsL_law0_i34 (inA wsL_law0_i35 (inA wsL_law0_i36 (inA wsL_law0_i37 (inA wsL_law0_i38 (inA wsL_law0_i39 (inA wsL_law0_i40 (inA wsL_law0_i41 (inA wsL_law0_i42 (inA wsL_law0_i43 (inA wsL_law0_i44 (inA wsL_law0_i45 (inA wsL_law0_i46 (inA wsL_law0_i47 (inA wsL_law0_i48 (inA wsL_law0_i49 (inA wsL_law0_i50 (inA wsL_law0_i51 (inA wsL_law0_i52 (inA wsL_law0_i53 (inA wsL_law0_i54 (inA wsL_law0_i55 (inA wsL_law0_i56 (inA wsL_law0_i57 (inA wsL_law0_i58 (wsL_law0_i59))))))))))))))))))))))))))))))))))))))))))))))))))))))))))) wsX110_i) wsX120_i) wsX60_i) wsX70_i) wsX80_i) wsX90_i) wsX20_i) wsX30_i) wsX10_i) wsX00_i) wsX50_i) wsX40_i) wsX100_i) (fun _ h => absurd h List.not_mem_nil)
