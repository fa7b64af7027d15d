set_option maxRecDepth 20000 in
theorem wL_r1 : GoodIn lw_tbl wsL_law_r1 := goodIn_r _ [84, 85, 64, 1134, 1135, 75, 1734, 86, 87, 88, 89, 90, 91, 92, 93, 65, 398, 114, 399, 116, 117, 66, 400, 168] (by decide +kernel) (by decide +kernel)
set_option maxRecDepth 20000 in
theorem wL_r2 : GoodIn lw_tbl wsL_law_r2 := goodIn_r _ [169, 67, 401, 198, 199, 68, 402, 229, 230, 69, 403, 332, 333, 72, 404, 355, 356, 73, 405, 379, 406, 381, 74, 94] (by decide +kernel) (by decide +kernel)
set_option maxRecDepth 20000 in
theorem wL_r3 : GoodIn lw_tbl wsL_law_r3 := goodIn_r _ [95, 96, 97, 113, 98, 99, 119, 120, 121, 122, 125, 126, 127, 129, 130, 167, 132, 135, 136, 137, 171, 172, 173, 174] (by decide +kernel) (by decide +kernel)
set_option maxRecDepth 20000 in
theorem wL_r4 : GoodIn lw_tbl wsL_law_r4 := goodIn_r _ [177, 179, 180, 201, 202, 203, 204, 206, 208, 210, 212, 231, 232, 233, 234, 304, 235, 307, 237, 238, 70, 312, 313, 314] (by decide +kernel) (by decide +kernel)
set_option maxRecDepth 20000 in
theorem wL_r5 : GoodIn lw_tbl wsL_law_r5 := goodIn_r _ [244, 71, 308, 240, 241, 242, 261, 263, 264, 265, 243, 266, 246, 247, 248, 249, 288, 289, 290, 291, 296, 250, 252, 302] (by decide +kernel) (by decide +kernel)
set_option maxRecDepth 20000 in
theorem wL_r6 : GoodIn lw_tbl wsL_law_r6 := goodIn_r _ [292, 293, 294, 295, 298, 299, 300, 301, 335, 336, 337, 338, 340, 342, 358, 359, 360, 361, 363, 383, 384, 385, 386, 388] (by decide +kernel) (by decide +kernel)
set_option maxRecDepth 20000 in
theorem wL_r7 : GoodIn lw_tbl wsL_law_r7 := goodIn_r _ [1136, 1137, 1138, 1139, 1145, 1146, 1147, 1149, 1150, 1151, 1153, 1154, 1155, 1156, 1157, 1158, 1160, 1161, 1162, 1163, 1165, 1167, 1168, 1169] (by decide +kernel) (by decide +kernel)
set_option maxRecDepth 20000 in
theorem wL_r8 : GoodIn lw_tbl wsL_law_r8 := goodIn_r _ [1170, 1171, 1172, 1174, 1175, 1176, 1178, 1180, 1181, 1182, 1183, 1184, 1185, 1186, 1188, 1189, 1190, 1192, 1194, 1196, 1197, 1200, 1202, 1203] (by decide +kernel) (by decide +kernel)
set_option maxRecDepth 20000 in
theorem wL_r9 : GoodIn lw_tbl wsL_law_r9 := goodIn_r _ [1211, 1214, 1215, 1216, 1217, 1218, 1219, 1220, 1221, 1198, 1141, 879, 880, 76, 881, 1735, 882, 883, 884, 885, 886, 1736, 1142, 889] (by decide +kernel) (by decide +kernel)
set_option maxRecDepth 20000 in
theorem wL_r10 : GoodIn lw_tbl wsL_law_r10 := goodIn_r _ [890, 891, 892, 893, 894, 895, 896, 897, 77, 898, 899, 900, 901, 902, 904, 905, 78, 906, 907, 908, 79, 909, 910, 911] (by decide +kernel) (by decide +kernel)
set_option maxRecDepth 20000 in
theorem wL_r11 : GoodIn lw_tbl wsL_law_r11 := goodIn_r _ [912, 913, 914, 915, 916, 917, 918, 919, 920, 922, 924, 438, 439, 440, 441, 407, 408, 442, 444, 0, 445, 446, 447, 448] (by decide +kernel) (by decide +kernel)
set_option maxRecDepth 20000 in
theorem wL_r12 : GoodIn lw_tbl wsL_law_r12 := goodIn_r _ [81, 449, 516, 458, 459, 80, 460, 450, 451, 452, 453, 512, 506, 1381, 1382, 1383, 1384, 1143, 1159, 1385, 1386, 1387, 1388, 1390] (by decide +kernel) (by decide +kernel)
set_option maxRecDepth 20000 in
theorem wL_r13 : GoodIn lw_tbl wsL_law_r13 := goodIn_r _ [29, 1391, 461, 462, 463, 464, 101, 465, 466, 467, 468, 469, 470, 471, 472, 473, 474, 100, 475, 476, 477, 478, 479, 480] (by decide +kernel) (by decide +kernel)
set_option maxRecDepth 20000 in
theorem wL_r14 : GoodIn lw_tbl wsL_law_r14 := goodIn_r _ [481, 482, 510, 530, 483, 484, 485, 1392, 1393, 1394, 1395, 1148, 1396, 1397, 1398, 486, 487, 488, 489, 103, 490, 491, 492, 493] (by decide +kernel) (by decide +kernel)
set_option maxRecDepth 20000 in
theorem wL_r15 : GoodIn lw_tbl wsL_law_r15 := goodIn_r _ [102, 1399, 1400, 1401, 1402, 1152, 494, 495, 496, 497, 501, 498, 499, 500, 502, 503, 504, 505, 518, 519, 520, 522, 524, 529] (by decide +kernel) (by decide +kernel)
set_option maxRecDepth 20000 in
theorem wL_r16 : GoodIn lw_tbl wsL_law_r16 := goodIn_r _ [508, 514, 1403, 1404, 1405, 1406, 1407, 1408, 1409, 562, 563, 564, 565, 507, 509, 511, 513, 517, 515, 566, 567, 568, 569, 570] (by decide +kernel) (by decide +kernel)
set_option maxRecDepth 20000 in
theorem wL_r17 : GoodIn lw_tbl wsL_law_r17 := goodIn_r _ [573, 574, 575, 576, 1410, 1411, 1412, 1413, 1414, 1416, 30, 1417, 1418, 1420, 31, 1421, 577, 578, 579, 580, 585, 581, 583, 1] (by decide +kernel) (by decide +kernel)
set_option maxRecDepth 20000 in
theorem wL_r18 : GoodIn lw_tbl wsL_law_r18 := goodIn_r _ [584, 586, 587, 588, 589, 521, 590, 591, 592, 593, 594, 595, 596, 597, 598, 599, 600, 601, 603, 604, 605, 607, 608, 609] (by decide +kernel) (by decide +kernel)
set_option maxRecDepth 20000 in
theorem wL_r19 : GoodIn lw_tbl wsL_law_r19 := goodIn_r _ [611, 2, 612, 1422, 1423, 1424, 1425, 1426, 1427, 1429, 32, 1430, 1431, 1433, 33, 1434, 1164, 1435, 1436, 1438, 34, 1439, 613, 614] (by decide +kernel) (by decide +kernel)
set_option maxRecDepth 20000 in
theorem wL_r20 : GoodIn lw_tbl wsL_law_r20 := goodIn_r _ [615, 616, 409, 617, 618, 619, 620, 621, 1440, 1441, 1442, 1443, 1444, 1446, 35, 1447, 622, 623, 624, 625, 124, 626, 627, 628] (by decide +kernel) (by decide +kernel)
set_option maxRecDepth 20000 in
theorem wL_r21 : GoodIn lw_tbl wsL_law_r21 := goodIn_r _ [629, 123, 1448, 1449, 1450, 1451, 1166, 630, 631, 632, 633, 634, 635, 636, 637, 1452, 1453, 1454, 1455, 1456, 1457, 1458, 638, 639] (by decide +kernel) (by decide +kernel)
set_option maxRecDepth 20000 in
theorem wL_r22 : GoodIn lw_tbl wsL_law_r22 := goodIn_r _ [640, 641, 134, 642, 643, 644, 645, 133, 1459, 1460, 1461, 1462, 1173, 646, 647, 648, 649, 128, 131, 650, 651, 652, 653, 654] (by decide +kernel) (by decide +kernel)
set_option maxRecDepth 20000 in
theorem wL_r23 : GoodIn lw_tbl wsL_law_r23 := goodIn_r _ [655, 656, 657, 658, 659, 660, 662, 663, 664, 665, 666, 667, 669, 670, 1463, 1464, 1465, 1466, 1467, 1469, 36, 1470, 1471, 1472] (by decide +kernel) (by decide +kernel)
set_option maxRecDepth 20000 in
theorem wL_r24 : GoodIn lw_tbl wsL_law_r24 := goodIn_r _ [1473, 1474, 1475, 1476, 671, 672, 673, 674, 675, 139, 676, 677, 678, 679, 138, 1477, 1478, 1479, 1480, 1481, 1177, 680, 681, 682] (by decide +kernel) (by decide +kernel)
set_option maxRecDepth 20000 in
theorem wL_r25 : GoodIn lw_tbl wsL_law_r25 := goodIn_r _ [683, 684, 685, 686, 687, 688, 689, 690, 691, 1482, 1483, 1484, 1485, 1486, 1487, 1488, 1489, 692, 693, 694, 695, 696, 697, 698] (by decide +kernel) (by decide +kernel)
set_option maxRecDepth 20000 in
theorem wL_r26 : GoodIn lw_tbl wsL_law_r26 := goodIn_r _ [699, 1490, 1491, 1492, 1493, 700, 701, 702, 703, 176, 704, 705, 706, 707, 175, 1494, 1495, 1496, 1497, 1179, 708, 709, 710, 711] (by decide +kernel) (by decide +kernel)
set_option maxRecDepth 20000 in
theorem wL_r27 : GoodIn lw_tbl wsL_law_r27 := goodIn_r _ [528, 712, 714, 3, 715, 716, 717, 718, 719, 722, 723, 724, 725, 527, 1498, 1499, 1500, 1501, 1502, 1504, 37, 1505, 1506, 1508] (by decide +kernel) (by decide +kernel)
set_option maxRecDepth 20000 in
theorem wL_r28 : GoodIn lw_tbl wsL_law_r28 := goodIn_r _ [38, 1509, 726, 727, 728, 729, 730, 731, 732, 733, 734, 178, 736, 738, 4, 739, 526, 523, 525, 744, 740, 741, 742, 743] (by decide +kernel) (by decide +kernel)
set_option maxRecDepth 20000 in
theorem wL_r29 : GoodIn lw_tbl wsL_law_r29 := goodIn_r _ [745, 746, 747, 748, 749, 750, 751, 1510, 1511, 1512, 1513, 1201, 1514, 1516, 39, 1517, 1518, 1519, 1520, 1521, 752, 753, 754, 755] (by decide +kernel) (by decide +kernel)
set_option maxRecDepth 20000 in
theorem wL_r30 : GoodIn lw_tbl wsL_law_r30 := goodIn_r _ [181, 756, 758, 5, 759, 760, 761, 82, 762, 763, 764, 765, 766, 767, 768, 769, 770, 182, 771, 773, 6, 774, 775, 777] (by decide +kernel) (by decide +kernel)
set_option maxRecDepth 20000 in
theorem wL_r31 : GoodIn lw_tbl wsL_law_r31 := goodIn_r _ [7, 778, 779, 781, 780, 83, 782, 783, 784, 785, 786, 1522, 1523, 1524, 1525, 1204, 1533, 1526, 1527, 1528, 1529, 1531, 40, 1532] (by decide +kernel) (by decide +kernel)
set_option maxRecDepth 20000 in
theorem wL_r32 : GoodIn lw_tbl wsL_law_r32 := goodIn_r _ [787, 788, 789, 790, 410, 1534, 1535, 1536, 1537, 1144, 791, 792, 793, 794, 795, 796, 798, 8, 799, 800, 801, 802, 803, 804] (by decide +kernel) (by decide +kernel)
set_option maxRecDepth 20000 in
theorem wL_r33 : GoodIn lw_tbl wsL_law_r33 := goodIn_r _ [1538, 1539, 1540, 1541, 1542, 1543, 1544, 1545, 1547, 41, 1548, 1549, 1551, 42, 1552, 805, 806, 807, 808, 1553, 1554, 1555, 1556, 809] (by decide +kernel) (by decide +kernel)
set_option maxRecDepth 20000 in
theorem wL_r34 : GoodIn lw_tbl wsL_law_r34 := goodIn_r _ [810, 811, 812, 215, 813, 814, 815, 816, 817, 818, 819, 214, 1557, 1558, 1559, 1560, 1187, 820, 821, 822, 823, 306, 824, 825] (by decide +kernel) (by decide +kernel)
set_option maxRecDepth 20000 in
theorem wL_r35 : GoodIn lw_tbl wsL_law_r35 := goodIn_r _ [826, 827, 305, 828, 1561, 1562, 1563, 1564, 1195, 1565, 829, 830, 831, 832, 833, 834, 835, 836, 267, 837, 838, 839, 840, 841] (by decide +kernel) (by decide +kernel)
set_option maxRecDepth 20000 in
theorem wL_r36 : GoodIn lw_tbl wsL_law_r36 := goodIn_r _ [262, 268, 269, 251, 253, 842, 844, 9, 845, 846, 847, 848, 849, 851, 10, 852, 853, 854, 855, 856, 858, 11, 859, 860] (by decide +kernel) (by decide +kernel)
set_option maxRecDepth 20000 in
theorem wL_r37 : GoodIn lw_tbl wsL_law_r37 := goodIn_r _ [861, 862, 874, 876, 12, 877, 878, 888, 926, 927, 928, 929, 930, 931, 932, 933, 935, 13, 936, 937, 939, 14, 940, 941] (by decide +kernel) (by decide +kernel)
set_option maxRecDepth 20000 in
theorem wL_r38 : GoodIn lw_tbl wsL_law_r38 := goodIn_r _ [943, 15, 944, 945, 947, 16, 948, 949, 951, 17, 952, 953, 955, 18, 961, 956, 957, 959, 19, 965, 966, 968, 21, 960] (by decide +kernel) (by decide +kernel)
set_option maxRecDepth 20000 in
theorem wL_r39 : GoodIn lw_tbl wsL_law_r39 := goodIn_r _ [962, 964, 20, 977, 974, 976, 23, 969, 970, 972, 22, 973, 978, 979, 980, 981, 982, 1566, 1567, 1568, 1569, 1570, 1572, 43] (by decide +kernel) (by decide +kernel)
set_option maxRecDepth 20000 in
theorem wL_r40 : GoodIn lw_tbl wsL_law_r40 := goodIn_r _ [1573, 1205, 1206, 1208, 1209, 1210, 1212, 1213, 1207, 1574, 1576, 44, 1577, 1578, 1580, 45, 1581, 1582, 1584, 46, 1585, 1586, 1588, 47] (by decide +kernel) (by decide +kernel)
set_option maxRecDepth 20000 in
theorem wL_r41 : GoodIn lw_tbl wsL_law_r41 := goodIn_r _ [1589, 1591, 1593, 48, 1594, 1595, 1597, 49, 1598, 1599, 1601, 50, 1602, 1603, 1605, 51, 1606, 1607, 1609, 52, 1631, 1612, 1614, 53] (by decide +kernel) (by decide +kernel)
set_option maxRecDepth 20000 in
theorem wL_r42 : GoodIn lw_tbl wsL_law_r42 := goodIn_r _ [1615, 1616, 1618, 54, 1619, 1628, 1630, 57, 1627, 1623, 1624, 1626, 56, 1610, 1620, 1622, 55, 984, 985, 986, 987, 309, 311, 1649] (by decide +kernel) (by decide +kernel)
set_option maxRecDepth 20000 in
theorem wL_r43 : GoodIn lw_tbl wsL_law_r43 := goodIn_r _ [1650, 1651, 1652, 1199, 988, 989, 990, 991, 992, 994, 24, 995, 205, 207, 209, 211, 996, 997, 998, 999, 310, 1000, 1001, 1002] (by decide +kernel) (by decide +kernel)
set_option maxRecDepth 20000 in
theorem wL_r44 : GoodIn lw_tbl wsL_law_r44 := goodIn_r _ [1003, 1004, 1005, 1006, 1007, 1008, 1009, 1010, 1011, 1012, 1013, 1014, 1015, 1016, 1017, 1018, 1020, 1019, 1653, 1654, 1655, 1656, 1657, 1659] (by decide +kernel) (by decide +kernel)
set_option maxRecDepth 20000 in
theorem wL_r45 : GoodIn lw_tbl wsL_law_r45 := goodIn_r _ [58, 1660, 1661, 1663, 59, 1664, 1021, 1022, 1023, 1024, 213, 1025, 1026, 1027, 1028, 1029, 1031, 25, 1032, 1665, 1666, 1667, 1668, 1033] (by decide +kernel) (by decide +kernel)
set_option maxRecDepth 20000 in
theorem wL_r46 : GoodIn lw_tbl wsL_law_r46 := goodIn_r _ [1034, 1035, 1036, 345, 1037, 1038, 1039, 1040, 344, 1669, 1670, 1671, 1672, 1191, 1041, 1042, 1043, 1044, 339, 343, 341, 1673, 1674, 1675] (by decide +kernel) (by decide +kernel)
set_option maxRecDepth 20000 in
theorem wL_r47 : GoodIn lw_tbl wsL_law_r47 := goodIn_r _ [1676, 1045, 1046, 1047, 1048, 1049, 1050, 1051, 1052, 1053, 1677, 1678, 1679, 1680, 1681, 1683, 60, 1684, 1054, 1055, 1056, 1057, 1058, 365] (by decide +kernel) (by decide +kernel)
set_option maxRecDepth 20000 in
theorem wL_r48 : GoodIn lw_tbl wsL_law_r48 := goodIn_r _ [1059, 1060, 1061, 1062, 364, 1063, 1685, 1686, 1687, 1688, 1689, 1193, 1690, 1064, 1065, 1066, 1067, 367, 369, 1068, 1069, 1070, 1071, 366] (by decide +kernel) (by decide +kernel)
set_option maxRecDepth 20000 in
theorem wL_r49 : GoodIn lw_tbl wsL_law_r49 := goodIn_r _ [368, 1072, 1074, 1076, 26, 1077, 1086, 1078, 1080, 27, 1081, 1082, 1083, 1084, 1085, 1087, 1691, 1692, 1693, 1694, 1695, 1697, 61, 1698] (by decide +kernel) (by decide +kernel)
set_option maxRecDepth 20000 in
theorem wL_r50 : GoodIn lw_tbl wsL_law_r50 := goodIn_r _ [1088, 1089, 1090, 1091, 1699, 1700, 1701, 1702, 1092, 1093, 1094, 1095, 1096, 1098, 28, 1099, 1100, 1101, 1102, 1103, 390, 1703, 1704, 1705] (by decide +kernel) (by decide +kernel)
set_option maxRecDepth 20000 in
theorem wL_r51 : GoodIn lw_tbl wsL_law_r51 := goodIn_r _ [1706, 1707, 1708, 1709, 1104, 1105, 1106, 1107, 389, 1108, 1109, 1110, 1111, 1112, 1113, 1114, 1115, 1710, 1711, 1712, 1713, 1714, 1716, 62] (by decide +kernel) (by decide +kernel)
set_option maxRecDepth 20000 in
theorem wL_r52 : GoodIn lw_tbl wsL_law_r52 := goodIn_r _ [1717, 1116, 1117, 1118, 1119, 387, 1124, 1120, 1121, 1122, 1123, 1718, 1719, 1720, 1721, 1125, 1126, 1127, 1128, 1129, 1722, 1723, 1724, 1725] (by decide +kernel) (by decide +kernel)
set_option maxRecDepth 20000 in
theorem wL_r53 : GoodIn lw_tbl wsL_law_r53 := goodIn_r _ [1726, 1130, 1131, 1132, 1133, 1727, 1728, 1729, 1730, 1731, 1732, 1733] (by decide +kernel) (by decide +kernel)
set_option maxRecDepth 20000 in
theorem wL_X11 : GoodIn lw_tbl wsX110 := goodIn_r _ [411, 413, 415, 417, 419, 421, 423, 425, 427, 429, 431, 433, 435] (by decide +kernel) (by decide +kernel)
set_option maxRecDepth 20000 in
theorem wL_X12 : GoodIn lw_tbl wsX120 := goodIn_r _ [1222, 1224, 1226, 1228, 1230, 1232, 1234, 1236, 1238, 1240, 1242, 1244, 1246, 1248, 1250, 1252, 1254, 1256, 1258, 1260, 1262, 1264, 1266, 1268, 1270, 1272, 1274, 1276, 1278, 1280, 1282, 1284, 1286, 1288, 1290, 1292, 1294, 1296, 1298, 1300, 1302, 1304, 1306, 1308, 1310, 1312, 1314, 1316, 1318, 1320, 1322, 1324, 1326, 1328, 1330, 1332, 1334, 1336, 1338, 1340, 1342, 1344, 1346, 1348, 1350, 1352, 1354, 1356, 1358, 1360, 1362, 1364, 1366, 1368, 1370, 1372, 1374, 1376, 1378] (by decide +kernel) (by decide +kernel)
set_option maxRecDepth 20000 in
theorem wL_X10 : GoodIn lw_tbl wsX100 := goodIn_r _ [104, 106, 108, 110] (by decide +kernel) (by decide +kernel)
set_option maxRecDepth 20000 in
theorem wL_X4 : GoodIn lw_tbl wsX40 := goodIn_r _ [140, 142, 144, 146, 148, 150, 152, 154, 156, 158, 160, 162, 164] (by decide +kernel) (by decide +kernel)
set_option maxRecDepth 20000 in
theorem wL_X6 : GoodIn lw_tbl wsX60 := goodIn_r _ [183, 185, 187, 189, 191, 193, 195] (by decide +kernel) (by decide +kernel)
set_option maxRecDepth 20000 in
theorem wL_X2 : GoodIn lw_tbl wsX20 := goodIn_r _ [216, 218, 220, 222, 224, 226] (by decide +kernel) (by decide +kernel)
set_option maxRecDepth 20000 in
theorem wL_X3 : GoodIn lw_tbl wsX30 := goodIn_r _ [315, 317, 319, 321, 323, 325, 327, 329] (by decide +kernel) (by decide +kernel)
set_option maxRecDepth 20000 in
theorem wL_X8 : GoodIn lw_tbl wsX80 := goodIn_r _ [346, 348, 350, 352] (by decide +kernel) (by decide +kernel)
set_option maxRecDepth 20000 in
theorem wL_X1 : GoodIn lw_tbl wsX10 := goodIn_r _ [370, 372, 374, 376] (by decide +kernel) (by decide +kernel)
set_option maxRecDepth 20000 in
theorem wL_X7 : GoodIn lw_tbl wsX70 := goodIn_r _ [391, 393, 395] (by decide +kernel) (by decide +kernel)
set_option maxRecDepth 20000 in
theorem wL_X5 : GoodIn lw_tbl wsX50 := goodIn_r _ [270, 272, 274, 276, 278, 280, 282, 284] (by decide +kernel) (by decide +kernel)
set_option maxRecDepth 20000 in
theorem wL_X9 : GoodIn lw_tbl wsX90 := goodIn_r _ [254, 256, 258] (by decide +kernel) (by decide +kernel)
set_option maxRecDepth 20000 in
theorem wL_X0 : GoodIn lw_tbl wsX00 := goodIn_r _ [531, 533, 535, 537, 539, 541, 543, 545, 547, 549, 551, 553, 555, 557, 559] (by decide +kernel) (by decide +kernel)
theorem wL_all : GoodIn lw_tbl wsL_law := (goodIn_app (goodIn_app (goodIn_app (goodIn_app (goodIn_app (goodIn_app (goodIn_app (goodIn_app (goodIn_app (goodIn_app (goodIn_app (goodIn_app (goodIn_app (goodIn_app (goodIn_app wL_r1 (goodIn_app wL_r2 (goodIn_app wL_r3 (goodIn_app wL_r4 (goodIn_app wL_r5 (goodIn_app wL_r6 (goodIn_app wL_r7 (goodIn_app wL_r8 (goodIn_app wL_r9 (goodIn_app wL_r10 (goodIn_app wL_r11 (goodIn_app wL_r12 (goodIn_app wL_r13 (goodIn_app wL_r14 (goodIn_app wL_r15 (goodIn_app wL_r16 (goodIn_app wL_r17 (goodIn_app wL_r18 (goodIn_app wL_r19 (goodIn_app wL_r20 (goodIn_app wL_r21 (goodIn_app wL_r22 (goodIn_app wL_r23 (goodIn_app wL_r24 (goodIn_app wL_r25 (goodIn_app wL_r26 (goodIn_app wL_r27 (goodIn_app wL_r28 (goodIn_app wL_r29 (goodIn_app wL_r30 (goodIn_app wL_r31 (goodIn_app wL_r32 (goodIn_app wL_r33 (goodIn_app wL_r34 (goodIn_app wL_r35 (goodIn_app wL_r36 (goodIn_app wL_r37 (goodIn_app wL_r38 (goodIn_app wL_r39 (goodIn_app wL_r40 (goodIn_app wL_r41 (goodIn_app wL_r42 (goodIn_app wL_r43 (goodIn_app wL_r44 (goodIn_app wL_r45 (goodIn_app wL_r46 (goodIn_app wL_r47 (goodIn_app wL_r48 (goodIn_app wL_r49 (goodIn_app wL_r50 (goodIn_app wL_r51 (goodIn_app wL_r52 wL_r53)))))))))))))))))))))))))))))))))))))))))))))))))))) wL_X11) wL_X12) wL_X10) wL_X4) wL_X6) wL_X2) wL_X3) wL_X8) wL_X1) wL_X7) wL_X5) wL_X9) wL_X0) (fun _ h => absurd h List.not_mem_nil))
theorem wsL_law_in : ∀ w ∈ wsL_law, w ∈ lw_tbl := fun w h => (wL_all w h).1
theorem inlX0 : ∀ w ∈ wsX00, w ∈ wsL_law := fun _ h => List.mem_append_left _ (List.mem_append_right _ h)
theorem inX0 : ∀ w ∈ wsX00, w ∈ lw_tbl := fun w h => wsL_law_in w (inlX0 w h)
theorem inlX1 : ∀ w ∈ wsX10, w ∈ wsL_law := fun _ h => List.mem_append_left _ (List.mem_append_left _ (List.mem_append_left _ (List.mem_append_left _ (List.mem_append_left _ (List.mem_append_right _ h)))))
theorem inX1 : ∀ w ∈ wsX10, w ∈ lw_tbl := fun w h => wsL_law_in w (inlX1 w h)
theorem inlX2 : ∀ w ∈ wsX20, w ∈ wsL_law := fun _ h => List.mem_append_left _ (List.mem_append_left _ (List.mem_append_left _ (List.mem_append_left _ (List.mem_append_left _ (List.mem_append_left _ (List.mem_append_left _ (List.mem_append_left _ (List.mem_append_right _ h))))))))
theorem inX2 : ∀ w ∈ wsX20, w ∈ lw_tbl := fun w h => wsL_law_in w (inlX2 w h)
theorem inlX3 : ∀ w ∈ wsX30, w ∈ wsL_law := fun _ h => List.mem_append_left _ (List.mem_append_left _ (List.mem_append_left _ (List.mem_append_left _ (List.mem_append_left _ (List.mem_append_left _ (List.mem_append_left _ (List.mem_append_right _ h)))))))
theorem inX3 : ∀ w ∈ wsX30, w ∈ lw_tbl := fun w h => wsL_law_in w (inlX3 w h)
theorem inlX4 : ∀ w ∈ wsX40, w ∈ wsL_law := fun _ h => List.mem_append_left _ (List.mem_append_left _ (List.mem_append_left _ (List.mem_append_left _ (List.mem_append_left _ (List.mem_append_left _ (List.mem_append_left _ (List.mem_append_left _ (List.mem_append_left _ (List.mem_append_left _ (List.mem_append_right _ h))))))))))
theorem inX4 : ∀ w ∈ wsX40, w ∈ lw_tbl := fun w h => wsL_law_in w (inlX4 w h)
theorem inlX5 : ∀ w ∈ wsX50, w ∈ wsL_law := fun _ h => List.mem_append_left _ (List.mem_append_left _ (List.mem_append_left _ (List.mem_append_right _ h)))
theorem inX5 : ∀ w ∈ wsX50, w ∈ lw_tbl := fun w h => wsL_law_in w (inlX5 w h)
theorem inlX6 : ∀ w ∈ wsX60, w ∈ wsL_law := fun _ h => List.mem_append_left _ (List.mem_append_left _ (List.mem_append_left _ (List.mem_append_left _ (List.mem_append_left _ (List.mem_append_left _ (List.mem_append_left _ (List.mem_append_left _ (List.mem_append_left _ (List.mem_append_right _ h)))))))))
theorem inX6 : ∀ w ∈ wsX60, w ∈ lw_tbl := fun w h => wsL_law_in w (inlX6 w h)
theorem inlX7 : ∀ w ∈ wsX70, w ∈ wsL_law := fun _ h => List.mem_append_left _ (List.mem_append_left _ (List.mem_append_left _ (List.mem_append_left _ (List.mem_append_right _ h))))
theorem inX7 : ∀ w ∈ wsX70, w ∈ lw_tbl := fun w h => wsL_law_in w (inlX7 w h)
theorem inlX8 : ∀ w ∈ wsX80, w ∈ wsL_law := fun _ h => List.mem_append_left _ (List.mem_append_left _ (List.mem_append_left _ (List.mem_append_left _ (List.mem_append_left _ (List.mem_append_left _ (List.mem_append_right _ h))))))
theorem inX8 : ∀ w ∈ wsX80, w ∈ lw_tbl := fun w h => wsL_law_in w (inlX8 w h)
theorem inlX9 : ∀ w ∈ wsX90, w ∈ wsL_law := fun _ h => List.mem_append_left _ (List.mem_append_left _ (List.mem_append_right _ h))
theorem inX9 : ∀ w ∈ wsX90, w ∈ lw_tbl := fun w h => wsL_law_in w (inlX9 w h)
theorem inlX10 : ∀ w ∈ wsX100, w ∈ wsL_law := fun _ h => List.mem_append_left _ (List.mem_append_left _ (List.mem_append_left _ (List.mem_append_left _ (List.mem_append_left _ (List.mem_append_left _ (List.mem_append_left _ (List.mem_append_left _ (List.mem_append_left _ (List.mem_append_left _ (List.mem_append_left _ (List.mem_append_right _ h)))))))))))
theorem inX10 : ∀ w ∈ wsX100, w ∈ lw_tbl := fun w h => wsL_law_in w (inlX10 w h)
theorem inlX11 : ∀ w ∈ wsX110, w ∈ wsL_law := fun _ h => List.mem_append_left _ (List.mem_append_left _ (List.mem_append_left _ (List.mem_append_left _ (List.mem_append_left _ (List.mem_append_left _ (List.mem_append_left _ (List.mem_append_left _ (List.mem_append_left _ (List.mem_append_left _ (List.mem_append_left _ (List.mem_append_left _ (List.mem_append_left _ (List.mem_append_right _ h)))))))))))))
theorem inX11 : ∀ w ∈ wsX110, w ∈ lw_tbl := fun w h => wsL_law_in w (inlX11 w h)
theorem inlX12 : ∀ w ∈ wsX120, w ∈ wsL_law := fun _ h => List.mem_append_left _ (List.mem_append_left _ (List.mem_append_left _ (List.mem_append_left _ (List.mem_append_left _ (List.mem_append_left _ (List.mem_append_left _ (List.mem_append_left _ (List.mem_append_left _ (List.mem_append_left _ (List.mem_append_left _ (List.mem_append_left _ (List.mem_append_right _ h))))))))))))
theorem inX12 : ∀ w ∈ wsX120, w ∈ lw_tbl := fun w h => wsL_law_in w (inlX12 w h)
theorem inJ6 : ∀ w ∈ wsJ60, w ∈ lw_tbl := by decide +kernel
theorem inJ9 : ∀ w ∈ wsJ90, w ∈ lw_tbl := by decide +kernel
theorem inJ0 : ∀ w ∈ wsJ00, w ∈ lw_tbl := by decide +kernel
theorem inJ1 : ∀ w ∈ wsJ10, w ∈ lw_tbl := by decide +kernel
theorem inJ2 : ∀ w ∈ wsJ20, w ∈ lw_tbl := by decide +kernel
theorem inJ10 : ∀ w ∈ wsJ100, w ∈ lw_tbl := by decide +kernel
theorem inJ3 : ∀ w ∈ wsJ30, w ∈ lw_tbl := by decide +kernel
theorem dX0_init_0 : decode cX0_init 0 = .ok (.aload_n 0, 1) := by decide +kernel
theorem dX0_init_1 : decode cX0_init 1 = .ok (.invokespecial 3, 3) := by decide +kernel
theorem dX0_init_4 : decode cX0_init 4 = .ok (.aload_n 0, 1) := by decide +kernel
theorem dX0_init_5 : decode cX0_init 5 = .ok (.bipush 40, 2) := by decide +kernel
theorem dX0_init_7 : decode cX0_init 7 = .ok (.newarray .int, 2) := by decide +kernel
theorem dX0_init_9 : decode cX0_init 9 = .ok (.putfield 9, 3) := by decide +kernel
theorem dX0_init_12 : decode cX0_init 12 = .ok (.aload_n 0, 1) := by decide +kernel
theorem dX0_init_13 : decode cX0_init 13 = .ok (.bipush 40, 2) := by decide +kernel
theorem dX0_init_15 : decode cX0_init 15 = .ok (.newarray .int, 2) := by decide +kernel
theorem dX0_init_17 : decode cX0_init 17 = .ok (.putfield 15, 3) := by decide +kernel
theorem dX0_init_20 : decode cX0_init 20 = .ok (.aload_n 0, 1) := by decide +kernel
theorem dX0_init_21 : decode cX0_init 21 = .ok (.bipush 40, 2) := by decide +kernel
theorem dX0_init_23 : decode cX0_init 23 = .ok (.newarray .long, 2) := by decide +kernel
theorem dX0_init_25 : decode cX0_init 25 = .ok (.putfield 18, 3) := by decide +kernel
theorem dX0_init_28 : decode cX0_init 28 = .ok (.aload_n 0, 1) := by decide +kernel
theorem dX0_init_29 : decode cX0_init 29 = .ok (.bipush 6, 2) := by decide +kernel
theorem dX0_init_31 : decode cX0_init 31 = .ok (.newarray .int, 2) := by decide +kernel
theorem dX0_init_33 : decode cX0_init 33 = .ok (.putfield 22, 3) := by decide +kernel
theorem dX0_init_36 : decode cX0_init 36 = .ok (.aload_n 0, 1) := by decide +kernel
theorem dX0_init_37 : decode cX0_init 37 = .ok (.bipush 6, 2) := by decide +kernel
theorem dX0_init_39 : decode cX0_init 39 = .ok (.newarray .int, 2) := by decide +kernel
theorem dX0_init_41 : decode cX0_init 41 = .ok (.putfield 25, 3) := by decide +kernel
theorem dX0_init_44 : decode cX0_init 44 = .ok (.aload_n 0, 1) := by decide +kernel
theorem dX0_init_45 : decode cX0_init 45 = .ok (.sipush 240, 3) := by decide +kernel
theorem dX0_init_48 : decode cX0_init 48 = .ok (.newarray .long, 2) := by decide +kernel
theorem dX0_init_50 : decode cX0_init 50 = .ok (.putfield 28, 3) := by decide +kernel
theorem dX0_init_53 : decode cX0_init 53 = .ok (.aload_n 0, 1) := by decide +kernel
theorem dX0_init_54 : decode cX0_init 54 = .ok (.iload_n 1, 1) := by decide +kernel
theorem dX0_init_55 : decode cX0_init 55 = .ok (.putfield 31, 3) := by decide +kernel
theorem dX0_init_58 : decode cX0_init 58 = .ok (.aload_n 0, 1) := by decide +kernel
theorem dX0_init_59 : decode cX0_init 59 = .ok (.iload_n 2, 1) := by decide +kernel
theorem dX0_init_60 : decode cX0_init 60 = .ok (.putfield 35, 3) := by decide +kernel
theorem dX0_init_63 : decode cX0_init 63 = .ok (.aload_n 0, 1) := by decide +kernel
theorem dX0_init_64 : decode cX0_init 64 = .ok (.iload_n 3, 1) := by decide +kernel
theorem dX0_init_65 : decode cX0_init 65 = .ok (.putfield 38, 3) := by decide +kernel
theorem dX0_init_68 : decode cX0_init 68 = .ok (.aload_n 0, 1) := by decide +kernel
theorem dX0_init_69 : decode cX0_init 69 = .ok (.iload 4, 2) := by decide +kernel
theorem dX0_init_71 : decode cX0_init 71 = .ok (.putfield 41, 3) := by decide +kernel
theorem dX0_init_74 : decode cX0_init 74 = .ok (.aload_n 0, 1) := by decide +kernel
theorem dX0_init_75 : decode cX0_init 75 = .ok (.iload 5, 2) := by decide +kernel
theorem dX0_init_77 : decode cX0_init 77 = .ok (.putfield 44, 3) := by decide +kernel
theorem dX0_init_80 : decode cX0_init 80 = .ok (.aload_n 0, 1) := by decide +kernel
theorem dX0_init_81 : decode cX0_init 81 = .ok (.iload 6, 2) := by decide +kernel
theorem dX0_init_83 : decode cX0_init 83 = .ok (.putfield 47, 3) := by decide +kernel
theorem dX0_init_86 : decode cX0_init 86 = .ok (.aload_n 0, 1) := by decide +kernel
theorem dX0_init_87 : decode cX0_init 87 = .ok (.iload_n 3, 1) := by decide +kernel
theorem dX0_init_88 : decode cX0_init 88 = .ok (.iconst 1, 1) := by decide +kernel
theorem dX0_init_89 : decode cX0_init 89 = .ok (.isub, 1) := by decide +kernel
theorem dX0_init_90 : decode cX0_init 90 = .ok (.putfield 50, 3) := by decide +kernel
theorem dX0_init_93 : decode cX0_init 93 = .ok (.return_, 1) := by decide +kernel
theorem dX0_eats_0 : decode cX0_eats 0 = .ok (.aload_n 0, 1) := by decide +kernel
theorem dX0_eats_1 : decode cX0_eats 1 = .ok (.getfield 41, 3) := by decide +kernel
theorem dX0_eats_4 : decode cX0_eats 4 = .ok (.getstatic 53, 3) := by decide +kernel
theorem dX0_eats_7 : decode cX0_eats 7 = .ok (.aload_n 0, 1) := by decide +kernel
theorem dX0_eats_8 : decode cX0_eats 8 = .ok (.getfield 31, 3) := by decide +kernel
theorem dX0_eats_11 : decode cX0_eats 11 = .ok (.iaload, 1) := by decide +kernel
theorem dX0_eats_12 : decode cX0_eats 12 = .ok (.imul, 1) := by decide +kernel
theorem dX0_eats_13 : decode cX0_eats 13 = .ok (.getstatic 56, 3) := by decide +kernel
theorem dX0_eats_16 : decode cX0_eats 16 = .ok (.aload_n 0, 1) := by decide +kernel
theorem dX0_eats_17 : decode cX0_eats 17 = .ok (.getfield 31, 3) := by decide +kernel
theorem dX0_eats_20 : decode cX0_eats 20 = .ok (.iaload, 1) := by decide +kernel
theorem dX0_eats_21 : decode cX0_eats 21 = .ok (.iadd, 1) := by decide +kernel
theorem dX0_eats_22 : decode cX0_eats 22 = .ok (.ireturn, 1) := by decide +kernel
theorem dX0_burns_0 : decode cX0_burns 0 = .ok (.getstatic 59, 3) := by decide +kernel
theorem dX0_burns_3 : decode cX0_burns 3 = .ok (.aload_n 0, 1) := by decide +kernel
theorem dX0_burns_4 : decode cX0_burns 4 = .ok (.getfield 31, 3) := by decide +kernel
theorem dX0_burns_7 : decode cX0_burns 7 = .ok (.iaload, 1) := by decide +kernel
theorem dX0_burns_8 : decode cX0_burns 8 = .ok (.ireturn, 1) := by decide +kernel
set_option maxRecDepth 20000 in
theorem ggX0_eatFor_X0_eats : GoodIn wsX0_eatFor wsX0_eats := goodIn_r _ [10, 11, 12, 13, 14, 15, 16, 17, 18, 19, 20, 21, 22, 23, 24, 25, 26, 27] (by decide +kernel) (by decide +kernel)
set_option maxRecDepth 20000 in
theorem gX0_eatFor_X0_eats : GoodIn wsX0_eatFor (wsV RX0 62 RX0 yX0_eats wsX0_eats) := goodIn_app (goodIn_of _ (by decide +kernel)) ggX0_eatFor_X0_eats
theorem dX0_eatFor_0 : decode cX0_eatFor 0 = .ok (.aload_n 0, 1) := by decide +kernel
theorem dX0_eatFor_1 : decode cX0_eatFor 1 = .ok (.iconst 0, 1) := by decide +kernel
theorem dX0_eatFor_2 : decode cX0_eatFor 2 = .ok (.aload_n 0, 1) := by decide +kernel
theorem dX0_eatFor_3 : decode cX0_eatFor 3 = .ok (.getfield 44, 3) := by decide +kernel
theorem dX0_eatFor_6 : decode cX0_eatFor 6 = .ok (.iload_n 1, 1) := by decide +kernel
theorem dX0_eatFor_7 : decode cX0_eatFor 7 = .ok (.aload_n 0, 1) := by decide +kernel
theorem dX0_eatFor_8 : decode cX0_eatFor 8 = .ok (.invokevirtual 62, 3) := by decide +kernel
theorem dX0_eatFor_11 : decode cX0_eatFor 11 = .ok (.imul, 1) := by decide +kernel
theorem dX0_eatFor_12 : decode cX0_eatFor 12 = .ok (.isub, 1) := by decide +kernel
theorem dX0_eatFor_13 : decode cX0_eatFor 13 = .ok (.invokestatic 66, 3) := by decide +kernel
theorem dX0_eatFor_16 : decode cX0_eatFor 16 = .ok (.putfield 44, 3) := by decide +kernel
theorem dX0_eatFor_19 : decode cX0_eatFor 19 = .ok (.return_, 1) := by decide +kernel
set_option maxRecDepth 20000 in
theorem ggX0_foodLasts_X0_eats : GoodIn wsX0_foodLasts wsX0_eats := goodIn_r _ [6, 7, 8, 9, 10, 11, 12, 13, 14, 15, 16, 17, 18, 19, 20, 21, 22, 23] (by decide +kernel) (by decide +kernel)
set_option maxRecDepth 20000 in
theorem gX0_foodLasts_X0_eats : GoodIn wsX0_foodLasts (wsV RX0 62 RX0 yX0_eats wsX0_eats) := goodIn_app (goodIn_of _ (by decide +kernel)) ggX0_foodLasts_X0_eats
theorem dX0_foodLasts_0 : decode cX0_foodLasts 0 = .ok (.aload_n 0, 1) := by decide +kernel
theorem dX0_foodLasts_1 : decode cX0_foodLasts 1 = .ok (.invokevirtual 62, 3) := by decide +kernel
theorem dX0_foodLasts_4 : decode cX0_foodLasts 4 = .ok (.istore_n 2, 1) := by decide +kernel
theorem dX0_foodLasts_5 : decode cX0_foodLasts 5 = .ok (.iload_n 2, 1) := by decide +kernel
theorem dX0_foodLasts_6 : decode cX0_foodLasts 6 = .ok (.ifCond .ne 9, 3) := by decide +kernel
theorem dX0_foodLasts_9 : decode cX0_foodLasts 9 = .ok (.sipush 9999, 3) := by decide +kernel
theorem dX0_foodLasts_12 : decode cX0_foodLasts 12 = .ok (.goto 11, 3) := by decide +kernel
theorem dX0_foodLasts_15 : decode cX0_foodLasts 15 = .ok (.iload_n 1, 1) := by decide +kernel
theorem dX0_foodLasts_16 : decode cX0_foodLasts 16 = .ok (.aload_n 0, 1) := by decide +kernel
theorem dX0_foodLasts_17 : decode cX0_foodLasts 17 = .ok (.getfield 44, 3) := by decide +kernel
theorem dX0_foodLasts_20 : decode cX0_foodLasts 20 = .ok (.iload_n 2, 1) := by decide +kernel
theorem dX0_foodLasts_21 : decode cX0_foodLasts 21 = .ok (.idiv, 1) := by decide +kernel
theorem dX0_foodLasts_22 : decode cX0_foodLasts 22 = .ok (.iadd, 1) := by decide +kernel
theorem dX0_foodLasts_23 : decode cX0_foodLasts 23 = .ok (.ireturn, 1) := by decide +kernel
theorem dX0_isUnder_0 : decode cX0_isUnder 0 = .ok (.aload_n 0, 1) := by decide +kernel
theorem dX0_isUnder_1 : decode cX0_isUnder 1 = .ok (.getfield 31, 3) := by decide +kernel
theorem dX0_isUnder_4 : decode cX0_isUnder 4 = .ok (.istore_n 2, 1) := by decide +kernel
theorem dX0_isUnder_5 : decode cX0_isUnder 5 = .ok (.iconst 0, 1) := by decide +kernel
theorem dX0_isUnder_6 : decode cX0_isUnder 6 = .ok (.istore_n 3, 1) := by decide +kernel
theorem dX0_isUnder_7 : decode cX0_isUnder 7 = .ok (.iload_n 3, 1) := by decide +kernel
theorem dX0_isUnder_8 : decode cX0_isUnder 8 = .ok (.bipush 6, 2) := by decide +kernel
theorem dX0_isUnder_10 : decode cX0_isUnder 10 = .ok (.if_icmp .ge 24, 3) := by decide +kernel
theorem dX0_isUnder_13 : decode cX0_isUnder 13 = .ok (.iload_n 2, 1) := by decide +kernel
theorem dX0_isUnder_14 : decode cX0_isUnder 14 = .ok (.ifCond .le 20, 3) := by decide +kernel
theorem dX0_isUnder_17 : decode cX0_isUnder 17 = .ok (.iload_n 2, 1) := by decide +kernel
theorem dX0_isUnder_18 : decode cX0_isUnder 18 = .ok (.iload_n 1, 1) := by decide +kernel
theorem dX0_isUnder_19 : decode cX0_isUnder 19 = .ok (.if_icmp .eq 15, 3) := by decide +kernel
theorem dX0_isUnder_22 : decode cX0_isUnder 22 = .ok (.getstatic 72, 3) := by decide +kernel
theorem dX0_isUnder_25 : decode cX0_isUnder 25 = .ok (.iload_n 2, 1) := by decide +kernel
theorem dX0_isUnder_26 : decode cX0_isUnder 26 = .ok (.iaload, 1) := by decide +kernel
theorem dX0_isUnder_27 : decode cX0_isUnder 27 = .ok (.istore_n 2, 1) := by decide +kernel
theorem dX0_isUnder_28 : decode cX0_isUnder 28 = .ok (.iinc 3 1, 3) := by decide +kernel
theorem dX0_isUnder_31 : decode cX0_isUnder 31 = .ok (.goto (-24), 3) := by decide +kernel
theorem dX0_isUnder_34 : decode cX0_isUnder 34 = .ok (.iload_n 2, 1) := by decide +kernel
theorem dX0_isUnder_35 : decode cX0_isUnder 35 = .ok (.iload_n 1, 1) := by decide +kernel
theorem dX0_isUnder_36 : decode cX0_isUnder 36 = .ok (.if_icmp .ne 7, 3) := by decide +kernel
theorem dX0_isUnder_39 : decode cX0_isUnder 39 = .ok (.iconst 1, 1) := by decide +kernel
theorem dX0_isUnder_40 : decode cX0_isUnder 40 = .ok (.goto 4, 3) := by decide +kernel
theorem dX0_isUnder_43 : decode cX0_isUnder 43 = .ok (.iconst 0, 1) := by decide +kernel
theorem dX0_isUnder_44 : decode cX0_isUnder 44 = .ok (.ireturn, 1) := by decide +kernel
set_option maxRecDepth 20000 in
theorem ggX0_driftIn_X10_blow : GoodIn wsX0_driftIn wsX10_blow := goodIn_r _ [6, 7, 8, 9, 10, 11, 12, 13, 29, 30, 31, 32] (by decide +kernel) (by decide +kernel)
set_option maxRecDepth 20000 in
theorem gX0_driftIn_X10_blow : GoodIn wsX0_driftIn (wsV RX0 75 RX10 yX10_blow wsX10_blow) := goodIn_app (goodIn_of _ (by decide +kernel)) ggX0_driftIn_X10_blow
theorem dX0_driftIn_0 : decode cX0_driftIn 0 = .ok (.aload_n 0, 1) := by decide +kernel
theorem dX0_driftIn_1 : decode cX0_driftIn 1 = .ok (.getfield 31, 3) := by decide +kernel
theorem dX0_driftIn_4 : decode cX0_driftIn 4 = .ok (.iconst 2, 1) := by decide +kernel
theorem dX0_driftIn_5 : decode cX0_driftIn 5 = .ok (.if_icmp .ne 5, 3) := by decide +kernel
theorem dX0_driftIn_8 : decode cX0_driftIn 8 = .ok (.lload_n 3, 1) := by decide +kernel
theorem dX0_driftIn_9 : decode cX0_driftIn 9 = .ok (.lreturn, 1) := by decide +kernel
theorem dX0_driftIn_10 : decode cX0_driftIn 10 = .ok (.aload_n 0, 1) := by decide +kernel
theorem dX0_driftIn_11 : decode cX0_driftIn 11 = .ok (.getfield 31, 3) := by decide +kernel
theorem dX0_driftIn_14 : decode cX0_driftIn 14 = .ok (.iconst 3, 1) := by decide +kernel
theorem dX0_driftIn_15 : decode cX0_driftIn 15 = .ok (.if_icmp .eq 17, 3) := by decide +kernel
theorem dX0_driftIn_18 : decode cX0_driftIn 18 = .ok (.aload_n 0, 1) := by decide +kernel
theorem dX0_driftIn_19 : decode cX0_driftIn 19 = .ok (.getfield 31, 3) := by decide +kernel
theorem dX0_driftIn_22 : decode cX0_driftIn 22 = .ok (.iconst 4, 1) := by decide +kernel
theorem dX0_driftIn_23 : decode cX0_driftIn 23 = .ok (.if_icmp .ne 13, 3) := by decide +kernel
theorem dX0_driftIn_26 : decode cX0_driftIn 26 = .ok (.iload_n 2, 1) := by decide +kernel
theorem dX0_driftIn_27 : decode cX0_driftIn 27 = .ok (.iconst 4, 1) := by decide +kernel
theorem dX0_driftIn_28 : decode cX0_driftIn 28 = .ok (.irem, 1) := by decide +kernel
theorem dX0_driftIn_29 : decode cX0_driftIn 29 = .ok (.ifCond .ne 7, 3) := by decide +kernel
theorem dX0_driftIn_32 : decode cX0_driftIn 32 = .ok (.iconst 1, 1) := by decide +kernel
theorem dX0_driftIn_33 : decode cX0_driftIn 33 = .ok (.goto 4, 3) := by decide +kernel
theorem dX0_driftIn_36 : decode cX0_driftIn 36 = .ok (.iconst 0, 1) := by decide +kernel
theorem dX0_driftIn_37 : decode cX0_driftIn 37 = .ok (.istore 5, 2) := by decide +kernel
theorem dX0_driftIn_39 : decode cX0_driftIn 39 = .ok (.aload_n 1, 1) := by decide +kernel
theorem dX0_driftIn_40 : decode cX0_driftIn 40 = .ok (.iload_n 2, 1) := by decide +kernel
theorem dX0_driftIn_41 : decode cX0_driftIn 41 = .ok (.lload_n 3, 1) := by decide +kernel
theorem dX0_driftIn_42 : decode cX0_driftIn 42 = .ok (.iload 5, 2) := by decide +kernel
theorem dX0_driftIn_44 : decode cX0_driftIn 44 = .ok (.ifCond .eq 7, 3) := by decide +kernel
theorem dX0_driftIn_47 : decode cX0_driftIn 47 = .ok (.iconst 1, 1) := by decide +kernel
theorem dX0_driftIn_48 : decode cX0_driftIn 48 = .ok (.goto 4, 3) := by decide +kernel
theorem dX0_driftIn_51 : decode cX0_driftIn 51 = .ok (.iconst 0, 1) := by decide +kernel
theorem dX0_driftIn_52 : decode cX0_driftIn 52 = .ok (.invokevirtual 75, 3) := by decide +kernel
theorem dX0_driftIn_55 : decode cX0_driftIn 55 = .ok (.lreturn, 1) := by decide +kernel
set_option maxRecDepth 20000 in
theorem ggX0_narrowBy_X0_forgetBehind : GoodIn wsX0_narrowBy wsX0_forgetBehind := goodIn_r _ [9, 10, 11, 12, 13, 14, 15, 16, 17, 18, 19, 20, 21, 22, 23, 24, 25, 26, 27, 28, 29, 30, 31, 32, 33] (by decide +kernel) (by decide +kernel)
set_option maxRecDepth 20000 in
theorem gX0_narrowBy_X0_forgetBehind : GoodIn wsX0_narrowBy (wsV RX0 84 RX0 yX0_forgetBehind wsX0_forgetBehind) := goodIn_app (goodIn_of _ (by decide +kernel)) ggX0_narrowBy_X0_forgetBehind
theorem dX0_narrowBy_0 : decode cX0_narrowBy 0 = .ok (.aload_n 0, 1) := by decide +kernel
theorem dX0_narrowBy_1 : decode cX0_narrowBy 1 = .ok (.getfield 81, 3) := by decide +kernel
theorem dX0_narrowBy_4 : decode cX0_narrowBy 4 = .ok (.bipush 40, 2) := by decide +kernel
theorem dX0_narrowBy_6 : decode cX0_narrowBy 6 = .ok (.if_icmp .ge 50, 3) := by decide +kernel
theorem dX0_narrowBy_9 : decode cX0_narrowBy 9 = .ok (.aload_n 0, 1) := by decide +kernel
theorem dX0_narrowBy_10 : decode cX0_narrowBy 10 = .ok (.getfield 9, 3) := by decide +kernel
theorem dX0_narrowBy_13 : decode cX0_narrowBy 13 = .ok (.aload_n 0, 1) := by decide +kernel
theorem dX0_narrowBy_14 : decode cX0_narrowBy 14 = .ok (.getfield 81, 3) := by decide +kernel
theorem dX0_narrowBy_17 : decode cX0_narrowBy 17 = .ok (.iload_n 1, 1) := by decide +kernel
theorem dX0_narrowBy_18 : decode cX0_narrowBy 18 = .ok (.iastore, 1) := by decide +kernel
theorem dX0_narrowBy_19 : decode cX0_narrowBy 19 = .ok (.aload_n 0, 1) := by decide +kernel
theorem dX0_narrowBy_20 : decode cX0_narrowBy 20 = .ok (.getfield 15, 3) := by decide +kernel
theorem dX0_narrowBy_23 : decode cX0_narrowBy 23 = .ok (.aload_n 0, 1) := by decide +kernel
theorem dX0_narrowBy_24 : decode cX0_narrowBy 24 = .ok (.getfield 81, 3) := by decide +kernel
theorem dX0_narrowBy_27 : decode cX0_narrowBy 27 = .ok (.iload_n 2, 1) := by decide +kernel
theorem dX0_narrowBy_28 : decode cX0_narrowBy 28 = .ok (.iastore, 1) := by decide +kernel
theorem dX0_narrowBy_29 : decode cX0_narrowBy 29 = .ok (.aload_n 0, 1) := by decide +kernel
theorem dX0_narrowBy_30 : decode cX0_narrowBy 30 = .ok (.getfield 18, 3) := by decide +kernel
theorem dX0_narrowBy_33 : decode cX0_narrowBy 33 = .ok (.aload_n 0, 1) := by decide +kernel
theorem dX0_narrowBy_34 : decode cX0_narrowBy 34 = .ok (.getfield 81, 3) := by decide +kernel
theorem dX0_narrowBy_37 : decode cX0_narrowBy 37 = .ok (.lload_n 3, 1) := by decide +kernel
theorem dX0_narrowBy_38 : decode cX0_narrowBy 38 = .ok (.lastore, 1) := by decide +kernel
theorem dX0_narrowBy_39 : decode cX0_narrowBy 39 = .ok (.aload_n 0, 1) := by decide +kernel
theorem dX0_narrowBy_40 : decode cX0_narrowBy 40 = .ok (.dup, 1) := by decide +kernel
theorem dX0_narrowBy_41 : decode cX0_narrowBy 41 = .ok (.getfield 81, 3) := by decide +kernel
theorem dX0_narrowBy_44 : decode cX0_narrowBy 44 = .ok (.iconst 1, 1) := by decide +kernel
theorem dX0_narrowBy_45 : decode cX0_narrowBy 45 = .ok (.iadd, 1) := by decide +kernel
theorem dX0_narrowBy_46 : decode cX0_narrowBy 46 = .ok (.putfield 81, 3) := by decide +kernel
theorem dX0_narrowBy_49 : decode cX0_narrowBy 49 = .ok (.aload_n 0, 1) := by decide +kernel
theorem dX0_narrowBy_50 : decode cX0_narrowBy 50 = .ok (.iload_n 1, 1) := by decide +kernel
theorem dX0_narrowBy_51 : decode cX0_narrowBy 51 = .ok (.iconst 1, 1) := by decide +kernel
theorem dX0_narrowBy_52 : decode cX0_narrowBy 52 = .ok (.isub, 1) := by decide +kernel
theorem dX0_narrowBy_53 : decode cX0_narrowBy 53 = .ok (.invokevirtual 84, 3) := by decide +kernel
theorem dX0_narrowBy_56 : decode cX0_narrowBy 56 = .ok (.return_, 1) := by decide +kernel
theorem dX0_forgetBehind_0 : decode cX0_forgetBehind 0 = .ok (.aload_n 0, 1) := by decide +kernel
theorem dX0_forgetBehind_1 : decode cX0_forgetBehind 1 = .ok (.aload_n 0, 1) := by decide +kernel
theorem dX0_forgetBehind_2 : decode cX0_forgetBehind 2 = .ok (.getfield 38, 3) := by decide +kernel
theorem dX0_forgetBehind_5 : decode cX0_forgetBehind 5 = .ok (.iconst 1, 1) := by decide +kernel
theorem dX0_forgetBehind_6 : decode cX0_forgetBehind 6 = .ok (.isub, 1) := by decide +kernel
theorem dX0_forgetBehind_7 : decode cX0_forgetBehind 7 = .ok (.aload_n 0, 1) := by decide +kernel
theorem dX0_forgetBehind_8 : decode cX0_forgetBehind 8 = .ok (.getfield 50, 3) := by decide +kernel
theorem dX0_forgetBehind_11 : decode cX0_forgetBehind 11 = .ok (.iload_n 1, 1) := by decide +kernel
theorem dX0_forgetBehind_12 : decode cX0_forgetBehind 12 = .ok (.invokestatic 88, 3) := by decide +kernel
theorem dX0_forgetBehind_15 : decode cX0_forgetBehind 15 = .ok (.invokestatic 66, 3) := by decide +kernel
theorem dX0_forgetBehind_18 : decode cX0_forgetBehind 18 = .ok (.putfield 50, 3) := by decide +kernel
theorem dX0_forgetBehind_21 : decode cX0_forgetBehind 21 = .ok (.return_, 1) := by decide +kernel
theorem dX0_addFlown_0 : decode cX0_addFlown 0 = .ok (.aload_n 0, 1) := by decide +kernel
theorem dX0_addFlown_1 : decode cX0_addFlown 1 = .ok (.getfield 22, 3) := by decide +kernel
theorem dX0_addFlown_4 : decode cX0_addFlown 4 = .ok (.aload_n 0, 1) := by decide +kernel
theorem dX0_addFlown_5 : decode cX0_addFlown 5 = .ok (.getfield 91, 3) := by decide +kernel
theorem dX0_addFlown_8 : decode cX0_addFlown 8 = .ok (.iload_n 1, 1) := by decide +kernel
theorem dX0_addFlown_9 : decode cX0_addFlown 9 = .ok (.iastore, 1) := by decide +kernel
theorem dX0_addFlown_10 : decode cX0_addFlown 10 = .ok (.aload_n 0, 1) := by decide +kernel
theorem dX0_addFlown_11 : decode cX0_addFlown 11 = .ok (.getfield 25, 3) := by decide +kernel
theorem dX0_addFlown_14 : decode cX0_addFlown 14 = .ok (.aload_n 0, 1) := by decide +kernel
theorem dX0_addFlown_15 : decode cX0_addFlown 15 = .ok (.getfield 91, 3) := by decide +kernel
theorem dX0_addFlown_18 : decode cX0_addFlown 18 = .ok (.iload_n 2, 1) := by decide +kernel
theorem dX0_addFlown_19 : decode cX0_addFlown 19 = .ok (.iastore, 1) := by decide +kernel
theorem dX0_addFlown_20 : decode cX0_addFlown 20 = .ok (.aload_n 0, 1) := by decide +kernel
theorem dX0_addFlown_21 : decode cX0_addFlown 21 = .ok (.dup, 1) := by decide +kernel
theorem dX0_addFlown_22 : decode cX0_addFlown 22 = .ok (.getfield 91, 3) := by decide +kernel
theorem dX0_addFlown_25 : decode cX0_addFlown 25 = .ok (.iconst 1, 1) := by decide +kernel
theorem dX0_addFlown_26 : decode cX0_addFlown 26 = .ok (.iadd, 1) := by decide +kernel
theorem dX0_addFlown_27 : decode cX0_addFlown 27 = .ok (.dup_x1, 1) := by decide +kernel
theorem dX0_addFlown_28 : decode cX0_addFlown 28 = .ok (.putfield 91, 3) := by decide +kernel
theorem dX0_addFlown_31 : decode cX0_addFlown 31 = .ok (.ireturn, 1) := by decide +kernel
set_option maxRecDepth 20000 in
theorem ggX0_placesKnown_X0_placesNow : GoodIn wsX0_placesKnown wsX0_placesNow := goodIn_r _ [9, 4, 10, 3, 11, 1, 12, 13, 14, 15, 16, 17, 18, 8, 19, 20, 21, 22, 23, 24, 25, 26, 27, 28, 29, 30, 31, 32, 33, 34, 35, 36, 37, 38, 39, 40, 41, 42, 43, 44, 45, 46, 47, 48, 49, 50, 51, 52, 53, 54, 55, 56, 57] (by decide +kernel) (by decide +kernel)
set_option maxRecDepth 20000 in
theorem gX0_placesKnown_X0_placesNow : GoodIn wsX0_placesKnown (wsV RX0 94 RX0 yX0_placesNow wsX0_placesNow) := goodIn_app (goodIn_of _ (by decide +kernel)) ggX0_placesKnown_X0_placesNow
set_option maxRecDepth 20000 in
theorem ggX0_placesKnown_X0_narrowed : GoodIn wsX0_placesKnown wsX0_narrowed := goodIn_r _ [36, 37, 38, 39, 40, 41, 42, 43, 44, 45, 46, 47, 48, 49, 50, 51, 52, 53] (by decide +kernel) (by decide +kernel)
set_option maxRecDepth 20000 in
theorem gX0_placesKnown_X0_narrowed : GoodIn wsX0_placesKnown (wsV RX0 98 RX0 yX0_narrowed wsX0_narrowed) := goodIn_app (goodIn_of _ (by decide +kernel)) ggX0_placesKnown_X0_narrowed
set_option maxRecDepth 20000 in
theorem ggX0_placesKnown_X0_driftIn : GoodIn wsX0_placesKnown wsX0_driftIn := goodIn_r _ [19, 20, 21, 22, 23, 24, 25, 26, 27, 28, 29, 30, 31, 32, 39, 40, 41, 42, 43, 44, 45, 46, 47, 48, 49, 50, 51, 52, 53, 54, 55, 56, 57] (by decide +kernel) (by decide +kernel)
set_option maxRecDepth 20000 in
theorem gX0_placesKnown_X0_driftIn : GoodIn wsX0_placesKnown (wsV RX0 102 RX0 yX0_driftIn wsX0_driftIn) := goodIn_app (goodIn_of _ (by decide +kernel)) ggX0_placesKnown_X0_driftIn
theorem dX0_placesKnown_0 : decode cX0_placesKnown 0 = .ok (.iconst 0, 1) := by decide +kernel
theorem dX0_placesKnown_1 : decode cX0_placesKnown 1 = .ok (.istore 4, 2) := by decide +kernel
theorem dX0_placesKnown_3 : decode cX0_placesKnown 3 = .ok (.iload 4, 2) := by decide +kernel
theorem dX0_placesKnown_5 : decode cX0_placesKnown 5 = .ok (.aload_n 0, 1) := by decide +kernel
theorem dX0_placesKnown_6 : decode cX0_placesKnown 6 = .ok (.getfield 81, 3) := by decide +kernel
theorem dX0_placesKnown_9 : decode cX0_placesKnown 9 = .ok (.if_icmp .ge 20, 3) := by decide +kernel
theorem dX0_placesKnown_12 : decode cX0_placesKnown 12 = .ok (.aload_n 0, 1) := by decide +kernel
theorem dX0_placesKnown_13 : decode cX0_placesKnown 13 = .ok (.getfield 15, 3) := by decide +kernel
theorem dX0_placesKnown_16 : decode cX0_placesKnown 16 = .ok (.iload 4, 2) := by decide +kernel
theorem dX0_placesKnown_18 : decode cX0_placesKnown 18 = .ok (.iaload, 1) := by decide +kernel
theorem dX0_placesKnown_19 : decode cX0_placesKnown 19 = .ok (.iload_n 3, 1) := by decide +kernel
theorem dX0_placesKnown_20 : decode cX0_placesKnown 20 = .ok (.if_icmp .gt 9, 3) := by decide +kernel
theorem dX0_placesKnown_23 : decode cX0_placesKnown 23 = .ok (.iinc 4 1, 3) := by decide +kernel
theorem dX0_placesKnown_26 : decode cX0_placesKnown 26 = .ok (.goto (-23), 3) := by decide +kernel
theorem dX0_placesKnown_29 : decode cX0_placesKnown 29 = .ok (.iload 4, 2) := by decide +kernel
theorem dX0_placesKnown_31 : decode cX0_placesKnown 31 = .ok (.aload_n 0, 1) := by decide +kernel
theorem dX0_placesKnown_32 : decode cX0_placesKnown 32 = .ok (.getfield 81, 3) := by decide +kernel
theorem dX0_placesKnown_35 : decode cX0_placesKnown 35 = .ok (.if_icmp .ne 10, 3) := by decide +kernel
theorem dX0_placesKnown_38 : decode cX0_placesKnown 38 = .ok (.aload_n 0, 1) := by decide +kernel
theorem dX0_placesKnown_39 : decode cX0_placesKnown 39 = .ok (.aload_n 1, 1) := by decide +kernel
theorem dX0_placesKnown_40 : decode cX0_placesKnown 40 = .ok (.iload_n 2, 1) := by decide +kernel
theorem dX0_placesKnown_41 : decode cX0_placesKnown 41 = .ok (.invokevirtual 94, 3) := by decide +kernel
theorem dX0_placesKnown_44 : decode cX0_placesKnown 44 = .ok (.lreturn, 1) := by decide +kernel
theorem dX0_placesKnown_45 : decode cX0_placesKnown 45 = .ok (.aload_n 0, 1) := by decide +kernel
theorem dX0_placesKnown_46 : decode cX0_placesKnown 46 = .ok (.lconst 1, 1) := by decide +kernel
theorem dX0_placesKnown_47 : decode cX0_placesKnown 47 = .ok (.aload_n 0, 1) := by decide +kernel
theorem dX0_placesKnown_48 : decode cX0_placesKnown 48 = .ok (.getfield 35, 3) := by decide +kernel
theorem dX0_placesKnown_51 : decode cX0_placesKnown 51 = .ok (.lshl, 1) := by decide +kernel
theorem dX0_placesKnown_52 : decode cX0_placesKnown 52 = .ok (.aload_n 0, 1) := by decide +kernel
theorem dX0_placesKnown_53 : decode cX0_placesKnown 53 = .ok (.getfield 38, 3) := by decide +kernel
theorem dX0_placesKnown_56 : decode cX0_placesKnown 56 = .ok (.iload 4, 2) := by decide +kernel
theorem dX0_placesKnown_58 : decode cX0_placesKnown 58 = .ok (.invokevirtual 98, 3) := by decide +kernel
theorem dX0_placesKnown_61 : decode cX0_placesKnown 61 = .ok (.lstore 5, 2) := by decide +kernel
theorem dX0_placesKnown_63 : decode cX0_placesKnown 63 = .ok (.aload_n 0, 1) := by decide +kernel
theorem dX0_placesKnown_64 : decode cX0_placesKnown 64 = .ok (.getfield 38, 3) := by decide +kernel
theorem dX0_placesKnown_67 : decode cX0_placesKnown 67 = .ok (.istore 7, 2) := by decide +kernel
theorem dX0_placesKnown_69 : decode cX0_placesKnown 69 = .ok (.iload 7, 2) := by decide +kernel
theorem dX0_placesKnown_71 : decode cX0_placesKnown 71 = .ok (.iload_n 2, 1) := by decide +kernel
theorem dX0_placesKnown_72 : decode cX0_placesKnown 72 = .ok (.if_icmp .ge 30, 3) := by decide +kernel
theorem dX0_placesKnown_75 : decode cX0_placesKnown 75 = .ok (.aload_n 0, 1) := by decide +kernel
theorem dX0_placesKnown_76 : decode cX0_placesKnown 76 = .ok (.aload_n 0, 1) := by decide +kernel
theorem dX0_placesKnown_77 : decode cX0_placesKnown 77 = .ok (.aload_n 1, 1) := by decide +kernel
theorem dX0_placesKnown_78 : decode cX0_placesKnown 78 = .ok (.iload 7, 2) := by decide +kernel
theorem dX0_placesKnown_80 : decode cX0_placesKnown 80 = .ok (.lload 5, 2) := by decide +kernel
theorem dX0_placesKnown_82 : decode cX0_placesKnown 82 = .ok (.invokevirtual 102, 3) := by decide +kernel
theorem dX0_placesKnown_85 : decode cX0_placesKnown 85 = .ok (.iload 7, 2) := by decide +kernel
theorem dX0_placesKnown_87 : decode cX0_placesKnown 87 = .ok (.iconst 1, 1) := by decide +kernel
theorem dX0_placesKnown_88 : decode cX0_placesKnown 88 = .ok (.iadd, 1) := by decide +kernel
theorem dX0_placesKnown_89 : decode cX0_placesKnown 89 = .ok (.iload 4, 2) := by decide +kernel
theorem dX0_placesKnown_91 : decode cX0_placesKnown 91 = .ok (.invokevirtual 98, 3) := by decide +kernel
theorem dX0_placesKnown_94 : decode cX0_placesKnown 94 = .ok (.lstore 5, 2) := by decide +kernel
theorem dX0_placesKnown_96 : decode cX0_placesKnown 96 = .ok (.iinc 7 1, 3) := by decide +kernel
theorem dX0_placesKnown_99 : decode cX0_placesKnown 99 = .ok (.goto (-30), 3) := by decide +kernel
theorem dX0_placesKnown_102 : decode cX0_placesKnown 102 = .ok (.lload 5, 2) := by decide +kernel
theorem dX0_placesKnown_104 : decode cX0_placesKnown 104 = .ok (.lreturn, 1) := by decide +kernel
set_option maxRecDepth 20000 in
theorem ggX0_placesNow_X0_driftIn : GoodIn wsX0_placesNow wsX0_driftIn := goodIn_r _ [14, 15, 16, 17, 18, 19, 20, 21, 22, 23, 24, 25, 26, 27, 34, 35, 36, 37, 38, 39, 40, 41, 42, 43, 44, 45, 46, 47, 48, 49, 50, 51, 52] (by decide +kernel) (by decide +kernel)
set_option maxRecDepth 20000 in
theorem gX0_placesNow_X0_driftIn : GoodIn wsX0_placesNow (wsV RX0 102 RX0 yX0_driftIn wsX0_driftIn) := goodIn_app (goodIn_of _ (by decide +kernel)) ggX0_placesNow_X0_driftIn
set_option maxRecDepth 20000 in
theorem ggX0_placesNow_X0_narrowed : GoodIn wsX0_placesNow wsX0_narrowed := goodIn_r _ [31, 32, 33, 34, 35, 36, 37, 38, 39, 40, 41, 42, 43, 44, 45, 46, 47, 48] (by decide +kernel) (by decide +kernel)
set_option maxRecDepth 20000 in
theorem gX0_placesNow_X0_narrowed : GoodIn wsX0_placesNow (wsV RX0 98 RX0 yX0_narrowed wsX0_narrowed) := goodIn_app (goodIn_of _ (by decide +kernel)) ggX0_placesNow_X0_narrowed
theorem dX0_placesNow_0 : decode cX0_placesNow 0 = .ok (.iload_n 2, 1) := by decide +kernel
theorem dX0_placesNow_1 : decode cX0_placesNow 1 = .ok (.aload_n 0, 1) := by decide +kernel
theorem dX0_placesNow_2 : decode cX0_placesNow 2 = .ok (.getfield 38, 3) := by decide +kernel
theorem dX0_placesNow_5 : decode cX0_placesNow 5 = .ok (.if_icmp .lt 10, 3) := by decide +kernel
theorem dX0_placesNow_8 : decode cX0_placesNow 8 = .ok (.iload_n 2, 1) := by decide +kernel
theorem dX0_placesNow_9 : decode cX0_placesNow 9 = .ok (.sipush 240, 3) := by decide +kernel
theorem dX0_placesNow_12 : decode cX0_placesNow 12 = .ok (.if_icmp .lt 5, 3) := by decide +kernel
theorem dX0_placesNow_15 : decode cX0_placesNow 15 = .ok (.lconst 0, 1) := by decide +kernel
theorem dX0_placesNow_16 : decode cX0_placesNow 16 = .ok (.lreturn, 1) := by decide +kernel
theorem dX0_placesNow_17 : decode cX0_placesNow 17 = .ok (.aload_n 0, 1) := by decide +kernel
theorem dX0_placesNow_18 : decode cX0_placesNow 18 = .ok (.getfield 50, 3) := by decide +kernel
theorem dX0_placesNow_21 : decode cX0_placesNow 21 = .ok (.iconst 1, 1) := by decide +kernel
theorem dX0_placesNow_22 : decode cX0_placesNow 22 = .ok (.iadd, 1) := by decide +kernel
theorem dX0_placesNow_23 : decode cX0_placesNow 23 = .ok (.istore_n 3, 1) := by decide +kernel
theorem dX0_placesNow_24 : decode cX0_placesNow 24 = .ok (.iload_n 3, 1) := by decide +kernel
theorem dX0_placesNow_25 : decode cX0_placesNow 25 = .ok (.iload_n 2, 1) := by decide +kernel
theorem dX0_placesNow_26 : decode cX0_placesNow 26 = .ok (.if_icmp .gt 61, 3) := by decide +kernel
theorem dX0_placesNow_29 : decode cX0_placesNow 29 = .ok (.iload_n 3, 1) := by decide +kernel
theorem dX0_placesNow_30 : decode cX0_placesNow 30 = .ok (.aload_n 0, 1) := by decide +kernel
theorem dX0_placesNow_31 : decode cX0_placesNow 31 = .ok (.getfield 38, 3) := by decide +kernel
theorem dX0_placesNow_34 : decode cX0_placesNow 34 = .ok (.if_icmp .gt 12, 3) := by decide +kernel
theorem dX0_placesNow_37 : decode cX0_placesNow 37 = .ok (.lconst 1, 1) := by decide +kernel
theorem dX0_placesNow_38 : decode cX0_placesNow 38 = .ok (.aload_n 0, 1) := by decide +kernel
theorem dX0_placesNow_39 : decode cX0_placesNow 39 = .ok (.getfield 35, 3) := by decide +kernel
theorem dX0_placesNow_42 : decode cX0_placesNow 42 = .ok (.lshl, 1) := by decide +kernel
theorem dX0_placesNow_43 : decode cX0_placesNow 43 = .ok (.goto 19, 3) := by decide +kernel
theorem dX0_placesNow_46 : decode cX0_placesNow 46 = .ok (.aload_n 0, 1) := by decide +kernel
theorem dX0_placesNow_47 : decode cX0_placesNow 47 = .ok (.aload_n 1, 1) := by decide +kernel
theorem dX0_placesNow_48 : decode cX0_placesNow 48 = .ok (.iload_n 3, 1) := by decide +kernel
theorem dX0_placesNow_49 : decode cX0_placesNow 49 = .ok (.iconst 1, 1) := by decide +kernel
theorem dX0_placesNow_50 : decode cX0_placesNow 50 = .ok (.isub, 1) := by decide +kernel
theorem dX0_placesNow_51 : decode cX0_placesNow 51 = .ok (.aload_n 0, 1) := by decide +kernel
theorem dX0_placesNow_52 : decode cX0_placesNow 52 = .ok (.getfield 28, 3) := by decide +kernel
theorem dX0_placesNow_55 : decode cX0_placesNow 55 = .ok (.iload_n 3, 1) := by decide +kernel
theorem dX0_placesNow_56 : decode cX0_placesNow 56 = .ok (.iconst 1, 1) := by decide +kernel
theorem dX0_placesNow_57 : decode cX0_placesNow 57 = .ok (.isub, 1) := by decide +kernel
theorem dX0_placesNow_58 : decode cX0_placesNow 58 = .ok (.laload, 1) := by decide +kernel
theorem dX0_placesNow_59 : decode cX0_placesNow 59 = .ok (.invokevirtual 102, 3) := by decide +kernel
theorem dX0_placesNow_62 : decode cX0_placesNow 62 = .ok (.lstore 4, 2) := by decide +kernel
theorem dX0_placesNow_64 : decode cX0_placesNow 64 = .ok (.aload_n 0, 1) := by decide +kernel
theorem dX0_placesNow_65 : decode cX0_placesNow 65 = .ok (.getfield 28, 3) := by decide +kernel
theorem dX0_placesNow_68 : decode cX0_placesNow 68 = .ok (.iload_n 3, 1) := by decide +kernel
theorem dX0_placesNow_69 : decode cX0_placesNow 69 = .ok (.aload_n 0, 1) := by decide +kernel
theorem dX0_placesNow_70 : decode cX0_placesNow 70 = .ok (.lload 4, 2) := by decide +kernel
theorem dX0_placesNow_72 : decode cX0_placesNow 72 = .ok (.iload_n 3, 1) := by decide +kernel
theorem dX0_placesNow_73 : decode cX0_placesNow 73 = .ok (.aload_n 0, 1) := by decide +kernel
theorem dX0_placesNow_74 : decode cX0_placesNow 74 = .ok (.getfield 81, 3) := by decide +kernel
theorem dX0_placesNow_77 : decode cX0_placesNow 77 = .ok (.invokevirtual 98, 3) := by decide +kernel
theorem dX0_placesNow_80 : decode cX0_placesNow 80 = .ok (.lastore, 1) := by decide +kernel
theorem dX0_placesNow_81 : decode cX0_placesNow 81 = .ok (.iinc 3 1, 3) := by decide +kernel
theorem dX0_placesNow_84 : decode cX0_placesNow 84 = .ok (.goto (-60), 3) := by decide +kernel
theorem dX0_placesNow_87 : decode cX0_placesNow 87 = .ok (.aload_n 0, 1) := by decide +kernel
theorem dX0_placesNow_88 : decode cX0_placesNow 88 = .ok (.aload_n 0, 1) := by decide +kernel
theorem dX0_placesNow_89 : decode cX0_placesNow 89 = .ok (.getfield 50, 3) := by decide +kernel
theorem dX0_placesNow_92 : decode cX0_placesNow 92 = .ok (.iload_n 2, 1) := by decide +kernel
theorem dX0_placesNow_93 : decode cX0_placesNow 93 = .ok (.invokestatic 66, 3) := by decide +kernel
theorem dX0_placesNow_96 : decode cX0_placesNow 96 = .ok (.putfield 50, 3) := by decide +kernel
theorem dX0_placesNow_99 : decode cX0_placesNow 99 = .ok (.aload_n 0, 1) := by decide +kernel
theorem dX0_placesNow_100 : decode cX0_placesNow 100 = .ok (.getfield 28, 3) := by decide +kernel
theorem dX0_placesNow_103 : decode cX0_placesNow 103 = .ok (.iload_n 2, 1) := by decide +kernel
theorem dX0_placesNow_104 : decode cX0_placesNow 104 = .ok (.laload, 1) := by decide +kernel
theorem dX0_placesNow_105 : decode cX0_placesNow 105 = .ok (.lreturn, 1) := by decide +kernel
theorem dX0_narrowed_0 : decode cX0_narrowed 0 = .ok (.lload_n 1, 1) := by decide +kernel
theorem dX0_narrowed_1 : decode cX0_narrowed 1 = .ok (.lstore 5, 2) := by decide +kernel
theorem dX0_narrowed_3 : decode cX0_narrowed 3 = .ok (.iconst 0, 1) := by decide +kernel
theorem dX0_narrowed_4 : decode cX0_narrowed 4 = .ok (.istore 7, 2) := by decide +kernel
theorem dX0_narrowed_6 : decode cX0_narrowed 6 = .ok (.iload 7, 2) := by decide +kernel
theorem dX0_narrowed_8 : decode cX0_narrowed 8 = .ok (.iload 4, 2) := by decide +kernel
theorem dX0_narrowed_10 : decode cX0_narrowed 10 = .ok (.if_icmp .ge 32, 3) := by decide +kernel
theorem dX0_narrowed_13 : decode cX0_narrowed 13 = .ok (.aload_n 0, 1) := by decide +kernel
theorem dX0_narrowed_14 : decode cX0_narrowed 14 = .ok (.getfield 9, 3) := by decide +kernel
theorem dX0_narrowed_17 : decode cX0_narrowed 17 = .ok (.iload 7, 2) := by decide +kernel
theorem dX0_narrowed_19 : decode cX0_narrowed 19 = .ok (.iaload, 1) := by decide +kernel
theorem dX0_narrowed_20 : decode cX0_narrowed 20 = .ok (.iload_n 3, 1) := by decide +kernel
theorem dX0_narrowed_21 : decode cX0_narrowed 21 = .ok (.if_icmp .ne 15, 3) := by decide +kernel
theorem dX0_narrowed_24 : decode cX0_narrowed 24 = .ok (.lload 5, 2) := by decide +kernel
theorem dX0_narrowed_26 : decode cX0_narrowed 26 = .ok (.aload_n 0, 1) := by decide +kernel
theorem dX0_narrowed_27 : decode cX0_narrowed 27 = .ok (.getfield 18, 3) := by decide +kernel
theorem dX0_narrowed_30 : decode cX0_narrowed 30 = .ok (.iload 7, 2) := by decide +kernel
theorem dX0_narrowed_32 : decode cX0_narrowed 32 = .ok (.laload, 1) := by decide +kernel
theorem dX0_narrowed_33 : decode cX0_narrowed 33 = .ok (.land, 1) := by decide +kernel
theorem dX0_narrowed_34 : decode cX0_narrowed 34 = .ok (.lstore 5, 2) := by decide +kernel
theorem dX0_narrowed_36 : decode cX0_narrowed 36 = .ok (.iinc 7 1, 3) := by decide +kernel
theorem dX0_narrowed_39 : decode cX0_narrowed 39 = .ok (.goto (-33), 3) := by decide +kernel
theorem dX0_narrowed_42 : decode cX0_narrowed 42 = .ok (.lload 5, 2) := by decide +kernel
theorem dX0_narrowed_44 : decode cX0_narrowed 44 = .ok (.lreturn, 1) := by decide +kernel
theorem dX1_init_0 : decode cX1_init 0 = .ok (.aload_n 0, 1) := by decide +kernel
theorem dX1_init_1 : decode cX1_init 1 = .ok (.invokespecial 3, 3) := by decide +kernel
theorem dX1_init_4 : decode cX1_init 4 = .ok (.aload_n 0, 1) := by decide +kernel
theorem dX1_init_5 : decode cX1_init 5 = .ok (.iconst 4, 1) := by decide +kernel
theorem dX1_init_6 : decode cX1_init 6 = .ok (.bipush 15, 2) := by decide +kernel
theorem dX1_init_8 : decode cX1_init 8 = .ok (.multianewarray 9 2, 4) := by decide +kernel
theorem dX1_init_12 : decode cX1_init 12 = .ok (.putfield 11, 3) := by decide +kernel
theorem dX1_init_15 : decode cX1_init 15 = .ok (.return_, 1) := by decide +kernel
theorem dX1_addRow_0 : decode cX1_addRow 0 = .ok (.lload_n 1, 1) := by decide +kernel
theorem dX1_addRow_1 : decode cX1_addRow 1 = .ok (.lstore_n 3, 1) := by decide +kernel
theorem dX1_addRow_2 : decode cX1_addRow 2 = .ok (.iconst 0, 1) := by decide +kernel
theorem dX1_addRow_3 : decode cX1_addRow 3 = .ok (.istore 5, 2) := by decide +kernel
theorem dX1_addRow_5 : decode cX1_addRow 5 = .ok (.iload 5, 2) := by decide +kernel
theorem dX1_addRow_7 : decode cX1_addRow 7 = .ok (.bipush 15, 2) := by decide +kernel
theorem dX1_addRow_9 : decode cX1_addRow 9 = .ok (.if_icmp .ge 33, 3) := by decide +kernel
theorem dX1_addRow_12 : decode cX1_addRow 12 = .ok (.aload_n 0, 1) := by decide +kernel
theorem dX1_addRow_13 : decode cX1_addRow 13 = .ok (.getfield 11, 3) := by decide +kernel
theorem dX1_addRow_16 : decode cX1_addRow 16 = .ok (.aload_n 0, 1) := by decide +kernel
theorem dX1_addRow_17 : decode cX1_addRow 17 = .ok (.getfield 16, 3) := by decide +kernel
theorem dX1_addRow_20 : decode cX1_addRow 20 = .ok (.aaload, 1) := by decide +kernel
theorem dX1_addRow_21 : decode cX1_addRow 21 = .ok (.iload 5, 2) := by decide +kernel
theorem dX1_addRow_23 : decode cX1_addRow 23 = .ok (.lload_n 3, 1) := by decide +kernel
theorem dX1_addRow_24 : decode cX1_addRow 24 = .ok (.ldc2_w 20, 3) := by decide +kernel
theorem dX1_addRow_27 : decode cX1_addRow 27 = .ok (.lrem, 1) := by decide +kernel
theorem dX1_addRow_28 : decode cX1_addRow 28 = .ok (.l2i, 1) := by decide +kernel
theorem dX1_addRow_29 : decode cX1_addRow 29 = .ok (.iastore, 1) := by decide +kernel
theorem dX1_addRow_30 : decode cX1_addRow 30 = .ok (.lload_n 3, 1) := by decide +kernel
theorem dX1_addRow_31 : decode cX1_addRow 31 = .ok (.ldc2_w 20, 3) := by decide +kernel
theorem dX1_addRow_34 : decode cX1_addRow 34 = .ok (.ldiv, 1) := by decide +kernel
theorem dX1_addRow_35 : decode cX1_addRow 35 = .ok (.lstore_n 3, 1) := by decide +kernel
theorem dX1_addRow_36 : decode cX1_addRow 36 = .ok (.iinc 5 1, 3) := by decide +kernel
theorem dX1_addRow_39 : decode cX1_addRow 39 = .ok (.goto (-34), 3) := by decide +kernel
theorem dX1_addRow_42 : decode cX1_addRow 42 = .ok (.aload_n 0, 1) := by decide +kernel
theorem dX1_addRow_43 : decode cX1_addRow 43 = .ok (.dup, 1) := by decide +kernel
theorem dX1_addRow_44 : decode cX1_addRow 44 = .ok (.getfield 16, 3) := by decide +kernel
theorem dX1_addRow_47 : decode cX1_addRow 47 = .ok (.dup_x1, 1) := by decide +kernel
theorem dX1_addRow_48 : decode cX1_addRow 48 = .ok (.iconst 1, 1) := by decide +kernel
theorem dX1_addRow_49 : decode cX1_addRow 49 = .ok (.iadd, 1) := by decide +kernel
theorem dX1_addRow_50 : decode cX1_addRow 50 = .ok (.putfield 16, 3) := by decide +kernel
theorem dX1_addRow_53 : decode cX1_addRow 53 = .ok (.ireturn, 1) := by decide +kernel
set_option maxRecDepth 20000 in
theorem ggX1_plan_X1_leastCells : GoodIn wsX1_plan wsX1_leastCells := goodIn_r _ [8, 9, 10, 11, 12, 13, 14, 15, 16, 7, 17, 18, 19, 20, 21, 22, 3, 23, 24, 25, 26] (by decide +kernel) (by decide +kernel)
set_option maxRecDepth 20000 in
theorem gX1_plan_X1_leastCells : GoodIn wsX1_plan (wsV RX1 32 RX1 yX1_leastCells wsX1_leastCells) := goodIn_app (goodIn_of _ (by decide +kernel)) ggX1_plan_X1_leastCells
theorem dX1_plan_0 : decode cX1_plan 0 = .ok (.aload_n 0, 1) := by decide +kernel
theorem dX1_plan_1 : decode cX1_plan 1 = .ok (.iconst (-1), 1) := by decide +kernel
theorem dX1_plan_2 : decode cX1_plan 2 = .ok (.putfield 22, 3) := by decide +kernel
theorem dX1_plan_5 : decode cX1_plan 5 = .ok (.aload_n 0, 1) := by decide +kernel
theorem dX1_plan_6 : decode cX1_plan 6 = .ok (.iconst 0, 1) := by decide +kernel
theorem dX1_plan_7 : decode cX1_plan 7 = .ok (.putfield 25, 3) := by decide +kernel
theorem dX1_plan_10 : decode cX1_plan 10 = .ok (.iconst 0, 1) := by decide +kernel
theorem dX1_plan_11 : decode cX1_plan 11 = .ok (.istore_n 3, 1) := by decide +kernel
theorem dX1_plan_12 : decode cX1_plan 12 = .ok (.iload_n 3, 1) := by decide +kernel
theorem dX1_plan_13 : decode cX1_plan 13 = .ok (.getstatic 28, 3) := by decide +kernel
theorem dX1_plan_16 : decode cX1_plan 16 = .ok (.iload_n 1, 1) := by decide +kernel
theorem dX1_plan_17 : decode cX1_plan 17 = .ok (.iaload, 1) := by decide +kernel
theorem dX1_plan_18 : decode cX1_plan 18 = .ok (.if_icmp .ge 38, 3) := by decide +kernel
theorem dX1_plan_21 : decode cX1_plan 21 = .ok (.aload_n 0, 1) := by decide +kernel
theorem dX1_plan_22 : decode cX1_plan 22 = .ok (.iload_n 1, 1) := by decide +kernel
theorem dX1_plan_23 : decode cX1_plan 23 = .ok (.iload_n 2, 1) := by decide +kernel
theorem dX1_plan_24 : decode cX1_plan 24 = .ok (.iload_n 3, 1) := by decide +kernel
theorem dX1_plan_25 : decode cX1_plan 25 = .ok (.invokevirtual 32, 3) := by decide +kernel
theorem dX1_plan_28 : decode cX1_plan 28 = .ok (.istore 4, 2) := by decide +kernel
theorem dX1_plan_30 : decode cX1_plan 30 = .ok (.iload 4, 2) := by decide +kernel
theorem dX1_plan_32 : decode cX1_plan 32 = .ok (.aload_n 0, 1) := by decide +kernel
theorem dX1_plan_33 : decode cX1_plan 33 = .ok (.getfield 22, 3) := by decide +kernel
theorem dX1_plan_36 : decode cX1_plan 36 = .ok (.if_icmp .le 14, 3) := by decide +kernel
theorem dX1_plan_39 : decode cX1_plan 39 = .ok (.aload_n 0, 1) := by decide +kernel
theorem dX1_plan_40 : decode cX1_plan 40 = .ok (.iload 4, 2) := by decide +kernel
theorem dX1_plan_42 : decode cX1_plan 42 = .ok (.putfield 22, 3) := by decide +kernel
theorem dX1_plan_45 : decode cX1_plan 45 = .ok (.aload_n 0, 1) := by decide +kernel
theorem dX1_plan_46 : decode cX1_plan 46 = .ok (.iload_n 3, 1) := by decide +kernel
theorem dX1_plan_47 : decode cX1_plan 47 = .ok (.putfield 25, 3) := by decide +kernel
theorem dX1_plan_50 : decode cX1_plan 50 = .ok (.iinc 3 1, 3) := by decide +kernel
theorem dX1_plan_53 : decode cX1_plan 53 = .ok (.goto (-41), 3) := by decide +kernel
theorem dX1_plan_56 : decode cX1_plan 56 = .ok (.return_, 1) := by decide +kernel
theorem dX1_wayOn_0 : decode cX1_wayOn 0 = .ok (.iload_n 3, 1) := by decide +kernel
theorem dX1_wayOn_1 : decode cX1_wayOn 1 = .ok (.getstatic 28, 3) := by decide +kernel
theorem dX1_wayOn_4 : decode cX1_wayOn 4 = .ok (.iload_n 2, 1) := by decide +kernel
theorem dX1_wayOn_5 : decode cX1_wayOn 5 = .ok (.iconst 1, 1) := by decide +kernel
theorem dX1_wayOn_6 : decode cX1_wayOn 6 = .ok (.isub, 1) := by decide +kernel
theorem dX1_wayOn_7 : decode cX1_wayOn 7 = .ok (.iload_n 1, 1) := by decide +kernel
theorem dX1_wayOn_8 : decode cX1_wayOn 8 = .ok (.isub, 1) := by decide +kernel
theorem dX1_wayOn_9 : decode cX1_wayOn 9 = .ok (.iaload, 1) := by decide +kernel
theorem dX1_wayOn_10 : decode cX1_wayOn 10 = .ok (.idiv, 1) := by decide +kernel
theorem dX1_wayOn_11 : decode cX1_wayOn 11 = .ok (.iconst 3, 1) := by decide +kernel
theorem dX1_wayOn_12 : decode cX1_wayOn 12 = .ok (.irem, 1) := by decide +kernel
theorem dX1_wayOn_13 : decode cX1_wayOn 13 = .ok (.ireturn, 1) := by decide +kernel
set_option maxRecDepth 20000 in
theorem ggX1_leastCells_X1_cellsThrough : GoodIn wsX1_leastCells wsX1_cellsThrough := goodIn_r _ [10, 11, 12, 13, 14, 9, 15, 16, 17, 18, 19, 20] (by decide +kernel) (by decide +kernel)
set_option maxRecDepth 20000 in
theorem gX1_leastCells_X1_cellsThrough : GoodIn wsX1_leastCells (wsV RX1 36 RX1 yX1_cellsThrough wsX1_cellsThrough) := goodIn_app (goodIn_of _ (by decide +kernel)) ggX1_leastCells_X1_cellsThrough
theorem dX1_leastCells_0 : decode cX1_leastCells 0 = .ok (.aload_n 0, 1) := by decide +kernel
theorem dX1_leastCells_1 : decode cX1_leastCells 1 = .ok (.getfield 16, 3) := by decide +kernel
theorem dX1_leastCells_4 : decode cX1_leastCells 4 = .ok (.ifCond .ne 7, 3) := by decide +kernel
theorem dX1_leastCells_7 : decode cX1_leastCells 7 = .ok (.iconst 0, 1) := by decide +kernel
theorem dX1_leastCells_8 : decode cX1_leastCells 8 = .ok (.goto 5, 3) := by decide +kernel
theorem dX1_leastCells_11 : decode cX1_leastCells 11 = .ok (.bipush 45, 2) := by decide +kernel
theorem dX1_leastCells_13 : decode cX1_leastCells 13 = .ok (.istore 4, 2) := by decide +kernel
theorem dX1_leastCells_15 : decode cX1_leastCells 15 = .ok (.iconst 0, 1) := by decide +kernel
theorem dX1_leastCells_16 : decode cX1_leastCells 16 = .ok (.istore 5, 2) := by decide +kernel
theorem dX1_leastCells_18 : decode cX1_leastCells 18 = .ok (.iload 5, 2) := by decide +kernel
theorem dX1_leastCells_20 : decode cX1_leastCells 20 = .ok (.aload_n 0, 1) := by decide +kernel
theorem dX1_leastCells_21 : decode cX1_leastCells 21 = .ok (.getfield 16, 3) := by decide +kernel
theorem dX1_leastCells_24 : decode cX1_leastCells 24 = .ok (.if_icmp .ge 25, 3) := by decide +kernel
theorem dX1_leastCells_27 : decode cX1_leastCells 27 = .ok (.iload 4, 2) := by decide +kernel
theorem dX1_leastCells_29 : decode cX1_leastCells 29 = .ok (.aload_n 0, 1) := by decide +kernel
theorem dX1_leastCells_30 : decode cX1_leastCells 30 = .ok (.iload 5, 2) := by decide +kernel
theorem dX1_leastCells_32 : decode cX1_leastCells 32 = .ok (.iload_n 1, 1) := by decide +kernel
theorem dX1_leastCells_33 : decode cX1_leastCells 33 = .ok (.iload_n 2, 1) := by decide +kernel
theorem dX1_leastCells_34 : decode cX1_leastCells 34 = .ok (.iload_n 3, 1) := by decide +kernel
theorem dX1_leastCells_35 : decode cX1_leastCells 35 = .ok (.invokevirtual 36, 3) := by decide +kernel
theorem dX1_leastCells_38 : decode cX1_leastCells 38 = .ok (.invokestatic 40, 3) := by decide +kernel
theorem dX1_leastCells_41 : decode cX1_leastCells 41 = .ok (.istore 4, 2) := by decide +kernel
theorem dX1_leastCells_43 : decode cX1_leastCells 43 = .ok (.iinc 5 1, 3) := by decide +kernel
theorem dX1_leastCells_46 : decode cX1_leastCells 46 = .ok (.goto (-28), 3) := by decide +kernel
theorem dX1_leastCells_49 : decode cX1_leastCells 49 = .ok (.iload 4, 2) := by decide +kernel
theorem dX1_leastCells_51 : decode cX1_leastCells 51 = .ok (.ireturn, 1) := by decide +kernel
set_option maxRecDepth 20000 in
theorem ggX1_cellsThrough_X1_wayOn : GoodIn wsX1_cellsThrough wsX1_wayOn := goodIn_r _ [6, 7] (by decide +kernel) (by decide +kernel)
set_option maxRecDepth 20000 in
theorem gX1_cellsThrough_X1_wayOn : GoodIn wsX1_cellsThrough (wsV RX1 46 RX1 yX1_wayOn wsX1_wayOn) := goodIn_app (goodIn_of _ (by decide +kernel)) ggX1_cellsThrough_X1_wayOn
theorem dX1_cellsThrough_0 : decode cX1_cellsThrough 0 = .ok (.iconst 0, 1) := by decide +kernel
theorem dX1_cellsThrough_1 : decode cX1_cellsThrough 1 = .ok (.istore 5, 2) := by decide +kernel
theorem dX1_cellsThrough_3 : decode cX1_cellsThrough 3 = .ok (.iload_n 3, 1) := by decide +kernel
theorem dX1_cellsThrough_4 : decode cX1_cellsThrough 4 = .ok (.istore 6, 2) := by decide +kernel
theorem dX1_cellsThrough_6 : decode cX1_cellsThrough 6 = .ok (.iconst 0, 1) := by decide +kernel
theorem dX1_cellsThrough_7 : decode cX1_cellsThrough 7 = .ok (.istore 7, 2) := by decide +kernel
theorem dX1_cellsThrough_9 : decode cX1_cellsThrough 9 = .ok (.iload 7, 2) := by decide +kernel
theorem dX1_cellsThrough_11 : decode cX1_cellsThrough 11 = .ok (.iload_n 2, 1) := by decide +kernel
theorem dX1_cellsThrough_12 : decode cX1_cellsThrough 12 = .ok (.if_icmp .ge 60, 3) := by decide +kernel
theorem dX1_cellsThrough_15 : decode cX1_cellsThrough 15 = .ok (.aload_n 0, 1) := by decide +kernel
theorem dX1_cellsThrough_16 : decode cX1_cellsThrough 16 = .ok (.getfield 11, 3) := by decide +kernel
theorem dX1_cellsThrough_19 : decode cX1_cellsThrough 19 = .ok (.iload_n 1, 1) := by decide +kernel
theorem dX1_cellsThrough_20 : decode cX1_cellsThrough 20 = .ok (.aaload, 1) := by decide +kernel
theorem dX1_cellsThrough_21 : decode cX1_cellsThrough 21 = .ok (.iconst 3, 1) := by decide +kernel
theorem dX1_cellsThrough_22 : decode cX1_cellsThrough 22 = .ok (.iload 7, 2) := by decide +kernel
theorem dX1_cellsThrough_24 : decode cX1_cellsThrough 24 = .ok (.imul, 1) := by decide +kernel
theorem dX1_cellsThrough_25 : decode cX1_cellsThrough 25 = .ok (.aload_n 0, 1) := by decide +kernel
theorem dX1_cellsThrough_26 : decode cX1_cellsThrough 26 = .ok (.iload 7, 2) := by decide +kernel
theorem dX1_cellsThrough_28 : decode cX1_cellsThrough 28 = .ok (.iload_n 2, 1) := by decide +kernel
theorem dX1_cellsThrough_29 : decode cX1_cellsThrough 29 = .ok (.iload 4, 2) := by decide +kernel
theorem dX1_cellsThrough_31 : decode cX1_cellsThrough 31 = .ok (.invokevirtual 46, 3) := by decide +kernel
theorem dX1_cellsThrough_34 : decode cX1_cellsThrough 34 = .ok (.iadd, 1) := by decide +kernel
theorem dX1_cellsThrough_35 : decode cX1_cellsThrough 35 = .ok (.iaload, 1) := by decide +kernel
theorem dX1_cellsThrough_36 : decode cX1_cellsThrough 36 = .ok (.istore 8, 2) := by decide +kernel
theorem dX1_cellsThrough_38 : decode cX1_cellsThrough 38 = .ok (.iload 6, 2) := by decide +kernel
theorem dX1_cellsThrough_40 : decode cX1_cellsThrough 40 = .ok (.iload 8, 2) := by decide +kernel
theorem dX1_cellsThrough_42 : decode cX1_cellsThrough 42 = .ok (.iconst 1, 1) := by decide +kernel
theorem dX1_cellsThrough_43 : decode cX1_cellsThrough 43 = .ok (.iadd, 1) := by decide +kernel
theorem dX1_cellsThrough_44 : decode cX1_cellsThrough 44 = .ok (.if_icmp .lt 22, 3) := by decide +kernel
theorem dX1_cellsThrough_47 : decode cX1_cellsThrough 47 = .ok (.iload 6, 2) := by decide +kernel
theorem dX1_cellsThrough_49 : decode cX1_cellsThrough 49 = .ok (.iload 8, 2) := by decide +kernel
theorem dX1_cellsThrough_51 : decode cX1_cellsThrough 51 = .ok (.iconst 1, 1) := by decide +kernel
theorem dX1_cellsThrough_52 : decode cX1_cellsThrough 52 = .ok (.iadd, 1) := by decide +kernel
theorem dX1_cellsThrough_53 : decode cX1_cellsThrough 53 = .ok (.isub, 1) := by decide +kernel
theorem dX1_cellsThrough_54 : decode cX1_cellsThrough 54 = .ok (.istore 6, 2) := by decide +kernel
theorem dX1_cellsThrough_56 : decode cX1_cellsThrough 56 = .ok (.iload 5, 2) := by decide +kernel
theorem dX1_cellsThrough_58 : decode cX1_cellsThrough 58 = .ok (.bipush 9, 2) := by decide +kernel
theorem dX1_cellsThrough_60 : decode cX1_cellsThrough 60 = .ok (.iload 8, 2) := by decide +kernel
theorem dX1_cellsThrough_62 : decode cX1_cellsThrough 62 = .ok (.isub, 1) := by decide +kernel
theorem dX1_cellsThrough_63 : decode cX1_cellsThrough 63 = .ok (.iadd, 1) := by decide +kernel
theorem dX1_cellsThrough_64 : decode cX1_cellsThrough 64 = .ok (.istore 5, 2) := by decide +kernel
theorem dX1_cellsThrough_66 : decode cX1_cellsThrough 66 = .ok (.iinc 7 1, 3) := by decide +kernel
theorem dX1_cellsThrough_69 : decode cX1_cellsThrough 69 = .ok (.goto (-60), 3) := by decide +kernel
theorem dX1_cellsThrough_72 : decode cX1_cellsThrough 72 = .ok (.iload 5, 2) := by decide +kernel
theorem dX1_cellsThrough_74 : decode cX1_cellsThrough 74 = .ok (.ireturn, 1) := by decide +kernel
theorem dX2_init_0 : decode cX2_init 0 = .ok (.aload_n 0, 1) := by decide +kernel
theorem dX2_init_1 : decode cX2_init 1 = .ok (.invokespecial 3, 3) := by decide +kernel
theorem dX2_init_4 : decode cX2_init 4 = .ok (.aload_n 0, 1) := by decide +kernel
theorem dX2_init_5 : decode cX2_init 5 = .ok (.bipush 16, 2) := by decide +kernel
theorem dX2_init_7 : decode cX2_init 7 = .ok (.newarray .int, 2) := by decide +kernel
theorem dX2_init_9 : decode cX2_init 9 = .ok (.putfield 9, 3) := by decide +kernel
theorem dX2_init_12 : decode cX2_init 12 = .ok (.aload_n 0, 1) := by decide +kernel
theorem dX2_init_13 : decode cX2_init 13 = .ok (.bipush 16, 2) := by decide +kernel
theorem dX2_init_15 : decode cX2_init 15 = .ok (.newarray .int, 2) := by decide +kernel
theorem dX2_init_17 : decode cX2_init 17 = .ok (.putfield 15, 3) := by decide +kernel
theorem dX2_init_20 : decode cX2_init 20 = .ok (.aload_n 0, 1) := by decide +kernel
theorem dX2_init_21 : decode cX2_init 21 = .ok (.bipush 16, 2) := by decide +kernel
theorem dX2_init_23 : decode cX2_init 23 = .ok (.newarray .int, 2) := by decide +kernel
theorem dX2_init_25 : decode cX2_init 25 = .ok (.putfield 18, 3) := by decide +kernel
theorem dX2_init_28 : decode cX2_init 28 = .ok (.aload_n 0, 1) := by decide +kernel
theorem dX2_init_29 : decode cX2_init 29 = .ok (.bipush 16, 2) := by decide +kernel
theorem dX2_init_31 : decode cX2_init 31 = .ok (.newarray .int, 2) := by decide +kernel
theorem dX2_init_33 : decode cX2_init 33 = .ok (.putfield 21, 3) := by decide +kernel
theorem dX2_init_36 : decode cX2_init 36 = .ok (.aload_n 0, 1) := by decide +kernel
theorem dX2_init_37 : decode cX2_init 37 = .ok (.bipush 16, 2) := by decide +kernel
theorem dX2_init_39 : decode cX2_init 39 = .ok (.newarray .int, 2) := by decide +kernel
theorem dX2_init_41 : decode cX2_init 41 = .ok (.putfield 24, 3) := by decide +kernel
theorem dX2_init_44 : decode cX2_init 44 = .ok (.return_, 1) := by decide +kernel
theorem dX2_addMan_0 : decode cX2_addMan 0 = .ok (.aload_n 0, 1) := by decide +kernel
theorem dX2_addMan_1 : decode cX2_addMan 1 = .ok (.getfield 9, 3) := by decide +kernel
theorem dX2_addMan_4 : decode cX2_addMan 4 = .ok (.aload_n 0, 1) := by decide +kernel
theorem dX2_addMan_5 : decode cX2_addMan 5 = .ok (.getfield 27, 3) := by decide +kernel
theorem dX2_addMan_8 : decode cX2_addMan 8 = .ok (.iload_n 1, 1) := by decide +kernel
theorem dX2_addMan_9 : decode cX2_addMan 9 = .ok (.iastore, 1) := by decide +kernel
theorem dX2_addMan_10 : decode cX2_addMan 10 = .ok (.aload_n 0, 1) := by decide +kernel
theorem dX2_addMan_11 : decode cX2_addMan 11 = .ok (.getfield 15, 3) := by decide +kernel
theorem dX2_addMan_14 : decode cX2_addMan 14 = .ok (.aload_n 0, 1) := by decide +kernel
theorem dX2_addMan_15 : decode cX2_addMan 15 = .ok (.getfield 27, 3) := by decide +kernel
theorem dX2_addMan_18 : decode cX2_addMan 18 = .ok (.iload_n 2, 1) := by decide +kernel
theorem dX2_addMan_19 : decode cX2_addMan 19 = .ok (.iastore, 1) := by decide +kernel
theorem dX2_addMan_20 : decode cX2_addMan 20 = .ok (.aload_n 0, 1) := by decide +kernel
theorem dX2_addMan_21 : decode cX2_addMan 21 = .ok (.getfield 18, 3) := by decide +kernel
theorem dX2_addMan_24 : decode cX2_addMan 24 = .ok (.aload_n 0, 1) := by decide +kernel
theorem dX2_addMan_25 : decode cX2_addMan 25 = .ok (.getfield 27, 3) := by decide +kernel
theorem dX2_addMan_28 : decode cX2_addMan 28 = .ok (.iload_n 3, 1) := by decide +kernel
theorem dX2_addMan_29 : decode cX2_addMan 29 = .ok (.iastore, 1) := by decide +kernel
theorem dX2_addMan_30 : decode cX2_addMan 30 = .ok (.aload_n 0, 1) := by decide +kernel
theorem dX2_addMan_31 : decode cX2_addMan 31 = .ok (.getfield 21, 3) := by decide +kernel
theorem dX2_addMan_34 : decode cX2_addMan 34 = .ok (.aload_n 0, 1) := by decide +kernel
theorem dX2_addMan_35 : decode cX2_addMan 35 = .ok (.getfield 27, 3) := by decide +kernel
theorem dX2_addMan_38 : decode cX2_addMan 38 = .ok (.iload 4, 2) := by decide +kernel
theorem dX2_addMan_40 : decode cX2_addMan 40 = .ok (.iastore, 1) := by decide +kernel
theorem dX2_addMan_41 : decode cX2_addMan 41 = .ok (.aload_n 0, 1) := by decide +kernel
theorem dX2_addMan_42 : decode cX2_addMan 42 = .ok (.dup, 1) := by decide +kernel
theorem dX2_addMan_43 : decode cX2_addMan 43 = .ok (.getfield 27, 3) := by decide +kernel
theorem dX2_addMan_46 : decode cX2_addMan 46 = .ok (.dup_x1, 1) := by decide +kernel
theorem dX2_addMan_47 : decode cX2_addMan 47 = .ok (.iconst 1, 1) := by decide +kernel
theorem dX2_addMan_48 : decode cX2_addMan 48 = .ok (.iadd, 1) := by decide +kernel
theorem dX2_addMan_49 : decode cX2_addMan 49 = .ok (.putfield 27, 3) := by decide +kernel
theorem dX2_addMan_52 : decode cX2_addMan 52 = .ok (.ireturn, 1) := by decide +kernel
set_option maxRecDepth 20000 in
theorem ggX2_inTurn_X2_aheadOf : GoodIn wsX2_inTurn wsX2_aheadOf := goodIn_r _ [7, 1, 8, 2, 9, 10, 11, 12, 13, 14] (by decide +kernel) (by decide +kernel)
set_option maxRecDepth 20000 in
theorem gX2_inTurn_X2_aheadOf : GoodIn wsX2_inTurn (wsV RX2 31 RX2 yX2_aheadOf wsX2_aheadOf) := goodIn_app (goodIn_of _ (by decide +kernel)) ggX2_inTurn_X2_aheadOf
theorem dX2_inTurn_0 : decode cX2_inTurn 0 = .ok (.iconst 0, 1) := by decide +kernel
theorem dX2_inTurn_1 : decode cX2_inTurn 1 = .ok (.istore_n 3, 1) := by decide +kernel
theorem dX2_inTurn_2 : decode cX2_inTurn 2 = .ok (.iload_n 3, 1) := by decide +kernel
theorem dX2_inTurn_3 : decode cX2_inTurn 3 = .ok (.aload_n 0, 1) := by decide +kernel
theorem dX2_inTurn_4 : decode cX2_inTurn 4 = .ok (.getfield 27, 3) := by decide +kernel
theorem dX2_inTurn_7 : decode cX2_inTurn 7 = .ok (.if_icmp .ge 30, 3) := by decide +kernel
theorem dX2_inTurn_10 : decode cX2_inTurn 10 = .ok (.aload_n 0, 1) := by decide +kernel
theorem dX2_inTurn_11 : decode cX2_inTurn 11 = .ok (.getfield 9, 3) := by decide +kernel
theorem dX2_inTurn_14 : decode cX2_inTurn 14 = .ok (.iload_n 3, 1) := by decide +kernel
theorem dX2_inTurn_15 : decode cX2_inTurn 15 = .ok (.iaload, 1) := by decide +kernel
theorem dX2_inTurn_16 : decode cX2_inTurn 16 = .ok (.iload_n 1, 1) := by decide +kernel
theorem dX2_inTurn_17 : decode cX2_inTurn 17 = .ok (.if_icmp .ne 14, 3) := by decide +kernel
theorem dX2_inTurn_20 : decode cX2_inTurn 20 = .ok (.aload_n 0, 1) := by decide +kernel
theorem dX2_inTurn_21 : decode cX2_inTurn 21 = .ok (.iload_n 3, 1) := by decide +kernel
theorem dX2_inTurn_22 : decode cX2_inTurn 22 = .ok (.invokevirtual 31, 3) := by decide +kernel
theorem dX2_inTurn_25 : decode cX2_inTurn 25 = .ok (.iload_n 2, 1) := by decide +kernel
theorem dX2_inTurn_26 : decode cX2_inTurn 26 = .ok (.if_icmp .ne 5, 3) := by decide +kernel
theorem dX2_inTurn_29 : decode cX2_inTurn 29 = .ok (.iload_n 3, 1) := by decide +kernel
theorem dX2_inTurn_30 : decode cX2_inTurn 30 = .ok (.ireturn, 1) := by decide +kernel
theorem dX2_inTurn_31 : decode cX2_inTurn 31 = .ok (.iinc 3 1, 3) := by decide +kernel
theorem dX2_inTurn_34 : decode cX2_inTurn 34 = .ok (.goto (-32), 3) := by decide +kernel
theorem dX2_inTurn_37 : decode cX2_inTurn 37 = .ok (.iconst (-1), 1) := by decide +kernel
theorem dX2_inTurn_38 : decode cX2_inTurn 38 = .ok (.ireturn, 1) := by decide +kernel
theorem dX2_aheadOf_0 : decode cX2_aheadOf 0 = .ok (.iconst 0, 1) := by decide +kernel
theorem dX2_aheadOf_1 : decode cX2_aheadOf 1 = .ok (.istore_n 2, 1) := by decide +kernel
theorem dX2_aheadOf_2 : decode cX2_aheadOf 2 = .ok (.iconst 0, 1) := by decide +kernel
theorem dX2_aheadOf_3 : decode cX2_aheadOf 3 = .ok (.istore_n 3, 1) := by decide +kernel
theorem dX2_aheadOf_4 : decode cX2_aheadOf 4 = .ok (.iload_n 3, 1) := by decide +kernel
theorem dX2_aheadOf_5 : decode cX2_aheadOf 5 = .ok (.aload_n 0, 1) := by decide +kernel
theorem dX2_aheadOf_6 : decode cX2_aheadOf 6 = .ok (.getfield 27, 3) := by decide +kernel
theorem dX2_aheadOf_9 : decode cX2_aheadOf 9 = .ok (.if_icmp .ge 74, 3) := by decide +kernel
theorem dX2_aheadOf_12 : decode cX2_aheadOf 12 = .ok (.aload_n 0, 1) := by decide +kernel
theorem dX2_aheadOf_13 : decode cX2_aheadOf 13 = .ok (.getfield 24, 3) := by decide +kernel
theorem dX2_aheadOf_16 : decode cX2_aheadOf 16 = .ok (.iload_n 3, 1) := by decide +kernel
theorem dX2_aheadOf_17 : decode cX2_aheadOf 17 = .ok (.iaload, 1) := by decide +kernel
theorem dX2_aheadOf_18 : decode cX2_aheadOf 18 = .ok (.aload_n 0, 1) := by decide +kernel
theorem dX2_aheadOf_19 : decode cX2_aheadOf 19 = .ok (.getfield 24, 3) := by decide +kernel
theorem dX2_aheadOf_22 : decode cX2_aheadOf 22 = .ok (.iload_n 1, 1) := by decide +kernel
theorem dX2_aheadOf_23 : decode cX2_aheadOf 23 = .ok (.iaload, 1) := by decide +kernel
theorem dX2_aheadOf_24 : decode cX2_aheadOf 24 = .ok (.if_icmp .gt 23, 3) := by decide +kernel
theorem dX2_aheadOf_27 : decode cX2_aheadOf 27 = .ok (.aload_n 0, 1) := by decide +kernel
theorem dX2_aheadOf_28 : decode cX2_aheadOf 28 = .ok (.getfield 24, 3) := by decide +kernel
theorem dX2_aheadOf_31 : decode cX2_aheadOf 31 = .ok (.iload_n 3, 1) := by decide +kernel
theorem dX2_aheadOf_32 : decode cX2_aheadOf 32 = .ok (.iaload, 1) := by decide +kernel
theorem dX2_aheadOf_33 : decode cX2_aheadOf 33 = .ok (.aload_n 0, 1) := by decide +kernel
theorem dX2_aheadOf_34 : decode cX2_aheadOf 34 = .ok (.getfield 24, 3) := by decide +kernel
theorem dX2_aheadOf_37 : decode cX2_aheadOf 37 = .ok (.iload_n 1, 1) := by decide +kernel
theorem dX2_aheadOf_38 : decode cX2_aheadOf 38 = .ok (.iaload, 1) := by decide +kernel
theorem dX2_aheadOf_39 : decode cX2_aheadOf 39 = .ok (.if_icmp .ne 12, 3) := by decide +kernel
theorem dX2_aheadOf_42 : decode cX2_aheadOf 42 = .ok (.iload_n 3, 1) := by decide +kernel
theorem dX2_aheadOf_43 : decode cX2_aheadOf 43 = .ok (.iload_n 1, 1) := by decide +kernel
theorem dX2_aheadOf_44 : decode cX2_aheadOf 44 = .ok (.if_icmp .ge 7, 3) := by decide +kernel
theorem dX2_aheadOf_47 : decode cX2_aheadOf 47 = .ok (.iconst 1, 1) := by decide +kernel
theorem dX2_aheadOf_48 : decode cX2_aheadOf 48 = .ok (.goto 4, 3) := by decide +kernel
theorem dX2_aheadOf_51 : decode cX2_aheadOf 51 = .ok (.iconst 0, 1) := by decide +kernel
theorem dX2_aheadOf_52 : decode cX2_aheadOf 52 = .ok (.istore 4, 2) := by decide +kernel
theorem dX2_aheadOf_54 : decode cX2_aheadOf 54 = .ok (.aload_n 0, 1) := by decide +kernel
theorem dX2_aheadOf_55 : decode cX2_aheadOf 55 = .ok (.getfield 9, 3) := by decide +kernel
theorem dX2_aheadOf_58 : decode cX2_aheadOf 58 = .ok (.iload_n 3, 1) := by decide +kernel
theorem dX2_aheadOf_59 : decode cX2_aheadOf 59 = .ok (.iaload, 1) := by decide +kernel
theorem dX2_aheadOf_60 : decode cX2_aheadOf 60 = .ok (.aload_n 0, 1) := by decide +kernel
theorem dX2_aheadOf_61 : decode cX2_aheadOf 61 = .ok (.getfield 9, 3) := by decide +kernel
theorem dX2_aheadOf_64 : decode cX2_aheadOf 64 = .ok (.iload_n 1, 1) := by decide +kernel
theorem dX2_aheadOf_65 : decode cX2_aheadOf 65 = .ok (.iaload, 1) := by decide +kernel
theorem dX2_aheadOf_66 : decode cX2_aheadOf 66 = .ok (.if_icmp .ne 11, 3) := by decide +kernel
theorem dX2_aheadOf_69 : decode cX2_aheadOf 69 = .ok (.iload 4, 2) := by decide +kernel
theorem dX2_aheadOf_71 : decode cX2_aheadOf 71 = .ok (.ifCond .eq 6, 3) := by decide +kernel
theorem dX2_aheadOf_74 : decode cX2_aheadOf 74 = .ok (.iinc 2 1, 3) := by decide +kernel
theorem dX2_aheadOf_77 : decode cX2_aheadOf 77 = .ok (.iinc 3 1, 3) := by decide +kernel
theorem dX2_aheadOf_80 : decode cX2_aheadOf 80 = .ok (.goto (-76), 3) := by decide +kernel
theorem dX2_aheadOf_83 : decode cX2_aheadOf 83 = .ok (.iload_n 2, 1) := by decide +kernel
theorem dX2_aheadOf_84 : decode cX2_aheadOf 84 = .ok (.ireturn, 1) := by decide +kernel
set_option maxRecDepth 20000 in
theorem ggX3_init_X5_init : GoodIn wsX3_init wsX5_init := goodIn_r _ [18, 19, 2, 3, 4, 20, 21, 22, 23, 24, 14, 15, 25, 26, 27, 28, 29, 54, 55, 56, 57, 58, 59, 60, 61, 62, 63, 64] (by decide +kernel) (by decide +kernel)
set_option maxRecDepth 20000 in
theorem gX3_init_X5_init_n23 : GoodIn wsX3_init (wsX5_init) := ggX3_init_X5_init
set_option maxRecDepth 20000 in
theorem ggX3_init_X9_init : GoodIn wsX3_init wsX9_init := goodIn_r _ [27, 28, 2, 3, 4, 29, 62, 63, 64] (by decide +kernel) (by decide +kernel)
set_option maxRecDepth 20000 in
theorem gX3_init_X9_init_n34 : GoodIn wsX3_init (wsX9_init) := ggX3_init_X9_init
set_option maxRecDepth 20000 in
theorem ggX3_init_X9_beFirst : GoodIn wsX3_init wsX9_beFirst := goodIn_r _ [33, 34, 35, 36, 37, 38, 39, 40, 15, 41, 42, 43, 44, 45, 29, 62, 63, 64] (by decide +kernel) (by decide +kernel)
set_option maxRecDepth 20000 in
theorem gX3_init_X9_beFirst : GoodIn wsX3_init (wsV RX3 35 RX9 yX9_beFirst wsX9_beFirst) := goodIn_app (goodIn_of _ (by decide +kernel)) ggX3_init_X9_beFirst
theorem dX3_init_0 : decode cX3_init 0 = .ok (.aload_n 0, 1) := by decide +kernel
theorem dX3_init_1 : decode cX3_init 1 = .ok (.invokespecial 3, 3) := by decide +kernel
theorem dX3_init_4 : decode cX3_init 4 = .ok (.aload_n 0, 1) := by decide +kernel
theorem dX3_init_5 : decode cX3_init 5 = .ok (.sipush 160, 3) := by decide +kernel
theorem dX3_init_8 : decode cX3_init 8 = .ok (.newarray .int, 2) := by decide +kernel
theorem dX3_init_10 : decode cX3_init 10 = .ok (.putfield 9, 3) := by decide +kernel
theorem dX3_init_13 : decode cX3_init 13 = .ok (.aload_n 0, 1) := by decide +kernel
theorem dX3_init_14 : decode cX3_init 14 = .ok (.bipush 6, 2) := by decide +kernel
theorem dX3_init_16 : decode cX3_init 16 = .ok (.anewarray 15, 3) := by decide +kernel
theorem dX3_init_19 : decode cX3_init 19 = .ok (.putfield 17, 3) := by decide +kernel
theorem dX3_init_22 : decode cX3_init 22 = .ok (.aload_n 0, 1) := by decide +kernel
theorem dX3_init_23 : decode cX3_init 23 = .ok (.new 21, 3) := by decide +kernel
theorem dX3_init_26 : decode cX3_init 26 = .ok (.dup, 1) := by decide +kernel
theorem dX3_init_27 : decode cX3_init 27 = .ok (.invokespecial 23, 3) := by decide +kernel
theorem dX3_init_30 : decode cX3_init 30 = .ok (.putfield 24, 3) := by decide +kernel
theorem dX3_init_33 : decode cX3_init 33 = .ok (.aload_n 0, 1) := by decide +kernel
theorem dX3_init_34 : decode cX3_init 34 = .ok (.bipush 6, 2) := by decide +kernel
theorem dX3_init_36 : decode cX3_init 36 = .ok (.newarray .int, 2) := by decide +kernel
theorem dX3_init_38 : decode cX3_init 38 = .ok (.putfield 28, 3) := by decide +kernel
theorem dX3_init_41 : decode cX3_init 41 = .ok (.aload_n 0, 1) := by decide +kernel
theorem dX3_init_42 : decode cX3_init 42 = .ok (.bipush 64, 2) := by decide +kernel
theorem dX3_init_44 : decode cX3_init 44 = .ok (.newarray .int, 2) := by decide +kernel
theorem dX3_init_46 : decode cX3_init 46 = .ok (.putfield 31, 3) := by decide +kernel
theorem dX3_init_49 : decode cX3_init 49 = .ok (.iconst 0, 1) := by decide +kernel
theorem dX3_init_50 : decode cX3_init 50 = .ok (.istore_n 1, 1) := by decide +kernel
theorem dX3_init_51 : decode cX3_init 51 = .ok (.iload_n 1, 1) := by decide +kernel
theorem dX3_init_52 : decode cX3_init 52 = .ok (.bipush 6, 2) := by decide +kernel
theorem dX3_init_54 : decode cX3_init 54 = .ok (.if_icmp .ge 22, 3) := by decide +kernel
theorem dX3_init_57 : decode cX3_init 57 = .ok (.aload_n 0, 1) := by decide +kernel
theorem dX3_init_58 : decode cX3_init 58 = .ok (.getfield 17, 3) := by decide +kernel
theorem dX3_init_61 : decode cX3_init 61 = .ok (.iload_n 1, 1) := by decide +kernel
theorem dX3_init_62 : decode cX3_init 62 = .ok (.new 15, 3) := by decide +kernel
theorem dX3_init_65 : decode cX3_init 65 = .ok (.dup, 1) := by decide +kernel
theorem dX3_init_66 : decode cX3_init 66 = .ok (.invokespecial 34, 3) := by decide +kernel
theorem dX3_init_69 : decode cX3_init 69 = .ok (.aastore, 1) := by decide +kernel
theorem dX3_init_70 : decode cX3_init 70 = .ok (.iinc 1 1, 3) := by decide +kernel
theorem dX3_init_73 : decode cX3_init 73 = .ok (.goto (-22), 3) := by decide +kernel
theorem dX3_init_76 : decode cX3_init 76 = .ok (.aload_n 0, 1) := by decide +kernel
theorem dX3_init_77 : decode cX3_init 77 = .ok (.getfield 17, 3) := by decide +kernel
theorem dX3_init_80 : decode cX3_init 80 = .ok (.iconst 0, 1) := by decide +kernel
theorem dX3_init_81 : decode cX3_init 81 = .ok (.aaload, 1) := by decide +kernel
theorem dX3_init_82 : decode cX3_init 82 = .ok (.invokevirtual 35, 3) := by decide +kernel
theorem dX3_init_85 : decode cX3_init 85 = .ok (.aload_n 0, 1) := by decide +kernel
theorem dX3_init_86 : decode cX3_init 86 = .ok (.iconst 1, 1) := by decide +kernel
theorem dX3_init_87 : decode cX3_init 87 = .ok (.putfield 38, 3) := by decide +kernel
theorem dX3_init_90 : decode cX3_init 90 = .ok (.return_, 1) := by decide +kernel
theorem dX3_addBytes_0 : decode cX3_addBytes 0 = .ok (.iconst 0, 1) := by decide +kernel
theorem dX3_addBytes_1 : decode cX3_addBytes 1 = .ok (.istore 4, 2) := by decide +kernel
theorem dX3_addBytes_3 : decode cX3_addBytes 3 = .ok (.iload 4, 2) := by decide +kernel
theorem dX3_addBytes_5 : decode cX3_addBytes 5 = .ok (.iload_n 1, 1) := by decide +kernel
theorem dX3_addBytes_6 : decode cX3_addBytes 6 = .ok (.if_icmp .ge 50, 3) := by decide +kernel
theorem dX3_addBytes_9 : decode cX3_addBytes 9 = .ok (.aload_n 0, 1) := by decide +kernel
theorem dX3_addBytes_10 : decode cX3_addBytes 10 = .ok (.getfield 42, 3) := by decide +kernel
theorem dX3_addBytes_13 : decode cX3_addBytes 13 = .ok (.sipush 160, 3) := by decide +kernel
theorem dX3_addBytes_16 : decode cX3_addBytes 16 = .ok (.if_icmp .ge 40, 3) := by decide +kernel
theorem dX3_addBytes_19 : decode cX3_addBytes 19 = .ok (.aload_n 0, 1) := by decide +kernel
theorem dX3_addBytes_20 : decode cX3_addBytes 20 = .ok (.getfield 9, 3) := by decide +kernel
theorem dX3_addBytes_23 : decode cX3_addBytes 23 = .ok (.aload_n 0, 1) := by decide +kernel
theorem dX3_addBytes_24 : decode cX3_addBytes 24 = .ok (.getfield 42, 3) := by decide +kernel
theorem dX3_addBytes_27 : decode cX3_addBytes 27 = .ok (.lload_n 2, 1) := by decide +kernel
theorem dX3_addBytes_28 : decode cX3_addBytes 28 = .ok (.bipush 8, 2) := by decide +kernel
theorem dX3_addBytes_30 : decode cX3_addBytes 30 = .ok (.iload 4, 2) := by decide +kernel
theorem dX3_addBytes_32 : decode cX3_addBytes 32 = .ok (.imul, 1) := by decide +kernel
theorem dX3_addBytes_33 : decode cX3_addBytes 33 = .ok (.lushr, 1) := by decide +kernel
theorem dX3_addBytes_34 : decode cX3_addBytes 34 = .ok (.ldc2_w 45, 3) := by decide +kernel
theorem dX3_addBytes_37 : decode cX3_addBytes 37 = .ok (.land, 1) := by decide +kernel
theorem dX3_addBytes_38 : decode cX3_addBytes 38 = .ok (.l2i, 1) := by decide +kernel
theorem dX3_addBytes_39 : decode cX3_addBytes 39 = .ok (.iastore, 1) := by decide +kernel
theorem dX3_addBytes_40 : decode cX3_addBytes 40 = .ok (.aload_n 0, 1) := by decide +kernel
theorem dX3_addBytes_41 : decode cX3_addBytes 41 = .ok (.dup, 1) := by decide +kernel
theorem dX3_addBytes_42 : decode cX3_addBytes 42 = .ok (.getfield 42, 3) := by decide +kernel
theorem dX3_addBytes_45 : decode cX3_addBytes 45 = .ok (.iconst 1, 1) := by decide +kernel
theorem dX3_addBytes_46 : decode cX3_addBytes 46 = .ok (.iadd, 1) := by decide +kernel
theorem dX3_addBytes_47 : decode cX3_addBytes 47 = .ok (.putfield 42, 3) := by decide +kernel
theorem dX3_addBytes_50 : decode cX3_addBytes 50 = .ok (.iinc 4 1, 3) := by decide +kernel
theorem dX3_addBytes_53 : decode cX3_addBytes 53 = .ok (.goto (-50), 3) := by decide +kernel
theorem dX3_addBytes_56 : decode cX3_addBytes 56 = .ok (.aload_n 0, 1) := by decide +kernel
theorem dX3_addBytes_57 : decode cX3_addBytes 57 = .ok (.getfield 42, 3) := by decide +kernel
theorem dX3_addBytes_60 : decode cX3_addBytes 60 = .ok (.ireturn, 1) := by decide +kernel
set_option maxRecDepth 20000 in
theorem ggX3_readTape_X5_readAll : GoodIn wsX3_readTape wsX5_readAll := goodIn_r _ [11, 12, 13, 14, 15, 16, 17, 18, 19, 20, 21, 22, 23, 24, 25, 10, 26, 27, 28, 29, 30, 31, 32, 33, 34, 35, 36, 37, 38, 39, 40, 41, 42, 43, 44, 45, 46, 47, 48, 49, 50, 51, 52, 53, 54, 55, 56, 57, 58, 59, 60, 61, 62, 63, 64, 65, 66, 67, 68, 69, 70, 71, 72, 73, 74, 75, 76, 77, 78, 79, 80, 81, 82, 83, 84, 85, 86, 87, 88, 89, 90, 91, 92, 93, 94, 95, 96, 97, 98, 99, 100, 101, 102, 103, 104, 105, 106, 107, 108, 109, 110, 111, 112, 113, 114, 115, 116, 117, 118, 119, 120, 121, 122, 123, 124, 125, 126, 127, 128, 129, 130, 131, 132, 133, 134, 135, 136, 137, 138, 139, 140, 141, 142, 143, 144, 145, 146, 147, 148, 149, 150, 151, 152, 153, 154, 155, 156, 157, 158, 159, 160, 161, 178, 179, 180, 181, 182, 183, 184, 185, 186, 187, 188] (by decide +kernel) (by decide +kernel)
set_option maxRecDepth 20000 in
theorem gX3_readTape_X5_readAll : GoodIn wsX3_readTape (wsV RX3 47 RX5 yX5_readAll wsX5_readAll) := goodIn_app (goodIn_of _ (by decide +kernel)) ggX3_readTape_X5_readAll
set_option maxRecDepth 20000 in
theorem ggX3_readTape_X9_become : GoodIn wsX3_readTape wsX9_become := goodIn_r _ [165, 140, 166, 167, 168, 169, 111, 112, 186, 187, 188] (by decide +kernel) (by decide +kernel)
set_option maxRecDepth 20000 in
theorem gX3_readTape_X9_become : GoodIn wsX3_readTape (wsV RX3 55 RX9 yX9_become wsX9_become) := goodIn_app (goodIn_of _ (by decide +kernel)) ggX3_readTape_X9_become
theorem dX3_readTape_0 : decode cX3_readTape 0 = .ok (.aload_n 0, 1) := by decide +kernel
theorem dX3_readTape_1 : decode cX3_readTape 1 = .ok (.getfield 38, 3) := by decide +kernel
theorem dX3_readTape_4 : decode cX3_readTape 4 = .ok (.bipush 6, 2) := by decide +kernel
theorem dX3_readTape_6 : decode cX3_readTape 6 = .ok (.if_icmp .lt 6, 3) := by decide +kernel
theorem dX3_readTape_9 : decode cX3_readTape 9 = .ok (.bipush (-4), 2) := by decide +kernel
theorem dX3_readTape_11 : decode cX3_readTape 11 = .ok (.ireturn, 1) := by decide +kernel
theorem dX3_readTape_12 : decode cX3_readTape 12 = .ok (.aload_n 0, 1) := by decide +kernel
theorem dX3_readTape_13 : decode cX3_readTape 13 = .ok (.getfield 24, 3) := by decide +kernel
theorem dX3_readTape_16 : decode cX3_readTape 16 = .ok (.aload_n 0, 1) := by decide +kernel
theorem dX3_readTape_17 : decode cX3_readTape 17 = .ok (.getfield 9, 3) := by decide +kernel
theorem dX3_readTape_20 : decode cX3_readTape 20 = .ok (.aload_n 0, 1) := by decide +kernel
theorem dX3_readTape_21 : decode cX3_readTape 21 = .ok (.getfield 42, 3) := by decide +kernel
theorem dX3_readTape_24 : decode cX3_readTape 24 = .ok (.invokevirtual 47, 3) := by decide +kernel
theorem dX3_readTape_27 : decode cX3_readTape 27 = .ok (.istore_n 1, 1) := by decide +kernel
theorem dX3_readTape_28 : decode cX3_readTape 28 = .ok (.aload_n 0, 1) := by decide +kernel
theorem dX3_readTape_29 : decode cX3_readTape 29 = .ok (.iconst 0, 1) := by decide +kernel
theorem dX3_readTape_30 : decode cX3_readTape 30 = .ok (.putfield 42, 3) := by decide +kernel
theorem dX3_readTape_33 : decode cX3_readTape 33 = .ok (.iload_n 1, 1) := by decide +kernel
theorem dX3_readTape_34 : decode cX3_readTape 34 = .ok (.ifCond .lt 8, 3) := by decide +kernel
theorem dX3_readTape_37 : decode cX3_readTape 37 = .ok (.bipush (-100), 2) := by decide +kernel
theorem dX3_readTape_39 : decode cX3_readTape 39 = .ok (.iload_n 1, 1) := by decide +kernel
theorem dX3_readTape_40 : decode cX3_readTape 40 = .ok (.isub, 1) := by decide +kernel
theorem dX3_readTape_41 : decode cX3_readTape 41 = .ok (.ireturn, 1) := by decide +kernel
theorem dX3_readTape_42 : decode cX3_readTape 42 = .ok (.aload_n 0, 1) := by decide +kernel
theorem dX3_readTape_43 : decode cX3_readTape 43 = .ok (.getfield 17, 3) := by decide +kernel
theorem dX3_readTape_46 : decode cX3_readTape 46 = .ok (.aload_n 0, 1) := by decide +kernel
theorem dX3_readTape_47 : decode cX3_readTape 47 = .ok (.getfield 38, 3) := by decide +kernel
theorem dX3_readTape_50 : decode cX3_readTape 50 = .ok (.aaload, 1) := by decide +kernel
theorem dX3_readTape_51 : decode cX3_readTape 51 = .ok (.aload_n 0, 1) := by decide +kernel
theorem dX3_readTape_52 : decode cX3_readTape 52 = .ok (.getfield 24, 3) := by decide +kernel
theorem dX3_readTape_55 : decode cX3_readTape 55 = .ok (.getfield 51, 3) := by decide +kernel
theorem dX3_readTape_58 : decode cX3_readTape 58 = .ok (.invokevirtual 55, 3) := by decide +kernel
theorem dX3_readTape_61 : decode cX3_readTape 61 = .ok (.aload_n 0, 1) := by decide +kernel
theorem dX3_readTape_62 : decode cX3_readTape 62 = .ok (.dup, 1) := by decide +kernel
theorem dX3_readTape_63 : decode cX3_readTape 63 = .ok (.getfield 38, 3) := by decide +kernel
theorem dX3_readTape_66 : decode cX3_readTape 66 = .ok (.dup_x1, 1) := by decide +kernel
theorem dX3_readTape_67 : decode cX3_readTape 67 = .ok (.iconst 1, 1) := by decide +kernel
theorem dX3_readTape_68 : decode cX3_readTape 68 = .ok (.iadd, 1) := by decide +kernel
theorem dX3_readTape_69 : decode cX3_readTape 69 = .ok (.putfield 38, 3) := by decide +kernel
theorem dX3_readTape_72 : decode cX3_readTape 72 = .ok (.ireturn, 1) := by decide +kernel
set_option maxRecDepth 20000 in
theorem ggX3_ask_X9_valueOf : GoodIn wsX3_ask wsX9_valueOf := goodIn_r _ [9, 10, 11, 12, 13, 14, 8, 15, 16, 17, 18, 19, 20, 21, 22, 23, 24, 33, 34, 35] (by decide +kernel) (by decide +kernel)
set_option maxRecDepth 20000 in
theorem gX3_ask_X9_valueOf : GoodIn wsX3_ask (wsV RX3 62 RX9 yX9_valueOf wsX9_valueOf) := goodIn_app (goodIn_of _ (by decide +kernel)) ggX3_ask_X9_valueOf
theorem dX3_ask_0 : decode cX3_ask 0 = .ok (.aload_n 0, 1) := by decide +kernel
theorem dX3_ask_1 : decode cX3_ask 1 = .ok (.getfield 28, 3) := by decide +kernel
theorem dX3_ask_4 : decode cX3_ask 4 = .ok (.iconst 0, 1) := by decide +kernel
theorem dX3_ask_5 : decode cX3_ask 5 = .ok (.iload_n 2, 1) := by decide +kernel
theorem dX3_ask_6 : decode cX3_ask 6 = .ok (.iastore, 1) := by decide +kernel
theorem dX3_ask_7 : decode cX3_ask 7 = .ok (.aload_n 0, 1) := by decide +kernel
theorem dX3_ask_8 : decode cX3_ask 8 = .ok (.getfield 28, 3) := by decide +kernel
theorem dX3_ask_11 : decode cX3_ask 11 = .ok (.iconst 1, 1) := by decide +kernel
theorem dX3_ask_12 : decode cX3_ask 12 = .ok (.iload_n 3, 1) := by decide +kernel
theorem dX3_ask_13 : decode cX3_ask 13 = .ok (.iastore, 1) := by decide +kernel
theorem dX3_ask_14 : decode cX3_ask 14 = .ok (.aload_n 0, 1) := by decide +kernel
theorem dX3_ask_15 : decode cX3_ask 15 = .ok (.getfield 28, 3) := by decide +kernel
theorem dX3_ask_18 : decode cX3_ask 18 = .ok (.iconst 2, 1) := by decide +kernel
theorem dX3_ask_19 : decode cX3_ask 19 = .ok (.iload 4, 2) := by decide +kernel
theorem dX3_ask_21 : decode cX3_ask 21 = .ok (.iastore, 1) := by decide +kernel
theorem dX3_ask_22 : decode cX3_ask 22 = .ok (.aload_n 0, 1) := by decide +kernel
theorem dX3_ask_23 : decode cX3_ask 23 = .ok (.getfield 28, 3) := by decide +kernel
theorem dX3_ask_26 : decode cX3_ask 26 = .ok (.iconst 3, 1) := by decide +kernel
theorem dX3_ask_27 : decode cX3_ask 27 = .ok (.iload 5, 2) := by decide +kernel
theorem dX3_ask_29 : decode cX3_ask 29 = .ok (.iastore, 1) := by decide +kernel
theorem dX3_ask_30 : decode cX3_ask 30 = .ok (.aload_n 0, 1) := by decide +kernel
theorem dX3_ask_31 : decode cX3_ask 31 = .ok (.getfield 28, 3) := by decide +kernel
theorem dX3_ask_34 : decode cX3_ask 34 = .ok (.iconst 4, 1) := by decide +kernel
theorem dX3_ask_35 : decode cX3_ask 35 = .ok (.iload 6, 2) := by decide +kernel
theorem dX3_ask_37 : decode cX3_ask 37 = .ok (.iastore, 1) := by decide +kernel
theorem dX3_ask_38 : decode cX3_ask 38 = .ok (.aload_n 0, 1) := by decide +kernel
theorem dX3_ask_39 : decode cX3_ask 39 = .ok (.getfield 28, 3) := by decide +kernel
theorem dX3_ask_42 : decode cX3_ask 42 = .ok (.iconst 5, 1) := by decide +kernel
theorem dX3_ask_43 : decode cX3_ask 43 = .ok (.iload 7, 2) := by decide +kernel
theorem dX3_ask_45 : decode cX3_ask 45 = .ok (.iastore, 1) := by decide +kernel
theorem dX3_ask_46 : decode cX3_ask 46 = .ok (.aload_n 0, 1) := by decide +kernel
theorem dX3_ask_47 : decode cX3_ask 47 = .ok (.getfield 17, 3) := by decide +kernel
theorem dX3_ask_50 : decode cX3_ask 50 = .ok (.aload_n 0, 1) := by decide +kernel
theorem dX3_ask_51 : decode cX3_ask 51 = .ok (.getfield 59, 3) := by decide +kernel
theorem dX3_ask_54 : decode cX3_ask 54 = .ok (.aaload, 1) := by decide +kernel
theorem dX3_ask_55 : decode cX3_ask 55 = .ok (.iload_n 1, 1) := by decide +kernel
theorem dX3_ask_56 : decode cX3_ask 56 = .ok (.aload_n 0, 1) := by decide +kernel
theorem dX3_ask_57 : decode cX3_ask 57 = .ok (.getfield 28, 3) := by decide +kernel
theorem dX3_ask_60 : decode cX3_ask 60 = .ok (.aload_n 0, 1) := by decide +kernel
theorem dX3_ask_61 : decode cX3_ask 61 = .ok (.getfield 31, 3) := by decide +kernel
theorem dX3_ask_64 : decode cX3_ask 64 = .ok (.invokevirtual 62, 3) := by decide +kernel
theorem dX3_ask_67 : decode cX3_ask 67 = .ok (.ireturn, 1) := by decide +kernel
theorem dX4_init_0 : decode cX4_init 0 = .ok (.aload_n 0, 1) := by decide +kernel
theorem dX4_init_1 : decode cX4_init 1 = .ok (.invokespecial 3, 3) := by decide +kernel
theorem dX4_init_4 : decode cX4_init 4 = .ok (.aload_n 0, 1) := by decide +kernel
theorem dX4_init_5 : decode cX4_init 5 = .ok (.bipush 6, 2) := by decide +kernel
theorem dX4_init_7 : decode cX4_init 7 = .ok (.newarray .int, 2) := by decide +kernel
theorem dX4_init_9 : decode cX4_init 9 = .ok (.putfield 9, 3) := by decide +kernel
theorem dX4_init_12 : decode cX4_init 12 = .ok (.aload_n 0, 1) := by decide +kernel
theorem dX4_init_13 : decode cX4_init 13 = .ok (.bipush 8, 2) := by decide +kernel
theorem dX4_init_15 : decode cX4_init 15 = .ok (.newarray .int, 2) := by decide +kernel
theorem dX4_init_17 : decode cX4_init 17 = .ok (.putfield 15, 3) := by decide +kernel
theorem dX4_init_20 : decode cX4_init 20 = .ok (.aload_n 0, 1) := by decide +kernel
theorem dX4_init_21 : decode cX4_init 21 = .ok (.bipush 8, 2) := by decide +kernel
theorem dX4_init_23 : decode cX4_init 23 = .ok (.newarray .int, 2) := by decide +kernel
theorem dX4_init_25 : decode cX4_init 25 = .ok (.putfield 18, 3) := by decide +kernel
theorem dX4_init_28 : decode cX4_init 28 = .ok (.aload_n 0, 1) := by decide +kernel
theorem dX4_init_29 : decode cX4_init 29 = .ok (.bipush 20, 2) := by decide +kernel
theorem dX4_init_31 : decode cX4_init 31 = .ok (.newarray .int, 2) := by decide +kernel
theorem dX4_init_33 : decode cX4_init 33 = .ok (.putfield 21, 3) := by decide +kernel
theorem dX4_init_36 : decode cX4_init 36 = .ok (.aload_n 0, 1) := by decide +kernel
theorem dX4_init_37 : decode cX4_init 37 = .ok (.bipush 20, 2) := by decide +kernel
theorem dX4_init_39 : decode cX4_init 39 = .ok (.newarray .int, 2) := by decide +kernel
theorem dX4_init_41 : decode cX4_init 41 = .ok (.putfield 24, 3) := by decide +kernel
theorem dX4_init_44 : decode cX4_init 44 = .ok (.aload_n 0, 1) := by decide +kernel
theorem dX4_init_45 : decode cX4_init 45 = .ok (.bipush 20, 2) := by decide +kernel
theorem dX4_init_47 : decode cX4_init 47 = .ok (.newarray .int, 2) := by decide +kernel
theorem dX4_init_49 : decode cX4_init 49 = .ok (.putfield 27, 3) := by decide +kernel
theorem dX4_init_52 : decode cX4_init 52 = .ok (.aload_n 0, 1) := by decide +kernel
theorem dX4_init_53 : decode cX4_init 53 = .ok (.bipush 20, 2) := by decide +kernel
theorem dX4_init_55 : decode cX4_init 55 = .ok (.newarray .long, 2) := by decide +kernel
theorem dX4_init_57 : decode cX4_init 57 = .ok (.putfield 30, 3) := by decide +kernel
theorem dX4_init_60 : decode cX4_init 60 = .ok (.aload_n 0, 1) := by decide +kernel
theorem dX4_init_61 : decode cX4_init 61 = .ok (.bipush 40, 2) := by decide +kernel
theorem dX4_init_63 : decode cX4_init 63 = .ok (.newarray .int, 2) := by decide +kernel
theorem dX4_init_65 : decode cX4_init 65 = .ok (.putfield 34, 3) := by decide +kernel
theorem dX4_init_68 : decode cX4_init 68 = .ok (.aload_n 0, 1) := by decide +kernel
theorem dX4_init_69 : decode cX4_init 69 = .ok (.bipush 40, 2) := by decide +kernel
theorem dX4_init_71 : decode cX4_init 71 = .ok (.newarray .int, 2) := by decide +kernel
theorem dX4_init_73 : decode cX4_init 73 = .ok (.putfield 37, 3) := by decide +kernel
theorem dX4_init_76 : decode cX4_init 76 = .ok (.aload_n 0, 1) := by decide +kernel
theorem dX4_init_77 : decode cX4_init 77 = .ok (.bipush 40, 2) := by decide +kernel
theorem dX4_init_79 : decode cX4_init 79 = .ok (.newarray .long, 2) := by decide +kernel
theorem dX4_init_81 : decode cX4_init 81 = .ok (.putfield 40, 3) := by decide +kernel
theorem dX4_init_84 : decode cX4_init 84 = .ok (.return_, 1) := by decide +kernel
theorem dX4_addHearer_0 : decode cX4_addHearer 0 = .ok (.aload_n 0, 1) := by decide +kernel
theorem dX4_addHearer_1 : decode cX4_addHearer 1 = .ok (.getfield 9, 3) := by decide +kernel
theorem dX4_addHearer_4 : decode cX4_addHearer 4 = .ok (.aload_n 0, 1) := by decide +kernel
theorem dX4_addHearer_5 : decode cX4_addHearer 5 = .ok (.getfield 43, 3) := by decide +kernel
theorem dX4_addHearer_8 : decode cX4_addHearer 8 = .ok (.iload_n 1, 1) := by decide +kernel
theorem dX4_addHearer_9 : decode cX4_addHearer 9 = .ok (.iastore, 1) := by decide +kernel
theorem dX4_addHearer_10 : decode cX4_addHearer 10 = .ok (.aload_n 0, 1) := by decide +kernel
theorem dX4_addHearer_11 : decode cX4_addHearer 11 = .ok (.dup, 1) := by decide +kernel
theorem dX4_addHearer_12 : decode cX4_addHearer 12 = .ok (.getfield 43, 3) := by decide +kernel
theorem dX4_addHearer_15 : decode cX4_addHearer 15 = .ok (.dup_x1, 1) := by decide +kernel
theorem dX4_addHearer_16 : decode cX4_addHearer 16 = .ok (.iconst 1, 1) := by decide +kernel
theorem dX4_addHearer_17 : decode cX4_addHearer 17 = .ok (.iadd, 1) := by decide +kernel
theorem dX4_addHearer_18 : decode cX4_addHearer 18 = .ok (.putfield 43, 3) := by decide +kernel
theorem dX4_addHearer_21 : decode cX4_addHearer 21 = .ok (.ireturn, 1) := by decide +kernel
theorem dX4_setWave_0 : decode cX4_setWave 0 = .ok (.bipush 10, 2) := by decide +kernel
theorem dX4_setWave_2 : decode cX4_setWave 2 = .ok (.aload_n 0, 1) := by decide +kernel
theorem dX4_setWave_3 : decode cX4_setWave 3 = .ok (.getfield 15, 3) := by decide +kernel
theorem dX4_setWave_6 : decode cX4_setWave 6 = .ok (.iload_n 1, 1) := by decide +kernel
theorem dX4_setWave_7 : decode cX4_setWave 7 = .ok (.iaload, 1) := by decide +kernel
theorem dX4_setWave_8 : decode cX4_setWave 8 = .ok (.imul, 1) := by decide +kernel
theorem dX4_setWave_9 : decode cX4_setWave 9 = .ok (.aload_n 0, 1) := by decide +kernel
theorem dX4_setWave_10 : decode cX4_setWave 10 = .ok (.getfield 18, 3) := by decide +kernel
theorem dX4_setWave_13 : decode cX4_setWave 13 = .ok (.iload_n 1, 1) := by decide +kernel
theorem dX4_setWave_14 : decode cX4_setWave 14 = .ok (.iaload, 1) := by decide +kernel
theorem dX4_setWave_15 : decode cX4_setWave 15 = .ok (.iadd, 1) := by decide +kernel
theorem dX4_setWave_16 : decode cX4_setWave 16 = .ok (.istore 4, 2) := by decide +kernel
theorem dX4_setWave_18 : decode cX4_setWave 18 = .ok (.aload_n 0, 1) := by decide +kernel
theorem dX4_setWave_19 : decode cX4_setWave 19 = .ok (.getfield 15, 3) := by decide +kernel
theorem dX4_setWave_22 : decode cX4_setWave 22 = .ok (.iload_n 1, 1) := by decide +kernel
theorem dX4_setWave_23 : decode cX4_setWave 23 = .ok (.iload_n 2, 1) := by decide +kernel
theorem dX4_setWave_24 : decode cX4_setWave 24 = .ok (.iastore, 1) := by decide +kernel
theorem dX4_setWave_25 : decode cX4_setWave 25 = .ok (.aload_n 0, 1) := by decide +kernel
theorem dX4_setWave_26 : decode cX4_setWave 26 = .ok (.getfield 18, 3) := by decide +kernel
theorem dX4_setWave_29 : decode cX4_setWave 29 = .ok (.iload_n 1, 1) := by decide +kernel
theorem dX4_setWave_30 : decode cX4_setWave 30 = .ok (.iload_n 3, 1) := by decide +kernel
theorem dX4_setWave_31 : decode cX4_setWave 31 = .ok (.iastore, 1) := by decide +kernel
theorem dX4_setWave_32 : decode cX4_setWave 32 = .ok (.iload 4, 2) := by decide +kernel
theorem dX4_setWave_34 : decode cX4_setWave 34 = .ok (.ireturn, 1) := by decide +kernel
theorem dX4_hasCall_0 : decode cX4_hasCall 0 = .ok (.iload_n 1, 1) := by decide +kernel
theorem dX4_hasCall_1 : decode cX4_hasCall 1 = .ok (.ifCond .lt 15, 3) := by decide +kernel
theorem dX4_hasCall_4 : decode cX4_hasCall 4 = .ok (.iload_n 1, 1) := by decide +kernel
theorem dX4_hasCall_5 : decode cX4_hasCall 5 = .ok (.aload_n 0, 1) := by decide +kernel
theorem dX4_hasCall_6 : decode cX4_hasCall 6 = .ok (.getfield 47, 3) := by decide +kernel
theorem dX4_hasCall_9 : decode cX4_hasCall 9 = .ok (.if_icmp .ge 7, 3) := by decide +kernel
theorem dX4_hasCall_12 : decode cX4_hasCall 12 = .ok (.iconst 1, 1) := by decide +kernel
theorem dX4_hasCall_13 : decode cX4_hasCall 13 = .ok (.goto 4, 3) := by decide +kernel
theorem dX4_hasCall_16 : decode cX4_hasCall 16 = .ok (.iconst 0, 1) := by decide +kernel
theorem dX4_hasCall_17 : decode cX4_hasCall 17 = .ok (.ireturn, 1) := by decide +kernel
theorem dX4_addCall_0 : decode cX4_addCall 0 = .ok (.aload_n 0, 1) := by decide +kernel
theorem dX4_addCall_1 : decode cX4_addCall 1 = .ok (.getfield 21, 3) := by decide +kernel
theorem dX4_addCall_4 : decode cX4_addCall 4 = .ok (.aload_n 0, 1) := by decide +kernel
theorem dX4_addCall_5 : decode cX4_addCall 5 = .ok (.getfield 47, 3) := by decide +kernel
theorem dX4_addCall_8 : decode cX4_addCall 8 = .ok (.iload_n 1, 1) := by decide +kernel
theorem dX4_addCall_9 : decode cX4_addCall 9 = .ok (.iastore, 1) := by decide +kernel
theorem dX4_addCall_10 : decode cX4_addCall 10 = .ok (.aload_n 0, 1) := by decide +kernel
theorem dX4_addCall_11 : decode cX4_addCall 11 = .ok (.getfield 24, 3) := by decide +kernel
theorem dX4_addCall_14 : decode cX4_addCall 14 = .ok (.aload_n 0, 1) := by decide +kernel
theorem dX4_addCall_15 : decode cX4_addCall 15 = .ok (.getfield 47, 3) := by decide +kernel
theorem dX4_addCall_18 : decode cX4_addCall 18 = .ok (.iload_n 2, 1) := by decide +kernel
theorem dX4_addCall_19 : decode cX4_addCall 19 = .ok (.iastore, 1) := by decide +kernel
theorem dX4_addCall_20 : decode cX4_addCall 20 = .ok (.aload_n 0, 1) := by decide +kernel
theorem dX4_addCall_21 : decode cX4_addCall 21 = .ok (.getfield 27, 3) := by decide +kernel
theorem dX4_addCall_24 : decode cX4_addCall 24 = .ok (.aload_n 0, 1) := by decide +kernel
theorem dX4_addCall_25 : decode cX4_addCall 25 = .ok (.getfield 47, 3) := by decide +kernel
theorem dX4_addCall_28 : decode cX4_addCall 28 = .ok (.iload_n 3, 1) := by decide +kernel
theorem dX4_addCall_29 : decode cX4_addCall 29 = .ok (.iastore, 1) := by decide +kernel
theorem dX4_addCall_30 : decode cX4_addCall 30 = .ok (.aload_n 0, 1) := by decide +kernel
theorem dX4_addCall_31 : decode cX4_addCall 31 = .ok (.getfield 30, 3) := by decide +kernel
theorem dX4_addCall_34 : decode cX4_addCall 34 = .ok (.aload_n 0, 1) := by decide +kernel
theorem dX4_addCall_35 : decode cX4_addCall 35 = .ok (.getfield 47, 3) := by decide +kernel
theorem dX4_addCall_38 : decode cX4_addCall 38 = .ok (.lload 4, 2) := by decide +kernel
theorem dX4_addCall_40 : decode cX4_addCall 40 = .ok (.lastore, 1) := by decide +kernel
theorem dX4_addCall_41 : decode cX4_addCall 41 = .ok (.aload_n 0, 1) := by decide +kernel
theorem dX4_addCall_42 : decode cX4_addCall 42 = .ok (.dup, 1) := by decide +kernel
theorem dX4_addCall_43 : decode cX4_addCall 43 = .ok (.getfield 47, 3) := by decide +kernel
theorem dX4_addCall_46 : decode cX4_addCall 46 = .ok (.dup_x1, 1) := by decide +kernel
theorem dX4_addCall_47 : decode cX4_addCall 47 = .ok (.iconst 1, 1) := by decide +kernel
theorem dX4_addCall_48 : decode cX4_addCall 48 = .ok (.iadd, 1) := by decide +kernel
theorem dX4_addCall_49 : decode cX4_addCall 49 = .ok (.putfield 47, 3) := by decide +kernel
theorem dX4_addCall_52 : decode cX4_addCall 52 = .ok (.ireturn, 1) := by decide +kernel
theorem dX4_addPart_0 : decode cX4_addPart 0 = .ok (.aload_n 0, 1) := by decide +kernel
theorem dX4_addPart_1 : decode cX4_addPart 1 = .ok (.getfield 34, 3) := by decide +kernel
theorem dX4_addPart_4 : decode cX4_addPart 4 = .ok (.aload_n 0, 1) := by decide +kernel
theorem dX4_addPart_5 : decode cX4_addPart 5 = .ok (.getfield 50, 3) := by decide +kernel
theorem dX4_addPart_8 : decode cX4_addPart 8 = .ok (.iload_n 1, 1) := by decide +kernel
theorem dX4_addPart_9 : decode cX4_addPart 9 = .ok (.iastore, 1) := by decide +kernel
theorem dX4_addPart_10 : decode cX4_addPart 10 = .ok (.aload_n 0, 1) := by decide +kernel
theorem dX4_addPart_11 : decode cX4_addPart 11 = .ok (.getfield 37, 3) := by decide +kernel
theorem dX4_addPart_14 : decode cX4_addPart 14 = .ok (.aload_n 0, 1) := by decide +kernel
theorem dX4_addPart_15 : decode cX4_addPart 15 = .ok (.getfield 50, 3) := by decide +kernel
theorem dX4_addPart_18 : decode cX4_addPart 18 = .ok (.iload_n 2, 1) := by decide +kernel
theorem dX4_addPart_19 : decode cX4_addPart 19 = .ok (.iastore, 1) := by decide +kernel
theorem dX4_addPart_20 : decode cX4_addPart 20 = .ok (.aload_n 0, 1) := by decide +kernel
theorem dX4_addPart_21 : decode cX4_addPart 21 = .ok (.getfield 40, 3) := by decide +kernel
theorem dX4_addPart_24 : decode cX4_addPart 24 = .ok (.aload_n 0, 1) := by decide +kernel
theorem dX4_addPart_25 : decode cX4_addPart 25 = .ok (.getfield 50, 3) := by decide +kernel
theorem dX4_addPart_28 : decode cX4_addPart 28 = .ok (.lload_n 3, 1) := by decide +kernel
theorem dX4_addPart_29 : decode cX4_addPart 29 = .ok (.lastore, 1) := by decide +kernel
theorem dX4_addPart_30 : decode cX4_addPart 30 = .ok (.aload_n 0, 1) := by decide +kernel
theorem dX4_addPart_31 : decode cX4_addPart 31 = .ok (.dup, 1) := by decide +kernel
theorem dX4_addPart_32 : decode cX4_addPart 32 = .ok (.getfield 50, 3) := by decide +kernel
theorem dX4_addPart_35 : decode cX4_addPart 35 = .ok (.iconst 1, 1) := by decide +kernel
theorem dX4_addPart_36 : decode cX4_addPart 36 = .ok (.iadd, 1) := by decide +kernel
theorem dX4_addPart_37 : decode cX4_addPart 37 = .ok (.dup_x1, 1) := by decide +kernel
theorem dX4_addPart_38 : decode cX4_addPart 38 = .ok (.putfield 50, 3) := by decide +kernel
theorem dX4_addPart_41 : decode cX4_addPart 41 = .ok (.ireturn, 1) := by decide +kernel
set_option maxRecDepth 20000 in
theorem ggX4_hearersOf_X4_isAnyApart : GoodIn wsX4_hearersOf wsX4_isAnyApart := goodIn_r _ [10, 11, 12, 13, 14, 15, 16, 17, 18, 19, 20, 21, 22] (by decide +kernel) (by decide +kernel)
set_option maxRecDepth 20000 in
theorem gX4_hearersOf_X4_isAnyApart : GoodIn wsX4_hearersOf (va_wsS RX4 53 yX4_isAnyApart wsX4_isAnyApart) := goodIn_app (goodIn_of _ (by decide +kernel)) ggX4_hearersOf_X4_isAnyApart
theorem dX4_hearersOf_0 : decode cX4_hearersOf 0 = .ok (.aload_n 0, 1) := by decide +kernel
theorem dX4_hearersOf_1 : decode cX4_hearersOf 1 = .ok (.getfield 27, 3) := by decide +kernel
theorem dX4_hearersOf_4 : decode cX4_hearersOf 4 = .ok (.iload_n 1, 1) := by decide +kernel
theorem dX4_hearersOf_5 : decode cX4_hearersOf 5 = .ok (.iaload, 1) := by decide +kernel
theorem dX4_hearersOf_6 : decode cX4_hearersOf 6 = .ok (.bipush 24, 2) := by decide +kernel
theorem dX4_hearersOf_8 : decode cX4_hearersOf 8 = .ok (.irem, 1) := by decide +kernel
theorem dX4_hearersOf_9 : decode cX4_hearersOf 9 = .ok (.istore 4, 2) := by decide +kernel
theorem dX4_hearersOf_11 : decode cX4_hearersOf 11 = .ok (.iconst 2, 1) := by decide +kernel
theorem dX4_hearersOf_12 : decode cX4_hearersOf 12 = .ok (.aload_n 0, 1) := by decide +kernel
theorem dX4_hearersOf_13 : decode cX4_hearersOf 13 = .ok (.getfield 24, 3) := by decide +kernel
theorem dX4_hearersOf_16 : decode cX4_hearersOf 16 = .ok (.iload_n 1, 1) := by decide +kernel
theorem dX4_hearersOf_17 : decode cX4_hearersOf 17 = .ok (.iaload, 1) := by decide +kernel
theorem dX4_hearersOf_18 : decode cX4_hearersOf 18 = .ok (.imul, 1) := by decide +kernel
theorem dX4_hearersOf_19 : decode cX4_hearersOf 19 = .ok (.iload 4, 2) := by decide +kernel
theorem dX4_hearersOf_21 : decode cX4_hearersOf 21 = .ok (.bipush 6, 2) := by decide +kernel
theorem dX4_hearersOf_23 : decode cX4_hearersOf 23 = .ok (.if_icmp .lt 10, 3) := by decide +kernel
theorem dX4_hearersOf_26 : decode cX4_hearersOf 26 = .ok (.iload 4, 2) := by decide +kernel
theorem dX4_hearersOf_28 : decode cX4_hearersOf 28 = .ok (.bipush 17, 2) := by decide +kernel
theorem dX4_hearersOf_30 : decode cX4_hearersOf 30 = .ok (.if_icmp .le 7, 3) := by decide +kernel
theorem dX4_hearersOf_33 : decode cX4_hearersOf 33 = .ok (.iconst 1, 1) := by decide +kernel
theorem dX4_hearersOf_34 : decode cX4_hearersOf 34 = .ok (.goto 4, 3) := by decide +kernel
theorem dX4_hearersOf_37 : decode cX4_hearersOf 37 = .ok (.iconst 0, 1) := by decide +kernel
theorem dX4_hearersOf_38 : decode cX4_hearersOf 38 = .ok (.iadd, 1) := by decide +kernel
theorem dX4_hearersOf_39 : decode cX4_hearersOf 39 = .ok (.istore 5, 2) := by decide +kernel
theorem dX4_hearersOf_41 : decode cX4_hearersOf 41 = .ok (.iconst 0, 1) := by decide +kernel
theorem dX4_hearersOf_42 : decode cX4_hearersOf 42 = .ok (.istore 6, 2) := by decide +kernel
theorem dX4_hearersOf_44 : decode cX4_hearersOf 44 = .ok (.iconst 0, 1) := by decide +kernel
theorem dX4_hearersOf_45 : decode cX4_hearersOf 45 = .ok (.istore 7, 2) := by decide +kernel
theorem dX4_hearersOf_47 : decode cX4_hearersOf 47 = .ok (.iload 7, 2) := by decide +kernel
theorem dX4_hearersOf_49 : decode cX4_hearersOf 49 = .ok (.aload_n 0, 1) := by decide +kernel
theorem dX4_hearersOf_50 : decode cX4_hearersOf 50 = .ok (.getfield 43, 3) := by decide +kernel
theorem dX4_hearersOf_53 : decode cX4_hearersOf 53 = .ok (.if_icmp .ge 46, 3) := by decide +kernel
theorem dX4_hearersOf_56 : decode cX4_hearersOf 56 = .ok (.lload_n 2, 1) := by decide +kernel
theorem dX4_hearersOf_57 : decode cX4_hearersOf 57 = .ok (.aload_n 0, 1) := by decide +kernel
theorem dX4_hearersOf_58 : decode cX4_hearersOf 58 = .ok (.getfield 9, 3) := by decide +kernel
theorem dX4_hearersOf_61 : decode cX4_hearersOf 61 = .ok (.iload 7, 2) := by decide +kernel
theorem dX4_hearersOf_63 : decode cX4_hearersOf 63 = .ok (.iaload, 1) := by decide +kernel
theorem dX4_hearersOf_64 : decode cX4_hearersOf 64 = .ok (.aload_n 0, 1) := by decide +kernel
theorem dX4_hearersOf_65 : decode cX4_hearersOf 65 = .ok (.getfield 15, 3) := by decide +kernel
theorem dX4_hearersOf_68 : decode cX4_hearersOf 68 = .ok (.iload 5, 2) := by decide +kernel
theorem dX4_hearersOf_70 : decode cX4_hearersOf 70 = .ok (.iaload, 1) := by decide +kernel
theorem dX4_hearersOf_71 : decode cX4_hearersOf 71 = .ok (.aload_n 0, 1) := by decide +kernel
theorem dX4_hearersOf_72 : decode cX4_hearersOf 72 = .ok (.getfield 18, 3) := by decide +kernel
theorem dX4_hearersOf_75 : decode cX4_hearersOf 75 = .ok (.iload 5, 2) := by decide +kernel
theorem dX4_hearersOf_77 : decode cX4_hearersOf 77 = .ok (.iaload, 1) := by decide +kernel
theorem dX4_hearersOf_78 : decode cX4_hearersOf 78 = .ok (.invokestatic 53, 3) := by decide +kernel
theorem dX4_hearersOf_81 : decode cX4_hearersOf 81 = .ok (.ifCond .eq 12, 3) := by decide +kernel
theorem dX4_hearersOf_84 : decode cX4_hearersOf 84 = .ok (.iload 6, 2) := by decide +kernel
theorem dX4_hearersOf_86 : decode cX4_hearersOf 86 = .ok (.iconst 1, 1) := by decide +kernel
theorem dX4_hearersOf_87 : decode cX4_hearersOf 87 = .ok (.iload 7, 2) := by decide +kernel
theorem dX4_hearersOf_89 : decode cX4_hearersOf 89 = .ok (.ishl, 1) := by decide +kernel
theorem dX4_hearersOf_90 : decode cX4_hearersOf 90 = .ok (.ior, 1) := by decide +kernel
theorem dX4_hearersOf_91 : decode cX4_hearersOf 91 = .ok (.istore 6, 2) := by decide +kernel
theorem dX4_hearersOf_93 : decode cX4_hearersOf 93 = .ok (.iinc 7 1, 3) := by decide +kernel
theorem dX4_hearersOf_96 : decode cX4_hearersOf 96 = .ok (.goto (-49), 3) := by decide +kernel
theorem dX4_hearersOf_99 : decode cX4_hearersOf 99 = .ok (.iload 6, 2) := by decide +kernel
theorem dX4_hearersOf_101 : decode cX4_hearersOf 101 = .ok (.ireturn, 1) := by decide +kernel
set_option maxRecDepth 20000 in
theorem ggX4_isAnyApart_X11_apart : GoodIn wsX4_isAnyApart wsX11_apart := goodIn_r _ [3, 4, 5, 6, 7, 8, 9, 10] (by decide +kernel) (by decide +kernel)
set_option maxRecDepth 20000 in
theorem gX4_isAnyApart_X11_apart_n57 : GoodIn wsX4_isAnyApart (wsX11_apart) := ggX4_isAnyApart_X11_apart
set_option maxRecDepth 20000 in
theorem ggX4_isAnyApart_X11_has : GoodIn wsX4_isAnyApart wsX11_has := goodIn_r _ [12] (by decide +kernel) (by decide +kernel)
set_option maxRecDepth 20000 in
theorem gX4_isAnyApart_X11_has_n61 : GoodIn wsX4_isAnyApart (wsX11_has) := ggX4_isAnyApart_X11_has
theorem dX4_isAnyApart_0 : decode cX4_isAnyApart 0 = .ok (.iconst 0, 1) := by decide +kernel
theorem dX4_isAnyApart_1 : decode cX4_isAnyApart 1 = .ok (.istore 5, 2) := by decide +kernel
theorem dX4_isAnyApart_3 : decode cX4_isAnyApart 3 = .ok (.iload 5, 2) := by decide +kernel
theorem dX4_isAnyApart_5 : decode cX4_isAnyApart 5 = .ok (.bipush 64, 2) := by decide +kernel
theorem dX4_isAnyApart_7 : decode cX4_isAnyApart 7 = .ok (.if_icmp .ge 41, 3) := by decide +kernel
theorem dX4_isAnyApart_10 : decode cX4_isAnyApart 10 = .ok (.iload_n 2, 1) := by decide +kernel
theorem dX4_isAnyApart_11 : decode cX4_isAnyApart 11 = .ok (.iload 5, 2) := by decide +kernel
theorem dX4_isAnyApart_13 : decode cX4_isAnyApart 13 = .ok (.invokestatic 57, 3) := by decide +kernel
theorem dX4_isAnyApart_16 : decode cX4_isAnyApart 16 = .ok (.istore 6, 2) := by decide +kernel
theorem dX4_isAnyApart_18 : decode cX4_isAnyApart 18 = .ok (.lload_n 0, 1) := by decide +kernel
theorem dX4_isAnyApart_19 : decode cX4_isAnyApart 19 = .ok (.iload 5, 2) := by decide +kernel
theorem dX4_isAnyApart_21 : decode cX4_isAnyApart 21 = .ok (.invokestatic 61, 3) := by decide +kernel
theorem dX4_isAnyApart_24 : decode cX4_isAnyApart 24 = .ok (.ifCond .eq 18, 3) := by decide +kernel
theorem dX4_isAnyApart_27 : decode cX4_isAnyApart 27 = .ok (.iload 6, 2) := by decide +kernel
theorem dX4_isAnyApart_29 : decode cX4_isAnyApart 29 = .ok (.iload_n 3, 1) := by decide +kernel
theorem dX4_isAnyApart_30 : decode cX4_isAnyApart 30 = .ok (.if_icmp .lt 12, 3) := by decide +kernel
theorem dX4_isAnyApart_33 : decode cX4_isAnyApart 33 = .ok (.iload 6, 2) := by decide +kernel
theorem dX4_isAnyApart_35 : decode cX4_isAnyApart 35 = .ok (.iload 4, 2) := by decide +kernel
theorem dX4_isAnyApart_37 : decode cX4_isAnyApart 37 = .ok (.if_icmp .gt 5, 3) := by decide +kernel
theorem dX4_isAnyApart_40 : decode cX4_isAnyApart 40 = .ok (.iconst 1, 1) := by decide +kernel
theorem dX4_isAnyApart_41 : decode cX4_isAnyApart 41 = .ok (.ireturn, 1) := by decide +kernel
theorem dX4_isAnyApart_42 : decode cX4_isAnyApart 42 = .ok (.iinc 5 1, 3) := by decide +kernel
theorem dX4_isAnyApart_45 : decode cX4_isAnyApart 45 = .ok (.goto (-42), 3) := by decide +kernel
theorem dX4_isAnyApart_48 : decode cX4_isAnyApart 48 = .ok (.iconst 0, 1) := by decide +kernel
theorem dX4_isAnyApart_49 : decode cX4_isAnyApart 49 = .ok (.ireturn, 1) := by decide +kernel
set_option maxRecDepth 20000 in
theorem ggX4_putTogether_X4_digit : GoodIn wsX4_putTogether wsX4_digit := goodIn_r _ [8, 9] (by decide +kernel) (by decide +kernel)
set_option maxRecDepth 20000 in
theorem gX4_putTogether_X4_digit : GoodIn wsX4_putTogether (va_wsS RX4 65 yX4_digit wsX4_digit) := goodIn_app (goodIn_of _ (by decide +kernel)) ggX4_putTogether_X4_digit
theorem dX4_putTogether_0 : decode cX4_putTogether 0 = .ok (.iconst (-1), 1) := by decide +kernel
theorem dX4_putTogether_1 : decode cX4_putTogether 1 = .ok (.istore_n 3, 1) := by decide +kernel
theorem dX4_putTogether_2 : decode cX4_putTogether 2 = .ok (.iconst 0, 1) := by decide +kernel
theorem dX4_putTogether_3 : decode cX4_putTogether 3 = .ok (.istore 4, 2) := by decide +kernel
theorem dX4_putTogether_5 : decode cX4_putTogether 5 = .ok (.iload 4, 2) := by decide +kernel
theorem dX4_putTogether_7 : decode cX4_putTogether 7 = .ok (.aload_n 0, 1) := by decide +kernel
theorem dX4_putTogether_8 : decode cX4_putTogether 8 = .ok (.getfield 50, 3) := by decide +kernel
theorem dX4_putTogether_11 : decode cX4_putTogether 11 = .ok (.if_icmp .ge 64, 3) := by decide +kernel
theorem dX4_putTogether_14 : decode cX4_putTogether 14 = .ok (.aload_n 0, 1) := by decide +kernel
theorem dX4_putTogether_15 : decode cX4_putTogether 15 = .ok (.getfield 34, 3) := by decide +kernel
theorem dX4_putTogether_18 : decode cX4_putTogether 18 = .ok (.iload 4, 2) := by decide +kernel
theorem dX4_putTogether_20 : decode cX4_putTogether 20 = .ok (.iaload, 1) := by decide +kernel
theorem dX4_putTogether_21 : decode cX4_putTogether 21 = .ok (.iload_n 1, 1) := by decide +kernel
theorem dX4_putTogether_22 : decode cX4_putTogether 22 = .ok (.if_icmp .ne 47, 3) := by decide +kernel
theorem dX4_putTogether_25 : decode cX4_putTogether 25 = .ok (.aload_n 0, 1) := by decide +kernel
theorem dX4_putTogether_26 : decode cX4_putTogether 26 = .ok (.getfield 37, 3) := by decide +kernel
theorem dX4_putTogether_29 : decode cX4_putTogether 29 = .ok (.iload 4, 2) := by decide +kernel
theorem dX4_putTogether_31 : decode cX4_putTogether 31 = .ok (.iaload, 1) := by decide +kernel
theorem dX4_putTogether_32 : decode cX4_putTogether 32 = .ok (.iload_n 2, 1) := by decide +kernel
theorem dX4_putTogether_33 : decode cX4_putTogether 33 = .ok (.ishr, 1) := by decide +kernel
theorem dX4_putTogether_34 : decode cX4_putTogether 34 = .ok (.iconst 1, 1) := by decide +kernel
theorem dX4_putTogether_35 : decode cX4_putTogether 35 = .ok (.iand, 1) := by decide +kernel
theorem dX4_putTogether_36 : decode cX4_putTogether 36 = .ok (.ifCond .eq 33, 3) := by decide +kernel
theorem dX4_putTogether_39 : decode cX4_putTogether 39 = .ok (.aload_n 0, 1) := by decide +kernel
theorem dX4_putTogether_40 : decode cX4_putTogether 40 = .ok (.getfield 40, 3) := by decide +kernel
theorem dX4_putTogether_43 : decode cX4_putTogether 43 = .ok (.iload 4, 2) := by decide +kernel
theorem dX4_putTogether_45 : decode cX4_putTogether 45 = .ok (.laload, 1) := by decide +kernel
theorem dX4_putTogether_46 : decode cX4_putTogether 46 = .ok (.iload_n 2, 1) := by decide +kernel
theorem dX4_putTogether_47 : decode cX4_putTogether 47 = .ok (.invokestatic 65, 3) := by decide +kernel
theorem dX4_putTogether_50 : decode cX4_putTogether 50 = .ok (.istore 5, 2) := by decide +kernel
theorem dX4_putTogether_52 : decode cX4_putTogether 52 = .ok (.iload_n 3, 1) := by decide +kernel
theorem dX4_putTogether_53 : decode cX4_putTogether 53 = .ok (.iconst (-1), 1) := by decide +kernel
theorem dX4_putTogether_54 : decode cX4_putTogether 54 = .ok (.if_icmp .eq 12, 3) := by decide +kernel
theorem dX4_putTogether_57 : decode cX4_putTogether 57 = .ok (.iload_n 3, 1) := by decide +kernel
theorem dX4_putTogether_58 : decode cX4_putTogether 58 = .ok (.iload 5, 2) := by decide +kernel
theorem dX4_putTogether_60 : decode cX4_putTogether 60 = .ok (.if_icmp .eq 6, 3) := by decide +kernel
theorem dX4_putTogether_63 : decode cX4_putTogether 63 = .ok (.bipush (-2), 2) := by decide +kernel
theorem dX4_putTogether_65 : decode cX4_putTogether 65 = .ok (.ireturn, 1) := by decide +kernel
theorem dX4_putTogether_66 : decode cX4_putTogether 66 = .ok (.iload 5, 2) := by decide +kernel
theorem dX4_putTogether_68 : decode cX4_putTogether 68 = .ok (.istore_n 3, 1) := by decide +kernel
theorem dX4_putTogether_69 : decode cX4_putTogether 69 = .ok (.iinc 4 1, 3) := by decide +kernel
theorem dX4_putTogether_72 : decode cX4_putTogether 72 = .ok (.goto (-67), 3) := by decide +kernel
theorem dX4_putTogether_75 : decode cX4_putTogether 75 = .ok (.iload_n 3, 1) := by decide +kernel
theorem dX4_putTogether_76 : decode cX4_putTogether 76 = .ok (.ireturn, 1) := by decide +kernel
set_option maxRecDepth 20000 in
theorem ggX4_isAsSent_X4_digit : GoodIn wsX4_isAsSent wsX4_digit := goodIn_r _ [8, 9] (by decide +kernel) (by decide +kernel)
set_option maxRecDepth 20000 in
theorem gX4_isAsSent_X4_digit : GoodIn wsX4_isAsSent (va_wsS RX4 65 yX4_digit wsX4_digit) := goodIn_app (goodIn_of _ (by decide +kernel)) ggX4_isAsSent_X4_digit
theorem dX4_isAsSent_0 : decode cX4_isAsSent 0 = .ok (.aload_n 0, 1) := by decide +kernel
theorem dX4_isAsSent_1 : decode cX4_isAsSent 1 = .ok (.getfield 30, 3) := by decide +kernel
theorem dX4_isAsSent_4 : decode cX4_isAsSent 4 = .ok (.aload_n 0, 1) := by decide +kernel
theorem dX4_isAsSent_5 : decode cX4_isAsSent 5 = .ok (.getfield 34, 3) := by decide +kernel
theorem dX4_isAsSent_8 : decode cX4_isAsSent 8 = .ok (.iload_n 1, 1) := by decide +kernel
theorem dX4_isAsSent_9 : decode cX4_isAsSent 9 = .ok (.iaload, 1) := by decide +kernel
theorem dX4_isAsSent_10 : decode cX4_isAsSent 10 = .ok (.laload, 1) := by decide +kernel
theorem dX4_isAsSent_11 : decode cX4_isAsSent 11 = .ok (.lstore_n 2, 1) := by decide +kernel
theorem dX4_isAsSent_12 : decode cX4_isAsSent 12 = .ok (.iconst 0, 1) := by decide +kernel
theorem dX4_isAsSent_13 : decode cX4_isAsSent 13 = .ok (.istore 4, 2) := by decide +kernel
theorem dX4_isAsSent_15 : decode cX4_isAsSent 15 = .ok (.iload 4, 2) := by decide +kernel
theorem dX4_isAsSent_17 : decode cX4_isAsSent 17 = .ok (.bipush 16, 2) := by decide +kernel
theorem dX4_isAsSent_19 : decode cX4_isAsSent 19 = .ok (.if_icmp .ge 45, 3) := by decide +kernel
theorem dX4_isAsSent_22 : decode cX4_isAsSent 22 = .ok (.aload_n 0, 1) := by decide +kernel
theorem dX4_isAsSent_23 : decode cX4_isAsSent 23 = .ok (.getfield 37, 3) := by decide +kernel
theorem dX4_isAsSent_26 : decode cX4_isAsSent 26 = .ok (.iload_n 1, 1) := by decide +kernel
theorem dX4_isAsSent_27 : decode cX4_isAsSent 27 = .ok (.iaload, 1) := by decide +kernel
theorem dX4_isAsSent_28 : decode cX4_isAsSent 28 = .ok (.iload 4, 2) := by decide +kernel
theorem dX4_isAsSent_30 : decode cX4_isAsSent 30 = .ok (.ishr, 1) := by decide +kernel
theorem dX4_isAsSent_31 : decode cX4_isAsSent 31 = .ok (.iconst 1, 1) := by decide +kernel
theorem dX4_isAsSent_32 : decode cX4_isAsSent 32 = .ok (.iand, 1) := by decide +kernel
theorem dX4_isAsSent_33 : decode cX4_isAsSent 33 = .ok (.ifCond .eq 25, 3) := by decide +kernel
theorem dX4_isAsSent_36 : decode cX4_isAsSent 36 = .ok (.aload_n 0, 1) := by decide +kernel
theorem dX4_isAsSent_37 : decode cX4_isAsSent 37 = .ok (.getfield 40, 3) := by decide +kernel
theorem dX4_isAsSent_40 : decode cX4_isAsSent 40 = .ok (.iload_n 1, 1) := by decide +kernel
theorem dX4_isAsSent_41 : decode cX4_isAsSent 41 = .ok (.laload, 1) := by decide +kernel
theorem dX4_isAsSent_42 : decode cX4_isAsSent 42 = .ok (.iload 4, 2) := by decide +kernel
theorem dX4_isAsSent_44 : decode cX4_isAsSent 44 = .ok (.invokestatic 65, 3) := by decide +kernel
theorem dX4_isAsSent_47 : decode cX4_isAsSent 47 = .ok (.lload_n 2, 1) := by decide +kernel
theorem dX4_isAsSent_48 : decode cX4_isAsSent 48 = .ok (.iload 4, 2) := by decide +kernel
theorem dX4_isAsSent_50 : decode cX4_isAsSent 50 = .ok (.invokestatic 65, 3) := by decide +kernel
theorem dX4_isAsSent_53 : decode cX4_isAsSent 53 = .ok (.if_icmp .eq 5, 3) := by decide +kernel
theorem dX4_isAsSent_56 : decode cX4_isAsSent 56 = .ok (.iconst 0, 1) := by decide +kernel
theorem dX4_isAsSent_57 : decode cX4_isAsSent 57 = .ok (.ireturn, 1) := by decide +kernel
theorem dX4_isAsSent_58 : decode cX4_isAsSent 58 = .ok (.iinc 4 1, 3) := by decide +kernel
theorem dX4_isAsSent_61 : decode cX4_isAsSent 61 = .ok (.goto (-46), 3) := by decide +kernel
theorem dX4_isAsSent_64 : decode cX4_isAsSent 64 = .ok (.iconst 1, 1) := by decide +kernel
theorem dX4_isAsSent_65 : decode cX4_isAsSent 65 = .ok (.ireturn, 1) := by decide +kernel
theorem dX4_digit_0 : decode cX4_digit 0 = .ok (.lload_n 0, 1) := by decide +kernel
theorem dX4_digit_1 : decode cX4_digit 1 = .ok (.iconst 4, 1) := by decide +kernel
theorem dX4_digit_2 : decode cX4_digit 2 = .ok (.iload_n 2, 1) := by decide +kernel
theorem dX4_digit_3 : decode cX4_digit 3 = .ok (.imul, 1) := by decide +kernel
theorem dX4_digit_4 : decode cX4_digit 4 = .ok (.lushr, 1) := by decide +kernel
theorem dX4_digit_5 : decode cX4_digit 5 = .ok (.ldc2_w 69, 3) := by decide +kernel
theorem dX4_digit_8 : decode cX4_digit 8 = .ok (.land, 1) := by decide +kernel
theorem dX4_digit_9 : decode cX4_digit 9 = .ok (.l2i, 1) := by decide +kernel
theorem dX4_digit_10 : decode cX4_digit 10 = .ok (.ireturn, 1) := by decide +kernel
set_option maxRecDepth 20000 in
theorem ggX5_init_X9_init : GoodIn wsX5_init wsX9_init := goodIn_r _ [14, 15, 2, 3, 4, 16, 25, 26, 27] (by decide +kernel) (by decide +kernel)
set_option maxRecDepth 20000 in
theorem gX5_init_X9_init_n26 : GoodIn wsX5_init (wsX9_init) := ggX5_init_X9_init
theorem dX5_init_0 : decode cX5_init 0 = .ok (.aload_n 0, 1) := by decide +kernel
theorem dX5_init_1 : decode cX5_init 1 = .ok (.invokespecial 5, 3) := by decide +kernel
theorem dX5_init_4 : decode cX5_init 4 = .ok (.aload_n 0, 1) := by decide +kernel
theorem dX5_init_5 : decode cX5_init 5 = .ok (.iconst 0, 1) := by decide +kernel
theorem dX5_init_6 : decode cX5_init 6 = .ok (.newarray .int, 2) := by decide +kernel
theorem dX5_init_8 : decode cX5_init 8 = .ok (.putfield 11, 3) := by decide +kernel
theorem dX5_init_11 : decode cX5_init 11 = .ok (.aload_n 0, 1) := by decide +kernel
theorem dX5_init_12 : decode cX5_init 12 = .ok (.sipush 161, 3) := by decide +kernel
theorem dX5_init_15 : decode cX5_init 15 = .ok (.newarray .int, 2) := by decide +kernel
theorem dX5_init_17 : decode cX5_init 17 = .ok (.putfield 15, 3) := by decide +kernel
theorem dX5_init_20 : decode cX5_init 20 = .ok (.aload_n 0, 1) := by decide +kernel
theorem dX5_init_21 : decode cX5_init 21 = .ok (.sipush 161, 3) := by decide +kernel
theorem dX5_init_24 : decode cX5_init 24 = .ok (.newarray .int, 2) := by decide +kernel
theorem dX5_init_26 : decode cX5_init 26 = .ok (.putfield 18, 3) := by decide +kernel
theorem dX5_init_29 : decode cX5_init 29 = .ok (.aload_n 0, 1) := by decide +kernel
theorem dX5_init_30 : decode cX5_init 30 = .ok (.sipush 161, 3) := by decide +kernel
theorem dX5_init_33 : decode cX5_init 33 = .ok (.newarray .int, 2) := by decide +kernel
theorem dX5_init_35 : decode cX5_init 35 = .ok (.putfield 21, 3) := by decide +kernel
theorem dX5_init_38 : decode cX5_init 38 = .ok (.aload_n 0, 1) := by decide +kernel
theorem dX5_init_39 : decode cX5_init 39 = .ok (.new 24, 3) := by decide +kernel
theorem dX5_init_42 : decode cX5_init 42 = .ok (.dup, 1) := by decide +kernel
theorem dX5_init_43 : decode cX5_init 43 = .ok (.invokespecial 26, 3) := by decide +kernel
theorem dX5_init_46 : decode cX5_init 46 = .ok (.putfield 27, 3) := by decide +kernel
theorem dX5_init_49 : decode cX5_init 49 = .ok (.return_, 1) := by decide +kernel
set_option maxRecDepth 20000 in
theorem ggX5_readAll_X5_cutTokens : GoodIn wsX5_readAll wsX5_cutTokens := goodIn_r _ [16, 6, 1, 17, 18, 19, 20, 15, 21, 22, 23, 24, 25, 26, 27, 28, 29, 30, 31, 32, 33, 34, 35, 36, 37, 38, 39, 40, 41, 42, 43, 44, 45, 46, 47, 48, 49, 50, 51, 52, 53, 54, 55, 56, 57, 58, 59, 60, 61, 62, 63, 64, 65, 66, 67, 68, 69, 70, 71, 72, 73, 74, 75, 76, 77, 78, 79, 80, 81, 82, 83, 84, 85, 86, 87, 88, 89, 90, 91, 92, 93, 94, 95, 152, 153, 154, 155, 156, 157, 158, 159] (by decide +kernel) (by decide +kernel)
set_option maxRecDepth 20000 in
theorem gX5_readAll_X5_cutTokens : GoodIn wsX5_readAll (wsV RX5 41 RX5 yX5_cutTokens wsX5_cutTokens) := goodIn_app (goodIn_of _ (by decide +kernel)) ggX5_readAll_X5_cutTokens
set_option maxRecDepth 20000 in
theorem ggX5_readAll_X9_clear : GoodIn wsX5_readAll wsX9_clear := goodIn_r _ [100, 101, 102, 160, 161, 162] (by decide +kernel) (by decide +kernel)
set_option maxRecDepth 20000 in
theorem gX5_readAll_X9_clear : GoodIn wsX5_readAll (wsV RX5 44 RX9 yX9_clear wsX9_clear) := goodIn_app (goodIn_of _ (by decide +kernel)) ggX5_readAll_X9_clear
set_option maxRecDepth 20000 in
theorem ggX5_readAll_X5_need : GoodIn wsX5_readAll wsX5_need := goodIn_r _ [106, 107, 108, 109, 15, 110, 9, 18, 8, 111, 112, 113, 114, 115, 116, 117, 118, 17, 152, 153, 154, 155, 156, 157, 158, 159] (by decide +kernel) (by decide +kernel)
set_option maxRecDepth 20000 in
theorem gX5_readAll_X5_need : GoodIn wsX5_readAll (wsV RX5 53 RX5 yX5_need wsX5_need) := goodIn_app (goodIn_of _ (by decide +kernel)) ggX5_readAll_X5_need
set_option maxRecDepth 20000 in
theorem ggX5_readAll_X5_readChoice : GoodIn wsX5_readAll wsX5_readChoice := goodIn_r _ [122, 7, 123, 124, 125, 15, 107, 108, 109, 110, 9, 18, 8, 111, 112, 113, 114, 126, 127, 128, 99, 129, 101, 130, 131, 132, 133, 134, 135, 136, 137, 138, 139, 115, 116, 117, 118, 17, 140, 141, 142, 143, 26, 144, 145, 146, 119, 120, 121, 103, 104, 105, 106, 147, 148, 149, 150, 151, 152, 153, 154, 155, 156, 157, 158, 159, 160, 161, 162] (by decide +kernel) (by decide +kernel)
set_option maxRecDepth 20000 in
theorem gX5_readAll_X5_readChoice : GoodIn wsX5_readAll (wsV RX5 57 RX5 yX5_readChoice wsX5_readChoice) := goodIn_app (goodIn_of _ (by decide +kernel)) ggX5_readAll_X5_readChoice
theorem dX5_readAll_0 : decode cX5_readAll 0 = .ok (.aload_n 0, 1) := by decide +kernel
theorem dX5_readAll_1 : decode cX5_readAll 1 = .ok (.aload_n 1, 1) := by decide +kernel
theorem dX5_readAll_2 : decode cX5_readAll 2 = .ok (.putfield 11, 3) := by decide +kernel
theorem dX5_readAll_5 : decode cX5_readAll 5 = .ok (.aload_n 0, 1) := by decide +kernel
theorem dX5_readAll_6 : decode cX5_readAll 6 = .ok (.iload_n 2, 1) := by decide +kernel
theorem dX5_readAll_7 : decode cX5_readAll 7 = .ok (.aload_n 1, 1) := by decide +kernel
theorem dX5_readAll_8 : decode cX5_readAll 8 = .ok (.arraylength, 1) := by decide +kernel
theorem dX5_readAll_9 : decode cX5_readAll 9 = .ok (.invokestatic 31, 3) := by decide +kernel
theorem dX5_readAll_12 : decode cX5_readAll 12 = .ok (.putfield 37, 3) := by decide +kernel
theorem dX5_readAll_15 : decode cX5_readAll 15 = .ok (.aload_n 0, 1) := by decide +kernel
theorem dX5_readAll_16 : decode cX5_readAll 16 = .ok (.invokevirtual 41, 3) := by decide +kernel
theorem dX5_readAll_19 : decode cX5_readAll 19 = .ok (.aload_n 0, 1) := by decide +kernel
theorem dX5_readAll_20 : decode cX5_readAll 20 = .ok (.getfield 27, 3) := by decide +kernel
theorem dX5_readAll_23 : decode cX5_readAll 23 = .ok (.invokevirtual 44, 3) := by decide +kernel
theorem dX5_readAll_26 : decode cX5_readAll 26 = .ok (.aload_n 0, 1) := by decide +kernel
theorem dX5_readAll_27 : decode cX5_readAll 27 = .ok (.iconst 0, 1) := by decide +kernel
theorem dX5_readAll_28 : decode cX5_readAll 28 = .ok (.putfield 47, 3) := by decide +kernel
theorem dX5_readAll_31 : decode cX5_readAll 31 = .ok (.aload_n 0, 1) := by decide +kernel
theorem dX5_readAll_32 : decode cX5_readAll 32 = .ok (.iconst (-1), 1) := by decide +kernel
theorem dX5_readAll_33 : decode cX5_readAll 33 = .ok (.putfield 50, 3) := by decide +kernel
theorem dX5_readAll_36 : decode cX5_readAll 36 = .ok (.aload_n 0, 1) := by decide +kernel
theorem dX5_readAll_37 : decode cX5_readAll 37 = .ok (.bipush 7, 2) := by decide +kernel
theorem dX5_readAll_39 : decode cX5_readAll 39 = .ok (.invokevirtual 53, 3) := by decide +kernel
theorem dX5_readAll_42 : decode cX5_readAll 42 = .ok (.aload_n 0, 1) := by decide +kernel
theorem dX5_readAll_43 : decode cX5_readAll 43 = .ok (.iconst 0, 1) := by decide +kernel
theorem dX5_readAll_44 : decode cX5_readAll 44 = .ok (.invokevirtual 57, 3) := by decide +kernel
theorem dX5_readAll_47 : decode cX5_readAll 47 = .ok (.aload_n 0, 1) := by decide +kernel
theorem dX5_readAll_48 : decode cX5_readAll 48 = .ok (.bipush 59, 2) := by decide +kernel
theorem dX5_readAll_50 : decode cX5_readAll 50 = .ok (.invokevirtual 53, 3) := by decide +kernel
theorem dX5_readAll_53 : decode cX5_readAll 53 = .ok (.aload_n 0, 1) := by decide +kernel
theorem dX5_readAll_54 : decode cX5_readAll 54 = .ok (.getfield 27, 3) := by decide +kernel
theorem dX5_readAll_57 : decode cX5_readAll 57 = .ok (.aload_n 0, 1) := by decide +kernel
theorem dX5_readAll_58 : decode cX5_readAll 58 = .ok (.getfield 27, 3) := by decide +kernel
theorem dX5_readAll_61 : decode cX5_readAll 61 = .ok (.getfield 60, 3) := by decide +kernel
theorem dX5_readAll_64 : decode cX5_readAll 64 = .ok (.putfield 61, 3) := by decide +kernel
theorem dX5_readAll_67 : decode cX5_readAll 67 = .ok (.aload_n 0, 1) := by decide +kernel
theorem dX5_readAll_68 : decode cX5_readAll 68 = .ok (.bipush 8, 2) := by decide +kernel
theorem dX5_readAll_70 : decode cX5_readAll 70 = .ok (.invokevirtual 53, 3) := by decide +kernel
theorem dX5_readAll_73 : decode cX5_readAll 73 = .ok (.aload_n 0, 1) := by decide +kernel
theorem dX5_readAll_74 : decode cX5_readAll 74 = .ok (.iconst 0, 1) := by decide +kernel
theorem dX5_readAll_75 : decode cX5_readAll 75 = .ok (.invokevirtual 57, 3) := by decide +kernel
theorem dX5_readAll_78 : decode cX5_readAll 78 = .ok (.aload_n 0, 1) := by decide +kernel
theorem dX5_readAll_79 : decode cX5_readAll 79 = .ok (.bipush 59, 2) := by decide +kernel
theorem dX5_readAll_81 : decode cX5_readAll 81 = .ok (.invokevirtual 53, 3) := by decide +kernel
theorem dX5_readAll_84 : decode cX5_readAll 84 = .ok (.aload_n 0, 1) := by decide +kernel
theorem dX5_readAll_85 : decode cX5_readAll 85 = .ok (.iconst 0, 1) := by decide +kernel
theorem dX5_readAll_86 : decode cX5_readAll 86 = .ok (.invokevirtual 53, 3) := by decide +kernel
theorem dX5_readAll_89 : decode cX5_readAll 89 = .ok (.aload_n 0, 1) := by decide +kernel
theorem dX5_readAll_90 : decode cX5_readAll 90 = .ok (.getfield 50, 3) := by decide +kernel
theorem dX5_readAll_93 : decode cX5_readAll 93 = .ok (.ireturn, 1) := by decide +kernel
theorem dX5_sees_0 : decode cX5_sees 0 = .ok (.aload_n 0, 1) := by decide +kernel
theorem dX5_sees_1 : decode cX5_sees 1 = .ok (.getfield 50, 3) := by decide +kernel
theorem dX5_sees_4 : decode cX5_sees 4 = .ok (.ifCond .ge 20, 3) := by decide +kernel
theorem dX5_sees_7 : decode cX5_sees 7 = .ok (.aload_n 0, 1) := by decide +kernel
theorem dX5_sees_8 : decode cX5_sees 8 = .ok (.getfield 15, 3) := by decide +kernel
theorem dX5_sees_11 : decode cX5_sees 11 = .ok (.aload_n 0, 1) := by decide +kernel
theorem dX5_sees_12 : decode cX5_sees 12 = .ok (.getfield 47, 3) := by decide +kernel
theorem dX5_sees_15 : decode cX5_sees 15 = .ok (.iaload, 1) := by decide +kernel
theorem dX5_sees_16 : decode cX5_sees 16 = .ok (.iload_n 1, 1) := by decide +kernel
theorem dX5_sees_17 : decode cX5_sees 17 = .ok (.if_icmp .ne 7, 3) := by decide +kernel
theorem dX5_sees_20 : decode cX5_sees 20 = .ok (.iconst 1, 1) := by decide +kernel
theorem dX5_sees_21 : decode cX5_sees 21 = .ok (.goto 4, 3) := by decide +kernel
theorem dX5_sees_24 : decode cX5_sees 24 = .ok (.iconst 0, 1) := by decide +kernel
theorem dX5_sees_25 : decode cX5_sees 25 = .ok (.ireturn, 1) := by decide +kernel
theorem dX5_advance_0 : decode cX5_advance 0 = .ok (.aload_n 0, 1) := by decide +kernel
theorem dX5_advance_1 : decode cX5_advance 1 = .ok (.getfield 47, 3) := by decide +kernel
theorem dX5_advance_4 : decode cX5_advance 4 = .ok (.sipush 160, 3) := by decide +kernel
theorem dX5_advance_7 : decode cX5_advance 7 = .ok (.if_icmp .ge 25, 3) := by decide +kernel
theorem dX5_advance_10 : decode cX5_advance 10 = .ok (.aload_n 0, 1) := by decide +kernel
theorem dX5_advance_11 : decode cX5_advance 11 = .ok (.getfield 15, 3) := by decide +kernel
theorem dX5_advance_14 : decode cX5_advance 14 = .ok (.aload_n 0, 1) := by decide +kernel
theorem dX5_advance_15 : decode cX5_advance 15 = .ok (.getfield 47, 3) := by decide +kernel
theorem dX5_advance_18 : decode cX5_advance 18 = .ok (.iaload, 1) := by decide +kernel
theorem dX5_advance_19 : decode cX5_advance 19 = .ok (.ifCond .eq 13, 3) := by decide +kernel
theorem dX5_advance_22 : decode cX5_advance 22 = .ok (.aload_n 0, 1) := by decide +kernel
theorem dX5_advance_23 : decode cX5_advance 23 = .ok (.dup, 1) := by decide +kernel
theorem dX5_advance_24 : decode cX5_advance 24 = .ok (.getfield 47, 3) := by decide +kernel
theorem dX5_advance_27 : decode cX5_advance 27 = .ok (.iconst 1, 1) := by decide +kernel
theorem dX5_advance_28 : decode cX5_advance 28 = .ok (.iadd, 1) := by decide +kernel
theorem dX5_advance_29 : decode cX5_advance 29 = .ok (.putfield 47, 3) := by decide +kernel
theorem dX5_advance_32 : decode cX5_advance 32 = .ok (.return_, 1) := by decide +kernel
theorem dX5_fail_0 : decode cX5_fail 0 = .ok (.aload_n 0, 1) := by decide +kernel
theorem dX5_fail_1 : decode cX5_fail 1 = .ok (.getfield 50, 3) := by decide +kernel
theorem dX5_fail_4 : decode cX5_fail 4 = .ok (.ifCond .ge 16, 3) := by decide +kernel
theorem dX5_fail_7 : decode cX5_fail 7 = .ok (.aload_n 0, 1) := by decide +kernel
theorem dX5_fail_8 : decode cX5_fail 8 = .ok (.aload_n 0, 1) := by decide +kernel
theorem dX5_fail_9 : decode cX5_fail 9 = .ok (.getfield 18, 3) := by decide +kernel
theorem dX5_fail_12 : decode cX5_fail 12 = .ok (.aload_n 0, 1) := by decide +kernel
theorem dX5_fail_13 : decode cX5_fail 13 = .ok (.getfield 47, 3) := by decide +kernel
theorem dX5_fail_16 : decode cX5_fail 16 = .ok (.iaload, 1) := by decide +kernel
theorem dX5_fail_17 : decode cX5_fail 17 = .ok (.putfield 50, 3) := by decide +kernel
theorem dX5_fail_20 : decode cX5_fail 20 = .ok (.return_, 1) := by decide +kernel
set_option maxRecDepth 20000 in
theorem ggX5_need_X5_sees : GoodIn wsX5_need wsX5_sees := goodIn_r _ [5, 6, 7, 8, 18, 19, 20, 21, 22, 23, 24, 25] (by decide +kernel) (by decide +kernel)
set_option maxRecDepth 20000 in
theorem gX5_need_X5_sees : GoodIn wsX5_need (wsV RX5 64 RX5 yX5_sees wsX5_sees) := goodIn_app (goodIn_of _ (by decide +kernel)) ggX5_need_X5_sees
set_option maxRecDepth 20000 in
theorem ggX5_need_X5_advance : GoodIn wsX5_need wsX5_advance := goodIn_r _ [12, 8, 7, 18, 19, 20, 21, 22, 23, 24, 25] (by decide +kernel) (by decide +kernel)
set_option maxRecDepth 20000 in
theorem gX5_need_X5_advance : GoodIn wsX5_need (wsV RX5 68 RX5 yX5_advance wsX5_advance) := goodIn_app (goodIn_of _ (by decide +kernel)) ggX5_need_X5_advance
set_option maxRecDepth 20000 in
theorem ggX5_need_X5_fail : GoodIn wsX5_need wsX5_fail := goodIn_r _ [16, 6, 17, 8, 18, 19, 20, 21, 22, 23, 24, 25] (by decide +kernel) (by decide +kernel)
set_option maxRecDepth 20000 in
theorem gX5_need_X5_fail : GoodIn wsX5_need (wsV RX5 71 RX5 yX5_fail wsX5_fail) := goodIn_app (goodIn_of _ (by decide +kernel)) ggX5_need_X5_fail
theorem dX5_need_0 : decode cX5_need 0 = .ok (.aload_n 0, 1) := by decide +kernel
theorem dX5_need_1 : decode cX5_need 1 = .ok (.iload_n 1, 1) := by decide +kernel
theorem dX5_need_2 : decode cX5_need 2 = .ok (.invokevirtual 64, 3) := by decide +kernel
theorem dX5_need_5 : decode cX5_need 5 = .ok (.ifCond .eq 10, 3) := by decide +kernel
theorem dX5_need_8 : decode cX5_need 8 = .ok (.aload_n 0, 1) := by decide +kernel
theorem dX5_need_9 : decode cX5_need 9 = .ok (.invokevirtual 68, 3) := by decide +kernel
theorem dX5_need_12 : decode cX5_need 12 = .ok (.goto 7, 3) := by decide +kernel
theorem dX5_need_15 : decode cX5_need 15 = .ok (.aload_n 0, 1) := by decide +kernel
theorem dX5_need_16 : decode cX5_need 16 = .ok (.invokevirtual 71, 3) := by decide +kernel
theorem dX5_need_19 : decode cX5_need 19 = .ok (.return_, 1) := by decide +kernel
set_option maxRecDepth 20000 in
theorem ggX5_readChoice_X5_readBoth : GoodIn wsX5_readChoice wsX5_readBoth := goodIn_r _ [24, 1, 25, 26, 27, 5, 6, 7, 8, 9, 10, 11, 12, 13, 14, 15, 16, 17, 18, 19, 20, 21, 22, 23, 0, 2, 3, 4, 28, 29, 30, 31, 32, 33, 34, 35, 36, 37, 38, 39, 40, 41, 42, 43, 44, 45, 46, 47, 48, 49, 50, 51, 52, 53, 54, 55, 56, 57, 58, 59, 60, 61, 62, 63, 64, 65, 66, 67, 68] (by decide +kernel) (by decide +kernel)
set_option maxRecDepth 20000 in
theorem gX5_readChoice_X5_readBoth : GoodIn wsX5_readChoice (wsV RX5 74 RX5 yX5_readBoth wsX5_readBoth) := goodIn_app (goodIn_of _ (by decide +kernel)) ggX5_readChoice_X5_readBoth
set_option maxRecDepth 20000 in
theorem ggX5_readChoice_X5_sees : GoodIn wsX5_readChoice wsX5_sees := goodIn_r _ [9, 10, 11, 12, 58, 59, 60, 61, 62, 63, 64, 65] (by decide +kernel) (by decide +kernel)
set_option maxRecDepth 20000 in
theorem gX5_readChoice_X5_sees : GoodIn wsX5_readChoice (wsV RX5 64 RX5 yX5_sees wsX5_sees) := goodIn_app (goodIn_of _ (by decide +kernel)) ggX5_readChoice_X5_sees
set_option maxRecDepth 20000 in
theorem ggX5_readChoice_X5_advance : GoodIn wsX5_readChoice wsX5_advance := goodIn_r _ [16, 12, 11, 58, 59, 60, 61, 62, 63, 64, 65] (by decide +kernel) (by decide +kernel)
set_option maxRecDepth 20000 in
theorem gX5_readChoice_X5_advance : GoodIn wsX5_readChoice (wsV RX5 68 RX5 yX5_advance wsX5_advance) := goodIn_app (goodIn_of _ (by decide +kernel)) ggX5_readChoice_X5_advance
set_option maxRecDepth 20000 in
theorem ggX5_readChoice_X9_addStep : GoodIn wsX5_readChoice wsX9_addStep := goodIn_r _ [21, 22, 23, 66, 67, 68] (by decide +kernel) (by decide +kernel)
set_option maxRecDepth 20000 in
theorem gX5_readChoice_X9_addStep : GoodIn wsX5_readChoice (wsV RX5 77 RX9 yX9_addStep wsX9_addStep) := goodIn_app (goodIn_of _ (by decide +kernel)) ggX5_readChoice_X9_addStep
theorem dX5_readChoice_0 : decode cX5_readChoice 0 = .ok (.aload_n 0, 1) := by decide +kernel
theorem dX5_readChoice_1 : decode cX5_readChoice 1 = .ok (.iload_n 1, 1) := by decide +kernel
theorem dX5_readChoice_2 : decode cX5_readChoice 2 = .ok (.invokevirtual 74, 3) := by decide +kernel
theorem dX5_readChoice_5 : decode cX5_readChoice 5 = .ok (.iconst 0, 1) := by decide +kernel
theorem dX5_readChoice_6 : decode cX5_readChoice 6 = .ok (.istore_n 2, 1) := by decide +kernel
theorem dX5_readChoice_7 : decode cX5_readChoice 7 = .ok (.iload_n 2, 1) := by decide +kernel
theorem dX5_readChoice_8 : decode cX5_readChoice 8 = .ok (.sipush 160, 3) := by decide +kernel
theorem dX5_readChoice_11 : decode cX5_readChoice 11 = .ok (.if_icmp .ge 36, 3) := by decide +kernel
theorem dX5_readChoice_14 : decode cX5_readChoice 14 = .ok (.aload_n 0, 1) := by decide +kernel
theorem dX5_readChoice_15 : decode cX5_readChoice 15 = .ok (.bipush 9, 2) := by decide +kernel
theorem dX5_readChoice_17 : decode cX5_readChoice 17 = .ok (.invokevirtual 64, 3) := by decide +kernel
theorem dX5_readChoice_20 : decode cX5_readChoice 20 = .ok (.ifCond .eq 27, 3) := by decide +kernel
theorem dX5_readChoice_23 : decode cX5_readChoice 23 = .ok (.aload_n 0, 1) := by decide +kernel
theorem dX5_readChoice_24 : decode cX5_readChoice 24 = .ok (.invokevirtual 68, 3) := by decide +kernel
theorem dX5_readChoice_27 : decode cX5_readChoice 27 = .ok (.aload_n 0, 1) := by decide +kernel
theorem dX5_readChoice_28 : decode cX5_readChoice 28 = .ok (.iload_n 1, 1) := by decide +kernel
theorem dX5_readChoice_29 : decode cX5_readChoice 29 = .ok (.invokevirtual 74, 3) := by decide +kernel
theorem dX5_readChoice_32 : decode cX5_readChoice 32 = .ok (.aload_n 0, 1) := by decide +kernel
theorem dX5_readChoice_33 : decode cX5_readChoice 33 = .ok (.getfield 27, 3) := by decide +kernel
theorem dX5_readChoice_36 : decode cX5_readChoice 36 = .ok (.bipush (-11), 2) := by decide +kernel
theorem dX5_readChoice_38 : decode cX5_readChoice 38 = .ok (.invokevirtual 77, 3) := by decide +kernel
theorem dX5_readChoice_41 : decode cX5_readChoice 41 = .ok (.iinc 2 1, 3) := by decide +kernel
theorem dX5_readChoice_44 : decode cX5_readChoice 44 = .ok (.goto (-37), 3) := by decide +kernel
theorem dX5_readChoice_47 : decode cX5_readChoice 47 = .ok (.return_, 1) := by decide +kernel
set_option maxRecDepth 20000 in
theorem ggX5_readBoth_X5_readNot : GoodIn wsX5_readBoth wsX5_readNot := goodIn_r _ [32, 1, 6, 7, 8, 5, 9, 10, 11, 12, 33, 34, 35, 36, 37, 13, 14, 15, 16, 2, 3, 4, 17, 18, 19, 20, 21, 22, 23, 38, 39, 40, 0, 24, 25, 26, 27, 28, 29, 30, 31, 41, 42, 43, 44, 45, 46, 47, 48, 49, 50, 51, 52, 53, 54, 55, 56, 57, 58, 59, 60, 61, 62, 63, 64, 65, 66, 67, 68] (by decide +kernel) (by decide +kernel)
set_option maxRecDepth 20000 in
theorem gX5_readBoth_X5_readNot : GoodIn wsX5_readBoth (wsV RX5 80 RX5 yX5_readNot wsX5_readNot) := goodIn_app (goodIn_of _ (by decide +kernel)) ggX5_readBoth_X5_readNot
set_option maxRecDepth 20000 in
theorem ggX5_readBoth_X5_sees : GoodIn wsX5_readBoth wsX5_sees := goodIn_r _ [9, 10, 11, 12, 58, 59, 60, 61, 62, 63, 64, 65] (by decide +kernel) (by decide +kernel)
set_option maxRecDepth 20000 in
theorem gX5_readBoth_X5_sees : GoodIn wsX5_readBoth (wsV RX5 64 RX5 yX5_sees wsX5_sees) := goodIn_app (goodIn_of _ (by decide +kernel)) ggX5_readBoth_X5_sees
set_option maxRecDepth 20000 in
theorem ggX5_readBoth_X5_advance : GoodIn wsX5_readBoth wsX5_advance := goodIn_r _ [16, 12, 11, 58, 59, 60, 61, 62, 63, 64, 65] (by decide +kernel) (by decide +kernel)
set_option maxRecDepth 20000 in
theorem gX5_readBoth_X5_advance : GoodIn wsX5_readBoth (wsV RX5 68 RX5 yX5_advance wsX5_advance) := goodIn_app (goodIn_of _ (by decide +kernel)) ggX5_readBoth_X5_advance
set_option maxRecDepth 20000 in
theorem ggX5_readBoth_X9_addStep : GoodIn wsX5_readBoth wsX9_addStep := goodIn_r _ [21, 22, 23, 66, 67, 68] (by decide +kernel) (by decide +kernel)
set_option maxRecDepth 20000 in
theorem gX5_readBoth_X9_addStep : GoodIn wsX5_readBoth (wsV RX5 77 RX9 yX9_addStep wsX9_addStep) := goodIn_app (goodIn_of _ (by decide +kernel)) ggX5_readBoth_X9_addStep
theorem dX5_readBoth_0 : decode cX5_readBoth 0 = .ok (.aload_n 0, 1) := by decide +kernel
theorem dX5_readBoth_1 : decode cX5_readBoth 1 = .ok (.iload_n 1, 1) := by decide +kernel
theorem dX5_readBoth_2 : decode cX5_readBoth 2 = .ok (.invokevirtual 80, 3) := by decide +kernel
theorem dX5_readBoth_5 : decode cX5_readBoth 5 = .ok (.iconst 0, 1) := by decide +kernel
theorem dX5_readBoth_6 : decode cX5_readBoth 6 = .ok (.istore_n 2, 1) := by decide +kernel
theorem dX5_readBoth_7 : decode cX5_readBoth 7 = .ok (.iload_n 2, 1) := by decide +kernel
theorem dX5_readBoth_8 : decode cX5_readBoth 8 = .ok (.sipush 160, 3) := by decide +kernel
theorem dX5_readBoth_11 : decode cX5_readBoth 11 = .ok (.if_icmp .ge 36, 3) := by decide +kernel
theorem dX5_readBoth_14 : decode cX5_readBoth 14 = .ok (.aload_n 0, 1) := by decide +kernel
theorem dX5_readBoth_15 : decode cX5_readBoth 15 = .ok (.bipush 10, 2) := by decide +kernel
theorem dX5_readBoth_17 : decode cX5_readBoth 17 = .ok (.invokevirtual 64, 3) := by decide +kernel
theorem dX5_readBoth_20 : decode cX5_readBoth 20 = .ok (.ifCond .eq 27, 3) := by decide +kernel
theorem dX5_readBoth_23 : decode cX5_readBoth 23 = .ok (.aload_n 0, 1) := by decide +kernel
theorem dX5_readBoth_24 : decode cX5_readBoth 24 = .ok (.invokevirtual 68, 3) := by decide +kernel
theorem dX5_readBoth_27 : decode cX5_readBoth 27 = .ok (.aload_n 0, 1) := by decide +kernel
theorem dX5_readBoth_28 : decode cX5_readBoth 28 = .ok (.iload_n 1, 1) := by decide +kernel
theorem dX5_readBoth_29 : decode cX5_readBoth 29 = .ok (.invokevirtual 80, 3) := by decide +kernel
theorem dX5_readBoth_32 : decode cX5_readBoth 32 = .ok (.aload_n 0, 1) := by decide +kernel
theorem dX5_readBoth_33 : decode cX5_readBoth 33 = .ok (.getfield 27, 3) := by decide +kernel
theorem dX5_readBoth_36 : decode cX5_readBoth 36 = .ok (.bipush (-12), 2) := by decide +kernel
theorem dX5_readBoth_38 : decode cX5_readBoth 38 = .ok (.invokevirtual 77, 3) := by decide +kernel
theorem dX5_readBoth_41 : decode cX5_readBoth 41 = .ok (.iinc 2 1, 3) := by decide +kernel
theorem dX5_readBoth_44 : decode cX5_readBoth 44 = .ok (.goto (-37), 3) := by decide +kernel
theorem dX5_readBoth_47 : decode cX5_readBoth 47 = .ok (.return_, 1) := by decide +kernel
set_option maxRecDepth 20000 in
theorem ggX5_readNot_X5_sees : GoodIn wsX5_readNot wsX5_sees := goodIn_r _ [6, 7, 8, 9, 58, 59, 60, 61, 62, 63, 64, 65] (by decide +kernel) (by decide +kernel)
set_option maxRecDepth 20000 in
theorem gX5_readNot_X5_sees : GoodIn wsX5_readNot (wsV RX5 64 RX5 yX5_sees wsX5_sees) := goodIn_app (goodIn_of _ (by decide +kernel)) ggX5_readNot_X5_sees
set_option maxRecDepth 20000 in
theorem ggX5_readNot_X5_fail : GoodIn wsX5_readNot wsX5_fail := goodIn_r _ [13, 7, 14, 9, 58, 59, 60, 61, 62, 63, 64, 65] (by decide +kernel) (by decide +kernel)
set_option maxRecDepth 20000 in
theorem gX5_readNot_X5_fail : GoodIn wsX5_readNot (wsV RX5 71 RX5 yX5_fail wsX5_fail) := goodIn_app (goodIn_of _ (by decide +kernel)) ggX5_readNot_X5_fail
set_option maxRecDepth 20000 in
theorem ggX5_readNot_X5_advance : GoodIn wsX5_readNot wsX5_advance := goodIn_r _ [18, 9, 8, 58, 59, 60, 61, 62, 63, 64, 65] (by decide +kernel) (by decide +kernel)
set_option maxRecDepth 20000 in
theorem gX5_readNot_X5_advance : GoodIn wsX5_readNot (wsV RX5 68 RX5 yX5_advance wsX5_advance) := goodIn_app (goodIn_of _ (by decide +kernel)) ggX5_readNot_X5_advance
set_option maxRecDepth 20000 in
theorem ggX5_readNot_X5_readNot : GoodIn wsX5_readNot wsX5_readNot := goodIn_r _ [0, 1, 2, 3, 4, 5, 6, 7, 8, 9, 10, 11, 12, 13, 14, 15, 16, 17, 18, 19, 20, 21, 22, 23, 24, 25, 26, 27, 28, 29, 30, 31, 32, 33, 34, 35, 36, 37, 38, 39, 40, 41, 42, 43, 44, 45, 46, 47, 48, 49, 50, 51, 52, 53, 54, 55, 56, 57, 58, 59, 60, 61, 62, 63, 64, 65, 66, 67, 68] (by decide +kernel) (by decide +kernel)
set_option maxRecDepth 20000 in
theorem gX5_readNot_X5_readNot : GoodIn wsX5_readNot (wsV RX5 80 RX5 yX5_readNot wsX5_readNot) := goodIn_app (goodIn_of _ (by decide +kernel)) ggX5_readNot_X5_readNot
set_option maxRecDepth 20000 in
theorem ggX5_readNot_X9_addStep : GoodIn wsX5_readNot wsX9_addStep := goodIn_r _ [26, 27, 28, 66, 67, 68] (by decide +kernel) (by decide +kernel)
set_option maxRecDepth 20000 in
theorem gX5_readNot_X9_addStep : GoodIn wsX5_readNot (wsV RX5 77 RX9 yX9_addStep wsX9_addStep) := goodIn_app (goodIn_of _ (by decide +kernel)) ggX5_readNot_X9_addStep
set_option maxRecDepth 20000 in
theorem ggX5_readNot_X5_readCompared : GoodIn wsX5_readNot wsX5_readCompared := goodIn_r _ [37, 1, 38, 39, 40, 5, 2, 3, 4, 6, 7, 8, 9, 15, 16, 17, 18, 22, 23, 24, 25, 26, 27, 28, 32, 19, 20, 21, 33, 34, 35, 36, 0, 10, 11, 12, 13, 14, 29, 30, 31, 41, 42, 43, 44, 45, 46, 47, 48, 49, 50, 51, 52, 53, 54, 55, 56, 57, 58, 59, 60, 61, 62, 63, 64, 65, 66, 67, 68] (by decide +kernel) (by decide +kernel)
set_option maxRecDepth 20000 in
theorem gX5_readNot_X5_readCompared : GoodIn wsX5_readNot (wsV RX5 83 RX5 yX5_readCompared wsX5_readCompared) := goodIn_app (goodIn_of _ (by decide +kernel)) ggX5_readNot_X5_readCompared
theorem dX5_readNot_0 : decode cX5_readNot 0 = .ok (.aload_n 0, 1) := by decide +kernel
theorem dX5_readNot_1 : decode cX5_readNot 1 = .ok (.bipush 11, 2) := by decide +kernel
theorem dX5_readNot_3 : decode cX5_readNot 3 = .ok (.invokevirtual 64, 3) := by decide +kernel
theorem dX5_readNot_6 : decode cX5_readNot 6 = .ok (.ifCond .eq 15, 3) := by decide +kernel
theorem dX5_readNot_9 : decode cX5_readNot 9 = .ok (.iload_n 1, 1) := by decide +kernel
theorem dX5_readNot_10 : decode cX5_readNot 10 = .ok (.iconst 5, 1) := by decide +kernel
theorem dX5_readNot_11 : decode cX5_readNot 11 = .ok (.if_icmp .lt 10, 3) := by decide +kernel
theorem dX5_readNot_14 : decode cX5_readNot 14 = .ok (.aload_n 0, 1) := by decide +kernel
theorem dX5_readNot_15 : decode cX5_readNot 15 = .ok (.invokevirtual 71, 3) := by decide +kernel
theorem dX5_readNot_18 : decode cX5_readNot 18 = .ok (.goto 40, 3) := by decide +kernel
theorem dX5_readNot_21 : decode cX5_readNot 21 = .ok (.aload_n 0, 1) := by decide +kernel
theorem dX5_readNot_22 : decode cX5_readNot 22 = .ok (.bipush 11, 2) := by decide +kernel
theorem dX5_readNot_24 : decode cX5_readNot 24 = .ok (.invokevirtual 64, 3) := by decide +kernel
theorem dX5_readNot_27 : decode cX5_readNot 27 = .ok (.ifCond .eq 26, 3) := by decide +kernel
theorem dX5_readNot_30 : decode cX5_readNot 30 = .ok (.aload_n 0, 1) := by decide +kernel
theorem dX5_readNot_31 : decode cX5_readNot 31 = .ok (.invokevirtual 68, 3) := by decide +kernel
theorem dX5_readNot_34 : decode cX5_readNot 34 = .ok (.aload_n 0, 1) := by decide +kernel
