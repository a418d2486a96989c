/-! the law's words stand in the tables -/
theorem inL_of {big ws : List Cond} (ps : List Nat) (hp : ws = ps.filterMap (fun i => big[i]?)) : ∀ w ∈ ws, w ∈ big := by
  intro w hw
  rw [hp] at hw
  obtain ⟨i, -, hi⟩ := List.mem_filterMap.mp hw
  exact List.mem_of_getElem? hi
theorem inL_ap {big a b : List Cond} (ha : ∀ w ∈ a, w ∈ big) (hb : ∀ w ∈ b, w ∈ big) : ∀ w ∈ a ++ b, w ∈ big := fun w h => (List.mem_append.mp h).elim (ha w) (hb w)
set_option maxRecDepth 100000 in
theorem in_wsL_law_r1 : ∀ w ∈ wsL_law_r1, w ∈ lw_tbl := inL_of [100, 101, 81, 1101, 1102, 93, 1645, 102, 103, 104, 105, 106, 107, 108, 110, 82, 116, 117, 83, 123, 124, 84, 130, 131] rfl
set_option maxRecDepth 100000 in
theorem in_wsL_law_r2 : ∀ w ∈ wsL_law_r2, w ∈ lw_tbl := inL_of [85, 137, 138, 86, 144, 145, 87, 151, 152, 88, 324, 325, 326, 238, 159, 89, 327, 240, 241, 90, 328, 267, 268, 91] rfl
set_option maxRecDepth 100000 in
theorem in_wsL_law_r3 : ∀ w ∈ wsL_law_r3, w ∈ lw_tbl := inL_of [329, 293, 294, 92, 330, 195, 331, 332, 333, 111, 112, 113, 114, 118, 119, 120, 121, 125, 126, 127, 128, 132, 133, 134] rfl
set_option maxRecDepth 100000 in
theorem in_wsL_law_r4 : ∀ w ∈ wsL_law_r4, w ∈ lw_tbl := inL_of [135, 139, 140, 141, 142, 146, 147, 148, 149, 153, 154, 155, 156, 220, 202, 207, 157, 219, 217, 160, 161, 162, 163, 196] rfl
set_option maxRecDepth 100000 in
theorem in_wsL_law_r5 : ∀ w ∈ wsL_law_r5, w ∈ lw_tbl := inL_of [197, 198, 199, 210, 213, 215, 239, 242, 243, 244, 245, 266, 248, 269, 270, 271, 272, 273, 274, 275, 276, 277, 292, 278] rfl
set_option maxRecDepth 100000 in
theorem in_wsL_law_r6 : ∀ w ∈ wsL_law_r6, w ∈ lw_tbl := inL_of [295, 296, 297, 298, 299, 1103, 1104, 1105, 1106, 1111, 1112, 1113, 1114, 1116, 1123, 1124, 1125, 1127, 1128, 1129, 1130, 1131, 1132, 1133] rfl
set_option maxRecDepth 100000 in
theorem in_wsL_law_r7 : ∀ w ∈ wsL_law_r7, w ∈ lw_tbl := inL_of [1107, 1109, 28, 1110, 361, 362, 363, 364, 247, 365, 366, 367, 368, 246, 370, 371, 1196, 1197, 1198, 1199, 1200, 1117, 1204, 1201] rfl
set_option maxRecDepth 100000 in
theorem in_wsL_law_r8 : ∀ w ∈ wsL_law_r8, w ∈ lw_tbl := inL_of [1202, 1203, 372, 373, 374, 375, 218, 334, 214, 376, 377, 378, 379, 380, 250, 252, 251, 381, 383, 0, 384, 249, 385, 387] rfl
set_option maxRecDepth 100000 in
theorem in_wsL_law_r9 : ∀ w ∈ wsL_law_r9, w ∈ lw_tbl := inL_of [1, 388, 389, 391, 2, 392, 393, 395, 3, 396, 206, 208, 211, 397, 399, 4, 400, 402, 404, 5, 405, 406, 407, 408] rfl
set_option maxRecDepth 100000 in
theorem in_wsL_law_r10 : ∀ w ∈ wsL_law_r10, w ∈ lw_tbl := inL_of [94, 409, 1659, 410, 411, 412, 413, 414, 1660, 416, 417, 418, 419, 420, 421, 422, 423, 424, 425, 95, 426, 427, 428, 429] rfl
set_option maxRecDepth 100000 in
theorem in_wsL_law_r11 : ∀ w ∈ wsL_law_r11, w ∈ lw_tbl := inL_of [430, 432, 433, 96, 434, 435, 436, 97, 437, 438, 439, 440, 441, 442, 443, 444, 445, 446, 447, 448, 450, 452, 459, 461] rfl
set_option maxRecDepth 100000 in
theorem in_wsL_law_r12 : ∀ w ∈ wsL_law_r12, w ∈ lw_tbl := inL_of [6, 462, 467, 469, 7, 470, 174, 176, 471, 472, 473, 474, 475, 476, 477, 478, 479, 480, 98, 481, 483, 485, 8, 486] rfl
set_option maxRecDepth 100000 in
theorem in_wsL_law_r13 : ∀ w ∈ wsL_law_r13, w ∈ lw_tbl := inL_of [488, 490, 9, 491, 492, 494, 10, 495, 496, 498, 11, 499, 501, 503, 12, 504, 506, 507, 508, 509, 164, 167, 170, 179] rfl
set_option maxRecDepth 100000 in
theorem in_wsL_law_r14 : ∀ w ∈ wsL_law_r14, w ∈ lw_tbl := inL_of [173, 175, 517, 519, 13, 520, 521, 522, 523, 524, 525, 526, 527, 528, 1205, 1206, 1207, 1208, 1120, 1122, 1118, 1119, 1126, 1209] rfl
set_option maxRecDepth 100000 in
theorem in_wsL_law_r15 : ∀ w ∈ wsL_law_r15, w ∈ lw_tbl := inL_of [1210, 1211, 1212, 1214, 29, 1215, 1121, 1216, 1218, 30, 1219, 1220, 1221, 1222, 1223, 1224, 1225, 1226, 1228, 31, 1229, 1230, 1232, 32] rfl
set_option maxRecDepth 100000 in
theorem in_wsL_law_r16 : ∀ w ∈ wsL_law_r16, w ∈ lw_tbl := inL_of [1233, 1234, 1236, 33, 1237, 1238, 1240, 34, 1241, 1242, 1244, 35, 1245, 1246, 1248, 36, 1249, 1250, 1252, 37, 1253, 1254, 1256, 38] rfl
set_option maxRecDepth 100000 in
theorem in_wsL_law_r17 : ∀ w ∈ wsL_law_r17, w ∈ lw_tbl := inL_of [1257, 1258, 1260, 39, 1261, 1262, 1264, 40, 1265, 1266, 1268, 41, 1269, 1270, 1272, 42, 1273, 1274, 1276, 43, 1277, 1278, 1280, 44] rfl
set_option maxRecDepth 100000 in
theorem in_wsL_law_r18 : ∀ w ∈ wsL_law_r18, w ∈ lw_tbl := inL_of [1281, 1282, 1284, 45, 1285, 529, 530, 531, 532, 534, 205, 533, 1286, 1287, 1288, 1289, 1290, 1291, 1292, 1293, 1295, 46, 1296, 535] rfl
set_option maxRecDepth 100000 in
theorem in_wsL_law_r19 : ∀ w ∈ wsL_law_r19, w ∈ lw_tbl := inL_of [536, 537, 538, 1297, 1298, 1299, 1300, 539, 540, 541, 542, 543, 544, 545, 546, 547, 548, 549, 550, 1301, 1302, 1303, 1304, 1305] rfl
set_option maxRecDepth 100000 in
theorem in_wsL_law_r20 : ∀ w ∈ wsL_law_r20, w ∈ lw_tbl := inL_of [1306, 1307, 1308, 551, 552, 553, 554, 555, 556, 557, 558, 559, 1309, 1310, 1311, 1312, 1313, 1315, 47, 1316, 1317, 1319, 48, 1320] rfl
set_option maxRecDepth 100000 in
theorem in_wsL_law_r21 : ∀ w ∈ wsL_law_r21, w ∈ lw_tbl := inL_of [560, 561, 562, 563, 564, 565, 566, 567, 171, 568, 569, 570, 571, 165, 572, 573, 574, 596, 572, 575, 573, 576, 577, 578] rfl
set_option maxRecDepth 100000 in
theorem in_wsL_law_r22 : ∀ w ∈ wsL_law_r22, w ∈ lw_tbl := inL_of [203, 579, 1646, 136, 580, 581, 582, 122, 583, 584, 585, 586, 587, 1647, 143, 588, 589, 204, 590, 129, 591, 592, 593, 594] rfl
set_option maxRecDepth 100000 in
theorem in_wsL_law_r23 : ∀ w ∈ wsL_law_r23, w ∈ lw_tbl := inL_of [150, 595, 597, 598, 599, 600, 601, 602, 603, 622, 601, 604, 602, 605, 606, 607, 608, 1648, 609, 610, 611, 612, 613, 614] rfl
set_option maxRecDepth 100000 in
theorem in_wsL_law_r24 : ∀ w ∈ wsL_law_r24, w ∈ lw_tbl := inL_of [615, 616, 1649, 617, 618, 619, 620, 621, 1321, 1322, 1323, 1324, 1325, 1327, 49, 1328, 1329, 1331, 50, 1332, 623, 624, 625, 626] rfl
set_option maxRecDepth 100000 in
theorem in_wsL_law_r25 : ∀ w ∈ wsL_law_r25, w ∈ lw_tbl := inL_of [166, 172, 1333, 1334, 1335, 1336, 627, 628, 629, 630, 631, 632, 633, 634, 1337, 1338, 1339, 1340, 635, 636, 637, 638, 180, 1341] rfl
set_option maxRecDepth 100000 in
theorem in_wsL_law_r26 : ∀ w ∈ wsL_law_r26, w ∈ lw_tbl := inL_of [1342, 1343, 1344, 639, 640, 641, 642, 209, 1345, 1346, 1347, 1348, 643, 644, 645, 646, 212, 647, 648, 649, 650, 1349, 1350, 1351] rfl
set_option maxRecDepth 100000 in
theorem in_wsL_law_r27 : ∀ w ∈ wsL_law_r27, w ∈ lw_tbl := inL_of [1352, 651, 652, 653, 654, 655, 656, 657, 658, 181, 1353, 1354, 1355, 1356, 1357, 1358, 1360, 51, 1361, 659, 660, 661, 662, 663] rfl
set_option maxRecDepth 100000 in
theorem in_wsL_law_r28 : ∀ w ∈ wsL_law_r28, w ∈ lw_tbl := inL_of [664, 665, 666, 667, 668, 669, 670, 177, 672, 673, 674, 675, 676, 684, 685, 682, 683, 678, 679, 680, 681, 686, 687, 688] rfl
set_option maxRecDepth 100000 in
theorem in_wsL_law_r29 : ∀ w ∈ wsL_law_r29, w ∈ lw_tbl := inL_of [689, 168, 1362, 1363, 1364, 1365, 1366, 1367, 1369, 52, 1370, 1371, 1373, 53, 1374, 1375, 1377, 54, 1378, 1379, 1381, 55, 1382, 1383] rfl
set_option maxRecDepth 100000 in
theorem in_wsL_law_r30 : ∀ w ∈ wsL_law_r30, w ∈ lw_tbl := inL_of [1384, 1385, 1386, 1387, 1388, 1389, 1390, 1391, 1392, 1394, 56, 1395, 690, 691, 692, 693, 1396, 1397, 1398, 1399, 694, 695, 696, 697] rfl
set_option maxRecDepth 100000 in
theorem in_wsL_law_r31 : ∀ w ∈ wsL_law_r31, w ∈ lw_tbl := inL_of [698, 699, 700, 701, 702, 704, 14, 705, 706, 1400, 1401, 1402, 1403, 1404, 1406, 57, 1407, 1408, 707, 708, 709, 710, 711, 713] rfl
set_option maxRecDepth 100000 in
theorem in_wsL_law_r32 : ∀ w ∈ wsL_law_r32, w ∈ lw_tbl := inL_of [15, 714, 715, 717, 16, 718, 719, 721, 17, 722, 216, 723, 724, 725, 726, 727, 728, 729, 730, 731, 1409, 1410, 1411, 1412] rfl
set_option maxRecDepth 100000 in
theorem in_wsL_law_r33 : ∀ w ∈ wsL_law_r33, w ∈ lw_tbl := inL_of [1413, 1414, 1416, 58, 1417, 1418, 1420, 59, 1421, 1422, 1423, 1424, 1425, 732, 733, 734, 735, 736, 737, 738, 739, 740, 741, 742] rfl
set_option maxRecDepth 100000 in
theorem in_wsL_law_r34 : ∀ w ∈ wsL_law_r34, w ∈ lw_tbl := inL_of [743, 744, 745, 746, 747, 748, 750, 749, 751, 752, 753, 754, 1426, 1427, 1428, 1429, 1430, 1432, 60, 1433, 1434, 1436, 61, 1437] rfl
set_option maxRecDepth 100000 in
theorem in_wsL_law_r35 : ∀ w ∈ wsL_law_r35, w ∈ lw_tbl := inL_of [755, 756, 757, 758, 169, 1438, 1439, 1440, 1441, 759, 760, 761, 762, 1442, 1443, 1444, 1445, 763, 764, 765, 766, 767, 1446, 1447] rfl
set_option maxRecDepth 100000 in
theorem in_wsL_law_r36 : ∀ w ∈ wsL_law_r36, w ∈ lw_tbl := inL_of [1448, 1449, 768, 769, 770, 771, 1450, 1451, 1452, 1453, 1454, 1456, 62, 1457, 772, 773, 774, 775, 776, 778, 18, 779, 780, 781] rfl
set_option maxRecDepth 100000 in
theorem in_wsL_law_r37 : ∀ w ∈ wsL_law_r37, w ∈ lw_tbl := inL_of [782, 1458, 1459, 1460, 1461, 1462, 1463, 1464, 1465, 1467, 63, 1468, 783, 784, 785, 786, 1469, 1470, 1471, 1472, 787, 788, 789, 790] rfl
set_option maxRecDepth 100000 in
theorem in_wsL_law_r38 : ∀ w ∈ wsL_law_r38, w ∈ lw_tbl := inL_of [1473, 1474, 1475, 1476, 791, 792, 793, 794, 795, 797, 19, 798, 799, 800, 99, 801, 802, 803, 804, 805, 807, 20, 808, 809] rfl
set_option maxRecDepth 100000 in
theorem in_wsL_law_r39 : ∀ w ∈ wsL_law_r39, w ∈ lw_tbl := inL_of [811, 21, 812, 1477, 1478, 1479, 1480, 1485, 1481, 1483, 64, 1484, 1486, 1487, 1488, 813, 814, 815, 816, 817, 819, 22, 820, 1489] rfl
set_option maxRecDepth 100000 in
theorem in_wsL_law_r40 : ∀ w ∈ wsL_law_r40, w ∈ lw_tbl := inL_of [1490, 1491, 1492, 1493, 1495, 65, 1496, 821, 822, 823, 824, 825, 826, 827, 828, 830, 831, 832, 833, 834, 835, 836, 837, 838] rfl
set_option maxRecDepth 100000 in
theorem in_wsL_law_r41 : ∀ w ∈ wsL_law_r41, w ∈ lw_tbl := inL_of [839, 841, 23, 842, 855, 843, 844, 845, 846, 847, 848, 849, 850, 851, 853, 24, 854, 1497, 1498, 1499, 1500, 1501, 1502, 1503] rfl
set_option maxRecDepth 100000 in
theorem in_wsL_law_r42 : ∀ w ∈ wsL_law_r42, w ∈ lw_tbl := inL_of [1504, 1506, 66, 1507, 856, 857, 858, 859, 866, 860, 861, 862, 863, 864, 865, 867, 868, 869, 870, 871, 872, 1508, 1509, 1510] rfl
set_option maxRecDepth 100000 in
theorem in_wsL_law_r43 : ∀ w ∈ wsL_law_r43, w ∈ lw_tbl := inL_of [1511, 1512, 1516, 1513, 1514, 1515, 1517, 1518, 1519, 873, 874, 875, 876, 1520, 1521, 1522, 1523, 877, 878, 879, 880, 881, 883, 25] rfl
set_option maxRecDepth 100000 in
theorem in_wsL_law_r44 : ∀ w ∈ wsL_law_r44, w ∈ lw_tbl := inL_of [884, 178, 1524, 1525, 1526, 1527, 1528, 885, 886, 887, 888, 889, 891, 26, 892, 1529, 1530, 1531, 1532, 1533, 1535, 67, 1536, 893] rfl
set_option maxRecDepth 100000 in
theorem in_wsL_law_r45 : ∀ w ∈ wsL_law_r45, w ∈ lw_tbl := inL_of [894, 895, 896, 1537, 1538, 1539, 1540, 897, 898, 899, 900, 1541, 1542, 1543, 1544, 901, 902, 903, 904, 905, 906, 1561, 1562, 1563] rfl
set_option maxRecDepth 100000 in
theorem in_wsL_law_r46 : ∀ w ∈ wsL_law_r46, w ∈ lw_tbl := inL_of [1564, 1557, 1559, 68, 1560, 907, 908, 909, 910, 911, 912, 913, 914, 1545, 1546, 1547, 1548, 915, 916, 917, 918, 919, 920, 921] rfl
set_option maxRecDepth 100000 in
theorem in_wsL_law_r47 : ∀ w ∈ wsL_law_r47, w ∈ lw_tbl := inL_of [922, 923, 924, 925, 1549, 1550, 1551, 1552, 926, 927, 928, 929, 1553, 1554, 1555, 1556, 930, 931, 932, 933, 934, 935, 936, 937] rfl
set_option maxRecDepth 100000 in
theorem in_wsL_law_r48 : ∀ w ∈ wsL_law_r48, w ∈ lw_tbl := inL_of [938, 939, 940, 941, 942, 944, 27, 945, 946, 947, 948, 949, 950, 951, 952, 953, 954, 955, 1565, 1566, 1567, 1568, 1569, 1570] rfl
set_option maxRecDepth 100000 in
theorem in_wsL_law_r49 : ∀ w ∈ wsL_law_r49, w ∈ lw_tbl := inL_of [1571, 956, 957, 958, 959, 960, 961, 962, 963, 964, 965, 966, 967, 968, 969, 970, 971, 972, 973, 974, 975, 108, 116, 123] rfl
set_option maxRecDepth 100000 in
theorem in_wsL_law_r50 : ∀ w ∈ wsL_law_r50, w ∈ lw_tbl := inL_of [130, 137, 144, 1572, 1573, 1574, 1575, 1576, 1577, 1578, 1580, 69, 1581, 1582, 1583, 1584, 976, 977, 978, 979, 312, 980, 981, 982] rfl
set_option maxRecDepth 100000 in
theorem in_wsL_law_r51 : ∀ w ∈ wsL_law_r51, w ∈ lw_tbl := inL_of [983, 303, 307, 301, 311, 984, 985, 986, 1010, 304, 1011, 992, 993, 994, 984, 987, 985, 988, 989, 990, 308, 991, 998, 999] rfl
set_option maxRecDepth 100000 in
theorem in_wsL_law_r52 : ∀ w ∈ wsL_law_r52, w ∈ lw_tbl := inL_of [1000, 1001, 1002, 1003, 1650, 1004, 1005, 1006, 1007, 1008, 1009, 1012, 1013, 1014, 1031, 309, 1032, 1032, 1012, 1015, 1013, 1016, 1017, 1018] rfl
set_option maxRecDepth 100000 in
theorem in_wsL_law_r53 : ∀ w ∈ wsL_law_r53, w ∈ lw_tbl := inL_of [1019, 1020, 1021, 1022, 1023, 1024, 310, 1028, 1651, 1029, 1030, 1033, 1034, 1035, 1054, 1055, 1056, 1057, 1058, 1033, 1036, 1034, 1037, 1038] rfl
set_option maxRecDepth 100000 in
theorem in_wsL_law_r54 : ∀ w ∈ wsL_law_r54, w ∈ lw_tbl := inL_of [1039, 1043, 1044, 1045, 1046, 1047, 305, 1048, 1049, 1050, 1051, 1052, 1053, 1059, 1060, 1061, 1078, 1079, 1079, 1059, 1062, 1063, 1064, 1060] rfl
set_option maxRecDepth 100000 in
theorem in_wsL_law_r55 : ∀ w ∈ wsL_law_r55, w ∈ lw_tbl := inL_of [1065, 1066, 1067, 306, 1068, 1069, 1070, 1071, 1072, 1073, 1074, 1075, 1076, 1077, 1585, 1586, 1587, 1588, 1134, 1138, 1135, 1136, 1137, 1589] rfl
set_option maxRecDepth 100000 in
theorem in_wsL_law_r56 : ∀ w ∈ wsL_law_r56, w ∈ lw_tbl := inL_of [1591, 70, 1592, 1593, 1595, 71, 1596, 1597, 1599, 72, 1600, 1601, 1603, 73, 1604, 1605, 1607, 74, 1608, 1609, 1611, 75, 1612, 1613] rfl
set_option maxRecDepth 100000 in
theorem in_wsL_law_r57 : ∀ w ∈ wsL_law_r57, w ∈ lw_tbl := inL_of [1615, 76, 1616, 1617, 1619, 77, 1620, 1621, 1623, 78, 1624, 1625, 1627, 79, 1628, 1080, 1081, 1082, 1083, 302, 300, 1629, 1630, 1631] rfl
set_option maxRecDepth 100000 in
theorem in_wsL_law_r58 : ∀ w ∈ wsL_law_r58, w ∈ lw_tbl := inL_of [1632, 1084, 1085, 1086, 1087, 1088, 1089, 1090, 1091, 1092, 1633, 1634, 1635, 1636, 1093, 1094, 1095, 1096, 335, 1637, 1638, 1639, 1640, 1115] rfl
set_option maxRecDepth 100000 in
theorem in_wsL_law_r59 : ∀ w ∈ wsL_law_r59, w ∈ lw_tbl := inL_of [1097, 1098, 1099, 1100, 1641, 1642, 1643, 1644] rfl
set_option maxRecDepth 100000 in
theorem in_wsX00 : ∀ w ∈ wsX00, w ∈ lw_tbl := inL_of [] rfl
set_option maxRecDepth 100000 in
theorem in_wsX10 : ∀ w ∈ wsX10, w ∈ lw_tbl := inL_of [221, 223, 225, 227, 229, 231, 233, 235] rfl
set_option maxRecDepth 100000 in
theorem in_wsX20 : ∀ w ∈ wsX20, w ∈ lw_tbl := inL_of [279, 281, 283, 285, 287, 289] rfl
set_option maxRecDepth 100000 in
theorem in_wsX30 : ∀ w ∈ wsX30, w ∈ lw_tbl := inL_of [] rfl
set_option maxRecDepth 100000 in
theorem in_wsX40 : ∀ w ∈ wsX40, w ∈ lw_tbl := inL_of [313, 315, 317, 319, 321] rfl
set_option maxRecDepth 100000 in
theorem in_wsX50 : ∀ w ∈ wsX50, w ∈ lw_tbl := inL_of [] rfl
set_option maxRecDepth 100000 in
theorem in_wsX60 : ∀ w ∈ wsX60, w ∈ lw_tbl := inL_of [182, 184, 186, 188, 190, 192] rfl
set_option maxRecDepth 100000 in
theorem in_wsX70 : ∀ w ∈ wsX70, w ∈ lw_tbl := inL_of [] rfl
set_option maxRecDepth 100000 in
theorem in_wsX80 : ∀ w ∈ wsX80, w ∈ lw_tbl := inL_of [253, 255, 257, 259, 261, 263] rfl
set_option maxRecDepth 100000 in
theorem in_wsX90 : ∀ w ∈ wsX90, w ∈ lw_tbl := inL_of [] rfl
set_option maxRecDepth 100000 in
theorem in_wsX100 : ∀ w ∈ wsX100, w ∈ lw_tbl := inL_of [] rfl
set_option maxRecDepth 100000 in
theorem in_wsX110 : ∀ w ∈ wsX110, w ∈ lw_tbl := inL_of [336, 338, 340, 342, 344, 346, 348, 350, 352, 354, 356, 358] rfl
set_option maxRecDepth 100000 in
theorem in_wsX120 : ∀ w ∈ wsX120, w ∈ lw_tbl := inL_of [1139, 1141, 1143, 1145, 1147, 1149, 1151, 1153, 1155, 1157, 1159, 1161, 1163, 1165, 1167, 1169, 1171, 1173, 1175, 1177, 1179, 1181, 1183, 1185, 1187, 1189, 1191, 1193] rfl
set_option maxRecDepth 100000 in
theorem in_wBX : ∀ w ∈ wBX, w ∈ lw_tbl := inL_of [1040, 1041, 136, 995, 996, 1025, 1026, 143, 122, 129] rfl
set_option maxRecDepth 100000 in
theorem wsL_law_in : ∀ w ∈ wsL_law, w ∈ lw_tbl := inL_ap (inL_ap (inL_ap (inL_ap (inL_ap (inL_ap (inL_ap (inL_ap (inL_ap (inL_ap (inL_ap (inL_ap (inL_ap (inL_ap (inL_ap in_wsL_law_r1 (inL_ap in_wsL_law_r2 (inL_ap in_wsL_law_r3 (inL_ap in_wsL_law_r4 (inL_ap in_wsL_law_r5 (inL_ap in_wsL_law_r6 (inL_ap in_wsL_law_r7 (inL_ap in_wsL_law_r8 (inL_ap in_wsL_law_r9 (inL_ap in_wsL_law_r10 (inL_ap in_wsL_law_r11 (inL_ap in_wsL_law_r12 (inL_ap in_wsL_law_r13 (inL_ap in_wsL_law_r14 (inL_ap in_wsL_law_r15 (inL_ap in_wsL_law_r16 (inL_ap in_wsL_law_r17 (inL_ap in_wsL_law_r18 (inL_ap in_wsL_law_r19 (inL_ap in_wsL_law_r20 (inL_ap in_wsL_law_r21 (inL_ap in_wsL_law_r22 (inL_ap in_wsL_law_r23 (inL_ap in_wsL_law_r24 (inL_ap in_wsL_law_r25 (inL_ap in_wsL_law_r26 (inL_ap in_wsL_law_r27 (inL_ap in_wsL_law_r28 (inL_ap in_wsL_law_r29 (inL_ap in_wsL_law_r30 (inL_ap in_wsL_law_r31 (inL_ap in_wsL_law_r32 (inL_ap in_wsL_law_r33 (inL_ap in_wsL_law_r34 (inL_ap in_wsL_law_r35 (inL_ap in_wsL_law_r36 (inL_ap in_wsL_law_r37 (inL_ap in_wsL_law_r38 (inL_ap in_wsL_law_r39 (inL_ap in_wsL_law_r40 (inL_ap in_wsL_law_r41 (inL_ap in_wsL_law_r42 (inL_ap in_wsL_law_r43 (inL_ap in_wsL_law_r44 (inL_ap in_wsL_law_r45 (inL_ap in_wsL_law_r46 (inL_ap in_wsL_law_r47 (inL_ap in_wsL_law_r48 (inL_ap in_wsL_law_r49 (inL_ap in_wsL_law_r50 (inL_ap in_wsL_law_r51 (inL_ap in_wsL_law_r52 (inL_ap in_wsL_law_r53 (inL_ap in_wsL_law_r54 (inL_ap in_wsL_law_r55 (inL_ap in_wsL_law_r56 (inL_ap in_wsL_law_r57 (inL_ap in_wsL_law_r58 (in_wsL_law_r59))))))))))))))))))))))))))))))))))))))))))))))))))))))))))) in_wsX110) in_wsX120) in_wsX00) in_wsX50) in_wsX100) in_wsX30) in_wsX70) in_wsX90) in_wsX10) in_wsX60) in_wsX80) in_wsX20) in_wsX40) (fun _ h => absurd h List.not_mem_nil)
