set_option maxRecDepth 20000 in
theorem ggL_law_X12_judge : GoodIn wsL_law wsX12_judge := goodIn_r _ [1070, 129, 131, 334, 136, 472, 473, 474, 5, 475, 335, 336, 337, 683, 684, 685, 686, 687, 688, 689, 690, 476, 477, 478, 479, 568, 569, 570, 571, 691, 692, 693, 694, 564, 565, 566, 567, 695, 696, 697, 698, 699, 700, 701, 702, 703, 773, 774, 775, 776, 777, 778, 779, 1412, 1413, 1414, 1415, 1416, 1417, 1418, 1419, 1420, 1421, 1422, 1423, 1424, 1425, 1426, 1427, 1428, 1429, 1430, 1431, 1432, 1433, 1434, 1435, 1436, 1437, 1438, 1439] (by decide +kernel) (by decide +kernel)
set_option maxRecDepth 20000 in
theorem gL_law_X12_judge : GoodIn wsL_law (wsV RL 158 RX12 yX12_judge wsX12_judge) := goodIn_app (goodIn_of _ (by decide +kernel)) ggL_law_X12_judge
set_option maxRecDepth 20000 in
theorem ggL_law_X11_minds : GoodIn wsL_law wsX11_minds := goodIn_r _ [1074, 48, 34, 176, 820, 947, 948, 949, 47, 950, 158, 2, 159, 463, 277, 278, 33, 279, 100, 280, 281, 282, 283, 89, 419, 951, 952, 953, 954, 955, 956, 957, 958, 113, 959, 1075, 965, 966, 967, 968, 114, 969, 970, 971, 972, 119, 973, 974, 975, 976, 1076, 665, 666, 667, 668, 663, 664, 1400, 1401, 1402, 1403, 1404, 1405, 1406, 1407, 1408, 1409, 1410, 1411, 1440, 1441, 1442, 1443, 1444, 1445, 1446, 1447, 1448, 1449, 1450, 1451, 1452, 1453, 1460, 1461, 1462, 1463, 1464, 1465] (by decide +kernel) (by decide +kernel)
set_option maxRecDepth 20000 in
theorem gL_law_X11_minds : GoodIn wsL_law (wsV RL 159 RX11 yX11_minds wsX11_minds) := goodIn_app (goodIn_of _ (by decide +kernel)) ggL_law_X11_minds
set_option maxRecDepth 20000 in
theorem ggL_law_X12_minds : GoodIn wsL_law wsX12_minds := goodIn_r _ [1080, 164, 129, 138, 139, 981, 982, 5, 983, 424, 167, 168, 169, 472, 473, 474, 475, 1081, 1082, 1083, 1084, 137, 701, 702, 703, 1412, 1413, 1414, 1415, 1416, 1417, 1418, 1419, 1420, 1421, 1422, 1423, 1424, 1425, 1426, 1427, 1428, 1429, 1430, 1431, 1432, 1433, 1434, 1435, 1436, 1437, 1438, 1439] (by decide +kernel) (by decide +kernel)
set_option maxRecDepth 20000 in
theorem gL_law_X12_minds : GoodIn wsL_law (wsV RL 162 RX12 yX12_minds wsX12_minds) := goodIn_app (goodIn_of _ (by decide +kernel)) ggL_law_X12_minds
set_option maxRecDepth 20000 in
theorem ggL_law_X11_sheet : GoodIn wsL_law wsX11_sheet := goodIn_r _ [1088, 48, 947, 948, 949, 47, 950, 158, 2, 159, 1089, 1090, 1091, 1092, 113, 114, 119, 959, 1400, 1401, 1402, 1403, 1404, 1405, 1406, 1407, 1408, 1409, 1410, 1411, 1460, 1461, 1462, 1463, 1464, 1465] (by decide +kernel) (by decide +kernel)
set_option maxRecDepth 20000 in
theorem gL_law_X11_sheet : GoodIn wsL_law (wsV RL 163 RX11 yX11_sheet wsX11_sheet) := goodIn_app (goodIn_of _ (by decide +kernel)) ggL_law_X11_sheet
set_option maxRecDepth 20000 in
theorem ggL_law_X12_sheet : GoodIn wsL_law wsX12_sheet := goodIn_r _ [1096, 1009, 424, 137, 138, 139, 981, 982, 5, 983, 167, 168, 169, 1412, 1413, 1414, 1415, 1416, 1417, 1418, 1419, 1420, 1421, 1422, 1423, 1424, 1425, 1426, 1427, 1428, 1429, 1430, 1431, 1432, 1433, 1434, 1435, 1436, 1437, 1438, 1439] (by decide +kernel) (by decide +kernel)
set_option maxRecDepth 20000 in
theorem gL_law_X12_sheet : GoodIn wsL_law (wsV RL 166 RX12 yX12_sheet wsX12_sheet) := goodIn_app (goodIn_of _ (by decide +kernel)) ggL_law_X12_sheet
set_option maxRecDepth 20000 in
theorem ggL_law_X11_put : GoodIn wsL_law wsX11_put := goodIn_r _ [1100, 48, 947, 948, 949, 47, 950, 158, 2, 159, 951, 952, 953, 954, 955, 956, 957, 958, 113, 959, 1101, 1102, 1103, 1104, 119, 973, 974, 975, 976, 114, 1105, 1106, 1107, 1400, 1401, 1402, 1403, 1404, 1405, 1406, 1407, 1408, 1409, 1410, 1411, 1460, 1461, 1462, 1463, 1464, 1465] (by decide +kernel) (by decide +kernel)
set_option maxRecDepth 20000 in
theorem gL_law_X11_put : GoodIn wsL_law (wsV RL 167 RX11 yX11_put wsX11_put) := goodIn_app (goodIn_of _ (by decide +kernel)) ggL_law_X11_put
set_option maxRecDepth 20000 in
theorem ggL_law_X12_put : GoodIn wsL_law wsX12_put := goodIn_r _ [1111, 137, 138, 139, 981, 982, 5, 983, 424, 167, 168, 169, 1412, 1413, 1414, 1415, 1416, 1417, 1418, 1419, 1420, 1421, 1422, 1423, 1424, 1425, 1426, 1427, 1428, 1429, 1430, 1431, 1432, 1433, 1434, 1435, 1436, 1437, 1438, 1439] (by decide +kernel) (by decide +kernel)
set_option maxRecDepth 20000 in
theorem gL_law_X12_put : GoodIn wsL_law (wsV RL 170 RX12 yX12_put wsX12_put) := goodIn_app (goodIn_of _ (by decide +kernel)) ggL_law_X12_put
set_option maxRecDepth 20000 in
theorem ggL_law_X11_item : GoodIn wsL_law wsX11_item := goodIn_r _ [1115, 48, 947, 948, 949, 47, 950, 158, 2, 159, 419, 951, 952, 953, 954, 955, 956, 957, 958, 113, 959, 1075, 965, 966, 967, 968, 114, 969, 970, 971, 972, 119, 973, 974, 975, 976, 1400, 1401, 1402, 1403, 1404, 1405, 1406, 1407, 1408, 1409, 1410, 1411, 1460, 1461, 1462, 1463, 1464, 1465] (by decide +kernel) (by decide +kernel)
set_option maxRecDepth 20000 in
theorem gL_law_X11_item : GoodIn wsL_law (wsV RL 171 RX11 yX11_item wsX11_item) := goodIn_app (goodIn_of _ (by decide +kernel)) ggL_law_X11_item
set_option maxRecDepth 20000 in
theorem ggL_law_X12_item : GoodIn wsL_law wsX12_item := goodIn_r _ [1119, 424, 138, 139, 981, 982, 5, 983, 167, 168, 169, 1081, 1082, 1083, 1084, 137, 1412, 1413, 1414, 1415, 1416, 1417, 1418, 1419, 1420, 1421, 1422, 1423, 1424, 1425, 1426, 1427, 1428, 1429, 1430, 1431, 1432, 1433, 1434, 1435, 1436, 1437, 1438, 1439] (by decide +kernel) (by decide +kernel)
set_option maxRecDepth 20000 in
theorem gL_law_X12_item : GoodIn wsL_law (wsV RL 174 RX12 yX12_item wsX12_item) := goodIn_app (goodIn_of _ (by decide +kernel)) ggL_law_X12_item
set_option maxRecDepth 20000 in
theorem ggL_law_X11_shelf : GoodIn wsL_law wsX11_shelf := goodIn_r _ [1123, 48, 34, 1124, 1125, 1126, 47, 1127, 158, 2, 159, 463, 277, 278, 33, 279, 100, 280, 281, 282, 283, 89, 1128, 1129, 1130, 1131, 1132, 1133, 1134, 1135, 117, 115, 116, 1136, 947, 948, 949, 950, 1137, 1138, 1139, 1140, 955, 956, 957, 958, 113, 959, 1141, 966, 967, 968, 114, 1142, 1143, 1144, 1145, 1400, 1401, 1402, 1403, 1404, 1405, 1406, 1407, 1408, 1409, 1410, 1411, 1440, 1441, 1442, 1443, 1444, 1445, 1446, 1447, 1460, 1461, 1462, 1463, 1464, 1465] (by decide +kernel) (by decide +kernel)
set_option maxRecDepth 20000 in
theorem gL_law_X11_shelf : GoodIn wsL_law (wsV RL 175 RX11 yX11_shelf wsX11_shelf) := goodIn_app (goodIn_of _ (by decide +kernel)) ggL_law_X11_shelf
set_option maxRecDepth 20000 in
theorem ggL_law_X12_shelf : GoodIn wsL_law wsX12_shelf := goodIn_r _ [1149, 638, 137, 140, 141, 142, 138, 1150, 1151, 5, 1152, 424, 167, 168, 169, 472, 473, 474, 475, 129, 981, 982, 983, 1412, 1413, 1414, 1415, 1416, 1417, 1418, 1419, 1420, 1421, 1422, 1423, 1424, 1425, 1426, 1427, 1428, 1429, 1430, 1431, 1432, 1433, 1434, 1435, 1436, 1437, 1438, 1439] (by decide +kernel) (by decide +kernel)
set_option maxRecDepth 20000 in
theorem gL_law_X12_shelf : GoodIn wsL_law (wsV RL 178 RX12 yX12_shelf wsX12_shelf) := goodIn_app (goodIn_of _ (by decide +kernel)) ggL_law_X12_shelf
set_option maxRecDepth 20000 in
theorem ggL_law_X11_taken : GoodIn wsL_law wsX11_taken := goodIn_r _ [1156, 48, 34, 1124, 1125, 1126, 47, 1127, 158, 2, 159, 419, 1157, 1158, 1159, 1160, 115, 1136, 1161, 1162, 1163, 1164, 116, 1165, 1166, 1167, 1168, 117, 463, 277, 278, 33, 279, 100, 280, 281, 282, 283, 89, 1169, 490, 491, 492, 85, 493, 1170, 1171, 1172, 1173, 1174, 1175, 1176, 1177, 1178, 1400, 1401, 1402, 1403, 1404, 1405, 1406, 1407, 1408, 1409, 1410, 1411, 1460, 1461, 1462, 1463, 1464, 1465, 1440, 1441, 1442, 1443, 1444, 1445, 1446, 1447, 1448, 1449, 1450, 1451, 1452, 1453] (by decide +kernel) (by decide +kernel)
set_option maxRecDepth 20000 in
theorem gL_law_X11_taken : GoodIn wsL_law (wsV RL 179 RX11 yX11_taken wsX11_taken) := goodIn_app (goodIn_of _ (by decide +kernel)) ggL_law_X11_taken
set_option maxRecDepth 20000 in
theorem ggL_law_X12_taken : GoodIn wsL_law wsX12_taken := goodIn_r _ [1182, 1183, 1184, 426, 141, 142, 1150, 1151, 5, 1152, 424, 167, 168, 169, 1185, 1186, 1187, 1188, 140, 472, 473, 474, 475, 129, 476, 477, 478, 479, 1189, 1190, 1191, 1412, 1413, 1414, 1415, 1416, 1417, 1418, 1419, 1420, 1421, 1422, 1423, 1424, 1425, 1426, 1427, 1428, 1429, 1430, 1431, 1432, 1433, 1434, 1435, 1436, 1437, 1438, 1439] (by decide +kernel) (by decide +kernel)
set_option maxRecDepth 20000 in
theorem gL_law_X12_taken : GoodIn wsL_law (wsV RL 182 RX12 yX12_taken wsX12_taken) := goodIn_app (goodIn_of _ (by decide +kernel)) ggL_law_X12_taken
set_option maxRecDepth 20000 in
theorem ggL_law_X11_act : GoodIn wsL_law wsX11_act := goodIn_r _ [1195, 48, 34, 52, 598, 1196, 1165, 1166, 1167, 47, 1168, 117, 1136, 1125, 1126, 1127, 158, 2, 159, 463, 277, 278, 33, 279, 100, 280, 281, 282, 283, 89, 1197, 1198, 1199, 51, 1200, 1201, 1202, 1203, 1204, 1169, 490, 491, 492, 85, 493, 1205, 1206, 1207, 15, 1208, 1209, 1210, 1211, 1212, 1213, 124, 1214, 1215, 1216, 1217, 1218, 24, 1219, 1220, 1221, 1222, 1223, 1224, 27, 1225, 1226, 1227, 1228, 518, 1229, 21, 1230, 1231, 1232, 523, 1233, 1234, 1235, 1236, 1237, 1238, 1239, 1240, 1241, 1242, 1243, 1244, 1245, 1246, 18, 1247, 1248, 1249, 511, 1250, 1251, 1252, 1253, 1254, 1255, 1256, 1257, 1258, 1259, 1260, 1261, 1262, 1263, 1264, 1265, 1266, 1267, 1268, 1269, 1270, 1271, 1272, 1273, 1274, 1275, 1276, 30, 1277, 1278, 1279, 1280, 528, 1281, 1282, 1283, 1284, 1285, 1286, 1287, 1288, 1289, 1290, 1291, 1292, 1293, 1294, 1295, 1296, 1297, 1298, 1299, 1300, 1301, 1302, 1303, 1304, 1305, 1306, 1307, 1308, 1309, 1400, 1401, 1402, 1403, 1404, 1405, 1406, 1407, 1408, 1409, 1410, 1411, 1448, 1449, 1450, 1451, 1452, 1453, 1466, 1467, 1468, 1469, 1470, 1460, 1461, 1462, 1463, 1464, 1465, 1440, 1441, 1442, 1443, 1444, 1445, 1446, 1447] (by decide +kernel) (by decide +kernel)
set_option maxRecDepth 20000 in
theorem gL_law_X11_act : GoodIn wsL_law (wsV RL 183 RX11 yX11_act wsX11_act) := goodIn_app (goodIn_of _ (by decide +kernel)) ggL_law_X11_act
set_option maxRecDepth 20000 in
theorem ggL_law_X12_act : GoodIn wsL_law wsX12_act := goodIn_r _ [1313, 1314, 424, 1315, 141, 1316, 1317, 1318, 1150, 1151, 5, 1152, 167, 168, 169, 1185, 1186, 1187, 1188, 140, 472, 473, 474, 475, 129, 476, 477, 478, 479, 1319, 1320, 1321, 1322, 1323, 1324, 1325, 1326, 1327, 1328, 1329, 1330, 143, 1331, 1332, 1333, 1334, 1335, 1336, 1337, 1338, 1339, 1340, 1341, 1342, 1343, 1344, 1345, 1346, 1347, 1348, 1349, 1350, 1351, 1352, 1353, 1354, 1355, 1356, 1357, 1358, 1412, 1413, 1414, 1415, 1416, 1417, 1418, 1419, 1420, 1421, 1422, 1423, 1424, 1425, 1426, 1427, 1428, 1429, 1430, 1431, 1432, 1433, 1434, 1435, 1436, 1437, 1438, 1439] (by decide +kernel) (by decide +kernel)
set_option maxRecDepth 20000 in
theorem gL_law_X12_act : GoodIn wsL_law (wsV RL 186 RX12 yX12_act wsX12_act) := goodIn_app (goodIn_of _ (by decide +kernel)) ggL_law_X12_act
set_option maxRecDepth 20000 in
theorem ggL_law_X11_trace : GoodIn wsL_law wsX11_trace := goodIn_r _ [1362, 52, 1363, 1364, 419, 158, 2, 159, 1400, 1401, 1402, 1403, 1404, 1405, 1406, 1407, 1408, 1409, 1410, 1411, 1466, 1467, 1468, 1469, 1470] (by decide +kernel) (by decide +kernel)
set_option maxRecDepth 20000 in
theorem gL_law_X11_trace : GoodIn wsL_law (wsV RL 187 RX11 yX11_trace wsX11_trace) := goodIn_app (goodIn_of _ (by decide +kernel)) ggL_law_X11_trace
set_option maxRecDepth 20000 in
theorem ggL_law_X12_trace : GoodIn wsL_law wsX12_trace := goodIn_r _ [1368, 1314, 143, 167, 168, 5, 169, 1412, 1413, 1414, 1415, 1416, 1417, 1418, 1419, 1420, 1421, 1422, 1423, 1424, 1425, 1426, 1427, 1428, 1429, 1430, 1431, 1432, 1433, 1434, 1435, 1436, 1437, 1438, 1439] (by decide +kernel) (by decide +kernel)
set_option maxRecDepth 20000 in
theorem gL_law_X12_trace : GoodIn wsL_law (wsV RL 190 RX12 yX12_trace wsX12_trace) := goodIn_app (goodIn_of _ (by decide +kernel)) ggL_law_X12_trace
set_option maxRecDepth 20000 in
theorem ggL_law_X11_many : GoodIn wsL_law wsX11_many := goodIn_r _ [1372, 34, 176, 616, 175, 44, 152, 52, 1363, 790, 791, 792, 33, 793, 100, 794, 795, 796, 797, 655, 798, 663, 282, 664, 276, 277, 278, 279, 280, 281, 283, 89, 158, 2, 159, 799, 531, 532, 533, 488, 489, 490, 491, 492, 85, 493, 534, 535, 536, 15, 537, 538, 539, 540, 541, 542, 24, 543, 504, 544, 545, 507, 546, 18, 547, 548, 511, 549, 550, 551, 27, 552, 553, 554, 518, 555, 21, 556, 557, 523, 558, 559, 900, 901, 902, 903, 904, 905, 906, 1373, 1374, 1375, 1376, 1377, 630, 631, 632, 633, 1400, 1401, 1402, 1403, 1404, 1405, 1406, 1407, 1408, 1409, 1410, 1411, 1440, 1441, 1442, 1443, 1444, 1445, 1446, 1447, 1454, 1455, 1456, 1457, 1458, 1459, 1466, 1467, 1468, 1469, 1470, 1448, 1449, 1450, 1451, 1452, 1453] (by decide +kernel) (by decide +kernel)
set_option maxRecDepth 20000 in
theorem gL_law_X11_many : GoodIn wsL_law (wsV RL 191 RX11 yX11_many wsX11_many) := goodIn_app (goodIn_of _ (by decide +kernel)) ggL_law_X11_many
set_option maxRecDepth 20000 in
theorem ggL_law_X12_many : GoodIn wsL_law wsX12_many := goodIn_r _ [1381, 129, 334, 165, 1314, 808, 809, 810, 5, 811, 687, 688, 689, 690, 476, 477, 478, 479, 568, 569, 570, 571, 924, 925, 926, 639, 640, 641, 642, 1412, 1413, 1414, 1415, 1416, 1417, 1418, 1419, 1420, 1421, 1422, 1423, 1424, 1425, 1426, 1427, 1428, 1429, 1430, 1431, 1432, 1433, 1434, 1435, 1436, 1437, 1438, 1439] (by decide +kernel) (by decide +kernel)
set_option maxRecDepth 20000 in
theorem gL_law_X12_many : GoodIn wsL_law (wsV RL 194 RX12 yX12_many wsX12_many) := goodIn_app (goodIn_of _ (by decide +kernel)) ggL_law_X12_many
set_option maxRecDepth 20000 in
theorem ggL_law_X11_keep : GoodIn wsL_law wsX11_keep := goodIn_r _ [1385, 35, 34, 1386, 318, 319, 320, 33, 321, 86, 87, 89, 99, 100, 101, 90, 322, 323, 324, 39, 325, 308, 309, 310, 312, 313, 311, 1400, 1401, 1402, 1403, 1404, 1405, 1406, 1407, 1408, 1409, 1410, 1411, 1440, 1441, 1442, 1443, 1444, 1445, 1446, 1447, 1448, 1449, 1450, 1451, 1452, 1453] (by decide +kernel) (by decide +kernel)
set_option maxRecDepth 20000 in
theorem gL_law_X11_keep : GoodIn wsL_law (wsV RL 195 RX11 yX11_keep wsX11_keep) := goodIn_app (goodIn_of _ (by decide +kernel)) ggL_law_X11_keep
set_option maxRecDepth 20000 in
theorem ggL_law_X12_keep : GoodIn wsL_law wsX12_keep := goodIn_r _ [1390, 130, 129, 1391, 1412, 1413, 1414, 1415, 1416, 1417, 1418, 1419, 1420, 1421, 1422, 1423, 1424, 1425, 1426, 1427, 1428, 1429, 1430, 1431, 1432, 1433, 1434, 1435, 1436, 1437, 1438, 1439] (by decide +kernel) (by decide +kernel)
set_option maxRecDepth 20000 in
theorem gL_law_X12_keep : GoodIn wsL_law (wsV RL 198 RX12 yX12_keep wsX12_keep) := goodIn_app (goodIn_of _ (by decide +kernel)) ggL_law_X12_keep
set_option maxRecDepth 20000 in
theorem ggL_law_X11_again : GoodIn wsL_law wsX11_again := goodIn_r _ [1395, 1386, 34, 35, 176, 318, 319, 320, 33, 321, 86, 87, 89, 99, 100, 101, 90, 322, 323, 324, 39, 325, 308, 309, 310, 312, 313, 311, 1400, 1401, 1402, 1403, 1404, 1405, 1406, 1407, 1408, 1409, 1410, 1411, 1440, 1441, 1442, 1443, 1444, 1445, 1446, 1447, 1448, 1449, 1450, 1451, 1452, 1453] (by decide +kernel) (by decide +kernel)
set_option maxRecDepth 20000 in
theorem gL_law_X11_again : GoodIn wsL_law (wsV RL 199 RX11 yX11_again wsX11_again) := goodIn_app (goodIn_of _ (by decide +kernel)) ggL_law_X11_again
set_option maxRecDepth 20000 in
theorem ggL_law_X12_again : GoodIn wsL_law wsX12_again := goodIn_r _ [1399, 1391, 129, 130, 1412, 1413, 1414, 1415, 1416, 1417, 1418, 1419, 1420, 1421, 1422, 1423, 1424, 1425, 1426, 1427, 1428, 1429, 1430, 1431, 1432, 1433, 1434, 1435, 1436, 1437, 1438, 1439] (by decide +kernel) (by decide +kernel)
set_option maxRecDepth 20000 in
theorem gL_law_X12_again : GoodIn wsL_law (wsV RL 202 RX12 yX12_again wsX12_again) := goodIn_app (goodIn_of _ (by decide +kernel)) ggL_law_X12_again
