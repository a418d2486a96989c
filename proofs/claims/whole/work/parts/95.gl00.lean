set_option maxRecDepth 20000 in
theorem ggL_law_X11_init : GoodIn wsL_law wsX11_init := goodIn_r _ [9, 10, 11, 12, 13, 14, 15, 16, 17, 18, 19, 20, 21, 22, 23, 24, 25, 26, 27, 28, 29, 30, 31, 32, 33, 34, 35, 36, 37, 38, 39, 40, 41, 42, 43, 44, 45, 46, 47, 48, 49, 50, 51, 52, 53, 54, 55, 56, 57, 58, 59, 60, 61, 62, 63, 64, 65, 66, 67, 68, 69, 70, 71, 72, 73, 74, 75, 76, 77, 78, 79, 80, 81, 82, 83, 84, 85, 86, 87, 88, 89, 90, 91, 92, 93, 94, 95, 96, 97, 98, 99, 100, 101, 102, 103, 104, 105, 106, 107, 108, 109, 110, 111, 112, 113, 114, 115, 116, 117, 118, 119, 120, 121, 122, 123, 124, 1440, 1441, 1442, 1443, 1444, 1445, 1446, 1447, 1400, 1401, 1402, 1403, 1404, 1405, 1406, 1407, 1408, 1409, 1410, 1411, 1448, 1449, 1450, 1451, 1452, 1453, 1454, 1455, 1456, 1457, 1458, 1459, 1460, 1461, 1462, 1463, 1464, 1465, 1466, 1467, 1468, 1469, 1470] (by decide +kernel) (by decide +kernel)
set_option maxRecDepth 20000 in
theorem gL_law_X11_init : GoodIn wsL_law (wsX11_init) := ggL_law_X11_init
set_option maxRecDepth 20000 in
theorem ggL_law_X12_init : GoodIn wsL_law wsX12_init := goodIn_r _ [127, 128, 11, 12, 53, 129, 130, 131, 132, 133, 134, 135, 136, 137, 138, 139, 140, 141, 142, 143, 144, 145, 146, 5, 147, 1412, 1413, 1414, 1415, 1416, 1417, 1418, 1419, 1420, 1421, 1422, 1423, 1424, 1425, 1426, 1427, 1428, 1429, 1430, 1431, 1432, 1433, 1434, 1435, 1436, 1437, 1438, 1439] (by decide +kernel) (by decide +kernel)
set_option maxRecDepth 20000 in
theorem gL_law_X12_init : GoodIn wsL_law (wsX12_init) := ggL_law_X12_init
set_option maxRecDepth 20000 in
theorem ggL_law_X11_feed : GoodIn wsL_law wsX11_feed := goodIn_r _ [151, 44, 152, 153, 154, 155, 43, 156, 157, 108, 158, 2, 159, 1400, 1401, 1402, 1403, 1404, 1405, 1406, 1407, 1408, 1409, 1410, 1411, 1454, 1455, 1456, 1457, 1458, 1459] (by decide +kernel) (by decide +kernel)
set_option maxRecDepth 20000 in
theorem gL_law_X11_feed : GoodIn wsL_law (wsV RL 15 RX11 yX11_feed wsX11_feed) := goodIn_app (goodIn_of _ (by decide +kernel)) ggL_law_X11_feed
set_option maxRecDepth 20000 in
theorem ggL_law_X12_feed : GoodIn wsL_law wsX12_feed := goodIn_r _ [163, 164, 165, 133, 166, 167, 168, 5, 169, 1412, 1413, 1414, 1415, 1416, 1417, 1418, 1419, 1420, 1421, 1422, 1423, 1424, 1425, 1426, 1427, 1428, 1429, 1430, 1431, 1432, 1433, 1434, 1435, 1436, 1437, 1438, 1439] (by decide +kernel) (by decide +kernel)
set_option maxRecDepth 20000 in
theorem gL_law_X12_feed : GoodIn wsL_law (wsV RL 19 RX12 yX12_feed wsX12_feed) := goodIn_app (goodIn_of _ (by decide +kernel)) ggL_law_X12_feed
set_option maxRecDepth 20000 in
theorem ggL_law_X11_church : GoodIn wsL_law wsX11_church := goodIn_r _ [173, 36, 34, 174, 44, 152, 175, 176, 177, 96, 97, 33, 98, 86, 87, 99, 100, 101, 178, 179, 180, 43, 181, 182, 183, 184, 185, 186, 187, 188, 189, 190, 191, 192, 193, 157, 108, 194, 195, 196, 197, 198, 199, 200, 201, 202, 203, 204, 205, 206, 207, 208, 209, 210, 211, 212, 213, 214, 215, 216, 217, 218, 219, 220, 221, 222, 223, 224, 225, 226, 227, 228, 229, 230, 231, 232, 233, 234, 235, 236, 237, 238, 239, 240, 241, 242, 243, 244, 245, 246, 247, 248, 249, 250, 251, 252, 253, 254, 255, 256, 257, 258, 259, 260, 261, 262, 263, 264, 265, 266, 267, 268, 269, 270, 271, 272, 273, 274, 275, 276, 277, 278, 279, 280, 281, 282, 283, 89, 158, 2, 159, 284, 285, 286, 287, 288, 289, 290, 291, 292, 293, 294, 295, 296, 297, 298, 299, 300, 301, 302, 303, 304, 305, 306, 39, 307, 308, 309, 310, 311, 312, 313, 314, 315, 316, 317, 318, 319, 320, 321, 90, 322, 323, 324, 325, 1400, 1401, 1402, 1403, 1404, 1405, 1406, 1407, 1408, 1409, 1410, 1411, 1440, 1441, 1442, 1443, 1444, 1445, 1446, 1447, 1454, 1455, 1456, 1457, 1458, 1459, 1448, 1449, 1450, 1451, 1452, 1453] (by decide +kernel) (by decide +kernel)
set_option maxRecDepth 20000 in
theorem gL_law_X11_church : GoodIn wsL_law (wsV RL 20 RX11 yX11_church wsX11_church) := goodIn_app (goodIn_of _ (by decide +kernel)) ggL_law_X11_church
set_option maxRecDepth 20000 in
theorem ggL_law_X12_church : GoodIn wsL_law wsX12_church := goodIn_r _ [329, 129, 132, 330, 331, 332, 165, 333, 334, 335, 336, 5, 337, 144, 145, 146, 147, 338, 339, 340, 341, 342, 343, 344, 345, 346, 133, 347, 348, 349, 350, 351, 352, 353, 354, 355, 356, 357, 358, 359, 360, 361, 362, 363, 364, 365, 366, 367, 368, 369, 370, 371, 372, 373, 374, 375, 376, 377, 378, 379, 380, 381, 382, 383, 384, 385, 386, 387, 388, 389, 390, 391, 392, 393, 394, 395, 396, 397, 398, 399, 400, 401, 402, 403, 404, 405, 406, 407, 408, 409, 410, 411, 412, 1412, 1413, 1414, 1415, 1416, 1417, 1418, 1419, 1420, 1421, 1422, 1423, 1424, 1425, 1426, 1427, 1428, 1429, 1430, 1431, 1432, 1433, 1434, 1435, 1436, 1437, 1438, 1439] (by decide +kernel) (by decide +kernel)
set_option maxRecDepth 20000 in
theorem gL_law_X12_church : GoodIn wsL_law (wsV RL 24 RX12 yX12_church wsX12_church) := goodIn_app (goodIn_of _ (by decide +kernel)) ggL_law_X12_church
set_option maxRecDepth 20000 in
theorem ggL_law_X11_set : GoodIn wsL_law wsX11_set := goodIn_r _ [416, 417, 34, 418, 419, 158, 2, 159, 1400, 1401, 1402, 1403, 1404, 1405, 1406, 1407, 1408, 1409, 1410, 1411, 1440, 1441, 1442, 1443, 1444, 1445, 1446, 1447] (by decide +kernel) (by decide +kernel)
set_option maxRecDepth 20000 in
theorem gL_law_X11_set : GoodIn wsL_law (wsV RL 25 RX11 yX11_set wsX11_set) := goodIn_app (goodIn_of _ (by decide +kernel)) ggL_law_X11_set
set_option maxRecDepth 20000 in
theorem ggL_law_X12_set : GoodIn wsL_law wsX12_set := goodIn_r _ [423, 424, 425, 426, 167, 168, 5, 169, 427, 428, 429, 430, 129, 1412, 1413, 1414, 1415, 1416, 1417, 1418, 1419, 1420, 1421, 1422, 1423, 1424, 1425, 1426, 1427, 1428, 1429, 1430, 1431, 1432, 1433, 1434, 1435, 1436, 1437, 1438, 1439] (by decide +kernel) (by decide +kernel)
set_option maxRecDepth 20000 in
theorem gL_law_X12_set : GoodIn wsL_law (wsV RL 29 RX12 yX12_set wsX12_set) := goodIn_app (goodIn_of _ (by decide +kernel)) ggL_law_X12_set
set_option maxRecDepth 20000 in
theorem ggL_law_X11_lawOf : GoodIn wsL_law wsX11_lawOf := goodIn_r _ [434, 34, 418, 419, 158, 2, 159, 1400, 1401, 1402, 1403, 1404, 1405, 1406, 1407, 1408, 1409, 1410, 1411, 1440, 1441, 1442, 1443, 1444, 1445, 1446, 1447] (by decide +kernel) (by decide +kernel)
set_option maxRecDepth 20000 in
theorem gL_law_X11_lawOf : GoodIn wsL_law (wsV RL 30 RX11 yX11_lawOf wsX11_lawOf) := goodIn_app (goodIn_of _ (by decide +kernel)) ggL_law_X11_lawOf
set_option maxRecDepth 20000 in
theorem ggL_law_X12_lawOf : GoodIn wsL_law wsX12_lawOf := goodIn_r _ [438, 424, 129, 167, 168, 5, 169, 1412, 1413, 1414, 1415, 1416, 1417, 1418, 1419, 1420, 1421, 1422, 1423, 1424, 1425, 1426, 1427, 1428, 1429, 1430, 1431, 1432, 1433, 1434, 1435, 1436, 1437, 1438, 1439] (by decide +kernel) (by decide +kernel)
set_option maxRecDepth 20000 in
theorem gL_law_X12_lawOf : GoodIn wsL_law (wsV RL 34 RX12 yX12_lawOf wsX12_lawOf) := goodIn_app (goodIn_of _ (by decide +kernel)) ggL_law_X12_lawOf
set_option maxRecDepth 20000 in
theorem ggL_law_X11_child : GoodIn wsL_law wsX11_child := goodIn_r _ [442, 34, 176, 443, 444, 2, 445, 419, 158, 159, 446, 447, 448, 449, 273, 274, 33, 275, 100, 276, 277, 278, 279, 280, 281, 282, 283, 89, 450, 305, 306, 39, 307, 308, 309, 310, 311, 312, 313, 1400, 1401, 1402, 1403, 1404, 1405, 1406, 1407, 1408, 1409, 1410, 1411, 1440, 1441, 1442, 1443, 1444, 1445, 1446, 1447, 1448, 1449, 1450, 1451, 1452, 1453] (by decide +kernel) (by decide +kernel)
set_option maxRecDepth 20000 in
theorem gL_law_X11_child : GoodIn wsL_law (wsV RL 35 RX11 yX11_child wsX11_child) := goodIn_app (goodIn_of _ (by decide +kernel)) ggL_law_X11_child
set_option maxRecDepth 20000 in
theorem ggL_law_X12_child : GoodIn wsL_law wsX12_child := goodIn_r _ [454, 455, 425, 426, 129, 167, 168, 5, 169, 456, 457, 458, 393, 394, 395, 396, 1412, 1413, 1414, 1415, 1416, 1417, 1418, 1419, 1420, 1421, 1422, 1423, 1424, 1425, 1426, 1427, 1428, 1429, 1430, 1431, 1432, 1433, 1434, 1435, 1436, 1437, 1438, 1439] (by decide +kernel) (by decide +kernel)
set_option maxRecDepth 20000 in
theorem gL_law_X12_child : GoodIn wsL_law (wsV RL 39 RX12 yX12_child wsX12_child) := goodIn_app (goodIn_of _ (by decide +kernel)) ggL_law_X12_child
set_option maxRecDepth 20000 in
theorem ggL_law_X11_of : GoodIn wsL_law wsX11_of := goodIn_r _ [462, 34, 463, 277, 278, 33, 279, 100, 280, 281, 282, 283, 89, 158, 2, 159, 419, 464, 465, 466, 39, 467, 308, 309, 310, 312, 313, 311, 1400, 1401, 1402, 1403, 1404, 1405, 1406, 1407, 1408, 1409, 1410, 1411, 1440, 1441, 1442, 1443, 1444, 1445, 1446, 1447, 1448, 1449, 1450, 1451, 1452, 1453] (by decide +kernel) (by decide +kernel)
set_option maxRecDepth 20000 in
theorem gL_law_X11_of : GoodIn wsL_law (wsV RL 40 RX11 yX11_of wsX11_of) := goodIn_app (goodIn_of _ (by decide +kernel)) ggL_law_X11_of
set_option maxRecDepth 20000 in
theorem ggL_law_X12_of : GoodIn wsL_law wsX12_of := goodIn_r _ [471, 455, 472, 473, 474, 5, 475, 129, 167, 168, 169, 476, 477, 478, 479, 1412, 1413, 1414, 1415, 1416, 1417, 1418, 1419, 1420, 1421, 1422, 1423, 1424, 1425, 1426, 1427, 1428, 1429, 1430, 1431, 1432, 1433, 1434, 1435, 1436, 1437, 1438, 1439] (by decide +kernel) (by decide +kernel)
set_option maxRecDepth 20000 in
theorem gL_law_X12_of : GoodIn wsL_law (wsV RL 43 RX12 yX12_of wsX12_of) := goodIn_app (goodIn_of _ (by decide +kernel)) ggL_law_X12_of
set_option maxRecDepth 20000 in
theorem ggL_law_X11_does : GoodIn wsL_law wsX11_does := goodIn_r _ [483, 34, 463, 277, 278, 33, 279, 100, 280, 281, 282, 283, 89, 158, 2, 159, 484, 485, 486, 487, 488, 101, 489, 490, 491, 492, 85, 493, 494, 495, 496, 15, 497, 498, 499, 500, 501, 502, 24, 503, 504, 505, 506, 507, 508, 18, 509, 510, 511, 512, 513, 514, 27, 515, 516, 517, 518, 519, 21, 520, 521, 522, 523, 524, 525, 30, 526, 527, 528, 529, 530, 531, 532, 533, 534, 535, 536, 537, 538, 539, 540, 541, 542, 543, 544, 545, 546, 547, 548, 549, 550, 551, 552, 553, 554, 555, 556, 557, 558, 559, 1400, 1401, 1402, 1403, 1404, 1405, 1406, 1407, 1408, 1409, 1410, 1411, 1440, 1441, 1442, 1443, 1444, 1445, 1446, 1447, 1448, 1449, 1450, 1451, 1452, 1453] (by decide +kernel) (by decide +kernel)
set_option maxRecDepth 20000 in
theorem gL_law_X11_does : GoodIn wsL_law (wsV RL 44 RX11 yX11_does wsX11_does) := goodIn_app (goodIn_of _ (by decide +kernel)) ggL_law_X11_does
set_option maxRecDepth 20000 in
theorem ggL_law_X12_does : GoodIn wsL_law wsX12_does := goodIn_r _ [563, 472, 473, 474, 5, 475, 129, 167, 168, 169, 564, 565, 566, 567, 476, 477, 478, 479, 568, 569, 570, 571, 1412, 1413, 1414, 1415, 1416, 1417, 1418, 1419, 1420, 1421, 1422, 1423, 1424, 1425, 1426, 1427, 1428, 1429, 1430, 1431, 1432, 1433, 1434, 1435, 1436, 1437, 1438, 1439] (by decide +kernel) (by decide +kernel)
set_option maxRecDepth 20000 in
theorem gL_law_X12_does : GoodIn wsL_law (wsV RL 47 RX12 yX12_does wsX12_does) := goodIn_app (goodIn_of _ (by decide +kernel)) ggL_law_X12_does
set_option maxRecDepth 20000 in
theorem ggL_law_X11_mind : GoodIn wsL_law wsX11_mind := goodIn_r _ [575, 34, 576, 577, 463, 277, 278, 33, 279, 100, 280, 281, 282, 283, 89, 158, 2, 159, 443, 444, 445, 419, 1400, 1401, 1402, 1403, 1404, 1405, 1406, 1407, 1408, 1409, 1410, 1411, 1448, 1449, 1450, 1451, 1452, 1453, 1440, 1441, 1442, 1443, 1444, 1445, 1446, 1447] (by decide +kernel) (by decide +kernel)
set_option maxRecDepth 20000 in
theorem gL_law_X11_mind : GoodIn wsL_law (wsV RL 48 RX11 yX11_mind wsX11_mind) := goodIn_app (goodIn_of _ (by decide +kernel)) ggL_law_X11_mind
set_option maxRecDepth 20000 in
theorem ggL_law_X12_mind : GoodIn wsL_law wsX12_mind := goodIn_r _ [581, 455, 426, 129, 472, 473, 474, 5, 475, 167, 168, 169, 427, 428, 429, 430, 1412, 1413, 1414, 1415, 1416, 1417, 1418, 1419, 1420, 1421, 1422, 1423, 1424, 1425, 1426, 1427, 1428, 1429, 1430, 1431, 1432, 1433, 1434, 1435, 1436, 1437, 1438, 1439] (by decide +kernel) (by decide +kernel)
set_option maxRecDepth 20000 in
theorem gL_law_X12_mind : GoodIn wsL_law (wsV RL 52 RX12 yX12_mind wsX12_mind) := goodIn_app (goodIn_of _ (by decide +kernel)) ggL_law_X12_mind
set_option maxRecDepth 20000 in
theorem ggL_law_X11_change : GoodIn wsL_law wsX11_change := goodIn_r _ [585, 34, 463, 277, 278, 33, 279, 100, 280, 281, 282, 283, 89, 158, 2, 159, 419, 464, 465, 466, 39, 467, 308, 309, 310, 312, 313, 311, 586, 587, 588, 589, 1400, 1401, 1402, 1403, 1404, 1405, 1406, 1407, 1408, 1409, 1410, 1411, 1440, 1441, 1442, 1443, 1444, 1445, 1446, 1447, 1448, 1449, 1450, 1451, 1452, 1453] (by decide +kernel) (by decide +kernel)
set_option maxRecDepth 20000 in
theorem gL_law_X11_change : GoodIn wsL_law (wsV RL 53 RX11 yX11_change wsX11_change) := goodIn_app (goodIn_of _ (by decide +kernel)) ggL_law_X11_change
set_option maxRecDepth 20000 in
theorem ggL_law_X12_change : GoodIn wsL_law wsX12_change := goodIn_r _ [593, 425, 472, 473, 474, 5, 475, 129, 167, 168, 169, 427, 428, 429, 430, 1412, 1413, 1414, 1415, 1416, 1417, 1418, 1419, 1420, 1421, 1422, 1423, 1424, 1425, 1426, 1427, 1428, 1429, 1430, 1431, 1432, 1433, 1434, 1435, 1436, 1437, 1438, 1439] (by decide +kernel) (by decide +kernel)
set_option maxRecDepth 20000 in
theorem gL_law_X12_change : GoodIn wsL_law (wsV RL 56 RX12 yX12_change wsX12_change) := goodIn_app (goodIn_of _ (by decide +kernel)) ggL_law_X12_change
set_option maxRecDepth 20000 in
theorem ggL_law_X11_swear : GoodIn wsL_law wsX11_swear := goodIn_r _ [597, 34, 598, 463, 277, 278, 33, 279, 100, 280, 281, 282, 283, 89, 158, 2, 159, 446, 447, 448, 419, 1400, 1401, 1402, 1403, 1404, 1405, 1406, 1407, 1408, 1409, 1410, 1411, 1448, 1449, 1450, 1451, 1452, 1453, 1440, 1441, 1442, 1443, 1444, 1445, 1446, 1447] (by decide +kernel) (by decide +kernel)
set_option maxRecDepth 20000 in
theorem gL_law_X11_swear : GoodIn wsL_law (wsV RL 57 RX11 yX11_swear wsX11_swear) := goodIn_app (goodIn_of _ (by decide +kernel)) ggL_law_X11_swear
set_option maxRecDepth 20000 in
theorem ggL_law_X12_swear : GoodIn wsL_law wsX12_swear := goodIn_r _ [602, 472, 473, 474, 5, 475, 129, 456, 457, 458, 427, 428, 429, 430, 1412, 1413, 1414, 1415, 1416, 1417, 1418, 1419, 1420, 1421, 1422, 1423, 1424, 1425, 1426, 1427, 1428, 1429, 1430, 1431, 1432, 1433, 1434, 1435, 1436, 1437, 1438, 1439] (by decide +kernel) (by decide +kernel)
set_option maxRecDepth 20000 in
theorem gL_law_X12_swear : GoodIn wsL_law (wsV RL 60 RX12 yX12_swear wsX12_swear) := goodIn_app (goodIn_of _ (by decide +kernel)) ggL_law_X12_swear
set_option maxRecDepth 20000 in
theorem ggL_law_X11_vice : GoodIn wsL_law wsX11_vice := goodIn_r _ [606, 34, 607, 446, 447, 2, 448, 419, 158, 159, 1400, 1401, 1402, 1403, 1404, 1405, 1406, 1407, 1408, 1409, 1410, 1411, 1440, 1441, 1442, 1443, 1444, 1445, 1446, 1447] (by decide +kernel) (by decide +kernel)
set_option maxRecDepth 20000 in
theorem gL_law_X11_vice : GoodIn wsL_law (wsV RL 61 RX11 yX11_vice wsX11_vice) := goodIn_app (goodIn_of _ (by decide +kernel)) ggL_law_X11_vice
