def wsL_law : List Cond := wsL_law0 ++ (vx_at0 RX10 222 "java/util/NoSuchElementException" ["java/lang/RuntimeException", "java/lang/Exception"]).filter goodWord
set_option maxRecDepth 20000 in
theorem wsL_law_p1 : ∀ w ∈ wsL_law0_r1, w ∈ lw_tbl := fun w h => (goodIn_r (big := lw_tbl) wsL_law0_r1 [86, 87, 66, 1006, 1007, 79, 312, 1556, 88, 89, 90, 91, 92, 93, 94, 95, 67, 340, 110, 111, 68, 341, 154, 155] (by decide +kernel) (by decide +kernel) w h).1
set_option maxRecDepth 20000 in
theorem wsL_law_p2 : ∀ w ∈ wsL_law0_r2, w ∈ lw_tbl := fun w h => (goodIn_r (big := lw_tbl) wsL_law0_r2 [70, 342, 313, 314, 77, 343, 344, 345, 325, 326, 78, 346, 97, 98, 99, 109, 100, 101, 113, 114, 115, 116, 117, 69] (by decide +kernel) (by decide +kernel) w h).1
set_option maxRecDepth 20000 in
theorem wsL_law_p3 : ∀ w ∈ wsL_law0_r3, w ∈ lw_tbl := fun w h => (goodIn_r (big := lw_tbl) wsL_law0_r3 [146, 148, 119, 120, 121, 122, 123, 126, 128, 132, 156, 157, 158, 159, 160, 258, 162, 163, 71, 260, 177, 263, 179, 73] (by decide +kernel) (by decide +kernel) w h).1
set_option maxRecDepth 20000 in
theorem wsL_law_p4 : ∀ w ∈ wsL_law0_r4, w ∈ lw_tbl := fun w h => (goodIn_r (big := lw_tbl) wsL_law0_r4 [265, 267, 198, 199, 75, 269, 226, 227, 76, 272, 275, 278, 280, 283, 285, 164, 165, 166, 167, 173, 168, 170, 172, 171] (by decide +kernel) (by decide +kernel) w h).1
set_option maxRecDepth 20000 in
theorem wsL_law_p5 : ∀ w ∈ wsL_law0_r5, w ∈ lw_tbl := fun w h => (goodIn_r (big := lw_tbl) wsL_law0_r5 [72, 180, 181, 182, 183, 187, 189, 190, 184, 185, 74, 186, 201, 202, 203, 204, 206, 208, 210, 212, 229, 230, 231, 232] (by decide +kernel) (by decide +kernel) w h).1
set_option maxRecDepth 20000 in
theorem wsL_law_p6 : ∀ w ∈ wsL_law0_r6, w ∈ lw_tbl := fun w h => (goodIn_r (big := lw_tbl) wsL_law0_r6 [234, 236, 238, 240, 242, 316, 317, 318, 319, 321, 328, 329, 330, 331, 333, 1008, 1009, 1010, 1011, 1016, 1017, 1019, 1020, 1021] (by decide +kernel) (by decide +kernel) w h).1
set_option maxRecDepth 20000 in
theorem wsL_law_p7 : ∀ w ∈ wsL_law0_r7, w ∈ lw_tbl := fun w h => (goodIn_r (big := lw_tbl) wsL_law0_r7 [1023, 1029, 1030, 1122, 1031, 1033, 1039, 1040, 1041, 1042, 1043, 1044, 1045, 1046, 1047, 1048, 1012, 1014, 16, 1015, 1018, 1022, 1024, 1025] (by decide +kernel) (by decide +kernel) w h).1
set_option maxRecDepth 20000 in
theorem wsL_law_p8 : ∀ w ∈ wsL_law0_r8, w ∈ lw_tbl := fun w h => (goodIn_r (big := lw_tbl) wsL_law0_r8 [1026, 1027, 1028, 362, 363, 364, 365, 103, 366, 367, 368, 369, 1127, 1128, 1129, 1130, 1035, 1032, 370, 371, 372, 373, 374, 375] (by decide +kernel) (by decide +kernel) w h).1
set_option maxRecDepth 20000 in
theorem wsL_law_p9 : ∀ w ∈ wsL_law0_r9, w ∈ lw_tbl := fun w h => (goodIn_r (big := lw_tbl) wsL_law0_r9 [376, 377, 1131, 1132, 1133, 1134, 1135, 1136, 1137, 378, 379, 380, 381, 147, 382, 383, 384, 385, 102, 129, 386, 387, 388, 389] (by decide +kernel) (by decide +kernel) w h).1
set_option maxRecDepth 20000 in
theorem wsL_law_p10 : ∀ w ∈ wsL_law0_r10, w ∈ lw_tbl := fun w h => (goodIn_r (big := lw_tbl) wsL_law0_r10 [390, 392, 0, 393, 394, 395, 396, 397, 399, 400, 401, 402, 403, 404, 406, 1, 407, 408, 410, 2, 411, 412, 414, 3] (by decide +kernel) (by decide +kernel) w h).1
set_option maxRecDepth 20000 in
theorem wsL_law_p11 : ∀ w ∈ wsL_law0_r11, w ∈ lw_tbl := fun w h => (goodIn_r (big := lw_tbl) wsL_law0_r11 [415, 417, 418, 419, 420, 421, 422, 423, 424, 213, 243, 425, 426, 427, 428, 429, 430, 431, 432, 433, 434, 435, 436, 437] (by decide +kernel) (by decide +kernel) w h).1
set_option maxRecDepth 20000 in
theorem wsL_law_p12 : ∀ w ∈ wsL_law0_r12, w ∈ lw_tbl := fun w h => (goodIn_r (big := lw_tbl) wsL_law0_r12 [1138, 1139, 1140, 1141, 1036, 1037, 1038, 1154, 1155, 1142, 1144, 17, 1145, 1146, 1148, 18, 1149, 1150, 1152, 19, 1153, 1156, 1158, 20] (by decide +kernel) (by decide +kernel) w h).1
set_option maxRecDepth 20000 in
theorem wsL_law_p13 : ∀ w ∈ wsL_law0_r13, w ∈ lw_tbl := fun w h => (goodIn_r (big := lw_tbl) wsL_law0_r13 [1159, 1160, 438, 439, 440, 441, 261, 442, 443, 444, 448, 445, 446, 447, 451, 452, 453, 454, 455, 456, 457, 458, 1161, 1162] (by decide +kernel) (by decide +kernel) w h).1
set_option maxRecDepth 20000 in
theorem wsL_law_p14 : ∀ w ∈ wsL_law0_r14, w ∈ lw_tbl := fun w h => (goodIn_r (big := lw_tbl) wsL_law0_r14 [1163, 1164, 1165, 1166, 1167, 1168, 1169, 1170, 1171, 459, 460, 461, 462, 264, 463, 465, 4, 466, 259, 467, 468, 469, 470, 471] (by decide +kernel) (by decide +kernel) w h).1
set_option maxRecDepth 20000 in
theorem wsL_law_p15 : ∀ w ∈ wsL_law0_r15, w ∈ lw_tbl := fun w h => (goodIn_r (big := lw_tbl) wsL_law0_r15 [472, 473, 474, 475, 476, 477, 478, 479, 480, 481, 482, 483, 484, 485, 486, 487, 488, 489, 1172, 1173, 1174, 1175, 1176, 1178] (by decide +kernel) (by decide +kernel) w h).1
set_option maxRecDepth 20000 in
theorem wsL_law_p16 : ∀ w ∈ wsL_law0_r16, w ∈ lw_tbl := fun w h => (goodIn_r (big := lw_tbl) wsL_law0_r16 [21, 1179, 1188, 1180, 1181, 1182, 1183, 1184, 1186, 22, 1187, 1189, 1191, 23, 1192, 490, 491, 492, 493, 1193, 1194, 1195, 1196, 494] (by decide +kernel) (by decide +kernel) w h).1
set_option maxRecDepth 20000 in
theorem wsL_law_p17 : ∀ w ∈ wsL_law0_r17, w ∈ lw_tbl := fun w h => (goodIn_r (big := lw_tbl) wsL_law0_r17 [495, 496, 497, 498, 266, 1197, 1198, 1199, 1200, 1201, 1202, 1204, 24, 1205, 499, 500, 501, 502, 271, 214, 503, 504, 505, 506] (by decide +kernel) (by decide +kernel) w h).1
set_option maxRecDepth 20000 in
theorem wsL_law_p18 : ∀ w ∈ wsL_law0_r18, w ∈ lw_tbl := fun w h => (goodIn_r (big := lw_tbl) wsL_law0_r18 [507, 508, 509, 510, 511, 512, 513, 514, 515, 516, 517, 1206, 1207, 1208, 1209, 1218, 1210, 1211, 1212, 1213, 1214, 1215, 1216, 1217] (by decide +kernel) (by decide +kernel) w h).1
set_option maxRecDepth 20000 in
theorem wsL_law_p19 : ∀ w ∈ wsL_law0_r19, w ∈ lw_tbl := fun w h => (goodIn_r (big := lw_tbl) wsL_law0_r19 [518, 519, 520, 521, 209, 522, 523, 524, 525, 1219, 1220, 1221, 1222, 1223, 1225, 25, 1226, 526, 527, 528, 529, 274, 244, 530] (by decide +kernel) (by decide +kernel) w h).1
set_option maxRecDepth 20000 in
theorem wsL_law_p20 : ∀ w ∈ wsL_law0_r20, w ∈ lw_tbl := fun w h => (goodIn_r (big := lw_tbl) wsL_law0_r20 [531, 532, 533, 1227, 1228, 1229, 1230, 534, 535, 536, 537, 237, 538, 540, 5, 541, 233, 542, 543, 544, 545, 546, 547, 548] (by decide +kernel) (by decide +kernel) w h).1
set_option maxRecDepth 20000 in
theorem wsL_law_p21 : ∀ w ∈ wsL_law0_r21, w ∈ lw_tbl := fun w h => (goodIn_r (big := lw_tbl) wsL_law0_r21 [549, 550, 551, 552, 553, 554, 555, 556, 557, 558, 1231, 1232, 1233, 1234, 1235, 1237, 26, 1238, 1239, 1241, 27, 1242, 559, 560] (by decide +kernel) (by decide +kernel) w h).1
set_option maxRecDepth 20000 in
theorem wsL_law_p22 : ∀ w ∈ wsL_law0_r22, w ∈ lw_tbl := fun w h => (goodIn_r (big := lw_tbl) wsL_law0_r22 [561, 562, 239, 241, 563, 564, 565, 566, 567, 569, 570, 571, 1243, 1244, 1245, 1246, 1247, 1248, 1250, 28, 1251, 1252, 1253, 1254] (by decide +kernel) (by decide +kernel) w h).1
set_option maxRecDepth 20000 in
theorem wsL_law_p23 : ∀ w ∈ wsL_law0_r23, w ∈ lw_tbl := fun w h => (goodIn_r (big := lw_tbl) wsL_law0_r23 [572, 573, 574, 575, 279, 282, 1255, 1256, 1257, 1258, 576, 577, 578, 579, 1259, 1260, 1261, 1262, 580, 581, 582, 583, 584, 277] (by decide +kernel) (by decide +kernel) w h).1
set_option maxRecDepth 20000 in
theorem wsL_law_p24 : ∀ w ∈ wsL_law0_r24, w ∈ lw_tbl := fun w h => (goodIn_r (big := lw_tbl) wsL_law0_r24 [1263, 1264, 1265, 1266, 1267, 585, 586, 587, 588, 284, 1268, 1269, 1270, 1271, 589, 590, 591, 592, 286, 1272, 1273, 1274, 1275, 1276] (by decide +kernel) (by decide +kernel) w h).1
set_option maxRecDepth 20000 in
theorem wsL_law_p25 : ∀ w ∈ wsL_law0_r25, w ∈ lw_tbl := fun w h => (goodIn_r (big := lw_tbl) wsL_law0_r25 [593, 594, 595, 596, 268, 597, 598, 599, 1277, 1278, 1279, 1280, 1281, 1282, 1283, 1284, 1285, 1286, 1288, 29, 1289, 930, 931, 65] (by decide +kernel) (by decide +kernel) w h).1
set_option maxRecDepth 20000 in
theorem wsL_law_p26 : ∀ w ∈ wsL_law0_r26, w ∈ lw_tbl := fun w h => (goodIn_r (big := lw_tbl) wsL_law0_r26 [932, 933, 934, 935, 936, 937, 938, 83, 680, 681, 682, 683, 270, 262, 276, 684, 685, 686, 687, 130, 688, 689, 690, 691] (by decide +kernel) (by decide +kernel) w h).1
set_option maxRecDepth 20000 in
theorem wsL_law_p27 : ∀ w ∈ wsL_law0_r27, w ∈ lw_tbl := fun w h => (goodIn_r (big := lw_tbl) wsL_law0_r27 [692, 643, 644, 645, 631, 605, 606, 607, 127, 608, 609, 610, 611, 612, 613, 614, 615, 616, 124, 617, 693, 694, 696, 6] (by decide +kernel) (by decide +kernel) w h).1
set_option maxRecDepth 20000 in
theorem wsL_law_p28 : ∀ w ∈ wsL_law0_r28, w ∈ lw_tbl := fun w h => (goodIn_r (big := lw_tbl) wsL_law0_r28 [697, 273, 698, 699, 700, 701, 702, 703, 704, 705, 706, 707, 708, 709, 710, 711, 712, 713, 714, 715, 716, 717, 718, 719] (by decide +kernel) (by decide +kernel) w h).1
set_option maxRecDepth 20000 in
theorem wsL_law_p29 : ∀ w ∈ wsL_law0_r29, w ∈ lw_tbl := fun w h => (goodIn_r (big := lw_tbl) wsL_law0_r29 [720, 721, 722, 723, 725, 726, 84, 727, 724, 672, 673, 674, 133, 728, 729, 730, 731, 733, 734, 735, 732, 668, 669, 670] (by decide +kernel) (by decide +kernel) w h).1
set_option maxRecDepth 20000 in
theorem wsL_law_p30 : ∀ w ∈ wsL_law0_r30, w ∈ lw_tbl := fun w h => (goodIn_r (big := lw_tbl) wsL_law0_r30 [736, 737, 738, 739, 740, 741, 742, 743, 744, 745, 746, 747, 748, 749, 750, 751, 752, 753, 754, 755, 756, 757, 758, 759] (by decide +kernel) (by decide +kernel) w h).1
set_option maxRecDepth 20000 in
theorem wsL_law_p31 : ∀ w ∈ wsL_law0_r31, w ∈ lw_tbl := fun w h => (goodIn_r (big := lw_tbl) wsL_law0_r31 [760, 762, 7, 763, 281, 764, 765, 766, 767, 768, 790, 1290, 1291, 1292, 1293, 1294, 1295, 1297, 30, 1298, 1299, 1301, 31, 1302] (by decide +kernel) (by decide +kernel) w h).1
set_option maxRecDepth 20000 in
theorem wsL_law_p32 : ∀ w ∈ wsL_law0_r32, w ∈ lw_tbl := fun w h => (goodIn_r (big := lw_tbl) wsL_law0_r32 [1348, 1349, 1303, 1305, 32, 1306, 1307, 1309, 33, 1310, 1311, 1313, 34, 1314, 1315, 1317, 35, 1318, 1319, 1321, 36, 1322, 1323, 1325] (by decide +kernel) (by decide +kernel) w h).1
set_option maxRecDepth 20000 in
theorem wsL_law_p33 : ∀ w ∈ wsL_law0_r33, w ∈ lw_tbl := fun w h => (goodIn_r (big := lw_tbl) wsL_law0_r33 [37, 1326, 1327, 1329, 38, 1330, 1331, 1333, 39, 1334, 1335, 1337, 40, 1338, 1343, 1339, 1341, 41, 1342, 1344, 1346, 42, 1347, 1350] (by decide +kernel) (by decide +kernel) w h).1
set_option maxRecDepth 20000 in
theorem wsL_law_p34 : ∀ w ∈ wsL_law0_r34, w ∈ lw_tbl := fun w h => (goodIn_r (big := lw_tbl) wsL_law0_r34 [1352, 43, 1353, 1354, 1356, 44, 1357, 1358, 1360, 45, 1361, 1362, 1364, 46, 1365, 1366, 1368, 47, 1369, 1370, 1372, 48, 1373, 1374] (by decide +kernel) (by decide +kernel) w h).1
set_option maxRecDepth 20000 in
theorem wsL_law_p35 : ∀ w ∈ wsL_law0_r35, w ∈ lw_tbl := fun w h => (goodIn_r (big := lw_tbl) wsL_law0_r35 [1375, 1377, 49, 1378, 1379, 1381, 50, 1382, 1383, 1385, 51, 1386, 1387, 1389, 52, 1390, 1123, 1124, 1125, 1126, 600, 601, 602, 603] (by decide +kernel) (by decide +kernel) w h).1
set_option maxRecDepth 20000 in
theorem wsL_law_p36 : ∀ w ∈ wsL_law0_r36, w ∈ lw_tbl := fun w h => (goodIn_r (big := lw_tbl) wsL_law0_r36 [604, 619, 620, 621, 622, 623, 624, 625, 626, 627, 628, 629, 630, 632, 633, 634, 635, 636, 637, 1391, 1392, 1393, 1394, 1034] (by decide +kernel) (by decide +kernel) w h).1
set_option maxRecDepth 20000 in
theorem wsL_law_p37 : ∀ w ∈ wsL_law0_r37, w ∈ lw_tbl := fun w h => (goodIn_r (big := lw_tbl) wsL_law0_r37 [1395, 1397, 53, 1398, 1399, 1401, 54, 1402, 638, 639, 640, 641, 207, 205, 211, 642, 646, 647, 648, 649, 650, 651, 85, 652] (by decide +kernel) (by decide +kernel) w h).1
set_option maxRecDepth 20000 in
theorem wsL_law_p38 : ∀ w ∈ wsL_law0_r38, w ∈ lw_tbl := fun w h => (goodIn_r (big := lw_tbl) wsL_law0_r38 [653, 654, 655, 1403, 1404, 1405, 1406, 1407, 1409, 55, 1410, 1411, 1412, 1413, 656, 657, 658, 659, 235, 660, 661, 662, 1414, 1415] (by decide +kernel) (by decide +kernel) w h).1
set_option maxRecDepth 20000 in
theorem wsL_law_p39 : ∀ w ∈ wsL_law0_r39, w ∈ lw_tbl := fun w h => (goodIn_r (big := lw_tbl) wsL_law0_r39 [1416, 1417, 1418, 1419, 1420, 663, 664, 665, 666, 131, 675, 134, 667, 671, 1421, 1422, 1423, 1424, 1425, 676, 677, 678, 679, 770] (by decide +kernel) (by decide +kernel) w h).1
set_option maxRecDepth 20000 in
theorem wsL_law_p40 : ∀ w ∈ wsL_law0_r40, w ∈ lw_tbl := fun w h => (goodIn_r (big := lw_tbl) wsL_law0_r40 [1426, 1427, 1428, 1429, 771, 772, 773, 774, 775, 776, 777, 778, 779, 780, 781, 1430, 1431, 1432, 1433, 782, 783, 784, 785, 1434] (by decide +kernel) (by decide +kernel) w h).1
set_option maxRecDepth 20000 in
theorem wsL_law_p41 : ∀ w ∈ wsL_law0_r41, w ∈ lw_tbl := fun w h => (goodIn_r (big := lw_tbl) wsL_law0_r41 [1435, 1436, 1437, 786, 787, 788, 789, 1438, 1439, 1440, 1441, 791, 792, 793, 794, 1442, 1443, 1444, 1445, 795, 796, 797, 798, 799] (by decide +kernel) (by decide +kernel) w h).1
set_option maxRecDepth 20000 in
theorem wsL_law_p42 : ∀ w ∈ wsL_law0_r42, w ∈ lw_tbl := fun w h => (goodIn_r (big := lw_tbl) wsL_law0_r42 [800, 1446, 1447, 1448, 1449, 1450, 1452, 56, 1453, 801, 802, 803, 804, 805, 807, 8, 808, 1454, 1455, 1456, 1457, 1458, 1460, 57] (by decide +kernel) (by decide +kernel) w h).1
set_option maxRecDepth 20000 in
theorem wsL_law_p43 : ∀ w ∈ wsL_law0_r43, w ∈ lw_tbl := fun w h => (goodIn_r (big := lw_tbl) wsL_law0_r43 [1461, 1462, 1464, 58, 1465, 1466, 1468, 59, 1469, 1470, 1472, 60, 1473, 809, 810, 811, 812, 813, 814, 815, 816, 1474, 1475, 1476] (by decide +kernel) (by decide +kernel) w h).1
set_option maxRecDepth 20000 in
theorem wsL_law_p44 : ∀ w ∈ wsL_law0_r44, w ∈ lw_tbl := fun w h => (goodIn_r (big := lw_tbl) wsL_law0_r44 [1477, 1478, 1479, 1481, 61, 1482, 817, 818, 819, 820, 821, 823, 9, 824, 188, 825, 827, 10, 828, 1483, 1484, 1485, 1486, 1049] (by decide +kernel) (by decide +kernel) w h).1
set_option maxRecDepth 20000 in
theorem wsL_law_p45 : ∀ w ∈ wsL_law0_r45, w ∈ lw_tbl := fun w h => (goodIn_r (big := lw_tbl) wsL_law0_r45 [1487, 1489, 62, 1490, 1050, 829, 830, 831, 832, 833, 835, 11, 836, 837, 839, 12, 840, 1491, 1492, 1493, 1494, 1495, 1497, 63] (by decide +kernel) (by decide +kernel) w h).1
set_option maxRecDepth 20000 in
theorem wsL_law_p46 : ∀ w ∈ wsL_law0_r46, w ∈ lw_tbl := fun w h => (goodIn_r (big := lw_tbl) wsL_law0_r46 [1498, 841, 842, 843, 844, 845, 1499, 1500, 1501, 1502, 846, 847, 848, 849, 125, 850, 851, 852, 853, 854, 855, 856, 857, 858] (by decide +kernel) (by decide +kernel) w h).1
set_option maxRecDepth 20000 in
theorem wsL_law_p47 : ∀ w ∈ wsL_law0_r47, w ∈ lw_tbl := fun w h => (goodIn_r (big := lw_tbl) wsL_law0_r47 [859, 860, 861, 862, 1503, 1504, 1505, 1506, 863, 864, 865, 866, 1507, 1508, 1509, 1510, 867, 868, 869, 870, 1511, 1512, 1513, 1514] (by decide +kernel) (by decide +kernel) w h).1
set_option maxRecDepth 20000 in
theorem wsL_law_p48 : ∀ w ∈ wsL_law0_r48, w ∈ lw_tbl := fun w h => (goodIn_r (big := lw_tbl) wsL_law0_r48 [871, 872, 873, 874, 875, 876, 877, 878, 879, 880, 881, 882, 883, 1515, 1516, 1517, 1518, 884, 885, 886, 887, 1519, 1520, 1521] (by decide +kernel) (by decide +kernel) w h).1
set_option maxRecDepth 20000 in
theorem wsL_law_p49 : ∀ w ∈ wsL_law0_r49, w ∈ lw_tbl := fun w h => (goodIn_r (big := lw_tbl) wsL_law0_r49 [1522, 888, 889, 890, 891, 892, 894, 13, 895, 896, 1523, 1524, 1525, 1526, 897, 898, 899, 900, 901, 902, 903, 1527, 1528, 1529] (by decide +kernel) (by decide +kernel) w h).1
set_option maxRecDepth 20000 in
theorem wsL_law_p50 : ∀ w ∈ wsL_law0_r50, w ∈ lw_tbl := fun w h => (goodIn_r (big := lw_tbl) wsL_law0_r50 [1530, 904, 905, 906, 907, 1531, 1532, 1533, 1534, 908, 909, 910, 911, 1535, 1536, 1537, 1538, 912, 913, 914, 915, 1539, 1540, 1541] (by decide +kernel) (by decide +kernel) w h).1
set_option maxRecDepth 20000 in
theorem wsL_law_p51 : ∀ w ∈ wsL_law0_r51, w ∈ lw_tbl := fun w h => (goodIn_r (big := lw_tbl) wsL_law0_r51 [1542, 916, 917, 918, 919, 334, 920, 921, 922, 923, 924, 925, 927, 14, 928, 929, 1543, 1544, 1545, 1546, 1547, 1548, 1550, 64] (by decide +kernel) (by decide +kernel) w h).1
set_option maxRecDepth 20000 in
theorem wsL_law_p52 : ∀ w ∈ wsL_law0_r52, w ∈ lw_tbl := fun w h => (goodIn_r (big := lw_tbl) wsL_law0_r52 [1551, 999, 1000, 1001, 1002, 1003, 1004, 1005, 332, 1552, 1553, 1554, 1555] (by decide +kernel) (by decide +kernel) w h).1
theorem wsL_law_in0 : ∀ w ∈ wsL_law0, w ∈ lw_tbl := List.forall_mem_append.mpr ⟨wsL_law_p1, List.forall_mem_append.mpr ⟨wsL_law_p2, List.forall_mem_append.mpr ⟨wsL_law_p3, List.forall_mem_append.mpr ⟨wsL_law_p4, List.forall_mem_append.mpr ⟨wsL_law_p5, List.forall_mem_append.mpr ⟨wsL_law_p6, List.forall_mem_append.mpr ⟨wsL_law_p7, List.forall_mem_append.mpr ⟨wsL_law_p8, List.forall_mem_append.mpr ⟨wsL_law_p9, List.forall_mem_append.mpr ⟨wsL_law_p10, List.forall_mem_append.mpr ⟨wsL_law_p11, List.forall_mem_append.mpr ⟨wsL_law_p12, List.forall_mem_append.mpr ⟨wsL_law_p13, List.forall_mem_append.mpr ⟨wsL_law_p14, List.forall_mem_append.mpr ⟨wsL_law_p15, List.forall_mem_append.mpr ⟨wsL_law_p16, List.forall_mem_append.mpr ⟨wsL_law_p17, List.forall_mem_append.mpr ⟨wsL_law_p18, List.forall_mem_append.mpr ⟨wsL_law_p19, List.forall_mem_append.mpr ⟨wsL_law_p20, List.forall_mem_append.mpr ⟨wsL_law_p21, List.forall_mem_append.mpr ⟨wsL_law_p22, List.forall_mem_append.mpr ⟨wsL_law_p23, List.forall_mem_append.mpr ⟨wsL_law_p24, List.forall_mem_append.mpr ⟨wsL_law_p25, List.forall_mem_append.mpr ⟨wsL_law_p26, List.forall_mem_append.mpr ⟨wsL_law_p27, List.forall_mem_append.mpr ⟨wsL_law_p28, List.forall_mem_append.mpr ⟨wsL_law_p29, List.forall_mem_append.mpr ⟨wsL_law_p30, List.forall_mem_append.mpr ⟨wsL_law_p31, List.forall_mem_append.mpr ⟨wsL_law_p32, List.forall_mem_append.mpr ⟨wsL_law_p33, List.forall_mem_append.mpr ⟨wsL_law_p34, List.forall_mem_append.mpr ⟨wsL_law_p35, List.forall_mem_append.mpr ⟨wsL_law_p36, List.forall_mem_append.mpr ⟨wsL_law_p37, List.forall_mem_append.mpr ⟨wsL_law_p38, List.forall_mem_append.mpr ⟨wsL_law_p39, List.forall_mem_append.mpr ⟨wsL_law_p40, List.forall_mem_append.mpr ⟨wsL_law_p41, List.forall_mem_append.mpr ⟨wsL_law_p42, List.forall_mem_append.mpr ⟨wsL_law_p43, List.forall_mem_append.mpr ⟨wsL_law_p44, List.forall_mem_append.mpr ⟨wsL_law_p45, List.forall_mem_append.mpr ⟨wsL_law_p46, List.forall_mem_append.mpr ⟨wsL_law_p47, List.forall_mem_append.mpr ⟨wsL_law_p48, List.forall_mem_append.mpr ⟨wsL_law_p49, List.forall_mem_append.mpr ⟨wsL_law_p50, List.forall_mem_append.mpr ⟨wsL_law_p51, wsL_law_p52⟩⟩⟩⟩⟩⟩⟩⟩⟩⟩⟩⟩⟩⟩⟩⟩⟩⟩⟩⟩⟩⟩⟩⟩⟩⟩⟩⟩⟩⟩⟩⟩⟩⟩⟩⟩⟩⟩⟩⟩⟩⟩⟩⟩⟩⟩⟩⟩⟩⟩⟩
theorem wsL_law_x0 : ∀ w ∈ (vx_at0 RX10 222 "java/util/NoSuchElementException" ["java/lang/RuntimeException", "java/lang/Exception"]).filter goodWord, w ∈ lw_tbl := by decide +kernel
theorem wsL_law_in : ∀ w ∈ wsL_law, w ∈ lw_tbl := fun w h => (List.mem_append.mp h).elim (fun h => wsL_law_in0 w h) (fun h => wsL_law_x0 w h)
theorem inlX0 : ∀ w ∈ wsX00, w ∈ wsL_law := fun _ h => List.mem_append_left _ (List.mem_append_left _ (List.mem_append_left _ (List.mem_append_left _ (List.mem_append_left _ (List.mem_append_left _ (List.mem_append_right _ h))))))
theorem inX0 : ∀ w ∈ wsX00, w ∈ lw_tbl := fun w h => wsL_law_in w (inlX0 w h)
theorem inlX1 : ∀ w ∈ wsX10, w ∈ wsL_law := fun _ h => List.mem_append_left _ (List.mem_append_left _ (List.mem_append_left _ (List.mem_append_left _ (List.mem_append_left _ (List.mem_append_left _ (List.mem_append_left _ (List.mem_append_left _ (List.mem_append_left _ (List.mem_append_left _ (List.mem_append_right _ h))))))))))
theorem inX1 : ∀ w ∈ wsX10, w ∈ lw_tbl := fun w h => wsL_law_in w (inlX1 w h)
theorem inlX2 : ∀ w ∈ wsX20, w ∈ wsL_law := fun _ h => List.mem_append_left _ (List.mem_append_left _ (List.mem_append_left _ (List.mem_append_left _ (List.mem_append_left _ (List.mem_append_left _ (List.mem_append_left _ (List.mem_append_left _ (List.mem_append_left _ (List.mem_append_right _ h)))))))))
theorem inX2 : ∀ w ∈ wsX20, w ∈ lw_tbl := fun w h => wsL_law_in w (inlX2 w h)
theorem inlX3 : ∀ w ∈ wsX30, w ∈ wsL_law := fun _ h => List.mem_append_left _ (List.mem_append_left _ (List.mem_append_left _ (List.mem_append_right _ h)))
theorem inX3 : ∀ w ∈ wsX30, w ∈ lw_tbl := fun w h => wsL_law_in w (inlX3 w h)
theorem inlX4 : ∀ w ∈ wsX40, w ∈ wsL_law := fun _ h => List.mem_append_left _ (List.mem_append_left _ (List.mem_append_left _ (List.mem_append_left _ (List.mem_append_left _ (List.mem_append_left _ (List.mem_append_left _ (List.mem_append_left _ (List.mem_append_right _ h))))))))
theorem inX4 : ∀ w ∈ wsX40, w ∈ lw_tbl := fun w h => wsL_law_in w (inlX4 w h)
theorem inlX5 : ∀ w ∈ wsX50, w ∈ wsL_law := fun _ h => List.mem_append_left _ (List.mem_append_left _ (List.mem_append_left _ (List.mem_append_left _ (List.mem_append_left _ (List.mem_append_left _ (List.mem_append_left _ (List.mem_append_right _ h)))))))
theorem inX5 : ∀ w ∈ wsX50, w ∈ lw_tbl := fun w h => wsL_law_in w (inlX5 w h)
theorem inlX6 : ∀ w ∈ wsX60, w ∈ wsL_law := fun _ h => List.mem_append_left _ (List.mem_append_left _ (List.mem_append_left _ (List.mem_append_left _ (List.mem_append_right _ h))))
theorem inX6 : ∀ w ∈ wsX60, w ∈ lw_tbl := fun w h => wsL_law_in w (inlX6 w h)
theorem inlX7 : ∀ w ∈ wsX70, w ∈ wsL_law := fun _ h => List.mem_append_left _ (List.mem_append_left _ (List.mem_append_right _ h))
theorem inX7 : ∀ w ∈ wsX70, w ∈ lw_tbl := fun w h => wsL_law_in w (inlX7 w h)
theorem inlX8 : ∀ w ∈ wsX80, w ∈ wsL_law := fun _ h => List.mem_append_left _ (List.mem_append_left _ (List.mem_append_left _ (List.mem_append_left _ (List.mem_append_left _ (List.mem_append_right _ h)))))
theorem inX8 : ∀ w ∈ wsX80, w ∈ lw_tbl := fun w h => wsL_law_in w (inlX8 w h)
theorem inlX9 : ∀ w ∈ wsX90, w ∈ wsL_law := fun _ h => List.mem_append_left _ (List.mem_append_left _ (List.mem_append_left _ (List.mem_append_left _ (List.mem_append_left _ (List.mem_append_left _ (List.mem_append_left _ (List.mem_append_left _ (List.mem_append_left _ (List.mem_append_left _ (List.mem_append_left _ (List.mem_append_right _ h)))))))))))
theorem inX9 : ∀ w ∈ wsX90, w ∈ lw_tbl := fun w h => wsL_law_in w (inlX9 w h)
theorem inlX10 : ∀ w ∈ wsX100, w ∈ wsL_law := fun _ h => List.mem_append_left _ (List.mem_append_left _ (List.mem_append_left _ (List.mem_append_left _ (List.mem_append_left _ (List.mem_append_left _ (List.mem_append_left _ (List.mem_append_left _ (List.mem_append_left _ (List.mem_append_left _ (List.mem_append_left _ (List.mem_append_left _ (List.mem_append_left _ (List.mem_append_right _ h)))))))))))))
theorem inX10 : ∀ w ∈ wsX100, w ∈ lw_tbl := fun w h => wsL_law_in w (inlX10 w h)
theorem inlX11 : ∀ w ∈ wsX110, w ∈ wsL_law := fun _ h => List.mem_append_left _ (List.mem_append_left _ (List.mem_append_left _ (List.mem_append_left _ (List.mem_append_left _ (List.mem_append_left _ (List.mem_append_left _ (List.mem_append_left _ (List.mem_append_left _ (List.mem_append_left _ (List.mem_append_left _ (List.mem_append_left _ (List.mem_append_right _ h))))))))))))
theorem inX11 : ∀ w ∈ wsX110, w ∈ lw_tbl := fun w h => wsL_law_in w (inlX11 w h)
