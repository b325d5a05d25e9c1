set_option maxRecDepth 20000 in
theorem wsL_law_p27 : ∀ w ∈ wsL_law0_r27, w ∈ lw_tbl := fun w h => (goodIn_r (big := lw_tbl) wsL_law0_r27 [692, 643, 644, 645, 631, 605, 606, 607, 127, 608, 609, 610, 611, 612, 613, 614, 615, 616, 124, 617, 693, 694, 696, 6] rfl (by decide +kernel) w h).1
set_option maxRecDepth 20000 in
theorem wsL_law_p28 : ∀ w ∈ wsL_law0_r28, w ∈ lw_tbl := fun w h => (goodIn_r (big := lw_tbl) wsL_law0_r28 [697, 273, 698, 699, 700, 701, 702, 703, 704, 705, 706, 707, 708, 709, 710, 711, 712, 713, 714, 715, 716, 717, 718, 719] rfl (by decide +kernel) w h).1
set_option maxRecDepth 20000 in
theorem wsL_law_p29 : ∀ w ∈ wsL_law0_r29, w ∈ lw_tbl := fun w h => (goodIn_r (big := lw_tbl) wsL_law0_r29 [720, 721, 722, 723, 725, 726, 84, 727, 724, 672, 673, 674, 133, 728, 729, 730, 731, 733, 734, 735, 732, 668, 669, 670] rfl (by decide +kernel) w h).1
set_option maxRecDepth 20000 in
theorem wsL_law_p30 : ∀ w ∈ wsL_law0_r30, w ∈ lw_tbl := fun w h => (goodIn_r (big := lw_tbl) wsL_law0_r30 [736, 737, 738, 739, 740, 741, 742, 743, 744, 745, 746, 747, 748, 749, 750, 751, 752, 753, 754, 755, 756, 757, 758, 759] rfl (by decide +kernel) w h).1
set_option maxRecDepth 20000 in
theorem wsL_law_p31 : ∀ w ∈ wsL_law0_r31, w ∈ lw_tbl := fun w h => (goodIn_r (big := lw_tbl) wsL_law0_r31 [760, 762, 7, 763, 281, 764, 765, 766, 767, 768, 790, 1290, 1291, 1292, 1293, 1294, 1295, 1297, 30, 1298, 1299, 1301, 31, 1302] rfl (by decide +kernel) w h).1
set_option maxRecDepth 20000 in
theorem wsL_law_p32 : ∀ w ∈ wsL_law0_r32, w ∈ lw_tbl := fun w h => (goodIn_r (big := lw_tbl) wsL_law0_r32 [1348, 1349, 1303, 1305, 32, 1306, 1307, 1309, 33, 1310, 1311, 1313, 34, 1314, 1315, 1317, 35, 1318, 1319, 1321, 36, 1322, 1323, 1325] rfl (by decide +kernel) w h).1
set_option maxRecDepth 20000 in
theorem wsL_law_p33 : ∀ w ∈ wsL_law0_r33, w ∈ lw_tbl := fun w h => (goodIn_r (big := lw_tbl) wsL_law0_r33 [37, 1326, 1327, 1329, 38, 1330, 1331, 1333, 39, 1334, 1335, 1337, 40, 1338, 1343, 1339, 1341, 41, 1342, 1344, 1346, 42, 1347, 1350] rfl (by decide +kernel) w h).1
set_option maxRecDepth 20000 in
theorem wsL_law_p34 : ∀ w ∈ wsL_law0_r34, w ∈ lw_tbl := fun w h => (goodIn_r (big := lw_tbl) wsL_law0_r34 [1352, 43, 1353, 1354, 1356, 44, 1357, 1358, 1360, 45, 1361, 1362, 1364, 46, 1365, 1366, 1368, 47, 1369, 1370, 1372, 48, 1373, 1374] rfl (by decide +kernel) w h).1
set_option maxRecDepth 20000 in
theorem wsL_law_p35 : ∀ w ∈ wsL_law0_r35, w ∈ lw_tbl := fun w h => (goodIn_r (big := lw_tbl) wsL_law0_r35 [1375, 1377, 49, 1378, 1379, 1381, 50, 1382, 1383, 1385, 51, 1386, 1387, 1389, 52, 1390, 1123, 1124, 1125, 1126, 600, 601, 602, 603] rfl (by decide +kernel) w h).1
set_option maxRecDepth 20000 in
theorem wsL_law_p36 : ∀ w ∈ wsL_law0_r36, w ∈ lw_tbl := fun w h => (goodIn_r (big := lw_tbl) wsL_law0_r36 [604, 619, 620, 621, 622, 623, 624, 625, 626, 627, 628, 629, 630, 632, 633, 634, 635, 636, 637, 1391, 1392, 1393, 1394, 1034] rfl (by decide +kernel) w h).1
set_option maxRecDepth 20000 in
theorem wsL_law_p37 : ∀ w ∈ wsL_law0_r37, w ∈ lw_tbl := fun w h => (goodIn_r (big := lw_tbl) wsL_law0_r37 [1395, 1397, 53, 1398, 1399, 1401, 54, 1402, 638, 639, 640, 641, 207, 205, 211, 642, 646, 647, 648, 649, 650, 651, 85, 652] rfl (by decide +kernel) w h).1
set_option maxRecDepth 20000 in
theorem wsL_law_p38 : ∀ w ∈ wsL_law0_r38, w ∈ lw_tbl := fun w h => (goodIn_r (big := lw_tbl) wsL_law0_r38 [653, 654, 655, 1403, 1404, 1405, 1406, 1407, 1409, 55, 1410, 1411, 1412, 1413, 656, 657, 658, 659, 235, 660, 661, 662, 1414, 1415] rfl (by decide +kernel) w h).1
set_option maxRecDepth 20000 in
theorem wsL_law_p39 : ∀ w ∈ wsL_law0_r39, w ∈ lw_tbl := fun w h => (goodIn_r (big := lw_tbl) wsL_law0_r39 [1416, 1417, 1418, 1419, 1420, 663, 664, 665, 666, 131, 675, 134, 667, 671, 1421, 1422, 1423, 1424, 1425, 676, 677, 678, 679, 770] rfl (by decide +kernel) w h).1
