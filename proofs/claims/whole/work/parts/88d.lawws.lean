set_option maxRecDepth 20000 in
theorem wsL_law_p40 : ∀ w ∈ wsL_law0_r40, w ∈ lw_tbl := fun w h => (goodIn_r (big := lw_tbl) wsL_law0_r40 [1426, 1427, 1428, 1429, 771, 772, 773, 774, 775, 776, 777, 778, 779, 780, 781, 1430, 1431, 1432, 1433, 782, 783, 784, 785, 1434] rfl (by decide +kernel) w h).1
set_option maxRecDepth 20000 in
theorem wsL_law_p41 : ∀ w ∈ wsL_law0_r41, w ∈ lw_tbl := fun w h => (goodIn_r (big := lw_tbl) wsL_law0_r41 [1435, 1436, 1437, 786, 787, 788, 789, 1438, 1439, 1440, 1441, 791, 792, 793, 794, 1442, 1443, 1444, 1445, 795, 796, 797, 798, 799] rfl (by decide +kernel) w h).1
set_option maxRecDepth 20000 in
theorem wsL_law_p42 : ∀ w ∈ wsL_law0_r42, w ∈ lw_tbl := fun w h => (goodIn_r (big := lw_tbl) wsL_law0_r42 [800, 1446, 1447, 1448, 1449, 1450, 1452, 56, 1453, 801, 802, 803, 804, 805, 807, 8, 808, 1454, 1455, 1456, 1457, 1458, 1460, 57] rfl (by decide +kernel) w h).1
set_option maxRecDepth 20000 in
theorem wsL_law_p43 : ∀ w ∈ wsL_law0_r43, w ∈ lw_tbl := fun w h => (goodIn_r (big := lw_tbl) wsL_law0_r43 [1461, 1462, 1464, 58, 1465, 1466, 1468, 59, 1469, 1470, 1472, 60, 1473, 809, 810, 811, 812, 813, 814, 815, 816, 1474, 1475, 1476] rfl (by decide +kernel) w h).1
set_option maxRecDepth 20000 in
theorem wsL_law_p44 : ∀ w ∈ wsL_law0_r44, w ∈ lw_tbl := fun w h => (goodIn_r (big := lw_tbl) wsL_law0_r44 [1477, 1478, 1479, 1481, 61, 1482, 817, 818, 819, 820, 821, 823, 9, 824, 188, 825, 827, 10, 828, 1483, 1484, 1485, 1486, 1049] rfl (by decide +kernel) w h).1
set_option maxRecDepth 20000 in
theorem wsL_law_p45 : ∀ w ∈ wsL_law0_r45, w ∈ lw_tbl := fun w h => (goodIn_r (big := lw_tbl) wsL_law0_r45 [1487, 1489, 62, 1490, 1050, 829, 830, 831, 832, 833, 835, 11, 836, 837, 839, 12, 840, 1491, 1492, 1493, 1494, 1495, 1497, 63] rfl (by decide +kernel) w h).1
set_option maxRecDepth 20000 in
theorem wsL_law_p46 : ∀ w ∈ wsL_law0_r46, w ∈ lw_tbl := fun w h => (goodIn_r (big := lw_tbl) wsL_law0_r46 [1498, 841, 842, 843, 844, 845, 1499, 1500, 1501, 1502, 846, 847, 848, 849, 125, 850, 851, 852, 853, 854, 855, 856, 857, 858] rfl (by decide +kernel) w h).1
set_option maxRecDepth 20000 in
theorem wsL_law_p47 : ∀ w ∈ wsL_law0_r47, w ∈ lw_tbl := fun w h => (goodIn_r (big := lw_tbl) wsL_law0_r47 [859, 860, 861, 862, 1503, 1504, 1505, 1506, 863, 864, 865, 866, 1507, 1508, 1509, 1510, 867, 868, 869, 870, 1511, 1512, 1513, 1514] rfl (by decide +kernel) w h).1
set_option maxRecDepth 20000 in
theorem wsL_law_p48 : ∀ w ∈ wsL_law0_r48, w ∈ lw_tbl := fun w h => (goodIn_r (big := lw_tbl) wsL_law0_r48 [871, 872, 873, 874, 875, 876, 877, 878, 879, 880, 881, 882, 883, 1515, 1516, 1517, 1518, 884, 885, 886, 887, 1519, 1520, 1521] rfl (by decide +kernel) w h).1
set_option maxRecDepth 20000 in
theorem wsL_law_p49 : ∀ w ∈ wsL_law0_r49, w ∈ lw_tbl := fun w h => (goodIn_r (big := lw_tbl) wsL_law0_r49 [1522, 888, 889, 890, 891, 892, 894, 13, 895, 896, 1523, 1524, 1525, 1526, 897, 898, 899, 900, 901, 902, 903, 1527, 1528, 1529] rfl (by decide +kernel) w h).1
set_option maxRecDepth 20000 in
theorem wsL_law_p50 : ∀ w ∈ wsL_law0_r50, w ∈ lw_tbl := fun w h => (goodIn_r (big := lw_tbl) wsL_law0_r50 [1530, 904, 905, 906, 907, 1531, 1532, 1533, 1534, 908, 909, 910, 911, 1535, 1536, 1537, 1538, 912, 913, 914, 915, 1539, 1540, 1541] rfl (by decide +kernel) w h).1
set_option maxRecDepth 20000 in
theorem wsL_law_p51 : ∀ w ∈ wsL_law0_r51, w ∈ lw_tbl := fun w h => (goodIn_r (big := lw_tbl) wsL_law0_r51 [1542, 916, 917, 918, 919, 334, 920, 921, 922, 923, 924, 925, 927, 14, 928, 929, 1543, 1544, 1545, 1546, 1547, 1548, 1550, 64] rfl (by decide +kernel) w h).1
set_option maxRecDepth 20000 in
theorem wsL_law_p52 : ∀ w ∈ wsL_law0_r52, w ∈ lw_tbl := fun w h => (goodIn_r (big := lw_tbl) wsL_law0_r52 [1551, 999, 1000, 1001, 1002, 1003, 1004, 1005, 332, 1552, 1553, 1554, 1555] rfl (by decide +kernel) w h).1
