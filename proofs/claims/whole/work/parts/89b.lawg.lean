set_option maxRecDepth 20000 in
theorem ggL_law_X10_decides : GoodIn wsL_law wsX10_decides := goodIn_r _ [505, 25, 453, 467, 506, 507, 473, 474, 475, 80, 476, 124, 331, 332, 2, 333, 226, 227, 228, 477, 478, 479, 480, 121, 508, 487, 488, 489, 122, 509, 510, 511, 512, 119, 123, 120, 513, 514, 515, 1237, 1238, 1239, 1240, 1241, 1242, 1243, 1283, 1284, 1285, 1286, 1287, 1288, 1289, 1290, 1291, 1292, 1293, 1294, 1312, 1313, 1314, 1315, 1316, 1317] (by decide +kernel) (by decide +kernel)
set_option maxRecDepth 20000 in
theorem gL_law_X10_decides : GoodIn wsL_law (wsV RL 73 RX10 yX10_decides wsX10_decides) := goodIn_app (goodIn_of _ (by decide +kernel)) ggL_law_X10_decides
set_option maxRecDepth 20000 in
theorem ggL_law_X11_decides : GoodIn wsL_law wsX11_decides := goodIn_r _ [519, 184, 520, 144, 494, 495, 496, 5, 497, 166, 198, 199, 200, 363, 364, 365, 366, 521, 522, 523, 524, 525, 526, 527, 1244, 1245, 1246, 1247, 1248, 1249, 1250, 1251, 1252, 1253, 1254, 1255, 1256, 1257, 1258, 1259, 1260, 1261, 1262, 1263, 1264, 1265, 1266, 1267, 1268, 1269, 1270, 1271, 1272, 1273, 1274, 1275, 1276, 1277, 1278] (by decide +kernel) (by decide +kernel)
set_option maxRecDepth 20000 in
theorem gL_law_X11_decides : GoodIn wsL_law (wsV RL 76 RX11 yX11_decides wsX11_decides) := goodIn_app (goodIn_of _ (by decide +kernel)) ggL_law_X11_decides
set_option maxRecDepth 20000 in
theorem ggL_law_X10_handover : GoodIn wsL_law wsX10_handover := goodIn_r _ [531, 25, 532, 533, 331, 332, 2, 333, 226, 227, 228, 1237, 1238, 1239, 1240, 1241, 1242, 1243, 1283, 1284, 1285, 1286, 1287, 1288, 1289, 1290, 1291, 1292, 1293, 1294] (by decide +kernel) (by decide +kernel)
set_option maxRecDepth 20000 in
theorem gL_law_X10_handover : GoodIn wsL_law (wsV RL 77 RX10 yX10_handover wsX10_handover) := goodIn_app (goodIn_of _ (by decide +kernel)) ggL_law_X10_handover
set_option maxRecDepth 20000 in
theorem ggL_law_X11_handover : GoodIn wsL_law wsX11_handover := goodIn_r _ [537, 184, 167, 168, 363, 364, 5, 365, 366, 198, 199, 200, 1244, 1245, 1246, 1247, 1248, 1249, 1250, 1251, 1252, 1253, 1254, 1255, 1256, 1257, 1258, 1259, 1260, 1261, 1262, 1263, 1264, 1265, 1266, 1267, 1268, 1269, 1270, 1271, 1272, 1273, 1274, 1275, 1276, 1277, 1278] (by decide +kernel) (by decide +kernel)
set_option maxRecDepth 20000 in
theorem gL_law_X11_handover : GoodIn wsL_law (wsV RL 80 RX11 yX11_handover wsX11_handover) := goodIn_app (goodIn_of _ (by decide +kernel)) ggL_law_X11_handover
set_option maxRecDepth 20000 in
theorem ggL_law_X10_closes : GoodIn wsL_law wsX10_closes := goodIn_r _ [541, 25, 533, 532, 331, 332, 2, 333, 226, 227, 228, 1237, 1238, 1239, 1240, 1241, 1242, 1243, 1283, 1284, 1285, 1286, 1287, 1288, 1289, 1290, 1291, 1292, 1293, 1294] (by decide +kernel) (by decide +kernel)
set_option maxRecDepth 20000 in
theorem gL_law_X10_closes : GoodIn wsL_law (wsV RL 81 RX10 yX10_closes wsX10_closes) := goodIn_app (goodIn_of _ (by decide +kernel)) ggL_law_X10_closes
set_option maxRecDepth 20000 in
theorem ggL_law_X11_closes : GoodIn wsL_law wsX11_closes := goodIn_r _ [545, 184, 168, 167, 363, 364, 5, 365, 366, 198, 199, 200, 1244, 1245, 1246, 1247, 1248, 1249, 1250, 1251, 1252, 1253, 1254, 1255, 1256, 1257, 1258, 1259, 1260, 1261, 1262, 1263, 1264, 1265, 1266, 1267, 1268, 1269, 1270, 1271, 1272, 1273, 1274, 1275, 1276, 1277, 1278] (by decide +kernel) (by decide +kernel)
set_option maxRecDepth 20000 in
theorem gL_law_X11_closes : GoodIn wsL_law (wsV RL 84 RX11 yX11_closes wsX11_closes) := goodIn_app (goodIn_of _ (by decide +kernel)) ggL_law_X11_closes
set_option maxRecDepth 20000 in
theorem ggL_law_X10_pays : GoodIn wsL_law wsX10_pays := goodIn_r _ [549, 550, 25, 551, 331, 332, 2, 333, 226, 227, 228, 1237, 1238, 1239, 1240, 1241, 1242, 1243, 1283, 1284, 1285, 1286, 1287, 1288, 1289, 1290, 1291, 1292, 1293, 1294] (by decide +kernel) (by decide +kernel)
set_option maxRecDepth 20000 in
theorem gL_law_X10_pays : GoodIn wsL_law (wsV RL 85 RX10 yX10_pays wsX10_pays) := goodIn_app (goodIn_of _ (by decide +kernel)) ggL_law_X10_pays
set_option maxRecDepth 20000 in
theorem ggL_law_X11_pays : GoodIn wsL_law wsX11_pays := goodIn_r _ [555, 184, 556, 146, 363, 364, 5, 365, 366, 198, 199, 200, 1244, 1245, 1246, 1247, 1248, 1249, 1250, 1251, 1252, 1253, 1254, 1255, 1256, 1257, 1258, 1259, 1260, 1261, 1262, 1263, 1264, 1265, 1266, 1267, 1268, 1269, 1270, 1271, 1272, 1273, 1274, 1275, 1276, 1277, 1278] (by decide +kernel) (by decide +kernel)
set_option maxRecDepth 20000 in
theorem gL_law_X11_pays : GoodIn wsL_law (wsV RL 88 RX11 yX11_pays wsX11_pays) := goodIn_app (goodIn_of _ (by decide +kernel)) ggL_law_X11_pays
set_option maxRecDepth 20000 in
theorem ggL_law_X10_due : GoodIn wsL_law wsX10_due := goodIn_r _ [560, 25, 561, 331, 332, 2, 333, 226, 227, 228, 1237, 1238, 1239, 1240, 1241, 1242, 1243, 1283, 1284, 1285, 1286, 1287, 1288, 1289, 1290, 1291, 1292, 1293, 1294] (by decide +kernel) (by decide +kernel)
set_option maxRecDepth 20000 in
theorem gL_law_X10_due : GoodIn wsL_law (wsV RL 89 RX10 yX10_due wsX10_due) := goodIn_app (goodIn_of _ (by decide +kernel)) ggL_law_X10_due
set_option maxRecDepth 20000 in
theorem ggL_law_X11_due : GoodIn wsL_law wsX11_due := goodIn_r _ [565, 184, 169, 363, 364, 5, 365, 366, 198, 199, 200, 1244, 1245, 1246, 1247, 1248, 1249, 1250, 1251, 1252, 1253, 1254, 1255, 1256, 1257, 1258, 1259, 1260, 1261, 1262, 1263, 1264, 1265, 1266, 1267, 1268, 1269, 1270, 1271, 1272, 1273, 1274, 1275, 1276, 1277, 1278] (by decide +kernel) (by decide +kernel)
set_option maxRecDepth 20000 in
theorem gL_law_X11_due : GoodIn wsL_law (wsV RL 92 RX11 yX11_due wsX11_due) := goodIn_app (goodIn_of _ (by decide +kernel)) ggL_law_X11_due
set_option maxRecDepth 20000 in
theorem ggL_law_X10_grants : GoodIn wsL_law wsX10_grants := goodIn_r _ [569, 25, 561, 570, 226, 227, 2, 228, 1237, 1238, 1239, 1240, 1241, 1242, 1243, 1283, 1284, 1285, 1286, 1287, 1288, 1289, 1290, 1291, 1292, 1293, 1294] (by decide +kernel) (by decide +kernel)
set_option maxRecDepth 20000 in
theorem gL_law_X10_grants : GoodIn wsL_law (wsV RL 93 RX10 yX10_grants wsX10_grants) := goodIn_app (goodIn_of _ (by decide +kernel)) ggL_law_X10_grants
set_option maxRecDepth 20000 in
theorem ggL_law_X11_grants : GoodIn wsL_law wsX11_grants := goodIn_r _ [574, 184, 575, 169, 170, 198, 199, 5, 200, 1244, 1245, 1246, 1247, 1248, 1249, 1250, 1251, 1252, 1253, 1254, 1255, 1256, 1257, 1258, 1259, 1260, 1261, 1262, 1263, 1264, 1265, 1266, 1267, 1268, 1269, 1270, 1271, 1272, 1273, 1274, 1275, 1276, 1277, 1278] (by decide +kernel) (by decide +kernel)
set_option maxRecDepth 20000 in
theorem gL_law_X11_grants : GoodIn wsL_law (wsV RL 96 RX11 yX11_grants wsX11_grants) := goodIn_app (goodIn_of _ (by decide +kernel)) ggL_law_X11_grants
set_option maxRecDepth 20000 in
theorem ggL_law_X10_indexes : GoodIn wsL_law wsX10_indexes := goodIn_r _ [579, 25, 580, 581, 582, 2, 583, 331, 332, 333, 226, 227, 228, 338, 339, 340, 341, 342, 343, 71, 344, 101, 345, 346, 347, 348, 102, 349, 350, 351, 352, 103, 353, 1237, 1238, 1239, 1240, 1241, 1242, 1243, 1283, 1284, 1285, 1286, 1287, 1288, 1289, 1290, 1291, 1292, 1293, 1294, 1304, 1305, 1306] (by decide +kernel) (by decide +kernel)
set_option maxRecDepth 20000 in
theorem gL_law_X10_indexes : GoodIn wsL_law (wsV RL 97 RX10 yX10_indexes wsX10_indexes) := goodIn_app (goodIn_of _ (by decide +kernel)) ggL_law_X10_indexes
set_option maxRecDepth 20000 in
theorem ggL_law_X11_indexes : GoodIn wsL_law wsX11_indexes := goodIn_r _ [587, 184, 145, 588, 589, 5, 590, 591, 592, 363, 364, 365, 366, 198, 199, 200, 593, 594, 595, 596, 1244, 1245, 1246, 1247, 1248, 1249, 1250, 1251, 1252, 1253, 1254, 1255, 1256, 1257, 1258, 1259, 1260, 1261, 1262, 1263, 1264, 1265, 1266, 1267, 1268, 1269, 1270, 1271, 1272, 1273, 1274, 1275, 1276, 1277, 1278] (by decide +kernel) (by decide +kernel)
set_option maxRecDepth 20000 in
theorem gL_law_X11_indexes : GoodIn wsL_law (wsV RL 100 RX11 yX11_indexes wsX11_indexes) := goodIn_app (goodIn_of _ (by decide +kernel)) ggL_law_X11_indexes
set_option maxRecDepth 20000 in
theorem ggL_law_L_amount : GoodIn wsL_law wsL_amount := goodIn_ca (goodIn_r _ [600, 601, 602, 603, 604, 2, 605, 606, 607, 29, 25, 331, 332, 333, 226, 227, 228, 608, 609, 610, 28, 611, 129, 612, 613, 614, 615, 616, 617, 24, 618, 77, 63, 619, 620, 621, 622, 76, 623, 115, 111, 624, 625, 626, 627, 113, 114, 628, 629, 630, 631, 632, 67, 633, 634, 635, 636, 69, 637, 346, 347, 71, 348, 102, 638, 639, 640, 641, 642, 643, 303, 304, 66, 305, 91, 513, 514, 515, 644, 645, 646, 647, 648, 649, 650, 651, 652, 653, 654, 655, 656, 657, 83, 72, 658, 659, 660, 661, 662, 663, 664, 665, 666, 667, 668, 669, 73, 670, 671, 672, 673, 674, 675, 84, 676, 677, 678, 679, 680, 681, 682, 683, 684, 685, 686, 687, 688, 689, 690, 691, 692, 693, 694, 695, 696, 697, 698, 80, 699, 124, 700, 510, 511, 512, 119, 122, 123, 120, 121, 701, 702, 703, 704, 705, 706, 707, 708, 709, 710, 711, 85, 86, 712, 713, 714, 715, 716, 717, 718, 719, 720, 721, 722, 723, 724, 725, 726, 727, 728, 729, 730, 1237, 1238, 1239, 1240, 1241, 1242, 1243, 1295, 1283, 1284, 1285, 1286, 1287, 1288, 1289, 1290, 1291, 1292, 1293, 1294, 1298, 1299, 1300, 1301, 1302, 1307, 1308, 1309, 1310, 1311, 1304, 1305, 1306, 1303, 1312, 1313, 1314, 1315, 1316, 1317] (by decide +kernel) (by decide +kernel)) (goodIn_sub (fun _ h => List.mem_append_right _ h) (by decide +kernel))
set_option maxRecDepth 20000 in
theorem gL_law_L_amount : GoodIn wsL_law (va_wsS RL 101 yL_amount wsL_amount) := goodIn_app (goodIn_of _ (by decide +kernel)) ggL_law_L_amount
set_option maxRecDepth 20000 in
theorem ggL_law_X11_amount : GoodIn wsL_law wsX11_amount := goodIn_r _ [734, 184, 735, 152, 153, 154, 155, 156, 157, 151, 363, 364, 5, 365, 366, 198, 199, 200, 736, 737, 738, 739, 740, 741, 742, 743, 139, 744, 677, 678, 679, 168, 745, 690, 691, 520, 746, 747, 748, 749, 164, 750, 751, 752, 753, 140, 754, 755, 756, 757, 525, 526, 527, 758, 759, 760, 761, 762, 763, 764, 765, 165, 143, 766, 767, 768, 769, 770, 771, 772, 773, 774, 775, 776, 777, 778, 779, 780, 781, 782, 713, 714, 371, 372, 373, 374, 141, 783, 784, 785, 786, 787, 788, 789, 790, 593, 594, 595, 596, 145, 791, 792, 793, 794, 167, 394, 395, 396, 397, 142, 795, 796, 797, 798, 799, 800, 801, 802, 803, 804, 805, 806, 166, 521, 522, 523, 524, 144, 807, 808, 809, 810, 169, 170, 811, 812, 813, 814, 815, 710, 711, 816, 817, 818, 819, 820, 821, 822, 823, 824, 825, 826, 827, 146, 828, 829, 830, 831, 1244, 1245, 1246, 1247, 1248, 1249, 1250, 1251, 1252, 1253, 1254, 1255, 1256, 1257, 1258, 1259, 1260, 1261, 1262, 1263, 1264, 1265, 1266, 1267, 1268, 1269, 1270, 1271, 1272, 1273, 1274, 1275, 1276, 1277, 1278] (by decide +kernel) (by decide +kernel)
set_option maxRecDepth 20000 in
theorem gL_law_X11_amount : GoodIn wsL_law (wsV RL 106 RX11 yX11_amount wsX11_amount) := goodIn_app (goodIn_of _ (by decide +kernel)) ggL_law_X11_amount
set_option maxRecDepth 20000 in
theorem ggL_law_X11_thrown : GoodIn wsL_law wsX11_thrown := goodIn_r _ [835, 184, 1244, 1245, 1246, 1247, 1248, 1249, 1250, 1251, 1252, 1253, 1254, 1255, 1256, 1257, 1258, 1259, 1260, 1261, 1262, 1263, 1264, 1265, 1266, 1267, 1268, 1269, 1270, 1271, 1272, 1273, 1274, 1275, 1276, 1277, 1278] (by decide +kernel) (by decide +kernel)
set_option maxRecDepth 20000 in
theorem gL_law_X11_thrown : GoodIn wsL_law (wsV RL 107 RX11 yX11_thrown wsX11_thrown) := goodIn_app (goodIn_of _ (by decide +kernel)) ggL_law_X11_thrown
set_option maxRecDepth 20000 in
theorem ggL_law_X10_item : GoodIn wsL_law wsX10_item := goodIn_r _ [839, 25, 330, 35, 331, 332, 2, 333, 226, 227, 228, 334, 335, 336, 47, 337, 56, 840, 629, 630, 24, 631, 63, 632, 67, 633, 634, 635, 636, 69, 637, 346, 347, 71, 348, 102, 638, 639, 640, 641, 642, 643, 303, 304, 66, 305, 91, 513, 514, 515, 841, 842, 843, 34, 844, 134, 845, 846, 847, 848, 133, 849, 850, 851, 852, 628, 853, 854, 855, 856, 857, 858, 1237, 1238, 1239, 1240, 1241, 1242, 1243, 1283, 1284, 1285, 1286, 1287, 1288, 1289, 1290, 1291, 1292, 1293, 1294, 1298, 1299, 1300, 1301, 1302, 1304, 1305, 1306, 1303, 1296, 1297] (by decide +kernel) (by decide +kernel)
set_option maxRecDepth 20000 in
theorem gL_law_X10_item : GoodIn wsL_law (wsV RL 110 RX10 yX10_item wsX10_item) := goodIn_app (goodIn_of _ (by decide +kernel)) ggL_law_X10_item
set_option maxRecDepth 20000 in
theorem ggL_law_X11_item : GoodIn wsL_law wsX11_item := goodIn_r _ [862, 184, 863, 363, 364, 5, 365, 366, 198, 199, 200, 367, 368, 369, 370, 164, 778, 779, 780, 781, 782, 713, 678, 714, 139, 371, 372, 373, 374, 141, 783, 784, 785, 786, 750, 751, 752, 753, 140, 525, 526, 527, 520, 754, 755, 756, 757, 864, 865, 866, 867, 149, 868, 869, 870, 871, 1244, 1245, 1246, 1247, 1248, 1249, 1250, 1251, 1252, 1253, 1254, 1255, 1256, 1257, 1258, 1259, 1260, 1261, 1262, 1263, 1264, 1265, 1266, 1267, 1268, 1269, 1270, 1271, 1272, 1273, 1274, 1275, 1276, 1277, 1278] (by decide +kernel) (by decide +kernel)
set_option maxRecDepth 20000 in
theorem gL_law_X11_item : GoodIn wsL_law (wsV RL 113 RX11 yX11_item wsX11_item) := goodIn_app (goodIn_of _ (by decide +kernel)) ggL_law_X11_item
set_option maxRecDepth 20000 in
theorem ggL_law_X10_priced : GoodIn wsL_law wsX10_priced := goodIn_r _ [875, 25, 402, 876, 35, 877, 436, 330, 878, 437, 438, 439, 76, 440, 115, 841, 842, 843, 34, 844, 134, 845, 846, 847, 848, 133, 853, 879, 625, 626, 627, 113, 114, 880, 881, 882, 47, 883, 56, 53, 884, 885, 886, 887, 888, 889, 890, 1237, 1238, 1239, 1240, 1241, 1242, 1243, 1283, 1284, 1285, 1286, 1287, 1288, 1289, 1290, 1291, 1292, 1293, 1294, 1307, 1308, 1309, 1310, 1311, 1296, 1297, 1298, 1299, 1300, 1301, 1302] (by decide +kernel) (by decide +kernel)
set_option maxRecDepth 20000 in
theorem gL_law_X10_priced : GoodIn wsL_law (wsV RL 114 RX10 yX10_priced wsX10_priced) := goodIn_app (goodIn_of _ (by decide +kernel)) ggL_law_X10_priced
set_option maxRecDepth 20000 in
theorem ggL_law_X11_priced : GoodIn wsL_law wsX11_priced := goodIn_r _ [894, 184, 863, 143, 445, 446, 447, 5, 448, 165, 198, 199, 200, 864, 865, 866, 867, 149, 766, 767, 768, 769, 770, 771, 772, 773, 164, 774, 775, 776, 777, 140, 750, 751, 752, 753, 754, 755, 756, 757, 895, 896, 897, 898, 899, 900, 901, 1244, 1245, 1246, 1247, 1248, 1249, 1250, 1251, 1252, 1253, 1254, 1255, 1256, 1257, 1258, 1259, 1260, 1261, 1262, 1263, 1264, 1265, 1266, 1267, 1268, 1269, 1270, 1271, 1272, 1273, 1274, 1275, 1276, 1277, 1278] (by decide +kernel) (by decide +kernel)
set_option maxRecDepth 20000 in
theorem gL_law_X11_priced : GoodIn wsL_law (wsV RL 117 RX11 yX11_priced wsX11_priced) := goodIn_app (goodIn_of _ (by decide +kernel)) ggL_law_X11_priced
set_option maxRecDepth 20000 in
theorem ggL_law_X10_held : GoodIn wsL_law wsX10_held := goodIn_r _ [905, 25, 453, 35, 472, 906, 467, 506, 507, 473, 474, 475, 80, 476, 124, 331, 332, 2, 333, 226, 227, 228, 841, 842, 843, 34, 844, 134, 845, 846, 847, 848, 133, 853, 907, 908, 909, 509, 510, 511, 512, 119, 122, 123, 120, 121, 513, 514, 515, 1237, 1238, 1239, 1240, 1241, 1242, 1243, 1283, 1284, 1285, 1286, 1287, 1288, 1289, 1290, 1291, 1292, 1293, 1294, 1312, 1313, 1314, 1315, 1316, 1317, 1296, 1297] (by decide +kernel) (by decide +kernel)
set_option maxRecDepth 20000 in
theorem gL_law_X10_held : GoodIn wsL_law (wsV RL 118 RX10 yX10_held wsX10_held) := goodIn_app (goodIn_of _ (by decide +kernel)) ggL_law_X10_held
set_option maxRecDepth 20000 in
theorem ggL_law_X11_held : GoodIn wsL_law wsX11_held := goodIn_r _ [913, 184, 863, 144, 494, 495, 496, 5, 497, 166, 198, 199, 200, 363, 364, 365, 366, 864, 865, 866, 867, 149, 914, 915, 916, 521, 522, 523, 524, 525, 526, 527, 520, 1244, 1245, 1246, 1247, 1248, 1249, 1250, 1251, 1252, 1253, 1254, 1255, 1256, 1257, 1258, 1259, 1260, 1261, 1262, 1263, 1264, 1265, 1266, 1267, 1268, 1269, 1270, 1271, 1272, 1273, 1274, 1275, 1276, 1277, 1278] (by decide +kernel) (by decide +kernel)
set_option maxRecDepth 20000 in
theorem gL_law_X11_held : GoodIn wsL_law (wsV RL 121 RX11 yX11_held wsX11_held) := goodIn_app (goodIn_of _ (by decide +kernel)) ggL_law_X11_held
set_option maxRecDepth 20000 in
theorem ggL_law_X10_sum : GoodIn wsL_law wsX10_sum := goodIn_r _ [920, 35, 25, 330, 921, 922, 532, 533, 923, 924, 693, 694, 24, 695, 67, 63, 684, 643, 303, 304, 66, 305, 91, 513, 2, 514, 515, 841, 842, 843, 34, 844, 134, 845, 846, 847, 848, 133, 925, 681, 682, 683, 853, 1237, 1238, 1239, 1240, 1241, 1242, 1243, 1283, 1284, 1285, 1286, 1287, 1288, 1289, 1290, 1291, 1292, 1293, 1294, 1298, 1299, 1300, 1301, 1302, 1303, 1296, 1297] (by decide +kernel) (by decide +kernel)
set_option maxRecDepth 20000 in
theorem gL_law_X10_sum : GoodIn wsL_law (wsV RL 122 RX10 yX10_sum wsX10_sum) := goodIn_app (goodIn_of _ (by decide +kernel)) ggL_law_X10_sum
