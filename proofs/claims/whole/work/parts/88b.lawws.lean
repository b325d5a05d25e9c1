set_option maxRecDepth 20000 in
theorem wsL_law_p14 : ∀ w ∈ wsL_law0_r14, w ∈ lw_tbl := fun w h => (goodIn_r (big := lw_tbl) wsL_law0_r14 [1163, 1164, 1165, 1166, 1167, 1168, 1169, 1170, 1171, 459, 460, 461, 462, 264, 463, 465, 4, 466, 259, 467, 468, 469, 470, 471] rfl (by decide +kernel) w h).1
set_option maxRecDepth 20000 in
theorem wsL_law_p15 : ∀ w ∈ wsL_law0_r15, w ∈ lw_tbl := fun w h => (goodIn_r (big := lw_tbl) wsL_law0_r15 [472, 473, 474, 475, 476, 477, 478, 479, 480, 481, 482, 483, 484, 485, 486, 487, 488, 489, 1172, 1173, 1174, 1175, 1176, 1178] rfl (by decide +kernel) w h).1
set_option maxRecDepth 20000 in
theorem wsL_law_p16 : ∀ w ∈ wsL_law0_r16, w ∈ lw_tbl := fun w h => (goodIn_r (big := lw_tbl) wsL_law0_r16 [21, 1179, 1188, 1180, 1181, 1182, 1183, 1184, 1186, 22, 1187, 1189, 1191, 23, 1192, 490, 491, 492, 493, 1193, 1194, 1195, 1196, 494] rfl (by decide +kernel) w h).1
set_option maxRecDepth 20000 in
theorem wsL_law_p17 : ∀ w ∈ wsL_law0_r17, w ∈ lw_tbl := fun w h => (goodIn_r (big := lw_tbl) wsL_law0_r17 [495, 496, 497, 498, 266, 1197, 1198, 1199, 1200, 1201, 1202, 1204, 24, 1205, 499, 500, 501, 502, 271, 214, 503, 504, 505, 506] rfl (by decide +kernel) w h).1
set_option maxRecDepth 20000 in
theorem wsL_law_p18 : ∀ w ∈ wsL_law0_r18, w ∈ lw_tbl := fun w h => (goodIn_r (big := lw_tbl) wsL_law0_r18 [507, 508, 509, 510, 511, 512, 513, 514, 515, 516, 517, 1206, 1207, 1208, 1209, 1218, 1210, 1211, 1212, 1213, 1214, 1215, 1216, 1217] rfl (by decide +kernel) w h).1
set_option maxRecDepth 20000 in
theorem wsL_law_p19 : ∀ w ∈ wsL_law0_r19, w ∈ lw_tbl := fun w h => (goodIn_r (big := lw_tbl) wsL_law0_r19 [518, 519, 520, 521, 209, 522, 523, 524, 525, 1219, 1220, 1221, 1222, 1223, 1225, 25, 1226, 526, 527, 528, 529, 274, 244, 530] rfl (by decide +kernel) w h).1
set_option maxRecDepth 20000 in
theorem wsL_law_p20 : ∀ w ∈ wsL_law0_r20, w ∈ lw_tbl := fun w h => (goodIn_r (big := lw_tbl) wsL_law0_r20 [531, 532, 533, 1227, 1228, 1229, 1230, 534, 535, 536, 537, 237, 538, 540, 5, 541, 233, 542, 543, 544, 545, 546, 547, 548] rfl (by decide +kernel) w h).1
set_option maxRecDepth 20000 in
theorem wsL_law_p21 : ∀ w ∈ wsL_law0_r21, w ∈ lw_tbl := fun w h => (goodIn_r (big := lw_tbl) wsL_law0_r21 [549, 550, 551, 552, 553, 554, 555, 556, 557, 558, 1231, 1232, 1233, 1234, 1235, 1237, 26, 1238, 1239, 1241, 27, 1242, 559, 560] rfl (by decide +kernel) w h).1
set_option maxRecDepth 20000 in
theorem wsL_law_p22 : ∀ w ∈ wsL_law0_r22, w ∈ lw_tbl := fun w h => (goodIn_r (big := lw_tbl) wsL_law0_r22 [561, 562, 239, 241, 563, 564, 565, 566, 567, 569, 570, 571, 1243, 1244, 1245, 1246, 1247, 1248, 1250, 28, 1251, 1252, 1253, 1254] rfl (by decide +kernel) w h).1
set_option maxRecDepth 20000 in
theorem wsL_law_p23 : ∀ w ∈ wsL_law0_r23, w ∈ lw_tbl := fun w h => (goodIn_r (big := lw_tbl) wsL_law0_r23 [572, 573, 574, 575, 279, 282, 1255, 1256, 1257, 1258, 576, 577, 578, 579, 1259, 1260, 1261, 1262, 580, 581, 582, 583, 584, 277] rfl (by decide +kernel) w h).1
set_option maxRecDepth 20000 in
theorem wsL_law_p24 : ∀ w ∈ wsL_law0_r24, w ∈ lw_tbl := fun w h => (goodIn_r (big := lw_tbl) wsL_law0_r24 [1263, 1264, 1265, 1266, 1267, 585, 586, 587, 588, 284, 1268, 1269, 1270, 1271, 589, 590, 591, 592, 286, 1272, 1273, 1274, 1275, 1276] rfl (by decide +kernel) w h).1
set_option maxRecDepth 20000 in
theorem wsL_law_p25 : ∀ w ∈ wsL_law0_r25, w ∈ lw_tbl := fun w h => (goodIn_r (big := lw_tbl) wsL_law0_r25 [593, 594, 595, 596, 268, 597, 598, 599, 1277, 1278, 1279, 1280, 1281, 1282, 1283, 1284, 1285, 1286, 1288, 29, 1289, 930, 931, 65] rfl (by decide +kernel) w h).1
set_option maxRecDepth 20000 in
theorem wsL_law_p26 : ∀ w ∈ wsL_law0_r26, w ∈ lw_tbl := fun w h => (goodIn_r (big := lw_tbl) wsL_law0_r26 [932, 933, 934, 935, 936, 937, 938, 83, 680, 681, 682, 683, 270, 262, 276, 684, 685, 686, 687, 130, 688, 689, 690, 691] rfl (by decide +kernel) w h).1
