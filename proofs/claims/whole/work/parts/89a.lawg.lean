set_option maxRecDepth 20000 in
theorem ggL_law_X10_init : GoodIn wsL_law wsX10_init := goodIn_r _ [10, 11, 12, 13, 14, 15, 16, 17, 18, 19, 20, 21, 22, 23, 24, 25, 26, 27, 28, 29, 30, 6, 31, 32, 33, 34, 35, 36, 37, 38, 39, 40, 41, 42, 43, 44, 45, 46, 47, 48, 49, 50, 51, 52, 53, 54, 55, 56, 57, 58, 59, 60, 61, 62, 63, 64, 65, 66, 67, 68, 69, 70, 71, 72, 73, 74, 75, 76, 77, 78, 79, 80, 81, 82, 83, 84, 85, 86, 87, 88, 89, 90, 91, 92, 93, 94, 95, 96, 97, 98, 99, 100, 101, 102, 103, 104, 105, 106, 107, 108, 109, 110, 111, 112, 113, 114, 115, 116, 117, 118, 119, 120, 121, 122, 123, 124, 125, 126, 127, 128, 129, 130, 131, 132, 133, 134, 1279, 1280, 1237, 1238, 1239, 1240, 1241, 1242, 1243, 1281, 1282, 1283, 1284, 1285, 1286, 1287, 1288, 1289, 1290, 1291, 1292, 1293, 1294, 1295, 1296, 1297, 1298, 1299, 1300, 1301, 1302, 1303, 1304, 1305, 1306, 1307, 1308, 1309, 1310, 1311, 1312, 1313, 1314, 1315, 1316, 1317] (by decide +kernel) (by decide +kernel)
set_option maxRecDepth 20000 in
theorem gL_law_X10_init : GoodIn wsL_law (wsX10_init) := ggL_law_X10_init
set_option maxRecDepth 20000 in
theorem ggL_law_X11_init : GoodIn wsL_law wsX11_init := goodIn_r _ [137, 138, 12, 13, 39, 139, 140, 141, 142, 143, 144, 145, 146, 147, 148, 6, 149, 150, 151, 152, 153, 154, 155, 156, 157, 158, 159, 160, 161, 162, 5, 163, 164, 165, 166, 167, 168, 169, 170, 1244, 1245, 1246, 1247, 1248, 1249, 1250, 1251, 1252, 1253, 1254, 1255, 1256, 1257, 1258, 1259, 1260, 1261, 1262, 1263, 1264, 1265, 1266, 1267, 1268, 1269, 1270, 1271, 1272, 1273, 1274, 1275, 1276, 1277, 1278] (by decide +kernel) (by decide +kernel)
set_option maxRecDepth 20000 in
theorem gL_law_X11_init : GoodIn wsL_law (wsX11_init) := ggL_law_X11_init
set_option maxRecDepth 20000 in
theorem ggL_law_X10_sign : GoodIn wsL_law wsX10_sign := goodIn_r _ [174, 17, 175, 176, 177, 178, 16, 179, 41, 40, 1237, 1238, 1239, 1240, 1241, 1242, 1243, 1279, 1280] (by decide +kernel) (by decide +kernel)
set_option maxRecDepth 20000 in
theorem gL_law_X10_sign : GoodIn wsL_law (wsV RL 23 RX10 yX10_sign wsX10_sign) := goodIn_app (goodIn_of _ (by decide +kernel)) ggL_law_X10_sign
set_option maxRecDepth 20000 in
theorem ggL_law_X11_sign : GoodIn wsL_law wsX11_sign := goodIn_r _ [183, 184, 185, 148, 1244, 1245, 1246, 1247, 1248, 1249, 1250, 1251, 1252, 1253, 1254, 1255, 1256, 1257, 1258, 1259, 1260, 1261, 1262, 1263, 1264, 1265, 1266, 1267, 1268, 1269, 1270, 1271, 1272, 1273, 1274, 1275, 1276, 1277, 1278] (by decide +kernel) (by decide +kernel)
set_option maxRecDepth 20000 in
theorem gL_law_X11_sign : GoodIn wsL_law (wsV RL 27 RX11 yX11_sign wsX11_sign) := goodIn_app (goodIn_of _ (by decide +kernel)) ggL_law_X11_sign
set_option maxRecDepth 20000 in
theorem ggL_law_X10_end : GoodIn wsL_law wsX10_end := goodIn_r _ [189, 17, 190, 191, 192, 16, 193, 41, 1237, 1238, 1239, 1240, 1241, 1242, 1243, 1279, 1280] (by decide +kernel) (by decide +kernel)
set_option maxRecDepth 20000 in
theorem gL_law_X10_end : GoodIn wsL_law (wsV RL 28 RX10 yX10_end wsX10_end) := goodIn_app (goodIn_of _ (by decide +kernel)) ggL_law_X10_end
set_option maxRecDepth 20000 in
theorem ggL_law_X11_end : GoodIn wsL_law wsX11_end := goodIn_r _ [197, 184, 185, 198, 199, 5, 200, 1244, 1245, 1246, 1247, 1248, 1249, 1250, 1251, 1252, 1253, 1254, 1255, 1256, 1257, 1258, 1259, 1260, 1261, 1262, 1263, 1264, 1265, 1266, 1267, 1268, 1269, 1270, 1271, 1272, 1273, 1274, 1275, 1276, 1277, 1278] (by decide +kernel) (by decide +kernel)
set_option maxRecDepth 20000 in
theorem gL_law_X11_end : GoodIn wsL_law (wsV RL 32 RX11 yX11_end wsX11_end) := goodIn_app (goodIn_of _ (by decide +kernel)) ggL_law_X11_end
set_option maxRecDepth 20000 in
theorem ggL_law_X10_bill : GoodIn wsL_law wsX10_bill := goodIn_r _ [204, 21, 17, 175, 25, 205, 206, 207, 208, 20, 209, 49, 48, 210, 211, 212, 213, 214, 47, 215, 56, 57, 216, 217, 218, 219, 220, 221, 222, 16, 223, 41, 40, 224, 2, 225, 226, 227, 228, 229, 230, 231, 232, 233, 234, 235, 236, 237, 238, 239, 240, 241, 242, 243, 244, 53, 54, 55, 245, 246, 247, 24, 248, 63, 69, 72, 73, 77, 249, 81, 250, 82, 83, 84, 85, 86, 251, 252, 253, 254, 255, 256, 257, 258, 259, 71, 260, 101, 102, 103, 104, 105, 106, 107, 261, 262, 263, 1237, 1238, 1239, 1240, 1241, 1242, 1243, 1279, 1280, 1281, 1282, 1298, 1299, 1300, 1301, 1302, 1283, 1284, 1285, 1286, 1287, 1288, 1289, 1290, 1291, 1292, 1293, 1294, 1307, 1308, 1309, 1310, 1311, 1312, 1313, 1314, 1315, 1316, 1317, 1304, 1305, 1306] (by decide +kernel) (by decide +kernel)
set_option maxRecDepth 20000 in
theorem gL_law_X10_bill : GoodIn wsL_law (wsV RL 33 RX10 yX10_bill wsX10_bill) := goodIn_app (goodIn_of _ (by decide +kernel)) ggL_law_X10_bill
set_option maxRecDepth 20000 in
theorem ggL_law_X11_bill : GoodIn wsL_law wsX11_bill := goodIn_r _ [267, 184, 185, 268, 269, 270, 271, 272, 150, 164, 140, 273, 274, 275, 5, 276, 277, 278, 279, 280, 281, 282, 283, 284, 148, 198, 199, 200, 285, 286, 287, 288, 289, 160, 161, 162, 163, 165, 166, 167, 168, 169, 170, 141, 142, 145, 146, 1244, 1245, 1246, 1247, 1248, 1249, 1250, 1251, 1252, 1253, 1254, 1255, 1256, 1257, 1258, 1259, 1260, 1261, 1262, 1263, 1264, 1265, 1266, 1267, 1268, 1269, 1270, 1271, 1272, 1273, 1274, 1275, 1276, 1277, 1278] (by decide +kernel) (by decide +kernel)
set_option maxRecDepth 20000 in
theorem gL_law_X11_bill : GoodIn wsL_law (wsV RL 37 RX11 yX11_bill wsX11_bill) := goodIn_app (goodIn_of _ (by decide +kernel)) ggL_law_X11_bill
set_option maxRecDepth 20000 in
theorem ggL_law_X10_terms : GoodIn wsL_law wsX10_terms := goodIn_r _ [293, 25, 294, 295, 296, 66, 297, 298, 299, 300, 301, 227, 2, 228, 302, 303, 304, 305, 91, 306, 307, 308, 309, 1237, 1238, 1239, 1240, 1241, 1242, 1243, 1283, 1284, 1285, 1286, 1287, 1288, 1289, 1290, 1291, 1292, 1293, 1294, 1303] (by decide +kernel) (by decide +kernel)
set_option maxRecDepth 20000 in
theorem gL_law_X10_terms : GoodIn wsL_law (wsV RL 38 RX10 yX10_terms wsX10_terms) := goodIn_app (goodIn_of _ (by decide +kernel)) ggL_law_X10_terms
set_option maxRecDepth 20000 in
theorem ggL_law_X11_terms : GoodIn wsL_law wsX11_terms := goodIn_r _ [313, 184, 139, 314, 315, 5, 316, 317, 198, 199, 200, 318, 319, 320, 1244, 1245, 1246, 1247, 1248, 1249, 1250, 1251, 1252, 1253, 1254, 1255, 1256, 1257, 1258, 1259, 1260, 1261, 1262, 1263, 1264, 1265, 1266, 1267, 1268, 1269, 1270, 1271, 1272, 1273, 1274, 1275, 1276, 1277, 1278] (by decide +kernel) (by decide +kernel)
set_option maxRecDepth 20000 in
theorem gL_law_X11_terms : GoodIn wsL_law (wsV RL 42 RX11 yX11_terms wsX11_terms) := goodIn_app (goodIn_of _ (by decide +kernel)) ggL_law_X11_terms
set_option maxRecDepth 20000 in
theorem ggL_law_X10_measures : GoodIn wsL_law wsX10_measures := goodIn_r _ [324, 25, 325, 326, 327, 328, 2, 329, 330, 331, 332, 333, 226, 227, 228, 334, 335, 336, 47, 337, 56, 338, 339, 340, 341, 342, 343, 71, 344, 101, 345, 346, 347, 348, 102, 349, 350, 351, 352, 103, 353, 1237, 1238, 1239, 1240, 1241, 1242, 1243, 1283, 1284, 1285, 1286, 1287, 1288, 1289, 1290, 1291, 1292, 1293, 1294, 1298, 1299, 1300, 1301, 1302, 1304, 1305, 1306] (by decide +kernel) (by decide +kernel)
set_option maxRecDepth 20000 in
theorem gL_law_X10_measures : GoodIn wsL_law (wsV RL 43 RX10 yX10_measures wsX10_measures) := goodIn_app (goodIn_of _ (by decide +kernel)) ggL_law_X10_measures
set_option maxRecDepth 20000 in
theorem ggL_law_X11_measures : GoodIn wsL_law wsX11_measures := goodIn_r _ [357, 184, 141, 358, 359, 360, 5, 361, 362, 363, 364, 365, 366, 198, 199, 200, 367, 368, 369, 370, 164, 371, 372, 373, 374, 1244, 1245, 1246, 1247, 1248, 1249, 1250, 1251, 1252, 1253, 1254, 1255, 1256, 1257, 1258, 1259, 1260, 1261, 1262, 1263, 1264, 1265, 1266, 1267, 1268, 1269, 1270, 1271, 1272, 1273, 1274, 1275, 1276, 1277, 1278] (by decide +kernel) (by decide +kernel)
set_option maxRecDepth 20000 in
theorem gL_law_X11_measures : GoodIn wsL_law (wsV RL 47 RX11 yX11_measures wsX11_measures) := goodIn_app (goodIn_of _ (by decide +kernel)) ggL_law_X11_measures
set_option maxRecDepth 20000 in
theorem ggL_law_X10_strikes : GoodIn wsL_law wsX10_strikes := goodIn_r _ [378, 25, 330, 325, 331, 332, 2, 333, 226, 227, 228, 334, 335, 336, 47, 337, 56, 341, 342, 343, 71, 344, 101, 349, 350, 351, 352, 102, 103, 353, 345, 346, 347, 348, 1237, 1238, 1239, 1240, 1241, 1242, 1243, 1283, 1284, 1285, 1286, 1287, 1288, 1289, 1290, 1291, 1292, 1293, 1294, 1298, 1299, 1300, 1301, 1302, 1304, 1305, 1306] (by decide +kernel) (by decide +kernel)
set_option maxRecDepth 20000 in
theorem gL_law_X10_strikes : GoodIn wsL_law (wsV RL 48 RX10 yX10_strikes wsX10_strikes) := goodIn_app (goodIn_of _ (by decide +kernel)) ggL_law_X10_strikes
set_option maxRecDepth 20000 in
theorem ggL_law_X11_strikes : GoodIn wsL_law wsX11_strikes := goodIn_r _ [382, 184, 141, 363, 364, 5, 365, 366, 198, 199, 200, 367, 368, 369, 370, 164, 371, 372, 373, 374, 1244, 1245, 1246, 1247, 1248, 1249, 1250, 1251, 1252, 1253, 1254, 1255, 1256, 1257, 1258, 1259, 1260, 1261, 1262, 1263, 1264, 1265, 1266, 1267, 1268, 1269, 1270, 1271, 1272, 1273, 1274, 1275, 1276, 1277, 1278] (by decide +kernel) (by decide +kernel)
set_option maxRecDepth 20000 in
theorem gL_law_X11_strikes : GoodIn wsL_law (wsV RL 51 RX11 yX11_strikes wsX11_strikes) := goodIn_app (goodIn_of _ (by decide +kernel)) ggL_law_X11_strikes
set_option maxRecDepth 20000 in
theorem ggL_law_X10_stores : GoodIn wsL_law wsX10_stores := goodIn_r _ [386, 387, 25, 388, 331, 332, 2, 333, 226, 227, 228, 338, 339, 340, 341, 342, 343, 71, 344, 101, 345, 346, 347, 348, 102, 349, 350, 351, 352, 103, 353, 1237, 1238, 1239, 1240, 1241, 1242, 1243, 1283, 1284, 1285, 1286, 1287, 1288, 1289, 1290, 1291, 1292, 1293, 1294, 1304, 1305, 1306] (by decide +kernel) (by decide +kernel)
set_option maxRecDepth 20000 in
theorem gL_law_X10_stores : GoodIn wsL_law (wsV RL 52 RX10 yX10_stores wsX10_stores) := goodIn_app (goodIn_of _ (by decide +kernel)) ggL_law_X10_stores
set_option maxRecDepth 20000 in
theorem ggL_law_X11_stores : GoodIn wsL_law wsX11_stores := goodIn_r _ [392, 184, 393, 142, 363, 364, 5, 365, 366, 198, 199, 200, 394, 395, 396, 397, 1244, 1245, 1246, 1247, 1248, 1249, 1250, 1251, 1252, 1253, 1254, 1255, 1256, 1257, 1258, 1259, 1260, 1261, 1262, 1263, 1264, 1265, 1266, 1267, 1268, 1269, 1270, 1271, 1272, 1273, 1274, 1275, 1276, 1277, 1278] (by decide +kernel) (by decide +kernel)
set_option maxRecDepth 20000 in
theorem gL_law_X11_stores : GoodIn wsL_law (wsV RL 55 RX11 yX11_stores wsX11_stores) := goodIn_app (goodIn_of _ (by decide +kernel)) ggL_law_X11_stores
set_option maxRecDepth 20000 in
theorem ggL_law_X10_change : GoodIn wsL_law wsX10_change := goodIn_r _ [401, 25, 402, 403, 330, 331, 332, 2, 333, 226, 227, 228, 404, 224, 225, 405, 406, 407, 408, 409, 410, 411, 412, 413, 47, 414, 56, 53, 54, 55, 415, 416, 417, 76, 418, 115, 111, 112, 113, 114, 1237, 1238, 1239, 1240, 1241, 1242, 1243, 1283, 1284, 1285, 1286, 1287, 1288, 1289, 1290, 1291, 1292, 1293, 1294, 1307, 1308, 1309, 1310, 1311, 1298, 1299, 1300, 1301, 1302] (by decide +kernel) (by decide +kernel)
set_option maxRecDepth 20000 in
theorem gL_law_X10_change : GoodIn wsL_law (wsV RL 56 RX10 yX10_change wsX10_change) := goodIn_app (goodIn_of _ (by decide +kernel)) ggL_law_X10_change
set_option maxRecDepth 20000 in
theorem ggL_law_X11_change : GoodIn wsL_law wsX11_change := goodIn_r _ [422, 184, 423, 165, 143, 363, 364, 5, 365, 366, 198, 199, 200, 424, 425, 426, 427, 428, 429, 430, 431, 1244, 1245, 1246, 1247, 1248, 1249, 1250, 1251, 1252, 1253, 1254, 1255, 1256, 1257, 1258, 1259, 1260, 1261, 1262, 1263, 1264, 1265, 1266, 1267, 1268, 1269, 1270, 1271, 1272, 1273, 1274, 1275, 1276, 1277, 1278] (by decide +kernel) (by decide +kernel)
set_option maxRecDepth 20000 in
theorem gL_law_X11_change : GoodIn wsL_law (wsV RL 60 RX11 yX11_change wsX11_change) := goodIn_app (goodIn_of _ (by decide +kernel)) ggL_law_X11_change
set_option maxRecDepth 20000 in
theorem ggL_law_X10_alters : GoodIn wsL_law wsX10_alters := goodIn_r _ [435, 25, 402, 436, 437, 438, 439, 76, 440, 115, 405, 406, 2, 407, 226, 227, 228, 1237, 1238, 1239, 1240, 1241, 1242, 1243, 1283, 1284, 1285, 1286, 1287, 1288, 1289, 1290, 1291, 1292, 1293, 1294, 1307, 1308, 1309, 1310, 1311] (by decide +kernel) (by decide +kernel)
set_option maxRecDepth 20000 in
theorem gL_law_X10_alters : GoodIn wsL_law (wsV RL 61 RX10 yX10_alters wsX10_alters) := goodIn_app (goodIn_of _ (by decide +kernel)) ggL_law_X10_alters
set_option maxRecDepth 20000 in
theorem ggL_law_X11_alters : GoodIn wsL_law wsX11_alters := goodIn_r _ [444, 184, 143, 445, 446, 447, 5, 448, 165, 198, 199, 200, 428, 429, 430, 431, 423, 1244, 1245, 1246, 1247, 1248, 1249, 1250, 1251, 1252, 1253, 1254, 1255, 1256, 1257, 1258, 1259, 1260, 1261, 1262, 1263, 1264, 1265, 1266, 1267, 1268, 1269, 1270, 1271, 1272, 1273, 1274, 1275, 1276, 1277, 1278] (by decide +kernel) (by decide +kernel)
set_option maxRecDepth 20000 in
theorem gL_law_X11_alters : GoodIn wsL_law (wsV RL 64 RX11 yX11_alters wsX11_alters) := goodIn_app (goodIn_of _ (by decide +kernel)) ggL_law_X11_alters
set_option maxRecDepth 20000 in
theorem ggL_law_X10_setsOff : GoodIn wsL_law wsX10_setsOff := goodIn_r _ [452, 387, 25, 453, 454, 331, 332, 2, 333, 226, 227, 228, 455, 456, 457, 80, 458, 124, 119, 120, 121, 122, 123, 1237, 1238, 1239, 1240, 1241, 1242, 1243, 1283, 1284, 1285, 1286, 1287, 1288, 1289, 1290, 1291, 1292, 1293, 1294, 1312, 1313, 1314, 1315, 1316, 1317] (by decide +kernel) (by decide +kernel)
set_option maxRecDepth 20000 in
theorem gL_law_X10_setsOff : GoodIn wsL_law (wsV RL 65 RX10 yX10_setsOff wsX10_setsOff) := goodIn_app (goodIn_of _ (by decide +kernel)) ggL_law_X10_setsOff
set_option maxRecDepth 20000 in
theorem ggL_law_X11_setsOff : GoodIn wsL_law wsX11_setsOff := goodIn_r _ [462, 184, 393, 166, 144, 363, 364, 5, 365, 366, 198, 199, 200, 1244, 1245, 1246, 1247, 1248, 1249, 1250, 1251, 1252, 1253, 1254, 1255, 1256, 1257, 1258, 1259, 1260, 1261, 1262, 1263, 1264, 1265, 1266, 1267, 1268, 1269, 1270, 1271, 1272, 1273, 1274, 1275, 1276, 1277, 1278] (by decide +kernel) (by decide +kernel)
set_option maxRecDepth 20000 in
theorem gL_law_X11_setsOff : GoodIn wsL_law (wsV RL 68 RX11 yX11_setsOff wsX11_setsOff) := goodIn_app (goodIn_of _ (by decide +kernel)) ggL_law_X11_setsOff
set_option maxRecDepth 20000 in
theorem ggL_law_X10_disputes : GoodIn wsL_law wsX10_disputes := goodIn_r _ [466, 25, 453, 467, 468, 469, 470, 2, 471, 472, 473, 474, 475, 80, 476, 124, 331, 332, 333, 226, 227, 228, 477, 478, 479, 480, 121, 481, 482, 483, 484, 485, 486, 487, 488, 489, 122, 1237, 1238, 1239, 1240, 1241, 1242, 1243, 1283, 1284, 1285, 1286, 1287, 1288, 1289, 1290, 1291, 1292, 1293, 1294, 1312, 1313, 1314, 1315, 1316, 1317] (by decide +kernel) (by decide +kernel)
set_option maxRecDepth 20000 in
theorem gL_law_X10_disputes : GoodIn wsL_law (wsV RL 69 RX10 yX10_disputes wsX10_disputes) := goodIn_app (goodIn_of _ (by decide +kernel)) ggL_law_X10_disputes
set_option maxRecDepth 20000 in
theorem ggL_law_X11_disputes : GoodIn wsL_law wsX11_disputes := goodIn_r _ [493, 184, 144, 494, 495, 496, 5, 497, 166, 198, 199, 200, 363, 364, 365, 366, 498, 499, 500, 501, 1244, 1245, 1246, 1247, 1248, 1249, 1250, 1251, 1252, 1253, 1254, 1255, 1256, 1257, 1258, 1259, 1260, 1261, 1262, 1263, 1264, 1265, 1266, 1267, 1268, 1269, 1270, 1271, 1272, 1273, 1274, 1275, 1276, 1277, 1278] (by decide +kernel) (by decide +kernel)
set_option maxRecDepth 20000 in
theorem gL_law_X11_disputes : GoodIn wsL_law (wsV RL 72 RX11 yX11_disputes wsX11_disputes) := goodIn_app (goodIn_of _ (by decide +kernel)) ggL_law_X11_disputes
