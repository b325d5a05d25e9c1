set_option maxRecDepth 20000 in
theorem wsL_law_p1 : ∀ w ∈ wsL_law0_r1, w ∈ lw_tbl := fun w h => (goodIn_r (big := lw_tbl) wsL_law0_r1 [86, 87, 66, 1006, 1007, 79, 312, 1556, 88, 89, 90, 91, 92, 93, 94, 95, 67, 340, 110, 111, 68, 341, 154, 155] rfl (by decide +kernel) w h).1
set_option maxRecDepth 20000 in
theorem wsL_law_p2 : ∀ w ∈ wsL_law0_r2, w ∈ lw_tbl := fun w h => (goodIn_r (big := lw_tbl) wsL_law0_r2 [70, 342, 313, 314, 77, 343, 344, 345, 325, 326, 78, 346, 97, 98, 99, 109, 100, 101, 113, 114, 115, 116, 117, 69] rfl (by decide +kernel) w h).1
set_option maxRecDepth 20000 in
theorem wsL_law_p3 : ∀ w ∈ wsL_law0_r3, w ∈ lw_tbl := fun w h => (goodIn_r (big := lw_tbl) wsL_law0_r3 [146, 148, 119, 120, 121, 122, 123, 126, 128, 132, 156, 157, 158, 159, 160, 258, 162, 163, 71, 260, 177, 263, 179, 73] rfl (by decide +kernel) w h).1
set_option maxRecDepth 20000 in
theorem wsL_law_p4 : ∀ w ∈ wsL_law0_r4, w ∈ lw_tbl := fun w h => (goodIn_r (big := lw_tbl) wsL_law0_r4 [265, 267, 198, 199, 75, 269, 226, 227, 76, 272, 275, 278, 280, 283, 285, 164, 165, 166, 167, 173, 168, 170, 172, 171] rfl (by decide +kernel) w h).1
set_option maxRecDepth 20000 in
theorem wsL_law_p5 : ∀ w ∈ wsL_law0_r5, w ∈ lw_tbl := fun w h => (goodIn_r (big := lw_tbl) wsL_law0_r5 [72, 180, 181, 182, 183, 187, 189, 190, 184, 185, 74, 186, 201, 202, 203, 204, 206, 208, 210, 212, 229, 230, 231, 232] rfl (by decide +kernel) w h).1
set_option maxRecDepth 20000 in
theorem wsL_law_p6 : ∀ w ∈ wsL_law0_r6, w ∈ lw_tbl := fun w h => (goodIn_r (big := lw_tbl) wsL_law0_r6 [234, 236, 238, 240, 242, 316, 317, 318, 319, 321, 328, 329, 330, 331, 333, 1008, 1009, 1010, 1011, 1016, 1017, 1019, 1020, 1021] rfl (by decide +kernel) w h).1
set_option maxRecDepth 20000 in
theorem wsL_law_p7 : ∀ w ∈ wsL_law0_r7, w ∈ lw_tbl := fun w h => (goodIn_r (big := lw_tbl) wsL_law0_r7 [1023, 1029, 1030, 1122, 1031, 1033, 1039, 1040, 1041, 1042, 1043, 1044, 1045, 1046, 1047, 1048, 1012, 1014, 16, 1015, 1018, 1022, 1024, 1025] rfl (by decide +kernel) w h).1
set_option maxRecDepth 20000 in
theorem wsL_law_p8 : ∀ w ∈ wsL_law0_r8, w ∈ lw_tbl := fun w h => (goodIn_r (big := lw_tbl) wsL_law0_r8 [1026, 1027, 1028, 362, 363, 364, 365, 103, 366, 367, 368, 369, 1127, 1128, 1129, 1130, 1035, 1032, 370, 371, 372, 373, 374, 375] rfl (by decide +kernel) w h).1
set_option maxRecDepth 20000 in
theorem wsL_law_p9 : ∀ w ∈ wsL_law0_r9, w ∈ lw_tbl := fun w h => (goodIn_r (big := lw_tbl) wsL_law0_r9 [376, 377, 1131, 1132, 1133, 1134, 1135, 1136, 1137, 378, 379, 380, 381, 147, 382, 383, 384, 385, 102, 129, 386, 387, 388, 389] rfl (by decide +kernel) w h).1
set_option maxRecDepth 20000 in
theorem wsL_law_p10 : ∀ w ∈ wsL_law0_r10, w ∈ lw_tbl := fun w h => (goodIn_r (big := lw_tbl) wsL_law0_r10 [390, 392, 0, 393, 394, 395, 396, 397, 399, 400, 401, 402, 403, 404, 406, 1, 407, 408, 410, 2, 411, 412, 414, 3] rfl (by decide +kernel) w h).1
set_option maxRecDepth 20000 in
theorem wsL_law_p11 : ∀ w ∈ wsL_law0_r11, w ∈ lw_tbl := fun w h => (goodIn_r (big := lw_tbl) wsL_law0_r11 [415, 417, 418, 419, 420, 421, 422, 423, 424, 213, 243, 425, 426, 427, 428, 429, 430, 431, 432, 433, 434, 435, 436, 437] rfl (by decide +kernel) w h).1
set_option maxRecDepth 20000 in
theorem wsL_law_p12 : ∀ w ∈ wsL_law0_r12, w ∈ lw_tbl := fun w h => (goodIn_r (big := lw_tbl) wsL_law0_r12 [1138, 1139, 1140, 1141, 1036, 1037, 1038, 1154, 1155, 1142, 1144, 17, 1145, 1146, 1148, 18, 1149, 1150, 1152, 19, 1153, 1156, 1158, 20] rfl (by decide +kernel) w h).1
set_option maxRecDepth 20000 in
theorem wsL_law_p13 : ∀ w ∈ wsL_law0_r13, w ∈ lw_tbl := fun w h => (goodIn_r (big := lw_tbl) wsL_law0_r13 [1159, 1160, 438, 439, 440, 441, 261, 442, 443, 444, 448, 445, 446, 447, 451, 452, 453, 454, 455, 456, 457, 458, 1161, 1162] rfl (by decide +kernel) w h).1
