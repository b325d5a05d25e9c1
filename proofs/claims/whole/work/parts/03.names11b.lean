theorem dX11_layOwed_77 : decode cX11_layOwed 77 = .ok (.iinc 1 1, 3) := by decide +kernel
theorem dX11_layOwed_80 : decode cX11_layOwed 80 = .ok (.goto (-78), 3) := by decide +kernel
theorem dX11_layOwed_83 : decode cX11_layOwed 83 = .ok (.return_, 1) := by decide +kernel
theorem dX11_paidTill_0 : decode cX11_paidTill 0 = .ok (.lconst 0, 1) := by decide +kernel
theorem dX11_paidTill_1 : decode cX11_paidTill 1 = .ok (.lstore_n 2, 1) := by decide +kernel
theorem dX11_paidTill_2 : decode cX11_paidTill 2 = .ok (.iconst 0, 1) := by decide +kernel
theorem dX11_paidTill_3 : decode cX11_paidTill 3 = .ok (.istore 4, 2) := by decide +kernel
theorem dX11_paidTill_5 : decode cX11_paidTill 5 = .ok (.iload 4, 2) := by decide +kernel
theorem dX11_paidTill_7 : decode cX11_paidTill 7 = .ok (.iload_n 1, 1) := by decide +kernel
theorem dX11_paidTill_8 : decode cX11_paidTill 8 = .ok (.if_icmp .gt 20, 3) := by decide +kernel
theorem dX11_paidTill_11 : decode cX11_paidTill 11 = .ok (.lload_n 2, 1) := by decide +kernel
theorem dX11_paidTill_12 : decode cX11_paidTill 12 = .ok (.aload_n 0, 1) := by decide +kernel
theorem dX11_paidTill_13 : decode cX11_paidTill 13 = .ok (.getfield 31, 3) := by decide +kernel
theorem dX11_paidTill_16 : decode cX11_paidTill 16 = .ok (.iload 4, 2) := by decide +kernel
theorem dX11_paidTill_18 : decode cX11_paidTill 18 = .ok (.iaload, 1) := by decide +kernel
theorem dX11_paidTill_19 : decode cX11_paidTill 19 = .ok (.i2l, 1) := by decide +kernel
theorem dX11_paidTill_20 : decode cX11_paidTill 20 = .ok (.ladd, 1) := by decide +kernel
theorem dX11_paidTill_21 : decode cX11_paidTill 21 = .ok (.lstore_n 2, 1) := by decide +kernel
theorem dX11_paidTill_22 : decode cX11_paidTill 22 = .ok (.iinc 4 1, 3) := by decide +kernel
theorem dX11_paidTill_25 : decode cX11_paidTill 25 = .ok (.goto (-20), 3) := by decide +kernel
theorem dX11_paidTill_28 : decode cX11_paidTill 28 = .ok (.lload_n 2, 1) := by decide +kernel
theorem dX11_paidTill_29 : decode cX11_paidTill 29 = .ok (.lreturn, 1) := by decide +kernel
theorem dX11_interestTill_0 : decode cX11_interestTill 0 = .ok (.lconst 0, 1) := by decide +kernel
theorem dX11_interestTill_1 : decode cX11_interestTill 1 = .ok (.lstore_n 2, 1) := by decide +kernel
theorem dX11_interestTill_2 : decode cX11_interestTill 2 = .ok (.iconst 0, 1) := by decide +kernel
theorem dX11_interestTill_3 : decode cX11_interestTill 3 = .ok (.istore 4, 2) := by decide +kernel
theorem dX11_interestTill_5 : decode cX11_interestTill 5 = .ok (.iload 4, 2) := by decide +kernel
theorem dX11_interestTill_7 : decode cX11_interestTill 7 = .ok (.iload_n 1, 1) := by decide +kernel
theorem dX11_interestTill_8 : decode cX11_interestTill 8 = .ok (.if_icmp .gt 19, 3) := by decide +kernel
theorem dX11_interestTill_11 : decode cX11_interestTill 11 = .ok (.lload_n 2, 1) := by decide +kernel
theorem dX11_interestTill_12 : decode cX11_interestTill 12 = .ok (.aload_n 0, 1) := by decide +kernel
theorem dX11_interestTill_13 : decode cX11_interestTill 13 = .ok (.getfield 63, 3) := by decide +kernel
theorem dX11_interestTill_16 : decode cX11_interestTill 16 = .ok (.iload 4, 2) := by decide +kernel
theorem dX11_interestTill_18 : decode cX11_interestTill 18 = .ok (.laload, 1) := by decide +kernel
theorem dX11_interestTill_19 : decode cX11_interestTill 19 = .ok (.ladd, 1) := by decide +kernel
theorem dX11_interestTill_20 : decode cX11_interestTill 20 = .ok (.lstore_n 2, 1) := by decide +kernel
theorem dX11_interestTill_21 : decode cX11_interestTill 21 = .ok (.iinc 4 1, 3) := by decide +kernel
theorem dX11_interestTill_24 : decode cX11_interestTill 24 = .ok (.goto (-19), 3) := by decide +kernel
theorem dX11_interestTill_27 : decode cX11_interestTill 27 = .ok (.lload_n 2, 1) := by decide +kernel
theorem dX11_interestTill_28 : decode cX11_interestTill 28 = .ok (.lreturn, 1) := by decide +kernel
set_option maxRecDepth 20000 in
theorem ggX11_interestAll_X11_interestTill : GoodIn wsX11_interestAll wsX11_interestTill := goodIn_r _ [5, 6, 7, 8, 9, 10, 11, 12, 13, 14, 15, 16, 17, 18, 19, 20, 21, 22, 23, 24, 25, 26, 27, 28, 29, 30, 31, 32, 33, 34, 35, 36, 37, 38, 39, 40, 41] rfl (by decide +kernel)
set_option maxRecDepth 20000 in
theorem gX11_interestAll_X11_interestTill : GoodIn wsX11_interestAll (wsV RX11 294 RX11 yX11_interestTill wsX11_interestTill) := goodIn_app (goodIn_of _ (by decide +kernel)) ggX11_interestAll_X11_interestTill
theorem dX11_interestAll_0 : decode cX11_interestAll 0 = .ok (.aload_n 0, 1) := by decide +kernel
theorem dX11_interestAll_1 : decode cX11_interestAll 1 = .ok (.bipush 23, 2) := by decide +kernel
theorem dX11_interestAll_3 : decode cX11_interestAll 3 = .ok (.invokevirtual 294, 3) := by decide +kernel
theorem dX11_interestAll_6 : decode cX11_interestAll 6 = .ok (.lreturn, 1) := by decide +kernel
set_option maxRecDepth 20000 in
theorem ggX11_amount_X11_isMonth : GoodIn wsX11_amount wsX11_isMonth := goodIn_r _ [13, 14, 15, 16, 12, 17] rfl (by decide +kernel)
set_option maxRecDepth 20000 in
theorem gX11_amount_X11_isMonth : GoodIn wsX11_amount (va_wsS RX11 152 yX11_isMonth wsX11_isMonth) := goodIn_app (goodIn_of _ (by decide +kernel)) ggX11_amount_X11_isMonth
set_option maxRecDepth 20000 in
theorem ggX11_amount_X11_in : GoodIn wsX11_amount wsX11_in := goodIn_r _ [17] rfl (by decide +kernel)
set_option maxRecDepth 20000 in
theorem gX11_amount_X11_in : GoodIn wsX11_amount (va_wsS RX11 105 yX11_in wsX11_in) := goodIn_app (goodIn_of _ (by decide +kernel)) ggX11_amount_X11_in
set_option maxRecDepth 20000 in
theorem ggX11_amount_X11_lost : GoodIn wsX11_amount wsX11_lost := goodIn_r _ [21, 1, 158, 159, 160, 161, 162, 163, 164, 165, 166, 167, 168, 169, 170, 171, 172, 173, 174, 175, 176, 177, 178, 179, 180, 181, 182, 183, 184, 185, 186, 187, 188, 189, 190, 191, 192] rfl (by decide +kernel)
set_option maxRecDepth 20000 in
theorem gX11_amount_X11_lost : GoodIn wsX11_amount (wsV RX11 299 RX11 yX11_lost wsX11_lost) := goodIn_app (goodIn_of _ (by decide +kernel)) ggX11_amount_X11_lost
set_option maxRecDepth 20000 in
theorem ggX11_amount_X11_layMonths : GoodIn wsX11_amount wsX11_layMonths := goodIn_r _ [25, 26, 27, 28, 29, 30, 31, 32, 33, 34, 3, 35, 9, 4, 5, 6, 36, 37, 38, 12, 39, 40, 41, 42, 43, 44, 45, 46, 47, 48, 49, 50, 51, 52, 53, 54, 55, 56, 57, 58, 59, 60, 61, 62, 63, 64, 65, 66, 67, 68, 69, 70, 71, 72, 73, 74, 75, 76, 77, 78, 79, 80, 81, 82, 83, 84, 85, 86, 87, 88, 89, 90, 91, 92, 93, 94, 95, 96, 97, 98, 99, 100, 101, 102, 103, 104, 105, 106, 107, 108, 109, 110, 111, 112, 113, 114, 115, 116, 117, 118, 119, 120, 121, 122, 123, 124, 125, 126, 127, 128, 129, 130, 131, 132, 133, 134, 135, 136, 137, 138, 139, 140, 141, 142, 143, 144, 145, 146, 147, 148, 7, 8, 149, 150, 151, 152, 153, 158, 159, 160, 161, 162, 163, 164, 165, 166, 167, 168, 169, 170, 171, 172, 173, 174, 175, 176, 177, 178, 179, 180, 181, 182, 183, 184, 185, 186, 187, 188, 189, 190, 191, 192] rfl (by decide +kernel)
set_option maxRecDepth 20000 in
theorem gX11_amount_X11_layMonths : GoodIn wsX11_amount (wsV RX11 302 RX11 yX11_layMonths wsX11_layMonths) := goodIn_app (goodIn_of _ (by decide +kernel)) ggX11_amount_X11_layMonths
set_option maxRecDepth 20000 in
theorem ggX11_amount_X11_workIn : GoodIn wsX11_amount wsX11_workIn := goodIn_r _ [56, 40, 57, 58, 59, 12, 60, 61, 62, 63, 64, 65, 66, 67, 68, 69, 70, 71, 72, 73, 74, 45, 41, 42, 43, 44, 46, 47, 48, 49, 75, 76, 77, 78, 79, 80, 29, 81, 26, 82, 83, 84, 85, 86, 87, 88, 89, 90, 50, 51, 52, 35, 158, 159, 160, 161, 162, 163, 164, 165, 166, 167, 168, 169, 170, 171, 172, 173, 174, 175, 176, 177, 178, 179, 180, 181, 182, 183, 184, 185, 186, 187, 188, 189, 190, 191, 192] rfl (by decide +kernel)
set_option maxRecDepth 20000 in
theorem gX11_amount_X11_workIn : GoodIn wsX11_amount (wsV RX11 256 RX11 yX11_workIn wsX11_workIn) := goodIn_app (goodIn_of _ (by decide +kernel)) ggX11_amount_X11_workIn
set_option maxRecDepth 20000 in
theorem ggX11_amount_X11_variedIn : GoodIn wsX11_amount wsX11_variedIn := goodIn_r _ [60, 61, 62, 63, 64, 65, 12, 66, 67, 68, 69, 70, 40, 71, 72, 73, 74, 45, 41, 42, 43, 44, 46, 47, 48, 49, 158, 159, 160, 161, 162, 163, 164, 165, 166, 167, 168, 169, 170, 171, 172, 173, 174, 175, 176, 177, 178, 179, 180, 181, 182, 183, 184, 185, 186, 187, 188, 189, 190, 191, 192] rfl (by decide +kernel)
set_option maxRecDepth 20000 in
theorem gX11_amount_X11_variedIn : GoodIn wsX11_amount (wsV RX11 242 RX11 yX11_variedIn wsX11_variedIn) := goodIn_app (goodIn_of _ (by decide +kernel)) ggX11_amount_X11_variedIn
set_option maxRecDepth 20000 in
theorem ggX11_amount_X11_materialsIn : GoodIn wsX11_amount wsX11_materialsIn := goodIn_r _ [103, 104, 26, 105, 106, 107, 12, 108, 109, 50, 51, 52, 35, 158, 159, 160, 161, 162, 163, 164, 165, 166, 167, 168, 169, 170, 171, 172, 173, 174, 175, 176, 177, 178, 179, 180, 181, 182, 183, 184, 185, 186, 187, 188, 189, 190, 191, 192] rfl (by decide +kernel)
set_option maxRecDepth 20000 in
theorem gX11_amount_X11_materialsIn : GoodIn wsX11_amount (wsV RX11 276 RX11 yX11_materialsIn wsX11_materialsIn) := goodIn_app (goodIn_of _ (by decide +kernel)) ggX11_amount_X11_materialsIn
set_option maxRecDepth 20000 in
theorem ggX11_amount_X11_retainedIn : GoodIn wsX11_amount wsX11_retainedIn := goodIn_r _ [113, 31, 32, 33, 29, 34, 26, 27, 28, 30, 104, 114, 115, 116, 12, 117, 36, 37, 38, 39, 40, 41, 42, 43, 44, 45, 46, 47, 48, 49, 50, 51, 52, 35, 53, 54, 55, 56, 57, 58, 59, 60, 61, 62, 63, 64, 65, 66, 67, 68, 69, 70, 71, 72, 73, 74, 75, 76, 77, 78, 79, 80, 81, 82, 83, 84, 85, 86, 87, 88, 89, 90, 158, 159, 160, 161, 162, 163, 164, 165, 166, 167, 168, 169, 170, 171, 172, 173, 174, 175, 176, 177, 178, 179, 180, 181, 182, 183, 184, 185, 186, 187, 188, 189, 190, 191, 192] rfl (by decide +kernel)
set_option maxRecDepth 20000 in
theorem gX11_amount_X11_retainedIn : GoodIn wsX11_amount (wsV RX11 279 RX11 yX11_retainedIn wsX11_retainedIn) := goodIn_app (goodIn_of _ (by decide +kernel)) ggX11_amount_X11_retainedIn
set_option maxRecDepth 20000 in
theorem ggX11_amount_X11_setIn : GoodIn wsX11_amount wsX11_setIn := goodIn_r _ [121, 122, 123, 124, 125, 12, 126, 127, 50, 51, 52, 35, 158, 159, 160, 161, 162, 163, 164, 165, 166, 167, 168, 169, 170, 171, 172, 173, 174, 175, 176, 177, 178, 179, 180, 181, 182, 183, 184, 185, 186, 187, 188, 189, 190, 191, 192] rfl (by decide +kernel)
set_option maxRecDepth 20000 in
theorem gX11_amount_X11_setIn : GoodIn wsX11_amount (wsV RX11 282 RX11 yX11_setIn wsX11_setIn) := goodIn_app (goodIn_of _ (by decide +kernel)) ggX11_amount_X11_setIn
set_option maxRecDepth 20000 in
theorem ggX11_amount_X11_interestTill : GoodIn wsX11_amount wsX11_interestTill := goodIn_r _ [157, 8, 158, 159, 160, 161, 162, 163, 164, 165, 166, 167, 168, 169, 170, 171, 172, 173, 174, 175, 176, 177, 178, 179, 180, 181, 182, 183, 184, 185, 186, 187, 188, 189, 190, 191, 192] rfl (by decide +kernel)
set_option maxRecDepth 20000 in
theorem gX11_amount_X11_interestTill : GoodIn wsX11_amount (wsV RX11 294 RX11 yX11_interestTill wsX11_interestTill) := goodIn_app (goodIn_of _ (by decide +kernel)) ggX11_amount_X11_interestTill
set_option maxRecDepth 20000 in
theorem ggX11_amount_X11_paidTill : GoodIn wsX11_amount wsX11_paidTill := goodIn_r _ [152, 153, 158, 159, 160, 161, 162, 163, 164, 165, 166, 167, 168, 169, 170, 171, 172, 173, 174, 175, 176, 177, 178, 179, 180, 181, 182, 183, 184, 185, 186, 187, 188, 189, 190, 191, 192] rfl (by decide +kernel)
set_option maxRecDepth 20000 in
theorem gX11_amount_X11_paidTill : GoodIn wsX11_amount (wsV RX11 291 RX11 yX11_paidTill wsX11_paidTill) := goodIn_app (goodIn_of _ (by decide +kernel)) ggX11_amount_X11_paidTill
set_option maxRecDepth 20000 in
theorem ggX11_amount_X11_damagesIn : GoodIn wsX11_amount wsX11_damagesIn := goodIn_r _ [131, 132, 133, 134, 135, 136, 12, 137, 104, 138, 139, 29, 140, 79, 80, 81, 26, 27, 28, 30, 141, 142, 143, 144, 36, 37, 38, 39, 40, 41, 42, 43, 44, 45, 46, 47, 48, 49, 50, 51, 52, 35, 158, 159, 160, 161, 162, 163, 164, 165, 166, 167, 168, 169, 170, 171, 172, 173, 174, 175, 176, 177, 178, 179, 180, 181, 182, 183, 184, 185, 186, 187, 188, 189, 190, 191, 192] rfl (by decide +kernel)
set_option maxRecDepth 20000 in
theorem gX11_amount_X11_damagesIn : GoodIn wsX11_amount (wsV RX11 285 RX11 yX11_damagesIn wsX11_damagesIn) := goodIn_app (goodIn_of _ (by decide +kernel)) ggX11_amount_X11_damagesIn
theorem dX11_amount_0 : decode cX11_amount 0 = .ok (.aload_n 0, 1) := by decide +kernel
theorem dX11_amount_1 : decode cX11_amount 1 = .ok (.iconst 0, 1) := by decide +kernel
theorem dX11_amount_2 : decode cX11_amount 2 = .ok (.putfield 97, 3) := by decide +kernel
theorem dX11_amount_5 : decode cX11_amount 5 = .ok (.iload_n 1, 1) := by decide +kernel
theorem dX11_amount_6 : decode cX11_amount 6 = .ok (.invokestatic 152, 3) := by decide +kernel
theorem dX11_amount_9 : decode cX11_amount 9 = .ok (.ifCond .eq 15, 3) := by decide +kernel
theorem dX11_amount_12 : decode cX11_amount 12 = .ok (.iload_n 2, 1) := by decide +kernel
theorem dX11_amount_13 : decode cX11_amount 13 = .ok (.i2l, 1) := by decide +kernel
theorem dX11_amount_14 : decode cX11_amount 14 = .ok (.lconst 0, 1) := by decide +kernel
theorem dX11_amount_15 : decode cX11_amount 15 = .ok (.ldc2_w 297, 3) := by decide +kernel
theorem dX11_amount_18 : decode cX11_amount 18 = .ok (.invokestatic 105, 3) := by decide +kernel
theorem dX11_amount_21 : decode cX11_amount 21 = .ok (.ifCond .ne 9, 3) := by decide +kernel
theorem dX11_amount_24 : decode cX11_amount 24 = .ok (.aload_n 0, 1) := by decide +kernel
theorem dX11_amount_25 : decode cX11_amount 25 = .ok (.invokevirtual 299, 3) := by decide +kernel
theorem dX11_amount_28 : decode cX11_amount 28 = .ok (.i2l, 1) := by decide +kernel
theorem dX11_amount_29 : decode cX11_amount 29 = .ok (.lreturn, 1) := by decide +kernel
theorem dX11_amount_30 : decode cX11_amount 30 = .ok (.aload_n 0, 1) := by decide +kernel
theorem dX11_amount_31 : decode cX11_amount 31 = .ok (.invokevirtual 302, 3) := by decide +kernel
theorem dX11_amount_34 : decode cX11_amount 34 = .ok (.iload_n 2, 1) := by decide +kernel
theorem dX11_amount_35 : decode cX11_amount 35 = .ok (.tableswitch 159 0 13 #[69, 75, 81, 87, 93, 100, 106, 113, 120, 127, 134, 141, 147, 153], 69) := by decide +kernel
theorem dX11_amount_104 : decode cX11_amount 104 = .ok (.aload_n 0, 1) := by decide +kernel
theorem dX11_amount_105 : decode cX11_amount 105 = .ok (.iload_n 1, 1) := by decide +kernel
theorem dX11_amount_106 : decode cX11_amount 106 = .ok (.invokevirtual 256, 3) := by decide +kernel
theorem dX11_amount_109 : decode cX11_amount 109 = .ok (.lreturn, 1) := by decide +kernel
theorem dX11_amount_110 : decode cX11_amount 110 = .ok (.aload_n 0, 1) := by decide +kernel
theorem dX11_amount_111 : decode cX11_amount 111 = .ok (.iload_n 1, 1) := by decide +kernel
theorem dX11_amount_112 : decode cX11_amount 112 = .ok (.invokevirtual 242, 3) := by decide +kernel
theorem dX11_amount_115 : decode cX11_amount 115 = .ok (.lreturn, 1) := by decide +kernel
theorem dX11_amount_116 : decode cX11_amount 116 = .ok (.aload_n 0, 1) := by decide +kernel
theorem dX11_amount_117 : decode cX11_amount 117 = .ok (.iload_n 1, 1) := by decide +kernel
theorem dX11_amount_118 : decode cX11_amount 118 = .ok (.invokevirtual 276, 3) := by decide +kernel
theorem dX11_amount_121 : decode cX11_amount 121 = .ok (.lreturn, 1) := by decide +kernel
theorem dX11_amount_122 : decode cX11_amount 122 = .ok (.aload_n 0, 1) := by decide +kernel
theorem dX11_amount_123 : decode cX11_amount 123 = .ok (.iload_n 1, 1) := by decide +kernel
theorem dX11_amount_124 : decode cX11_amount 124 = .ok (.invokevirtual 279, 3) := by decide +kernel
theorem dX11_amount_127 : decode cX11_amount 127 = .ok (.lreturn, 1) := by decide +kernel
theorem dX11_amount_128 : decode cX11_amount 128 = .ok (.aload_n 0, 1) := by decide +kernel
theorem dX11_amount_129 : decode cX11_amount 129 = .ok (.getfield 48, 3) := by decide +kernel
theorem dX11_amount_132 : decode cX11_amount 132 = .ok (.iload_n 1, 1) := by decide +kernel
theorem dX11_amount_133 : decode cX11_amount 133 = .ok (.laload, 1) := by decide +kernel
theorem dX11_amount_134 : decode cX11_amount 134 = .ok (.lreturn, 1) := by decide +kernel
theorem dX11_amount_135 : decode cX11_amount 135 = .ok (.aload_n 0, 1) := by decide +kernel
theorem dX11_amount_136 : decode cX11_amount 136 = .ok (.iload_n 1, 1) := by decide +kernel
theorem dX11_amount_137 : decode cX11_amount 137 = .ok (.invokevirtual 282, 3) := by decide +kernel
theorem dX11_amount_140 : decode cX11_amount 140 = .ok (.lreturn, 1) := by decide +kernel
theorem dX11_amount_141 : decode cX11_amount 141 = .ok (.aload_n 0, 1) := by decide +kernel
theorem dX11_amount_142 : decode cX11_amount 142 = .ok (.getfield 51, 3) := by decide +kernel
theorem dX11_amount_145 : decode cX11_amount 145 = .ok (.iload_n 1, 1) := by decide +kernel
theorem dX11_amount_146 : decode cX11_amount 146 = .ok (.laload, 1) := by decide +kernel
theorem dX11_amount_147 : decode cX11_amount 147 = .ok (.lreturn, 1) := by decide +kernel
theorem dX11_amount_148 : decode cX11_amount 148 = .ok (.aload_n 0, 1) := by decide +kernel
theorem dX11_amount_149 : decode cX11_amount 149 = .ok (.getfield 54, 3) := by decide +kernel
theorem dX11_amount_152 : decode cX11_amount 152 = .ok (.iload_n 1, 1) := by decide +kernel
theorem dX11_amount_153 : decode cX11_amount 153 = .ok (.laload, 1) := by decide +kernel
theorem dX11_amount_154 : decode cX11_amount 154 = .ok (.lreturn, 1) := by decide +kernel
theorem dX11_amount_155 : decode cX11_amount 155 = .ok (.aload_n 0, 1) := by decide +kernel
theorem dX11_amount_156 : decode cX11_amount 156 = .ok (.getfield 57, 3) := by decide +kernel
theorem dX11_amount_159 : decode cX11_amount 159 = .ok (.iload_n 1, 1) := by decide +kernel
theorem dX11_amount_160 : decode cX11_amount 160 = .ok (.laload, 1) := by decide +kernel
theorem dX11_amount_161 : decode cX11_amount 161 = .ok (.lreturn, 1) := by decide +kernel
theorem dX11_amount_162 : decode cX11_amount 162 = .ok (.aload_n 0, 1) := by decide +kernel
theorem dX11_amount_163 : decode cX11_amount 163 = .ok (.getfield 60, 3) := by decide +kernel
theorem dX11_amount_166 : decode cX11_amount 166 = .ok (.iload_n 1, 1) := by decide +kernel
theorem dX11_amount_167 : decode cX11_amount 167 = .ok (.laload, 1) := by decide +kernel
theorem dX11_amount_168 : decode cX11_amount 168 = .ok (.lreturn, 1) := by decide +kernel
theorem dX11_amount_169 : decode cX11_amount 169 = .ok (.aload_n 0, 1) := by decide +kernel
theorem dX11_amount_170 : decode cX11_amount 170 = .ok (.getfield 63, 3) := by decide +kernel
theorem dX11_amount_173 : decode cX11_amount 173 = .ok (.iload_n 1, 1) := by decide +kernel
theorem dX11_amount_174 : decode cX11_amount 174 = .ok (.laload, 1) := by decide +kernel
theorem dX11_amount_175 : decode cX11_amount 175 = .ok (.lreturn, 1) := by decide +kernel
theorem dX11_amount_176 : decode cX11_amount 176 = .ok (.aload_n 0, 1) := by decide +kernel
theorem dX11_amount_177 : decode cX11_amount 177 = .ok (.iload_n 1, 1) := by decide +kernel
theorem dX11_amount_178 : decode cX11_amount 178 = .ok (.invokevirtual 294, 3) := by decide +kernel
theorem dX11_amount_181 : decode cX11_amount 181 = .ok (.lreturn, 1) := by decide +kernel
theorem dX11_amount_182 : decode cX11_amount 182 = .ok (.aload_n 0, 1) := by decide +kernel
theorem dX11_amount_183 : decode cX11_amount 183 = .ok (.iload_n 1, 1) := by decide +kernel
theorem dX11_amount_184 : decode cX11_amount 184 = .ok (.invokevirtual 291, 3) := by decide +kernel
theorem dX11_amount_187 : decode cX11_amount 187 = .ok (.lreturn, 1) := by decide +kernel
theorem dX11_amount_188 : decode cX11_amount 188 = .ok (.aload_n 0, 1) := by decide +kernel
theorem dX11_amount_189 : decode cX11_amount 189 = .ok (.iload_n 1, 1) := by decide +kernel
theorem dX11_amount_190 : decode cX11_amount 190 = .ok (.invokevirtual 285, 3) := by decide +kernel
theorem dX11_amount_193 : decode cX11_amount 193 = .ok (.lreturn, 1) := by decide +kernel
theorem dX11_amount_194 : decode cX11_amount 194 = .ok (.aload_n 0, 1) := by decide +kernel
theorem dX11_amount_195 : decode cX11_amount 195 = .ok (.getfield 45, 3) := by decide +kernel
theorem dX11_amount_198 : decode cX11_amount 198 = .ok (.iload_n 1, 1) := by decide +kernel
theorem dX11_amount_199 : decode cX11_amount 199 = .ok (.laload, 1) := by decide +kernel
theorem dX11_amount_200 : decode cX11_amount 200 = .ok (.lreturn, 1) := by decide +kernel
set_option maxRecDepth 20000 in
theorem ggX11_grown_X11_partOf : GoodIn wsX11_grown wsX11_partOf := goodIn_r _ [5, 6, 7, 8, 9, 10, 11, 12, 13, 4, 14, 15, 16, 17, 18, 19, 20, 21, 22, 23, 24, 25, 26, 27, 28, 29, 30, 31, 32, 33, 34, 35, 36, 37, 38, 39, 40, 41, 42, 43, 44, 45, 46, 47, 48, 49, 50, 51, 52, 53, 54, 55, 56, 57, 58, 59, 60, 61, 62, 63, 64, 65, 66, 67] rfl (by decide +kernel)
set_option maxRecDepth 20000 in
theorem gX11_grown_X11_partOf : GoodIn wsX11_grown (wsV RX11 245 RX11 yX11_partOf wsX11_partOf) := goodIn_app (goodIn_of _ (by decide +kernel)) ggX11_grown_X11_partOf
theorem dX11_grown_0 : decode cX11_grown 0 = .ok (.aload_n 0, 1) := by decide +kernel
theorem dX11_grown_1 : decode cX11_grown 1 = .ok (.iload_n 1, 1) := by decide +kernel
theorem dX11_grown_2 : decode cX11_grown 2 = .ok (.iload_n 2, 1) := by decide +kernel
theorem dX11_grown_3 : decode cX11_grown 3 = .ok (.invokevirtual 245, 3) := by decide +kernel
theorem dX11_grown_6 : decode cX11_grown 6 = .ok (.iload_n 1, 1) := by decide +kernel
theorem dX11_grown_7 : decode cX11_grown 7 = .ok (.ifCond .ne 7, 3) := by decide +kernel
theorem dX11_grown_10 : decode cX11_grown 10 = .ok (.lconst 0, 1) := by decide +kernel
theorem dX11_grown_11 : decode cX11_grown 11 = .ok (.goto 11, 3) := by decide +kernel
theorem dX11_grown_14 : decode cX11_grown 14 = .ok (.aload_n 0, 1) := by decide +kernel
theorem dX11_grown_15 : decode cX11_grown 15 = .ok (.iload_n 1, 1) := by decide +kernel
theorem dX11_grown_16 : decode cX11_grown 16 = .ok (.iconst 1, 1) := by decide +kernel
theorem dX11_grown_17 : decode cX11_grown 17 = .ok (.isub, 1) := by decide +kernel
theorem dX11_grown_18 : decode cX11_grown 18 = .ok (.iload_n 2, 1) := by decide +kernel
theorem dX11_grown_19 : decode cX11_grown 19 = .ok (.invokevirtual 245, 3) := by decide +kernel
theorem dX11_grown_22 : decode cX11_grown 22 = .ok (.lsub, 1) := by decide +kernel
theorem dX11_grown_23 : decode cX11_grown 23 = .ok (.lreturn, 1) := by decide +kernel
set_option maxRecDepth 20000 in
theorem ggX11_item_X11_isMonth : GoodIn wsX11_item wsX11_isMonth := goodIn_r _ [6, 7, 8, 9, 5, 10] rfl (by decide +kernel)
set_option maxRecDepth 20000 in
theorem gX11_item_X11_isMonth : GoodIn wsX11_item (va_wsS RX11 152 yX11_isMonth wsX11_isMonth) := goodIn_app (goodIn_of _ (by decide +kernel)) ggX11_item_X11_isMonth
set_option maxRecDepth 20000 in
theorem ggX11_item_X11_isItem : GoodIn wsX11_item wsX11_isItem := goodIn_r _ [14, 15, 8, 9, 5, 10, 56, 57, 58, 59, 60, 61, 62, 63, 64, 65, 66, 67, 68, 69, 70, 71, 72, 73, 74, 75, 76, 77, 78, 79, 80, 81, 82, 83, 84, 85, 86, 87, 88, 89, 90] rfl (by decide +kernel)
set_option maxRecDepth 20000 in
theorem gX11_item_X11_isItem : GoodIn wsX11_item (wsV RX11 156 RX11 yX11_isItem wsX11_isItem) := goodIn_app (goodIn_of _ (by decide +kernel)) ggX11_item_X11_isItem
set_option maxRecDepth 20000 in
theorem ggX11_item_X11_partOf : GoodIn wsX11_item wsX11_partOf := goodIn_r _ [19, 20, 21, 22, 23, 24, 25, 26, 27, 5, 28, 29, 30, 31, 32, 33, 34, 35, 36, 37, 38, 39, 40, 41, 42, 43, 44, 45, 46, 56, 57, 58, 59, 60, 61, 62, 63, 64, 65, 66, 67, 68, 69, 70, 71, 72, 73, 74, 75, 76, 77, 78, 79, 80, 81, 82, 83, 84, 85, 86, 87, 88, 89, 90] rfl (by decide +kernel)
set_option maxRecDepth 20000 in
theorem gX11_item_X11_partOf : GoodIn wsX11_item (wsV RX11 245 RX11 yX11_partOf wsX11_partOf) := goodIn_app (goodIn_of _ (by decide +kernel)) ggX11_item_X11_partOf
set_option maxRecDepth 20000 in
theorem ggX11_item_X11_tell : GoodIn wsX11_item wsX11_tell := goodIn_r _ [50, 51, 2, 56, 57, 58, 59, 60, 61, 62, 63, 64, 65, 66, 67, 68, 69, 70, 71, 72, 73, 74, 75, 76, 77, 78, 79, 80, 81, 82, 83, 84, 85, 86, 87, 88, 89, 90] rfl (by decide +kernel)
set_option maxRecDepth 20000 in
theorem gX11_item_X11_tell : GoodIn wsX11_item (wsV RX11 305 RX11 yX11_tell wsX11_tell) := goodIn_app (goodIn_of _ (by decide +kernel)) ggX11_item_X11_tell
set_option maxRecDepth 20000 in
theorem ggX11_item_X11_grown : GoodIn wsX11_item wsX11_grown := goodIn_r _ [55, 16, 17, 18, 5, 19, 20, 21, 22, 23, 24, 25, 26, 27, 28, 29, 30, 31, 32, 33, 34, 35, 36, 37, 38, 39, 40, 41, 42, 43, 44, 45, 46, 56, 57, 58, 59, 60, 61, 62, 63, 64, 65, 66, 67, 68, 69, 70, 71, 72, 73, 74, 75, 76, 77, 78, 79, 80, 81, 82, 83, 84, 85, 86, 87, 88, 89, 90] rfl (by decide +kernel)
set_option maxRecDepth 20000 in
theorem gX11_item_X11_grown : GoodIn wsX11_item (wsV RX11 309 RX11 yX11_grown wsX11_grown) := goodIn_app (goodIn_of _ (by decide +kernel)) ggX11_item_X11_grown
set_option maxRecDepth 20000 in
theorem ggX11_item_X11_doneOf : GoodIn wsX11_item wsX11_doneOf := goodIn_r _ [28, 29, 56, 57, 58, 59, 60, 61, 62, 63, 64, 65, 66, 67, 68, 69, 70, 71, 72, 73, 74, 75, 76, 77, 78, 79, 80, 81, 82, 83, 84, 85, 86, 87, 88, 89, 90] rfl (by decide +kernel)
set_option maxRecDepth 20000 in
theorem gX11_item_X11_doneOf : GoodIn wsX11_item (wsV RX11 165 RX11 yX11_doneOf wsX11_doneOf) := goodIn_app (goodIn_of _ (by decide +kernel)) ggX11_item_X11_doneOf
set_option maxRecDepth 20000 in
theorem ggX11_item_X11_cap : GoodIn wsX11_item wsX11_cap := goodIn_r _ [33, 24, 34, 35, 36, 5, 37, 38, 39, 40, 41, 42, 56, 57, 58, 59, 60, 61, 62, 63, 64, 65, 66, 67, 68, 69, 70, 71, 72, 73, 74, 75, 76, 77, 78, 79, 80, 81, 82, 83, 84, 85, 86, 87, 88, 89, 90] rfl (by decide +kernel)
set_option maxRecDepth 20000 in
theorem gX11_item_X11_cap : GoodIn wsX11_item (wsV RX11 224 RX11 yX11_cap wsX11_cap) := goodIn_app (goodIn_of _ (by decide +kernel)) ggX11_item_X11_cap
theorem dX11_item_0 : decode cX11_item 0 = .ok (.aload_n 0, 1) := by decide +kernel
theorem dX11_item_1 : decode cX11_item 1 = .ok (.iconst 0, 1) := by decide +kernel
theorem dX11_item_2 : decode cX11_item 2 = .ok (.putfield 97, 3) := by decide +kernel
theorem dX11_item_5 : decode cX11_item 5 = .ok (.iload_n 1, 1) := by decide +kernel
theorem dX11_item_6 : decode cX11_item 6 = .ok (.invokestatic 152, 3) := by decide +kernel
theorem dX11_item_9 : decode cX11_item 9 = .ok (.ifCond .eq 11, 3) := by decide +kernel
theorem dX11_item_12 : decode cX11_item 12 = .ok (.aload_n 0, 1) := by decide +kernel
theorem dX11_item_13 : decode cX11_item 13 = .ok (.iload_n 2, 1) := by decide +kernel
theorem dX11_item_14 : decode cX11_item 14 = .ok (.invokevirtual 156, 3) := by decide +kernel
theorem dX11_item_17 : decode cX11_item 17 = .ok (.ifCond .ne 5, 3) := by decide +kernel
theorem dX11_item_20 : decode cX11_item 20 = .ok (.iconst (-1), 1) := by decide +kernel
theorem dX11_item_21 : decode cX11_item 21 = .ok (.ireturn, 1) := by decide +kernel
theorem dX11_item_22 : decode cX11_item 22 = .ok (.aload_n 0, 1) := by decide +kernel
theorem dX11_item_23 : decode cX11_item 23 = .ok (.iconst 0, 1) := by decide +kernel
theorem dX11_item_24 : decode cX11_item 24 = .ok (.putfield 100, 3) := by decide +kernel
theorem dX11_item_27 : decode cX11_item 27 = .ok (.aload_n 0, 1) := by decide +kernel
theorem dX11_item_28 : decode cX11_item 28 = .ok (.aload_n 0, 1) := by decide +kernel
theorem dX11_item_29 : decode cX11_item 29 = .ok (.iload_n 1, 1) := by decide +kernel
theorem dX11_item_30 : decode cX11_item 30 = .ok (.iload_n 2, 1) := by decide +kernel
theorem dX11_item_31 : decode cX11_item 31 = .ok (.invokevirtual 245, 3) := by decide +kernel
theorem dX11_item_34 : decode cX11_item 34 = .ok (.invokevirtual 305, 3) := by decide +kernel
theorem dX11_item_37 : decode cX11_item 37 = .ok (.aload_n 0, 1) := by decide +kernel
theorem dX11_item_38 : decode cX11_item 38 = .ok (.aload_n 0, 1) := by decide +kernel
theorem dX11_item_39 : decode cX11_item 39 = .ok (.iload_n 1, 1) := by decide +kernel
theorem dX11_item_40 : decode cX11_item 40 = .ok (.iload_n 2, 1) := by decide +kernel
theorem dX11_item_41 : decode cX11_item 41 = .ok (.invokevirtual 309, 3) := by decide +kernel
theorem dX11_item_44 : decode cX11_item 44 = .ok (.invokevirtual 305, 3) := by decide +kernel
theorem dX11_item_47 : decode cX11_item 47 = .ok (.aload_n 0, 1) := by decide +kernel
theorem dX11_item_48 : decode cX11_item 48 = .ok (.aload_n 0, 1) := by decide +kernel
theorem dX11_item_49 : decode cX11_item 49 = .ok (.iload_n 1, 1) := by decide +kernel
theorem dX11_item_50 : decode cX11_item 50 = .ok (.iload_n 2, 1) := by decide +kernel
theorem dX11_item_51 : decode cX11_item 51 = .ok (.invokevirtual 165, 3) := by decide +kernel
theorem dX11_item_54 : decode cX11_item 54 = .ok (.aload_n 0, 1) := by decide +kernel
theorem dX11_item_55 : decode cX11_item 55 = .ok (.iload_n 2, 1) := by decide +kernel
theorem dX11_item_56 : decode cX11_item 56 = .ok (.invokevirtual 224, 3) := by decide +kernel
theorem dX11_item_59 : decode cX11_item 59 = .ok (.if_icmp .le 7, 3) := by decide +kernel
theorem dX11_item_62 : decode cX11_item 62 = .ok (.lconst 1, 1) := by decide +kernel
theorem dX11_item_63 : decode cX11_item 63 = .ok (.goto 4, 3) := by decide +kernel
theorem dX11_item_66 : decode cX11_item 66 = .ok (.lconst 0, 1) := by decide +kernel
theorem dX11_item_67 : decode cX11_item 67 = .ok (.invokevirtual 305, 3) := by decide +kernel
theorem dX11_item_70 : decode cX11_item 70 = .ok (.aload_n 0, 1) := by decide +kernel
theorem dX11_item_71 : decode cX11_item 71 = .ok (.iload_n 1, 1) := by decide +kernel
theorem dX11_item_72 : decode cX11_item 72 = .ok (.iload_n 2, 1) := by decide +kernel
theorem dX11_item_73 : decode cX11_item 73 = .ok (.invokevirtual 165, 3) := by decide +kernel
theorem dX11_item_76 : decode cX11_item 76 = .ok (.ireturn, 1) := by decide +kernel
set_option maxRecDepth 20000 in
theorem ggX11_priced_X11_isChange : GoodIn wsX11_priced wsX11_isChange := goodIn_r _ [8, 9, 10, 11, 7, 12, 47, 48, 49, 50, 51, 52, 53, 54, 55, 56, 57, 58, 59, 60, 61, 62, 63, 64, 65, 66, 67, 68, 69, 70, 71, 72, 73, 74, 75, 76, 77, 78, 79, 80, 81] rfl (by decide +kernel)
set_option maxRecDepth 20000 in
theorem gX11_priced_X11_isChange : GoodIn wsX11_priced (wsV RX11 186 RX11 yX11_isChange wsX11_isChange) := goodIn_app (goodIn_of _ (by decide +kernel)) ggX11_priced_X11_isChange
set_option maxRecDepth 20000 in
theorem ggX11_priced_X11_tell : GoodIn wsX11_priced wsX11_tell := goodIn_r _ [16, 17, 2, 47, 48, 49, 50, 51, 52, 53, 54, 55, 56, 57, 58, 59, 60, 61, 62, 63, 64, 65, 66, 67, 68, 69, 70, 71, 72, 73, 74, 75, 76, 77, 78, 79, 80, 81] rfl (by decide +kernel)
set_option maxRecDepth 20000 in
theorem gX11_priced_X11_tell : GoodIn wsX11_priced (wsV RX11 305 RX11 yX11_tell wsX11_tell) := goodIn_app (goodIn_of _ (by decide +kernel)) ggX11_priced_X11_tell
set_option maxRecDepth 20000 in
theorem ggX11_priced_X11_worth : GoodIn wsX11_priced wsX11_worth := goodIn_r _ [21, 3, 22, 23, 24, 7, 25, 26, 27, 28, 29, 30, 31, 32, 33, 34, 35, 36, 37, 38, 39, 47, 48, 49, 50, 51, 52, 53, 54, 55, 56, 57, 58, 59, 60, 61, 62, 63, 64, 65, 66, 67, 68, 69, 70, 71, 72, 73, 74, 75, 76, 77, 78, 79, 80, 81] rfl (by decide +kernel)
set_option maxRecDepth 20000 in
theorem gX11_priced_X11_worth : GoodIn wsX11_priced (wsV RX11 238 RX11 yX11_worth wsX11_worth) := goodIn_app (goodIn_of _ (by decide +kernel)) ggX11_priced_X11_worth
set_option maxRecDepth 20000 in
theorem ggX11_priced_X11_likeBits : GoodIn wsX11_priced wsX11_likeBits := goodIn_r _ [43, 26, 27, 28, 29, 7, 30, 31, 47, 48, 49, 50, 51, 52, 53, 54, 55, 56, 57, 58, 59, 60, 61, 62, 63, 64, 65, 66, 67, 68, 69, 70, 71, 72, 73, 74, 75, 76, 77, 78, 79, 80, 81] rfl (by decide +kernel)
set_option maxRecDepth 20000 in
theorem gX11_priced_X11_likeBits : GoodIn wsX11_priced (wsV RX11 312 RX11 yX11_likeBits wsX11_likeBits) := goodIn_app (goodIn_of _ (by decide +kernel)) ggX11_priced_X11_likeBits
set_option maxRecDepth 20000 in
theorem ggX11_priced_X11_countBits : GoodIn wsX11_priced wsX11_countBits := goodIn_r _ [46] rfl (by decide +kernel)
set_option maxRecDepth 20000 in
theorem gX11_priced_X11_countBits : GoodIn wsX11_priced (va_wsS RX11 315 yX11_countBits wsX11_countBits) := goodIn_app (goodIn_of _ (by decide +kernel)) ggX11_priced_X11_countBits
set_option maxRecDepth 20000 in
theorem ggX11_priced_X11_priceOf : GoodIn wsX11_priced wsX11_priceOf := goodIn_r _ [25, 26, 27, 28, 29, 7, 30, 31, 32, 33, 34, 35, 36, 37, 38, 39, 47, 48, 49, 50, 51, 52, 53, 54, 55, 56, 57, 58, 59, 60, 61, 62, 63, 64, 65, 66, 67, 68, 69, 70, 71, 72, 73, 74, 75, 76, 77, 78, 79, 80, 81] rfl (by decide +kernel)
set_option maxRecDepth 20000 in
theorem gX11_priced_X11_priceOf : GoodIn wsX11_priced (wsV RX11 235 RX11 yX11_priceOf wsX11_priceOf) := goodIn_app (goodIn_of _ (by decide +kernel)) ggX11_priced_X11_priceOf
theorem dX11_priced_0 : decode cX11_priced 0 = .ok (.aload_n 0, 1) := by decide +kernel
theorem dX11_priced_1 : decode cX11_priced 1 = .ok (.iconst 0, 1) := by decide +kernel
theorem dX11_priced_2 : decode cX11_priced 2 = .ok (.putfield 97, 3) := by decide +kernel
theorem dX11_priced_5 : decode cX11_priced 5 = .ok (.aload_n 0, 1) := by decide +kernel
theorem dX11_priced_6 : decode cX11_priced 6 = .ok (.iload_n 1, 1) := by decide +kernel
theorem dX11_priced_7 : decode cX11_priced 7 = .ok (.invokevirtual 186, 3) := by decide +kernel
theorem dX11_priced_10 : decode cX11_priced 10 = .ok (.ifCond .ne 5, 3) := by decide +kernel
theorem dX11_priced_13 : decode cX11_priced 13 = .ok (.iconst (-1), 1) := by decide +kernel
theorem dX11_priced_14 : decode cX11_priced 14 = .ok (.ireturn, 1) := by decide +kernel
theorem dX11_priced_15 : decode cX11_priced 15 = .ok (.iconst 4, 1) := by decide +kernel
theorem dX11_priced_16 : decode cX11_priced 16 = .ok (.iload_n 1, 1) := by decide +kernel
theorem dX11_priced_17 : decode cX11_priced 17 = .ok (.imul, 1) := by decide +kernel
theorem dX11_priced_18 : decode cX11_priced 18 = .ok (.istore_n 2, 1) := by decide +kernel
theorem dX11_priced_19 : decode cX11_priced 19 = .ok (.aload_n 0, 1) := by decide +kernel
theorem dX11_priced_20 : decode cX11_priced 20 = .ok (.iconst 0, 1) := by decide +kernel
theorem dX11_priced_21 : decode cX11_priced 21 = .ok (.putfield 100, 3) := by decide +kernel
theorem dX11_priced_24 : decode cX11_priced 24 = .ok (.aload_n 0, 1) := by decide +kernel
theorem dX11_priced_25 : decode cX11_priced 25 = .ok (.aload_n 0, 1) := by decide +kernel
theorem dX11_priced_26 : decode cX11_priced 26 = .ok (.getfield 22, 3) := by decide +kernel
theorem dX11_priced_29 : decode cX11_priced 29 = .ok (.iload_n 2, 1) := by decide +kernel
theorem dX11_priced_30 : decode cX11_priced 30 = .ok (.iaload, 1) := by decide +kernel
theorem dX11_priced_31 : decode cX11_priced 31 = .ok (.i2l, 1) := by decide +kernel
theorem dX11_priced_32 : decode cX11_priced 32 = .ok (.invokevirtual 305, 3) := by decide +kernel
theorem dX11_priced_35 : decode cX11_priced 35 = .ok (.aload_n 0, 1) := by decide +kernel
theorem dX11_priced_36 : decode cX11_priced 36 = .ok (.aload_n 0, 1) := by decide +kernel
theorem dX11_priced_37 : decode cX11_priced 37 = .ok (.getfield 22, 3) := by decide +kernel
theorem dX11_priced_40 : decode cX11_priced 40 = .ok (.iload_n 2, 1) := by decide +kernel
theorem dX11_priced_41 : decode cX11_priced 41 = .ok (.iconst 1, 1) := by decide +kernel
theorem dX11_priced_42 : decode cX11_priced 42 = .ok (.iadd, 1) := by decide +kernel
theorem dX11_priced_43 : decode cX11_priced 43 = .ok (.iaload, 1) := by decide +kernel
theorem dX11_priced_44 : decode cX11_priced 44 = .ok (.i2l, 1) := by decide +kernel
theorem dX11_priced_45 : decode cX11_priced 45 = .ok (.invokevirtual 305, 3) := by decide +kernel
theorem dX11_priced_48 : decode cX11_priced 48 = .ok (.aload_n 0, 1) := by decide +kernel
theorem dX11_priced_49 : decode cX11_priced 49 = .ok (.aload_n 0, 1) := by decide +kernel
theorem dX11_priced_50 : decode cX11_priced 50 = .ok (.getfield 22, 3) := by decide +kernel
theorem dX11_priced_53 : decode cX11_priced 53 = .ok (.iload_n 2, 1) := by decide +kernel
theorem dX11_priced_54 : decode cX11_priced 54 = .ok (.iconst 2, 1) := by decide +kernel
theorem dX11_priced_55 : decode cX11_priced 55 = .ok (.iadd, 1) := by decide +kernel
theorem dX11_priced_56 : decode cX11_priced 56 = .ok (.iaload, 1) := by decide +kernel
theorem dX11_priced_57 : decode cX11_priced 57 = .ok (.i2l, 1) := by decide +kernel
theorem dX11_priced_58 : decode cX11_priced 58 = .ok (.invokevirtual 305, 3) := by decide +kernel
theorem dX11_priced_61 : decode cX11_priced 61 = .ok (.aload_n 0, 1) := by decide +kernel
theorem dX11_priced_62 : decode cX11_priced 62 = .ok (.aload_n 0, 1) := by decide +kernel
theorem dX11_priced_63 : decode cX11_priced 63 = .ok (.iload_n 1, 1) := by decide +kernel
theorem dX11_priced_64 : decode cX11_priced 64 = .ok (.invokevirtual 238, 3) := by decide +kernel
theorem dX11_priced_67 : decode cX11_priced 67 = .ok (.invokevirtual 305, 3) := by decide +kernel
theorem dX11_priced_70 : decode cX11_priced 70 = .ok (.aload_n 0, 1) := by decide +kernel
theorem dX11_priced_71 : decode cX11_priced 71 = .ok (.aload_n 0, 1) := by decide +kernel
theorem dX11_priced_72 : decode cX11_priced 72 = .ok (.aload_n 0, 1) := by decide +kernel
theorem dX11_priced_73 : decode cX11_priced 73 = .ok (.getfield 22, 3) := by decide +kernel
theorem dX11_priced_76 : decode cX11_priced 76 = .ok (.iload_n 2, 1) := by decide +kernel
theorem dX11_priced_77 : decode cX11_priced 77 = .ok (.iconst 1, 1) := by decide +kernel
theorem dX11_priced_78 : decode cX11_priced 78 = .ok (.iadd, 1) := by decide +kernel
theorem dX11_priced_79 : decode cX11_priced 79 = .ok (.iaload, 1) := by decide +kernel
theorem dX11_priced_80 : decode cX11_priced 80 = .ok (.invokevirtual 312, 3) := by decide +kernel
theorem dX11_priced_83 : decode cX11_priced 83 = .ok (.invokestatic 315, 3) := by decide +kernel
theorem dX11_priced_86 : decode cX11_priced 86 = .ok (.i2l, 1) := by decide +kernel
theorem dX11_priced_87 : decode cX11_priced 87 = .ok (.invokevirtual 305, 3) := by decide +kernel
theorem dX11_priced_90 : decode cX11_priced 90 = .ok (.aload_n 0, 1) := by decide +kernel
theorem dX11_priced_91 : decode cX11_priced 91 = .ok (.aload_n 0, 1) := by decide +kernel
theorem dX11_priced_92 : decode cX11_priced 92 = .ok (.getfield 22, 3) := by decide +kernel
theorem dX11_priced_95 : decode cX11_priced 95 = .ok (.iload_n 2, 1) := by decide +kernel
theorem dX11_priced_96 : decode cX11_priced 96 = .ok (.iconst 1, 1) := by decide +kernel
theorem dX11_priced_97 : decode cX11_priced 97 = .ok (.iadd, 1) := by decide +kernel
theorem dX11_priced_98 : decode cX11_priced 98 = .ok (.iaload, 1) := by decide +kernel
theorem dX11_priced_99 : decode cX11_priced 99 = .ok (.aload_n 0, 1) := by decide +kernel
theorem dX11_priced_100 : decode cX11_priced 100 = .ok (.getfield 22, 3) := by decide +kernel
theorem dX11_priced_103 : decode cX11_priced 103 = .ok (.iload_n 2, 1) := by decide +kernel
theorem dX11_priced_104 : decode cX11_priced 104 = .ok (.iconst 3, 1) := by decide +kernel
theorem dX11_priced_105 : decode cX11_priced 105 = .ok (.iadd, 1) := by decide +kernel
theorem dX11_priced_106 : decode cX11_priced 106 = .ok (.iaload, 1) := by decide +kernel
theorem dX11_priced_107 : decode cX11_priced 107 = .ok (.invokevirtual 235, 3) := by decide +kernel
theorem dX11_priced_110 : decode cX11_priced 110 = .ok (.ireturn, 1) := by decide +kernel
theorem dX11_monthTold_0 : decode cX11_monthTold 0 = .ok (.iload_n 0, 1) := by decide +kernel
theorem dX11_monthTold_1 : decode cX11_monthTold 1 = .ok (.bipush 24, 2) := by decide +kernel
theorem dX11_monthTold_3 : decode cX11_monthTold 3 = .ok (.if_icmp .ne 7, 3) := by decide +kernel
theorem dX11_monthTold_6 : decode cX11_monthTold 6 = .ok (.iconst (-1), 1) := by decide +kernel
theorem dX11_monthTold_7 : decode cX11_monthTold 7 = .ok (.goto 4, 3) := by decide +kernel
theorem dX11_monthTold_10 : decode cX11_monthTold 10 = .ok (.iload_n 0, 1) := by decide +kernel
theorem dX11_monthTold_11 : decode cX11_monthTold 11 = .ok (.ireturn, 1) := by decide +kernel
set_option maxRecDepth 20000 in
theorem ggX11_held_X11_isSet : GoodIn wsX11_held wsX11_isSet := goodIn_r _ [8, 9, 10, 11, 7, 12, 33, 34, 35, 36, 37, 38, 39, 40, 41, 42, 43, 44, 45, 46, 47, 48, 49, 50, 51, 52, 53, 54, 55, 56, 57, 58, 59, 60, 61, 62, 63, 64, 65, 66, 67] rfl (by decide +kernel)
set_option maxRecDepth 20000 in
theorem gX11_held_X11_isSet : GoodIn wsX11_held (wsV RX11 189 RX11 yX11_isSet wsX11_isSet) := goodIn_app (goodIn_of _ (by decide +kernel)) ggX11_held_X11_isSet
set_option maxRecDepth 20000 in
theorem ggX11_held_X11_isMonth : GoodIn wsX11_held wsX11_isMonth := goodIn_r _ [15, 16, 10, 11, 7, 12] rfl (by decide +kernel)
set_option maxRecDepth 20000 in
theorem gX11_held_X11_isMonth : GoodIn wsX11_held (va_wsS RX11 152 yX11_isMonth wsX11_isMonth) := goodIn_app (goodIn_of _ (by decide +kernel)) ggX11_held_X11_isMonth
set_option maxRecDepth 20000 in
theorem ggX11_held_X11_tell : GoodIn wsX11_held wsX11_tell := goodIn_r _ [20, 21, 2, 33, 34, 35, 36, 37, 38, 39, 40, 41, 42, 43, 44, 45, 46, 47, 48, 49, 50, 51, 52, 53, 54, 55, 56, 57, 58, 59, 60, 61, 62, 63, 64, 65, 66, 67] rfl (by decide +kernel)
set_option maxRecDepth 20000 in
theorem gX11_held_X11_tell : GoodIn wsX11_held (wsV RX11 305 RX11 yX11_tell wsX11_tell) := goodIn_app (goodIn_of _ (by decide +kernel)) ggX11_held_X11_tell
set_option maxRecDepth 20000 in
theorem ggX11_held_X11_monthTold : GoodIn wsX11_held wsX11_monthTold := goodIn_r _ [24] rfl (by decide +kernel)
set_option maxRecDepth 20000 in
theorem gX11_held_X11_monthTold : GoodIn wsX11_held (va_wsS RX11 318 yX11_monthTold wsX11_monthTold) := goodIn_app (goodIn_of _ (by decide +kernel)) ggX11_held_X11_monthTold
set_option maxRecDepth 20000 in
theorem ggX11_held_X11_heldOf : GoodIn wsX11_held wsX11_heldOf := goodIn_r _ [28, 3, 29, 30, 7, 31, 32, 33, 34, 35, 36, 37, 38, 39, 40, 41, 42, 43, 44, 45, 46, 47, 48, 49, 50, 51, 52, 53, 54, 55, 56, 57, 58, 59, 60, 61, 62, 63, 64, 65, 66, 67] rfl (by decide +kernel)
set_option maxRecDepth 20000 in
theorem gX11_held_X11_heldOf : GoodIn wsX11_held (wsV RX11 197 RX11 yX11_heldOf wsX11_heldOf) := goodIn_app (goodIn_of _ (by decide +kernel)) ggX11_held_X11_heldOf
theorem dX11_held_0 : decode cX11_held 0 = .ok (.aload_n 0, 1) := by decide +kernel
theorem dX11_held_1 : decode cX11_held 1 = .ok (.iconst 0, 1) := by decide +kernel
theorem dX11_held_2 : decode cX11_held 2 = .ok (.putfield 97, 3) := by decide +kernel
theorem dX11_held_5 : decode cX11_held 5 = .ok (.aload_n 0, 1) := by decide +kernel
theorem dX11_held_6 : decode cX11_held 6 = .ok (.iload_n 1, 1) := by decide +kernel
theorem dX11_held_7 : decode cX11_held 7 = .ok (.invokevirtual 189, 3) := by decide +kernel
theorem dX11_held_10 : decode cX11_held 10 = .ok (.ifCond .eq 10, 3) := by decide +kernel
theorem dX11_held_13 : decode cX11_held 13 = .ok (.iload_n 2, 1) := by decide +kernel
theorem dX11_held_14 : decode cX11_held 14 = .ok (.invokestatic 152, 3) := by decide +kernel
theorem dX11_held_17 : decode cX11_held 17 = .ok (.ifCond .ne 5, 3) := by decide +kernel
theorem dX11_held_20 : decode cX11_held 20 = .ok (.iconst (-1), 1) := by decide +kernel
theorem dX11_held_21 : decode cX11_held 21 = .ok (.ireturn, 1) := by decide +kernel
theorem dX11_held_22 : decode cX11_held 22 = .ok (.iconst 5, 1) := by decide +kernel
theorem dX11_held_23 : decode cX11_held 23 = .ok (.iload_n 1, 1) := by decide +kernel
theorem dX11_held_24 : decode cX11_held 24 = .ok (.imul, 1) := by decide +kernel
theorem dX11_held_25 : decode cX11_held 25 = .ok (.istore_n 3, 1) := by decide +kernel
theorem dX11_held_26 : decode cX11_held 26 = .ok (.aload_n 0, 1) := by decide +kernel
theorem dX11_held_27 : decode cX11_held 27 = .ok (.iconst 0, 1) := by decide +kernel
theorem dX11_held_28 : decode cX11_held 28 = .ok (.putfield 100, 3) := by decide +kernel
theorem dX11_held_31 : decode cX11_held 31 = .ok (.aload_n 0, 1) := by decide +kernel
theorem dX11_held_32 : decode cX11_held 32 = .ok (.aload_n 0, 1) := by decide +kernel
theorem dX11_held_33 : decode cX11_held 33 = .ok (.getfield 25, 3) := by decide +kernel
theorem dX11_held_36 : decode cX11_held 36 = .ok (.iload_n 3, 1) := by decide +kernel
theorem dX11_held_37 : decode cX11_held 37 = .ok (.iaload, 1) := by decide +kernel
theorem dX11_held_38 : decode cX11_held 38 = .ok (.i2l, 1) := by decide +kernel
theorem dX11_held_39 : decode cX11_held 39 = .ok (.invokevirtual 305, 3) := by decide +kernel
theorem dX11_held_42 : decode cX11_held 42 = .ok (.aload_n 0, 1) := by decide +kernel
theorem dX11_held_43 : decode cX11_held 43 = .ok (.aload_n 0, 1) := by decide +kernel
theorem dX11_held_44 : decode cX11_held 44 = .ok (.getfield 25, 3) := by decide +kernel
theorem dX11_held_47 : decode cX11_held 47 = .ok (.iload_n 3, 1) := by decide +kernel
theorem dX11_held_48 : decode cX11_held 48 = .ok (.iconst 1, 1) := by decide +kernel
theorem dX11_held_49 : decode cX11_held 49 = .ok (.iadd, 1) := by decide +kernel
theorem dX11_held_50 : decode cX11_held 50 = .ok (.iaload, 1) := by decide +kernel
theorem dX11_held_51 : decode cX11_held 51 = .ok (.i2l, 1) := by decide +kernel
theorem dX11_held_52 : decode cX11_held 52 = .ok (.invokevirtual 305, 3) := by decide +kernel
theorem dX11_held_55 : decode cX11_held 55 = .ok (.aload_n 0, 1) := by decide +kernel
theorem dX11_held_56 : decode cX11_held 56 = .ok (.aload_n 0, 1) := by decide +kernel
theorem dX11_held_57 : decode cX11_held 57 = .ok (.getfield 25, 3) := by decide +kernel
theorem dX11_held_60 : decode cX11_held 60 = .ok (.iload_n 3, 1) := by decide +kernel
theorem dX11_held_61 : decode cX11_held 61 = .ok (.iconst 2, 1) := by decide +kernel
theorem dX11_held_62 : decode cX11_held 62 = .ok (.iadd, 1) := by decide +kernel
theorem dX11_held_63 : decode cX11_held 63 = .ok (.iaload, 1) := by decide +kernel
theorem dX11_held_64 : decode cX11_held 64 = .ok (.invokestatic 318, 3) := by decide +kernel
theorem dX11_held_67 : decode cX11_held 67 = .ok (.i2l, 1) := by decide +kernel
theorem dX11_held_68 : decode cX11_held 68 = .ok (.invokevirtual 305, 3) := by decide +kernel
theorem dX11_held_71 : decode cX11_held 71 = .ok (.aload_n 0, 1) := by decide +kernel
theorem dX11_held_72 : decode cX11_held 72 = .ok (.aload_n 0, 1) := by decide +kernel
theorem dX11_held_73 : decode cX11_held 73 = .ok (.getfield 25, 3) := by decide +kernel
theorem dX11_held_76 : decode cX11_held 76 = .ok (.iload_n 3, 1) := by decide +kernel
theorem dX11_held_77 : decode cX11_held 77 = .ok (.iconst 3, 1) := by decide +kernel
theorem dX11_held_78 : decode cX11_held 78 = .ok (.iadd, 1) := by decide +kernel
theorem dX11_held_79 : decode cX11_held 79 = .ok (.iaload, 1) := by decide +kernel
theorem dX11_held_80 : decode cX11_held 80 = .ok (.invokestatic 318, 3) := by decide +kernel
theorem dX11_held_83 : decode cX11_held 83 = .ok (.i2l, 1) := by decide +kernel
theorem dX11_held_84 : decode cX11_held 84 = .ok (.invokevirtual 305, 3) := by decide +kernel
theorem dX11_held_87 : decode cX11_held 87 = .ok (.aload_n 0, 1) := by decide +kernel
theorem dX11_held_88 : decode cX11_held 88 = .ok (.aload_n 0, 1) := by decide +kernel
theorem dX11_held_89 : decode cX11_held 89 = .ok (.getfield 25, 3) := by decide +kernel
theorem dX11_held_92 : decode cX11_held 92 = .ok (.iload_n 3, 1) := by decide +kernel
theorem dX11_held_93 : decode cX11_held 93 = .ok (.iconst 4, 1) := by decide +kernel
theorem dX11_held_94 : decode cX11_held 94 = .ok (.iadd, 1) := by decide +kernel
theorem dX11_held_95 : decode cX11_held 95 = .ok (.iaload, 1) := by decide +kernel
theorem dX11_held_96 : decode cX11_held 96 = .ok (.i2l, 1) := by decide +kernel
theorem dX11_held_97 : decode cX11_held 97 = .ok (.invokevirtual 305, 3) := by decide +kernel
theorem dX11_held_100 : decode cX11_held 100 = .ok (.aload_n 0, 1) := by decide +kernel
theorem dX11_held_101 : decode cX11_held 101 = .ok (.iload_n 1, 1) := by decide +kernel
theorem dX11_held_102 : decode cX11_held 102 = .ok (.iload_n 2, 1) := by decide +kernel
theorem dX11_held_103 : decode cX11_held 103 = .ok (.invokevirtual 197, 3) := by decide +kernel
theorem dX11_held_106 : decode cX11_held 106 = .ok (.ireturn, 1) := by decide +kernel
set_option maxRecDepth 20000 in
theorem ggX11_sum_X11_advancedNow : GoodIn wsX11_sum wsX11_advancedNow := goodIn_r _ [11, 12, 13, 14, 15, 10, 16, 3, 17, 18, 19, 20, 21, 22, 23, 24, 25, 26, 27, 28, 29, 39, 40, 41, 42, 43, 44, 45, 46, 47, 48, 49, 50, 51, 52, 53, 54, 55, 56, 57, 58, 59, 60, 61, 62, 63, 64, 65, 66, 67, 68, 69, 70, 71, 72, 73] rfl (by decide +kernel)
set_option maxRecDepth 20000 in
theorem gX11_sum_X11_advancedNow : GoodIn wsX11_sum (wsV RX11 273 RX11 yX11_advancedNow wsX11_advancedNow) := goodIn_app (goodIn_of _ (by decide +kernel)) ggX11_sum_X11_advancedNow
set_option maxRecDepth 20000 in
theorem ggX11_sum_X11_tell : GoodIn wsX11_sum wsX11_tell := goodIn_r _ [33, 34, 2, 39, 40, 41, 42, 43, 44, 45, 46, 47, 48, 49, 50, 51, 52, 53, 54, 55, 56, 57, 58, 59, 60, 61, 62, 63, 64, 65, 66, 67, 68, 69, 70, 71, 72, 73] rfl (by decide +kernel)
set_option maxRecDepth 20000 in
theorem gX11_sum_X11_tell : GoodIn wsX11_sum (wsV RX11 305 RX11 yX11_tell wsX11_tell) := goodIn_app (goodIn_of _ (by decide +kernel)) ggX11_sum_X11_tell
set_option maxRecDepth 20000 in
theorem ggX11_sum_X11_limitNow : GoodIn wsX11_sum wsX11_limitNow := goodIn_r _ [38, 12, 13, 14, 15, 10, 16, 3, 17, 18, 19, 20, 21, 22, 23, 24, 25, 26, 27, 28, 29, 39, 40, 41, 42, 43, 44, 45, 46, 47, 48, 49, 50, 51, 52, 53, 54, 55, 56, 57, 58, 59, 60, 61, 62, 63, 64, 65, 66, 67, 68, 69, 70, 71, 72, 73] rfl (by decide +kernel)
set_option maxRecDepth 20000 in
theorem gX11_sum_X11_limitNow : GoodIn wsX11_sum (wsV RX11 253 RX11 yX11_limitNow wsX11_limitNow) := goodIn_app (goodIn_of _ (by decide +kernel)) ggX11_sum_X11_limitNow
set_option maxRecDepth 20000 in
theorem ggX11_sum_X11_sumNow : GoodIn wsX11_sum wsX11_sumNow := goodIn_r _ [16, 3, 17, 18, 19, 10, 20, 21, 22, 23, 24, 25, 39, 40, 41, 42, 43, 44, 45, 46, 47, 48, 49, 50, 51, 52, 53, 54, 55, 56, 57, 58, 59, 60, 61, 62, 63, 64, 65, 66, 67, 68, 69, 70, 71, 72, 73] rfl (by decide +kernel)
set_option maxRecDepth 20000 in
theorem gX11_sum_X11_sumNow : GoodIn wsX11_sum (wsV RX11 249 RX11 yX11_sumNow wsX11_sumNow) := goodIn_app (goodIn_of _ (by decide +kernel)) ggX11_sum_X11_sumNow
theorem dX11_sum_0 : decode cX11_sum 0 = .ok (.aload_n 0, 1) := by decide +kernel
theorem dX11_sum_1 : decode cX11_sum 1 = .ok (.iconst 0, 1) := by decide +kernel
theorem dX11_sum_2 : decode cX11_sum 2 = .ok (.putfield 97, 3) := by decide +kernel
theorem dX11_sum_5 : decode cX11_sum 5 = .ok (.aload_n 0, 1) := by decide +kernel
theorem dX11_sum_6 : decode cX11_sum 6 = .ok (.iconst 0, 1) := by decide +kernel
theorem dX11_sum_7 : decode cX11_sum 7 = .ok (.putfield 100, 3) := by decide +kernel
theorem dX11_sum_10 : decode cX11_sum 10 = .ok (.aload_n 0, 1) := by decide +kernel
theorem dX11_sum_11 : decode cX11_sum 11 = .ok (.aload_n 0, 1) := by decide +kernel
theorem dX11_sum_12 : decode cX11_sum 12 = .ok (.invokevirtual 273, 3) := by decide +kernel
theorem dX11_sum_15 : decode cX11_sum 15 = .ok (.invokevirtual 305, 3) := by decide +kernel
theorem dX11_sum_18 : decode cX11_sum 18 = .ok (.aload_n 0, 1) := by decide +kernel
theorem dX11_sum_19 : decode cX11_sum 19 = .ok (.aload_n 0, 1) := by decide +kernel
theorem dX11_sum_20 : decode cX11_sum 20 = .ok (.invokevirtual 253, 3) := by decide +kernel
theorem dX11_sum_23 : decode cX11_sum 23 = .ok (.invokevirtual 305, 3) := by decide +kernel
theorem dX11_sum_26 : decode cX11_sum 26 = .ok (.aload_n 0, 1) := by decide +kernel
theorem dX11_sum_27 : decode cX11_sum 27 = .ok (.aload_n 0, 1) := by decide +kernel
theorem dX11_sum_28 : decode cX11_sum 28 = .ok (.getfield 75, 3) := by decide +kernel
theorem dX11_sum_31 : decode cX11_sum 31 = .ok (.i2l, 1) := by decide +kernel
theorem dX11_sum_32 : decode cX11_sum 32 = .ok (.invokevirtual 305, 3) := by decide +kernel
theorem dX11_sum_35 : decode cX11_sum 35 = .ok (.aload_n 0, 1) := by decide +kernel
theorem dX11_sum_36 : decode cX11_sum 36 = .ok (.ldc2_w 321, 3) := by decide +kernel
theorem dX11_sum_39 : decode cX11_sum 39 = .ok (.aload_n 0, 1) := by decide +kernel
theorem dX11_sum_40 : decode cX11_sum 40 = .ok (.getfield 85, 3) := by decide +kernel
theorem dX11_sum_43 : decode cX11_sum 43 = .ok (.i2l, 1) := by decide +kernel
theorem dX11_sum_44 : decode cX11_sum 44 = .ok (.lmul, 1) := by decide +kernel
theorem dX11_sum_45 : decode cX11_sum 45 = .ok (.aload_n 0, 1) := by decide +kernel
theorem dX11_sum_46 : decode cX11_sum 46 = .ok (.getfield 88, 3) := by decide +kernel
theorem dX11_sum_49 : decode cX11_sum 49 = .ok (.i2l, 1) := by decide +kernel
theorem dX11_sum_50 : decode cX11_sum 50 = .ok (.ladd, 1) := by decide +kernel
theorem dX11_sum_51 : decode cX11_sum 51 = .ok (.invokevirtual 305, 3) := by decide +kernel
theorem dX11_sum_54 : decode cX11_sum 54 = .ok (.aload_n 0, 1) := by decide +kernel
theorem dX11_sum_55 : decode cX11_sum 55 = .ok (.invokevirtual 249, 3) := by decide +kernel
theorem dX11_sum_58 : decode cX11_sum 58 = .ok (.l2i, 1) := by decide +kernel
theorem dX11_sum_59 : decode cX11_sum 59 = .ok (.ireturn, 1) := by decide +kernel
set_option maxRecDepth 20000 in
theorem ggX11_lines_X11_isMonth : GoodIn wsX11_lines wsX11_isMonth := goodIn_r _ [7, 8, 9, 10, 6, 11] rfl (by decide +kernel)
set_option maxRecDepth 20000 in
theorem gX11_lines_X11_isMonth : GoodIn wsX11_lines (va_wsS RX11 152 yX11_isMonth wsX11_isMonth) := goodIn_app (goodIn_of _ (by decide +kernel)) ggX11_lines_X11_isMonth
set_option maxRecDepth 20000 in
theorem ggX11_lines_X11_layMonths : GoodIn wsX11_lines wsX11_layMonths := goodIn_r _ [15, 16, 17, 18, 19, 20, 21, 22, 23, 24, 3, 25, 26, 27, 28, 29, 30, 31, 32, 6, 33, 34, 35, 36, 37, 38, 39, 40, 41, 42, 43, 44, 45, 46, 47, 48, 49, 50, 51, 52, 53, 54, 55, 56, 57, 58, 59, 60, 61, 62, 63, 64, 65, 66, 67, 68, 69, 70, 71, 72, 73, 74, 75, 76, 77, 78, 79, 80, 81, 82, 83, 84, 85, 86, 87, 88, 89, 90, 91, 92, 93, 94, 95, 96, 97, 98, 99, 100, 101, 102, 103, 104, 105, 106, 107, 108, 109, 110, 111, 112, 113, 114, 115, 116, 117, 118, 119, 120, 121, 122, 123, 124, 125, 126, 127, 128, 129, 130, 131, 132, 133, 134, 135, 136, 137, 138, 139, 140, 141, 142, 143, 144, 145, 146, 147, 148, 149, 155, 156, 157, 158, 159, 160, 161, 162, 163, 164, 165, 166, 167, 168, 169, 170, 171, 172, 173, 174, 175, 176, 177, 178, 179, 180, 181, 182, 183, 184, 185, 186, 187, 188, 189] rfl (by decide +kernel)
set_option maxRecDepth 20000 in
theorem gX11_lines_X11_layMonths : GoodIn wsX11_lines (wsV RX11 302 RX11 yX11_layMonths wsX11_layMonths) := goodIn_app (goodIn_of _ (by decide +kernel)) ggX11_lines_X11_layMonths
set_option maxRecDepth 20000 in
theorem ggX11_lines_X11_workIn : GoodIn wsX11_lines wsX11_workIn := goodIn_r _ [50, 34, 51, 52, 53, 6, 54, 55, 56, 57, 58, 59, 60, 61, 62, 63, 64, 65, 66, 67, 68, 39, 35, 36, 37, 38, 40, 41, 42, 43, 69, 70, 71, 72, 73, 74, 19, 75, 16, 76, 77, 78, 79, 80, 81, 82, 83, 84, 44, 45, 46, 25, 155, 156, 157, 158, 159, 160, 161, 162, 163, 164, 165, 166, 167, 168, 169, 170, 171, 172, 173, 174, 175, 176, 177, 178, 179, 180, 181, 182, 183, 184, 185, 186, 187, 188, 189] rfl (by decide +kernel)
set_option maxRecDepth 20000 in
theorem gX11_lines_X11_workIn : GoodIn wsX11_lines (wsV RX11 256 RX11 yX11_workIn wsX11_workIn) := goodIn_app (goodIn_of _ (by decide +kernel)) ggX11_lines_X11_workIn
set_option maxRecDepth 20000 in
theorem ggX11_lines_X11_tell : GoodIn wsX11_lines wsX11_tell := goodIn_r _ [153, 154, 2, 155, 156, 157, 158, 159, 160, 161, 162, 163, 164, 165, 166, 167, 168, 169, 170, 171, 172, 173, 174, 175, 176, 177, 178, 179, 180, 181, 182, 183, 184, 185, 186, 187, 188, 189] rfl (by decide +kernel)
set_option maxRecDepth 20000 in
theorem gX11_lines_X11_tell : GoodIn wsX11_lines (wsV RX11 305 RX11 yX11_tell wsX11_tell) := goodIn_app (goodIn_of _ (by decide +kernel)) ggX11_lines_X11_tell
set_option maxRecDepth 20000 in
theorem ggX11_lines_X11_materialsIn : GoodIn wsX11_lines wsX11_materialsIn := goodIn_r _ [97, 98, 16, 99, 100, 101, 6, 102, 103, 44, 45, 46, 25, 155, 156, 157, 158, 159, 160, 161, 162, 163, 164, 165, 166, 167, 168, 169, 170, 171, 172, 173, 174, 175, 176, 177, 178, 179, 180, 181, 182, 183, 184, 185, 186, 187, 188, 189] rfl (by decide +kernel)
set_option maxRecDepth 20000 in
theorem gX11_lines_X11_materialsIn : GoodIn wsX11_lines (wsV RX11 276 RX11 yX11_materialsIn wsX11_materialsIn) := goodIn_app (goodIn_of _ (by decide +kernel)) ggX11_lines_X11_materialsIn
set_option maxRecDepth 20000 in
theorem ggX11_lines_X11_retainedIn : GoodIn wsX11_lines wsX11_retainedIn := goodIn_r _ [107, 21, 22, 23, 19, 24, 16, 17, 18, 20, 98, 108, 109, 110, 6, 111, 30, 31, 32, 33, 34, 35, 36, 37, 38, 39, 40, 41, 42, 43, 44, 45, 46, 25, 47, 48, 49, 50, 51, 52, 53, 54, 55, 56, 57, 58, 59, 60, 61, 62, 63, 64, 65, 66, 67, 68, 69, 70, 71, 72, 73, 74, 75, 76, 77, 78, 79, 80, 81, 82, 83, 84, 155, 156, 157, 158, 159, 160, 161, 162, 163, 164, 165, 166, 167, 168, 169, 170, 171, 172, 173, 174, 175, 176, 177, 178, 179, 180, 181, 182, 183, 184, 185, 186, 187, 188, 189] rfl (by decide +kernel)
set_option maxRecDepth 20000 in
theorem gX11_lines_X11_retainedIn : GoodIn wsX11_lines (wsV RX11 279 RX11 yX11_retainedIn wsX11_retainedIn) := goodIn_app (goodIn_of _ (by decide +kernel)) ggX11_lines_X11_retainedIn
set_option maxRecDepth 20000 in
theorem ggX11_lines_X11_setIn : GoodIn wsX11_lines wsX11_setIn := goodIn_r _ [115, 116, 117, 118, 119, 6, 120, 121, 44, 45, 46, 25, 155, 156, 157, 158, 159, 160, 161, 162, 163, 164, 165, 166, 167, 168, 169, 170, 171, 172, 173, 174, 175, 176, 177, 178, 179, 180, 181, 182, 183, 184, 185, 186, 187, 188, 189] rfl (by decide +kernel)
set_option maxRecDepth 20000 in
theorem gX11_lines_X11_setIn : GoodIn wsX11_lines (wsV RX11 282 RX11 yX11_setIn wsX11_setIn) := goodIn_app (goodIn_of _ (by decide +kernel)) ggX11_lines_X11_setIn
theorem dX11_lines_0 : decode cX11_lines 0 = .ok (.aload_n 0, 1) := by decide +kernel
theorem dX11_lines_1 : decode cX11_lines 1 = .ok (.iconst 0, 1) := by decide +kernel
theorem dX11_lines_2 : decode cX11_lines 2 = .ok (.putfield 97, 3) := by decide +kernel
theorem dX11_lines_5 : decode cX11_lines 5 = .ok (.iload_n 1, 1) := by decide +kernel
theorem dX11_lines_6 : decode cX11_lines 6 = .ok (.invokestatic 152, 3) := by decide +kernel
theorem dX11_lines_9 : decode cX11_lines 9 = .ok (.ifCond .ne 5, 3) := by decide +kernel
theorem dX11_lines_12 : decode cX11_lines 12 = .ok (.iconst (-1), 1) := by decide +kernel
theorem dX11_lines_13 : decode cX11_lines 13 = .ok (.ireturn, 1) := by decide +kernel
theorem dX11_lines_14 : decode cX11_lines 14 = .ok (.aload_n 0, 1) := by decide +kernel
theorem dX11_lines_15 : decode cX11_lines 15 = .ok (.invokevirtual 302, 3) := by decide +kernel
theorem dX11_lines_18 : decode cX11_lines 18 = .ok (.iload_n 1, 1) := by decide +kernel
theorem dX11_lines_19 : decode cX11_lines 19 = .ok (.ifCond .ne 7, 3) := by decide +kernel
theorem dX11_lines_22 : decode cX11_lines 22 = .ok (.iconst 1, 1) := by decide +kernel
theorem dX11_lines_23 : decode cX11_lines 23 = .ok (.goto 4, 3) := by decide +kernel
theorem dX11_lines_26 : decode cX11_lines 26 = .ok (.iconst 0, 1) := by decide +kernel
theorem dX11_lines_27 : decode cX11_lines 27 = .ok (.istore_n 2, 1) := by decide +kernel
theorem dX11_lines_28 : decode cX11_lines 28 = .ok (.aload_n 0, 1) := by decide +kernel
theorem dX11_lines_29 : decode cX11_lines 29 = .ok (.iconst 0, 1) := by decide +kernel
theorem dX11_lines_30 : decode cX11_lines 30 = .ok (.putfield 100, 3) := by decide +kernel
theorem dX11_lines_33 : decode cX11_lines 33 = .ok (.aload_n 0, 1) := by decide +kernel
theorem dX11_lines_34 : decode cX11_lines 34 = .ok (.aload_n 0, 1) := by decide +kernel
theorem dX11_lines_35 : decode cX11_lines 35 = .ok (.iload_n 1, 1) := by decide +kernel
theorem dX11_lines_36 : decode cX11_lines 36 = .ok (.invokevirtual 256, 3) := by decide +kernel
theorem dX11_lines_39 : decode cX11_lines 39 = .ok (.iload_n 2, 1) := by decide +kernel
theorem dX11_lines_40 : decode cX11_lines 40 = .ok (.ifCond .eq 7, 3) := by decide +kernel
theorem dX11_lines_43 : decode cX11_lines 43 = .ok (.lconst 0, 1) := by decide +kernel
theorem dX11_lines_44 : decode cX11_lines 44 = .ok (.goto 10, 3) := by decide +kernel
theorem dX11_lines_47 : decode cX11_lines 47 = .ok (.aload_n 0, 1) := by decide +kernel
theorem dX11_lines_48 : decode cX11_lines 48 = .ok (.iload_n 1, 1) := by decide +kernel
theorem dX11_lines_49 : decode cX11_lines 49 = .ok (.iconst 1, 1) := by decide +kernel
theorem dX11_lines_50 : decode cX11_lines 50 = .ok (.isub, 1) := by decide +kernel
theorem dX11_lines_51 : decode cX11_lines 51 = .ok (.invokevirtual 256, 3) := by decide +kernel
theorem dX11_lines_54 : decode cX11_lines 54 = .ok (.lsub, 1) := by decide +kernel
theorem dX11_lines_55 : decode cX11_lines 55 = .ok (.invokevirtual 305, 3) := by decide +kernel
theorem dX11_lines_58 : decode cX11_lines 58 = .ok (.aload_n 0, 1) := by decide +kernel
theorem dX11_lines_59 : decode cX11_lines 59 = .ok (.aload_n 0, 1) := by decide +kernel
theorem dX11_lines_60 : decode cX11_lines 60 = .ok (.iload_n 1, 1) := by decide +kernel
theorem dX11_lines_61 : decode cX11_lines 61 = .ok (.invokevirtual 276, 3) := by decide +kernel
theorem dX11_lines_64 : decode cX11_lines 64 = .ok (.iload_n 2, 1) := by decide +kernel
theorem dX11_lines_65 : decode cX11_lines 65 = .ok (.ifCond .eq 7, 3) := by decide +kernel
theorem dX11_lines_68 : decode cX11_lines 68 = .ok (.lconst 0, 1) := by decide +kernel
theorem dX11_lines_69 : decode cX11_lines 69 = .ok (.goto 10, 3) := by decide +kernel
theorem dX11_lines_72 : decode cX11_lines 72 = .ok (.aload_n 0, 1) := by decide +kernel
theorem dX11_lines_73 : decode cX11_lines 73 = .ok (.iload_n 1, 1) := by decide +kernel
theorem dX11_lines_74 : decode cX11_lines 74 = .ok (.iconst 1, 1) := by decide +kernel
theorem dX11_lines_75 : decode cX11_lines 75 = .ok (.isub, 1) := by decide +kernel
theorem dX11_lines_76 : decode cX11_lines 76 = .ok (.invokevirtual 276, 3) := by decide +kernel
theorem dX11_lines_79 : decode cX11_lines 79 = .ok (.lsub, 1) := by decide +kernel
theorem dX11_lines_80 : decode cX11_lines 80 = .ok (.invokevirtual 305, 3) := by decide +kernel
theorem dX11_lines_83 : decode cX11_lines 83 = .ok (.aload_n 0, 1) := by decide +kernel
theorem dX11_lines_84 : decode cX11_lines 84 = .ok (.aload_n 0, 1) := by decide +kernel
theorem dX11_lines_85 : decode cX11_lines 85 = .ok (.iload_n 1, 1) := by decide +kernel
theorem dX11_lines_86 : decode cX11_lines 86 = .ok (.invokevirtual 279, 3) := by decide +kernel
theorem dX11_lines_89 : decode cX11_lines 89 = .ok (.iload_n 2, 1) := by decide +kernel
theorem dX11_lines_90 : decode cX11_lines 90 = .ok (.ifCond .eq 7, 3) := by decide +kernel
theorem dX11_lines_93 : decode cX11_lines 93 = .ok (.lconst 0, 1) := by decide +kernel
theorem dX11_lines_94 : decode cX11_lines 94 = .ok (.goto 10, 3) := by decide +kernel
theorem dX11_lines_97 : decode cX11_lines 97 = .ok (.aload_n 0, 1) := by decide +kernel
theorem dX11_lines_98 : decode cX11_lines 98 = .ok (.iload_n 1, 1) := by decide +kernel
theorem dX11_lines_99 : decode cX11_lines 99 = .ok (.iconst 1, 1) := by decide +kernel
theorem dX11_lines_100 : decode cX11_lines 100 = .ok (.isub, 1) := by decide +kernel
theorem dX11_lines_101 : decode cX11_lines 101 = .ok (.invokevirtual 279, 3) := by decide +kernel
theorem dX11_lines_104 : decode cX11_lines 104 = .ok (.lsub, 1) := by decide +kernel
theorem dX11_lines_105 : decode cX11_lines 105 = .ok (.invokevirtual 305, 3) := by decide +kernel
theorem dX11_lines_108 : decode cX11_lines 108 = .ok (.aload_n 0, 1) := by decide +kernel
theorem dX11_lines_109 : decode cX11_lines 109 = .ok (.aload_n 0, 1) := by decide +kernel
theorem dX11_lines_110 : decode cX11_lines 110 = .ok (.getfield 48, 3) := by decide +kernel
theorem dX11_lines_113 : decode cX11_lines 113 = .ok (.iload_n 1, 1) := by decide +kernel
theorem dX11_lines_114 : decode cX11_lines 114 = .ok (.laload, 1) := by decide +kernel
theorem dX11_lines_115 : decode cX11_lines 115 = .ok (.iload_n 2, 1) := by decide +kernel
theorem dX11_lines_116 : decode cX11_lines 116 = .ok (.ifCond .eq 7, 3) := by decide +kernel
theorem dX11_lines_119 : decode cX11_lines 119 = .ok (.lconst 0, 1) := by decide +kernel
theorem dX11_lines_120 : decode cX11_lines 120 = .ok (.goto 11, 3) := by decide +kernel
theorem dX11_lines_123 : decode cX11_lines 123 = .ok (.aload_n 0, 1) := by decide +kernel
theorem dX11_lines_124 : decode cX11_lines 124 = .ok (.getfield 48, 3) := by decide +kernel
theorem dX11_lines_127 : decode cX11_lines 127 = .ok (.iload_n 1, 1) := by decide +kernel
theorem dX11_lines_128 : decode cX11_lines 128 = .ok (.iconst 1, 1) := by decide +kernel
theorem dX11_lines_129 : decode cX11_lines 129 = .ok (.isub, 1) := by decide +kernel
theorem dX11_lines_130 : decode cX11_lines 130 = .ok (.laload, 1) := by decide +kernel
theorem dX11_lines_131 : decode cX11_lines 131 = .ok (.lsub, 1) := by decide +kernel
theorem dX11_lines_132 : decode cX11_lines 132 = .ok (.invokevirtual 305, 3) := by decide +kernel
theorem dX11_lines_135 : decode cX11_lines 135 = .ok (.aload_n 0, 1) := by decide +kernel
theorem dX11_lines_136 : decode cX11_lines 136 = .ok (.aload_n 0, 1) := by decide +kernel
theorem dX11_lines_137 : decode cX11_lines 137 = .ok (.iload_n 1, 1) := by decide +kernel
theorem dX11_lines_138 : decode cX11_lines 138 = .ok (.invokevirtual 282, 3) := by decide +kernel
theorem dX11_lines_141 : decode cX11_lines 141 = .ok (.iload_n 2, 1) := by decide +kernel
theorem dX11_lines_142 : decode cX11_lines 142 = .ok (.ifCond .eq 7, 3) := by decide +kernel
theorem dX11_lines_145 : decode cX11_lines 145 = .ok (.lconst 0, 1) := by decide +kernel
theorem dX11_lines_146 : decode cX11_lines 146 = .ok (.goto 10, 3) := by decide +kernel
theorem dX11_lines_149 : decode cX11_lines 149 = .ok (.aload_n 0, 1) := by decide +kernel
theorem dX11_lines_150 : decode cX11_lines 150 = .ok (.iload_n 1, 1) := by decide +kernel
theorem dX11_lines_151 : decode cX11_lines 151 = .ok (.iconst 1, 1) := by decide +kernel
theorem dX11_lines_152 : decode cX11_lines 152 = .ok (.isub, 1) := by decide +kernel
theorem dX11_lines_153 : decode cX11_lines 153 = .ok (.invokevirtual 282, 3) := by decide +kernel
theorem dX11_lines_156 : decode cX11_lines 156 = .ok (.lsub, 1) := by decide +kernel
theorem dX11_lines_157 : decode cX11_lines 157 = .ok (.invokevirtual 305, 3) := by decide +kernel
theorem dX11_lines_160 : decode cX11_lines 160 = .ok (.iconst 0, 1) := by decide +kernel
theorem dX11_lines_161 : decode cX11_lines 161 = .ok (.ireturn, 1) := by decide +kernel
set_option maxRecDepth 20000 in
theorem ggX11_recovered_X11_layMonths : GoodIn wsX11_recovered wsX11_layMonths := goodIn_r _ [7, 8, 9, 10, 11, 12, 13, 14, 15, 16, 2, 17, 18, 19, 20, 21, 22, 23, 24, 6, 25, 26, 27, 28, 29, 30, 31, 32, 33, 34, 35, 36, 37, 38, 39, 40, 41, 42, 43, 44, 45, 46, 47, 48, 49, 50, 51, 52, 53, 54, 55, 56, 57, 58, 59, 60, 61, 62, 63, 64, 65, 66, 67, 68, 69, 70, 71, 72, 73, 74, 75, 76, 77, 78, 79, 80, 81, 82, 83, 84, 85, 86, 87, 88, 89, 90, 91, 92, 93, 94, 95, 96, 97, 98, 99, 100, 101, 102, 103, 104, 105, 106, 107, 108, 109, 110, 111, 112, 113, 114, 115, 116, 117, 118, 119, 120, 121, 122, 123, 124, 125, 126, 127, 128, 129, 130, 131, 132, 133, 134, 135, 136, 137, 138, 139, 140, 141, 142, 143, 144, 145, 146, 147, 148, 149, 150, 151, 152, 153, 154, 155, 156, 157, 158, 159, 160, 161, 162, 163, 164, 165, 166, 167, 168, 169, 170, 171, 172, 173, 174, 175, 176] rfl (by decide +kernel)
set_option maxRecDepth 20000 in
theorem gX11_recovered_X11_layMonths : GoodIn wsX11_recovered (wsV RX11 302 RX11 yX11_layMonths wsX11_layMonths) := goodIn_app (goodIn_of _ (by decide +kernel)) ggX11_recovered_X11_layMonths
set_option maxRecDepth 20000 in
theorem ggX11_recovered_X11_advancedNow : GoodIn wsX11_recovered wsX11_advancedNow := goodIn_r _ [80, 8, 22, 23, 24, 6, 25, 26, 27, 28, 29, 30, 31, 32, 33, 34, 35, 36, 37, 38, 17, 142, 143, 144, 145, 146, 147, 148, 149, 150, 151, 152, 153, 154, 155, 156, 157, 158, 159, 160, 161, 162, 163, 164, 165, 166, 167, 168, 169, 170, 171, 172, 173, 174, 175, 176] rfl (by decide +kernel)
set_option maxRecDepth 20000 in
theorem gX11_recovered_X11_advancedNow : GoodIn wsX11_recovered (wsV RX11 273 RX11 yX11_advancedNow wsX11_advancedNow) := goodIn_app (goodIn_of _ (by decide +kernel)) ggX11_recovered_X11_advancedNow
theorem dX11_recovered_0 : decode cX11_recovered 0 = .ok (.aload_n 0, 1) := by decide +kernel
theorem dX11_recovered_1 : decode cX11_recovered 1 = .ok (.iconst 0, 1) := by decide +kernel
theorem dX11_recovered_2 : decode cX11_recovered 2 = .ok (.putfield 97, 3) := by decide +kernel
theorem dX11_recovered_5 : decode cX11_recovered 5 = .ok (.aload_n 0, 1) := by decide +kernel
theorem dX11_recovered_6 : decode cX11_recovered 6 = .ok (.invokevirtual 302, 3) := by decide +kernel
theorem dX11_recovered_9 : decode cX11_recovered 9 = .ok (.iconst 0, 1) := by decide +kernel
theorem dX11_recovered_10 : decode cX11_recovered 10 = .ok (.istore_n 1, 1) := by decide +kernel
theorem dX11_recovered_11 : decode cX11_recovered 11 = .ok (.iload_n 1, 1) := by decide +kernel
theorem dX11_recovered_12 : decode cX11_recovered 12 = .ok (.bipush 24, 2) := by decide +kernel
theorem dX11_recovered_14 : decode cX11_recovered 14 = .ok (.if_icmp .ge 25, 3) := by decide +kernel
theorem dX11_recovered_17 : decode cX11_recovered 17 = .ok (.aload_n 0, 1) := by decide +kernel
theorem dX11_recovered_18 : decode cX11_recovered 18 = .ok (.getfield 48, 3) := by decide +kernel
theorem dX11_recovered_21 : decode cX11_recovered 21 = .ok (.iload_n 1, 1) := by decide +kernel
theorem dX11_recovered_22 : decode cX11_recovered 22 = .ok (.laload, 1) := by decide +kernel
theorem dX11_recovered_23 : decode cX11_recovered 23 = .ok (.aload_n 0, 1) := by decide +kernel
theorem dX11_recovered_24 : decode cX11_recovered 24 = .ok (.invokevirtual 273, 3) := by decide +kernel
theorem dX11_recovered_27 : decode cX11_recovered 27 = .ok (.lcmp, 1) := by decide +kernel
theorem dX11_recovered_28 : decode cX11_recovered 28 = .ok (.ifCond .ne 5, 3) := by decide +kernel
theorem dX11_recovered_31 : decode cX11_recovered 31 = .ok (.iload_n 1, 1) := by decide +kernel
theorem dX11_recovered_32 : decode cX11_recovered 32 = .ok (.ireturn, 1) := by decide +kernel
theorem dX11_recovered_33 : decode cX11_recovered 33 = .ok (.iinc 1 1, 3) := by decide +kernel
theorem dX11_recovered_36 : decode cX11_recovered 36 = .ok (.goto (-25), 3) := by decide +kernel
theorem dX11_recovered_39 : decode cX11_recovered 39 = .ok (.bipush (-2), 2) := by decide +kernel
theorem dX11_recovered_41 : decode cX11_recovered 41 = .ok (.ireturn, 1) := by decide +kernel
set_option maxRecDepth 20000 in
theorem ggX11_limited_X11_limitNow : GoodIn wsX11_limited wsX11_limitNow := goodIn_r _ [7, 8, 9, 10, 11, 6, 12, 13, 14, 15, 16, 17, 18, 19, 20, 21, 22, 23, 24, 25, 26, 77, 78, 79, 80, 81, 82, 83, 84, 85, 86, 87, 88, 89, 90, 91, 92, 93, 94, 95, 96, 97, 98, 99, 100, 101, 102, 103, 104, 105, 106, 107, 108, 109, 110, 111] rfl (by decide +kernel)
set_option maxRecDepth 20000 in
theorem gX11_limited_X11_limitNow : GoodIn wsX11_limited (wsV RX11 253 RX11 yX11_limitNow wsX11_limitNow) := goodIn_app (goodIn_of _ (by decide +kernel)) ggX11_limited_X11_limitNow
set_option maxRecDepth 20000 in
theorem ggX11_limited_X11_retainedIn : GoodIn wsX11_limited wsX11_retainedIn := goodIn_r _ [30, 31, 32, 33, 34, 35, 8, 36, 37, 38, 2, 3, 4, 5, 6, 7, 9, 10, 11, 12, 13, 14, 15, 16, 17, 18, 19, 20, 21, 22, 23, 24, 25, 26, 39, 40, 41, 42, 43, 44, 45, 46, 47, 48, 49, 50, 51, 52, 53, 54, 55, 56, 57, 58, 59, 60, 61, 62, 63, 64, 65, 66, 67, 68, 69, 70, 71, 72, 73, 74, 75, 76, 77, 78, 79, 80, 81, 82, 83, 84, 85, 86, 87, 88, 89, 90, 91, 92, 93, 94, 95, 96, 97, 98, 99, 100, 101, 102, 103, 104, 105, 106, 107, 108, 109, 110, 111] rfl (by decide +kernel)
set_option maxRecDepth 20000 in
theorem gX11_limited_X11_retainedIn : GoodIn wsX11_limited (wsV RX11 279 RX11 yX11_retainedIn wsX11_retainedIn) := goodIn_app (goodIn_of _ (by decide +kernel)) ggX11_limited_X11_retainedIn
theorem dX11_limited_0 : decode cX11_limited 0 = .ok (.aload_n 0, 1) := by decide +kernel
theorem dX11_limited_1 : decode cX11_limited 1 = .ok (.iconst 0, 1) := by decide +kernel
theorem dX11_limited_2 : decode cX11_limited 2 = .ok (.putfield 97, 3) := by decide +kernel
theorem dX11_limited_5 : decode cX11_limited 5 = .ok (.aload_n 0, 1) := by decide +kernel
theorem dX11_limited_6 : decode cX11_limited 6 = .ok (.invokevirtual 253, 3) := by decide +kernel
theorem dX11_limited_9 : decode cX11_limited 9 = .ok (.lstore_n 1, 1) := by decide +kernel
theorem dX11_limited_10 : decode cX11_limited 10 = .ok (.iconst 0, 1) := by decide +kernel
theorem dX11_limited_11 : decode cX11_limited 11 = .ok (.istore_n 3, 1) := by decide +kernel
theorem dX11_limited_12 : decode cX11_limited 12 = .ok (.iload_n 3, 1) := by decide +kernel
theorem dX11_limited_13 : decode cX11_limited 13 = .ok (.aload_n 0, 1) := by decide +kernel
theorem dX11_limited_14 : decode cX11_limited 14 = .ok (.getfield 85, 3) := by decide +kernel
theorem dX11_limited_17 : decode cX11_limited 17 = .ok (.if_icmp .ge 27, 3) := by decide +kernel
theorem dX11_limited_20 : decode cX11_limited 20 = .ok (.lload_n 1, 1) := by decide +kernel
theorem dX11_limited_21 : decode cX11_limited 21 = .ok (.lconst 0, 1) := by decide +kernel
theorem dX11_limited_22 : decode cX11_limited 22 = .ok (.lcmp, 1) := by decide +kernel
theorem dX11_limited_23 : decode cX11_limited 23 = .ok (.ifCond .le 21, 3) := by decide +kernel
theorem dX11_limited_26 : decode cX11_limited 26 = .ok (.aload_n 0, 1) := by decide +kernel
theorem dX11_limited_27 : decode cX11_limited 27 = .ok (.iload_n 3, 1) := by decide +kernel
theorem dX11_limited_28 : decode cX11_limited 28 = .ok (.invokevirtual 279, 3) := by decide +kernel
theorem dX11_limited_31 : decode cX11_limited 31 = .ok (.lload_n 1, 1) := by decide +kernel
theorem dX11_limited_32 : decode cX11_limited 32 = .ok (.lcmp, 1) := by decide +kernel
theorem dX11_limited_33 : decode cX11_limited 33 = .ok (.ifCond .ne 5, 3) := by decide +kernel
theorem dX11_limited_36 : decode cX11_limited 36 = .ok (.iload_n 3, 1) := by decide +kernel
theorem dX11_limited_37 : decode cX11_limited 37 = .ok (.ireturn, 1) := by decide +kernel
theorem dX11_limited_38 : decode cX11_limited 38 = .ok (.iinc 3 1, 3) := by decide +kernel
theorem dX11_limited_41 : decode cX11_limited 41 = .ok (.goto (-29), 3) := by decide +kernel
theorem dX11_limited_44 : decode cX11_limited 44 = .ok (.bipush (-2), 2) := by decide +kernel
theorem dX11_limited_46 : decode cX11_limited 46 = .ok (.ireturn, 1) := by decide +kernel
set_option maxRecDepth 20000 in
theorem ggX11_reaches_X11_layMonths : GoodIn wsX11_reaches wsX11_layMonths := goodIn_r _ [8, 9, 10, 11, 12, 13, 14, 15, 16, 17, 18, 19, 20, 21, 22, 2, 23, 24, 25, 7, 26, 27, 28, 29, 30, 31, 32, 33, 34, 35, 36, 37, 38, 39, 40, 41, 42, 43, 44, 45, 46, 47, 48, 49, 50, 51, 52, 53, 54, 55, 56, 57, 58, 59, 60, 61, 62, 63, 64, 65, 66, 67, 68, 69, 70, 71, 72, 73, 74, 75, 76, 77, 78, 79, 80, 81, 82, 83, 84, 85, 86, 87, 88, 89, 90, 91, 92, 93, 94, 95, 96, 97, 98, 99, 100, 101, 102, 103, 104, 105, 106, 107, 108, 109, 110, 111, 112, 113, 114, 115, 116, 117, 118, 119, 120, 121, 122, 123, 124, 125, 126, 127, 128, 129, 130, 131, 132, 133, 134, 135, 136, 137, 138, 139, 140, 141, 142, 148, 149, 150, 151, 152, 153, 154, 155, 156, 157, 158, 159, 160, 161, 162, 163, 164, 165, 166, 167, 168, 169, 170, 171, 172, 173, 174, 175, 176, 177, 178, 179, 180, 181, 182] rfl (by decide +kernel)
set_option maxRecDepth 20000 in
theorem gX11_reaches_X11_layMonths : GoodIn wsX11_reaches (wsV RX11 302 RX11 yX11_layMonths wsX11_layMonths) := goodIn_app (goodIn_of _ (by decide +kernel)) ggX11_reaches_X11_layMonths
set_option maxRecDepth 20000 in
theorem ggX11_reaches_X11_tell : GoodIn wsX11_reaches wsX11_tell := goodIn_r _ [146, 147, 3, 148, 149, 150, 151, 152, 153, 154, 155, 156, 157, 158, 159, 160, 161, 162, 163, 164, 165, 166, 167, 168, 169, 170, 171, 172, 173, 174, 175, 176, 177, 178, 179, 180, 181, 182] rfl (by decide +kernel)
set_option maxRecDepth 20000 in
theorem gX11_reaches_X11_tell : GoodIn wsX11_reaches (wsV RX11 305 RX11 yX11_tell wsX11_tell) := goodIn_app (goodIn_of _ (by decide +kernel)) ggX11_reaches_X11_tell
theorem dX11_reaches_0 : decode cX11_reaches 0 = .ok (.aload_n 0, 1) := by decide +kernel
theorem dX11_reaches_1 : decode cX11_reaches 1 = .ok (.iconst 0, 1) := by decide +kernel
theorem dX11_reaches_2 : decode cX11_reaches 2 = .ok (.putfield 97, 3) := by decide +kernel
theorem dX11_reaches_5 : decode cX11_reaches 5 = .ok (.lload_n 1, 1) := by decide +kernel
theorem dX11_reaches_6 : decode cX11_reaches 6 = .ok (.lconst 1, 1) := by decide +kernel
theorem dX11_reaches_7 : decode cX11_reaches 7 = .ok (.lcmp, 1) := by decide +kernel
theorem dX11_reaches_8 : decode cX11_reaches 8 = .ok (.ifCond .ge 5, 3) := by decide +kernel
theorem dX11_reaches_11 : decode cX11_reaches 11 = .ok (.iconst (-1), 1) := by decide +kernel
theorem dX11_reaches_12 : decode cX11_reaches 12 = .ok (.ireturn, 1) := by decide +kernel
theorem dX11_reaches_13 : decode cX11_reaches 13 = .ok (.aload_n 0, 1) := by decide +kernel
theorem dX11_reaches_14 : decode cX11_reaches 14 = .ok (.invokevirtual 302, 3) := by decide +kernel
theorem dX11_reaches_17 : decode cX11_reaches 17 = .ok (.iconst 0, 1) := by decide +kernel
theorem dX11_reaches_18 : decode cX11_reaches 18 = .ok (.istore_n 3, 1) := by decide +kernel
theorem dX11_reaches_19 : decode cX11_reaches 19 = .ok (.iload_n 3, 1) := by decide +kernel
theorem dX11_reaches_20 : decode cX11_reaches 20 = .ok (.bipush 24, 2) := by decide +kernel
theorem dX11_reaches_22 : decode cX11_reaches 22 = .ok (.if_icmp .ge 40, 3) := by decide +kernel
theorem dX11_reaches_25 : decode cX11_reaches 25 = .ok (.aload_n 0, 1) := by decide +kernel
theorem dX11_reaches_26 : decode cX11_reaches 26 = .ok (.getfield 57, 3) := by decide +kernel
theorem dX11_reaches_29 : decode cX11_reaches 29 = .ok (.iload_n 3, 1) := by decide +kernel
theorem dX11_reaches_30 : decode cX11_reaches 30 = .ok (.laload, 1) := by decide +kernel
theorem dX11_reaches_31 : decode cX11_reaches 31 = .ok (.lload_n 1, 1) := by decide +kernel
theorem dX11_reaches_32 : decode cX11_reaches 32 = .ok (.lcmp, 1) := by decide +kernel
theorem dX11_reaches_33 : decode cX11_reaches 33 = .ok (.ifCond .ge 6, 3) := by decide +kernel
theorem dX11_reaches_36 : decode cX11_reaches 36 = .ok (.goto 20, 3) := by decide +kernel
theorem dX11_reaches_39 : decode cX11_reaches 39 = .ok (.aload_n 0, 1) := by decide +kernel
theorem dX11_reaches_40 : decode cX11_reaches 40 = .ok (.iconst 0, 1) := by decide +kernel
theorem dX11_reaches_41 : decode cX11_reaches 41 = .ok (.putfield 100, 3) := by decide +kernel
theorem dX11_reaches_44 : decode cX11_reaches 44 = .ok (.aload_n 0, 1) := by decide +kernel
theorem dX11_reaches_45 : decode cX11_reaches 45 = .ok (.aload_n 0, 1) := by decide +kernel
theorem dX11_reaches_46 : decode cX11_reaches 46 = .ok (.getfield 57, 3) := by decide +kernel
theorem dX11_reaches_49 : decode cX11_reaches 49 = .ok (.iload_n 3, 1) := by decide +kernel
theorem dX11_reaches_50 : decode cX11_reaches 50 = .ok (.laload, 1) := by decide +kernel
theorem dX11_reaches_51 : decode cX11_reaches 51 = .ok (.invokevirtual 305, 3) := by decide +kernel
theorem dX11_reaches_54 : decode cX11_reaches 54 = .ok (.iload_n 3, 1) := by decide +kernel
theorem dX11_reaches_55 : decode cX11_reaches 55 = .ok (.ireturn, 1) := by decide +kernel
theorem dX11_reaches_56 : decode cX11_reaches 56 = .ok (.iinc 3 1, 3) := by decide +kernel
theorem dX11_reaches_59 : decode cX11_reaches 59 = .ok (.goto (-40), 3) := by decide +kernel
theorem dX11_reaches_62 : decode cX11_reaches 62 = .ok (.bipush (-2), 2) := by decide +kernel
theorem dX11_reaches_64 : decode cX11_reaches 64 = .ok (.ireturn, 1) := by decide +kernel
set_option maxRecDepth 20000 in
theorem ggX11_worst_X11_layMonths : GoodIn wsX11_worst wsX11_layMonths := goodIn_r _ [8, 9, 10, 11, 12, 13, 14, 15, 16, 17, 18, 19, 20, 21, 22, 23, 24, 25, 26, 7, 27, 28, 29, 30, 31, 32, 33, 34, 35, 36, 37, 38, 39, 40, 41, 42, 43, 44, 45, 46, 47, 48, 49, 50, 51, 52, 53, 54, 55, 56, 57, 58, 59, 60, 61, 62, 63, 64, 65, 66, 67, 68, 69, 70, 71, 72, 73, 74, 75, 76, 77, 78, 79, 80, 81, 82, 83, 84, 85, 86, 87, 88, 89, 90, 91, 92, 93, 94, 95, 96, 97, 98, 99, 100, 101, 102, 103, 104, 105, 106, 107, 108, 109, 110, 111, 112, 113, 114, 115, 116, 117, 118, 119, 120, 121, 122, 123, 124, 125, 126, 127, 128, 129, 130, 131, 132, 133, 134, 135, 136, 2, 137, 138, 139, 140, 141, 142, 148, 149, 150, 151, 152, 153, 154, 155, 156, 157, 158, 159, 160, 161, 162, 163, 164, 165, 166, 167, 168, 169, 170, 171, 172, 173, 174, 175, 176, 177, 178, 179, 180, 181, 182] rfl (by decide +kernel)
set_option maxRecDepth 20000 in
theorem gX11_worst_X11_layMonths : GoodIn wsX11_worst (wsV RX11 302 RX11 yX11_layMonths wsX11_layMonths) := goodIn_app (goodIn_of _ (by decide +kernel)) ggX11_worst_X11_layMonths
set_option maxRecDepth 20000 in
theorem ggX11_worst_X11_tell : GoodIn wsX11_worst wsX11_tell := goodIn_r _ [146, 147, 3, 148, 149, 150, 151, 152, 153, 154, 155, 156, 157, 158, 159, 160, 161, 162, 163, 164, 165, 166, 167, 168, 169, 170, 171, 172, 173, 174, 175, 176, 177, 178, 179, 180, 181, 182] rfl (by decide +kernel)
set_option maxRecDepth 20000 in
theorem gX11_worst_X11_tell : GoodIn wsX11_worst (wsV RX11 305 RX11 yX11_tell wsX11_tell) := goodIn_app (goodIn_of _ (by decide +kernel)) ggX11_worst_X11_tell
theorem dX11_worst_0 : decode cX11_worst 0 = .ok (.aload_n 0, 1) := by decide +kernel
theorem dX11_worst_1 : decode cX11_worst 1 = .ok (.iconst 0, 1) := by decide +kernel
theorem dX11_worst_2 : decode cX11_worst 2 = .ok (.putfield 97, 3) := by decide +kernel
theorem dX11_worst_5 : decode cX11_worst 5 = .ok (.aload_n 0, 1) := by decide +kernel
theorem dX11_worst_6 : decode cX11_worst 6 = .ok (.invokevirtual 302, 3) := by decide +kernel
theorem dX11_worst_9 : decode cX11_worst 9 = .ok (.iconst 0, 1) := by decide +kernel
theorem dX11_worst_10 : decode cX11_worst 10 = .ok (.istore_n 1, 1) := by decide +kernel
theorem dX11_worst_11 : decode cX11_worst 11 = .ok (.iconst 0, 1) := by decide +kernel
theorem dX11_worst_12 : decode cX11_worst 12 = .ok (.istore_n 2, 1) := by decide +kernel
theorem dX11_worst_13 : decode cX11_worst 13 = .ok (.iconst 0, 1) := by decide +kernel
theorem dX11_worst_14 : decode cX11_worst 14 = .ok (.istore_n 3, 1) := by decide +kernel
theorem dX11_worst_15 : decode cX11_worst 15 = .ok (.iload_n 3, 1) := by decide +kernel
theorem dX11_worst_16 : decode cX11_worst 16 = .ok (.bipush 24, 2) := by decide +kernel
theorem dX11_worst_18 : decode cX11_worst 18 = .ok (.if_icmp .ge 46, 3) := by decide +kernel
theorem dX11_worst_21 : decode cX11_worst 21 = .ok (.aload_n 0, 1) := by decide +kernel
theorem dX11_worst_22 : decode cX11_worst 22 = .ok (.getfield 60, 3) := by decide +kernel
theorem dX11_worst_25 : decode cX11_worst 25 = .ok (.iload_n 3, 1) := by decide +kernel
theorem dX11_worst_26 : decode cX11_worst 26 = .ok (.laload, 1) := by decide +kernel
theorem dX11_worst_27 : decode cX11_worst 27 = .ok (.aload_n 0, 1) := by decide +kernel
theorem dX11_worst_28 : decode cX11_worst 28 = .ok (.getfield 60, 3) := by decide +kernel
theorem dX11_worst_31 : decode cX11_worst 31 = .ok (.iload_n 1, 1) := by decide +kernel
theorem dX11_worst_32 : decode cX11_worst 32 = .ok (.laload, 1) := by decide +kernel
theorem dX11_worst_33 : decode cX11_worst 33 = .ok (.lcmp, 1) := by decide +kernel
theorem dX11_worst_34 : decode cX11_worst 34 = .ok (.ifCond .le 5, 3) := by decide +kernel
theorem dX11_worst_37 : decode cX11_worst 37 = .ok (.iload_n 3, 1) := by decide +kernel
theorem dX11_worst_38 : decode cX11_worst 38 = .ok (.istore_n 1, 1) := by decide +kernel
theorem dX11_worst_39 : decode cX11_worst 39 = .ok (.iload_n 2, 1) := by decide +kernel
theorem dX11_worst_40 : decode cX11_worst 40 = .ok (.aload_n 0, 1) := by decide +kernel
theorem dX11_worst_41 : decode cX11_worst 41 = .ok (.getfield 60, 3) := by decide +kernel
theorem dX11_worst_44 : decode cX11_worst 44 = .ok (.iload_n 3, 1) := by decide +kernel
theorem dX11_worst_45 : decode cX11_worst 45 = .ok (.laload, 1) := by decide +kernel
theorem dX11_worst_46 : decode cX11_worst 46 = .ok (.lconst 0, 1) := by decide +kernel
theorem dX11_worst_47 : decode cX11_worst 47 = .ok (.lcmp, 1) := by decide +kernel
theorem dX11_worst_48 : decode cX11_worst 48 = .ok (.ifCond .le 7, 3) := by decide +kernel
theorem dX11_worst_51 : decode cX11_worst 51 = .ok (.iconst 1, 1) := by decide +kernel
theorem dX11_worst_52 : decode cX11_worst 52 = .ok (.goto 4, 3) := by decide +kernel
theorem dX11_worst_55 : decode cX11_worst 55 = .ok (.iconst 0, 1) := by decide +kernel
theorem dX11_worst_56 : decode cX11_worst 56 = .ok (.iadd, 1) := by decide +kernel
theorem dX11_worst_57 : decode cX11_worst 57 = .ok (.istore_n 2, 1) := by decide +kernel
theorem dX11_worst_58 : decode cX11_worst 58 = .ok (.iinc 3 1, 3) := by decide +kernel
theorem dX11_worst_61 : decode cX11_worst 61 = .ok (.goto (-46), 3) := by decide +kernel
theorem dX11_worst_64 : decode cX11_worst 64 = .ok (.aload_n 0, 1) := by decide +kernel
theorem dX11_worst_65 : decode cX11_worst 65 = .ok (.iconst 0, 1) := by decide +kernel
theorem dX11_worst_66 : decode cX11_worst 66 = .ok (.putfield 100, 3) := by decide +kernel
theorem dX11_worst_69 : decode cX11_worst 69 = .ok (.aload_n 0, 1) := by decide +kernel
theorem dX11_worst_70 : decode cX11_worst 70 = .ok (.aload_n 0, 1) := by decide +kernel
theorem dX11_worst_71 : decode cX11_worst 71 = .ok (.getfield 60, 3) := by decide +kernel
theorem dX11_worst_74 : decode cX11_worst 74 = .ok (.iload_n 1, 1) := by decide +kernel
theorem dX11_worst_75 : decode cX11_worst 75 = .ok (.laload, 1) := by decide +kernel
theorem dX11_worst_76 : decode cX11_worst 76 = .ok (.invokevirtual 305, 3) := by decide +kernel
theorem dX11_worst_79 : decode cX11_worst 79 = .ok (.aload_n 0, 1) := by decide +kernel
theorem dX11_worst_80 : decode cX11_worst 80 = .ok (.iload_n 2, 1) := by decide +kernel
theorem dX11_worst_81 : decode cX11_worst 81 = .ok (.i2l, 1) := by decide +kernel
theorem dX11_worst_82 : decode cX11_worst 82 = .ok (.invokevirtual 305, 3) := by decide +kernel
theorem dX11_worst_85 : decode cX11_worst 85 = .ok (.iload_n 1, 1) := by decide +kernel
theorem dX11_worst_86 : decode cX11_worst 86 = .ok (.ireturn, 1) := by decide +kernel
theorem dX11_layPaid_0 : decode cX11_layPaid 0 = .ok (.iconst 0, 1) := by decide +kernel
theorem dX11_layPaid_1 : decode cX11_layPaid 1 = .ok (.istore_n 1, 1) := by decide +kernel
theorem dX11_layPaid_2 : decode cX11_layPaid 2 = .ok (.iload_n 1, 1) := by decide +kernel
theorem dX11_layPaid_3 : decode cX11_layPaid 3 = .ok (.bipush 24, 2) := by decide +kernel
theorem dX11_layPaid_5 : decode cX11_layPaid 5 = .ok (.if_icmp .ge 21, 3) := by decide +kernel
theorem dX11_layPaid_8 : decode cX11_layPaid 8 = .ok (.aload_n 0, 1) := by decide +kernel
theorem dX11_layPaid_9 : decode cX11_layPaid 9 = .ok (.getfield 66, 3) := by decide +kernel
theorem dX11_layPaid_12 : decode cX11_layPaid 12 = .ok (.iload_n 1, 1) := by decide +kernel
theorem dX11_layPaid_13 : decode cX11_layPaid 13 = .ok (.aload_n 0, 1) := by decide +kernel
theorem dX11_layPaid_14 : decode cX11_layPaid 14 = .ok (.getfield 31, 3) := by decide +kernel
theorem dX11_layPaid_17 : decode cX11_layPaid 17 = .ok (.iload_n 1, 1) := by decide +kernel
theorem dX11_layPaid_18 : decode cX11_layPaid 18 = .ok (.iaload, 1) := by decide +kernel
theorem dX11_layPaid_19 : decode cX11_layPaid 19 = .ok (.iastore, 1) := by decide +kernel
theorem dX11_layPaid_20 : decode cX11_layPaid 20 = .ok (.iinc 1 1, 3) := by decide +kernel
theorem dX11_layPaid_23 : decode cX11_layPaid 23 = .ok (.goto (-21), 3) := by decide +kernel
theorem dX11_layPaid_26 : decode cX11_layPaid 26 = .ok (.return_, 1) := by decide +kernel
theorem dX11_paidAgain_0 : decode cX11_paidAgain 0 = .ok (.iconst 0, 1) := by decide +kernel
theorem dX11_paidAgain_1 : decode cX11_paidAgain 1 = .ok (.istore_n 1, 1) := by decide +kernel
theorem dX11_paidAgain_2 : decode cX11_paidAgain 2 = .ok (.iload_n 1, 1) := by decide +kernel
theorem dX11_paidAgain_3 : decode cX11_paidAgain 3 = .ok (.bipush 24, 2) := by decide +kernel
theorem dX11_paidAgain_5 : decode cX11_paidAgain 5 = .ok (.if_icmp .ge 21, 3) := by decide +kernel
theorem dX11_paidAgain_8 : decode cX11_paidAgain 8 = .ok (.aload_n 0, 1) := by decide +kernel
theorem dX11_paidAgain_9 : decode cX11_paidAgain 9 = .ok (.getfield 31, 3) := by decide +kernel
theorem dX11_paidAgain_12 : decode cX11_paidAgain 12 = .ok (.iload_n 1, 1) := by decide +kernel
theorem dX11_paidAgain_13 : decode cX11_paidAgain 13 = .ok (.aload_n 0, 1) := by decide +kernel
theorem dX11_paidAgain_14 : decode cX11_paidAgain 14 = .ok (.getfield 66, 3) := by decide +kernel
theorem dX11_paidAgain_17 : decode cX11_paidAgain 17 = .ok (.iload_n 1, 1) := by decide +kernel
theorem dX11_paidAgain_18 : decode cX11_paidAgain 18 = .ok (.iaload, 1) := by decide +kernel
theorem dX11_paidAgain_19 : decode cX11_paidAgain 19 = .ok (.iastore, 1) := by decide +kernel
theorem dX11_paidAgain_20 : decode cX11_paidAgain 20 = .ok (.iinc 1 1, 3) := by decide +kernel
theorem dX11_paidAgain_23 : decode cX11_paidAgain 23 = .ok (.goto (-21), 3) := by decide +kernel
theorem dX11_paidAgain_26 : decode cX11_paidAgain 26 = .ok (.return_, 1) := by decide +kernel
set_option maxRecDepth 20000 in
theorem ggX11_clears_X11_isMonth : GoodIn wsX11_clears wsX11_isMonth := goodIn_r _ [13, 14, 15, 16, 12, 17] rfl (by decide +kernel)
set_option maxRecDepth 20000 in
theorem gX11_clears_X11_isMonth : GoodIn wsX11_clears (va_wsS RX11 152 yX11_isMonth wsX11_isMonth) := goodIn_app (goodIn_of _ (by decide +kernel)) ggX11_clears_X11_isMonth
set_option maxRecDepth 20000 in
theorem ggX11_clears_X11_layMonths : GoodIn wsX11_clears wsX11_layMonths := goodIn_r _ [21, 8, 22, 23, 6, 24, 25, 4, 5, 7, 26, 27, 28, 29, 30, 31, 32, 33, 34, 12, 35, 36, 37, 38, 39, 40, 41, 42, 43, 44, 45, 46, 47, 48, 49, 50, 51, 52, 53, 54, 55, 56, 57, 58, 59, 60, 61, 62, 63, 64, 65, 66, 67, 68, 69, 70, 71, 72, 73, 74, 75, 76, 77, 78, 79, 80, 81, 82, 83, 84, 85, 86, 87, 88, 89, 90, 91, 92, 93, 94, 95, 96, 97, 98, 99, 100, 101, 102, 103, 104, 105, 106, 107, 108, 109, 110, 111, 112, 113, 114, 115, 116, 117, 118, 119, 120, 121, 122, 123, 124, 125, 126, 127, 128, 129, 130, 131, 132, 133, 134, 135, 136, 137, 138, 139, 140, 141, 142, 143, 144, 2, 3, 145, 146, 147, 148, 149, 159, 160, 161, 162, 163, 164, 165, 166, 167, 168, 169, 170, 171, 172, 173, 174, 175, 176, 177, 178, 179, 180, 181, 182, 183, 184, 185, 186, 187, 188, 189, 190, 191, 192, 193] rfl (by decide +kernel)
set_option maxRecDepth 20000 in
theorem gX11_clears_X11_layMonths : GoodIn wsX11_clears (wsV RX11 302 RX11 yX11_layMonths wsX11_layMonths) := goodIn_app (goodIn_of _ (by decide +kernel)) ggX11_clears_X11_layMonths
set_option maxRecDepth 20000 in
theorem ggX11_clears_X11_lacking : GoodIn wsX11_clears wsX11_lacking := goodIn_r _ [153, 8, 31, 145, 146, 147, 12, 148, 149, 159, 160, 161, 162, 163, 164, 165, 166, 167, 168, 169, 170, 171, 172, 173, 174, 175, 176, 177, 178, 179, 180, 181, 182, 183, 184, 185, 186, 187, 188, 189, 190, 191, 192, 193] rfl (by decide +kernel)
set_option maxRecDepth 20000 in
theorem gX11_clears_X11_lacking : GoodIn wsX11_clears (wsV RX11 323 RX11 yX11_lacking wsX11_lacking) := goodIn_app (goodIn_of _ (by decide +kernel)) ggX11_clears_X11_lacking
set_option maxRecDepth 20000 in
theorem ggX11_clears_X11_thousandths : GoodIn wsX11_clears wsX11_thousandths := goodIn_r _ [48, 27] rfl (by decide +kernel)
set_option maxRecDepth 20000 in
theorem gX11_clears_X11_thousandths : GoodIn wsX11_clears (va_wsS RX11 220 yX11_thousandths wsX11_thousandths) := goodIn_app (goodIn_of _ (by decide +kernel)) ggX11_clears_X11_thousandths
set_option maxRecDepth 20000 in
theorem ggX11_clears_X11_tell : GoodIn wsX11_clears wsX11_tell := goodIn_r _ [157, 158, 9, 159, 160, 161, 162, 163, 164, 165, 166, 167, 168, 169, 170, 171, 172, 173, 174, 175, 176, 177, 178, 179, 180, 181, 182, 183, 184, 185, 186, 187, 188, 189, 190, 191, 192, 193] rfl (by decide +kernel)
set_option maxRecDepth 20000 in
theorem gX11_clears_X11_tell : GoodIn wsX11_clears (wsV RX11 305 RX11 yX11_tell wsX11_tell) := goodIn_app (goodIn_of _ (by decide +kernel)) ggX11_clears_X11_tell
theorem dX11_clears_0 : decode cX11_clears 0 = .ok (.aload_n 0, 1) := by decide +kernel
theorem dX11_clears_1 : decode cX11_clears 1 = .ok (.iconst 0, 1) := by decide +kernel
theorem dX11_clears_2 : decode cX11_clears 2 = .ok (.putfield 97, 3) := by decide +kernel
theorem dX11_clears_5 : decode cX11_clears 5 = .ok (.iload_n 1, 1) := by decide +kernel
theorem dX11_clears_6 : decode cX11_clears 6 = .ok (.invokestatic 152, 3) := by decide +kernel
theorem dX11_clears_9 : decode cX11_clears 9 = .ok (.ifCond .ne 5, 3) := by decide +kernel
theorem dX11_clears_12 : decode cX11_clears 12 = .ok (.iconst (-1), 1) := by decide +kernel
theorem dX11_clears_13 : decode cX11_clears 13 = .ok (.ireturn, 1) := by decide +kernel
theorem dX11_clears_14 : decode cX11_clears 14 = .ok (.aload_n 0, 1) := by decide +kernel
theorem dX11_clears_15 : decode cX11_clears 15 = .ok (.invokevirtual 302, 3) := by decide +kernel
theorem dX11_clears_18 : decode cX11_clears 18 = .ok (.aload_n 0, 1) := by decide +kernel
theorem dX11_clears_19 : decode cX11_clears 19 = .ok (.getfield 60, 3) := by decide +kernel
theorem dX11_clears_22 : decode cX11_clears 22 = .ok (.iload_n 1, 1) := by decide +kernel
theorem dX11_clears_23 : decode cX11_clears 23 = .ok (.laload, 1) := by decide +kernel
theorem dX11_clears_24 : decode cX11_clears 24 = .ok (.lstore_n 2, 1) := by decide +kernel
theorem dX11_clears_25 : decode cX11_clears 25 = .ok (.lconst 0, 1) := by decide +kernel
theorem dX11_clears_26 : decode cX11_clears 26 = .ok (.lstore 4, 2) := by decide +kernel
theorem dX11_clears_28 : decode cX11_clears 28 = .ok (.iconst 0, 1) := by decide +kernel
theorem dX11_clears_29 : decode cX11_clears 29 = .ok (.istore 6, 2) := by decide +kernel
theorem dX11_clears_31 : decode cX11_clears 31 = .ok (.iload 6, 2) := by decide +kernel
theorem dX11_clears_33 : decode cX11_clears 33 = .ok (.bipush 24, 2) := by decide +kernel
theorem dX11_clears_35 : decode cX11_clears 35 = .ok (.if_icmp .ge 52, 3) := by decide +kernel
theorem dX11_clears_38 : decode cX11_clears 38 = .ok (.lload 4, 2) := by decide +kernel
theorem dX11_clears_40 : decode cX11_clears 40 = .ok (.iload 6, 2) := by decide +kernel
theorem dX11_clears_42 : decode cX11_clears 42 = .ok (.iload_n 1, 1) := by decide +kernel
theorem dX11_clears_43 : decode cX11_clears 43 = .ok (.if_icmp .ge 13, 3) := by decide +kernel
theorem dX11_clears_46 : decode cX11_clears 46 = .ok (.aload_n 0, 1) := by decide +kernel
theorem dX11_clears_47 : decode cX11_clears 47 = .ok (.getfield 63, 3) := by decide +kernel
theorem dX11_clears_50 : decode cX11_clears 50 = .ok (.iload 6, 2) := by decide +kernel
theorem dX11_clears_52 : decode cX11_clears 52 = .ok (.laload, 1) := by decide +kernel
theorem dX11_clears_53 : decode cX11_clears 53 = .ok (.goto 25, 3) := by decide +kernel
theorem dX11_clears_56 : decode cX11_clears 56 = .ok (.lconst 0, 1) := by decide +kernel
theorem dX11_clears_57 : decode cX11_clears 57 = .ok (.aload_n 0, 1) := by decide +kernel
theorem dX11_clears_58 : decode cX11_clears 58 = .ok (.iload 6, 2) := by decide +kernel
theorem dX11_clears_60 : decode cX11_clears 60 = .ok (.invokevirtual 323, 3) := by decide +kernel
theorem dX11_clears_63 : decode cX11_clears 63 = .ok (.lload_n 2, 1) := by decide +kernel
theorem dX11_clears_64 : decode cX11_clears 64 = .ok (.lsub, 1) := by decide +kernel
theorem dX11_clears_65 : decode cX11_clears 65 = .ok (.invokestatic 259, 3) := by decide +kernel
theorem dX11_clears_68 : decode cX11_clears 68 = .ok (.aload_n 0, 1) := by decide +kernel
theorem dX11_clears_69 : decode cX11_clears 69 = .ok (.getfield 7, 3) := by decide +kernel
theorem dX11_clears_72 : decode cX11_clears 72 = .ok (.bipush 7, 2) := by decide +kernel
theorem dX11_clears_74 : decode cX11_clears 74 = .ok (.iaload, 1) := by decide +kernel
theorem dX11_clears_75 : decode cX11_clears 75 = .ok (.invokestatic 220, 3) := by decide +kernel
theorem dX11_clears_78 : decode cX11_clears 78 = .ok (.ladd, 1) := by decide +kernel
theorem dX11_clears_79 : decode cX11_clears 79 = .ok (.lstore 4, 2) := by decide +kernel
theorem dX11_clears_81 : decode cX11_clears 81 = .ok (.iinc 6 1, 3) := by decide +kernel
theorem dX11_clears_84 : decode cX11_clears 84 = .ok (.goto (-53), 3) := by decide +kernel
theorem dX11_clears_87 : decode cX11_clears 87 = .ok (.aload_n 0, 1) := by decide +kernel
theorem dX11_clears_88 : decode cX11_clears 88 = .ok (.iconst 0, 1) := by decide +kernel
theorem dX11_clears_89 : decode cX11_clears 89 = .ok (.putfield 100, 3) := by decide +kernel
theorem dX11_clears_92 : decode cX11_clears 92 = .ok (.aload_n 0, 1) := by decide +kernel
theorem dX11_clears_93 : decode cX11_clears 93 = .ok (.lload_n 2, 1) := by decide +kernel
theorem dX11_clears_94 : decode cX11_clears 94 = .ok (.invokevirtual 305, 3) := by decide +kernel
theorem dX11_clears_97 : decode cX11_clears 97 = .ok (.aload_n 0, 1) := by decide +kernel
theorem dX11_clears_98 : decode cX11_clears 98 = .ok (.lload 4, 2) := by decide +kernel
theorem dX11_clears_100 : decode cX11_clears 100 = .ok (.invokevirtual 305, 3) := by decide +kernel
theorem dX11_clears_103 : decode cX11_clears 103 = .ok (.iconst 0, 1) := by decide +kernel
theorem dX11_clears_104 : decode cX11_clears 104 = .ok (.ireturn, 1) := by decide +kernel
set_option maxRecDepth 20000 in
theorem ggX11_lacking_X11_paidTill : GoodIn wsX11_lacking wsX11_paidTill := goodIn_r _ [7, 8, 9, 10, 11, 12, 13, 14, 15, 16, 17, 18, 19, 20, 21, 22, 23, 24, 25, 26, 27, 28, 29, 30, 31, 32, 33, 34, 35, 36, 37, 38, 39, 40, 41, 42, 43] rfl (by decide +kernel)
set_option maxRecDepth 20000 in
theorem gX11_lacking_X11_paidTill : GoodIn wsX11_lacking (wsV RX11 291 RX11 yX11_paidTill wsX11_paidTill) := goodIn_app (goodIn_of _ (by decide +kernel)) ggX11_lacking_X11_paidTill
theorem dX11_lacking_0 : decode cX11_lacking 0 = .ok (.iload_n 1, 1) := by decide +kernel
theorem dX11_lacking_1 : decode cX11_lacking 1 = .ok (.aload_n 0, 1) := by decide +kernel
theorem dX11_lacking_2 : decode cX11_lacking 2 = .ok (.getfield 7, 3) := by decide +kernel
theorem dX11_lacking_5 : decode cX11_lacking 5 = .ok (.bipush 8, 2) := by decide +kernel
theorem dX11_lacking_7 : decode cX11_lacking 7 = .ok (.iaload, 1) := by decide +kernel
theorem dX11_lacking_8 : decode cX11_lacking 8 = .ok (.if_icmp .lt 20, 3) := by decide +kernel
theorem dX11_lacking_11 : decode cX11_lacking 11 = .ok (.aload_n 0, 1) := by decide +kernel
theorem dX11_lacking_12 : decode cX11_lacking 12 = .ok (.getfield 57, 3) := by decide +kernel
theorem dX11_lacking_15 : decode cX11_lacking 15 = .ok (.iload_n 1, 1) := by decide +kernel
theorem dX11_lacking_16 : decode cX11_lacking 16 = .ok (.aload_n 0, 1) := by decide +kernel
theorem dX11_lacking_17 : decode cX11_lacking 17 = .ok (.getfield 7, 3) := by decide +kernel
theorem dX11_lacking_20 : decode cX11_lacking 20 = .ok (.bipush 8, 2) := by decide +kernel
theorem dX11_lacking_22 : decode cX11_lacking 22 = .ok (.iaload, 1) := by decide +kernel
theorem dX11_lacking_23 : decode cX11_lacking 23 = .ok (.isub, 1) := by decide +kernel
theorem dX11_lacking_24 : decode cX11_lacking 24 = .ok (.laload, 1) := by decide +kernel
theorem dX11_lacking_25 : decode cX11_lacking 25 = .ok (.goto 4, 3) := by decide +kernel
theorem dX11_lacking_28 : decode cX11_lacking 28 = .ok (.lconst 0, 1) := by decide +kernel
theorem dX11_lacking_29 : decode cX11_lacking 29 = .ok (.aload_n 0, 1) := by decide +kernel
theorem dX11_lacking_30 : decode cX11_lacking 30 = .ok (.iload_n 1, 1) := by decide +kernel
theorem dX11_lacking_31 : decode cX11_lacking 31 = .ok (.invokevirtual 291, 3) := by decide +kernel
theorem dX11_lacking_34 : decode cX11_lacking 34 = .ok (.lsub, 1) := by decide +kernel
theorem dX11_lacking_35 : decode cX11_lacking 35 = .ok (.lreturn, 1) := by decide +kernel
set_option maxRecDepth 20000 in
theorem ggX11_paceOf_X11_layPaid : GoodIn wsX11_paceOf wsX11_layPaid := goodIn_r _ [7, 8, 1, 32, 33, 34, 35, 36, 37, 38, 39, 40, 41, 42, 43, 44, 45, 46, 47, 48, 49, 50, 51, 52, 53, 54, 55, 56, 57, 58, 59, 60, 61, 62, 63, 64, 65, 66] rfl (by decide +kernel)
set_option maxRecDepth 20000 in
theorem gX11_paceOf_X11_layPaid : GoodIn wsX11_paceOf (wsV RX11 326 RX11 yX11_layPaid wsX11_layPaid) := goodIn_app (goodIn_of _ (by decide +kernel)) ggX11_paceOf_X11_layPaid
set_option maxRecDepth 20000 in
theorem ggX11_paceOf_X11_layOwed : GoodIn wsX11_paceOf wsX11_layOwed := goodIn_r _ [12, 13, 14, 2, 15, 16, 17, 18, 19, 20, 21, 22, 6, 23, 1, 24, 25, 26, 27, 32, 33, 34, 35, 36, 37, 38, 39, 40, 41, 42, 43, 44, 45, 46, 47, 48, 49, 50, 51, 52, 53, 54, 55, 56, 57, 58, 59, 60, 61, 62, 63, 64, 65, 66] rfl (by decide +kernel)
set_option maxRecDepth 20000 in
theorem gX11_paceOf_X11_layOwed : GoodIn wsX11_paceOf (wsV RX11 288 RX11 yX11_layOwed wsX11_layOwed) := goodIn_app (goodIn_of _ (by decide +kernel)) ggX11_paceOf_X11_layOwed
set_option maxRecDepth 20000 in
theorem ggX11_paceOf_X11_paidAgain : GoodIn wsX11_paceOf wsX11_paidAgain := goodIn_r _ [31, 1, 8, 32, 33, 34, 35, 36, 37, 38, 39, 40, 41, 42, 43, 44, 45, 46, 47, 48, 49, 50, 51, 52, 53, 54, 55, 56, 57, 58, 59, 60, 61, 62, 63, 64, 65, 66] rfl (by decide +kernel)
set_option maxRecDepth 20000 in
theorem gX11_paceOf_X11_paidAgain : GoodIn wsX11_paceOf (wsV RX11 329 RX11 yX11_paidAgain wsX11_paidAgain) := goodIn_app (goodIn_of _ (by decide +kernel)) ggX11_paceOf_X11_paidAgain
theorem dX11_paceOf_0 : decode cX11_paceOf 0 = .ok (.aload_n 0, 1) := by decide +kernel
theorem dX11_paceOf_1 : decode cX11_paceOf 1 = .ok (.invokevirtual 326, 3) := by decide +kernel
theorem dX11_paceOf_4 : decode cX11_paceOf 4 = .ok (.iload_n 1, 1) := by decide +kernel
theorem dX11_paceOf_5 : decode cX11_paceOf 5 = .ok (.istore_n 3, 1) := by decide +kernel
theorem dX11_paceOf_6 : decode cX11_paceOf 6 = .ok (.iload_n 3, 1) := by decide +kernel
theorem dX11_paceOf_7 : decode cX11_paceOf 7 = .ok (.bipush 24, 2) := by decide +kernel
theorem dX11_paceOf_9 : decode cX11_paceOf 9 = .ok (.if_icmp .ge 16, 3) := by decide +kernel
theorem dX11_paceOf_12 : decode cX11_paceOf 12 = .ok (.aload_n 0, 1) := by decide +kernel
theorem dX11_paceOf_13 : decode cX11_paceOf 13 = .ok (.getfield 31, 3) := by decide +kernel
theorem dX11_paceOf_16 : decode cX11_paceOf 16 = .ok (.iload_n 3, 1) := by decide +kernel
theorem dX11_paceOf_17 : decode cX11_paceOf 17 = .ok (.iload_n 2, 1) := by decide +kernel
theorem dX11_paceOf_18 : decode cX11_paceOf 18 = .ok (.iastore, 1) := by decide +kernel
theorem dX11_paceOf_19 : decode cX11_paceOf 19 = .ok (.iinc 3 1, 3) := by decide +kernel
theorem dX11_paceOf_22 : decode cX11_paceOf 22 = .ok (.goto (-16), 3) := by decide +kernel
theorem dX11_paceOf_25 : decode cX11_paceOf 25 = .ok (.aload_n 0, 1) := by decide +kernel
theorem dX11_paceOf_26 : decode cX11_paceOf 26 = .ok (.invokevirtual 288, 3) := by decide +kernel
theorem dX11_paceOf_29 : decode cX11_paceOf 29 = .ok (.aload_n 0, 1) := by decide +kernel
theorem dX11_paceOf_30 : decode cX11_paceOf 30 = .ok (.invokevirtual 329, 3) := by decide +kernel
theorem dX11_paceOf_33 : decode cX11_paceOf 33 = .ok (.iload_n 1, 1) := by decide +kernel
theorem dX11_paceOf_34 : decode cX11_paceOf 34 = .ok (.istore_n 3, 1) := by decide +kernel
theorem dX11_paceOf_35 : decode cX11_paceOf 35 = .ok (.iload_n 3, 1) := by decide +kernel
theorem dX11_paceOf_36 : decode cX11_paceOf 36 = .ok (.bipush 24, 2) := by decide +kernel
theorem dX11_paceOf_38 : decode cX11_paceOf 38 = .ok (.if_icmp .ge 22, 3) := by decide +kernel
theorem dX11_paceOf_41 : decode cX11_paceOf 41 = .ok (.aload_n 0, 1) := by decide +kernel
theorem dX11_paceOf_42 : decode cX11_paceOf 42 = .ok (.getfield 60, 3) := by decide +kernel
theorem dX11_paceOf_45 : decode cX11_paceOf 45 = .ok (.iload_n 3, 1) := by decide +kernel
theorem dX11_paceOf_46 : decode cX11_paceOf 46 = .ok (.laload, 1) := by decide +kernel
theorem dX11_paceOf_47 : decode cX11_paceOf 47 = .ok (.lconst 0, 1) := by decide +kernel
theorem dX11_paceOf_48 : decode cX11_paceOf 48 = .ok (.lcmp, 1) := by decide +kernel
theorem dX11_paceOf_49 : decode cX11_paceOf 49 = .ok (.ifCond .ne 5, 3) := by decide +kernel
theorem dX11_paceOf_52 : decode cX11_paceOf 52 = .ok (.iload_n 3, 1) := by decide +kernel
theorem dX11_paceOf_53 : decode cX11_paceOf 53 = .ok (.ireturn, 1) := by decide +kernel
theorem dX11_paceOf_54 : decode cX11_paceOf 54 = .ok (.iinc 3 1, 3) := by decide +kernel
theorem dX11_paceOf_57 : decode cX11_paceOf 57 = .ok (.goto (-22), 3) := by decide +kernel
theorem dX11_paceOf_60 : decode cX11_paceOf 60 = .ok (.iconst (-1), 1) := by decide +kernel
theorem dX11_paceOf_61 : decode cX11_paceOf 61 = .ok (.ireturn, 1) := by decide +kernel
set_option maxRecDepth 20000 in
theorem ggX11_paces_X11_isMonth : GoodIn wsX11_paces wsX11_isMonth := goodIn_r _ [7, 8, 9, 10, 6, 11] rfl (by decide +kernel)
set_option maxRecDepth 20000 in
theorem gX11_paces_X11_isMonth : GoodIn wsX11_paces (va_wsS RX11 152 yX11_isMonth wsX11_isMonth) := goodIn_app (goodIn_of _ (by decide +kernel)) ggX11_paces_X11_isMonth
set_option maxRecDepth 20000 in
theorem ggX11_paces_X11_in : GoodIn wsX11_paces wsX11_in := goodIn_r _ [11] rfl (by decide +kernel)
set_option maxRecDepth 20000 in
theorem gX11_paces_X11_in : GoodIn wsX11_paces (va_wsS RX11 105 yX11_in wsX11_in) := goodIn_app (goodIn_of _ (by decide +kernel)) ggX11_paces_X11_in
set_option maxRecDepth 20000 in
theorem ggX11_paces_X11_layMonths : GoodIn wsX11_paces wsX11_layMonths := goodIn_r _ [15, 16, 17, 18, 19, 20, 21, 22, 23, 24, 25, 26, 27, 28, 29, 30, 31, 32, 33, 6, 34, 35, 36, 37, 38, 39, 40, 41, 42, 43, 44, 45, 46, 47, 48, 49, 50, 51, 52, 53, 54, 55, 56, 57, 58, 59, 60, 61, 62, 63, 64, 65, 66, 67, 68, 69, 70, 71, 72, 73, 74, 75, 76, 77, 78, 79, 80, 81, 82, 83, 84, 85, 86, 87, 88, 89, 90, 91, 92, 93, 94, 95, 96, 97, 98, 99, 100, 101, 102, 103, 104, 105, 106, 107, 108, 109, 110, 111, 112, 113, 114, 115, 116, 117, 118, 119, 120, 121, 122, 123, 124, 125, 126, 127, 128, 129, 130, 131, 132, 133, 134, 135, 136, 137, 138, 139, 140, 141, 142, 143, 144, 145, 146, 147, 148, 149, 150, 177, 178, 179, 180, 181, 182, 183, 184, 185, 186, 187, 188, 189, 190, 191, 192, 193, 194, 195, 196, 197, 198, 199, 200, 201, 202, 203, 204, 205, 206, 207, 208, 209, 210, 211] rfl (by decide +kernel)
set_option maxRecDepth 20000 in
theorem gX11_paces_X11_layMonths : GoodIn wsX11_paces (wsV RX11 302 RX11 yX11_layMonths wsX11_layMonths) := goodIn_app (goodIn_of _ (by decide +kernel)) ggX11_paces_X11_layMonths
set_option maxRecDepth 20000 in
theorem ggX11_paces_X11_paceOf : GoodIn wsX11_paces wsX11_paceOf := goodIn_r _ [154, 150, 144, 155, 156, 157, 6, 158, 159, 140, 141, 142, 143, 16, 30, 22, 23, 19, 24, 145, 146, 147, 148, 149, 45, 46, 47, 26, 160, 161, 162, 163, 177, 178, 179, 180, 181, 182, 183, 184, 185, 186, 187, 188, 189, 190, 191, 192, 193, 194, 195, 196, 197, 198, 199, 200, 201, 202, 203, 204, 205, 206, 207, 208, 209, 210, 211] rfl (by decide +kernel)
set_option maxRecDepth 20000 in
theorem gX11_paces_X11_paceOf : GoodIn wsX11_paces (wsV RX11 332 RX11 yX11_paceOf wsX11_paceOf) := goodIn_app (goodIn_of _ (by decide +kernel)) ggX11_paces_X11_paceOf
set_option maxRecDepth 20000 in
theorem ggX11_paces_X11_interestAll : GoodIn wsX11_paces wsX11_interestAll := goodIn_r _ [167, 168, 169, 170, 6, 171, 145, 177, 178, 179, 180, 181, 182, 183, 184, 185, 186, 187, 188, 189, 190, 191, 192, 193, 194, 195, 196, 197, 198, 199, 200, 201, 202, 203, 204, 205, 206, 207, 208, 209, 210, 211] rfl (by decide +kernel)
set_option maxRecDepth 20000 in
theorem gX11_paces_X11_interestAll : GoodIn wsX11_paces (wsV RX11 335 RX11 yX11_interestAll wsX11_interestAll) := goodIn_app (goodIn_of _ (by decide +kernel)) ggX11_paces_X11_interestAll
set_option maxRecDepth 20000 in
theorem ggX11_paces_X11_tell : GoodIn wsX11_paces wsX11_tell := goodIn_r _ [175, 176, 3, 177, 178, 179, 180, 181, 182, 183, 184, 185, 186, 187, 188, 189, 190, 191, 192, 193, 194, 195, 196, 197, 198, 199, 200, 201, 202, 203, 204, 205, 206, 207, 208, 209, 210, 211] rfl (by decide +kernel)
set_option maxRecDepth 20000 in
theorem gX11_paces_X11_tell : GoodIn wsX11_paces (wsV RX11 305 RX11 yX11_tell wsX11_tell) := goodIn_app (goodIn_of _ (by decide +kernel)) ggX11_paces_X11_tell
theorem dX11_paces_0 : decode cX11_paces 0 = .ok (.aload_n 0, 1) := by decide +kernel
theorem dX11_paces_1 : decode cX11_paces 1 = .ok (.iconst 0, 1) := by decide +kernel
theorem dX11_paces_2 : decode cX11_paces 2 = .ok (.putfield 97, 3) := by decide +kernel
theorem dX11_paces_5 : decode cX11_paces 5 = .ok (.iload_n 1, 1) := by decide +kernel
theorem dX11_paces_6 : decode cX11_paces 6 = .ok (.invokestatic 152, 3) := by decide +kernel
theorem dX11_paces_9 : decode cX11_paces 9 = .ok (.ifCond .eq 15, 3) := by decide +kernel
theorem dX11_paces_12 : decode cX11_paces 12 = .ok (.iload_n 2, 1) := by decide +kernel
theorem dX11_paces_13 : decode cX11_paces 13 = .ok (.i2l, 1) := by decide +kernel
theorem dX11_paces_14 : decode cX11_paces 14 = .ok (.lconst 1, 1) := by decide +kernel
theorem dX11_paces_15 : decode cX11_paces 15 = .ok (.ldc2_w 200, 3) := by decide +kernel
theorem dX11_paces_18 : decode cX11_paces 18 = .ok (.invokestatic 105, 3) := by decide +kernel
theorem dX11_paces_21 : decode cX11_paces 21 = .ok (.ifCond .ne 5, 3) := by decide +kernel
theorem dX11_paces_24 : decode cX11_paces 24 = .ok (.iconst (-1), 1) := by decide +kernel
theorem dX11_paces_25 : decode cX11_paces 25 = .ok (.ireturn, 1) := by decide +kernel
theorem dX11_paces_26 : decode cX11_paces 26 = .ok (.aload_n 0, 1) := by decide +kernel
theorem dX11_paces_27 : decode cX11_paces 27 = .ok (.invokevirtual 302, 3) := by decide +kernel
theorem dX11_paces_30 : decode cX11_paces 30 = .ok (.aload_n 0, 1) := by decide +kernel
theorem dX11_paces_31 : decode cX11_paces 31 = .ok (.iload_n 1, 1) := by decide +kernel
theorem dX11_paces_32 : decode cX11_paces 32 = .ok (.iload_n 2, 1) := by decide +kernel
theorem dX11_paces_33 : decode cX11_paces 33 = .ok (.invokevirtual 332, 3) := by decide +kernel
theorem dX11_paces_36 : decode cX11_paces 36 = .ok (.istore_n 3, 1) := by decide +kernel
theorem dX11_paces_37 : decode cX11_paces 37 = .ok (.iload_n 3, 1) := by decide +kernel
theorem dX11_paces_38 : decode cX11_paces 38 = .ok (.iconst (-1), 1) := by decide +kernel
theorem dX11_paces_39 : decode cX11_paces 39 = .ok (.if_icmp .ne 6, 3) := by decide +kernel
theorem dX11_paces_42 : decode cX11_paces 42 = .ok (.bipush (-2), 2) := by decide +kernel
theorem dX11_paces_44 : decode cX11_paces 44 = .ok (.ireturn, 1) := by decide +kernel
theorem dX11_paces_45 : decode cX11_paces 45 = .ok (.aload_n 0, 1) := by decide +kernel
theorem dX11_paces_46 : decode cX11_paces 46 = .ok (.iconst 0, 1) := by decide +kernel
theorem dX11_paces_47 : decode cX11_paces 47 = .ok (.putfield 100, 3) := by decide +kernel
theorem dX11_paces_50 : decode cX11_paces 50 = .ok (.aload_n 0, 1) := by decide +kernel
theorem dX11_paces_51 : decode cX11_paces 51 = .ok (.aload_n 0, 1) := by decide +kernel
theorem dX11_paces_52 : decode cX11_paces 52 = .ok (.invokevirtual 335, 3) := by decide +kernel
theorem dX11_paces_55 : decode cX11_paces 55 = .ok (.invokevirtual 305, 3) := by decide +kernel
theorem dX11_paces_58 : decode cX11_paces 58 = .ok (.iload_n 3, 1) := by decide +kernel
theorem dX11_paces_59 : decode cX11_paces 59 = .ok (.ireturn, 1) := by decide +kernel
set_option maxRecDepth 20000 in
theorem ggX11_isPaced_X11_paceOf : GoodIn wsX11_isPaced wsX11_paceOf := goodIn_r _ [5, 6, 7, 8, 9, 10, 4, 11, 12, 13, 14, 15, 16, 17, 18, 19, 20, 21, 22, 23, 24, 25, 26, 27, 28, 29, 30, 31, 32, 33, 34, 35, 36, 37, 38, 39, 40, 41, 42, 43, 44, 45, 46, 47, 48, 49, 50, 51, 52, 53, 54, 55, 56, 57, 58, 59, 60, 61, 62, 63, 64, 65, 66, 67, 68, 69, 70] rfl (by decide +kernel)
set_option maxRecDepth 20000 in
theorem gX11_isPaced_X11_paceOf : GoodIn wsX11_isPaced (wsV RX11 332 RX11 yX11_paceOf wsX11_paceOf) := goodIn_app (goodIn_of _ (by decide +kernel)) ggX11_isPaced_X11_paceOf
theorem dX11_isPaced_0 : decode cX11_isPaced 0 = .ok (.aload_n 0, 1) := by decide +kernel
theorem dX11_isPaced_1 : decode cX11_isPaced 1 = .ok (.iload_n 1, 1) := by decide +kernel
theorem dX11_isPaced_2 : decode cX11_isPaced 2 = .ok (.iload_n 3, 1) := by decide +kernel
theorem dX11_isPaced_3 : decode cX11_isPaced 3 = .ok (.invokevirtual 332, 3) := by decide +kernel
theorem dX11_isPaced_6 : decode cX11_isPaced 6 = .ok (.istore 4, 2) := by decide +kernel
theorem dX11_isPaced_8 : decode cX11_isPaced 8 = .ok (.iload 4, 2) := by decide +kernel
theorem dX11_isPaced_10 : decode cX11_isPaced 10 = .ok (.iconst (-1), 1) := by decide +kernel
theorem dX11_isPaced_11 : decode cX11_isPaced 11 = .ok (.if_icmp .eq 13, 3) := by decide +kernel
theorem dX11_isPaced_14 : decode cX11_isPaced 14 = .ok (.iload 4, 2) := by decide +kernel
theorem dX11_isPaced_16 : decode cX11_isPaced 16 = .ok (.iload_n 2, 1) := by decide +kernel
theorem dX11_isPaced_17 : decode cX11_isPaced 17 = .ok (.if_icmp .gt 7, 3) := by decide +kernel
theorem dX11_isPaced_20 : decode cX11_isPaced 20 = .ok (.iconst 1, 1) := by decide +kernel
theorem dX11_isPaced_21 : decode cX11_isPaced 21 = .ok (.goto 4, 3) := by decide +kernel
theorem dX11_isPaced_24 : decode cX11_isPaced 24 = .ok (.iconst 0, 1) := by decide +kernel
theorem dX11_isPaced_25 : decode cX11_isPaced 25 = .ok (.ireturn, 1) := by decide +kernel
set_option maxRecDepth 20000 in
theorem ggX11_enough_X11_isMonth : GoodIn wsX11_enough wsX11_isMonth := goodIn_r _ [7, 8, 9, 10, 6, 11] rfl (by decide +kernel)
set_option maxRecDepth 20000 in
theorem gX11_enough_X11_isMonth : GoodIn wsX11_enough (va_wsS RX11 152 yX11_isMonth wsX11_isMonth) := goodIn_app (goodIn_of _ (by decide +kernel)) ggX11_enough_X11_isMonth
set_option maxRecDepth 20000 in
theorem ggX11_enough_X11_layMonths : GoodIn wsX11_enough wsX11_layMonths := goodIn_r _ [15, 16, 17, 18, 19, 20, 21, 22, 23, 24, 25, 26, 27, 28, 29, 30, 31, 32, 33, 6, 34, 35, 36, 37, 38, 39, 40, 41, 42, 43, 44, 45, 46, 47, 48, 49, 50, 51, 52, 53, 54, 55, 56, 57, 58, 59, 60, 61, 62, 63, 64, 65, 66, 67, 68, 69, 70, 71, 72, 73, 74, 75, 76, 77, 78, 79, 80, 81, 82, 83, 84, 85, 86, 87, 88, 89, 90, 91, 92, 93, 94, 95, 96, 97, 98, 99, 100, 101, 102, 103, 104, 105, 106, 107, 108, 109, 110, 111, 112, 113, 114, 115, 116, 117, 118, 119, 120, 121, 122, 123, 124, 125, 126, 127, 128, 129, 130, 131, 132, 133, 134, 135, 136, 137, 138, 139, 140, 141, 142, 143, 144, 145, 146, 147, 148, 149, 150, 173, 174, 175, 176, 177, 178, 179, 180, 181, 182, 183, 184, 185, 186, 187, 188, 189, 190, 191, 192, 193, 194, 195, 196, 197, 198, 199, 200, 201, 202, 203, 204, 205, 206, 207] rfl (by decide +kernel)
set_option maxRecDepth 20000 in
theorem gX11_enough_X11_layMonths : GoodIn wsX11_enough (wsV RX11 302 RX11 yX11_layMonths wsX11_layMonths) := goodIn_app (goodIn_of _ (by decide +kernel)) ggX11_enough_X11_layMonths
set_option maxRecDepth 20000 in
theorem ggX11_enough_X11_isPaced : GoodIn wsX11_enough wsX11_isPaced := goodIn_r _ [154, 155, 156, 157, 6, 158, 150, 144, 159, 160, 161, 162, 163, 140, 141, 142, 143, 16, 30, 22, 23, 19, 24, 145, 146, 147, 148, 149, 45, 46, 47, 26, 164, 165, 166, 167, 173, 174, 175, 176, 177, 178, 179, 180, 181, 182, 183, 184, 185, 186, 187, 188, 189, 190, 191, 192, 193, 194, 195, 196, 197, 198, 199, 200, 201, 202, 203, 204, 205, 206, 207] rfl (by decide +kernel)
set_option maxRecDepth 20000 in
theorem gX11_enough_X11_isPaced : GoodIn wsX11_enough (wsV RX11 339 RX11 yX11_isPaced wsX11_isPaced) := goodIn_app (goodIn_of _ (by decide +kernel)) ggX11_enough_X11_isPaced
set_option maxRecDepth 20000 in
theorem ggX11_enough_X11_tell : GoodIn wsX11_enough wsX11_tell := goodIn_r _ [171, 172, 3, 173, 174, 175, 176, 177, 178, 179, 180, 181, 182, 183, 184, 185, 186, 187, 188, 189, 190, 191, 192, 193, 194, 195, 196, 197, 198, 199, 200, 201, 202, 203, 204, 205, 206, 207] rfl (by decide +kernel)
set_option maxRecDepth 20000 in
theorem gX11_enough_X11_tell : GoodIn wsX11_enough (wsV RX11 305 RX11 yX11_tell wsX11_tell) := goodIn_app (goodIn_of _ (by decide +kernel)) ggX11_enough_X11_tell
theorem dX11_enough_0 : decode cX11_enough 0 = .ok (.aload_n 0, 1) := by decide +kernel
theorem dX11_enough_1 : decode cX11_enough 1 = .ok (.iconst 0, 1) := by decide +kernel
theorem dX11_enough_2 : decode cX11_enough 2 = .ok (.putfield 97, 3) := by decide +kernel
theorem dX11_enough_5 : decode cX11_enough 5 = .ok (.iload_n 1, 1) := by decide +kernel
theorem dX11_enough_6 : decode cX11_enough 6 = .ok (.invokestatic 152, 3) := by decide +kernel
theorem dX11_enough_9 : decode cX11_enough 9 = .ok (.ifCond .eq 15, 3) := by decide +kernel
theorem dX11_enough_12 : decode cX11_enough 12 = .ok (.iload_n 2, 1) := by decide +kernel
theorem dX11_enough_13 : decode cX11_enough 13 = .ok (.invokestatic 152, 3) := by decide +kernel
theorem dX11_enough_16 : decode cX11_enough 16 = .ok (.ifCond .eq 8, 3) := by decide +kernel
theorem dX11_enough_19 : decode cX11_enough 19 = .ok (.iload_n 2, 1) := by decide +kernel
theorem dX11_enough_20 : decode cX11_enough 20 = .ok (.iload_n 1, 1) := by decide +kernel
theorem dX11_enough_21 : decode cX11_enough 21 = .ok (.if_icmp .ge 5, 3) := by decide +kernel
theorem dX11_enough_24 : decode cX11_enough 24 = .ok (.iconst (-1), 1) := by decide +kernel
theorem dX11_enough_25 : decode cX11_enough 25 = .ok (.ireturn, 1) := by decide +kernel
theorem dX11_enough_26 : decode cX11_enough 26 = .ok (.aload_n 0, 1) := by decide +kernel
theorem dX11_enough_27 : decode cX11_enough 27 = .ok (.invokevirtual 302, 3) := by decide +kernel
theorem dX11_enough_30 : decode cX11_enough 30 = .ok (.aload_n 0, 1) := by decide +kernel
theorem dX11_enough_31 : decode cX11_enough 31 = .ok (.iload_n 1, 1) := by decide +kernel
theorem dX11_enough_32 : decode cX11_enough 32 = .ok (.iload_n 2, 1) := by decide +kernel
theorem dX11_enough_33 : decode cX11_enough 33 = .ok (.ldc_w 338, 3) := by decide +kernel
theorem dX11_enough_36 : decode cX11_enough 36 = .ok (.invokevirtual 339, 3) := by decide +kernel
theorem dX11_enough_39 : decode cX11_enough 39 = .ok (.ifCond .ne 6, 3) := by decide +kernel
theorem dX11_enough_42 : decode cX11_enough 42 = .ok (.bipush (-2), 2) := by decide +kernel
theorem dX11_enough_44 : decode cX11_enough 44 = .ok (.ireturn, 1) := by decide +kernel
theorem dX11_enough_45 : decode cX11_enough 45 = .ok (.iconst 1, 1) := by decide +kernel
theorem dX11_enough_46 : decode cX11_enough 46 = .ok (.istore_n 3, 1) := by decide +kernel
theorem dX11_enough_47 : decode cX11_enough 47 = .ok (.ldc_w 338, 3) := by decide +kernel
theorem dX11_enough_50 : decode cX11_enough 50 = .ok (.istore 4, 2) := by decide +kernel
theorem dX11_enough_52 : decode cX11_enough 52 = .ok (.iload_n 3, 1) := by decide +kernel
theorem dX11_enough_53 : decode cX11_enough 53 = .ok (.iload 4, 2) := by decide +kernel
theorem dX11_enough_55 : decode cX11_enough 55 = .ok (.if_icmp .ge 37, 3) := by decide +kernel
theorem dX11_enough_58 : decode cX11_enough 58 = .ok (.iload_n 3, 1) := by decide +kernel
theorem dX11_enough_59 : decode cX11_enough 59 = .ok (.iload 4, 2) := by decide +kernel
theorem dX11_enough_61 : decode cX11_enough 61 = .ok (.iadd, 1) := by decide +kernel
theorem dX11_enough_62 : decode cX11_enough 62 = .ok (.iconst 2, 1) := by decide +kernel
theorem dX11_enough_63 : decode cX11_enough 63 = .ok (.idiv, 1) := by decide +kernel
theorem dX11_enough_64 : decode cX11_enough 64 = .ok (.istore 5, 2) := by decide +kernel
theorem dX11_enough_66 : decode cX11_enough 66 = .ok (.aload_n 0, 1) := by decide +kernel
theorem dX11_enough_67 : decode cX11_enough 67 = .ok (.iload_n 1, 1) := by decide +kernel
theorem dX11_enough_68 : decode cX11_enough 68 = .ok (.iload_n 2, 1) := by decide +kernel
theorem dX11_enough_69 : decode cX11_enough 69 = .ok (.iload 5, 2) := by decide +kernel
theorem dX11_enough_71 : decode cX11_enough 71 = .ok (.invokevirtual 339, 3) := by decide +kernel
theorem dX11_enough_74 : decode cX11_enough 74 = .ok (.ifCond .eq 10, 3) := by decide +kernel
theorem dX11_enough_77 : decode cX11_enough 77 = .ok (.iload 5, 2) := by decide +kernel
theorem dX11_enough_79 : decode cX11_enough 79 = .ok (.istore 4, 2) := by decide +kernel
theorem dX11_enough_81 : decode cX11_enough 81 = .ok (.goto 8, 3) := by decide +kernel
theorem dX11_enough_84 : decode cX11_enough 84 = .ok (.iload 5, 2) := by decide +kernel
theorem dX11_enough_86 : decode cX11_enough 86 = .ok (.iconst 1, 1) := by decide +kernel
theorem dX11_enough_87 : decode cX11_enough 87 = .ok (.iadd, 1) := by decide +kernel
theorem dX11_enough_88 : decode cX11_enough 88 = .ok (.istore_n 3, 1) := by decide +kernel
theorem dX11_enough_89 : decode cX11_enough 89 = .ok (.goto (-37), 3) := by decide +kernel
theorem dX11_enough_92 : decode cX11_enough 92 = .ok (.aload_n 0, 1) := by decide +kernel
theorem dX11_enough_93 : decode cX11_enough 93 = .ok (.iconst 0, 1) := by decide +kernel
theorem dX11_enough_94 : decode cX11_enough 94 = .ok (.putfield 100, 3) := by decide +kernel
theorem dX11_enough_97 : decode cX11_enough 97 = .ok (.aload_n 0, 1) := by decide +kernel
theorem dX11_enough_98 : decode cX11_enough 98 = .ok (.iload_n 3, 1) := by decide +kernel
theorem dX11_enough_99 : decode cX11_enough 99 = .ok (.i2l, 1) := by decide +kernel
theorem dX11_enough_100 : decode cX11_enough 100 = .ok (.invokevirtual 305, 3) := by decide +kernel
theorem dX11_enough_103 : decode cX11_enough 103 = .ok (.iconst 0, 1) := by decide +kernel
theorem dX11_enough_104 : decode cX11_enough 104 = .ok (.ireturn, 1) := by decide +kernel
set_option maxRecDepth 20000 in
theorem ggX11_layAside_X11_layMonths : GoodIn wsX11_layAside wsX11_layMonths := goodIn_r _ [10, 11, 12, 13, 14, 15, 16, 17, 18, 19, 20, 21, 22, 23, 2, 3, 24, 25, 26, 9, 27, 28, 29, 30, 31, 32, 33, 34, 35, 36, 37, 38, 39, 40, 41, 42, 43, 44, 45, 46, 47, 48, 49, 50, 51, 52, 53, 54, 55, 56, 57, 58, 59, 60, 61, 62, 63, 64, 65, 66, 67, 68, 69, 70, 71, 72, 73, 74, 75, 76, 77, 78, 79, 80, 81, 82, 83, 84, 85, 86, 87, 88, 89, 90, 91, 92, 93, 94, 95, 96, 97, 98, 99, 100, 101, 102, 103, 104, 105, 106, 107, 108, 109, 110, 111, 112, 113, 114, 115, 116, 117, 118, 119, 120, 121, 122, 123, 124, 125, 126, 127, 128, 129, 130, 131, 132, 133, 134, 135, 136, 137, 138, 139, 140, 141, 142, 143, 152, 153, 154, 155, 156, 157, 158, 159, 160, 161, 162, 163, 164, 165, 166, 167, 168, 169, 170, 171, 172, 173, 174, 175, 176, 177, 178, 179, 180, 181, 182, 183, 184, 185, 186] rfl (by decide +kernel)
set_option maxRecDepth 20000 in
theorem gX11_layAside_X11_layMonths : GoodIn wsX11_layAside (wsV RX11 302 RX11 yX11_layMonths wsX11_layMonths) := goodIn_app (goodIn_of _ (by decide +kernel)) ggX11_layAside_X11_layMonths
set_option maxRecDepth 20000 in
theorem ggX11_layAside_X11_interestAll : GoodIn wsX11_layAside wsX11_interestAll := goodIn_r _ [147, 148, 149, 150, 9, 151, 138, 152, 153, 154, 155, 156, 157, 158, 159, 160, 161, 162, 163, 164, 165, 166, 167, 168, 169, 170, 171, 172, 173, 174, 175, 176, 177, 178, 179, 180, 181, 182, 183, 184, 185, 186] rfl (by decide +kernel)
set_option maxRecDepth 20000 in
theorem gX11_layAside_X11_interestAll : GoodIn wsX11_layAside (wsV RX11 335 RX11 yX11_interestAll wsX11_interestAll) := goodIn_app (goodIn_of _ (by decide +kernel)) ggX11_layAside_X11_interestAll
theorem dX11_layAside_0 : decode cX11_layAside 0 = .ok (.aload_n 0, 1) := by decide +kernel
theorem dX11_layAside_1 : decode cX11_layAside 1 = .ok (.invokevirtual 302, 3) := by decide +kernel
theorem dX11_layAside_4 : decode cX11_layAside 4 = .ok (.iconst 0, 1) := by decide +kernel
theorem dX11_layAside_5 : decode cX11_layAside 5 = .ok (.istore_n 1, 1) := by decide +kernel
theorem dX11_layAside_6 : decode cX11_layAside 6 = .ok (.iload_n 1, 1) := by decide +kernel
theorem dX11_layAside_7 : decode cX11_layAside 7 = .ok (.bipush 24, 2) := by decide +kernel
theorem dX11_layAside_9 : decode cX11_layAside 9 = .ok (.if_icmp .ge 21, 3) := by decide +kernel
theorem dX11_layAside_12 : decode cX11_layAside 12 = .ok (.aload_n 0, 1) := by decide +kernel
theorem dX11_layAside_13 : decode cX11_layAside 13 = .ok (.getfield 69, 3) := by decide +kernel
theorem dX11_layAside_16 : decode cX11_layAside 16 = .ok (.iload_n 1, 1) := by decide +kernel
theorem dX11_layAside_17 : decode cX11_layAside 17 = .ok (.aload_n 0, 1) := by decide +kernel
theorem dX11_layAside_18 : decode cX11_layAside 18 = .ok (.getfield 54, 3) := by decide +kernel
theorem dX11_layAside_21 : decode cX11_layAside 21 = .ok (.iload_n 1, 1) := by decide +kernel
theorem dX11_layAside_22 : decode cX11_layAside 22 = .ok (.laload, 1) := by decide +kernel
theorem dX11_layAside_23 : decode cX11_layAside 23 = .ok (.lastore, 1) := by decide +kernel
theorem dX11_layAside_24 : decode cX11_layAside 24 = .ok (.iinc 1 1, 3) := by decide +kernel
theorem dX11_layAside_27 : decode cX11_layAside 27 = .ok (.goto (-21), 3) := by decide +kernel
theorem dX11_layAside_30 : decode cX11_layAside 30 = .ok (.aload_n 0, 1) := by decide +kernel
theorem dX11_layAside_31 : decode cX11_layAside 31 = .ok (.aload_n 0, 1) := by decide +kernel
theorem dX11_layAside_32 : decode cX11_layAside 32 = .ok (.getfield 57, 3) := by decide +kernel
theorem dX11_layAside_35 : decode cX11_layAside 35 = .ok (.bipush 23, 2) := by decide +kernel
theorem dX11_layAside_37 : decode cX11_layAside 37 = .ok (.laload, 1) := by decide +kernel
theorem dX11_layAside_38 : decode cX11_layAside 38 = .ok (.putfield 342, 3) := by decide +kernel
theorem dX11_layAside_41 : decode cX11_layAside 41 = .ok (.aload_n 0, 1) := by decide +kernel
theorem dX11_layAside_42 : decode cX11_layAside 42 = .ok (.aload_n 0, 1) := by decide +kernel
theorem dX11_layAside_43 : decode cX11_layAside 43 = .ok (.invokevirtual 335, 3) := by decide +kernel
theorem dX11_layAside_46 : decode cX11_layAside 46 = .ok (.putfield 346, 3) := by decide +kernel
theorem dX11_layAside_49 : decode cX11_layAside 49 = .ok (.return_, 1) := by decide +kernel
set_option maxRecDepth 20000 in
theorem ggX11_tellMore_X11_layMonths : GoodIn wsX11_tellMore wsX11_layMonths := goodIn_r _ [9, 10, 11, 12, 13, 14, 15, 16, 17, 18, 19, 20, 21, 22, 23, 2, 24, 25, 26, 8, 27, 28, 29, 30, 31, 32, 33, 34, 35, 36, 37, 38, 39, 40, 41, 42, 43, 44, 45, 46, 47, 48, 49, 50, 51, 52, 53, 54, 55, 56, 57, 58, 59, 60, 61, 62, 63, 64, 65, 66, 67, 68, 69, 70, 71, 72, 73, 74, 75, 76, 77, 78, 79, 80, 81, 82, 83, 84, 85, 86, 87, 88, 89, 90, 91, 92, 93, 94, 95, 96, 97, 98, 99, 100, 101, 102, 103, 104, 105, 106, 107, 108, 109, 110, 111, 112, 113, 114, 115, 116, 117, 118, 119, 120, 121, 122, 123, 124, 125, 126, 127, 128, 129, 130, 131, 132, 133, 134, 135, 136, 137, 138, 139, 140, 141, 142, 143, 157, 158, 159, 160, 161, 162, 163, 164, 165, 166, 167, 168, 169, 170, 171, 172, 173, 174, 175, 176, 177, 178, 179, 180, 181, 182, 183, 184, 185, 186, 187, 188, 189, 190, 191] rfl (by decide +kernel)
set_option maxRecDepth 20000 in
theorem gX11_tellMore_X11_layMonths : GoodIn wsX11_tellMore (wsV RX11 302 RX11 yX11_layMonths wsX11_layMonths) := goodIn_app (goodIn_of _ (by decide +kernel)) ggX11_tellMore_X11_layMonths
set_option maxRecDepth 20000 in
theorem ggX11_tellMore_X11_tell : GoodIn wsX11_tellMore wsX11_tell := goodIn_r _ [147, 148, 1, 157, 158, 159, 160, 161, 162, 163, 164, 165, 166, 167, 168, 169, 170, 171, 172, 173, 174, 175, 176, 177, 178, 179, 180, 181, 182, 183, 184, 185, 186, 187, 188, 189, 190, 191] rfl (by decide +kernel)
set_option maxRecDepth 20000 in
theorem gX11_tellMore_X11_tell : GoodIn wsX11_tellMore (wsV RX11 305 RX11 yX11_tell wsX11_tell) := goodIn_app (goodIn_of _ (by decide +kernel)) ggX11_tellMore_X11_tell
set_option maxRecDepth 20000 in
theorem ggX11_tellMore_X11_interestAll : GoodIn wsX11_tellMore wsX11_interestAll := goodIn_r _ [152, 153, 154, 155, 8, 156, 138, 157, 158, 159, 160, 161, 162, 163, 164, 165, 166, 167, 168, 169, 170, 171, 172, 173, 174, 175, 176, 177, 178, 179, 180, 181, 182, 183, 184, 185, 186, 187, 188, 189, 190, 191] rfl (by decide +kernel)
set_option maxRecDepth 20000 in
theorem gX11_tellMore_X11_interestAll : GoodIn wsX11_tellMore (wsV RX11 335 RX11 yX11_interestAll wsX11_interestAll) := goodIn_app (goodIn_of _ (by decide +kernel)) ggX11_tellMore_X11_interestAll
theorem dX11_tellMore_0 : decode cX11_tellMore 0 = .ok (.aload_n 0, 1) := by decide +kernel
theorem dX11_tellMore_1 : decode cX11_tellMore 1 = .ok (.invokevirtual 302, 3) := by decide +kernel
theorem dX11_tellMore_4 : decode cX11_tellMore 4 = .ok (.aload_n 0, 1) := by decide +kernel
theorem dX11_tellMore_5 : decode cX11_tellMore 5 = .ok (.iconst 0, 1) := by decide +kernel
theorem dX11_tellMore_6 : decode cX11_tellMore 6 = .ok (.putfield 100, 3) := by decide +kernel
theorem dX11_tellMore_9 : decode cX11_tellMore 9 = .ok (.aload_n 0, 1) := by decide +kernel
theorem dX11_tellMore_10 : decode cX11_tellMore 10 = .ok (.aload_n 0, 1) := by decide +kernel
theorem dX11_tellMore_11 : decode cX11_tellMore 11 = .ok (.getfield 57, 3) := by decide +kernel
theorem dX11_tellMore_14 : decode cX11_tellMore 14 = .ok (.bipush 23, 2) := by decide +kernel
theorem dX11_tellMore_16 : decode cX11_tellMore 16 = .ok (.laload, 1) := by decide +kernel
theorem dX11_tellMore_17 : decode cX11_tellMore 17 = .ok (.aload_n 0, 1) := by decide +kernel
theorem dX11_tellMore_18 : decode cX11_tellMore 18 = .ok (.getfield 342, 3) := by decide +kernel
theorem dX11_tellMore_21 : decode cX11_tellMore 21 = .ok (.lsub, 1) := by decide +kernel
theorem dX11_tellMore_22 : decode cX11_tellMore 22 = .ok (.invokevirtual 305, 3) := by decide +kernel
theorem dX11_tellMore_25 : decode cX11_tellMore 25 = .ok (.aload_n 0, 1) := by decide +kernel
theorem dX11_tellMore_26 : decode cX11_tellMore 26 = .ok (.aload_n 0, 1) := by decide +kernel
theorem dX11_tellMore_27 : decode cX11_tellMore 27 = .ok (.invokevirtual 335, 3) := by decide +kernel
theorem dX11_tellMore_30 : decode cX11_tellMore 30 = .ok (.aload_n 0, 1) := by decide +kernel
theorem dX11_tellMore_31 : decode cX11_tellMore 31 = .ok (.getfield 346, 3) := by decide +kernel
theorem dX11_tellMore_34 : decode cX11_tellMore 34 = .ok (.lsub, 1) := by decide +kernel
theorem dX11_tellMore_35 : decode cX11_tellMore 35 = .ok (.invokevirtual 305, 3) := by decide +kernel
theorem dX11_tellMore_38 : decode cX11_tellMore 38 = .ok (.return_, 1) := by decide +kernel
set_option maxRecDepth 20000 in
theorem ggX11_shifts_X11_isMeasure : GoodIn wsX11_shifts wsX11_isMeasure := goodIn_r _ [12, 13, 14, 15, 11, 16, 17, 18, 19, 20, 21, 22, 23, 24, 25, 179, 180, 181, 182, 183, 184, 185, 186, 187, 188, 189, 190, 191, 192, 193, 194, 195, 196, 197, 198, 199, 200, 201, 202, 203, 204, 205, 206, 207, 208, 209, 210, 211, 212, 213] rfl (by decide +kernel)
set_option maxRecDepth 20000 in
theorem gX11_shifts_X11_isMeasure : GoodIn wsX11_shifts (wsV RX11 161 RX11 yX11_isMeasure wsX11_isMeasure) := goodIn_app (goodIn_of _ (by decide +kernel)) ggX11_shifts_X11_isMeasure
set_option maxRecDepth 20000 in
theorem ggX11_shifts_X11_layAside : GoodIn wsX11_shifts wsX11_layAside := goodIn_r _ [29, 4, 3, 6, 7, 30, 31, 32, 33, 11, 34, 35, 36, 37, 38, 39, 40, 41, 42, 43, 44, 45, 46, 47, 48, 49, 50, 51, 25, 52, 53, 54, 55, 56, 57, 58, 59, 60, 61, 62, 63, 64, 65, 66, 67, 68, 69, 70, 71, 72, 73, 74, 75, 76, 77, 78, 79, 80, 81, 82, 83, 84, 85, 86, 87, 88, 89, 90, 91, 92, 93, 94, 95, 96, 2, 97, 98, 99, 100, 101, 102, 103, 104, 105, 106, 107, 108, 109, 110, 111, 112, 113, 114, 115, 116, 117, 118, 119, 120, 121, 122, 123, 124, 125, 126, 127, 128, 129, 130, 131, 132, 133, 134, 135, 136, 137, 138, 139, 140, 141, 142, 143, 144, 145, 146, 147, 148, 149, 150, 151, 152, 153, 154, 155, 156, 157, 158, 159, 160, 161, 162, 163, 164, 165, 166, 167, 168, 169, 170, 171, 172, 173, 179, 180, 181, 182, 183, 184, 185, 186, 187, 188, 189, 190, 191, 192, 193, 194, 195, 196, 197, 198, 199, 200, 201, 202, 203, 204, 205, 206, 207, 208, 209, 210, 211, 212, 213] rfl (by decide +kernel)
set_option maxRecDepth 20000 in
theorem gX11_shifts_X11_layAside : GoodIn wsX11_shifts (wsV RX11 349 RX11 yX11_layAside wsX11_layAside) := goodIn_app (goodIn_of _ (by decide +kernel)) ggX11_shifts_X11_layAside
set_option maxRecDepth 20000 in
theorem ggX11_shifts_X11_layMonths : GoodIn wsX11_shifts wsX11_layMonths := goodIn_r _ [34, 35, 36, 37, 38, 39, 40, 41, 42, 43, 44, 45, 46, 47, 3, 6, 48, 49, 50, 11, 51, 25, 52, 53, 54, 55, 56, 57, 58, 59, 60, 61, 62, 63, 64, 65, 66, 67, 68, 69, 70, 71, 72, 73, 74, 75, 76, 77, 78, 79, 80, 81, 82, 83, 84, 85, 86, 87, 88, 89, 90, 91, 92, 93, 94, 95, 96, 2, 97, 98, 99, 100, 101, 102, 103, 104, 105, 106, 107, 108, 109, 110, 111, 112, 113, 114, 115, 116, 117, 118, 119, 120, 121, 122, 123, 124, 125, 126, 127, 128, 129, 130, 131, 132, 133, 134, 135, 136, 137, 138, 139, 140, 141, 142, 143, 144, 145, 146, 147, 148, 149, 150, 151, 152, 153, 154, 155, 156, 157, 158, 159, 160, 161, 162, 163, 164, 165, 179, 180, 181, 182, 183, 184, 185, 186, 187, 188, 189, 190, 191, 192, 193, 194, 195, 196, 197, 198, 199, 200, 201, 202, 203, 204, 205, 206, 207, 208, 209, 210, 211, 212, 213] rfl (by decide +kernel)
set_option maxRecDepth 20000 in
theorem gX11_shifts_X11_layMonths : GoodIn wsX11_shifts (wsV RX11 302 RX11 yX11_layMonths wsX11_layMonths) := goodIn_app (goodIn_of _ (by decide +kernel)) ggX11_shifts_X11_layMonths
set_option maxRecDepth 20000 in
theorem ggX11_shifts_X11_tell : GoodIn wsX11_shifts wsX11_tell := goodIn_r _ [177, 178, 5, 179, 180, 181, 182, 183, 184, 185, 186, 187, 188, 189, 190, 191, 192, 193, 194, 195, 196, 197, 198, 199, 200, 201, 202, 203, 204, 205, 206, 207, 208, 209, 210, 211, 212, 213] rfl (by decide +kernel)
set_option maxRecDepth 20000 in
theorem gX11_shifts_X11_tell : GoodIn wsX11_shifts (wsV RX11 305 RX11 yX11_tell wsX11_tell) := goodIn_app (goodIn_of _ (by decide +kernel)) ggX11_shifts_X11_tell
theorem dX11_shifts_0 : decode cX11_shifts 0 = .ok (.aload_n 0, 1) := by decide +kernel
theorem dX11_shifts_1 : decode cX11_shifts 1 = .ok (.iconst 0, 1) := by decide +kernel
theorem dX11_shifts_2 : decode cX11_shifts 2 = .ok (.putfield 97, 3) := by decide +kernel
theorem dX11_shifts_5 : decode cX11_shifts 5 = .ok (.aload_n 0, 1) := by decide +kernel
theorem dX11_shifts_6 : decode cX11_shifts 6 = .ok (.iload_n 1, 1) := by decide +kernel
theorem dX11_shifts_7 : decode cX11_shifts 7 = .ok (.iload_n 2, 1) := by decide +kernel
theorem dX11_shifts_8 : decode cX11_shifts 8 = .ok (.iload_n 3, 1) := by decide +kernel
theorem dX11_shifts_9 : decode cX11_shifts 9 = .ok (.invokevirtual 161, 3) := by decide +kernel
theorem dX11_shifts_12 : decode cX11_shifts 12 = .ok (.ifCond .ne 5, 3) := by decide +kernel
theorem dX11_shifts_15 : decode cX11_shifts 15 = .ok (.iconst (-1), 1) := by decide +kernel
theorem dX11_shifts_16 : decode cX11_shifts 16 = .ok (.ireturn, 1) := by decide +kernel
theorem dX11_shifts_17 : decode cX11_shifts 17 = .ok (.bipush 10, 2) := by decide +kernel
theorem dX11_shifts_19 : decode cX11_shifts 19 = .ok (.iload_n 1, 1) := by decide +kernel
theorem dX11_shifts_20 : decode cX11_shifts 20 = .ok (.imul, 1) := by decide +kernel
theorem dX11_shifts_21 : decode cX11_shifts 21 = .ok (.iload_n 2, 1) := by decide +kernel
theorem dX11_shifts_22 : decode cX11_shifts 22 = .ok (.iadd, 1) := by decide +kernel
theorem dX11_shifts_23 : decode cX11_shifts 23 = .ok (.istore 4, 2) := by decide +kernel
theorem dX11_shifts_25 : decode cX11_shifts 25 = .ok (.aload_n 0, 1) := by decide +kernel
theorem dX11_shifts_26 : decode cX11_shifts 26 = .ok (.getfield 16, 3) := by decide +kernel
theorem dX11_shifts_29 : decode cX11_shifts 29 = .ok (.iload 4, 2) := by decide +kernel
theorem dX11_shifts_31 : decode cX11_shifts 31 = .ok (.iaload, 1) := by decide +kernel
theorem dX11_shifts_32 : decode cX11_shifts 32 = .ok (.istore 5, 2) := by decide +kernel
theorem dX11_shifts_34 : decode cX11_shifts 34 = .ok (.aload_n 0, 1) := by decide +kernel
theorem dX11_shifts_35 : decode cX11_shifts 35 = .ok (.invokevirtual 349, 3) := by decide +kernel
theorem dX11_shifts_38 : decode cX11_shifts 38 = .ok (.aload_n 0, 1) := by decide +kernel
theorem dX11_shifts_39 : decode cX11_shifts 39 = .ok (.getfield 16, 3) := by decide +kernel
theorem dX11_shifts_42 : decode cX11_shifts 42 = .ok (.iload 4, 2) := by decide +kernel
theorem dX11_shifts_44 : decode cX11_shifts 44 = .ok (.iload_n 3, 1) := by decide +kernel
theorem dX11_shifts_45 : decode cX11_shifts 45 = .ok (.iastore, 1) := by decide +kernel
theorem dX11_shifts_46 : decode cX11_shifts 46 = .ok (.aload_n 0, 1) := by decide +kernel
theorem dX11_shifts_47 : decode cX11_shifts 47 = .ok (.invokevirtual 302, 3) := by decide +kernel
theorem dX11_shifts_50 : decode cX11_shifts 50 = .ok (.aload_n 0, 1) := by decide +kernel
theorem dX11_shifts_51 : decode cX11_shifts 51 = .ok (.getfield 16, 3) := by decide +kernel
theorem dX11_shifts_54 : decode cX11_shifts 54 = .ok (.iload 4, 2) := by decide +kernel
theorem dX11_shifts_56 : decode cX11_shifts 56 = .ok (.iload 5, 2) := by decide +kernel
theorem dX11_shifts_58 : decode cX11_shifts 58 = .ok (.iastore, 1) := by decide +kernel
theorem dX11_shifts_59 : decode cX11_shifts 59 = .ok (.iconst 0, 1) := by decide +kernel
theorem dX11_shifts_60 : decode cX11_shifts 60 = .ok (.istore 6, 2) := by decide +kernel
theorem dX11_shifts_62 : decode cX11_shifts 62 = .ok (.iconst (-1), 1) := by decide +kernel
theorem dX11_shifts_63 : decode cX11_shifts 63 = .ok (.istore 7, 2) := by decide +kernel
theorem dX11_shifts_65 : decode cX11_shifts 65 = .ok (.bipush 23, 2) := by decide +kernel
theorem dX11_shifts_67 : decode cX11_shifts 67 = .ok (.istore 8, 2) := by decide +kernel
theorem dX11_shifts_69 : decode cX11_shifts 69 = .ok (.iload 8, 2) := by decide +kernel
theorem dX11_shifts_71 : decode cX11_shifts 71 = .ok (.ifCond .lt 37, 3) := by decide +kernel
theorem dX11_shifts_74 : decode cX11_shifts 74 = .ok (.aload_n 0, 1) := by decide +kernel
theorem dX11_shifts_75 : decode cX11_shifts 75 = .ok (.getfield 54, 3) := by decide +kernel
theorem dX11_shifts_78 : decode cX11_shifts 78 = .ok (.iload 8, 2) := by decide +kernel
theorem dX11_shifts_80 : decode cX11_shifts 80 = .ok (.laload, 1) := by decide +kernel
theorem dX11_shifts_81 : decode cX11_shifts 81 = .ok (.aload_n 0, 1) := by decide +kernel
theorem dX11_shifts_82 : decode cX11_shifts 82 = .ok (.getfield 69, 3) := by decide +kernel
theorem dX11_shifts_85 : decode cX11_shifts 85 = .ok (.iload 8, 2) := by decide +kernel
theorem dX11_shifts_87 : decode cX11_shifts 87 = .ok (.laload, 1) := by decide +kernel
theorem dX11_shifts_88 : decode cX11_shifts 88 = .ok (.lcmp, 1) := by decide +kernel
theorem dX11_shifts_89 : decode cX11_shifts 89 = .ok (.ifCond .ne 6, 3) := by decide +kernel
theorem dX11_shifts_92 : decode cX11_shifts 92 = .ok (.goto 10, 3) := by decide +kernel
theorem dX11_shifts_95 : decode cX11_shifts 95 = .ok (.iinc 6 1, 3) := by decide +kernel
theorem dX11_shifts_98 : decode cX11_shifts 98 = .ok (.iload 8, 2) := by decide +kernel
theorem dX11_shifts_100 : decode cX11_shifts 100 = .ok (.istore 7, 2) := by decide +kernel
theorem dX11_shifts_102 : decode cX11_shifts 102 = .ok (.iinc 8 (-1), 3) := by decide +kernel
theorem dX11_shifts_105 : decode cX11_shifts 105 = .ok (.goto (-36), 3) := by decide +kernel
theorem dX11_shifts_108 : decode cX11_shifts 108 = .ok (.aload_n 0, 1) := by decide +kernel
theorem dX11_shifts_109 : decode cX11_shifts 109 = .ok (.iconst 0, 1) := by decide +kernel
theorem dX11_shifts_110 : decode cX11_shifts 110 = .ok (.putfield 100, 3) := by decide +kernel
theorem dX11_shifts_113 : decode cX11_shifts 113 = .ok (.aload_n 0, 1) := by decide +kernel
theorem dX11_shifts_114 : decode cX11_shifts 114 = .ok (.iload 7, 2) := by decide +kernel
theorem dX11_shifts_116 : decode cX11_shifts 116 = .ok (.i2l, 1) := by decide +kernel
theorem dX11_shifts_117 : decode cX11_shifts 117 = .ok (.invokevirtual 305, 3) := by decide +kernel
theorem dX11_shifts_120 : decode cX11_shifts 120 = .ok (.aload_n 0, 1) := by decide +kernel
theorem dX11_shifts_121 : decode cX11_shifts 121 = .ok (.iload 7, 2) := by decide +kernel
theorem dX11_shifts_123 : decode cX11_shifts 123 = .ok (.iconst (-1), 1) := by decide +kernel
theorem dX11_shifts_124 : decode cX11_shifts 124 = .ok (.if_icmp .ne 7, 3) := by decide +kernel
theorem dX11_shifts_127 : decode cX11_shifts 127 = .ok (.lconst 0, 1) := by decide +kernel
theorem dX11_shifts_128 : decode cX11_shifts 128 = .ok (.goto 18, 3) := by decide +kernel
theorem dX11_shifts_131 : decode cX11_shifts 131 = .ok (.aload_n 0, 1) := by decide +kernel
theorem dX11_shifts_132 : decode cX11_shifts 132 = .ok (.getfield 54, 3) := by decide +kernel
theorem dX11_shifts_135 : decode cX11_shifts 135 = .ok (.iload 7, 2) := by decide +kernel
theorem dX11_shifts_137 : decode cX11_shifts 137 = .ok (.laload, 1) := by decide +kernel
theorem dX11_shifts_138 : decode cX11_shifts 138 = .ok (.aload_n 0, 1) := by decide +kernel
theorem dX11_shifts_139 : decode cX11_shifts 139 = .ok (.getfield 69, 3) := by decide +kernel
theorem dX11_shifts_142 : decode cX11_shifts 142 = .ok (.iload 7, 2) := by decide +kernel
theorem dX11_shifts_144 : decode cX11_shifts 144 = .ok (.laload, 1) := by decide +kernel
theorem dX11_shifts_145 : decode cX11_shifts 145 = .ok (.lsub, 1) := by decide +kernel
theorem dX11_shifts_146 : decode cX11_shifts 146 = .ok (.invokevirtual 305, 3) := by decide +kernel
theorem dX11_shifts_149 : decode cX11_shifts 149 = .ok (.aload_n 0, 1) := by decide +kernel
theorem dX11_shifts_150 : decode cX11_shifts 150 = .ok (.aload_n 0, 1) := by decide +kernel
theorem dX11_shifts_151 : decode cX11_shifts 151 = .ok (.getfield 57, 3) := by decide +kernel
theorem dX11_shifts_154 : decode cX11_shifts 154 = .ok (.bipush 23, 2) := by decide +kernel
theorem dX11_shifts_156 : decode cX11_shifts 156 = .ok (.laload, 1) := by decide +kernel
theorem dX11_shifts_157 : decode cX11_shifts 157 = .ok (.aload_n 0, 1) := by decide +kernel
theorem dX11_shifts_158 : decode cX11_shifts 158 = .ok (.getfield 342, 3) := by decide +kernel
theorem dX11_shifts_161 : decode cX11_shifts 161 = .ok (.lsub, 1) := by decide +kernel
theorem dX11_shifts_162 : decode cX11_shifts 162 = .ok (.invokevirtual 305, 3) := by decide +kernel
theorem dX11_shifts_165 : decode cX11_shifts 165 = .ok (.iload 6, 2) := by decide +kernel
theorem dX11_shifts_167 : decode cX11_shifts 167 = .ok (.ireturn, 1) := by decide +kernel
set_option maxRecDepth 20000 in
theorem ggX11_were_X11_isSet : GoodIn wsX11_were wsX11_isSet := goodIn_r _ [7, 8, 9, 10, 6, 11, 178, 179, 180, 181, 182, 183, 184, 185, 186, 187, 188, 189, 190, 191, 192, 193, 194, 195, 196, 197, 198, 199, 200, 201, 202, 203, 204, 205, 206, 207, 208, 209, 210, 211, 212] rfl (by decide +kernel)
set_option maxRecDepth 20000 in
theorem gX11_were_X11_isSet : GoodIn wsX11_were (wsV RX11 189 RX11 yX11_isSet wsX11_isSet) := goodIn_app (goodIn_of _ (by decide +kernel)) ggX11_were_X11_isSet
set_option maxRecDepth 20000 in
theorem ggX11_were_X11_isMonth : GoodIn wsX11_were wsX11_isMonth := goodIn_r _ [14, 15, 9, 10, 6, 11] rfl (by decide +kernel)
set_option maxRecDepth 20000 in
theorem gX11_were_X11_isMonth : GoodIn wsX11_were (va_wsS RX11 152 yX11_isMonth wsX11_isMonth) := goodIn_app (goodIn_of _ (by decide +kernel)) ggX11_were_X11_isMonth
set_option maxRecDepth 20000 in
theorem ggX11_were_X11_layAside : GoodIn wsX11_were wsX11_layAside := goodIn_r _ [19, 20, 21, 22, 23, 24, 25, 26, 27, 6, 28, 29, 30, 31, 32, 33, 34, 35, 36, 37, 38, 39, 40, 41, 42, 43, 44, 45, 46, 47, 48, 49, 50, 51, 52, 53, 54, 55, 56, 57, 58, 59, 60, 61, 62, 63, 64, 65, 66, 67, 68, 69, 70, 71, 72, 73, 74, 75, 76, 77, 78, 79, 80, 81, 82, 83, 84, 85, 86, 87, 88, 89, 90, 91, 92, 93, 94, 95, 96, 97, 98, 99, 100, 101, 102, 103, 104, 105, 106, 107, 108, 109, 110, 111, 112, 113, 114, 115, 116, 117, 118, 119, 120, 121, 122, 123, 124, 125, 126, 127, 8, 128, 129, 130, 131, 2, 132, 133, 134, 135, 136, 137, 138, 139, 140, 141, 142, 143, 144, 145, 146, 147, 148, 149, 150, 151, 152, 153, 154, 155, 156, 157, 158, 159, 160, 161, 162, 163, 164, 165, 166, 167, 178, 179, 180, 181, 182, 183, 184, 185, 186, 187, 188, 189, 190, 191, 192, 193, 194, 195, 196, 197, 198, 199, 200, 201, 202, 203, 204, 205, 206, 207, 208, 209, 210, 211, 212] rfl (by decide +kernel)
set_option maxRecDepth 20000 in
theorem gX11_were_X11_layAside : GoodIn wsX11_were (wsV RX11 349 RX11 yX11_layAside wsX11_layAside) := goodIn_app (goodIn_of _ (by decide +kernel)) ggX11_were_X11_layAside
set_option maxRecDepth 20000 in
theorem ggX11_were_X11_tellMore : GoodIn wsX11_were wsX11_tellMore := goodIn_r _ [171, 172, 22, 23, 24, 25, 26, 27, 6, 28, 29, 30, 31, 32, 33, 34, 35, 36, 37, 38, 39, 40, 41, 21, 42, 43, 44, 45, 46, 47, 48, 49, 50, 51, 52, 53, 54, 55, 56, 57, 58, 59, 60, 61, 62, 63, 64, 65, 66, 67, 68, 69, 70, 71, 72, 73, 74, 75, 76, 77, 78, 79, 80, 81, 82, 83, 84, 85, 86, 87, 88, 89, 90, 91, 92, 93, 94, 95, 96, 97, 98, 99, 100, 101, 102, 103, 104, 105, 106, 107, 108, 109, 110, 111, 112, 113, 114, 115, 116, 117, 118, 119, 120, 121, 122, 123, 124, 125, 126, 127, 8, 128, 129, 130, 131, 2, 132, 133, 134, 135, 136, 137, 138, 139, 140, 141, 142, 143, 144, 145, 146, 147, 148, 149, 150, 151, 152, 153, 154, 155, 156, 157, 158, 159, 173, 174, 175, 176, 177, 160, 161, 162, 163, 164, 165, 166, 167, 178, 179, 180, 181, 182, 183, 184, 185, 186, 187, 188, 189, 190, 191, 192, 193, 194, 195, 196, 197, 198, 199, 200, 201, 202, 203, 204, 205, 206, 207, 208, 209, 210, 211, 212] rfl (by decide +kernel)
set_option maxRecDepth 20000 in
theorem gX11_were_X11_tellMore : GoodIn wsX11_were (wsV RX11 352 RX11 yX11_tellMore wsX11_tellMore) := goodIn_app (goodIn_of _ (by decide +kernel)) ggX11_were_X11_tellMore
theorem dX11_were_0 : decode cX11_were 0 = .ok (.aload_n 0, 1) := by decide +kernel
theorem dX11_were_1 : decode cX11_were 1 = .ok (.iconst 0, 1) := by decide +kernel
theorem dX11_were_2 : decode cX11_were 2 = .ok (.putfield 97, 3) := by decide +kernel
theorem dX11_were_5 : decode cX11_were 5 = .ok (.aload_n 0, 1) := by decide +kernel
theorem dX11_were_6 : decode cX11_were 6 = .ok (.iload_n 1, 1) := by decide +kernel
theorem dX11_were_7 : decode cX11_were 7 = .ok (.invokevirtual 189, 3) := by decide +kernel
theorem dX11_were_10 : decode cX11_were 10 = .ok (.ifCond .eq 22, 3) := by decide +kernel
theorem dX11_were_13 : decode cX11_were 13 = .ok (.iload_n 2, 1) := by decide +kernel
theorem dX11_were_14 : decode cX11_were 14 = .ok (.invokestatic 152, 3) := by decide +kernel
theorem dX11_were_17 : decode cX11_were 17 = .ok (.ifCond .eq 15, 3) := by decide +kernel
theorem dX11_were_20 : decode cX11_were 20 = .ok (.iload_n 2, 1) := by decide +kernel
theorem dX11_were_21 : decode cX11_were 21 = .ok (.aload_n 0, 1) := by decide +kernel
theorem dX11_were_22 : decode cX11_were 22 = .ok (.getfield 25, 3) := by decide +kernel
theorem dX11_were_25 : decode cX11_were 25 = .ok (.iconst 5, 1) := by decide +kernel
theorem dX11_were_26 : decode cX11_were 26 = .ok (.iload_n 1, 1) := by decide +kernel
theorem dX11_were_27 : decode cX11_were 27 = .ok (.imul, 1) := by decide +kernel
theorem dX11_were_28 : decode cX11_were 28 = .ok (.iaload, 1) := by decide +kernel
theorem dX11_were_29 : decode cX11_were 29 = .ok (.if_icmp .ge 5, 3) := by decide +kernel
theorem dX11_were_32 : decode cX11_were 32 = .ok (.iconst (-1), 1) := by decide +kernel
theorem dX11_were_33 : decode cX11_were 33 = .ok (.ireturn, 1) := by decide +kernel
theorem dX11_were_34 : decode cX11_were 34 = .ok (.iconst 5, 1) := by decide +kernel
theorem dX11_were_35 : decode cX11_were 35 = .ok (.iload_n 1, 1) := by decide +kernel
theorem dX11_were_36 : decode cX11_were 36 = .ok (.imul, 1) := by decide +kernel
theorem dX11_were_37 : decode cX11_were 37 = .ok (.istore_n 3, 1) := by decide +kernel
theorem dX11_were_38 : decode cX11_were 38 = .ok (.aload_n 0, 1) := by decide +kernel
theorem dX11_were_39 : decode cX11_were 39 = .ok (.getfield 25, 3) := by decide +kernel
theorem dX11_were_42 : decode cX11_were 42 = .ok (.iload_n 3, 1) := by decide +kernel
theorem dX11_were_43 : decode cX11_were 43 = .ok (.iconst 2, 1) := by decide +kernel
theorem dX11_were_44 : decode cX11_were 44 = .ok (.iadd, 1) := by decide +kernel
theorem dX11_were_45 : decode cX11_were 45 = .ok (.iaload, 1) := by decide +kernel
theorem dX11_were_46 : decode cX11_were 46 = .ok (.istore 4, 2) := by decide +kernel
theorem dX11_were_48 : decode cX11_were 48 = .ok (.aload_n 0, 1) := by decide +kernel
theorem dX11_were_49 : decode cX11_were 49 = .ok (.getfield 25, 3) := by decide +kernel
theorem dX11_were_52 : decode cX11_were 52 = .ok (.iload_n 3, 1) := by decide +kernel
theorem dX11_were_53 : decode cX11_were 53 = .ok (.iconst 3, 1) := by decide +kernel
theorem dX11_were_54 : decode cX11_were 54 = .ok (.iadd, 1) := by decide +kernel
theorem dX11_were_55 : decode cX11_were 55 = .ok (.iaload, 1) := by decide +kernel
theorem dX11_were_56 : decode cX11_were 56 = .ok (.istore 5, 2) := by decide +kernel
theorem dX11_were_58 : decode cX11_were 58 = .ok (.aload_n 0, 1) := by decide +kernel
theorem dX11_were_59 : decode cX11_were 59 = .ok (.invokevirtual 349, 3) := by decide +kernel
theorem dX11_were_62 : decode cX11_were 62 = .ok (.aload_n 0, 1) := by decide +kernel
theorem dX11_were_63 : decode cX11_were 63 = .ok (.getfield 25, 3) := by decide +kernel
theorem dX11_were_66 : decode cX11_were 66 = .ok (.iload_n 3, 1) := by decide +kernel
theorem dX11_were_67 : decode cX11_were 67 = .ok (.iconst 2, 1) := by decide +kernel
theorem dX11_were_68 : decode cX11_were 68 = .ok (.iadd, 1) := by decide +kernel
theorem dX11_were_69 : decode cX11_were 69 = .ok (.iload_n 2, 1) := by decide +kernel
theorem dX11_were_70 : decode cX11_were 70 = .ok (.iastore, 1) := by decide +kernel
theorem dX11_were_71 : decode cX11_were 71 = .ok (.aload_n 0, 1) := by decide +kernel
theorem dX11_were_72 : decode cX11_were 72 = .ok (.getfield 25, 3) := by decide +kernel
theorem dX11_were_75 : decode cX11_were 75 = .ok (.iload_n 3, 1) := by decide +kernel
theorem dX11_were_76 : decode cX11_were 76 = .ok (.iconst 3, 1) := by decide +kernel
theorem dX11_were_77 : decode cX11_were 77 = .ok (.iadd, 1) := by decide +kernel
theorem dX11_were_78 : decode cX11_were 78 = .ok (.bipush 24, 2) := by decide +kernel
theorem dX11_were_80 : decode cX11_were 80 = .ok (.iastore, 1) := by decide +kernel
theorem dX11_were_81 : decode cX11_were 81 = .ok (.aload_n 0, 1) := by decide +kernel
theorem dX11_were_82 : decode cX11_were 82 = .ok (.invokevirtual 352, 3) := by decide +kernel
theorem dX11_were_85 : decode cX11_were 85 = .ok (.aload_n 0, 1) := by decide +kernel
theorem dX11_were_86 : decode cX11_were 86 = .ok (.getfield 25, 3) := by decide +kernel
theorem dX11_were_89 : decode cX11_were 89 = .ok (.iload_n 3, 1) := by decide +kernel
theorem dX11_were_90 : decode cX11_were 90 = .ok (.iconst 2, 1) := by decide +kernel
theorem dX11_were_91 : decode cX11_were 91 = .ok (.iadd, 1) := by decide +kernel
theorem dX11_were_92 : decode cX11_were 92 = .ok (.iload 4, 2) := by decide +kernel
theorem dX11_were_94 : decode cX11_were 94 = .ok (.iastore, 1) := by decide +kernel
theorem dX11_were_95 : decode cX11_were 95 = .ok (.aload_n 0, 1) := by decide +kernel
theorem dX11_were_96 : decode cX11_were 96 = .ok (.getfield 25, 3) := by decide +kernel
theorem dX11_were_99 : decode cX11_were 99 = .ok (.iload_n 3, 1) := by decide +kernel
theorem dX11_were_100 : decode cX11_were 100 = .ok (.iconst 3, 1) := by decide +kernel
theorem dX11_were_101 : decode cX11_were 101 = .ok (.iadd, 1) := by decide +kernel
theorem dX11_were_102 : decode cX11_were 102 = .ok (.iload 5, 2) := by decide +kernel
theorem dX11_were_104 : decode cX11_were 104 = .ok (.iastore, 1) := by decide +kernel
theorem dX11_were_105 : decode cX11_were 105 = .ok (.iconst 0, 1) := by decide +kernel
theorem dX11_were_106 : decode cX11_were 106 = .ok (.ireturn, 1) := by decide +kernel
set_option maxRecDepth 20000 in
theorem ggX11_dearest_X11_layMonths : GoodIn wsX11_dearest wsX11_layMonths := goodIn_r _ [9, 10, 11, 12, 13, 14, 15, 16, 17, 18, 19, 20, 21, 22, 23, 24, 25, 26, 27, 8, 28, 29, 30, 31, 32, 33, 34, 35, 36, 37, 38, 39, 40, 41, 42, 43, 44, 45, 46, 47, 48, 49, 50, 51, 52, 53, 54, 55, 56, 57, 58, 59, 60, 61, 62, 63, 64, 65, 66, 67, 68, 69, 70, 71, 72, 73, 74, 75, 76, 77, 78, 79, 80, 81, 82, 83, 84, 85, 86, 87, 88, 89, 90, 91, 92, 93, 94, 95, 96, 97, 98, 99, 100, 101, 102, 103, 104, 105, 106, 107, 108, 109, 110, 2, 111, 112, 113, 114, 3, 115, 116, 117, 118, 119, 120, 121, 122, 123, 124, 125, 126, 127, 128, 129, 130, 131, 132, 133, 134, 135, 136, 137, 138, 139, 140, 141, 142, 156, 157, 158, 159, 160, 161, 162, 163, 164, 165, 166, 167, 168, 169, 170, 171, 172, 173, 174, 175, 176, 177, 178, 179, 180, 181, 182, 183, 184, 185, 186, 187, 188, 189, 190] rfl (by decide +kernel)
set_option maxRecDepth 20000 in
theorem gX11_dearest_X11_layMonths : GoodIn wsX11_dearest (wsV RX11 302 RX11 yX11_layMonths wsX11_layMonths) := goodIn_app (goodIn_of _ (by decide +kernel)) ggX11_dearest_X11_layMonths
set_option maxRecDepth 20000 in
theorem ggX11_dearest_X11_interestAll : GoodIn wsX11_dearest wsX11_interestAll := goodIn_r _ [146, 147, 148, 149, 8, 150, 137, 156, 157, 158, 159, 160, 161, 162, 163, 164, 165, 166, 167, 168, 169, 170, 171, 172, 173, 174, 175, 176, 177, 178, 179, 180, 181, 182, 183, 184, 185, 186, 187, 188, 189, 190] rfl (by decide +kernel)
set_option maxRecDepth 20000 in
theorem gX11_dearest_X11_interestAll : GoodIn wsX11_dearest (wsV RX11 335 RX11 yX11_interestAll wsX11_interestAll) := goodIn_app (goodIn_of _ (by decide +kernel)) ggX11_dearest_X11_interestAll
set_option maxRecDepth 20000 in
theorem ggX11_dearest_X11_tell : GoodIn wsX11_dearest wsX11_tell := goodIn_r _ [154, 155, 4, 156, 157, 158, 159, 160, 161, 162, 163, 164, 165, 166, 167, 168, 169, 170, 171, 172, 173, 174, 175, 176, 177, 178, 179, 180, 181, 182, 183, 184, 185, 186, 187, 188, 189, 190] rfl (by decide +kernel)
set_option maxRecDepth 20000 in
theorem gX11_dearest_X11_tell : GoodIn wsX11_dearest (wsV RX11 305 RX11 yX11_tell wsX11_tell) := goodIn_app (goodIn_of _ (by decide +kernel)) ggX11_dearest_X11_tell
theorem dX11_dearest_0 : decode cX11_dearest 0 = .ok (.aload_n 0, 1) := by decide +kernel
theorem dX11_dearest_1 : decode cX11_dearest 1 = .ok (.iconst 0, 1) := by decide +kernel
theorem dX11_dearest_2 : decode cX11_dearest 2 = .ok (.putfield 97, 3) := by decide +kernel
theorem dX11_dearest_5 : decode cX11_dearest 5 = .ok (.iconst (-1), 1) := by decide +kernel
theorem dX11_dearest_6 : decode cX11_dearest 6 = .ok (.istore_n 1, 1) := by decide +kernel
theorem dX11_dearest_7 : decode cX11_dearest 7 = .ok (.lconst 0, 1) := by decide +kernel
theorem dX11_dearest_8 : decode cX11_dearest 8 = .ok (.lstore_n 2, 1) := by decide +kernel
theorem dX11_dearest_9 : decode cX11_dearest 9 = .ok (.iconst 0, 1) := by decide +kernel
theorem dX11_dearest_10 : decode cX11_dearest 10 = .ok (.istore 4, 2) := by decide +kernel
theorem dX11_dearest_12 : decode cX11_dearest 12 = .ok (.iload 4, 2) := by decide +kernel
theorem dX11_dearest_14 : decode cX11_dearest 14 = .ok (.aload_n 0, 1) := by decide +kernel
theorem dX11_dearest_15 : decode cX11_dearest 15 = .ok (.getfield 82, 3) := by decide +kernel
theorem dX11_dearest_18 : decode cX11_dearest 18 = .ok (.if_icmp .ge 90, 3) := by decide +kernel
theorem dX11_dearest_21 : decode cX11_dearest 21 = .ok (.aload_n 0, 1) := by decide +kernel
theorem dX11_dearest_22 : decode cX11_dearest 22 = .ok (.getfield 25, 3) := by decide +kernel
theorem dX11_dearest_25 : decode cX11_dearest 25 = .ok (.iconst 5, 1) := by decide +kernel
theorem dX11_dearest_26 : decode cX11_dearest 26 = .ok (.iload 4, 2) := by decide +kernel
theorem dX11_dearest_28 : decode cX11_dearest 28 = .ok (.imul, 1) := by decide +kernel
theorem dX11_dearest_29 : decode cX11_dearest 29 = .ok (.iconst 2, 1) := by decide +kernel
theorem dX11_dearest_30 : decode cX11_dearest 30 = .ok (.iadd, 1) := by decide +kernel
theorem dX11_dearest_31 : decode cX11_dearest 31 = .ok (.iaload, 1) := by decide +kernel
theorem dX11_dearest_32 : decode cX11_dearest 32 = .ok (.bipush 24, 2) := by decide +kernel
theorem dX11_dearest_34 : decode cX11_dearest 34 = .ok (.if_icmp .ge 6, 3) := by decide +kernel
theorem dX11_dearest_37 : decode cX11_dearest 37 = .ok (.goto 65, 3) := by decide +kernel
theorem dX11_dearest_40 : decode cX11_dearest 40 = .ok (.aload_n 0, 1) := by decide +kernel
theorem dX11_dearest_41 : decode cX11_dearest 41 = .ok (.getfield 25, 3) := by decide +kernel
theorem dX11_dearest_44 : decode cX11_dearest 44 = .ok (.iconst 5, 1) := by decide +kernel
theorem dX11_dearest_45 : decode cX11_dearest 45 = .ok (.iload 4, 2) := by decide +kernel
theorem dX11_dearest_47 : decode cX11_dearest 47 = .ok (.imul, 1) := by decide +kernel
theorem dX11_dearest_48 : decode cX11_dearest 48 = .ok (.iconst 2, 1) := by decide +kernel
theorem dX11_dearest_49 : decode cX11_dearest 49 = .ok (.iadd, 1) := by decide +kernel
theorem dX11_dearest_50 : decode cX11_dearest 50 = .ok (.aload_n 0, 1) := by decide +kernel
theorem dX11_dearest_51 : decode cX11_dearest 51 = .ok (.getfield 25, 3) := by decide +kernel
theorem dX11_dearest_54 : decode cX11_dearest 54 = .ok (.iconst 5, 1) := by decide +kernel
theorem dX11_dearest_55 : decode cX11_dearest 55 = .ok (.iload 4, 2) := by decide +kernel
theorem dX11_dearest_57 : decode cX11_dearest 57 = .ok (.imul, 1) := by decide +kernel
theorem dX11_dearest_58 : decode cX11_dearest 58 = .ok (.iaload, 1) := by decide +kernel
theorem dX11_dearest_59 : decode cX11_dearest 59 = .ok (.iastore, 1) := by decide +kernel
theorem dX11_dearest_60 : decode cX11_dearest 60 = .ok (.aload_n 0, 1) := by decide +kernel
theorem dX11_dearest_61 : decode cX11_dearest 61 = .ok (.invokevirtual 302, 3) := by decide +kernel
theorem dX11_dearest_64 : decode cX11_dearest 64 = .ok (.aload_n 0, 1) := by decide +kernel
theorem dX11_dearest_65 : decode cX11_dearest 65 = .ok (.getfield 25, 3) := by decide +kernel
theorem dX11_dearest_68 : decode cX11_dearest 68 = .ok (.iconst 5, 1) := by decide +kernel
theorem dX11_dearest_69 : decode cX11_dearest 69 = .ok (.iload 4, 2) := by decide +kernel
theorem dX11_dearest_71 : decode cX11_dearest 71 = .ok (.imul, 1) := by decide +kernel
theorem dX11_dearest_72 : decode cX11_dearest 72 = .ok (.iconst 2, 1) := by decide +kernel
theorem dX11_dearest_73 : decode cX11_dearest 73 = .ok (.iadd, 1) := by decide +kernel
theorem dX11_dearest_74 : decode cX11_dearest 74 = .ok (.bipush 24, 2) := by decide +kernel
theorem dX11_dearest_76 : decode cX11_dearest 76 = .ok (.iastore, 1) := by decide +kernel
theorem dX11_dearest_77 : decode cX11_dearest 77 = .ok (.iload_n 1, 1) := by decide +kernel
theorem dX11_dearest_78 : decode cX11_dearest 78 = .ok (.iconst (-1), 1) := by decide +kernel
theorem dX11_dearest_79 : decode cX11_dearest 79 = .ok (.if_icmp .eq 15, 3) := by decide +kernel
theorem dX11_dearest_82 : decode cX11_dearest 82 = .ok (.aload_n 0, 1) := by decide +kernel
theorem dX11_dearest_83 : decode cX11_dearest 83 = .ok (.invokevirtual 335, 3) := by decide +kernel
theorem dX11_dearest_86 : decode cX11_dearest 86 = .ok (.lload_n 2, 1) := by decide +kernel
theorem dX11_dearest_87 : decode cX11_dearest 87 = .ok (.lcmp, 1) := by decide +kernel
theorem dX11_dearest_88 : decode cX11_dearest 88 = .ok (.ifCond .gt 6, 3) := by decide +kernel
theorem dX11_dearest_91 : decode cX11_dearest 91 = .ok (.goto 11, 3) := by decide +kernel
theorem dX11_dearest_94 : decode cX11_dearest 94 = .ok (.iload 4, 2) := by decide +kernel
theorem dX11_dearest_96 : decode cX11_dearest 96 = .ok (.istore_n 1, 1) := by decide +kernel
theorem dX11_dearest_97 : decode cX11_dearest 97 = .ok (.aload_n 0, 1) := by decide +kernel
theorem dX11_dearest_98 : decode cX11_dearest 98 = .ok (.invokevirtual 335, 3) := by decide +kernel
theorem dX11_dearest_101 : decode cX11_dearest 101 = .ok (.lstore_n 2, 1) := by decide +kernel
theorem dX11_dearest_102 : decode cX11_dearest 102 = .ok (.iinc 4 1, 3) := by decide +kernel
theorem dX11_dearest_105 : decode cX11_dearest 105 = .ok (.goto (-93), 3) := by decide +kernel
theorem dX11_dearest_108 : decode cX11_dearest 108 = .ok (.iload_n 1, 1) := by decide +kernel
theorem dX11_dearest_109 : decode cX11_dearest 109 = .ok (.iconst (-1), 1) := by decide +kernel
theorem dX11_dearest_110 : decode cX11_dearest 110 = .ok (.if_icmp .ne 6, 3) := by decide +kernel
theorem dX11_dearest_113 : decode cX11_dearest 113 = .ok (.bipush (-2), 2) := by decide +kernel
theorem dX11_dearest_115 : decode cX11_dearest 115 = .ok (.ireturn, 1) := by decide +kernel
theorem dX11_dearest_116 : decode cX11_dearest 116 = .ok (.aload_n 0, 1) := by decide +kernel
theorem dX11_dearest_117 : decode cX11_dearest 117 = .ok (.iconst 0, 1) := by decide +kernel
theorem dX11_dearest_118 : decode cX11_dearest 118 = .ok (.putfield 100, 3) := by decide +kernel
theorem dX11_dearest_121 : decode cX11_dearest 121 = .ok (.aload_n 0, 1) := by decide +kernel
theorem dX11_dearest_122 : decode cX11_dearest 122 = .ok (.lload_n 2, 1) := by decide +kernel
theorem dX11_dearest_123 : decode cX11_dearest 123 = .ok (.invokevirtual 305, 3) := by decide +kernel
theorem dX11_dearest_126 : decode cX11_dearest 126 = .ok (.iload_n 1, 1) := by decide +kernel
theorem dX11_dearest_127 : decode cX11_dearest 127 = .ok (.ireturn, 1) := by decide +kernel
set_option maxRecDepth 20000 in
theorem ggX11_ends_X11_isItem : GoodIn wsX11_ends wsX11_isItem := goodIn_r _ [8, 9, 10, 11, 7, 12, 27, 28, 29, 30, 31, 32, 33, 34, 35, 36, 37, 38, 39, 40, 41, 42, 43, 44, 45, 46, 47, 48, 49, 50, 51, 52, 53, 54, 55, 56, 57, 58, 59, 60, 61] rfl (by decide +kernel)
set_option maxRecDepth 20000 in
theorem gX11_ends_X11_isItem : GoodIn wsX11_ends (wsV RX11 156 RX11 yX11_isItem wsX11_isItem) := goodIn_app (goodIn_of _ (by decide +kernel)) ggX11_ends_X11_isItem
set_option maxRecDepth 20000 in
theorem ggX11_ends_X11_doneOf : GoodIn wsX11_ends wsX11_doneOf := goodIn_r _ [16, 3, 27, 28, 29, 30, 31, 32, 33, 34, 35, 36, 37, 38, 39, 40, 41, 42, 43, 44, 45, 46, 47, 48, 49, 50, 51, 52, 53, 54, 55, 56, 57, 58, 59, 60, 61] rfl (by decide +kernel)
set_option maxRecDepth 20000 in
theorem gX11_ends_X11_doneOf : GoodIn wsX11_ends (wsV RX11 165 RX11 yX11_doneOf wsX11_doneOf) := goodIn_app (goodIn_of _ (by decide +kernel)) ggX11_ends_X11_doneOf
set_option maxRecDepth 20000 in
theorem ggX11_ends_X11_quantity : GoodIn wsX11_ends wsX11_quantity := goodIn_r _ [20, 21, 27, 28, 29, 30, 31, 32, 33, 34, 35, 36, 37, 38, 39, 40, 41, 42, 43, 44, 45, 46, 47, 48, 49, 50, 51, 52, 53, 54, 55, 56, 57, 58, 59, 60, 61] rfl (by decide +kernel)
set_option maxRecDepth 20000 in
theorem gX11_ends_X11_quantity : GoodIn wsX11_ends (wsV RX11 214 RX11 yX11_quantity wsX11_quantity) := goodIn_app (goodIn_of _ (by decide +kernel)) ggX11_ends_X11_quantity
set_option maxRecDepth 20000 in
theorem ggX11_ends_X11_tell : GoodIn wsX11_ends wsX11_tell := goodIn_r _ [25, 26, 2, 27, 28, 29, 30, 31, 32, 33, 34, 35, 36, 37, 38, 39, 40, 41, 42, 43, 44, 45, 46, 47, 48, 49, 50, 51, 52, 53, 54, 55, 56, 57, 58, 59, 60, 61] rfl (by decide +kernel)
set_option maxRecDepth 20000 in
theorem gX11_ends_X11_tell : GoodIn wsX11_ends (wsV RX11 305 RX11 yX11_tell wsX11_tell) := goodIn_app (goodIn_of _ (by decide +kernel)) ggX11_ends_X11_tell
theorem dX11_ends_0 : decode cX11_ends 0 = .ok (.aload_n 0, 1) := by decide +kernel
theorem dX11_ends_1 : decode cX11_ends 1 = .ok (.iconst 0, 1) := by decide +kernel
theorem dX11_ends_2 : decode cX11_ends 2 = .ok (.putfield 97, 3) := by decide +kernel
theorem dX11_ends_5 : decode cX11_ends 5 = .ok (.aload_n 0, 1) := by decide +kernel
theorem dX11_ends_6 : decode cX11_ends 6 = .ok (.iload_n 1, 1) := by decide +kernel
theorem dX11_ends_7 : decode cX11_ends 7 = .ok (.invokevirtual 156, 3) := by decide +kernel
theorem dX11_ends_10 : decode cX11_ends 10 = .ok (.ifCond .ne 5, 3) := by decide +kernel
theorem dX11_ends_13 : decode cX11_ends 13 = .ok (.iconst (-1), 1) := by decide +kernel
theorem dX11_ends_14 : decode cX11_ends 14 = .ok (.ireturn, 1) := by decide +kernel
theorem dX11_ends_15 : decode cX11_ends 15 = .ok (.iconst 0, 1) := by decide +kernel
theorem dX11_ends_16 : decode cX11_ends 16 = .ok (.istore_n 2, 1) := by decide +kernel
theorem dX11_ends_17 : decode cX11_ends 17 = .ok (.iload_n 2, 1) := by decide +kernel
theorem dX11_ends_18 : decode cX11_ends 18 = .ok (.bipush 24, 2) := by decide +kernel
theorem dX11_ends_20 : decode cX11_ends 20 = .ok (.if_icmp .ge 38, 3) := by decide +kernel
theorem dX11_ends_23 : decode cX11_ends 23 = .ok (.aload_n 0, 1) := by decide +kernel
theorem dX11_ends_24 : decode cX11_ends 24 = .ok (.iload_n 2, 1) := by decide +kernel
theorem dX11_ends_25 : decode cX11_ends 25 = .ok (.iload_n 1, 1) := by decide +kernel
theorem dX11_ends_26 : decode cX11_ends 26 = .ok (.invokevirtual 165, 3) := by decide +kernel
theorem dX11_ends_29 : decode cX11_ends 29 = .ok (.aload_n 0, 1) := by decide +kernel
theorem dX11_ends_30 : decode cX11_ends 30 = .ok (.iload_n 1, 1) := by decide +kernel
theorem dX11_ends_31 : decode cX11_ends 31 = .ok (.invokevirtual 214, 3) := by decide +kernel
theorem dX11_ends_34 : decode cX11_ends 34 = .ok (.if_icmp .ge 6, 3) := by decide +kernel
theorem dX11_ends_37 : decode cX11_ends 37 = .ok (.goto 15, 3) := by decide +kernel
theorem dX11_ends_40 : decode cX11_ends 40 = .ok (.aload_n 0, 1) := by decide +kernel
theorem dX11_ends_41 : decode cX11_ends 41 = .ok (.iconst 0, 1) := by decide +kernel
theorem dX11_ends_42 : decode cX11_ends 42 = .ok (.putfield 100, 3) := by decide +kernel
theorem dX11_ends_45 : decode cX11_ends 45 = .ok (.aload_n 0, 1) := by decide +kernel
theorem dX11_ends_46 : decode cX11_ends 46 = .ok (.lconst 0, 1) := by decide +kernel
theorem dX11_ends_47 : decode cX11_ends 47 = .ok (.invokevirtual 305, 3) := by decide +kernel
theorem dX11_ends_50 : decode cX11_ends 50 = .ok (.iload_n 2, 1) := by decide +kernel
theorem dX11_ends_51 : decode cX11_ends 51 = .ok (.ireturn, 1) := by decide +kernel
theorem dX11_ends_52 : decode cX11_ends 52 = .ok (.iinc 2 1, 3) := by decide +kernel
theorem dX11_ends_55 : decode cX11_ends 55 = .ok (.goto (-38), 3) := by decide +kernel
theorem dX11_ends_58 : decode cX11_ends 58 = .ok (.bipush 23, 2) := by decide +kernel
theorem dX11_ends_60 : decode cX11_ends 60 = .ok (.istore_n 2, 1) := by decide +kernel
theorem dX11_ends_61 : decode cX11_ends 61 = .ok (.iload_n 2, 1) := by decide +kernel
theorem dX11_ends_62 : decode cX11_ends 62 = .ok (.ifCond .lt 26, 3) := by decide +kernel
theorem dX11_ends_65 : decode cX11_ends 65 = .ok (.aload_n 0, 1) := by decide +kernel
theorem dX11_ends_66 : decode cX11_ends 66 = .ok (.getfield 16, 3) := by decide +kernel
theorem dX11_ends_69 : decode cX11_ends 69 = .ok (.bipush 10, 2) := by decide +kernel
theorem dX11_ends_71 : decode cX11_ends 71 = .ok (.iload_n 2, 1) := by decide +kernel
theorem dX11_ends_72 : decode cX11_ends 72 = .ok (.imul, 1) := by decide +kernel
theorem dX11_ends_73 : decode cX11_ends 73 = .ok (.iload_n 1, 1) := by decide +kernel
theorem dX11_ends_74 : decode cX11_ends 74 = .ok (.iadd, 1) := by decide +kernel
theorem dX11_ends_75 : decode cX11_ends 75 = .ok (.iaload, 1) := by decide +kernel
theorem dX11_ends_76 : decode cX11_ends 76 = .ok (.sipush (-9999), 3) := by decide +kernel
theorem dX11_ends_79 : decode cX11_ends 79 = .ok (.if_icmp .ne 9, 3) := by decide +kernel
theorem dX11_ends_82 : decode cX11_ends 82 = .ok (.iinc 2 (-1), 3) := by decide +kernel
theorem dX11_ends_85 : decode cX11_ends 85 = .ok (.goto (-24), 3) := by decide +kernel
theorem dX11_ends_88 : decode cX11_ends 88 = .ok (.iload_n 2, 1) := by decide +kernel
theorem dX11_ends_89 : decode cX11_ends 89 = .ok (.ifCond .ge 6, 3) := by decide +kernel
theorem dX11_ends_92 : decode cX11_ends 92 = .ok (.bipush (-2), 2) := by decide +kernel
theorem dX11_ends_94 : decode cX11_ends 94 = .ok (.ireturn, 1) := by decide +kernel
theorem dX11_ends_95 : decode cX11_ends 95 = .ok (.iload_n 2, 1) := by decide +kernel
theorem dX11_ends_96 : decode cX11_ends 96 = .ok (.iconst 1, 1) := by decide +kernel
theorem dX11_ends_97 : decode cX11_ends 97 = .ok (.isub, 1) := by decide +kernel
theorem dX11_ends_98 : decode cX11_ends 98 = .ok (.istore_n 3, 1) := by decide +kernel
theorem dX11_ends_99 : decode cX11_ends 99 = .ok (.iload_n 3, 1) := by decide +kernel
theorem dX11_ends_100 : decode cX11_ends 100 = .ok (.ifCond .lt 26, 3) := by decide +kernel
theorem dX11_ends_103 : decode cX11_ends 103 = .ok (.aload_n 0, 1) := by decide +kernel
theorem dX11_ends_104 : decode cX11_ends 104 = .ok (.getfield 16, 3) := by decide +kernel
theorem dX11_ends_107 : decode cX11_ends 107 = .ok (.bipush 10, 2) := by decide +kernel
theorem dX11_ends_109 : decode cX11_ends 109 = .ok (.iload_n 3, 1) := by decide +kernel
theorem dX11_ends_110 : decode cX11_ends 110 = .ok (.imul, 1) := by decide +kernel
theorem dX11_ends_111 : decode cX11_ends 111 = .ok (.iload_n 1, 1) := by decide +kernel
theorem dX11_ends_112 : decode cX11_ends 112 = .ok (.iadd, 1) := by decide +kernel
theorem dX11_ends_113 : decode cX11_ends 113 = .ok (.iaload, 1) := by decide +kernel
theorem dX11_ends_114 : decode cX11_ends 114 = .ok (.sipush (-9999), 3) := by decide +kernel
theorem dX11_ends_117 : decode cX11_ends 117 = .ok (.if_icmp .ne 9, 3) := by decide +kernel
theorem dX11_ends_120 : decode cX11_ends 120 = .ok (.iinc 3 (-1), 3) := by decide +kernel
theorem dX11_ends_123 : decode cX11_ends 123 = .ok (.goto (-24), 3) := by decide +kernel
theorem dX11_ends_126 : decode cX11_ends 126 = .ok (.aload_n 0, 1) := by decide +kernel
theorem dX11_ends_127 : decode cX11_ends 127 = .ok (.getfield 16, 3) := by decide +kernel
theorem dX11_ends_130 : decode cX11_ends 130 = .ok (.bipush 10, 2) := by decide +kernel
theorem dX11_ends_132 : decode cX11_ends 132 = .ok (.iload_n 2, 1) := by decide +kernel
theorem dX11_ends_133 : decode cX11_ends 133 = .ok (.imul, 1) := by decide +kernel
theorem dX11_ends_134 : decode cX11_ends 134 = .ok (.iload_n 1, 1) := by decide +kernel
theorem dX11_ends_135 : decode cX11_ends 135 = .ok (.iadd, 1) := by decide +kernel
theorem dX11_ends_136 : decode cX11_ends 136 = .ok (.iaload, 1) := by decide +kernel
theorem dX11_ends_137 : decode cX11_ends 137 = .ok (.istore 4, 2) := by decide +kernel
theorem dX11_ends_139 : decode cX11_ends 139 = .ok (.iload_n 3, 1) := by decide +kernel
theorem dX11_ends_140 : decode cX11_ends 140 = .ok (.ifCond .ge 8, 3) := by decide +kernel
theorem dX11_ends_143 : decode cX11_ends 143 = .ok (.iload 4, 2) := by decide +kernel
theorem dX11_ends_145 : decode cX11_ends 145 = .ok (.goto 21, 3) := by decide +kernel
theorem dX11_ends_148 : decode cX11_ends 148 = .ok (.iload 4, 2) := by decide +kernel
theorem dX11_ends_150 : decode cX11_ends 150 = .ok (.aload_n 0, 1) := by decide +kernel
theorem dX11_ends_151 : decode cX11_ends 151 = .ok (.getfield 16, 3) := by decide +kernel
theorem dX11_ends_154 : decode cX11_ends 154 = .ok (.bipush 10, 2) := by decide +kernel
theorem dX11_ends_156 : decode cX11_ends 156 = .ok (.iload_n 3, 1) := by decide +kernel
theorem dX11_ends_157 : decode cX11_ends 157 = .ok (.imul, 1) := by decide +kernel
theorem dX11_ends_158 : decode cX11_ends 158 = .ok (.iload_n 1, 1) := by decide +kernel
theorem dX11_ends_159 : decode cX11_ends 159 = .ok (.iadd, 1) := by decide +kernel
theorem dX11_ends_160 : decode cX11_ends 160 = .ok (.iaload, 1) := by decide +kernel
theorem dX11_ends_161 : decode cX11_ends 161 = .ok (.isub, 1) := by decide +kernel
theorem dX11_ends_162 : decode cX11_ends 162 = .ok (.iload_n 2, 1) := by decide +kernel
theorem dX11_ends_163 : decode cX11_ends 163 = .ok (.iload_n 3, 1) := by decide +kernel
theorem dX11_ends_164 : decode cX11_ends 164 = .ok (.isub, 1) := by decide +kernel
theorem dX11_ends_165 : decode cX11_ends 165 = .ok (.idiv, 1) := by decide +kernel
theorem dX11_ends_166 : decode cX11_ends 166 = .ok (.istore 5, 2) := by decide +kernel
theorem dX11_ends_168 : decode cX11_ends 168 = .ok (.iload 5, 2) := by decide +kernel
theorem dX11_ends_170 : decode cX11_ends 170 = .ok (.ifCond .gt 6, 3) := by decide +kernel
theorem dX11_ends_173 : decode cX11_ends 173 = .ok (.bipush (-3), 2) := by decide +kernel
theorem dX11_ends_175 : decode cX11_ends 175 = .ok (.ireturn, 1) := by decide +kernel
theorem dX11_ends_176 : decode cX11_ends 176 = .ok (.aload_n 0, 1) := by decide +kernel
theorem dX11_ends_177 : decode cX11_ends 177 = .ok (.iconst 0, 1) := by decide +kernel
theorem dX11_ends_178 : decode cX11_ends 178 = .ok (.putfield 100, 3) := by decide +kernel
theorem dX11_ends_181 : decode cX11_ends 181 = .ok (.aload_n 0, 1) := by decide +kernel
theorem dX11_ends_182 : decode cX11_ends 182 = .ok (.iload 5, 2) := by decide +kernel
theorem dX11_ends_184 : decode cX11_ends 184 = .ok (.i2l, 1) := by decide +kernel
theorem dX11_ends_185 : decode cX11_ends 185 = .ok (.invokevirtual 305, 3) := by decide +kernel
theorem dX11_ends_188 : decode cX11_ends 188 = .ok (.iload_n 2, 1) := by decide +kernel
theorem dX11_ends_189 : decode cX11_ends 189 = .ok (.aload_n 0, 1) := by decide +kernel
theorem dX11_ends_190 : decode cX11_ends 190 = .ok (.iload_n 1, 1) := by decide +kernel
theorem dX11_ends_191 : decode cX11_ends 191 = .ok (.invokevirtual 214, 3) := by decide +kernel
theorem dX11_ends_194 : decode cX11_ends 194 = .ok (.iload 4, 2) := by decide +kernel
theorem dX11_ends_196 : decode cX11_ends 196 = .ok (.isub, 1) := by decide +kernel
theorem dX11_ends_197 : decode cX11_ends 197 = .ok (.iload 5, 2) := by decide +kernel
theorem dX11_ends_199 : decode cX11_ends 199 = .ok (.iadd, 1) := by decide +kernel
theorem dX11_ends_200 : decode cX11_ends 200 = .ok (.iconst 1, 1) := by decide +kernel
theorem dX11_ends_201 : decode cX11_ends 201 = .ok (.isub, 1) := by decide +kernel
theorem dX11_ends_202 : decode cX11_ends 202 = .ok (.iload 5, 2) := by decide +kernel
theorem dX11_ends_204 : decode cX11_ends 204 = .ok (.idiv, 1) := by decide +kernel
theorem dX11_ends_205 : decode cX11_ends 205 = .ok (.iadd, 1) := by decide +kernel
theorem dX11_ends_206 : decode cX11_ends 206 = .ok (.ireturn, 1) := by decide +kernel
set_option maxRecDepth 20000 in
theorem ggX11_leads_X11_isMonth : GoodIn wsX11_leads wsX11_isMonth := goodIn_r _ [7, 8, 9, 10, 6, 11] rfl (by decide +kernel)
set_option maxRecDepth 20000 in
theorem gX11_leads_X11_isMonth : GoodIn wsX11_leads (va_wsS RX11 152 yX11_isMonth wsX11_isMonth) := goodIn_app (goodIn_of _ (by decide +kernel)) ggX11_leads_X11_isMonth
set_option maxRecDepth 20000 in
theorem ggX11_leads_X11_grown : GoodIn wsX11_leads wsX11_grown := goodIn_r _ [15, 16, 17, 18, 6, 19, 20, 21, 22, 23, 24, 25, 26, 27, 28, 29, 30, 31, 32, 33, 34, 35, 36, 37, 38, 39, 40, 41, 42, 43, 44, 45, 46, 52, 53, 54, 55, 56, 57, 58, 59, 60, 61, 62, 63, 64, 65, 66, 67, 68, 69, 70, 71, 72, 73, 74, 75, 76, 77, 78, 79, 80, 81, 82, 83, 84, 85, 86] rfl (by decide +kernel)
set_option maxRecDepth 20000 in
theorem gX11_leads_X11_grown : GoodIn wsX11_leads (wsV RX11 309 RX11 yX11_grown wsX11_grown) := goodIn_app (goodIn_of _ (by decide +kernel)) ggX11_leads_X11_grown
set_option maxRecDepth 20000 in
theorem ggX11_leads_X11_tell : GoodIn wsX11_leads wsX11_tell := goodIn_r _ [50, 51, 3, 52, 53, 54, 55, 56, 57, 58, 59, 60, 61, 62, 63, 64, 65, 66, 67, 68, 69, 70, 71, 72, 73, 74, 75, 76, 77, 78, 79, 80, 81, 82, 83, 84, 85, 86] rfl (by decide +kernel)
set_option maxRecDepth 20000 in
theorem gX11_leads_X11_tell : GoodIn wsX11_leads (wsV RX11 305 RX11 yX11_tell wsX11_tell) := goodIn_app (goodIn_of _ (by decide +kernel)) ggX11_leads_X11_tell
theorem dX11_leads_0 : decode cX11_leads 0 = .ok (.aload_n 0, 1) := by decide +kernel
theorem dX11_leads_1 : decode cX11_leads 1 = .ok (.iconst 0, 1) := by decide +kernel
theorem dX11_leads_2 : decode cX11_leads 2 = .ok (.putfield 97, 3) := by decide +kernel
theorem dX11_leads_5 : decode cX11_leads 5 = .ok (.iload_n 1, 1) := by decide +kernel
theorem dX11_leads_6 : decode cX11_leads 6 = .ok (.invokestatic 152, 3) := by decide +kernel
theorem dX11_leads_9 : decode cX11_leads 9 = .ok (.ifCond .ne 5, 3) := by decide +kernel
theorem dX11_leads_12 : decode cX11_leads 12 = .ok (.iconst (-1), 1) := by decide +kernel
theorem dX11_leads_13 : decode cX11_leads 13 = .ok (.ireturn, 1) := by decide +kernel
theorem dX11_leads_14 : decode cX11_leads 14 = .ok (.aload_n 0, 1) := by decide +kernel
theorem dX11_leads_15 : decode cX11_leads 15 = .ok (.getfield 75, 3) := by decide +kernel
theorem dX11_leads_18 : decode cX11_leads 18 = .ok (.ifCond .ne 6, 3) := by decide +kernel
theorem dX11_leads_21 : decode cX11_leads 21 = .ok (.bipush (-2), 2) := by decide +kernel
theorem dX11_leads_23 : decode cX11_leads 23 = .ok (.ireturn, 1) := by decide +kernel
theorem dX11_leads_24 : decode cX11_leads 24 = .ok (.iconst 0, 1) := by decide +kernel
theorem dX11_leads_25 : decode cX11_leads 25 = .ok (.istore_n 2, 1) := by decide +kernel
theorem dX11_leads_26 : decode cX11_leads 26 = .ok (.iconst 1, 1) := by decide +kernel
theorem dX11_leads_27 : decode cX11_leads 27 = .ok (.istore_n 3, 1) := by decide +kernel
theorem dX11_leads_28 : decode cX11_leads 28 = .ok (.iload_n 3, 1) := by decide +kernel
theorem dX11_leads_29 : decode cX11_leads 29 = .ok (.aload_n 0, 1) := by decide +kernel
theorem dX11_leads_30 : decode cX11_leads 30 = .ok (.getfield 75, 3) := by decide +kernel
theorem dX11_leads_33 : decode cX11_leads 33 = .ok (.if_icmp .ge 27, 3) := by decide +kernel
theorem dX11_leads_36 : decode cX11_leads 36 = .ok (.aload_n 0, 1) := by decide +kernel
theorem dX11_leads_37 : decode cX11_leads 37 = .ok (.iload_n 1, 1) := by decide +kernel
theorem dX11_leads_38 : decode cX11_leads 38 = .ok (.iload_n 3, 1) := by decide +kernel
theorem dX11_leads_39 : decode cX11_leads 39 = .ok (.invokevirtual 309, 3) := by decide +kernel
theorem dX11_leads_42 : decode cX11_leads 42 = .ok (.aload_n 0, 1) := by decide +kernel
theorem dX11_leads_43 : decode cX11_leads 43 = .ok (.iload_n 1, 1) := by decide +kernel
theorem dX11_leads_44 : decode cX11_leads 44 = .ok (.iload_n 2, 1) := by decide +kernel
theorem dX11_leads_45 : decode cX11_leads 45 = .ok (.invokevirtual 309, 3) := by decide +kernel
theorem dX11_leads_48 : decode cX11_leads 48 = .ok (.lcmp, 1) := by decide +kernel
theorem dX11_leads_49 : decode cX11_leads 49 = .ok (.ifCond .le 5, 3) := by decide +kernel
theorem dX11_leads_52 : decode cX11_leads 52 = .ok (.iload_n 3, 1) := by decide +kernel
theorem dX11_leads_53 : decode cX11_leads 53 = .ok (.istore_n 2, 1) := by decide +kernel
theorem dX11_leads_54 : decode cX11_leads 54 = .ok (.iinc 3 1, 3) := by decide +kernel
theorem dX11_leads_57 : decode cX11_leads 57 = .ok (.goto (-29), 3) := by decide +kernel
theorem dX11_leads_60 : decode cX11_leads 60 = .ok (.aload_n 0, 1) := by decide +kernel
theorem dX11_leads_61 : decode cX11_leads 61 = .ok (.iconst 0, 1) := by decide +kernel
theorem dX11_leads_62 : decode cX11_leads 62 = .ok (.putfield 100, 3) := by decide +kernel
theorem dX11_leads_65 : decode cX11_leads 65 = .ok (.aload_n 0, 1) := by decide +kernel
theorem dX11_leads_66 : decode cX11_leads 66 = .ok (.aload_n 0, 1) := by decide +kernel
theorem dX11_leads_67 : decode cX11_leads 67 = .ok (.iload_n 1, 1) := by decide +kernel
theorem dX11_leads_68 : decode cX11_leads 68 = .ok (.iload_n 2, 1) := by decide +kernel
theorem dX11_leads_69 : decode cX11_leads 69 = .ok (.invokevirtual 309, 3) := by decide +kernel
theorem dX11_leads_72 : decode cX11_leads 72 = .ok (.invokevirtual 305, 3) := by decide +kernel
theorem dX11_leads_75 : decode cX11_leads 75 = .ok (.iload_n 2, 1) := by decide +kernel
theorem dX11_leads_76 : decode cX11_leads 76 = .ok (.ireturn, 1) := by decide +kernel
set_option maxRecDepth 20000 in
theorem ggX11_above_X11_isMonth : GoodIn wsX11_above wsX11_isMonth := goodIn_r _ [7, 8, 9, 10, 6, 11] rfl (by decide +kernel)
set_option maxRecDepth 20000 in
theorem gX11_above_X11_isMonth : GoodIn wsX11_above (va_wsS RX11 152 yX11_isMonth wsX11_isMonth) := goodIn_app (goodIn_of _ (by decide +kernel)) ggX11_above_X11_isMonth
set_option maxRecDepth 20000 in
theorem ggX11_above_X11_doneOf : GoodIn wsX11_above wsX11_doneOf := goodIn_r _ [15, 16, 36, 37, 38, 39, 40, 41, 42, 43, 44, 45, 46, 47, 48, 49, 50, 51, 52, 53, 54, 55, 56, 57, 58, 59, 60, 61, 62, 63, 64, 65, 66, 67, 68, 69, 70] rfl (by decide +kernel)
set_option maxRecDepth 20000 in
theorem gX11_above_X11_doneOf : GoodIn wsX11_above (wsV RX11 165 RX11 yX11_doneOf wsX11_doneOf) := goodIn_app (goodIn_of _ (by decide +kernel)) ggX11_above_X11_doneOf
set_option maxRecDepth 20000 in
theorem ggX11_above_X11_quantity : GoodIn wsX11_above wsX11_quantity := goodIn_r _ [20, 21, 36, 37, 38, 39, 40, 41, 42, 43, 44, 45, 46, 47, 48, 49, 50, 51, 52, 53, 54, 55, 56, 57, 58, 59, 60, 61, 62, 63, 64, 65, 66, 67, 68, 69, 70] rfl (by decide +kernel)
set_option maxRecDepth 20000 in
theorem gX11_above_X11_quantity : GoodIn wsX11_above (wsV RX11 214 RX11 yX11_quantity wsX11_quantity) := goodIn_app (goodIn_of _ (by decide +kernel)) ggX11_above_X11_quantity
set_option maxRecDepth 20000 in
theorem ggX11_above_X11_cap : GoodIn wsX11_above wsX11_cap := goodIn_r _ [25, 26, 17, 18, 19, 6, 20, 21, 27, 28, 29, 30, 36, 37, 38, 39, 40, 41, 42, 43, 44, 45, 46, 47, 48, 49, 50, 51, 52, 53, 54, 55, 56, 57, 58, 59, 60, 61, 62, 63, 64, 65, 66, 67, 68, 69, 70] rfl (by decide +kernel)
set_option maxRecDepth 20000 in
theorem gX11_above_X11_cap : GoodIn wsX11_above (wsV RX11 224 RX11 yX11_cap wsX11_cap) := goodIn_app (goodIn_of _ (by decide +kernel)) ggX11_above_X11_cap
set_option maxRecDepth 20000 in
theorem ggX11_above_X11_tell : GoodIn wsX11_above wsX11_tell := goodIn_r _ [34, 35, 3, 36, 37, 38, 39, 40, 41, 42, 43, 44, 45, 46, 47, 48, 49, 50, 51, 52, 53, 54, 55, 56, 57, 58, 59, 60, 61, 62, 63, 64, 65, 66, 67, 68, 69, 70] rfl (by decide +kernel)
set_option maxRecDepth 20000 in
theorem gX11_above_X11_tell : GoodIn wsX11_above (wsV RX11 305 RX11 yX11_tell wsX11_tell) := goodIn_app (goodIn_of _ (by decide +kernel)) ggX11_above_X11_tell
theorem dX11_above_0 : decode cX11_above 0 = .ok (.aload_n 0, 1) := by decide +kernel
theorem dX11_above_1 : decode cX11_above 1 = .ok (.iconst 0, 1) := by decide +kernel
theorem dX11_above_2 : decode cX11_above 2 = .ok (.putfield 97, 3) := by decide +kernel
theorem dX11_above_5 : decode cX11_above 5 = .ok (.iload_n 1, 1) := by decide +kernel
theorem dX11_above_6 : decode cX11_above 6 = .ok (.invokestatic 152, 3) := by decide +kernel
theorem dX11_above_9 : decode cX11_above 9 = .ok (.ifCond .ne 5, 3) := by decide +kernel
theorem dX11_above_12 : decode cX11_above 12 = .ok (.iconst (-1), 1) := by decide +kernel
theorem dX11_above_13 : decode cX11_above 13 = .ok (.ireturn, 1) := by decide +kernel
theorem dX11_above_14 : decode cX11_above 14 = .ok (.iconst 0, 1) := by decide +kernel
theorem dX11_above_15 : decode cX11_above 15 = .ok (.istore_n 2, 1) := by decide +kernel
theorem dX11_above_16 : decode cX11_above 16 = .ok (.iconst 0, 1) := by decide +kernel
theorem dX11_above_17 : decode cX11_above 17 = .ok (.istore_n 3, 1) := by decide +kernel
theorem dX11_above_18 : decode cX11_above 18 = .ok (.iconst 0, 1) := by decide +kernel
theorem dX11_above_19 : decode cX11_above 19 = .ok (.istore 4, 2) := by decide +kernel
theorem dX11_above_21 : decode cX11_above 21 = .ok (.iconst 0, 1) := by decide +kernel
theorem dX11_above_22 : decode cX11_above 22 = .ok (.istore 5, 2) := by decide +kernel
theorem dX11_above_24 : decode cX11_above 24 = .ok (.iload 5, 2) := by decide +kernel
theorem dX11_above_26 : decode cX11_above 26 = .ok (.aload_n 0, 1) := by decide +kernel
theorem dX11_above_27 : decode cX11_above 27 = .ok (.getfield 75, 3) := by decide +kernel
theorem dX11_above_30 : decode cX11_above 30 = .ok (.if_icmp .ge 93, 3) := by decide +kernel
theorem dX11_above_33 : decode cX11_above 33 = .ok (.aload_n 0, 1) := by decide +kernel
theorem dX11_above_34 : decode cX11_above 34 = .ok (.iload_n 1, 1) := by decide +kernel
theorem dX11_above_35 : decode cX11_above 35 = .ok (.iload 5, 2) := by decide +kernel
theorem dX11_above_37 : decode cX11_above 37 = .ok (.invokevirtual 165, 3) := by decide +kernel
theorem dX11_above_40 : decode cX11_above 40 = .ok (.istore 6, 2) := by decide +kernel
theorem dX11_above_42 : decode cX11_above 42 = .ok (.iload_n 2, 1) := by decide +kernel
theorem dX11_above_43 : decode cX11_above 43 = .ok (.iload 6, 2) := by decide +kernel
theorem dX11_above_45 : decode cX11_above 45 = .ok (.aload_n 0, 1) := by decide +kernel
theorem dX11_above_46 : decode cX11_above 46 = .ok (.iload 5, 2) := by decide +kernel
theorem dX11_above_48 : decode cX11_above 48 = .ok (.invokevirtual 214, 3) := by decide +kernel
theorem dX11_above_51 : decode cX11_above 51 = .ok (.if_icmp .le 10, 3) := by decide +kernel
theorem dX11_above_54 : decode cX11_above 54 = .ok (.iconst 1, 1) := by decide +kernel
theorem dX11_above_55 : decode cX11_above 55 = .ok (.iload 5, 2) := by decide +kernel
theorem dX11_above_57 : decode cX11_above 57 = .ok (.ishl, 1) := by decide +kernel
theorem dX11_above_58 : decode cX11_above 58 = .ok (.goto 4, 3) := by decide +kernel
theorem dX11_above_61 : decode cX11_above 61 = .ok (.iconst 0, 1) := by decide +kernel
theorem dX11_above_62 : decode cX11_above 62 = .ok (.ior, 1) := by decide +kernel
theorem dX11_above_63 : decode cX11_above 63 = .ok (.istore_n 2, 1) := by decide +kernel
theorem dX11_above_64 : decode cX11_above 64 = .ok (.iload_n 3, 1) := by decide +kernel
theorem dX11_above_65 : decode cX11_above 65 = .ok (.iload 6, 2) := by decide +kernel
theorem dX11_above_67 : decode cX11_above 67 = .ok (.aload_n 0, 1) := by decide +kernel
theorem dX11_above_68 : decode cX11_above 68 = .ok (.iload 5, 2) := by decide +kernel
theorem dX11_above_70 : decode cX11_above 70 = .ok (.invokevirtual 224, 3) := by decide +kernel
theorem dX11_above_73 : decode cX11_above 73 = .ok (.if_icmp .le 10, 3) := by decide +kernel
theorem dX11_above_76 : decode cX11_above 76 = .ok (.iconst 1, 1) := by decide +kernel
theorem dX11_above_77 : decode cX11_above 77 = .ok (.iload 5, 2) := by decide +kernel
theorem dX11_above_79 : decode cX11_above 79 = .ok (.ishl, 1) := by decide +kernel
theorem dX11_above_80 : decode cX11_above 80 = .ok (.goto 4, 3) := by decide +kernel
theorem dX11_above_83 : decode cX11_above 83 = .ok (.iconst 0, 1) := by decide +kernel
theorem dX11_above_84 : decode cX11_above 84 = .ok (.ior, 1) := by decide +kernel
theorem dX11_above_85 : decode cX11_above 85 = .ok (.istore_n 3, 1) := by decide +kernel
theorem dX11_above_86 : decode cX11_above 86 = .ok (.iload 4, 2) := by decide +kernel
theorem dX11_above_88 : decode cX11_above 88 = .ok (.iload_n 1, 1) := by decide +kernel
theorem dX11_above_89 : decode cX11_above 89 = .ok (.ifCond .le 24, 3) := by decide +kernel
theorem dX11_above_92 : decode cX11_above 92 = .ok (.iload 6, 2) := by decide +kernel
theorem dX11_above_94 : decode cX11_above 94 = .ok (.aload_n 0, 1) := by decide +kernel
theorem dX11_above_95 : decode cX11_above 95 = .ok (.iload_n 1, 1) := by decide +kernel
theorem dX11_above_96 : decode cX11_above 96 = .ok (.iconst 1, 1) := by decide +kernel
theorem dX11_above_97 : decode cX11_above 97 = .ok (.isub, 1) := by decide +kernel
theorem dX11_above_98 : decode cX11_above 98 = .ok (.iload 5, 2) := by decide +kernel
theorem dX11_above_100 : decode cX11_above 100 = .ok (.invokevirtual 165, 3) := by decide +kernel
theorem dX11_above_103 : decode cX11_above 103 = .ok (.if_icmp .ge 10, 3) := by decide +kernel
theorem dX11_above_106 : decode cX11_above 106 = .ok (.iconst 1, 1) := by decide +kernel
theorem dX11_above_107 : decode cX11_above 107 = .ok (.iload 5, 2) := by decide +kernel
theorem dX11_above_109 : decode cX11_above 109 = .ok (.ishl, 1) := by decide +kernel
theorem dX11_above_110 : decode cX11_above 110 = .ok (.goto 4, 3) := by decide +kernel
theorem dX11_above_113 : decode cX11_above 113 = .ok (.iconst 0, 1) := by decide +kernel
theorem dX11_above_114 : decode cX11_above 114 = .ok (.ior, 1) := by decide +kernel
theorem dX11_above_115 : decode cX11_above 115 = .ok (.istore 4, 2) := by decide +kernel
theorem dX11_above_117 : decode cX11_above 117 = .ok (.iinc 5 1, 3) := by decide +kernel
theorem dX11_above_120 : decode cX11_above 120 = .ok (.goto (-96), 3) := by decide +kernel
theorem dX11_above_123 : decode cX11_above 123 = .ok (.aload_n 0, 1) := by decide +kernel
theorem dX11_above_124 : decode cX11_above 124 = .ok (.iconst 0, 1) := by decide +kernel
theorem dX11_above_125 : decode cX11_above 125 = .ok (.putfield 100, 3) := by decide +kernel
theorem dX11_above_128 : decode cX11_above 128 = .ok (.aload_n 0, 1) := by decide +kernel
theorem dX11_above_129 : decode cX11_above 129 = .ok (.iload_n 3, 1) := by decide +kernel
theorem dX11_above_130 : decode cX11_above 130 = .ok (.i2l, 1) := by decide +kernel
theorem dX11_above_131 : decode cX11_above 131 = .ok (.invokevirtual 305, 3) := by decide +kernel
theorem dX11_above_134 : decode cX11_above 134 = .ok (.aload_n 0, 1) := by decide +kernel
theorem dX11_above_135 : decode cX11_above 135 = .ok (.iload 4, 2) := by decide +kernel
theorem dX11_above_137 : decode cX11_above 137 = .ok (.i2l, 1) := by decide +kernel
theorem dX11_above_138 : decode cX11_above 138 = .ok (.invokevirtual 305, 3) := by decide +kernel
theorem dX11_above_141 : decode cX11_above 141 = .ok (.iload_n 2, 1) := by decide +kernel
theorem dX11_above_142 : decode cX11_above 142 = .ok (.ireturn, 1) := by decide +kernel
set_option maxRecDepth 20000 in
theorem ggX11_like_X11_isKind : GoodIn wsX11_like wsX11_isKind := goodIn_r _ [15, 16, 17, 18, 14, 19] rfl (by decide +kernel)
set_option maxRecDepth 20000 in
theorem gX11_like_X11_isKind : GoodIn wsX11_like (va_wsS RX11 180 yX11_isKind wsX11_isKind) := goodIn_app (goodIn_of _ (by decide +kernel)) ggX11_like_X11_isKind
set_option maxRecDepth 20000 in
theorem ggX11_like_X11_in : GoodIn wsX11_like wsX11_in := goodIn_r _ [19] rfl (by decide +kernel)
set_option maxRecDepth 20000 in
theorem gX11_like_X11_in : GoodIn wsX11_like (va_wsS RX11 105 yX11_in wsX11_in) := goodIn_app (goodIn_of _ (by decide +kernel)) ggX11_like_X11_in
set_option maxRecDepth 20000 in
theorem ggX11_like_X11_kind : GoodIn wsX11_like wsX11_kind := goodIn_r _ [23, 24, 46, 47, 48, 49, 50, 51, 52, 53, 54, 55, 56, 57, 58, 59, 60, 61, 62, 63, 64, 65, 66, 67, 68, 69, 70, 71, 72, 73, 74, 75, 76, 77, 78, 79, 80] rfl (by decide +kernel)
set_option maxRecDepth 20000 in
theorem gX11_like_X11_kind : GoodIn wsX11_like (wsV RX11 232 RX11 yX11_kind wsX11_kind) := goodIn_app (goodIn_of _ (by decide +kernel)) ggX11_like_X11_kind
set_option maxRecDepth 20000 in
theorem ggX11_like_X11_rate : GoodIn wsX11_like wsX11_rate := goodIn_r _ [28, 24, 46, 47, 48, 49, 50, 51, 52, 53, 54, 55, 56, 57, 58, 59, 60, 61, 62, 63, 64, 65, 66, 67, 68, 69, 70, 71, 72, 73, 74, 75, 76, 77, 78, 79, 80] rfl (by decide +kernel)
set_option maxRecDepth 20000 in
theorem gX11_like_X11_rate : GoodIn wsX11_like (wsV RX11 217 RX11 yX11_rate wsX11_rate) := goodIn_app (goodIn_of _ (by decide +kernel)) ggX11_like_X11_rate
set_option maxRecDepth 20000 in
theorem ggX11_like_X11_likeBits : GoodIn wsX11_like wsX11_likeBits := goodIn_r _ [32, 3, 20, 21, 22, 14, 23, 24, 46, 47, 48, 49, 50, 51, 52, 53, 54, 55, 56, 57, 58, 59, 60, 61, 62, 63, 64, 65, 66, 67, 68, 69, 70, 71, 72, 73, 74, 75, 76, 77, 78, 79, 80] rfl (by decide +kernel)
set_option maxRecDepth 20000 in
theorem gX11_like_X11_likeBits : GoodIn wsX11_like (wsV RX11 312 RX11 yX11_likeBits wsX11_likeBits) := goodIn_app (goodIn_of _ (by decide +kernel)) ggX11_like_X11_likeBits
set_option maxRecDepth 20000 in
theorem ggX11_like_X11_tell : GoodIn wsX11_like wsX11_tell := goodIn_r _ [36, 37, 11, 46, 47, 48, 49, 50, 51, 52, 53, 54, 55, 56, 57, 58, 59, 60, 61, 62, 63, 64, 65, 66, 67, 68, 69, 70, 71, 72, 73, 74, 75, 76, 77, 78, 79, 80] rfl (by decide +kernel)
set_option maxRecDepth 20000 in
theorem gX11_like_X11_tell : GoodIn wsX11_like (wsV RX11 305 RX11 yX11_tell wsX11_tell) := goodIn_app (goodIn_of _ (by decide +kernel)) ggX11_like_X11_tell
set_option maxRecDepth 20000 in
theorem ggX11_like_X11_priceOf : GoodIn wsX11_like wsX11_priceOf := goodIn_r _ [41, 3, 20, 21, 22, 14, 23, 24, 42, 43, 44, 45, 25, 26, 27, 28, 46, 47, 48, 49, 50, 51, 52, 53, 54, 55, 56, 57, 58, 59, 60, 61, 62, 63, 64, 65, 66, 67, 68, 69, 70, 71, 72, 73, 74, 75, 76, 77, 78, 79, 80] rfl (by decide +kernel)
set_option maxRecDepth 20000 in
theorem gX11_like_X11_priceOf : GoodIn wsX11_like (wsV RX11 235 RX11 yX11_priceOf wsX11_priceOf) := goodIn_app (goodIn_of _ (by decide +kernel)) ggX11_like_X11_priceOf
theorem dX11_like_0 : decode cX11_like 0 = .ok (.aload_n 0, 1) := by decide +kernel
theorem dX11_like_1 : decode cX11_like 1 = .ok (.iconst 0, 1) := by decide +kernel
theorem dX11_like_2 : decode cX11_like 2 = .ok (.putfield 97, 3) := by decide +kernel
theorem dX11_like_5 : decode cX11_like 5 = .ok (.iload_n 1, 1) := by decide +kernel
theorem dX11_like_6 : decode cX11_like 6 = .ok (.invokestatic 180, 3) := by decide +kernel
theorem dX11_like_9 : decode cX11_like 9 = .ok (.ifCond .eq 15, 3) := by decide +kernel
theorem dX11_like_12 : decode cX11_like 12 = .ok (.iload_n 2, 1) := by decide +kernel
theorem dX11_like_13 : decode cX11_like 13 = .ok (.i2l, 1) := by decide +kernel
theorem dX11_like_14 : decode cX11_like 14 = .ok (.lconst 0, 1) := by decide +kernel
theorem dX11_like_15 : decode cX11_like 15 = .ok (.ldc2_w 178, 3) := by decide +kernel
theorem dX11_like_18 : decode cX11_like 18 = .ok (.invokestatic 105, 3) := by decide +kernel
theorem dX11_like_21 : decode cX11_like 21 = .ok (.ifCond .ne 5, 3) := by decide +kernel
theorem dX11_like_24 : decode cX11_like 24 = .ok (.iconst (-1), 1) := by decide +kernel
theorem dX11_like_25 : decode cX11_like 25 = .ok (.ireturn, 1) := by decide +kernel
theorem dX11_like_26 : decode cX11_like 26 = .ok (.iconst 0, 1) := by decide +kernel
theorem dX11_like_27 : decode cX11_like 27 = .ok (.istore_n 3, 1) := by decide +kernel
theorem dX11_like_28 : decode cX11_like 28 = .ok (.iconst 0, 1) := by decide +kernel
theorem dX11_like_29 : decode cX11_like 29 = .ok (.istore 4, 2) := by decide +kernel
theorem dX11_like_31 : decode cX11_like 31 = .ok (.iconst 0, 1) := by decide +kernel
theorem dX11_like_32 : decode cX11_like 32 = .ok (.istore 5, 2) := by decide +kernel
theorem dX11_like_34 : decode cX11_like 34 = .ok (.iload 5, 2) := by decide +kernel
theorem dX11_like_36 : decode cX11_like 36 = .ok (.aload_n 0, 1) := by decide +kernel
theorem dX11_like_37 : decode cX11_like 37 = .ok (.getfield 75, 3) := by decide +kernel
theorem dX11_like_40 : decode cX11_like 40 = .ok (.if_icmp .ge 59, 3) := by decide +kernel
theorem dX11_like_43 : decode cX11_like 43 = .ok (.aload_n 0, 1) := by decide +kernel
theorem dX11_like_44 : decode cX11_like 44 = .ok (.iload 5, 2) := by decide +kernel
theorem dX11_like_46 : decode cX11_like 46 = .ok (.invokevirtual 232, 3) := by decide +kernel
theorem dX11_like_49 : decode cX11_like 49 = .ok (.iload_n 1, 1) := by decide +kernel
theorem dX11_like_50 : decode cX11_like 50 = .ok (.if_icmp .eq 6, 3) := by decide +kernel
theorem dX11_like_53 : decode cX11_like 53 = .ok (.goto 40, 3) := by decide +kernel
theorem dX11_like_56 : decode cX11_like 56 = .ok (.iload_n 3, 1) := by decide +kernel
theorem dX11_like_57 : decode cX11_like 57 = .ok (.ifCond .ne 12, 3) := by decide +kernel
theorem dX11_like_60 : decode cX11_like 60 = .ok (.aload_n 0, 1) := by decide +kernel
theorem dX11_like_61 : decode cX11_like 61 = .ok (.iload 5, 2) := by decide +kernel
theorem dX11_like_63 : decode cX11_like 63 = .ok (.invokevirtual 217, 3) := by decide +kernel
theorem dX11_like_66 : decode cX11_like 66 = .ok (.goto 13, 3) := by decide +kernel
theorem dX11_like_69 : decode cX11_like 69 = .ok (.iload_n 3, 1) := by decide +kernel
theorem dX11_like_70 : decode cX11_like 70 = .ok (.aload_n 0, 1) := by decide +kernel
theorem dX11_like_71 : decode cX11_like 71 = .ok (.iload 5, 2) := by decide +kernel
theorem dX11_like_73 : decode cX11_like 73 = .ok (.invokevirtual 217, 3) := by decide +kernel
theorem dX11_like_76 : decode cX11_like 76 = .ok (.invokestatic 265, 3) := by decide +kernel
theorem dX11_like_79 : decode cX11_like 79 = .ok (.istore_n 3, 1) := by decide +kernel
theorem dX11_like_80 : decode cX11_like 80 = .ok (.iload 4, 2) := by decide +kernel
theorem dX11_like_82 : decode cX11_like 82 = .ok (.aload_n 0, 1) := by decide +kernel
theorem dX11_like_83 : decode cX11_like 83 = .ok (.iload 5, 2) := by decide +kernel
theorem dX11_like_85 : decode cX11_like 85 = .ok (.invokevirtual 217, 3) := by decide +kernel
theorem dX11_like_88 : decode cX11_like 88 = .ok (.invokestatic 227, 3) := by decide +kernel
theorem dX11_like_91 : decode cX11_like 91 = .ok (.istore 4, 2) := by decide +kernel
theorem dX11_like_93 : decode cX11_like 93 = .ok (.iinc 5 1, 3) := by decide +kernel
theorem dX11_like_96 : decode cX11_like 96 = .ok (.goto (-62), 3) := by decide +kernel
theorem dX11_like_99 : decode cX11_like 99 = .ok (.aload_n 0, 1) := by decide +kernel
theorem dX11_like_100 : decode cX11_like 100 = .ok (.iconst 0, 1) := by decide +kernel
theorem dX11_like_101 : decode cX11_like 101 = .ok (.putfield 100, 3) := by decide +kernel
theorem dX11_like_104 : decode cX11_like 104 = .ok (.aload_n 0, 1) := by decide +kernel
theorem dX11_like_105 : decode cX11_like 105 = .ok (.aload_n 0, 1) := by decide +kernel
theorem dX11_like_106 : decode cX11_like 106 = .ok (.iload_n 1, 1) := by decide +kernel
theorem dX11_like_107 : decode cX11_like 107 = .ok (.invokevirtual 312, 3) := by decide +kernel
theorem dX11_like_110 : decode cX11_like 110 = .ok (.i2l, 1) := by decide +kernel
theorem dX11_like_111 : decode cX11_like 111 = .ok (.invokevirtual 305, 3) := by decide +kernel
theorem dX11_like_114 : decode cX11_like 114 = .ok (.aload_n 0, 1) := by decide +kernel
theorem dX11_like_115 : decode cX11_like 115 = .ok (.iload_n 3, 1) := by decide +kernel
theorem dX11_like_116 : decode cX11_like 116 = .ok (.i2l, 1) := by decide +kernel
theorem dX11_like_117 : decode cX11_like 117 = .ok (.invokevirtual 305, 3) := by decide +kernel
theorem dX11_like_120 : decode cX11_like 120 = .ok (.aload_n 0, 1) := by decide +kernel
theorem dX11_like_121 : decode cX11_like 121 = .ok (.iload 4, 2) := by decide +kernel
theorem dX11_like_123 : decode cX11_like 123 = .ok (.i2l, 1) := by decide +kernel
theorem dX11_like_124 : decode cX11_like 124 = .ok (.invokevirtual 305, 3) := by decide +kernel
theorem dX11_like_127 : decode cX11_like 127 = .ok (.aload_n 0, 1) := by decide +kernel
theorem dX11_like_128 : decode cX11_like 128 = .ok (.iload_n 1, 1) := by decide +kernel
theorem dX11_like_129 : decode cX11_like 129 = .ok (.iload_n 2, 1) := by decide +kernel
theorem dX11_like_130 : decode cX11_like 130 = .ok (.invokevirtual 235, 3) := by decide +kernel
theorem dX11_like_133 : decode cX11_like 133 = .ok (.ireturn, 1) := by decide +kernel
set_option maxRecDepth 20000 in
theorem ggX11_would_X11_isTerm : GoodIn wsX11_would wsX11_isTerm := goodIn_r _ [6, 7, 8, 9, 5, 10, 11, 12, 13] rfl (by decide +kernel)
set_option maxRecDepth 20000 in
theorem gX11_would_X11_isTerm : GoodIn wsX11_would (va_wsS RX11 148 yX11_isTerm wsX11_isTerm) := goodIn_app (goodIn_of _ (by decide +kernel)) ggX11_would_X11_isTerm
set_option maxRecDepth 20000 in
theorem ggX11_would_X11_layAside : GoodIn wsX11_would wsX11_layAside := goodIn_r _ [17, 18, 19, 20, 21, 22, 23, 24, 25, 5, 26, 2, 27, 28, 29, 30, 31, 32, 33, 34, 35, 36, 37, 38, 39, 40, 41, 42, 43, 44, 45, 46, 47, 48, 49, 50, 51, 52, 53, 54, 55, 56, 57, 58, 59, 60, 61, 62, 63, 64, 65, 66, 67, 68, 69, 70, 71, 72, 73, 74, 75, 76, 77, 78, 79, 80, 81, 82, 83, 84, 85, 86, 87, 88, 89, 90, 91, 92, 93, 94, 95, 96, 97, 98, 99, 100, 101, 102, 103, 104, 105, 106, 107, 108, 109, 110, 111, 112, 113, 114, 115, 116, 117, 118, 119, 120, 121, 122, 123, 124, 125, 126, 127, 128, 129, 130, 131, 132, 133, 134, 135, 136, 137, 138, 139, 140, 141, 142, 143, 144, 145, 146, 147, 148, 149, 150, 151, 152, 153, 154, 155, 156, 157, 158, 159, 160, 161, 162, 163, 164, 165, 166, 177, 178, 179, 180, 181, 182, 183, 184, 185, 186, 187, 188, 189, 190, 191, 192, 193, 194, 195, 196, 197, 198, 199, 200, 201, 202, 203, 204, 205, 206, 207, 208, 209, 210, 211] rfl (by decide +kernel)
set_option maxRecDepth 20000 in
theorem gX11_would_X11_layAside : GoodIn wsX11_would (wsV RX11 349 RX11 yX11_layAside wsX11_layAside) := goodIn_app (goodIn_of _ (by decide +kernel)) ggX11_would_X11_layAside
set_option maxRecDepth 20000 in
theorem ggX11_would_X11_tellMore : GoodIn wsX11_would wsX11_tellMore := goodIn_r _ [170, 171, 20, 21, 22, 23, 24, 25, 5, 26, 2, 27, 28, 29, 30, 31, 32, 33, 34, 35, 36, 37, 38, 19, 39, 40, 41, 42, 43, 44, 45, 46, 47, 48, 49, 50, 51, 52, 53, 54, 55, 56, 57, 58, 59, 60, 61, 62, 63, 64, 65, 66, 67, 68, 69, 70, 71, 72, 73, 74, 75, 76, 77, 78, 79, 80, 81, 82, 83, 84, 85, 86, 87, 88, 89, 90, 91, 92, 93, 94, 95, 96, 97, 98, 99, 100, 101, 102, 103, 104, 105, 106, 107, 108, 109, 110, 111, 112, 113, 114, 115, 116, 117, 118, 119, 120, 121, 122, 123, 124, 125, 126, 127, 128, 129, 130, 131, 132, 133, 134, 135, 136, 137, 138, 139, 140, 141, 142, 143, 144, 145, 146, 147, 148, 149, 150, 151, 152, 153, 154, 155, 156, 157, 158, 172, 173, 174, 175, 176, 159, 160, 161, 162, 163, 164, 165, 166, 177, 178, 179, 180, 181, 182, 183, 184, 185, 186, 187, 188, 189, 190, 191, 192, 193, 194, 195, 196, 197, 198, 199, 200, 201, 202, 203, 204, 205, 206, 207, 208, 209, 210, 211] rfl (by decide +kernel)
set_option maxRecDepth 20000 in
theorem gX11_would_X11_tellMore : GoodIn wsX11_would (wsV RX11 352 RX11 yX11_tellMore wsX11_tellMore) := goodIn_app (goodIn_of _ (by decide +kernel)) ggX11_would_X11_tellMore
theorem dX11_would_0 : decode cX11_would 0 = .ok (.aload_n 0, 1) := by decide +kernel
theorem dX11_would_1 : decode cX11_would 1 = .ok (.iconst 0, 1) := by decide +kernel
theorem dX11_would_2 : decode cX11_would 2 = .ok (.putfield 97, 3) := by decide +kernel
theorem dX11_would_5 : decode cX11_would 5 = .ok (.iload_n 1, 1) := by decide +kernel
theorem dX11_would_6 : decode cX11_would 6 = .ok (.iload_n 2, 1) := by decide +kernel
theorem dX11_would_7 : decode cX11_would 7 = .ok (.invokestatic 148, 3) := by decide +kernel
theorem dX11_would_10 : decode cX11_would 10 = .ok (.ifCond .ne 5, 3) := by decide +kernel
theorem dX11_would_13 : decode cX11_would 13 = .ok (.iconst (-1), 1) := by decide +kernel
theorem dX11_would_14 : decode cX11_would 14 = .ok (.ireturn, 1) := by decide +kernel
theorem dX11_would_15 : decode cX11_would 15 = .ok (.aload_n 0, 1) := by decide +kernel
theorem dX11_would_16 : decode cX11_would 16 = .ok (.getfield 7, 3) := by decide +kernel
theorem dX11_would_19 : decode cX11_would 19 = .ok (.iload_n 1, 1) := by decide +kernel
theorem dX11_would_20 : decode cX11_would 20 = .ok (.iaload, 1) := by decide +kernel
theorem dX11_would_21 : decode cX11_would 21 = .ok (.istore_n 3, 1) := by decide +kernel
theorem dX11_would_22 : decode cX11_would 22 = .ok (.aload_n 0, 1) := by decide +kernel
theorem dX11_would_23 : decode cX11_would 23 = .ok (.invokevirtual 349, 3) := by decide +kernel
theorem dX11_would_26 : decode cX11_would 26 = .ok (.aload_n 0, 1) := by decide +kernel
theorem dX11_would_27 : decode cX11_would 27 = .ok (.getfield 7, 3) := by decide +kernel
theorem dX11_would_30 : decode cX11_would 30 = .ok (.iload_n 1, 1) := by decide +kernel
theorem dX11_would_31 : decode cX11_would 31 = .ok (.iload_n 2, 1) := by decide +kernel
theorem dX11_would_32 : decode cX11_would 32 = .ok (.iastore, 1) := by decide +kernel
theorem dX11_would_33 : decode cX11_would 33 = .ok (.aload_n 0, 1) := by decide +kernel
theorem dX11_would_34 : decode cX11_would 34 = .ok (.invokevirtual 352, 3) := by decide +kernel
theorem dX11_would_37 : decode cX11_would 37 = .ok (.aload_n 0, 1) := by decide +kernel
theorem dX11_would_38 : decode cX11_would 38 = .ok (.getfield 7, 3) := by decide +kernel
theorem dX11_would_41 : decode cX11_would 41 = .ok (.iload_n 1, 1) := by decide +kernel
theorem dX11_would_42 : decode cX11_would 42 = .ok (.iload_n 3, 1) := by decide +kernel
theorem dX11_would_43 : decode cX11_would 43 = .ok (.iastore, 1) := by decide +kernel
theorem dX11_would_44 : decode cX11_would 44 = .ok (.iconst 0, 1) := by decide +kernel
theorem dX11_would_45 : decode cX11_would 45 = .ok (.ireturn, 1) := by decide +kernel
set_option maxRecDepth 20000 in
theorem ggX11_keeps_X11_retainedIn : GoodIn wsX11_keeps wsX11_retainedIn := goodIn_r _ [12, 13, 3, 4, 5, 6, 2, 14, 15, 16, 17, 18, 19, 20, 11, 21, 22, 23, 24, 25, 26, 27, 28, 29, 30, 31, 32, 33, 34, 35, 36, 37, 38, 39, 40, 41, 42, 43, 44, 45, 46, 47, 48, 49, 50, 51, 52, 53, 54, 55, 56, 57, 58, 59, 60, 61, 62, 63, 64, 65, 66, 67, 68, 69, 70, 71, 72, 73, 74, 75, 76, 77, 83, 84, 85, 86, 87, 88, 89, 90, 91, 92, 93, 94, 95, 96, 97, 98, 99, 100, 101, 102, 103, 104, 105, 106, 107, 108, 109, 110, 111, 112, 113, 114, 115, 116, 117] rfl (by decide +kernel)
set_option maxRecDepth 20000 in
theorem gX11_keeps_X11_retainedIn : GoodIn wsX11_keeps (wsV RX11 279 RX11 yX11_retainedIn wsX11_retainedIn) := goodIn_app (goodIn_of _ (by decide +kernel)) ggX11_keeps_X11_retainedIn
set_option maxRecDepth 20000 in
theorem ggX11_keeps_X11_tell : GoodIn wsX11_keeps wsX11_tell := goodIn_r _ [81, 82, 7, 83, 84, 85, 86, 87, 88, 89, 90, 91, 92, 93, 94, 95, 96, 97, 98, 99, 100, 101, 102, 103, 104, 105, 106, 107, 108, 109, 110, 111, 112, 113, 114, 115, 116, 117] rfl (by decide +kernel)
set_option maxRecDepth 20000 in
theorem gX11_keeps_X11_tell : GoodIn wsX11_keeps (wsV RX11 305 RX11 yX11_tell wsX11_tell) := goodIn_app (goodIn_of _ (by decide +kernel)) ggX11_keeps_X11_tell
theorem dX11_keeps_0 : decode cX11_keeps 0 = .ok (.aload_n 0, 1) := by decide +kernel
theorem dX11_keeps_1 : decode cX11_keeps 1 = .ok (.iconst 0, 1) := by decide +kernel
theorem dX11_keeps_2 : decode cX11_keeps 2 = .ok (.putfield 97, 3) := by decide +kernel
theorem dX11_keeps_5 : decode cX11_keeps 5 = .ok (.iload_n 1, 1) := by decide +kernel
theorem dX11_keeps_6 : decode cX11_keeps 6 = .ok (.iconst 1, 1) := by decide +kernel
theorem dX11_keeps_7 : decode cX11_keeps 7 = .ok (.if_icmp .ge 5, 3) := by decide +kernel
theorem dX11_keeps_10 : decode cX11_keeps 10 = .ok (.iconst (-1), 1) := by decide +kernel
theorem dX11_keeps_11 : decode cX11_keeps 11 = .ok (.ireturn, 1) := by decide +kernel
theorem dX11_keeps_12 : decode cX11_keeps 12 = .ok (.aload_n 0, 1) := by decide +kernel
theorem dX11_keeps_13 : decode cX11_keeps 13 = .ok (.getfield 7, 3) := by decide +kernel
theorem dX11_keeps_16 : decode cX11_keeps 16 = .ok (.iconst 0, 1) := by decide +kernel
theorem dX11_keeps_17 : decode cX11_keeps 17 = .ok (.iaload, 1) := by decide +kernel
theorem dX11_keeps_18 : decode cX11_keeps 18 = .ok (.istore_n 2, 1) := by decide +kernel
theorem dX11_keeps_19 : decode cX11_keeps 19 = .ok (.bipush (-2), 2) := by decide +kernel
theorem dX11_keeps_21 : decode cX11_keeps 21 = .ok (.istore_n 3, 1) := by decide +kernel
theorem dX11_keeps_22 : decode cX11_keeps 22 = .ok (.lconst 0, 1) := by decide +kernel
theorem dX11_keeps_23 : decode cX11_keeps 23 = .ok (.lstore 4, 2) := by decide +kernel
theorem dX11_keeps_25 : decode cX11_keeps 25 = .ok (.iconst 0, 1) := by decide +kernel
theorem dX11_keeps_26 : decode cX11_keeps 26 = .ok (.istore 6, 2) := by decide +kernel
theorem dX11_keeps_28 : decode cX11_keeps 28 = .ok (.iload 6, 2) := by decide +kernel
theorem dX11_keeps_30 : decode cX11_keeps 30 = .ok (.sipush 200, 3) := by decide +kernel
theorem dX11_keeps_33 : decode cX11_keeps 33 = .ok (.if_icmp .gt 66, 3) := by decide +kernel
theorem dX11_keeps_36 : decode cX11_keeps 36 = .ok (.iload_n 3, 1) := by decide +kernel
theorem dX11_keeps_37 : decode cX11_keeps 37 = .ok (.bipush (-2), 2) := by decide +kernel
theorem dX11_keeps_39 : decode cX11_keeps 39 = .ok (.if_icmp .ne 60, 3) := by decide +kernel
theorem dX11_keeps_42 : decode cX11_keeps 42 = .ok (.aload_n 0, 1) := by decide +kernel
theorem dX11_keeps_43 : decode cX11_keeps 43 = .ok (.getfield 7, 3) := by decide +kernel
theorem dX11_keeps_46 : decode cX11_keeps 46 = .ok (.iconst 0, 1) := by decide +kernel
theorem dX11_keeps_47 : decode cX11_keeps 47 = .ok (.iload 6, 2) := by decide +kernel
theorem dX11_keeps_49 : decode cX11_keeps 49 = .ok (.iastore, 1) := by decide +kernel
theorem dX11_keeps_50 : decode cX11_keeps 50 = .ok (.lconst 0, 1) := by decide +kernel
theorem dX11_keeps_51 : decode cX11_keeps 51 = .ok (.lstore 4, 2) := by decide +kernel
theorem dX11_keeps_53 : decode cX11_keeps 53 = .ok (.iconst 0, 1) := by decide +kernel
theorem dX11_keeps_54 : decode cX11_keeps 54 = .ok (.istore 7, 2) := by decide +kernel
theorem dX11_keeps_56 : decode cX11_keeps 56 = .ok (.iload 7, 2) := by decide +kernel
theorem dX11_keeps_58 : decode cX11_keeps 58 = .ok (.bipush 24, 2) := by decide +kernel
theorem dX11_keeps_60 : decode cX11_keeps 60 = .ok (.if_icmp .ge 22, 3) := by decide +kernel
theorem dX11_keeps_63 : decode cX11_keeps 63 = .ok (.lload 4, 2) := by decide +kernel
theorem dX11_keeps_65 : decode cX11_keeps 65 = .ok (.aload_n 0, 1) := by decide +kernel
theorem dX11_keeps_66 : decode cX11_keeps 66 = .ok (.iload 7, 2) := by decide +kernel
theorem dX11_keeps_68 : decode cX11_keeps 68 = .ok (.invokevirtual 279, 3) := by decide +kernel
theorem dX11_keeps_71 : decode cX11_keeps 71 = .ok (.invokestatic 259, 3) := by decide +kernel
theorem dX11_keeps_74 : decode cX11_keeps 74 = .ok (.lstore 4, 2) := by decide +kernel
theorem dX11_keeps_76 : decode cX11_keeps 76 = .ok (.iinc 7 1, 3) := by decide +kernel
theorem dX11_keeps_79 : decode cX11_keeps 79 = .ok (.goto (-23), 3) := by decide +kernel
theorem dX11_keeps_82 : decode cX11_keeps 82 = .ok (.lload 4, 2) := by decide +kernel
theorem dX11_keeps_84 : decode cX11_keeps 84 = .ok (.iload_n 1, 1) := by decide +kernel
theorem dX11_keeps_85 : decode cX11_keeps 85 = .ok (.i2l, 1) := by decide +kernel
theorem dX11_keeps_86 : decode cX11_keeps 86 = .ok (.lcmp, 1) := by decide +kernel
theorem dX11_keeps_87 : decode cX11_keeps 87 = .ok (.ifCond .lt 6, 3) := by decide +kernel
theorem dX11_keeps_90 : decode cX11_keeps 90 = .ok (.iload 6, 2) := by decide +kernel
theorem dX11_keeps_92 : decode cX11_keeps 92 = .ok (.istore_n 3, 1) := by decide +kernel
theorem dX11_keeps_93 : decode cX11_keeps 93 = .ok (.iinc 6 1, 3) := by decide +kernel
theorem dX11_keeps_96 : decode cX11_keeps 96 = .ok (.goto (-68), 3) := by decide +kernel
theorem dX11_keeps_99 : decode cX11_keeps 99 = .ok (.aload_n 0, 1) := by decide +kernel
theorem dX11_keeps_100 : decode cX11_keeps 100 = .ok (.getfield 7, 3) := by decide +kernel
theorem dX11_keeps_103 : decode cX11_keeps 103 = .ok (.iconst 0, 1) := by decide +kernel
theorem dX11_keeps_104 : decode cX11_keeps 104 = .ok (.iload_n 2, 1) := by decide +kernel
theorem dX11_keeps_105 : decode cX11_keeps 105 = .ok (.iastore, 1) := by decide +kernel
theorem dX11_keeps_106 : decode cX11_keeps 106 = .ok (.iload_n 3, 1) := by decide +kernel
theorem dX11_keeps_107 : decode cX11_keeps 107 = .ok (.bipush (-2), 2) := by decide +kernel
theorem dX11_keeps_109 : decode cX11_keeps 109 = .ok (.if_icmp .ne 6, 3) := by decide +kernel
theorem dX11_keeps_112 : decode cX11_keeps 112 = .ok (.bipush (-2), 2) := by decide +kernel
theorem dX11_keeps_114 : decode cX11_keeps 114 = .ok (.ireturn, 1) := by decide +kernel
theorem dX11_keeps_115 : decode cX11_keeps 115 = .ok (.aload_n 0, 1) := by decide +kernel
theorem dX11_keeps_116 : decode cX11_keeps 116 = .ok (.iconst 0, 1) := by decide +kernel
theorem dX11_keeps_117 : decode cX11_keeps 117 = .ok (.putfield 100, 3) := by decide +kernel
theorem dX11_keeps_120 : decode cX11_keeps 120 = .ok (.aload_n 0, 1) := by decide +kernel
theorem dX11_keeps_121 : decode cX11_keeps 121 = .ok (.lload 4, 2) := by decide +kernel
theorem dX11_keeps_123 : decode cX11_keeps 123 = .ok (.invokevirtual 305, 3) := by decide +kernel
theorem dX11_keeps_126 : decode cX11_keeps 126 = .ok (.iload_n 3, 1) := by decide +kernel
theorem dX11_keeps_127 : decode cX11_keeps 127 = .ok (.ireturn, 1) := by decide +kernel
set_option maxRecDepth 20000 in
theorem ggX11_overdue_X11_damagesIn : GoodIn wsX11_overdue wsX11_damagesIn := goodIn_r _ [10, 2, 3, 11, 12, 13, 9, 14, 4, 15, 16, 17, 18, 19, 20, 21, 22, 23, 24, 25, 26, 27, 28, 29, 30, 31, 32, 33, 34, 35, 36, 37, 38, 39, 40, 41, 42, 43, 44, 45, 46, 47, 53, 54, 55, 56, 57, 58, 59, 60, 61, 62, 63, 64, 65, 66, 67, 68, 69, 70, 71, 72, 73, 74, 75, 76, 77, 78, 79, 80, 81, 82, 83, 84, 85, 86, 87] rfl (by decide +kernel)
set_option maxRecDepth 20000 in
theorem gX11_overdue_X11_damagesIn : GoodIn wsX11_overdue (wsV RX11 285 RX11 yX11_damagesIn wsX11_damagesIn) := goodIn_app (goodIn_of _ (by decide +kernel)) ggX11_overdue_X11_damagesIn
set_option maxRecDepth 20000 in
theorem ggX11_overdue_X11_mostDamages : GoodIn wsX11_overdue wsX11_mostDamages := goodIn_r _ [29, 22, 30, 31, 32, 9, 33, 34, 35, 36, 37, 38, 39, 40, 41, 42, 43, 44, 45, 46, 47, 53, 54, 55, 56, 57, 58, 59, 60, 61, 62, 63, 64, 65, 66, 67, 68, 69, 70, 71, 72, 73, 74, 75, 76, 77, 78, 79, 80, 81, 82, 83, 84, 85, 86, 87] rfl (by decide +kernel)
set_option maxRecDepth 20000 in
theorem gX11_overdue_X11_mostDamages : GoodIn wsX11_overdue (wsV RX11 267 RX11 yX11_mostDamages wsX11_mostDamages) := goodIn_app (goodIn_of _ (by decide +kernel)) ggX11_overdue_X11_mostDamages
set_option maxRecDepth 20000 in
theorem ggX11_overdue_X11_tell : GoodIn wsX11_overdue wsX11_tell := goodIn_r _ [51, 52, 5, 53, 54, 55, 56, 57, 58, 59, 60, 61, 62, 63, 64, 65, 66, 67, 68, 69, 70, 71, 72, 73, 74, 75, 76, 77, 78, 79, 80, 81, 82, 83, 84, 85, 86, 87] rfl (by decide +kernel)
set_option maxRecDepth 20000 in
theorem gX11_overdue_X11_tell : GoodIn wsX11_overdue (wsV RX11 305 RX11 yX11_tell wsX11_tell) := goodIn_app (goodIn_of _ (by decide +kernel)) ggX11_overdue_X11_tell
theorem dX11_overdue_0 : decode cX11_overdue 0 = .ok (.aload_n 0, 1) := by decide +kernel
theorem dX11_overdue_1 : decode cX11_overdue 1 = .ok (.iconst 0, 1) := by decide +kernel
theorem dX11_overdue_2 : decode cX11_overdue 2 = .ok (.putfield 97, 3) := by decide +kernel
theorem dX11_overdue_5 : decode cX11_overdue 5 = .ok (.aload_n 0, 1) := by decide +kernel
theorem dX11_overdue_6 : decode cX11_overdue 6 = .ok (.getfield 91, 3) := by decide +kernel
theorem dX11_overdue_9 : decode cX11_overdue 9 = .ok (.bipush 24, 2) := by decide +kernel
theorem dX11_overdue_11 : decode cX11_overdue 11 = .ok (.if_icmp .ne 6, 3) := by decide +kernel
theorem dX11_overdue_14 : decode cX11_overdue 14 = .ok (.bipush (-2), 2) := by decide +kernel
theorem dX11_overdue_16 : decode cX11_overdue 16 = .ok (.ireturn, 1) := by decide +kernel
theorem dX11_overdue_17 : decode cX11_overdue 17 = .ok (.iconst 0, 1) := by decide +kernel
theorem dX11_overdue_18 : decode cX11_overdue 18 = .ok (.istore_n 1, 1) := by decide +kernel
theorem dX11_overdue_19 : decode cX11_overdue 19 = .ok (.iconst (-1), 1) := by decide +kernel
theorem dX11_overdue_20 : decode cX11_overdue 20 = .ok (.istore_n 2, 1) := by decide +kernel
theorem dX11_overdue_21 : decode cX11_overdue 21 = .ok (.bipush 23, 2) := by decide +kernel
theorem dX11_overdue_23 : decode cX11_overdue 23 = .ok (.istore_n 3, 1) := by decide +kernel
theorem dX11_overdue_24 : decode cX11_overdue 24 = .ok (.iload_n 3, 1) := by decide +kernel
theorem dX11_overdue_25 : decode cX11_overdue 25 = .ok (.ifCond .lt 63, 3) := by decide +kernel
theorem dX11_overdue_28 : decode cX11_overdue 28 = .ok (.iload_n 1, 1) := by decide +kernel
theorem dX11_overdue_29 : decode cX11_overdue 29 = .ok (.iload_n 3, 1) := by decide +kernel
theorem dX11_overdue_30 : decode cX11_overdue 30 = .ok (.aload_n 0, 1) := by decide +kernel
theorem dX11_overdue_31 : decode cX11_overdue 31 = .ok (.getfield 91, 3) := by decide +kernel
theorem dX11_overdue_34 : decode cX11_overdue 34 = .ok (.aload_n 0, 1) := by decide +kernel
theorem dX11_overdue_35 : decode cX11_overdue 35 = .ok (.getfield 94, 3) := by decide +kernel
theorem dX11_overdue_38 : decode cX11_overdue 38 = .ok (.iadd, 1) := by decide +kernel
theorem dX11_overdue_39 : decode cX11_overdue 39 = .ok (.if_icmp .le 15, 3) := by decide +kernel
theorem dX11_overdue_42 : decode cX11_overdue 42 = .ok (.iload_n 3, 1) := by decide +kernel
theorem dX11_overdue_43 : decode cX11_overdue 43 = .ok (.aload_n 0, 1) := by decide +kernel
theorem dX11_overdue_44 : decode cX11_overdue 44 = .ok (.getfield 85, 3) := by decide +kernel
theorem dX11_overdue_47 : decode cX11_overdue 47 = .ok (.if_icmp .gt 7, 3) := by decide +kernel
theorem dX11_overdue_50 : decode cX11_overdue 50 = .ok (.iconst 1, 1) := by decide +kernel
theorem dX11_overdue_51 : decode cX11_overdue 51 = .ok (.goto 4, 3) := by decide +kernel
theorem dX11_overdue_54 : decode cX11_overdue 54 = .ok (.iconst 0, 1) := by decide +kernel
theorem dX11_overdue_55 : decode cX11_overdue 55 = .ok (.iadd, 1) := by decide +kernel
theorem dX11_overdue_56 : decode cX11_overdue 56 = .ok (.istore_n 1, 1) := by decide +kernel
theorem dX11_overdue_57 : decode cX11_overdue 57 = .ok (.aload_n 0, 1) := by decide +kernel
theorem dX11_overdue_58 : decode cX11_overdue 58 = .ok (.iload_n 3, 1) := by decide +kernel
theorem dX11_overdue_59 : decode cX11_overdue 59 = .ok (.invokevirtual 285, 3) := by decide +kernel
theorem dX11_overdue_62 : decode cX11_overdue 62 = .ok (.aload_n 0, 1) := by decide +kernel
theorem dX11_overdue_63 : decode cX11_overdue 63 = .ok (.invokevirtual 267, 3) := by decide +kernel
theorem dX11_overdue_66 : decode cX11_overdue 66 = .ok (.lcmp, 1) := by decide +kernel
theorem dX11_overdue_67 : decode cX11_overdue 67 = .ok (.ifCond .ne 15, 3) := by decide +kernel
theorem dX11_overdue_70 : decode cX11_overdue 70 = .ok (.aload_n 0, 1) := by decide +kernel
theorem dX11_overdue_71 : decode cX11_overdue 71 = .ok (.iload_n 3, 1) := by decide +kernel
theorem dX11_overdue_72 : decode cX11_overdue 72 = .ok (.invokevirtual 285, 3) := by decide +kernel
theorem dX11_overdue_75 : decode cX11_overdue 75 = .ok (.lconst 0, 1) := by decide +kernel
theorem dX11_overdue_76 : decode cX11_overdue 76 = .ok (.lcmp, 1) := by decide +kernel
theorem dX11_overdue_77 : decode cX11_overdue 77 = .ok (.ifCond .le 5, 3) := by decide +kernel
theorem dX11_overdue_80 : decode cX11_overdue 80 = .ok (.iload_n 3, 1) := by decide +kernel
theorem dX11_overdue_81 : decode cX11_overdue 81 = .ok (.istore_n 2, 1) := by decide +kernel
theorem dX11_overdue_82 : decode cX11_overdue 82 = .ok (.iinc 3 (-1), 3) := by decide +kernel
theorem dX11_overdue_85 : decode cX11_overdue 85 = .ok (.goto (-61), 3) := by decide +kernel
theorem dX11_overdue_88 : decode cX11_overdue 88 = .ok (.aload_n 0, 1) := by decide +kernel
theorem dX11_overdue_89 : decode cX11_overdue 89 = .ok (.iconst 0, 1) := by decide +kernel
theorem dX11_overdue_90 : decode cX11_overdue 90 = .ok (.putfield 100, 3) := by decide +kernel
theorem dX11_overdue_93 : decode cX11_overdue 93 = .ok (.aload_n 0, 1) := by decide +kernel
theorem dX11_overdue_94 : decode cX11_overdue 94 = .ok (.aload_n 0, 1) := by decide +kernel
theorem dX11_overdue_95 : decode cX11_overdue 95 = .ok (.bipush 23, 2) := by decide +kernel
theorem dX11_overdue_97 : decode cX11_overdue 97 = .ok (.invokevirtual 285, 3) := by decide +kernel
theorem dX11_overdue_100 : decode cX11_overdue 100 = .ok (.invokevirtual 305, 3) := by decide +kernel
theorem dX11_overdue_103 : decode cX11_overdue 103 = .ok (.aload_n 0, 1) := by decide +kernel
theorem dX11_overdue_104 : decode cX11_overdue 104 = .ok (.iload_n 2, 1) := by decide +kernel
theorem dX11_overdue_105 : decode cX11_overdue 105 = .ok (.i2l, 1) := by decide +kernel
theorem dX11_overdue_106 : decode cX11_overdue 106 = .ok (.invokevirtual 305, 3) := by decide +kernel
theorem dX11_overdue_109 : decode cX11_overdue 109 = .ok (.iload_n 1, 1) := by decide +kernel
theorem dX11_overdue_110 : decode cX11_overdue 110 = .ok (.ireturn, 1) := by decide +kernel
set_option maxRecDepth 20000 in
theorem ggX11_needed_X11_damagesBy : GoodIn wsX11_needed wsX11_damagesBy := goodIn_r _ [11, 2, 12, 13, 14, 15, 16, 17, 18, 19, 20, 21, 22, 23, 24, 25, 26, 10, 27, 28, 29, 30, 31, 32, 33, 34, 35, 36, 37, 38, 39, 40, 41, 42, 43, 44, 45, 163, 164, 165, 166, 167, 168, 169, 170, 171, 172, 173, 174, 175, 176, 177, 178, 179, 180, 181, 182, 183, 184, 185, 186, 187, 188, 189, 190, 191, 192, 193, 194, 195, 196, 197] rfl (by decide +kernel)
set_option maxRecDepth 20000 in
theorem gX11_needed_X11_damagesBy : GoodIn wsX11_needed (wsV RX11 270 RX11 yX11_damagesBy wsX11_damagesBy) := goodIn_app (goodIn_of _ (by decide +kernel)) ggX11_needed_X11_damagesBy
set_option maxRecDepth 20000 in
theorem ggX11_needed_X11_layAside : GoodIn wsX11_needed wsX11_layAside := goodIn_r _ [49, 50, 51, 5, 6, 52, 53, 54, 55, 10, 56, 20, 21, 22, 15, 23, 57, 58, 59, 60, 61, 45, 62, 63, 28, 29, 30, 31, 32, 33, 34, 35, 36, 37, 38, 39, 40, 41, 42, 43, 44, 64, 65, 66, 67, 68, 69, 70, 71, 72, 73, 74, 75, 76, 77, 78, 79, 80, 81, 82, 83, 84, 85, 86, 87, 88, 89, 17, 18, 19, 90, 91, 92, 93, 94, 95, 96, 97, 98, 99, 100, 101, 102, 103, 104, 105, 106, 107, 108, 109, 110, 111, 12, 112, 113, 114, 115, 116, 117, 118, 119, 120, 121, 122, 123, 124, 125, 126, 127, 128, 129, 130, 131, 132, 133, 134, 135, 136, 137, 138, 2, 3, 7, 8, 9, 11, 13, 14, 16, 24, 25, 26, 27, 139, 140, 141, 142, 143, 144, 145, 146, 147, 148, 149, 150, 151, 152, 153, 154, 155, 156, 157, 163, 164, 165, 166, 167, 168, 169, 170, 171, 172, 173, 174, 175, 176, 177, 178, 179, 180, 181, 182, 183, 184, 185, 186, 187, 188, 189, 190, 191, 192, 193, 194, 195, 196, 197] rfl (by decide +kernel)
set_option maxRecDepth 20000 in
theorem gX11_needed_X11_layAside : GoodIn wsX11_needed (wsV RX11 349 RX11 yX11_layAside wsX11_layAside) := goodIn_app (goodIn_of _ (by decide +kernel)) ggX11_needed_X11_layAside
set_option maxRecDepth 20000 in
theorem ggX11_needed_X11_layMonths : GoodIn wsX11_needed wsX11_layMonths := goodIn_r _ [56, 20, 21, 22, 15, 23, 57, 58, 59, 60, 61, 45, 62, 63, 51, 5, 28, 29, 30, 10, 31, 32, 33, 34, 35, 36, 37, 38, 39, 40, 41, 42, 43, 44, 64, 65, 66, 67, 68, 69, 70, 71, 72, 73, 74, 75, 76, 77, 78, 79, 80, 81, 82, 83, 84, 85, 86, 87, 88, 89, 17, 18, 19, 90, 91, 92, 93, 94, 95, 96, 97, 98, 99, 100, 101, 102, 103, 104, 105, 106, 107, 108, 109, 110, 111, 12, 112, 113, 114, 115, 116, 117, 118, 119, 120, 121, 122, 123, 124, 125, 126, 127, 128, 129, 130, 131, 132, 133, 134, 135, 136, 137, 138, 2, 3, 7, 8, 9, 11, 13, 14, 16, 24, 25, 26, 27, 139, 140, 141, 142, 143, 144, 145, 146, 147, 148, 149, 163, 164, 165, 166, 167, 168, 169, 170, 171, 172, 173, 174, 175, 176, 177, 178, 179, 180, 181, 182, 183, 184, 185, 186, 187, 188, 189, 190, 191, 192, 193, 194, 195, 196, 197] rfl (by decide +kernel)
set_option maxRecDepth 20000 in
theorem gX11_needed_X11_layMonths : GoodIn wsX11_needed (wsV RX11 302 RX11 yX11_layMonths wsX11_layMonths) := goodIn_app (goodIn_of _ (by decide +kernel)) ggX11_needed_X11_layMonths
set_option maxRecDepth 20000 in
theorem ggX11_needed_X11_tell : GoodIn wsX11_needed wsX11_tell := goodIn_r _ [161, 162, 4, 163, 164, 165, 166, 167, 168, 169, 170, 171, 172, 173, 174, 175, 176, 177, 178, 179, 180, 181, 182, 183, 184, 185, 186, 187, 188, 189, 190, 191, 192, 193, 194, 195, 196, 197] rfl (by decide +kernel)
set_option maxRecDepth 20000 in
theorem gX11_needed_X11_tell : GoodIn wsX11_needed (wsV RX11 305 RX11 yX11_tell wsX11_tell) := goodIn_app (goodIn_of _ (by decide +kernel)) ggX11_needed_X11_tell
theorem dX11_needed_0 : decode cX11_needed 0 = .ok (.aload_n 0, 1) := by decide +kernel
theorem dX11_needed_1 : decode cX11_needed 1 = .ok (.iconst 0, 1) := by decide +kernel
theorem dX11_needed_2 : decode cX11_needed 2 = .ok (.putfield 97, 3) := by decide +kernel
theorem dX11_needed_5 : decode cX11_needed 5 = .ok (.aload_n 0, 1) := by decide +kernel
theorem dX11_needed_6 : decode cX11_needed 6 = .ok (.getfield 91, 3) := by decide +kernel
theorem dX11_needed_9 : decode cX11_needed 9 = .ok (.bipush 24, 2) := by decide +kernel
theorem dX11_needed_11 : decode cX11_needed 11 = .ok (.if_icmp .ne 6, 3) := by decide +kernel
theorem dX11_needed_14 : decode cX11_needed 14 = .ok (.bipush (-2), 2) := by decide +kernel
theorem dX11_needed_16 : decode cX11_needed 16 = .ok (.ireturn, 1) := by decide +kernel
theorem dX11_needed_17 : decode cX11_needed 17 = .ok (.iconst 0, 1) := by decide +kernel
theorem dX11_needed_18 : decode cX11_needed 18 = .ok (.istore_n 1, 1) := by decide +kernel
theorem dX11_needed_19 : decode cX11_needed 19 = .ok (.aload_n 0, 1) := by decide +kernel
theorem dX11_needed_20 : decode cX11_needed 20 = .ok (.aload_n 0, 1) := by decide +kernel
theorem dX11_needed_21 : decode cX11_needed 21 = .ok (.getfield 91, 3) := by decide +kernel
theorem dX11_needed_24 : decode cX11_needed 24 = .ok (.aload_n 0, 1) := by decide +kernel
theorem dX11_needed_25 : decode cX11_needed 25 = .ok (.getfield 94, 3) := by decide +kernel
theorem dX11_needed_28 : decode cX11_needed 28 = .ok (.iadd, 1) := by decide +kernel
theorem dX11_needed_29 : decode cX11_needed 29 = .ok (.iload_n 1, 1) := by decide +kernel
theorem dX11_needed_30 : decode cX11_needed 30 = .ok (.iadd, 1) := by decide +kernel
theorem dX11_needed_31 : decode cX11_needed 31 = .ok (.bipush 23, 2) := by decide +kernel
theorem dX11_needed_33 : decode cX11_needed 33 = .ok (.invokevirtual 270, 3) := by decide +kernel
theorem dX11_needed_36 : decode cX11_needed 36 = .ok (.lconst 0, 1) := by decide +kernel
theorem dX11_needed_37 : decode cX11_needed 37 = .ok (.lcmp, 1) := by decide +kernel
theorem dX11_needed_38 : decode cX11_needed 38 = .ok (.ifCond .le 9, 3) := by decide +kernel
theorem dX11_needed_41 : decode cX11_needed 41 = .ok (.iinc 1 1, 3) := by decide +kernel
theorem dX11_needed_44 : decode cX11_needed 44 = .ok (.goto (-25), 3) := by decide +kernel
theorem dX11_needed_47 : decode cX11_needed 47 = .ok (.aload_n 0, 1) := by decide +kernel
theorem dX11_needed_48 : decode cX11_needed 48 = .ok (.getfield 91, 3) := by decide +kernel
theorem dX11_needed_51 : decode cX11_needed 51 = .ok (.istore_n 2, 1) := by decide +kernel
theorem dX11_needed_52 : decode cX11_needed 52 = .ok (.aload_n 0, 1) := by decide +kernel
theorem dX11_needed_53 : decode cX11_needed 53 = .ok (.invokevirtual 349, 3) := by decide +kernel
theorem dX11_needed_56 : decode cX11_needed 56 = .ok (.aload_n 0, 1) := by decide +kernel
theorem dX11_needed_57 : decode cX11_needed 57 = .ok (.dup, 1) := by decide +kernel
theorem dX11_needed_58 : decode cX11_needed 58 = .ok (.getfield 91, 3) := by decide +kernel
theorem dX11_needed_61 : decode cX11_needed 61 = .ok (.iload_n 1, 1) := by decide +kernel
theorem dX11_needed_62 : decode cX11_needed 62 = .ok (.iadd, 1) := by decide +kernel
theorem dX11_needed_63 : decode cX11_needed 63 = .ok (.putfield 91, 3) := by decide +kernel
theorem dX11_needed_66 : decode cX11_needed 66 = .ok (.aload_n 0, 1) := by decide +kernel
theorem dX11_needed_67 : decode cX11_needed 67 = .ok (.getfield 91, 3) := by decide +kernel
theorem dX11_needed_70 : decode cX11_needed 70 = .ok (.bipush 24, 2) := by decide +kernel
theorem dX11_needed_72 : decode cX11_needed 72 = .ok (.if_icmp .ne 13, 3) := by decide +kernel
theorem dX11_needed_75 : decode cX11_needed 75 = .ok (.aload_n 0, 1) := by decide +kernel
theorem dX11_needed_76 : decode cX11_needed 76 = .ok (.dup, 1) := by decide +kernel
theorem dX11_needed_77 : decode cX11_needed 77 = .ok (.getfield 91, 3) := by decide +kernel
theorem dX11_needed_80 : decode cX11_needed 80 = .ok (.iconst 1, 1) := by decide +kernel
theorem dX11_needed_81 : decode cX11_needed 81 = .ok (.iadd, 1) := by decide +kernel
theorem dX11_needed_82 : decode cX11_needed 82 = .ok (.putfield 91, 3) := by decide +kernel
theorem dX11_needed_85 : decode cX11_needed 85 = .ok (.aload_n 0, 1) := by decide +kernel
theorem dX11_needed_86 : decode cX11_needed 86 = .ok (.invokevirtual 302, 3) := by decide +kernel
theorem dX11_needed_89 : decode cX11_needed 89 = .ok (.aload_n 0, 1) := by decide +kernel
theorem dX11_needed_90 : decode cX11_needed 90 = .ok (.iload_n 2, 1) := by decide +kernel
theorem dX11_needed_91 : decode cX11_needed 91 = .ok (.putfield 91, 3) := by decide +kernel
theorem dX11_needed_94 : decode cX11_needed 94 = .ok (.aload_n 0, 1) := by decide +kernel
theorem dX11_needed_95 : decode cX11_needed 95 = .ok (.iconst 0, 1) := by decide +kernel
theorem dX11_needed_96 : decode cX11_needed 96 = .ok (.putfield 100, 3) := by decide +kernel
theorem dX11_needed_99 : decode cX11_needed 99 = .ok (.aload_n 0, 1) := by decide +kernel
theorem dX11_needed_100 : decode cX11_needed 100 = .ok (.aload_n 0, 1) := by decide +kernel
theorem dX11_needed_101 : decode cX11_needed 101 = .ok (.getfield 57, 3) := by decide +kernel
theorem dX11_needed_104 : decode cX11_needed 104 = .ok (.bipush 23, 2) := by decide +kernel
theorem dX11_needed_106 : decode cX11_needed 106 = .ok (.laload, 1) := by decide +kernel
theorem dX11_needed_107 : decode cX11_needed 107 = .ok (.aload_n 0, 1) := by decide +kernel
theorem dX11_needed_108 : decode cX11_needed 108 = .ok (.getfield 342, 3) := by decide +kernel
theorem dX11_needed_111 : decode cX11_needed 111 = .ok (.lsub, 1) := by decide +kernel
theorem dX11_needed_112 : decode cX11_needed 112 = .ok (.invokevirtual 305, 3) := by decide +kernel
theorem dX11_needed_115 : decode cX11_needed 115 = .ok (.iload_n 1, 1) := by decide +kernel
theorem dX11_needed_116 : decode cX11_needed 116 = .ok (.ireturn, 1) := by decide +kernel
set_option maxRecDepth 20000 in
theorem ggX11_rises_X11_isIndex : GoodIn wsX11_rises wsX11_isIndex := goodIn_r _ [10, 11, 12, 13, 14, 9, 15, 16, 17, 18, 19] rfl (by decide +kernel)
set_option maxRecDepth 20000 in
theorem gX11_rises_X11_isIndex : GoodIn wsX11_rises (va_wsS RX11 208 yX11_isIndex wsX11_isIndex) := goodIn_app (goodIn_of _ (by decide +kernel)) ggX11_rises_X11_isIndex
set_option maxRecDepth 20000 in
theorem ggX11_rises_X11_layAside : GoodIn wsX11_rises wsX11_layAside := goodIn_r _ [23, 24, 25, 5, 6, 26, 27, 28, 29, 9, 30, 31, 32, 33, 34, 35, 36, 37, 38, 39, 40, 41, 3, 42, 43, 44, 45, 46, 47, 48, 49, 50, 51, 52, 53, 54, 55, 56, 57, 58, 59, 60, 61, 62, 63, 64, 65, 66, 67, 68, 69, 70, 71, 72, 73, 74, 75, 76, 77, 78, 79, 80, 81, 82, 83, 84, 85, 86, 87, 88, 89, 90, 91, 92, 93, 94, 95, 96, 97, 98, 99, 100, 101, 102, 103, 104, 105, 2, 106, 107, 108, 109, 110, 111, 112, 113, 114, 115, 116, 117, 118, 119, 120, 121, 122, 123, 124, 125, 126, 127, 128, 129, 130, 131, 132, 133, 134, 135, 136, 137, 138, 139, 140, 141, 142, 143, 144, 145, 146, 147, 148, 149, 150, 151, 152, 153, 154, 155, 156, 157, 158, 159, 160, 161, 162, 163, 164, 165, 166, 167, 168, 169, 175, 176, 177, 178, 179, 180, 181, 182, 183, 184, 185, 186, 187, 188, 189, 190, 191, 192, 193, 194, 195, 196, 197, 198, 199, 200, 201, 202, 203, 204, 205, 206, 207, 208, 209] rfl (by decide +kernel)
set_option maxRecDepth 20000 in
theorem gX11_rises_X11_layAside : GoodIn wsX11_rises (wsV RX11 349 RX11 yX11_layAside wsX11_layAside) := goodIn_app (goodIn_of _ (by decide +kernel)) ggX11_rises_X11_layAside
set_option maxRecDepth 20000 in
theorem ggX11_rises_X11_layMonths : GoodIn wsX11_rises wsX11_layMonths := goodIn_r _ [30, 31, 32, 33, 34, 35, 36, 37, 38, 39, 40, 41, 3, 42, 25, 5, 43, 44, 45, 9, 46, 47, 48, 49, 50, 51, 52, 53, 54, 55, 56, 57, 58, 59, 60, 61, 62, 63, 64, 65, 66, 67, 68, 69, 70, 71, 72, 73, 74, 75, 76, 77, 78, 79, 80, 81, 82, 83, 84, 85, 86, 87, 88, 89, 90, 91, 92, 93, 94, 95, 96, 97, 98, 99, 100, 101, 102, 103, 104, 105, 2, 106, 107, 108, 109, 110, 111, 112, 113, 114, 115, 116, 117, 118, 119, 120, 121, 122, 123, 124, 125, 126, 127, 128, 129, 130, 131, 132, 133, 134, 135, 136, 137, 138, 139, 140, 141, 142, 143, 144, 145, 146, 147, 148, 149, 150, 151, 152, 153, 154, 155, 156, 157, 158, 159, 160, 161, 175, 176, 177, 178, 179, 180, 181, 182, 183, 184, 185, 186, 187, 188, 189, 190, 191, 192, 193, 194, 195, 196, 197, 198, 199, 200, 201, 202, 203, 204, 205, 206, 207, 208, 209] rfl (by decide +kernel)
set_option maxRecDepth 20000 in
theorem gX11_rises_X11_layMonths : GoodIn wsX11_rises (wsV RX11 302 RX11 yX11_layMonths wsX11_layMonths) := goodIn_app (goodIn_of _ (by decide +kernel)) ggX11_rises_X11_layMonths
set_option maxRecDepth 20000 in
theorem ggX11_rises_X11_tell : GoodIn wsX11_rises wsX11_tell := goodIn_r _ [173, 174, 4, 175, 176, 177, 178, 179, 180, 181, 182, 183, 184, 185, 186, 187, 188, 189, 190, 191, 192, 193, 194, 195, 196, 197, 198, 199, 200, 201, 202, 203, 204, 205, 206, 207, 208, 209] rfl (by decide +kernel)
set_option maxRecDepth 20000 in
theorem gX11_rises_X11_tell : GoodIn wsX11_rises (wsV RX11 305 RX11 yX11_tell wsX11_tell) := goodIn_app (goodIn_of _ (by decide +kernel)) ggX11_rises_X11_tell
theorem dX11_rises_0 : decode cX11_rises 0 = .ok (.aload_n 0, 1) := by decide +kernel
theorem dX11_rises_1 : decode cX11_rises 1 = .ok (.iconst 0, 1) := by decide +kernel
theorem dX11_rises_2 : decode cX11_rises 2 = .ok (.putfield 97, 3) := by decide +kernel
theorem dX11_rises_5 : decode cX11_rises 5 = .ok (.iload_n 1, 1) := by decide +kernel
theorem dX11_rises_6 : decode cX11_rises 6 = .ok (.iload_n 2, 1) := by decide +kernel
theorem dX11_rises_7 : decode cX11_rises 7 = .ok (.invokestatic 208, 3) := by decide +kernel
theorem dX11_rises_10 : decode cX11_rises 10 = .ok (.ifCond .ne 5, 3) := by decide +kernel
theorem dX11_rises_13 : decode cX11_rises 13 = .ok (.iconst (-1), 1) := by decide +kernel
theorem dX11_rises_14 : decode cX11_rises 14 = .ok (.ireturn, 1) := by decide +kernel
theorem dX11_rises_15 : decode cX11_rises 15 = .ok (.aload_n 0, 1) := by decide +kernel
theorem dX11_rises_16 : decode cX11_rises 16 = .ok (.getfield 28, 3) := by decide +kernel
theorem dX11_rises_19 : decode cX11_rises 19 = .ok (.iload_n 1, 1) := by decide +kernel
theorem dX11_rises_20 : decode cX11_rises 20 = .ok (.iaload, 1) := by decide +kernel
theorem dX11_rises_21 : decode cX11_rises 21 = .ok (.istore_n 3, 1) := by decide +kernel
theorem dX11_rises_22 : decode cX11_rises 22 = .ok (.aload_n 0, 1) := by decide +kernel
theorem dX11_rises_23 : decode cX11_rises 23 = .ok (.invokevirtual 349, 3) := by decide +kernel
theorem dX11_rises_26 : decode cX11_rises 26 = .ok (.aload_n 0, 1) := by decide +kernel
theorem dX11_rises_27 : decode cX11_rises 27 = .ok (.getfield 45, 3) := by decide +kernel
theorem dX11_rises_30 : decode cX11_rises 30 = .ok (.bipush 23, 2) := by decide +kernel
theorem dX11_rises_32 : decode cX11_rises 32 = .ok (.laload, 1) := by decide +kernel
theorem dX11_rises_33 : decode cX11_rises 33 = .ok (.lstore 4, 2) := by decide +kernel
theorem dX11_rises_35 : decode cX11_rises 35 = .ok (.aload_n 0, 1) := by decide +kernel
theorem dX11_rises_36 : decode cX11_rises 36 = .ok (.getfield 28, 3) := by decide +kernel
theorem dX11_rises_39 : decode cX11_rises 39 = .ok (.iload_n 1, 1) := by decide +kernel
theorem dX11_rises_40 : decode cX11_rises 40 = .ok (.iload_n 2, 1) := by decide +kernel
theorem dX11_rises_41 : decode cX11_rises 41 = .ok (.iastore, 1) := by decide +kernel
theorem dX11_rises_42 : decode cX11_rises 42 = .ok (.aload_n 0, 1) := by decide +kernel
theorem dX11_rises_43 : decode cX11_rises 43 = .ok (.invokevirtual 302, 3) := by decide +kernel
theorem dX11_rises_46 : decode cX11_rises 46 = .ok (.aload_n 0, 1) := by decide +kernel
theorem dX11_rises_47 : decode cX11_rises 47 = .ok (.getfield 28, 3) := by decide +kernel
theorem dX11_rises_50 : decode cX11_rises 50 = .ok (.iload_n 1, 1) := by decide +kernel
theorem dX11_rises_51 : decode cX11_rises 51 = .ok (.iload_n 3, 1) := by decide +kernel
theorem dX11_rises_52 : decode cX11_rises 52 = .ok (.iastore, 1) := by decide +kernel
theorem dX11_rises_53 : decode cX11_rises 53 = .ok (.aload_n 0, 1) := by decide +kernel
theorem dX11_rises_54 : decode cX11_rises 54 = .ok (.iconst 0, 1) := by decide +kernel
theorem dX11_rises_55 : decode cX11_rises 55 = .ok (.putfield 100, 3) := by decide +kernel
theorem dX11_rises_58 : decode cX11_rises 58 = .ok (.aload_n 0, 1) := by decide +kernel
theorem dX11_rises_59 : decode cX11_rises 59 = .ok (.aload_n 0, 1) := by decide +kernel
theorem dX11_rises_60 : decode cX11_rises 60 = .ok (.getfield 57, 3) := by decide +kernel
theorem dX11_rises_63 : decode cX11_rises 63 = .ok (.bipush 23, 2) := by decide +kernel
theorem dX11_rises_65 : decode cX11_rises 65 = .ok (.laload, 1) := by decide +kernel
theorem dX11_rises_66 : decode cX11_rises 66 = .ok (.aload_n 0, 1) := by decide +kernel
theorem dX11_rises_67 : decode cX11_rises 67 = .ok (.getfield 342, 3) := by decide +kernel
theorem dX11_rises_70 : decode cX11_rises 70 = .ok (.lsub, 1) := by decide +kernel
theorem dX11_rises_71 : decode cX11_rises 71 = .ok (.invokevirtual 305, 3) := by decide +kernel
theorem dX11_rises_74 : decode cX11_rises 74 = .ok (.aload_n 0, 1) := by decide +kernel
theorem dX11_rises_75 : decode cX11_rises 75 = .ok (.aload_n 0, 1) := by decide +kernel
theorem dX11_rises_76 : decode cX11_rises 76 = .ok (.getfield 45, 3) := by decide +kernel
theorem dX11_rises_79 : decode cX11_rises 79 = .ok (.bipush 23, 2) := by decide +kernel
theorem dX11_rises_81 : decode cX11_rises 81 = .ok (.laload, 1) := by decide +kernel
theorem dX11_rises_82 : decode cX11_rises 82 = .ok (.lload 4, 2) := by decide +kernel
theorem dX11_rises_84 : decode cX11_rises 84 = .ok (.lsub, 1) := by decide +kernel
theorem dX11_rises_85 : decode cX11_rises 85 = .ok (.invokevirtual 305, 3) := by decide +kernel
theorem dX11_rises_88 : decode cX11_rises 88 = .ok (.iconst 0, 1) := by decide +kernel
theorem dX11_rises_89 : decode cX11_rises 89 = .ok (.ireturn, 1) := by decide +kernel
set_option maxRecDepth 20000 in
theorem ggX11_account_X11_layMonths : GoodIn wsX11_account wsX11_layMonths := goodIn_r _ [9, 10, 11, 12, 13, 14, 2, 15, 16, 17, 18, 19, 20, 21, 22, 4, 23, 24, 25, 8, 26, 27, 28, 29, 30, 31, 32, 33, 34, 35, 36, 37, 38, 39, 40, 41, 42, 43, 44, 45, 46, 47, 48, 49, 50, 51, 52, 53, 54, 55, 56, 57, 58, 59, 60, 61, 62, 63, 64, 65, 66, 67, 68, 69, 70, 71, 72, 73, 74, 75, 76, 77, 78, 79, 80, 81, 82, 83, 84, 85, 86, 87, 88, 89, 90, 91, 92, 93, 94, 95, 96, 97, 98, 99, 100, 101, 102, 103, 104, 105, 106, 107, 108, 109, 110, 111, 112, 113, 114, 115, 116, 117, 118, 119, 120, 121, 122, 123, 124, 125, 126, 127, 128, 129, 130, 131, 132, 133, 134, 135, 136, 137, 138, 139, 140, 141, 142, 152, 153, 154, 155, 156, 157, 158, 159, 160, 161, 162, 163, 164, 165, 166, 167, 168, 169, 170, 171, 172, 173, 174, 175, 176, 177, 178, 179, 180, 181, 182, 183, 184, 185, 186] rfl (by decide +kernel)
set_option maxRecDepth 20000 in
theorem gX11_account_X11_layMonths : GoodIn wsX11_account (wsV RX11 302 RX11 yX11_layMonths wsX11_layMonths) := goodIn_app (goodIn_of _ (by decide +kernel)) ggX11_account_X11_layMonths
set_option maxRecDepth 20000 in
theorem ggX11_account_X11_workIn : GoodIn wsX11_account wsX11_workIn := goodIn_r _ [43, 27, 44, 45, 46, 8, 47, 48, 49, 50, 51, 52, 53, 54, 55, 56, 57, 58, 59, 60, 61, 32, 28, 29, 30, 31, 33, 34, 35, 36, 62, 63, 64, 65, 66, 67, 13, 68, 10, 69, 70, 71, 72, 73, 74, 75, 76, 77, 37, 38, 39, 19, 152, 153, 154, 155, 156, 157, 158, 159, 160, 161, 162, 163, 164, 165, 166, 167, 168, 169, 170, 171, 172, 173, 174, 175, 176, 177, 178, 179, 180, 181, 182, 183, 184, 185, 186] rfl (by decide +kernel)
set_option maxRecDepth 20000 in
theorem gX11_account_X11_workIn : GoodIn wsX11_account (wsV RX11 256 RX11 yX11_workIn wsX11_workIn) := goodIn_app (goodIn_of _ (by decide +kernel)) ggX11_account_X11_workIn
set_option maxRecDepth 20000 in
theorem ggX11_account_X11_tell : GoodIn wsX11_account wsX11_tell := goodIn_r _ [146, 147, 3, 152, 153, 154, 155, 156, 157, 158, 159, 160, 161, 162, 163, 164, 165, 166, 167, 168, 169, 170, 171, 172, 173, 174, 175, 176, 177, 178, 179, 180, 181, 182, 183, 184, 185, 186] rfl (by decide +kernel)
set_option maxRecDepth 20000 in
theorem gX11_account_X11_tell : GoodIn wsX11_account (wsV RX11 305 RX11 yX11_tell wsX11_tell) := goodIn_app (goodIn_of _ (by decide +kernel)) ggX11_account_X11_tell
set_option maxRecDepth 20000 in
theorem ggX11_account_X11_setIn : GoodIn wsX11_account wsX11_setIn := goodIn_r _ [108, 109, 110, 111, 112, 8, 113, 114, 37, 38, 39, 19, 152, 153, 154, 155, 156, 157, 158, 159, 160, 161, 162, 163, 164, 165, 166, 167, 168, 169, 170, 171, 172, 173, 174, 175, 176, 177, 178, 179, 180, 181, 182, 183, 184, 185, 186] rfl (by decide +kernel)
set_option maxRecDepth 20000 in
theorem gX11_account_X11_setIn : GoodIn wsX11_account (wsV RX11 282 RX11 yX11_setIn wsX11_setIn) := goodIn_app (goodIn_of _ (by decide +kernel)) ggX11_account_X11_setIn
set_option maxRecDepth 20000 in
theorem ggX11_account_X11_paidTill : GoodIn wsX11_account wsX11_paidTill := goodIn_r _ [141, 142, 152, 153, 154, 155, 156, 157, 158, 159, 160, 161, 162, 163, 164, 165, 166, 167, 168, 169, 170, 171, 172, 173, 174, 175, 176, 177, 178, 179, 180, 181, 182, 183, 184, 185, 186] rfl (by decide +kernel)
set_option maxRecDepth 20000 in
theorem gX11_account_X11_paidTill : GoodIn wsX11_account (wsV RX11 291 RX11 yX11_paidTill wsX11_paidTill) := goodIn_app (goodIn_of _ (by decide +kernel)) ggX11_account_X11_paidTill
set_option maxRecDepth 20000 in
theorem ggX11_account_X11_interestTill : GoodIn wsX11_account wsX11_interestTill := goodIn_r _ [151, 137, 152, 153, 154, 155, 156, 157, 158, 159, 160, 161, 162, 163, 164, 165, 166, 167, 168, 169, 170, 171, 172, 173, 174, 175, 176, 177, 178, 179, 180, 181, 182, 183, 184, 185, 186] rfl (by decide +kernel)
set_option maxRecDepth 20000 in
theorem gX11_account_X11_interestTill : GoodIn wsX11_account (wsV RX11 294 RX11 yX11_interestTill wsX11_interestTill) := goodIn_app (goodIn_of _ (by decide +kernel)) ggX11_account_X11_interestTill
theorem dX11_account_0 : decode cX11_account 0 = .ok (.aload_n 0, 1) := by decide +kernel
theorem dX11_account_1 : decode cX11_account 1 = .ok (.iconst 0, 1) := by decide +kernel
theorem dX11_account_2 : decode cX11_account 2 = .ok (.putfield 97, 3) := by decide +kernel
theorem dX11_account_5 : decode cX11_account 5 = .ok (.aload_n 0, 1) := by decide +kernel
theorem dX11_account_6 : decode cX11_account 6 = .ok (.getfield 88, 3) := by decide +kernel
theorem dX11_account_9 : decode cX11_account 9 = .ok (.bipush 24, 2) := by decide +kernel
theorem dX11_account_11 : decode cX11_account 11 = .ok (.if_icmp .ne 6, 3) := by decide +kernel
theorem dX11_account_14 : decode cX11_account 14 = .ok (.bipush (-2), 2) := by decide +kernel
theorem dX11_account_16 : decode cX11_account 16 = .ok (.ireturn, 1) := by decide +kernel
theorem dX11_account_17 : decode cX11_account 17 = .ok (.aload_n 0, 1) := by decide +kernel
theorem dX11_account_18 : decode cX11_account 18 = .ok (.invokevirtual 302, 3) := by decide +kernel
theorem dX11_account_21 : decode cX11_account 21 = .ok (.aload_n 0, 1) := by decide +kernel
theorem dX11_account_22 : decode cX11_account 22 = .ok (.iconst 0, 1) := by decide +kernel
theorem dX11_account_23 : decode cX11_account 23 = .ok (.putfield 100, 3) := by decide +kernel
theorem dX11_account_26 : decode cX11_account 26 = .ok (.aload_n 0, 1) := by decide +kernel
theorem dX11_account_27 : decode cX11_account 27 = .ok (.aload_n 0, 1) := by decide +kernel
theorem dX11_account_28 : decode cX11_account 28 = .ok (.aload_n 0, 1) := by decide +kernel
theorem dX11_account_29 : decode cX11_account 29 = .ok (.getfield 88, 3) := by decide +kernel
theorem dX11_account_32 : decode cX11_account 32 = .ok (.invokevirtual 256, 3) := by decide +kernel
theorem dX11_account_35 : decode cX11_account 35 = .ok (.invokevirtual 305, 3) := by decide +kernel
theorem dX11_account_38 : decode cX11_account 38 = .ok (.aload_n 0, 1) := by decide +kernel
theorem dX11_account_39 : decode cX11_account 39 = .ok (.aload_n 0, 1) := by decide +kernel
theorem dX11_account_40 : decode cX11_account 40 = .ok (.aload_n 0, 1) := by decide +kernel
theorem dX11_account_41 : decode cX11_account 41 = .ok (.getfield 88, 3) := by decide +kernel
theorem dX11_account_44 : decode cX11_account 44 = .ok (.invokevirtual 282, 3) := by decide +kernel
theorem dX11_account_47 : decode cX11_account 47 = .ok (.invokevirtual 305, 3) := by decide +kernel
theorem dX11_account_50 : decode cX11_account 50 = .ok (.aload_n 0, 1) := by decide +kernel
theorem dX11_account_51 : decode cX11_account 51 = .ok (.aload_n 0, 1) := by decide +kernel
theorem dX11_account_52 : decode cX11_account 52 = .ok (.aload_n 0, 1) := by decide +kernel
theorem dX11_account_53 : decode cX11_account 53 = .ok (.getfield 88, 3) := by decide +kernel
theorem dX11_account_56 : decode cX11_account 56 = .ok (.invokevirtual 291, 3) := by decide +kernel
theorem dX11_account_59 : decode cX11_account 59 = .ok (.invokevirtual 305, 3) := by decide +kernel
theorem dX11_account_62 : decode cX11_account 62 = .ok (.aload_n 0, 1) := by decide +kernel
theorem dX11_account_63 : decode cX11_account 63 = .ok (.aload_n 0, 1) := by decide +kernel
theorem dX11_account_64 : decode cX11_account 64 = .ok (.getfield 57, 3) := by decide +kernel
theorem dX11_account_67 : decode cX11_account 67 = .ok (.aload_n 0, 1) := by decide +kernel
theorem dX11_account_68 : decode cX11_account 68 = .ok (.getfield 88, 3) := by decide +kernel
theorem dX11_account_71 : decode cX11_account 71 = .ok (.laload, 1) := by decide +kernel
theorem dX11_account_72 : decode cX11_account 72 = .ok (.aload_n 0, 1) := by decide +kernel
theorem dX11_account_73 : decode cX11_account 73 = .ok (.aload_n 0, 1) := by decide +kernel
theorem dX11_account_74 : decode cX11_account 74 = .ok (.getfield 88, 3) := by decide +kernel
theorem dX11_account_77 : decode cX11_account 77 = .ok (.invokevirtual 291, 3) := by decide +kernel
theorem dX11_account_80 : decode cX11_account 80 = .ok (.lsub, 1) := by decide +kernel
theorem dX11_account_81 : decode cX11_account 81 = .ok (.invokevirtual 305, 3) := by decide +kernel
theorem dX11_account_84 : decode cX11_account 84 = .ok (.aload_n 0, 1) := by decide +kernel
theorem dX11_account_85 : decode cX11_account 85 = .ok (.aload_n 0, 1) := by decide +kernel
theorem dX11_account_86 : decode cX11_account 86 = .ok (.aload_n 0, 1) := by decide +kernel
theorem dX11_account_87 : decode cX11_account 87 = .ok (.getfield 88, 3) := by decide +kernel
theorem dX11_account_90 : decode cX11_account 90 = .ok (.invokevirtual 294, 3) := by decide +kernel
theorem dX11_account_93 : decode cX11_account 93 = .ok (.invokevirtual 305, 3) := by decide +kernel
theorem dX11_account_96 : decode cX11_account 96 = .ok (.iconst 0, 1) := by decide +kernel
theorem dX11_account_97 : decode cX11_account 97 = .ok (.ireturn, 1) := by decide +kernel
theorem dX11_measuredMonths_0 : decode cX11_measuredMonths 0 = .ok (.iconst 0, 1) := by decide +kernel
theorem dX11_measuredMonths_1 : decode cX11_measuredMonths 1 = .ok (.istore_n 1, 1) := by decide +kernel
theorem dX11_measuredMonths_2 : decode cX11_measuredMonths 2 = .ok (.iconst 0, 1) := by decide +kernel
theorem dX11_measuredMonths_3 : decode cX11_measuredMonths 3 = .ok (.istore_n 2, 1) := by decide +kernel
theorem dX11_measuredMonths_4 : decode cX11_measuredMonths 4 = .ok (.iload_n 2, 1) := by decide +kernel
theorem dX11_measuredMonths_5 : decode cX11_measuredMonths 5 = .ok (.bipush 24, 2) := by decide +kernel
theorem dX11_measuredMonths_7 : decode cX11_measuredMonths 7 = .ok (.if_icmp .ge 67, 3) := by decide +kernel
theorem dX11_measuredMonths_10 : decode cX11_measuredMonths 10 = .ok (.iconst 0, 1) := by decide +kernel
theorem dX11_measuredMonths_11 : decode cX11_measuredMonths 11 = .ok (.istore_n 3, 1) := by decide +kernel
theorem dX11_measuredMonths_12 : decode cX11_measuredMonths 12 = .ok (.iconst 0, 1) := by decide +kernel
theorem dX11_measuredMonths_13 : decode cX11_measuredMonths 13 = .ok (.istore 4, 2) := by decide +kernel
theorem dX11_measuredMonths_15 : decode cX11_measuredMonths 15 = .ok (.iload 4, 2) := by decide +kernel
theorem dX11_measuredMonths_17 : decode cX11_measuredMonths 17 = .ok (.bipush 10, 2) := by decide +kernel
theorem dX11_measuredMonths_19 : decode cX11_measuredMonths 19 = .ok (.if_icmp .ge 37, 3) := by decide +kernel
theorem dX11_measuredMonths_22 : decode cX11_measuredMonths 22 = .ok (.iload_n 3, 1) := by decide +kernel
theorem dX11_measuredMonths_23 : decode cX11_measuredMonths 23 = .ok (.ifCond .ne 21, 3) := by decide +kernel
theorem dX11_measuredMonths_26 : decode cX11_measuredMonths 26 = .ok (.aload_n 0, 1) := by decide +kernel
theorem dX11_measuredMonths_27 : decode cX11_measuredMonths 27 = .ok (.getfield 16, 3) := by decide +kernel
theorem dX11_measuredMonths_30 : decode cX11_measuredMonths 30 = .ok (.bipush 10, 2) := by decide +kernel
theorem dX11_measuredMonths_32 : decode cX11_measuredMonths 32 = .ok (.iload_n 2, 1) := by decide +kernel
theorem dX11_measuredMonths_33 : decode cX11_measuredMonths 33 = .ok (.imul, 1) := by decide +kernel
theorem dX11_measuredMonths_34 : decode cX11_measuredMonths 34 = .ok (.iload 4, 2) := by decide +kernel
theorem dX11_measuredMonths_36 : decode cX11_measuredMonths 36 = .ok (.iadd, 1) := by decide +kernel
theorem dX11_measuredMonths_37 : decode cX11_measuredMonths 37 = .ok (.iaload, 1) := by decide +kernel
theorem dX11_measuredMonths_38 : decode cX11_measuredMonths 38 = .ok (.sipush (-9999), 3) := by decide +kernel
theorem dX11_measuredMonths_41 : decode cX11_measuredMonths 41 = .ok (.if_icmp .eq 7, 3) := by decide +kernel
theorem dX11_measuredMonths_44 : decode cX11_measuredMonths 44 = .ok (.iconst 1, 1) := by decide +kernel
theorem dX11_measuredMonths_45 : decode cX11_measuredMonths 45 = .ok (.goto 4, 3) := by decide +kernel
theorem dX11_measuredMonths_48 : decode cX11_measuredMonths 48 = .ok (.iconst 0, 1) := by decide +kernel
theorem dX11_measuredMonths_49 : decode cX11_measuredMonths 49 = .ok (.istore_n 3, 1) := by decide +kernel
theorem dX11_measuredMonths_50 : decode cX11_measuredMonths 50 = .ok (.iinc 4 1, 3) := by decide +kernel
theorem dX11_measuredMonths_53 : decode cX11_measuredMonths 53 = .ok (.goto (-38), 3) := by decide +kernel
theorem dX11_measuredMonths_56 : decode cX11_measuredMonths 56 = .ok (.iload_n 1, 1) := by decide +kernel
theorem dX11_measuredMonths_57 : decode cX11_measuredMonths 57 = .ok (.iload_n 3, 1) := by decide +kernel
theorem dX11_measuredMonths_58 : decode cX11_measuredMonths 58 = .ok (.ifCond .eq 7, 3) := by decide +kernel
theorem dX11_measuredMonths_61 : decode cX11_measuredMonths 61 = .ok (.iconst 1, 1) := by decide +kernel
theorem dX11_measuredMonths_62 : decode cX11_measuredMonths 62 = .ok (.goto 4, 3) := by decide +kernel
theorem dX11_measuredMonths_65 : decode cX11_measuredMonths 65 = .ok (.iconst 0, 1) := by decide +kernel
theorem dX11_measuredMonths_66 : decode cX11_measuredMonths 66 = .ok (.iadd, 1) := by decide +kernel
theorem dX11_measuredMonths_67 : decode cX11_measuredMonths 67 = .ok (.istore_n 1, 1) := by decide +kernel
theorem dX11_measuredMonths_68 : decode cX11_measuredMonths 68 = .ok (.iinc 2 1, 3) := by decide +kernel
theorem dX11_measuredMonths_71 : decode cX11_measuredMonths 71 = .ok (.goto (-67), 3) := by decide +kernel
theorem dX11_measuredMonths_74 : decode cX11_measuredMonths 74 = .ok (.iload_n 1, 1) := by decide +kernel
theorem dX11_measuredMonths_75 : decode cX11_measuredMonths 75 = .ok (.ireturn, 1) := by decide +kernel
set_option maxRecDepth 20000 in
theorem ggX11_count_X11_in : GoodIn wsX11_count wsX11_in := goodIn_r _ [17] rfl (by decide +kernel)
set_option maxRecDepth 20000 in
theorem gX11_count_X11_in : GoodIn wsX11_count (va_wsS RX11 105 yX11_in wsX11_in) := goodIn_app (goodIn_of _ (by decide +kernel)) ggX11_count_X11_in
set_option maxRecDepth 20000 in
theorem ggX11_count_X11_monthTold : GoodIn wsX11_count wsX11_monthTold := goodIn_r _ [20] rfl (by decide +kernel)
set_option maxRecDepth 20000 in
theorem gX11_count_X11_monthTold : GoodIn wsX11_count (va_wsS RX11 318 yX11_monthTold wsX11_monthTold) := goodIn_app (goodIn_of _ (by decide +kernel)) ggX11_count_X11_monthTold
set_option maxRecDepth 20000 in
theorem ggX11_count_X11_measuredMonths : GoodIn wsX11_count wsX11_measuredMonths := goodIn_r _ [24, 25, 26, 27, 28, 29, 30, 31, 32, 33, 34, 35, 36, 37, 38, 39, 40, 41, 42, 43, 44, 45, 46, 47, 48, 49, 50, 51, 52, 53, 54, 55, 56, 57, 58, 59, 60] rfl (by decide +kernel)
set_option maxRecDepth 20000 in
theorem gX11_count_X11_measuredMonths : GoodIn wsX11_count (wsV RX11 357 RX11 yX11_measuredMonths wsX11_measuredMonths) := goodIn_app (goodIn_of _ (by decide +kernel)) ggX11_count_X11_measuredMonths
theorem dX11_count_0 : decode cX11_count 0 = .ok (.aload_n 0, 1) := by decide +kernel
theorem dX11_count_1 : decode cX11_count 1 = .ok (.iconst 0, 1) := by decide +kernel
theorem dX11_count_2 : decode cX11_count 2 = .ok (.putfield 97, 3) := by decide +kernel
theorem dX11_count_5 : decode cX11_count 5 = .ok (.iload_n 1, 1) := by decide +kernel
theorem dX11_count_6 : decode cX11_count 6 = .ok (.i2l, 1) := by decide +kernel
theorem dX11_count_7 : decode cX11_count 7 = .ok (.ldc2_w 355, 3) := by decide +kernel
theorem dX11_count_10 : decode cX11_count 10 = .ok (.ldc2_w 103, 3) := by decide +kernel
theorem dX11_count_13 : decode cX11_count 13 = .ok (.invokestatic 105, 3) := by decide +kernel
theorem dX11_count_16 : decode cX11_count 16 = .ok (.ifCond .eq 13, 3) := by decide +kernel
theorem dX11_count_19 : decode cX11_count 19 = .ok (.aload_n 0, 1) := by decide +kernel
theorem dX11_count_20 : decode cX11_count 20 = .ok (.getfield 7, 3) := by decide +kernel
theorem dX11_count_23 : decode cX11_count 23 = .ok (.iload_n 1, 1) := by decide +kernel
theorem dX11_count_24 : decode cX11_count 24 = .ok (.bipush 10, 2) := by decide +kernel
theorem dX11_count_26 : decode cX11_count 26 = .ok (.isub, 1) := by decide +kernel
theorem dX11_count_27 : decode cX11_count 27 = .ok (.iaload, 1) := by decide +kernel
theorem dX11_count_28 : decode cX11_count 28 = .ok (.ireturn, 1) := by decide +kernel
theorem dX11_count_29 : decode cX11_count 29 = .ok (.iload_n 1, 1) := by decide +kernel
theorem dX11_count_30 : decode cX11_count 30 = .ok (.tableswitch 128 0 9 #[54, 59, 64, 69, 77, 85, 90, 95, 100, 123], 54) := by decide +kernel
theorem dX11_count_84 : decode cX11_count 84 = .ok (.aload_n 0, 1) := by decide +kernel
theorem dX11_count_85 : decode cX11_count 85 = .ok (.getfield 75, 3) := by decide +kernel
theorem dX11_count_88 : decode cX11_count 88 = .ok (.ireturn, 1) := by decide +kernel
theorem dX11_count_89 : decode cX11_count 89 = .ok (.aload_n 0, 1) := by decide +kernel
theorem dX11_count_90 : decode cX11_count 90 = .ok (.getfield 79, 3) := by decide +kernel
theorem dX11_count_93 : decode cX11_count 93 = .ok (.ireturn, 1) := by decide +kernel
theorem dX11_count_94 : decode cX11_count 94 = .ok (.aload_n 0, 1) := by decide +kernel
theorem dX11_count_95 : decode cX11_count 95 = .ok (.getfield 82, 3) := by decide +kernel
theorem dX11_count_98 : decode cX11_count 98 = .ok (.ireturn, 1) := by decide +kernel
theorem dX11_count_99 : decode cX11_count 99 = .ok (.aload_n 0, 1) := by decide +kernel
theorem dX11_count_100 : decode cX11_count 100 = .ok (.getfield 85, 3) := by decide +kernel
theorem dX11_count_103 : decode cX11_count 103 = .ok (.invokestatic 318, 3) := by decide +kernel
theorem dX11_count_106 : decode cX11_count 106 = .ok (.ireturn, 1) := by decide +kernel
theorem dX11_count_107 : decode cX11_count 107 = .ok (.aload_n 0, 1) := by decide +kernel
theorem dX11_count_108 : decode cX11_count 108 = .ok (.getfield 88, 3) := by decide +kernel
theorem dX11_count_111 : decode cX11_count 111 = .ok (.invokestatic 318, 3) := by decide +kernel
theorem dX11_count_114 : decode cX11_count 114 = .ok (.ireturn, 1) := by decide +kernel
theorem dX11_count_115 : decode cX11_count 115 = .ok (.aload_n 0, 1) := by decide +kernel
theorem dX11_count_116 : decode cX11_count 116 = .ok (.invokevirtual 357, 3) := by decide +kernel
theorem dX11_count_119 : decode cX11_count 119 = .ok (.ireturn, 1) := by decide +kernel
theorem dX11_count_120 : decode cX11_count 120 = .ok (.aload_n 0, 1) := by decide +kernel
theorem dX11_count_121 : decode cX11_count 121 = .ok (.getfield 100, 3) := by decide +kernel
theorem dX11_count_124 : decode cX11_count 124 = .ok (.ireturn, 1) := by decide +kernel
theorem dX11_count_125 : decode cX11_count 125 = .ok (.aload_n 0, 1) := by decide +kernel
theorem dX11_count_126 : decode cX11_count 126 = .ok (.getfield 109, 3) := by decide +kernel
theorem dX11_count_129 : decode cX11_count 129 = .ok (.ireturn, 1) := by decide +kernel
theorem dX11_count_130 : decode cX11_count 130 = .ok (.aload_n 0, 1) := by decide +kernel
theorem dX11_count_131 : decode cX11_count 131 = .ok (.getfield 91, 3) := by decide +kernel
theorem dX11_count_134 : decode cX11_count 134 = .ok (.bipush 24, 2) := by decide +kernel
theorem dX11_count_136 : decode cX11_count 136 = .ok (.if_icmp .ne 7, 3) := by decide +kernel
theorem dX11_count_139 : decode cX11_count 139 = .ok (.iconst (-1), 1) := by decide +kernel
theorem dX11_count_140 : decode cX11_count 140 = .ok (.goto 12, 3) := by decide +kernel
theorem dX11_count_143 : decode cX11_count 143 = .ok (.aload_n 0, 1) := by decide +kernel
theorem dX11_count_144 : decode cX11_count 144 = .ok (.getfield 91, 3) := by decide +kernel
theorem dX11_count_147 : decode cX11_count 147 = .ok (.aload_n 0, 1) := by decide +kernel
theorem dX11_count_148 : decode cX11_count 148 = .ok (.getfield 94, 3) := by decide +kernel
theorem dX11_count_151 : decode cX11_count 151 = .ok (.iadd, 1) := by decide +kernel
theorem dX11_count_152 : decode cX11_count 152 = .ok (.ireturn, 1) := by decide +kernel
theorem dX11_count_153 : decode cX11_count 153 = .ok (.aload_n 0, 1) := by decide +kernel
theorem dX11_count_154 : decode cX11_count 154 = .ok (.getfield 94, 3) := by decide +kernel
theorem dX11_count_157 : decode cX11_count 157 = .ok (.ireturn, 1) := by decide +kernel
theorem dX11_count_158 : decode cX11_count 158 = .ok (.iconst (-1), 1) := by decide +kernel
theorem dX11_count_159 : decode cX11_count 159 = .ok (.ireturn, 1) := by decide +kernel
set_option maxRecDepth 20000 in
theorem ggX11_row_X11_in : GoodIn wsX11_row wsX11_in := goodIn_r _ [7] rfl (by decide +kernel)
set_option maxRecDepth 20000 in
theorem gX11_row_X11_in : GoodIn wsX11_row (va_wsS RX11 105 yX11_in wsX11_in) := goodIn_app (goodIn_of _ (by decide +kernel)) ggX11_row_X11_in
set_option maxRecDepth 20000 in
theorem ggX11_row_X11_lost : GoodIn wsX11_row wsX11_lost := goodIn_r _ [11, 1, 12, 13, 14, 15, 16, 17, 18, 19, 20, 21, 22, 23, 24, 25, 26, 27, 28, 29, 30, 31, 32, 33, 34, 35, 36, 37, 38, 39, 40, 41, 42, 43, 44, 45, 46] rfl (by decide +kernel)
set_option maxRecDepth 20000 in
theorem gX11_row_X11_lost : GoodIn wsX11_row (wsV RX11 299 RX11 yX11_lost wsX11_lost) := goodIn_app (goodIn_of _ (by decide +kernel)) ggX11_row_X11_lost
theorem dX11_row_0 : decode cX11_row 0 = .ok (.aload_n 0, 1) := by decide +kernel
theorem dX11_row_1 : decode cX11_row 1 = .ok (.iconst 0, 1) := by decide +kernel
theorem dX11_row_2 : decode cX11_row 2 = .ok (.putfield 97, 3) := by decide +kernel
theorem dX11_row_5 : decode cX11_row 5 = .ok (.iload_n 1, 1) := by decide +kernel
theorem dX11_row_6 : decode cX11_row 6 = .ok (.i2l, 1) := by decide +kernel
theorem dX11_row_7 : decode cX11_row 7 = .ok (.lconst 0, 1) := by decide +kernel
theorem dX11_row_8 : decode cX11_row 8 = .ok (.aload_n 0, 1) := by decide +kernel
theorem dX11_row_9 : decode cX11_row 9 = .ok (.getfield 100, 3) := by decide +kernel
theorem dX11_row_12 : decode cX11_row 12 = .ok (.iconst 1, 1) := by decide +kernel
theorem dX11_row_13 : decode cX11_row 13 = .ok (.isub, 1) := by decide +kernel
theorem dX11_row_14 : decode cX11_row 14 = .ok (.i2l, 1) := by decide +kernel
theorem dX11_row_15 : decode cX11_row 15 = .ok (.invokestatic 105, 3) := by decide +kernel
theorem dX11_row_18 : decode cX11_row 18 = .ok (.ifCond .eq 12, 3) := by decide +kernel
theorem dX11_row_21 : decode cX11_row 21 = .ok (.aload_n 0, 1) := by decide +kernel
theorem dX11_row_22 : decode cX11_row 22 = .ok (.getfield 38, 3) := by decide +kernel
theorem dX11_row_25 : decode cX11_row 25 = .ok (.iload_n 1, 1) := by decide +kernel
theorem dX11_row_26 : decode cX11_row 26 = .ok (.laload, 1) := by decide +kernel
theorem dX11_row_27 : decode cX11_row 27 = .ok (.goto 8, 3) := by decide +kernel
theorem dX11_row_30 : decode cX11_row 30 = .ok (.aload_n 0, 1) := by decide +kernel
theorem dX11_row_31 : decode cX11_row 31 = .ok (.invokevirtual 299, 3) := by decide +kernel
theorem dX11_row_34 : decode cX11_row 34 = .ok (.i2l, 1) := by decide +kernel
theorem dX11_row_35 : decode cX11_row 35 = .ok (.lreturn, 1) := by decide +kernel
