set_option maxRecDepth 20000 in
theorem ggX10_init_X9_init : GoodIn wsX10_init wsX9_init := goodIn_r _ [28, 29, 2, 3, 30, 31, 32, 126, 127] rfl (by decide +kernel)
set_option maxRecDepth 20000 in
theorem gX10_init_X9_init_n11 : GoodIn wsX10_init (wsX9_init) := ggX10_init_X9_init
set_option maxRecDepth 20000 in
theorem ggX10_init_X1_init : GoodIn wsX10_init wsX1_init := goodIn_r _ [34, 35, 2, 3, 36, 37, 38, 39, 40, 41, 42, 43, 30, 44, 45, 46, 47, 48, 152, 153, 154, 155, 156, 135, 136] rfl (by decide +kernel)
set_option maxRecDepth 20000 in
theorem gX10_init_X1_init_n18 : GoodIn wsX10_init (wsX1_init) := ggX10_init_X1_init
set_option maxRecDepth 20000 in
theorem ggX10_init_X2_init : GoodIn wsX10_init wsX2_init := goodIn_r _ [51, 52, 2, 3, 53, 37, 38, 54, 55, 56, 57, 58, 59, 60, 61, 62, 63, 64, 65, 66, 67, 68, 69, 70, 71, 72, 21, 73, 74, 75, 76, 77, 41, 42, 43, 30, 44, 45, 46, 47, 48, 78, 79, 80, 81, 82, 83, 84, 85, 86, 87, 88, 89, 90, 91, 92, 93, 94, 95, 96, 97, 98, 99, 100, 101, 102, 103, 104, 105, 106, 107, 108, 109, 110, 111, 112, 113, 114, 115, 152, 153, 154, 155, 156, 137, 138, 139, 140, 141, 142, 143, 144, 145, 146, 147, 148, 157, 158, 159, 160, 161, 162, 163, 164, 165, 166, 167, 168, 169, 170, 171] rfl (by decide +kernel)
set_option maxRecDepth 20000 in
theorem gX10_init_X2_init : GoodIn wsX10_init (wsX2_init) := ggX10_init_X2_init
set_option maxRecDepth 20000 in
theorem ggX10_init_X4_init : GoodIn wsX10_init wsX4_init := goodIn_r _ [117, 118, 2, 3, 119, 21, 120, 149] rfl (by decide +kernel)
set_option maxRecDepth 20000 in
theorem gX10_init_X4_init_n32 : GoodIn wsX10_init (wsX4_init) := ggX10_init_X4_init
set_option maxRecDepth 20000 in
theorem ggX10_init_X5_init : GoodIn wsX10_init wsX5_init := goodIn_r _ [122, 123, 2, 3, 21, 124, 125, 150, 151] rfl (by decide +kernel)
set_option maxRecDepth 20000 in
theorem gX10_init_X5_init_n46 : GoodIn wsX10_init (wsX5_init) := ggX10_init_X5_init
theorem dX10_init_0 : decode cX10_init 0 = .ok (.aload_n 0, 1) := by decide +kernel
theorem dX10_init_1 : decode cX10_init 1 = .ok (.invokespecial 3, 3) := by decide +kernel
theorem dX10_init_4 : decode cX10_init 4 = .ok (.aload_n 0, 1) := by decide +kernel
theorem dX10_init_5 : decode cX10_init 5 = .ok (.new 9, 3) := by decide +kernel
theorem dX10_init_8 : decode cX10_init 8 = .ok (.dup, 1) := by decide +kernel
theorem dX10_init_9 : decode cX10_init 9 = .ok (.invokespecial 11, 3) := by decide +kernel
theorem dX10_init_12 : decode cX10_init 12 = .ok (.putfield 12, 3) := by decide +kernel
theorem dX10_init_15 : decode cX10_init 15 = .ok (.aload_n 0, 1) := by decide +kernel
theorem dX10_init_16 : decode cX10_init 16 = .ok (.new 16, 3) := by decide +kernel
theorem dX10_init_19 : decode cX10_init 19 = .ok (.dup, 1) := by decide +kernel
theorem dX10_init_20 : decode cX10_init 20 = .ok (.invokespecial 18, 3) := by decide +kernel
theorem dX10_init_23 : decode cX10_init 23 = .ok (.putfield 19, 3) := by decide +kernel
theorem dX10_init_26 : decode cX10_init 26 = .ok (.aload_n 0, 1) := by decide +kernel
theorem dX10_init_27 : decode cX10_init 27 = .ok (.new 23, 3) := by decide +kernel
theorem dX10_init_30 : decode cX10_init 30 = .ok (.dup, 1) := by decide +kernel
theorem dX10_init_31 : decode cX10_init 31 = .ok (.invokespecial 25, 3) := by decide +kernel
theorem dX10_init_34 : decode cX10_init 34 = .ok (.putfield 26, 3) := by decide +kernel
theorem dX10_init_37 : decode cX10_init 37 = .ok (.aload_n 0, 1) := by decide +kernel
theorem dX10_init_38 : decode cX10_init 38 = .ok (.new 30, 3) := by decide +kernel
theorem dX10_init_41 : decode cX10_init 41 = .ok (.dup, 1) := by decide +kernel
theorem dX10_init_42 : decode cX10_init 42 = .ok (.invokespecial 32, 3) := by decide +kernel
theorem dX10_init_45 : decode cX10_init 45 = .ok (.putfield 33, 3) := by decide +kernel
theorem dX10_init_48 : decode cX10_init 48 = .ok (.aload_n 0, 1) := by decide +kernel
theorem dX10_init_49 : decode cX10_init 49 = .ok (.new 30, 3) := by decide +kernel
theorem dX10_init_52 : decode cX10_init 52 = .ok (.dup, 1) := by decide +kernel
theorem dX10_init_53 : decode cX10_init 53 = .ok (.invokespecial 32, 3) := by decide +kernel
theorem dX10_init_56 : decode cX10_init 56 = .ok (.putfield 37, 3) := by decide +kernel
theorem dX10_init_59 : decode cX10_init 59 = .ok (.aload_n 0, 1) := by decide +kernel
theorem dX10_init_60 : decode cX10_init 60 = .ok (.bipush 24, 2) := by decide +kernel
theorem dX10_init_62 : decode cX10_init 62 = .ok (.newarray .long, 2) := by decide +kernel
theorem dX10_init_64 : decode cX10_init 64 = .ok (.putfield 40, 3) := by decide +kernel
theorem dX10_init_67 : decode cX10_init 67 = .ok (.aload_n 0, 1) := by decide +kernel
theorem dX10_init_68 : decode cX10_init 68 = .ok (.new 44, 3) := by decide +kernel
theorem dX10_init_71 : decode cX10_init 71 = .ok (.dup, 1) := by decide +kernel
theorem dX10_init_72 : decode cX10_init 72 = .ok (.invokespecial 46, 3) := by decide +kernel
theorem dX10_init_75 : decode cX10_init 75 = .ok (.putfield 47, 3) := by decide +kernel
theorem dX10_init_78 : decode cX10_init 78 = .ok (.return_, 1) := by decide +kernel
set_option maxRecDepth 20000 in
theorem ggX10_sign_X9_append : GoodIn wsX10_sign wsX9_append := goodIn_r _ [7, 8, 9, 17, 18] rfl (by decide +kernel)
set_option maxRecDepth 20000 in
theorem gX10_sign_X9_append : GoodIn wsX10_sign (wsV RX10 51 RX9 yX9_append wsX9_append) := goodIn_app (goodIn_of _ (by decide +kernel)) ggX10_sign_X9_append
theorem dX10_sign_0 : decode cX10_sign 0 = .ok (.aload_n 0, 1) := by decide +kernel
theorem dX10_sign_1 : decode cX10_sign 1 = .ok (.getfield 12, 3) := by decide +kernel
theorem dX10_sign_4 : decode cX10_sign 4 = .ok (.iload_n 1, 1) := by decide +kernel
theorem dX10_sign_5 : decode cX10_sign 5 = .ok (.invokevirtual 51, 3) := by decide +kernel
theorem dX10_sign_8 : decode cX10_sign 8 = .ok (.ifCond .eq 13, 3) := by decide +kernel
theorem dX10_sign_11 : decode cX10_sign 11 = .ok (.aload_n 0, 1) := by decide +kernel
theorem dX10_sign_12 : decode cX10_sign 12 = .ok (.getfield 12, 3) := by decide +kernel
theorem dX10_sign_15 : decode cX10_sign 15 = .ok (.getfield 55, 3) := by decide +kernel
theorem dX10_sign_18 : decode cX10_sign 18 = .ok (.goto 4, 3) := by decide +kernel
theorem dX10_sign_21 : decode cX10_sign 21 = .ok (.iconst (-1), 1) := by decide +kernel
theorem dX10_sign_22 : decode cX10_sign 22 = .ok (.ireturn, 1) := by decide +kernel
set_option maxRecDepth 20000 in
theorem ggX10_end_X9_cutTo : GoodIn wsX10_end wsX9_cutTo := goodIn_r _ [6, 7, 15, 16] rfl (by decide +kernel)
set_option maxRecDepth 20000 in
theorem gX10_end_X9_cutTo : GoodIn wsX10_end (wsV RX10 59 RX9 yX9_cutTo wsX9_cutTo) := goodIn_app (goodIn_of _ (by decide +kernel)) ggX10_end_X9_cutTo
theorem dX10_end_0 : decode cX10_end 0 = .ok (.aload_n 0, 1) := by decide +kernel
theorem dX10_end_1 : decode cX10_end 1 = .ok (.getfield 12, 3) := by decide +kernel
theorem dX10_end_4 : decode cX10_end 4 = .ok (.iload_n 1, 1) := by decide +kernel
theorem dX10_end_5 : decode cX10_end 5 = .ok (.invokevirtual 59, 3) := by decide +kernel
theorem dX10_end_8 : decode cX10_end 8 = .ok (.ireturn, 1) := by decide +kernel
set_option maxRecDepth 20000 in
theorem ggX10_bill_X1_read : GoodIn wsX10_bill wsX1_read := goodIn_r _ [10, 11, 12, 13, 14, 15, 16, 17, 18, 19, 20, 21, 22, 23, 24, 9, 25, 26, 27, 28, 29, 30, 31, 32, 33, 34, 35, 36, 37, 38, 39, 40, 41, 42, 43, 44, 45, 46, 47, 48, 49, 50, 51, 52, 53, 54, 55, 56, 57, 106, 107, 104, 105, 108, 109, 110, 111, 112] rfl (by decide +kernel)
set_option maxRecDepth 20000 in
theorem gX10_bill_X1_read : GoodIn wsX10_bill (wsV RX10 62 RX1 yX1_read wsX1_read) := goodIn_app (goodIn_of _ (by decide +kernel)) ggX10_bill_X1_read
set_option maxRecDepth 20000 in
theorem ggX10_bill_X2_startWith : GoodIn wsX10_bill wsX2_startWith := goodIn_r _ [62, 63, 64, 65, 66, 67, 68, 69, 70, 71, 72, 73, 74, 75, 76, 77, 78, 18, 79, 20, 55, 56, 57, 80, 16, 17, 19, 21, 81, 52, 53, 54, 82, 83, 84, 85, 86, 87, 88, 89, 90, 91, 92, 93, 94, 95, 96, 113, 114, 115, 116, 117, 118, 119, 120, 121, 122, 123, 124, 125, 126, 127, 128, 129, 130, 131, 132, 133, 134, 135, 108, 109, 110, 111, 112, 136, 137, 138] rfl (by decide +kernel)
set_option maxRecDepth 20000 in
theorem gX10_bill_X2_startWith : GoodIn wsX10_bill (wsV RX10 70 RX2 yX2_startWith wsX2_startWith) := goodIn_app (goodIn_of _ (by decide +kernel)) ggX10_bill_X2_startWith
theorem dX10_bill_0 : decode cX10_bill 0 = .ok (.aload_n 0, 1) := by decide +kernel
theorem dX10_bill_1 : decode cX10_bill 1 = .ok (.getfield 19, 3) := by decide +kernel
theorem dX10_bill_4 : decode cX10_bill 4 = .ok (.aload_n 0, 1) := by decide +kernel
theorem dX10_bill_5 : decode cX10_bill 5 = .ok (.getfield 12, 3) := by decide +kernel
theorem dX10_bill_8 : decode cX10_bill 8 = .ok (.invokevirtual 62, 3) := by decide +kernel
theorem dX10_bill_11 : decode cX10_bill 11 = .ok (.istore_n 1, 1) := by decide +kernel
theorem dX10_bill_12 : decode cX10_bill 12 = .ok (.aload_n 0, 1) := by decide +kernel
theorem dX10_bill_13 : decode cX10_bill 13 = .ok (.getfield 12, 3) := by decide +kernel
theorem dX10_bill_16 : decode cX10_bill 16 = .ok (.iconst 0, 1) := by decide +kernel
theorem dX10_bill_17 : decode cX10_bill 17 = .ok (.putfield 55, 3) := by decide +kernel
theorem dX10_bill_20 : decode cX10_bill 20 = .ok (.iload_n 1, 1) := by decide +kernel
theorem dX10_bill_21 : decode cX10_bill 21 = .ok (.ifCond .lt 17, 3) := by decide +kernel
theorem dX10_bill_24 : decode cX10_bill 24 = .ok (.aload_n 0, 1) := by decide +kernel
theorem dX10_bill_25 : decode cX10_bill 25 = .ok (.getfield 26, 3) := by decide +kernel
theorem dX10_bill_28 : decode cX10_bill 28 = .ok (.aload_n 0, 1) := by decide +kernel
theorem dX10_bill_29 : decode cX10_bill 29 = .ok (.getfield 19, 3) := by decide +kernel
theorem dX10_bill_32 : decode cX10_bill 32 = .ok (.getfield 66, 3) := by decide +kernel
theorem dX10_bill_35 : decode cX10_bill 35 = .ok (.invokevirtual 70, 3) := by decide +kernel
theorem dX10_bill_38 : decode cX10_bill 38 = .ok (.iload_n 1, 1) := by decide +kernel
theorem dX10_bill_39 : decode cX10_bill 39 = .ok (.ireturn, 1) := by decide +kernel
set_option maxRecDepth 20000 in
theorem ggX10_terms_X8_allow : GoodIn wsX10_terms wsX8_allow := goodIn_r _ [6, 7, 8, 9, 5, 10, 11, 12, 13] rfl (by decide +kernel)
set_option maxRecDepth 20000 in
theorem gX10_terms_X8_allow : GoodIn wsX10_terms (va_wsS RX10 74 yX8_allow wsX8_allow) := goodIn_app (goodIn_of _ (by decide +kernel)) ggX10_terms_X8_allow
set_option maxRecDepth 20000 in
theorem ggX10_terms_X8_of : GoodIn wsX10_terms wsX8_of := goodIn_r _ [17, 18, 42] rfl (by decide +kernel)
set_option maxRecDepth 20000 in
theorem gX10_terms_X8_of : GoodIn wsX10_terms (wsV RX10 84 RX8 yX8_of wsX8_of) := goodIn_app (goodIn_of _ (by decide +kernel)) ggX10_terms_X8_of
set_option maxRecDepth 20000 in
theorem ggX10_terms_X8_put : GoodIn wsX10_terms wsX8_put := goodIn_r _ [22, 18, 42] rfl (by decide +kernel)
set_option maxRecDepth 20000 in
theorem gX10_terms_X8_put : GoodIn wsX10_terms (wsV RX10 88 RX8 yX8_put wsX8_put) := goodIn_app (goodIn_of _ (by decide +kernel)) ggX10_terms_X8_put
theorem dX10_terms_0 : decode cX10_terms 0 = .ok (.iload_n 1, 1) := by decide +kernel
theorem dX10_terms_1 : decode cX10_terms 1 = .ok (.iload_n 2, 1) := by decide +kernel
theorem dX10_terms_2 : decode cX10_terms 2 = .ok (.invokestatic 74, 3) := by decide +kernel
theorem dX10_terms_5 : decode cX10_terms 5 = .ok (.ifCond .ne 5, 3) := by decide +kernel
theorem dX10_terms_8 : decode cX10_terms 8 = .ok (.iconst (-1), 1) := by decide +kernel
theorem dX10_terms_9 : decode cX10_terms 9 = .ok (.ireturn, 1) := by decide +kernel
theorem dX10_terms_10 : decode cX10_terms 10 = .ok (.aload_n 0, 1) := by decide +kernel
theorem dX10_terms_11 : decode cX10_terms 11 = .ok (.getfield 26, 3) := by decide +kernel
theorem dX10_terms_14 : decode cX10_terms 14 = .ok (.getfield 80, 3) := by decide +kernel
theorem dX10_terms_17 : decode cX10_terms 17 = .ok (.iload_n 1, 1) := by decide +kernel
theorem dX10_terms_18 : decode cX10_terms 18 = .ok (.invokevirtual 84, 3) := by decide +kernel
theorem dX10_terms_21 : decode cX10_terms 21 = .ok (.istore_n 3, 1) := by decide +kernel
theorem dX10_terms_22 : decode cX10_terms 22 = .ok (.iload_n 3, 1) := by decide +kernel
theorem dX10_terms_23 : decode cX10_terms 23 = .ok (.iload_n 2, 1) := by decide +kernel
theorem dX10_terms_24 : decode cX10_terms 24 = .ok (.if_icmp .ne 6, 3) := by decide +kernel
theorem dX10_terms_27 : decode cX10_terms 27 = .ok (.bipush (-2), 2) := by decide +kernel
theorem dX10_terms_29 : decode cX10_terms 29 = .ok (.ireturn, 1) := by decide +kernel
theorem dX10_terms_30 : decode cX10_terms 30 = .ok (.aload_n 0, 1) := by decide +kernel
theorem dX10_terms_31 : decode cX10_terms 31 = .ok (.getfield 26, 3) := by decide +kernel
theorem dX10_terms_34 : decode cX10_terms 34 = .ok (.getfield 80, 3) := by decide +kernel
theorem dX10_terms_37 : decode cX10_terms 37 = .ok (.iload_n 1, 1) := by decide +kernel
theorem dX10_terms_38 : decode cX10_terms 38 = .ok (.iload_n 2, 1) := by decide +kernel
theorem dX10_terms_39 : decode cX10_terms 39 = .ok (.invokevirtual 88, 3) := by decide +kernel
theorem dX10_terms_42 : decode cX10_terms 42 = .ok (.iload_n 3, 1) := by decide +kernel
theorem dX10_terms_43 : decode cX10_terms 43 = .ok (.ireturn, 1) := by decide +kernel
set_option maxRecDepth 20000 in
theorem ggX10_measures_X10_isMeasure : GoodIn wsX10_measures wsX10_isMeasure := goodIn_r _ [7, 1, 8, 9, 10, 6, 11, 12, 13, 14, 15, 16, 17, 18, 19, 20, 41, 42, 43, 44, 45, 46, 47, 48, 49, 50, 51, 52, 53, 54, 55, 56, 57, 58, 59, 60, 61, 62, 63, 64] rfl (by decide +kernel)
set_option maxRecDepth 20000 in
theorem gX10_measures_X10_isMeasure : GoodIn wsX10_measures (wsV RX10 92 RX10 yX10_isMeasure wsX10_isMeasure) := goodIn_app (goodIn_of _ (by decide +kernel)) ggX10_measures_X10_isMeasure
set_option maxRecDepth 20000 in
theorem ggX10_measures_X10_tellAnew : GoodIn wsX10_measures wsX10_tellAnew := goodIn_r _ [23, 24, 25, 26, 27, 28, 29, 30, 31, 32, 33, 34, 35, 36, 37, 38, 39, 40, 65, 66, 67] rfl (by decide +kernel)
set_option maxRecDepth 20000 in
theorem gX10_measures_X10_tellAnew : GoodIn wsX10_measures (va_wsS RX10 100 yX10_tellAnew wsX10_tellAnew) := goodIn_app (goodIn_of _ (by decide +kernel)) ggX10_measures_X10_tellAnew
theorem dX10_measures_0 : decode cX10_measures 0 = .ok (.aload_n 0, 1) := by decide +kernel
theorem dX10_measures_1 : decode cX10_measures 1 = .ok (.iload_n 1, 1) := by decide +kernel
theorem dX10_measures_2 : decode cX10_measures 2 = .ok (.iload_n 2, 1) := by decide +kernel
theorem dX10_measures_3 : decode cX10_measures 3 = .ok (.iload_n 3, 1) := by decide +kernel
theorem dX10_measures_4 : decode cX10_measures 4 = .ok (.invokevirtual 92, 3) := by decide +kernel
theorem dX10_measures_7 : decode cX10_measures 7 = .ok (.ifCond .ne 5, 3) := by decide +kernel
theorem dX10_measures_10 : decode cX10_measures 10 = .ok (.iconst (-1), 1) := by decide +kernel
theorem dX10_measures_11 : decode cX10_measures 11 = .ok (.ireturn, 1) := by decide +kernel
theorem dX10_measures_12 : decode cX10_measures 12 = .ok (.aload_n 0, 1) := by decide +kernel
theorem dX10_measures_13 : decode cX10_measures 13 = .ok (.getfield 26, 3) := by decide +kernel
theorem dX10_measures_16 : decode cX10_measures 16 = .ok (.getfield 96, 3) := by decide +kernel
theorem dX10_measures_19 : decode cX10_measures 19 = .ok (.iload_n 2, 1) := by decide +kernel
theorem dX10_measures_20 : decode cX10_measures 20 = .ok (.aaload, 1) := by decide +kernel
theorem dX10_measures_21 : decode cX10_measures 21 = .ok (.iload_n 1, 1) := by decide +kernel
theorem dX10_measures_22 : decode cX10_measures 22 = .ok (.iload_n 3, 1) := by decide +kernel
theorem dX10_measures_23 : decode cX10_measures 23 = .ok (.invokestatic 100, 3) := by decide +kernel
theorem dX10_measures_26 : decode cX10_measures 26 = .ok (.ireturn, 1) := by decide +kernel
set_option maxRecDepth 20000 in
theorem ggX10_strikes_X10_isMonth : GoodIn wsX10_strikes wsX10_isMonth := goodIn_r _ [7, 8, 9, 6, 10] rfl (by decide +kernel)
set_option maxRecDepth 20000 in
theorem gX10_strikes_X10_isMonth : GoodIn wsX10_strikes (va_wsS RX10 104 yX10_isMonth wsX10_isMonth) := goodIn_app (goodIn_of _ (by decide +kernel)) ggX10_strikes_X10_isMonth
set_option maxRecDepth 20000 in
theorem ggX10_strikes_X0_has : GoodIn wsX10_strikes wsX0_has := goodIn_r _ [15, 16, 53, 54, 55, 56, 57] rfl (by decide +kernel)
set_option maxRecDepth 20000 in
theorem gX10_strikes_X0_has : GoodIn wsX10_strikes (wsV RX10 110 RX0 yX0_has wsX0_has) := goodIn_app (goodIn_of _ (by decide +kernel)) ggX10_strikes_X0_has
set_option maxRecDepth 20000 in
theorem ggX10_strikes_X6_isTold : GoodIn wsX10_strikes wsX6_isTold := goodIn_r _ [21, 22, 58, 59, 60] rfl (by decide +kernel)
set_option maxRecDepth 20000 in
theorem gX10_strikes_X6_isTold : GoodIn wsX10_strikes (wsV RX10 115 RX6 yX6_isTold wsX6_isTold) := goodIn_app (goodIn_of _ (by decide +kernel)) ggX10_strikes_X6_isTold
set_option maxRecDepth 20000 in
theorem ggX10_strikes_X6_tell : GoodIn wsX10_strikes wsX6_tell := goodIn_r _ [26, 22, 27, 28, 29, 18, 19, 20, 21, 58, 59, 60] rfl (by decide +kernel)
set_option maxRecDepth 20000 in
theorem gX10_strikes_X6_tell : GoodIn wsX10_strikes (wsV RX10 120 RX6 yX6_tell wsX6_tell) := goodIn_app (goodIn_of _ (by decide +kernel)) ggX10_strikes_X6_tell
set_option maxRecDepth 20000 in
theorem ggX10_strikes_X6_latest : GoodIn wsX10_strikes wsX6_latest := goodIn_r _ [33, 27, 58, 59, 60] rfl (by decide +kernel)
set_option maxRecDepth 20000 in
theorem gX10_strikes_X6_latest : GoodIn wsX10_strikes (wsV RX10 123 RX6 yX6_latest wsX6_latest) := goodIn_app (goodIn_of _ (by decide +kernel)) ggX10_strikes_X6_latest
theorem dX10_strikes_0 : decode cX10_strikes 0 = .ok (.iload_n 1, 1) := by decide +kernel
theorem dX10_strikes_1 : decode cX10_strikes 1 = .ok (.invokestatic 104, 3) := by decide +kernel
theorem dX10_strikes_4 : decode cX10_strikes 4 = .ok (.ifCond .eq 17, 3) := by decide +kernel
theorem dX10_strikes_7 : decode cX10_strikes 7 = .ok (.aload_n 0, 1) := by decide +kernel
theorem dX10_strikes_8 : decode cX10_strikes 8 = .ok (.getfield 26, 3) := by decide +kernel
theorem dX10_strikes_11 : decode cX10_strikes 11 = .ok (.getfield 107, 3) := by decide +kernel
theorem dX10_strikes_14 : decode cX10_strikes 14 = .ok (.iload_n 2, 1) := by decide +kernel
theorem dX10_strikes_15 : decode cX10_strikes 15 = .ok (.invokevirtual 110, 3) := by decide +kernel
theorem dX10_strikes_18 : decode cX10_strikes 18 = .ok (.ifCond .ne 5, 3) := by decide +kernel
theorem dX10_strikes_21 : decode cX10_strikes 21 = .ok (.iconst (-1), 1) := by decide +kernel
theorem dX10_strikes_22 : decode cX10_strikes 22 = .ok (.ireturn, 1) := by decide +kernel
theorem dX10_strikes_23 : decode cX10_strikes 23 = .ok (.aload_n 0, 1) := by decide +kernel
theorem dX10_strikes_24 : decode cX10_strikes 24 = .ok (.getfield 26, 3) := by decide +kernel
theorem dX10_strikes_27 : decode cX10_strikes 27 = .ok (.getfield 96, 3) := by decide +kernel
theorem dX10_strikes_30 : decode cX10_strikes 30 = .ok (.iload_n 2, 1) := by decide +kernel
theorem dX10_strikes_31 : decode cX10_strikes 31 = .ok (.aaload, 1) := by decide +kernel
theorem dX10_strikes_32 : decode cX10_strikes 32 = .ok (.astore_n 3, 1) := by decide +kernel
theorem dX10_strikes_33 : decode cX10_strikes 33 = .ok (.aload_n 3, 1) := by decide +kernel
theorem dX10_strikes_34 : decode cX10_strikes 34 = .ok (.iload_n 1, 1) := by decide +kernel
theorem dX10_strikes_35 : decode cX10_strikes 35 = .ok (.invokevirtual 115, 3) := by decide +kernel
theorem dX10_strikes_38 : decode cX10_strikes 38 = .ok (.ifCond .ne 6, 3) := by decide +kernel
theorem dX10_strikes_41 : decode cX10_strikes 41 = .ok (.bipush (-2), 2) := by decide +kernel
theorem dX10_strikes_43 : decode cX10_strikes 43 = .ok (.ireturn, 1) := by decide +kernel
theorem dX10_strikes_44 : decode cX10_strikes 44 = .ok (.aload_n 3, 1) := by decide +kernel
theorem dX10_strikes_45 : decode cX10_strikes 45 = .ok (.iload_n 1, 1) := by decide +kernel
theorem dX10_strikes_46 : decode cX10_strikes 46 = .ok (.iconst (-1), 1) := by decide +kernel
theorem dX10_strikes_47 : decode cX10_strikes 47 = .ok (.invokevirtual 120, 3) := by decide +kernel
theorem dX10_strikes_50 : decode cX10_strikes 50 = .ok (.aload_n 3, 1) := by decide +kernel
theorem dX10_strikes_51 : decode cX10_strikes 51 = .ok (.iload_n 1, 1) := by decide +kernel
theorem dX10_strikes_52 : decode cX10_strikes 52 = .ok (.invokevirtual 123, 3) := by decide +kernel
theorem dX10_strikes_55 : decode cX10_strikes 55 = .ok (.ireturn, 1) := by decide +kernel
set_option maxRecDepth 20000 in
theorem ggX10_stores_X10_isMonth : GoodIn wsX10_stores wsX10_isMonth := goodIn_r _ [7, 8, 9, 6, 10] rfl (by decide +kernel)
set_option maxRecDepth 20000 in
theorem gX10_stores_X10_isMonth : GoodIn wsX10_stores (va_wsS RX10 104 yX10_isMonth wsX10_isMonth) := goodIn_app (goodIn_of _ (by decide +kernel)) ggX10_stores_X10_isMonth
set_option maxRecDepth 20000 in
theorem ggX10_stores_X10_isWithin : GoodIn wsX10_stores wsX10_isWithin := goodIn_r _ [10] rfl (by decide +kernel)
set_option maxRecDepth 20000 in
theorem gX10_stores_X10_isWithin : GoodIn wsX10_stores (va_wsS RX10 127 yX10_isWithin wsX10_isWithin) := goodIn_app (goodIn_of _ (by decide +kernel)) ggX10_stores_X10_isWithin
set_option maxRecDepth 20000 in
theorem ggX10_stores_X10_tellAnew : GoodIn wsX10_stores wsX10_tellAnew := goodIn_r _ [13, 14, 15, 16, 17, 18, 19, 20, 21, 22, 23, 24, 25, 26, 27, 28, 29, 30, 50, 51, 52] rfl (by decide +kernel)
set_option maxRecDepth 20000 in
theorem gX10_stores_X10_tellAnew : GoodIn wsX10_stores (va_wsS RX10 100 yX10_tellAnew wsX10_tellAnew) := goodIn_app (goodIn_of _ (by decide +kernel)) ggX10_stores_X10_tellAnew
theorem dX10_stores_0 : decode cX10_stores 0 = .ok (.iload_n 1, 1) := by decide +kernel
theorem dX10_stores_1 : decode cX10_stores 1 = .ok (.invokestatic 104, 3) := by decide +kernel
theorem dX10_stores_4 : decode cX10_stores 4 = .ok (.ifCond .eq 13, 3) := by decide +kernel
theorem dX10_stores_7 : decode cX10_stores 7 = .ok (.iload_n 2, 1) := by decide +kernel
theorem dX10_stores_8 : decode cX10_stores 8 = .ok (.iconst 0, 1) := by decide +kernel
theorem dX10_stores_9 : decode cX10_stores 9 = .ok (.ldc 126, 2) := by decide +kernel
theorem dX10_stores_11 : decode cX10_stores 11 = .ok (.invokestatic 127, 3) := by decide +kernel
theorem dX10_stores_14 : decode cX10_stores 14 = .ok (.ifCond .ne 5, 3) := by decide +kernel
theorem dX10_stores_17 : decode cX10_stores 17 = .ok (.iconst (-1), 1) := by decide +kernel
theorem dX10_stores_18 : decode cX10_stores 18 = .ok (.ireturn, 1) := by decide +kernel
theorem dX10_stores_19 : decode cX10_stores 19 = .ok (.aload_n 0, 1) := by decide +kernel
theorem dX10_stores_20 : decode cX10_stores 20 = .ok (.getfield 26, 3) := by decide +kernel
theorem dX10_stores_23 : decode cX10_stores 23 = .ok (.getfield 130, 3) := by decide +kernel
theorem dX10_stores_26 : decode cX10_stores 26 = .ok (.iload_n 1, 1) := by decide +kernel
theorem dX10_stores_27 : decode cX10_stores 27 = .ok (.iload_n 2, 1) := by decide +kernel
theorem dX10_stores_28 : decode cX10_stores 28 = .ok (.invokestatic 100, 3) := by decide +kernel
theorem dX10_stores_31 : decode cX10_stores 31 = .ok (.ireturn, 1) := by decide +kernel
set_option maxRecDepth 20000 in
theorem ggX10_change_X10_isMonth : GoodIn wsX10_change wsX10_isMonth := goodIn_r _ [8, 9, 10, 7, 11] rfl (by decide +kernel)
set_option maxRecDepth 20000 in
theorem gX10_change_X10_isMonth : GoodIn wsX10_change (va_wsS RX10 104 yX10_isMonth wsX10_isMonth) := goodIn_app (goodIn_of _ (by decide +kernel)) ggX10_change_X10_isMonth
set_option maxRecDepth 20000 in
theorem ggX10_change_X10_isKind : GoodIn wsX10_change wsX10_isKind := goodIn_r _ [14, 9, 10, 7, 11] rfl (by decide +kernel)
set_option maxRecDepth 20000 in
theorem gX10_change_X10_isKind : GoodIn wsX10_change (va_wsS RX10 134 yX10_isKind wsX10_isKind) := goodIn_app (goodIn_of _ (by decide +kernel)) ggX10_change_X10_isKind
set_option maxRecDepth 20000 in
theorem ggX10_change_X10_isChanged : GoodIn wsX10_change wsX10_isChanged := goodIn_r _ [17, 9, 10, 7, 11] rfl (by decide +kernel)
set_option maxRecDepth 20000 in
theorem gX10_change_X10_isChanged : GoodIn wsX10_change (va_wsS RX10 137 yX10_isChanged wsX10_isChanged) := goodIn_app (goodIn_of _ (by decide +kernel)) ggX10_change_X10_isChanged
set_option maxRecDepth 20000 in
theorem ggX10_change_X10_isRate : GoodIn wsX10_change wsX10_isRate := goodIn_r _ [20, 9, 10, 7, 11] rfl (by decide +kernel)
set_option maxRecDepth 20000 in
theorem gX10_change_X10_isRate : GoodIn wsX10_change (va_wsS RX10 140 yX10_isRate wsX10_isRate) := goodIn_app (goodIn_of _ (by decide +kernel)) ggX10_change_X10_isRate
set_option maxRecDepth 20000 in
theorem ggX10_change_X0_price : GoodIn wsX10_change wsX0_price := goodIn_r _ [25, 26, 27, 28, 29, 64, 65, 66, 67, 68] rfl (by decide +kernel)
set_option maxRecDepth 20000 in
theorem gX10_change_X0_price : GoodIn wsX10_change (wsV RX10 150 RX0 yX0_price wsX0_price) := goodIn_app (goodIn_of _ (by decide +kernel)) ggX10_change_X0_price
set_option maxRecDepth 20000 in
theorem ggX10_change_X3_add : GoodIn wsX10_change wsX3_add := goodIn_r _ [34, 35, 36, 37, 38, 39, 59, 60, 61, 62, 63] rfl (by decide +kernel)
set_option maxRecDepth 20000 in
theorem gX10_change_X3_add : GoodIn wsX10_change (wsV RX10 154 RX3 yX3_add wsX3_add) := goodIn_app (goodIn_of _ (by decide +kernel)) ggX10_change_X3_add
theorem dX10_change_0 : decode cX10_change 0 = .ok (.iload_n 1, 1) := by decide +kernel
theorem dX10_change_1 : decode cX10_change 1 = .ok (.invokestatic 104, 3) := by decide +kernel
theorem dX10_change_4 : decode cX10_change 4 = .ok (.ifCond .eq 25, 3) := by decide +kernel
theorem dX10_change_7 : decode cX10_change 7 = .ok (.iload_n 2, 1) := by decide +kernel
theorem dX10_change_8 : decode cX10_change 8 = .ok (.invokestatic 134, 3) := by decide +kernel
theorem dX10_change_11 : decode cX10_change 11 = .ok (.ifCond .eq 18, 3) := by decide +kernel
theorem dX10_change_14 : decode cX10_change 14 = .ok (.iload_n 3, 1) := by decide +kernel
theorem dX10_change_15 : decode cX10_change 15 = .ok (.invokestatic 137, 3) := by decide +kernel
theorem dX10_change_18 : decode cX10_change 18 = .ok (.ifCond .eq 11, 3) := by decide +kernel
theorem dX10_change_21 : decode cX10_change 21 = .ok (.iload 4, 2) := by decide +kernel
theorem dX10_change_23 : decode cX10_change 23 = .ok (.invokestatic 140, 3) := by decide +kernel
theorem dX10_change_26 : decode cX10_change 26 = .ok (.ifCond .ne 5, 3) := by decide +kernel
theorem dX10_change_29 : decode cX10_change 29 = .ok (.iconst (-1), 1) := by decide +kernel
theorem dX10_change_30 : decode cX10_change 30 = .ok (.ireturn, 1) := by decide +kernel
theorem dX10_change_31 : decode cX10_change 31 = .ok (.aload_n 0, 1) := by decide +kernel
theorem dX10_change_32 : decode cX10_change 32 = .ok (.getfield 26, 3) := by decide +kernel
theorem dX10_change_35 : decode cX10_change 35 = .ok (.getfield 143, 3) := by decide +kernel
theorem dX10_change_38 : decode cX10_change 38 = .ok (.getfield 147, 3) := by decide +kernel
theorem dX10_change_41 : decode cX10_change 41 = .ok (.bipush 8, 2) := by decide +kernel
theorem dX10_change_43 : decode cX10_change 43 = .ok (.if_icmp .lt 6, 3) := by decide +kernel
theorem dX10_change_46 : decode cX10_change 46 = .ok (.bipush (-2), 2) := by decide +kernel
theorem dX10_change_48 : decode cX10_change 48 = .ok (.ireturn, 1) := by decide +kernel
theorem dX10_change_49 : decode cX10_change 49 = .ok (.aload_n 0, 1) := by decide +kernel
theorem dX10_change_50 : decode cX10_change 50 = .ok (.getfield 26, 3) := by decide +kernel
theorem dX10_change_53 : decode cX10_change 53 = .ok (.getfield 143, 3) := by decide +kernel
theorem dX10_change_56 : decode cX10_change 56 = .ok (.iload_n 1, 1) := by decide +kernel
theorem dX10_change_57 : decode cX10_change 57 = .ok (.iload_n 2, 1) := by decide +kernel
theorem dX10_change_58 : decode cX10_change 58 = .ok (.iload_n 3, 1) := by decide +kernel
theorem dX10_change_59 : decode cX10_change 59 = .ok (.aload_n 0, 1) := by decide +kernel
theorem dX10_change_60 : decode cX10_change 60 = .ok (.getfield 26, 3) := by decide +kernel
theorem dX10_change_63 : decode cX10_change 63 = .ok (.getfield 107, 3) := by decide +kernel
theorem dX10_change_66 : decode cX10_change 66 = .ok (.iload_n 2, 1) := by decide +kernel
theorem dX10_change_67 : decode cX10_change 67 = .ok (.iload 4, 2) := by decide +kernel
theorem dX10_change_69 : decode cX10_change 69 = .ok (.invokevirtual 150, 3) := by decide +kernel
theorem dX10_change_72 : decode cX10_change 72 = .ok (.invokevirtual 154, 3) := by decide +kernel
theorem dX10_change_75 : decode cX10_change 75 = .ok (.ireturn, 1) := by decide +kernel
set_option maxRecDepth 20000 in
theorem ggX10_alters_X3_has : GoodIn wsX10_alters wsX3_has := goodIn_r _ [8, 9, 36, 37, 38, 39, 40] rfl (by decide +kernel)
set_option maxRecDepth 20000 in
theorem gX10_alters_X3_has : GoodIn wsX10_alters (wsV RX10 158 RX3 yX3_has wsX3_has) := goodIn_app (goodIn_of _ (by decide +kernel)) ggX10_alters_X3_has
set_option maxRecDepth 20000 in
theorem ggX10_alters_X10_isChanged : GoodIn wsX10_alters wsX10_isChanged := goodIn_r _ [13, 14, 15, 12, 16] rfl (by decide +kernel)
set_option maxRecDepth 20000 in
theorem gX10_alters_X10_isChanged : GoodIn wsX10_alters (va_wsS RX10 137 yX10_isChanged wsX10_isChanged) := goodIn_app (goodIn_of _ (by decide +kernel)) ggX10_alters_X10_isChanged
theorem dX10_alters_0 : decode cX10_alters 0 = .ok (.aload_n 0, 1) := by decide +kernel
theorem dX10_alters_1 : decode cX10_alters 1 = .ok (.getfield 26, 3) := by decide +kernel
theorem dX10_alters_4 : decode cX10_alters 4 = .ok (.getfield 143, 3) := by decide +kernel
theorem dX10_alters_7 : decode cX10_alters 7 = .ok (.iload_n 1, 1) := by decide +kernel
theorem dX10_alters_8 : decode cX10_alters 8 = .ok (.invokevirtual 158, 3) := by decide +kernel
theorem dX10_alters_11 : decode cX10_alters 11 = .ok (.ifCond .eq 10, 3) := by decide +kernel
theorem dX10_alters_14 : decode cX10_alters 14 = .ok (.iload_n 2, 1) := by decide +kernel
theorem dX10_alters_15 : decode cX10_alters 15 = .ok (.invokestatic 137, 3) := by decide +kernel
theorem dX10_alters_18 : decode cX10_alters 18 = .ok (.ifCond .ne 5, 3) := by decide +kernel
theorem dX10_alters_21 : decode cX10_alters 21 = .ok (.iconst (-1), 1) := by decide +kernel
theorem dX10_alters_22 : decode cX10_alters 22 = .ok (.ireturn, 1) := by decide +kernel
theorem dX10_alters_23 : decode cX10_alters 23 = .ok (.aload_n 0, 1) := by decide +kernel
theorem dX10_alters_24 : decode cX10_alters 24 = .ok (.getfield 26, 3) := by decide +kernel
theorem dX10_alters_27 : decode cX10_alters 27 = .ok (.getfield 143, 3) := by decide +kernel
theorem dX10_alters_30 : decode cX10_alters 30 = .ok (.getfield 159, 3) := by decide +kernel
theorem dX10_alters_33 : decode cX10_alters 33 = .ok (.iload_n 1, 1) := by decide +kernel
theorem dX10_alters_34 : decode cX10_alters 34 = .ok (.iaload, 1) := by decide +kernel
theorem dX10_alters_35 : decode cX10_alters 35 = .ok (.istore_n 3, 1) := by decide +kernel
theorem dX10_alters_36 : decode cX10_alters 36 = .ok (.iload_n 3, 1) := by decide +kernel
theorem dX10_alters_37 : decode cX10_alters 37 = .ok (.iload_n 2, 1) := by decide +kernel
theorem dX10_alters_38 : decode cX10_alters 38 = .ok (.if_icmp .ne 6, 3) := by decide +kernel
theorem dX10_alters_41 : decode cX10_alters 41 = .ok (.bipush (-2), 2) := by decide +kernel
theorem dX10_alters_43 : decode cX10_alters 43 = .ok (.ireturn, 1) := by decide +kernel
theorem dX10_alters_44 : decode cX10_alters 44 = .ok (.aload_n 0, 1) := by decide +kernel
theorem dX10_alters_45 : decode cX10_alters 45 = .ok (.getfield 26, 3) := by decide +kernel
theorem dX10_alters_48 : decode cX10_alters 48 = .ok (.getfield 143, 3) := by decide +kernel
theorem dX10_alters_51 : decode cX10_alters 51 = .ok (.getfield 159, 3) := by decide +kernel
theorem dX10_alters_54 : decode cX10_alters 54 = .ok (.iload_n 1, 1) := by decide +kernel
theorem dX10_alters_55 : decode cX10_alters 55 = .ok (.iload_n 2, 1) := by decide +kernel
theorem dX10_alters_56 : decode cX10_alters 56 = .ok (.iastore, 1) := by decide +kernel
theorem dX10_alters_57 : decode cX10_alters 57 = .ok (.iload_n 3, 1) := by decide +kernel
theorem dX10_alters_58 : decode cX10_alters 58 = .ok (.ireturn, 1) := by decide +kernel
set_option maxRecDepth 20000 in
theorem ggX10_setsOff_X10_isMonth : GoodIn wsX10_setsOff wsX10_isMonth := goodIn_r _ [8, 9, 10, 7, 11] rfl (by decide +kernel)
set_option maxRecDepth 20000 in
theorem gX10_setsOff_X10_isMonth : GoodIn wsX10_setsOff (va_wsS RX10 104 yX10_isMonth wsX10_isMonth) := goodIn_app (goodIn_of _ (by decide +kernel)) ggX10_setsOff_X10_isMonth
set_option maxRecDepth 20000 in
theorem ggX10_setsOff_X10_isWithin : GoodIn wsX10_setsOff wsX10_isWithin := goodIn_r _ [11] rfl (by decide +kernel)
set_option maxRecDepth 20000 in
theorem gX10_setsOff_X10_isWithin : GoodIn wsX10_setsOff (va_wsS RX10 127 yX10_isWithin wsX10_isWithin) := goodIn_app (goodIn_of _ (by decide +kernel)) ggX10_setsOff_X10_isWithin
set_option maxRecDepth 20000 in
theorem ggX10_setsOff_X7_add : GoodIn wsX10_setsOff wsX7_add := goodIn_r _ [16, 17, 18, 19, 20, 21, 22, 42, 43, 44, 45, 46, 47] rfl (by decide +kernel)
set_option maxRecDepth 20000 in
theorem gX10_setsOff_X7_add : GoodIn wsX10_setsOff (wsV RX10 170 RX7 yX7_add wsX7_add) := goodIn_app (goodIn_of _ (by decide +kernel)) ggX10_setsOff_X7_add
theorem dX10_setsOff_0 : decode cX10_setsOff 0 = .ok (.iload_n 1, 1) := by decide +kernel
theorem dX10_setsOff_1 : decode cX10_setsOff 1 = .ok (.invokestatic 104, 3) := by decide +kernel
theorem dX10_setsOff_4 : decode cX10_setsOff 4 = .ok (.ifCond .eq 13, 3) := by decide +kernel
theorem dX10_setsOff_7 : decode cX10_setsOff 7 = .ok (.iload_n 2, 1) := by decide +kernel
theorem dX10_setsOff_8 : decode cX10_setsOff 8 = .ok (.iconst 1, 1) := by decide +kernel
theorem dX10_setsOff_9 : decode cX10_setsOff 9 = .ok (.ldc 126, 2) := by decide +kernel
theorem dX10_setsOff_11 : decode cX10_setsOff 11 = .ok (.invokestatic 127, 3) := by decide +kernel
theorem dX10_setsOff_14 : decode cX10_setsOff 14 = .ok (.ifCond .ne 5, 3) := by decide +kernel
theorem dX10_setsOff_17 : decode cX10_setsOff 17 = .ok (.iconst (-1), 1) := by decide +kernel
theorem dX10_setsOff_18 : decode cX10_setsOff 18 = .ok (.ireturn, 1) := by decide +kernel
theorem dX10_setsOff_19 : decode cX10_setsOff 19 = .ok (.aload_n 0, 1) := by decide +kernel
theorem dX10_setsOff_20 : decode cX10_setsOff 20 = .ok (.getfield 26, 3) := by decide +kernel
theorem dX10_setsOff_23 : decode cX10_setsOff 23 = .ok (.getfield 163, 3) := by decide +kernel
theorem dX10_setsOff_26 : decode cX10_setsOff 26 = .ok (.getfield 167, 3) := by decide +kernel
theorem dX10_setsOff_29 : decode cX10_setsOff 29 = .ok (.bipush 6, 2) := by decide +kernel
theorem dX10_setsOff_31 : decode cX10_setsOff 31 = .ok (.if_icmp .lt 6, 3) := by decide +kernel
theorem dX10_setsOff_34 : decode cX10_setsOff 34 = .ok (.bipush (-2), 2) := by decide +kernel
theorem dX10_setsOff_36 : decode cX10_setsOff 36 = .ok (.ireturn, 1) := by decide +kernel
theorem dX10_setsOff_37 : decode cX10_setsOff 37 = .ok (.aload_n 0, 1) := by decide +kernel
theorem dX10_setsOff_38 : decode cX10_setsOff 38 = .ok (.getfield 26, 3) := by decide +kernel
theorem dX10_setsOff_41 : decode cX10_setsOff 41 = .ok (.getfield 163, 3) := by decide +kernel
theorem dX10_setsOff_44 : decode cX10_setsOff 44 = .ok (.iload_n 1, 1) := by decide +kernel
theorem dX10_setsOff_45 : decode cX10_setsOff 45 = .ok (.iload_n 2, 1) := by decide +kernel
theorem dX10_setsOff_46 : decode cX10_setsOff 46 = .ok (.invokevirtual 170, 3) := by decide +kernel
theorem dX10_setsOff_49 : decode cX10_setsOff 49 = .ok (.ireturn, 1) := by decide +kernel
set_option maxRecDepth 20000 in
theorem ggX10_disputes_X10_isDispute : GoodIn wsX10_disputes wsX10_isDispute := goodIn_r _ [8, 1, 2, 9, 10, 11, 12, 13, 14, 15, 16, 17, 7, 18, 19, 20, 21, 37, 38, 39, 40, 41, 42, 43, 44, 45, 46, 47, 48, 49, 50, 51, 52, 53, 54, 55, 56, 57, 58, 59, 60, 61] rfl (by decide +kernel)
set_option maxRecDepth 20000 in
theorem gX10_disputes_X10_isDispute : GoodIn wsX10_disputes (wsV RX10 172 RX10 yX10_isDispute wsX10_isDispute) := goodIn_app (goodIn_of _ (by decide +kernel)) ggX10_disputes_X10_isDispute
set_option maxRecDepth 20000 in
theorem ggX10_disputes_X7_isDisputed : GoodIn wsX10_disputes wsX7_isDisputed := goodIn_r _ [25, 26, 56, 57, 58, 59, 60, 61] rfl (by decide +kernel)
set_option maxRecDepth 20000 in
theorem gX10_disputes_X7_isDisputed : GoodIn wsX10_disputes (wsV RX10 175 RX7 yX7_isDisputed wsX7_isDisputed) := goodIn_app (goodIn_of _ (by decide +kernel)) ggX10_disputes_X7_isDisputed
set_option maxRecDepth 20000 in
theorem ggX10_disputes_X7_open : GoodIn wsX10_disputes wsX7_open := goodIn_r _ [30, 15, 31, 23, 24, 13, 25, 26, 32, 33, 34, 35, 36, 56, 57, 58, 59, 60, 61] rfl (by decide +kernel)
set_option maxRecDepth 20000 in
theorem gX10_disputes_X7_open : GoodIn wsX10_disputes (wsV RX10 181 RX7 yX7_open wsX7_open) := goodIn_app (goodIn_of _ (by decide +kernel)) ggX10_disputes_X7_open
theorem dX10_disputes_0 : decode cX10_disputes 0 = .ok (.aload_n 0, 1) := by decide +kernel
theorem dX10_disputes_1 : decode cX10_disputes 1 = .ok (.iload_n 1, 1) := by decide +kernel
theorem dX10_disputes_2 : decode cX10_disputes 2 = .ok (.iload_n 2, 1) := by decide +kernel
theorem dX10_disputes_3 : decode cX10_disputes 3 = .ok (.invokevirtual 172, 3) := by decide +kernel
theorem dX10_disputes_6 : decode cX10_disputes 6 = .ok (.ifCond .ne 5, 3) := by decide +kernel
theorem dX10_disputes_9 : decode cX10_disputes 9 = .ok (.iconst (-1), 1) := by decide +kernel
theorem dX10_disputes_10 : decode cX10_disputes 10 = .ok (.ireturn, 1) := by decide +kernel
theorem dX10_disputes_11 : decode cX10_disputes 11 = .ok (.aload_n 0, 1) := by decide +kernel
theorem dX10_disputes_12 : decode cX10_disputes 12 = .ok (.getfield 26, 3) := by decide +kernel
theorem dX10_disputes_15 : decode cX10_disputes 15 = .ok (.getfield 163, 3) := by decide +kernel
theorem dX10_disputes_18 : decode cX10_disputes 18 = .ok (.iload_n 1, 1) := by decide +kernel
theorem dX10_disputes_19 : decode cX10_disputes 19 = .ok (.invokevirtual 175, 3) := by decide +kernel
theorem dX10_disputes_22 : decode cX10_disputes 22 = .ok (.ifCond .eq 6, 3) := by decide +kernel
theorem dX10_disputes_25 : decode cX10_disputes 25 = .ok (.bipush (-2), 2) := by decide +kernel
theorem dX10_disputes_27 : decode cX10_disputes 27 = .ok (.ireturn, 1) := by decide +kernel
theorem dX10_disputes_28 : decode cX10_disputes 28 = .ok (.aload_n 0, 1) := by decide +kernel
theorem dX10_disputes_29 : decode cX10_disputes 29 = .ok (.getfield 26, 3) := by decide +kernel
theorem dX10_disputes_32 : decode cX10_disputes 32 = .ok (.getfield 163, 3) := by decide +kernel
theorem dX10_disputes_35 : decode cX10_disputes 35 = .ok (.getfield 178, 3) := by decide +kernel
theorem dX10_disputes_38 : decode cX10_disputes 38 = .ok (.iload_n 1, 1) := by decide +kernel
theorem dX10_disputes_39 : decode cX10_disputes 39 = .ok (.iload_n 2, 1) := by decide +kernel
theorem dX10_disputes_40 : decode cX10_disputes 40 = .ok (.iastore, 1) := by decide +kernel
theorem dX10_disputes_41 : decode cX10_disputes 41 = .ok (.aload_n 0, 1) := by decide +kernel
theorem dX10_disputes_42 : decode cX10_disputes 42 = .ok (.getfield 26, 3) := by decide +kernel
theorem dX10_disputes_45 : decode cX10_disputes 45 = .ok (.getfield 163, 3) := by decide +kernel
theorem dX10_disputes_48 : decode cX10_disputes 48 = .ok (.invokevirtual 181, 3) := by decide +kernel
theorem dX10_disputes_51 : decode cX10_disputes 51 = .ok (.ireturn, 1) := by decide +kernel
set_option maxRecDepth 20000 in
theorem ggX10_decides_X7_has : GoodIn wsX10_decides wsX7_has := goodIn_r _ [10, 11, 58, 59, 60, 61, 62, 63] rfl (by decide +kernel)
set_option maxRecDepth 20000 in
theorem gX10_decides_X7_has : GoodIn wsX10_decides (wsV RX10 185 RX7 yX7_has wsX7_has) := goodIn_app (goodIn_of _ (by decide +kernel)) ggX10_decides_X7_has
set_option maxRecDepth 20000 in
theorem ggX10_decides_X10_isMonth : GoodIn wsX10_decides wsX10_isMonth := goodIn_r _ [15, 16, 17, 14, 18] rfl (by decide +kernel)
set_option maxRecDepth 20000 in
theorem gX10_decides_X10_isMonth : GoodIn wsX10_decides (va_wsS RX10 104 yX10_isMonth wsX10_isMonth) := goodIn_app (goodIn_of _ (by decide +kernel)) ggX10_decides_X10_isMonth
set_option maxRecDepth 20000 in
theorem ggX10_decides_X10_isWithin : GoodIn wsX10_decides wsX10_isWithin := goodIn_r _ [18] rfl (by decide +kernel)
set_option maxRecDepth 20000 in
theorem gX10_decides_X10_isWithin : GoodIn wsX10_decides (va_wsS RX10 127 yX10_isWithin wsX10_isWithin) := goodIn_app (goodIn_of _ (by decide +kernel)) ggX10_decides_X10_isWithin
set_option maxRecDepth 20000 in
theorem ggX10_decides_X7_isDisputed : GoodIn wsX10_decides wsX7_isDisputed := goodIn_r _ [22, 23, 58, 59, 60, 61, 62, 63] rfl (by decide +kernel)
set_option maxRecDepth 20000 in
theorem gX10_decides_X7_isDisputed : GoodIn wsX10_decides (wsV RX10 175 RX7 yX7_isDisputed wsX7_isDisputed) := goodIn_app (goodIn_of _ (by decide +kernel)) ggX10_decides_X7_isDisputed
set_option maxRecDepth 20000 in
theorem ggX10_decides_X7_isDecided : GoodIn wsX10_decides wsX7_isDecided := goodIn_r _ [27, 28, 58, 59, 60, 61, 62, 63] rfl (by decide +kernel)
set_option maxRecDepth 20000 in
theorem gX10_decides_X7_isDecided : GoodIn wsX10_decides (wsV RX10 186 RX7 yX7_isDecided wsX7_isDecided) := goodIn_app (goodIn_of _ (by decide +kernel)) ggX10_decides_X7_isDecided
set_option maxRecDepth 20000 in
theorem ggX10_decides_X7_heldIn : GoodIn wsX10_decides wsX7_heldIn := goodIn_r _ [32, 33, 28, 34, 35, 23, 36, 14, 37, 38, 58, 59, 60, 61, 62, 63] rfl (by decide +kernel)
set_option maxRecDepth 20000 in
theorem gX10_decides_X7_heldIn : GoodIn wsX10_decides (wsV RX10 195 RX7 yX7_heldIn wsX7_heldIn) := goodIn_app (goodIn_of _ (by decide +kernel)) ggX10_decides_X7_heldIn
theorem dX10_decides_0 : decode cX10_decides 0 = .ok (.aload_n 0, 1) := by decide +kernel
theorem dX10_decides_1 : decode cX10_decides 1 = .ok (.getfield 26, 3) := by decide +kernel
theorem dX10_decides_4 : decode cX10_decides 4 = .ok (.getfield 163, 3) := by decide +kernel
theorem dX10_decides_7 : decode cX10_decides 7 = .ok (.astore 4, 2) := by decide +kernel
theorem dX10_decides_9 : decode cX10_decides 9 = .ok (.aload 4, 2) := by decide +kernel
theorem dX10_decides_11 : decode cX10_decides 11 = .ok (.iload_n 1, 1) := by decide +kernel
theorem dX10_decides_12 : decode cX10_decides 12 = .ok (.invokevirtual 185, 3) := by decide +kernel
theorem dX10_decides_15 : decode cX10_decides 15 = .ok (.ifCond .eq 21, 3) := by decide +kernel
theorem dX10_decides_18 : decode cX10_decides 18 = .ok (.iload_n 2, 1) := by decide +kernel
theorem dX10_decides_19 : decode cX10_decides 19 = .ok (.invokestatic 104, 3) := by decide +kernel
theorem dX10_decides_22 : decode cX10_decides 22 = .ok (.ifCond .eq 14, 3) := by decide +kernel
theorem dX10_decides_25 : decode cX10_decides 25 = .ok (.iload_n 3, 1) := by decide +kernel
theorem dX10_decides_26 : decode cX10_decides 26 = .ok (.iconst 0, 1) := by decide +kernel
theorem dX10_decides_27 : decode cX10_decides 27 = .ok (.sipush 1000, 3) := by decide +kernel
theorem dX10_decides_30 : decode cX10_decides 30 = .ok (.invokestatic 127, 3) := by decide +kernel
theorem dX10_decides_33 : decode cX10_decides 33 = .ok (.ifCond .ne 5, 3) := by decide +kernel
theorem dX10_decides_36 : decode cX10_decides 36 = .ok (.iconst (-1), 1) := by decide +kernel
theorem dX10_decides_37 : decode cX10_decides 37 = .ok (.ireturn, 1) := by decide +kernel
theorem dX10_decides_38 : decode cX10_decides 38 = .ok (.aload 4, 2) := by decide +kernel
theorem dX10_decides_40 : decode cX10_decides 40 = .ok (.iload_n 1, 1) := by decide +kernel
theorem dX10_decides_41 : decode cX10_decides 41 = .ok (.invokevirtual 175, 3) := by decide +kernel
theorem dX10_decides_44 : decode cX10_decides 44 = .ok (.istore 5, 2) := by decide +kernel
theorem dX10_decides_46 : decode cX10_decides 46 = .ok (.iload 5, 2) := by decide +kernel
theorem dX10_decides_48 : decode cX10_decides 48 = .ok (.ifCond .eq 16, 3) := by decide +kernel
theorem dX10_decides_51 : decode cX10_decides 51 = .ok (.iload_n 2, 1) := by decide +kernel
theorem dX10_decides_52 : decode cX10_decides 52 = .ok (.aload 4, 2) := by decide +kernel
theorem dX10_decides_54 : decode cX10_decides 54 = .ok (.getfield 178, 3) := by decide +kernel
theorem dX10_decides_57 : decode cX10_decides 57 = .ok (.iload_n 1, 1) := by decide +kernel
theorem dX10_decides_58 : decode cX10_decides 58 = .ok (.iaload, 1) := by decide +kernel
theorem dX10_decides_59 : decode cX10_decides 59 = .ok (.if_icmp .ge 5, 3) := by decide +kernel
theorem dX10_decides_62 : decode cX10_decides 62 = .ok (.iconst (-1), 1) := by decide +kernel
theorem dX10_decides_63 : decode cX10_decides 63 = .ok (.ireturn, 1) := by decide +kernel
theorem dX10_decides_64 : decode cX10_decides 64 = .ok (.iload 5, 2) := by decide +kernel
theorem dX10_decides_66 : decode cX10_decides 66 = .ok (.ifCond .ne 6, 3) := by decide +kernel
theorem dX10_decides_69 : decode cX10_decides 69 = .ok (.bipush (-2), 2) := by decide +kernel
theorem dX10_decides_71 : decode cX10_decides 71 = .ok (.ireturn, 1) := by decide +kernel
theorem dX10_decides_72 : decode cX10_decides 72 = .ok (.aload 4, 2) := by decide +kernel
theorem dX10_decides_74 : decode cX10_decides 74 = .ok (.iload_n 1, 1) := by decide +kernel
theorem dX10_decides_75 : decode cX10_decides 75 = .ok (.invokevirtual 186, 3) := by decide +kernel
theorem dX10_decides_78 : decode cX10_decides 78 = .ok (.ifCond .eq 6, 3) := by decide +kernel
theorem dX10_decides_81 : decode cX10_decides 81 = .ok (.bipush (-3), 2) := by decide +kernel
theorem dX10_decides_83 : decode cX10_decides 83 = .ok (.ireturn, 1) := by decide +kernel
theorem dX10_decides_84 : decode cX10_decides 84 = .ok (.aload 4, 2) := by decide +kernel
theorem dX10_decides_86 : decode cX10_decides 86 = .ok (.getfield 189, 3) := by decide +kernel
theorem dX10_decides_89 : decode cX10_decides 89 = .ok (.iload_n 1, 1) := by decide +kernel
theorem dX10_decides_90 : decode cX10_decides 90 = .ok (.iload_n 2, 1) := by decide +kernel
theorem dX10_decides_91 : decode cX10_decides 91 = .ok (.iastore, 1) := by decide +kernel
theorem dX10_decides_92 : decode cX10_decides 92 = .ok (.aload 4, 2) := by decide +kernel
theorem dX10_decides_94 : decode cX10_decides 94 = .ok (.getfield 192, 3) := by decide +kernel
theorem dX10_decides_97 : decode cX10_decides 97 = .ok (.iload_n 1, 1) := by decide +kernel
theorem dX10_decides_98 : decode cX10_decides 98 = .ok (.iload_n 3, 1) := by decide +kernel
theorem dX10_decides_99 : decode cX10_decides 99 = .ok (.iastore, 1) := by decide +kernel
theorem dX10_decides_100 : decode cX10_decides 100 = .ok (.aload 4, 2) := by decide +kernel
theorem dX10_decides_102 : decode cX10_decides 102 = .ok (.iload_n 1, 1) := by decide +kernel
theorem dX10_decides_103 : decode cX10_decides 103 = .ok (.iload_n 2, 1) := by decide +kernel
theorem dX10_decides_104 : decode cX10_decides 104 = .ok (.invokevirtual 195, 3) := by decide +kernel
theorem dX10_decides_107 : decode cX10_decides 107 = .ok (.ireturn, 1) := by decide +kernel
set_option maxRecDepth 20000 in
theorem ggX10_handover_X10_isMonth : GoodIn wsX10_handover wsX10_isMonth := goodIn_r _ [7, 8, 9, 6, 10] rfl (by decide +kernel)
set_option maxRecDepth 20000 in
theorem gX10_handover_X10_isMonth : GoodIn wsX10_handover (va_wsS RX10 104 yX10_isMonth wsX10_isMonth) := goodIn_app (goodIn_of _ (by decide +kernel)) ggX10_handover_X10_isMonth
theorem dX10_handover_0 : decode cX10_handover 0 = .ok (.iload_n 1, 1) := by decide +kernel
theorem dX10_handover_1 : decode cX10_handover 1 = .ok (.invokestatic 104, 3) := by decide +kernel
theorem dX10_handover_4 : decode cX10_handover 4 = .ok (.ifCond .ne 5, 3) := by decide +kernel
theorem dX10_handover_7 : decode cX10_handover 7 = .ok (.iconst (-1), 1) := by decide +kernel
theorem dX10_handover_8 : decode cX10_handover 8 = .ok (.ireturn, 1) := by decide +kernel
theorem dX10_handover_9 : decode cX10_handover 9 = .ok (.aload_n 0, 1) := by decide +kernel
theorem dX10_handover_10 : decode cX10_handover 10 = .ok (.getfield 26, 3) := by decide +kernel
theorem dX10_handover_13 : decode cX10_handover 13 = .ok (.getfield 198, 3) := by decide +kernel
theorem dX10_handover_16 : decode cX10_handover 16 = .ok (.istore_n 2, 1) := by decide +kernel
theorem dX10_handover_17 : decode cX10_handover 17 = .ok (.iload_n 2, 1) := by decide +kernel
theorem dX10_handover_18 : decode cX10_handover 18 = .ok (.iload_n 1, 1) := by decide +kernel
theorem dX10_handover_19 : decode cX10_handover 19 = .ok (.if_icmp .ne 6, 3) := by decide +kernel
theorem dX10_handover_22 : decode cX10_handover 22 = .ok (.bipush (-2), 2) := by decide +kernel
theorem dX10_handover_24 : decode cX10_handover 24 = .ok (.ireturn, 1) := by decide +kernel
theorem dX10_handover_25 : decode cX10_handover 25 = .ok (.aload_n 0, 1) := by decide +kernel
theorem dX10_handover_26 : decode cX10_handover 26 = .ok (.getfield 26, 3) := by decide +kernel
theorem dX10_handover_29 : decode cX10_handover 29 = .ok (.getfield 201, 3) := by decide +kernel
theorem dX10_handover_32 : decode cX10_handover 32 = .ok (.iload_n 1, 1) := by decide +kernel
theorem dX10_handover_33 : decode cX10_handover 33 = .ok (.if_icmp .ge 6, 3) := by decide +kernel
theorem dX10_handover_36 : decode cX10_handover 36 = .ok (.bipush (-3), 2) := by decide +kernel
theorem dX10_handover_38 : decode cX10_handover 38 = .ok (.ireturn, 1) := by decide +kernel
theorem dX10_handover_39 : decode cX10_handover 39 = .ok (.aload_n 0, 1) := by decide +kernel
theorem dX10_handover_40 : decode cX10_handover 40 = .ok (.getfield 26, 3) := by decide +kernel
theorem dX10_handover_43 : decode cX10_handover 43 = .ok (.iload_n 1, 1) := by decide +kernel
theorem dX10_handover_44 : decode cX10_handover 44 = .ok (.putfield 198, 3) := by decide +kernel
theorem dX10_handover_47 : decode cX10_handover 47 = .ok (.iload_n 2, 1) := by decide +kernel
theorem dX10_handover_48 : decode cX10_handover 48 = .ok (.ireturn, 1) := by decide +kernel
set_option maxRecDepth 20000 in
theorem ggX10_closes_X10_isMonth : GoodIn wsX10_closes wsX10_isMonth := goodIn_r _ [7, 8, 9, 6, 10] rfl (by decide +kernel)
set_option maxRecDepth 20000 in
theorem gX10_closes_X10_isMonth : GoodIn wsX10_closes (va_wsS RX10 104 yX10_isMonth wsX10_isMonth) := goodIn_app (goodIn_of _ (by decide +kernel)) ggX10_closes_X10_isMonth
theorem dX10_closes_0 : decode cX10_closes 0 = .ok (.iload_n 1, 1) := by decide +kernel
theorem dX10_closes_1 : decode cX10_closes 1 = .ok (.invokestatic 104, 3) := by decide +kernel
theorem dX10_closes_4 : decode cX10_closes 4 = .ok (.ifCond .ne 5, 3) := by decide +kernel
theorem dX10_closes_7 : decode cX10_closes 7 = .ok (.iconst (-1), 1) := by decide +kernel
theorem dX10_closes_8 : decode cX10_closes 8 = .ok (.ireturn, 1) := by decide +kernel
theorem dX10_closes_9 : decode cX10_closes 9 = .ok (.aload_n 0, 1) := by decide +kernel
theorem dX10_closes_10 : decode cX10_closes 10 = .ok (.getfield 26, 3) := by decide +kernel
theorem dX10_closes_13 : decode cX10_closes 13 = .ok (.getfield 201, 3) := by decide +kernel
theorem dX10_closes_16 : decode cX10_closes 16 = .ok (.istore_n 2, 1) := by decide +kernel
theorem dX10_closes_17 : decode cX10_closes 17 = .ok (.iload_n 2, 1) := by decide +kernel
theorem dX10_closes_18 : decode cX10_closes 18 = .ok (.iload_n 1, 1) := by decide +kernel
theorem dX10_closes_19 : decode cX10_closes 19 = .ok (.if_icmp .ne 6, 3) := by decide +kernel
theorem dX10_closes_22 : decode cX10_closes 22 = .ok (.bipush (-2), 2) := by decide +kernel
theorem dX10_closes_24 : decode cX10_closes 24 = .ok (.ireturn, 1) := by decide +kernel
theorem dX10_closes_25 : decode cX10_closes 25 = .ok (.aload_n 0, 1) := by decide +kernel
theorem dX10_closes_26 : decode cX10_closes 26 = .ok (.getfield 26, 3) := by decide +kernel
theorem dX10_closes_29 : decode cX10_closes 29 = .ok (.getfield 198, 3) := by decide +kernel
theorem dX10_closes_32 : decode cX10_closes 32 = .ok (.iload_n 1, 1) := by decide +kernel
theorem dX10_closes_33 : decode cX10_closes 33 = .ok (.if_icmp .le 6, 3) := by decide +kernel
theorem dX10_closes_36 : decode cX10_closes 36 = .ok (.bipush (-3), 2) := by decide +kernel
theorem dX10_closes_38 : decode cX10_closes 38 = .ok (.ireturn, 1) := by decide +kernel
theorem dX10_closes_39 : decode cX10_closes 39 = .ok (.aload_n 0, 1) := by decide +kernel
theorem dX10_closes_40 : decode cX10_closes 40 = .ok (.getfield 26, 3) := by decide +kernel
theorem dX10_closes_43 : decode cX10_closes 43 = .ok (.iload_n 1, 1) := by decide +kernel
theorem dX10_closes_44 : decode cX10_closes 44 = .ok (.putfield 201, 3) := by decide +kernel
theorem dX10_closes_47 : decode cX10_closes 47 = .ok (.iload_n 2, 1) := by decide +kernel
theorem dX10_closes_48 : decode cX10_closes 48 = .ok (.ireturn, 1) := by decide +kernel
set_option maxRecDepth 20000 in
theorem ggX10_pays_X10_isMonth : GoodIn wsX10_pays wsX10_isMonth := goodIn_r _ [7, 8, 9, 6, 10] rfl (by decide +kernel)
set_option maxRecDepth 20000 in
theorem gX10_pays_X10_isMonth : GoodIn wsX10_pays (va_wsS RX10 104 yX10_isMonth wsX10_isMonth) := goodIn_app (goodIn_of _ (by decide +kernel)) ggX10_pays_X10_isMonth
set_option maxRecDepth 20000 in
theorem ggX10_pays_X10_isWithin : GoodIn wsX10_pays wsX10_isWithin := goodIn_r _ [10] rfl (by decide +kernel)
set_option maxRecDepth 20000 in
theorem gX10_pays_X10_isWithin : GoodIn wsX10_pays (va_wsS RX10 127 yX10_isWithin wsX10_isWithin) := goodIn_app (goodIn_of _ (by decide +kernel)) ggX10_pays_X10_isWithin
theorem dX10_pays_0 : decode cX10_pays 0 = .ok (.iload_n 1, 1) := by decide +kernel
theorem dX10_pays_1 : decode cX10_pays 1 = .ok (.invokestatic 104, 3) := by decide +kernel
theorem dX10_pays_4 : decode cX10_pays 4 = .ok (.ifCond .eq 13, 3) := by decide +kernel
theorem dX10_pays_7 : decode cX10_pays 7 = .ok (.iload_n 2, 1) := by decide +kernel
theorem dX10_pays_8 : decode cX10_pays 8 = .ok (.iconst 0, 1) := by decide +kernel
theorem dX10_pays_9 : decode cX10_pays 9 = .ok (.ldc 204, 2) := by decide +kernel
theorem dX10_pays_11 : decode cX10_pays 11 = .ok (.invokestatic 127, 3) := by decide +kernel
theorem dX10_pays_14 : decode cX10_pays 14 = .ok (.ifCond .ne 5, 3) := by decide +kernel
theorem dX10_pays_17 : decode cX10_pays 17 = .ok (.iconst (-1), 1) := by decide +kernel
theorem dX10_pays_18 : decode cX10_pays 18 = .ok (.ireturn, 1) := by decide +kernel
theorem dX10_pays_19 : decode cX10_pays 19 = .ok (.aload_n 0, 1) := by decide +kernel
theorem dX10_pays_20 : decode cX10_pays 20 = .ok (.getfield 26, 3) := by decide +kernel
theorem dX10_pays_23 : decode cX10_pays 23 = .ok (.getfield 205, 3) := by decide +kernel
theorem dX10_pays_26 : decode cX10_pays 26 = .ok (.iload_n 1, 1) := by decide +kernel
theorem dX10_pays_27 : decode cX10_pays 27 = .ok (.laload, 1) := by decide +kernel
theorem dX10_pays_28 : decode cX10_pays 28 = .ok (.l2i, 1) := by decide +kernel
theorem dX10_pays_29 : decode cX10_pays 29 = .ok (.istore_n 3, 1) := by decide +kernel
theorem dX10_pays_30 : decode cX10_pays 30 = .ok (.iload_n 3, 1) := by decide +kernel
theorem dX10_pays_31 : decode cX10_pays 31 = .ok (.iload_n 2, 1) := by decide +kernel
theorem dX10_pays_32 : decode cX10_pays 32 = .ok (.if_icmp .ne 6, 3) := by decide +kernel
theorem dX10_pays_35 : decode cX10_pays 35 = .ok (.bipush (-2), 2) := by decide +kernel
theorem dX10_pays_37 : decode cX10_pays 37 = .ok (.ireturn, 1) := by decide +kernel
theorem dX10_pays_38 : decode cX10_pays 38 = .ok (.aload_n 0, 1) := by decide +kernel
theorem dX10_pays_39 : decode cX10_pays 39 = .ok (.getfield 26, 3) := by decide +kernel
theorem dX10_pays_42 : decode cX10_pays 42 = .ok (.getfield 205, 3) := by decide +kernel
theorem dX10_pays_45 : decode cX10_pays 45 = .ok (.iload_n 1, 1) := by decide +kernel
theorem dX10_pays_46 : decode cX10_pays 46 = .ok (.iload_n 2, 1) := by decide +kernel
theorem dX10_pays_47 : decode cX10_pays 47 = .ok (.i2l, 1) := by decide +kernel
theorem dX10_pays_48 : decode cX10_pays 48 = .ok (.lastore, 1) := by decide +kernel
theorem dX10_pays_49 : decode cX10_pays 49 = .ok (.iload_n 3, 1) := by decide +kernel
theorem dX10_pays_50 : decode cX10_pays 50 = .ok (.ireturn, 1) := by decide +kernel
set_option maxRecDepth 20000 in
theorem ggX10_due_X10_isMonth : GoodIn wsX10_due wsX10_isMonth := goodIn_r _ [6, 7, 8, 5, 9] rfl (by decide +kernel)
set_option maxRecDepth 20000 in
theorem gX10_due_X10_isMonth : GoodIn wsX10_due (va_wsS RX10 104 yX10_isMonth wsX10_isMonth) := goodIn_app (goodIn_of _ (by decide +kernel)) ggX10_due_X10_isMonth
theorem dX10_due_0 : decode cX10_due 0 = .ok (.iload_n 1, 1) := by decide +kernel
theorem dX10_due_1 : decode cX10_due 1 = .ok (.invokestatic 104, 3) := by decide +kernel
theorem dX10_due_4 : decode cX10_due 4 = .ok (.ifCond .ne 5, 3) := by decide +kernel
theorem dX10_due_7 : decode cX10_due 7 = .ok (.iconst (-1), 1) := by decide +kernel
theorem dX10_due_8 : decode cX10_due 8 = .ok (.ireturn, 1) := by decide +kernel
theorem dX10_due_9 : decode cX10_due 9 = .ok (.aload_n 0, 1) := by decide +kernel
theorem dX10_due_10 : decode cX10_due 10 = .ok (.getfield 26, 3) := by decide +kernel
theorem dX10_due_13 : decode cX10_due 13 = .ok (.getfield 208, 3) := by decide +kernel
theorem dX10_due_16 : decode cX10_due 16 = .ok (.istore_n 2, 1) := by decide +kernel
theorem dX10_due_17 : decode cX10_due 17 = .ok (.iload_n 2, 1) := by decide +kernel
theorem dX10_due_18 : decode cX10_due 18 = .ok (.iload_n 1, 1) := by decide +kernel
theorem dX10_due_19 : decode cX10_due 19 = .ok (.if_icmp .ne 6, 3) := by decide +kernel
theorem dX10_due_22 : decode cX10_due 22 = .ok (.bipush (-2), 2) := by decide +kernel
theorem dX10_due_24 : decode cX10_due 24 = .ok (.ireturn, 1) := by decide +kernel
theorem dX10_due_25 : decode cX10_due 25 = .ok (.aload_n 0, 1) := by decide +kernel
theorem dX10_due_26 : decode cX10_due 26 = .ok (.getfield 26, 3) := by decide +kernel
theorem dX10_due_29 : decode cX10_due 29 = .ok (.iload_n 1, 1) := by decide +kernel
theorem dX10_due_30 : decode cX10_due 30 = .ok (.putfield 208, 3) := by decide +kernel
theorem dX10_due_33 : decode cX10_due 33 = .ok (.iload_n 2, 1) := by decide +kernel
theorem dX10_due_34 : decode cX10_due 34 = .ok (.ireturn, 1) := by decide +kernel
set_option maxRecDepth 20000 in
theorem ggX10_grants_X10_isWithin : GoodIn wsX10_grants wsX10_isWithin := goodIn_r _ [7] rfl (by decide +kernel)
set_option maxRecDepth 20000 in
theorem gX10_grants_X10_isWithin : GoodIn wsX10_grants (va_wsS RX10 127 yX10_isWithin wsX10_isWithin) := goodIn_app (goodIn_of _ (by decide +kernel)) ggX10_grants_X10_isWithin
theorem dX10_grants_0 : decode cX10_grants 0 = .ok (.iload_n 1, 1) := by decide +kernel
theorem dX10_grants_1 : decode cX10_grants 1 = .ok (.iconst 1, 1) := by decide +kernel
theorem dX10_grants_2 : decode cX10_grants 2 = .ok (.bipush 12, 2) := by decide +kernel
theorem dX10_grants_4 : decode cX10_grants 4 = .ok (.invokestatic 127, 3) := by decide +kernel
theorem dX10_grants_7 : decode cX10_grants 7 = .ok (.ifCond .ne 5, 3) := by decide +kernel
theorem dX10_grants_10 : decode cX10_grants 10 = .ok (.iconst (-1), 1) := by decide +kernel
theorem dX10_grants_11 : decode cX10_grants 11 = .ok (.ireturn, 1) := by decide +kernel
theorem dX10_grants_12 : decode cX10_grants 12 = .ok (.aload_n 0, 1) := by decide +kernel
theorem dX10_grants_13 : decode cX10_grants 13 = .ok (.getfield 26, 3) := by decide +kernel
theorem dX10_grants_16 : decode cX10_grants 16 = .ok (.getfield 208, 3) := by decide +kernel
theorem dX10_grants_19 : decode cX10_grants 19 = .ok (.bipush 24, 2) := by decide +kernel
theorem dX10_grants_21 : decode cX10_grants 21 = .ok (.if_icmp .ne 6, 3) := by decide +kernel
theorem dX10_grants_24 : decode cX10_grants 24 = .ok (.bipush (-2), 2) := by decide +kernel
theorem dX10_grants_26 : decode cX10_grants 26 = .ok (.ireturn, 1) := by decide +kernel
theorem dX10_grants_27 : decode cX10_grants 27 = .ok (.aload_n 0, 1) := by decide +kernel
theorem dX10_grants_28 : decode cX10_grants 28 = .ok (.getfield 26, 3) := by decide +kernel
theorem dX10_grants_31 : decode cX10_grants 31 = .ok (.getfield 211, 3) := by decide +kernel
theorem dX10_grants_34 : decode cX10_grants 34 = .ok (.iload_n 1, 1) := by decide +kernel
theorem dX10_grants_35 : decode cX10_grants 35 = .ok (.iadd, 1) := by decide +kernel
theorem dX10_grants_36 : decode cX10_grants 36 = .ok (.bipush 12, 2) := by decide +kernel
theorem dX10_grants_38 : decode cX10_grants 38 = .ok (.if_icmp .le 6, 3) := by decide +kernel
theorem dX10_grants_41 : decode cX10_grants 41 = .ok (.bipush (-3), 2) := by decide +kernel
theorem dX10_grants_43 : decode cX10_grants 43 = .ok (.ireturn, 1) := by decide +kernel
theorem dX10_grants_44 : decode cX10_grants 44 = .ok (.aload_n 0, 1) := by decide +kernel
theorem dX10_grants_45 : decode cX10_grants 45 = .ok (.getfield 26, 3) := by decide +kernel
theorem dX10_grants_48 : decode cX10_grants 48 = .ok (.dup, 1) := by decide +kernel
theorem dX10_grants_49 : decode cX10_grants 49 = .ok (.getfield 211, 3) := by decide +kernel
theorem dX10_grants_52 : decode cX10_grants 52 = .ok (.iload_n 1, 1) := by decide +kernel
theorem dX10_grants_53 : decode cX10_grants 53 = .ok (.iadd, 1) := by decide +kernel
theorem dX10_grants_54 : decode cX10_grants 54 = .ok (.putfield 211, 3) := by decide +kernel
theorem dX10_grants_57 : decode cX10_grants 57 = .ok (.aload_n 0, 1) := by decide +kernel
theorem dX10_grants_58 : decode cX10_grants 58 = .ok (.getfield 26, 3) := by decide +kernel
theorem dX10_grants_61 : decode cX10_grants 61 = .ok (.getfield 211, 3) := by decide +kernel
theorem dX10_grants_64 : decode cX10_grants 64 = .ok (.ireturn, 1) := by decide +kernel
set_option maxRecDepth 20000 in
theorem ggX10_indexes_X10_isIndex : GoodIn wsX10_indexes wsX10_isIndex := goodIn_r _ [6, 7, 8, 5, 9, 10, 11, 12] rfl (by decide +kernel)
set_option maxRecDepth 20000 in
theorem gX10_indexes_X10_isIndex : GoodIn wsX10_indexes (va_wsS RX10 214 yX10_isIndex wsX10_isIndex) := goodIn_app (goodIn_of _ (by decide +kernel)) ggX10_indexes_X10_isIndex
set_option maxRecDepth 20000 in
theorem ggX10_indexes_X10_tellAnew : GoodIn wsX10_indexes wsX10_tellAnew := goodIn_r _ [15, 16, 17, 18, 19, 20, 21, 22, 23, 24, 25, 26, 27, 28, 29, 30, 31, 32, 52, 53, 54] rfl (by decide +kernel)
set_option maxRecDepth 20000 in
theorem gX10_indexes_X10_tellAnew : GoodIn wsX10_indexes (va_wsS RX10 100 yX10_tellAnew wsX10_tellAnew) := goodIn_app (goodIn_of _ (by decide +kernel)) ggX10_indexes_X10_tellAnew
theorem dX10_indexes_0 : decode cX10_indexes 0 = .ok (.iload_n 1, 1) := by decide +kernel
theorem dX10_indexes_1 : decode cX10_indexes 1 = .ok (.iload_n 2, 1) := by decide +kernel
theorem dX10_indexes_2 : decode cX10_indexes 2 = .ok (.invokestatic 214, 3) := by decide +kernel
theorem dX10_indexes_5 : decode cX10_indexes 5 = .ok (.ifCond .ne 5, 3) := by decide +kernel
theorem dX10_indexes_8 : decode cX10_indexes 8 = .ok (.iconst (-1), 1) := by decide +kernel
theorem dX10_indexes_9 : decode cX10_indexes 9 = .ok (.ireturn, 1) := by decide +kernel
theorem dX10_indexes_10 : decode cX10_indexes 10 = .ok (.aload_n 0, 1) := by decide +kernel
theorem dX10_indexes_11 : decode cX10_indexes 11 = .ok (.getfield 26, 3) := by decide +kernel
theorem dX10_indexes_14 : decode cX10_indexes 14 = .ok (.getfield 217, 3) := by decide +kernel
theorem dX10_indexes_17 : decode cX10_indexes 17 = .ok (.iload_n 1, 1) := by decide +kernel
theorem dX10_indexes_18 : decode cX10_indexes 18 = .ok (.iload_n 2, 1) := by decide +kernel
theorem dX10_indexes_19 : decode cX10_indexes 19 = .ok (.invokestatic 100, 3) := by decide +kernel
theorem dX10_indexes_22 : decode cX10_indexes 22 = .ok (.ireturn, 1) := by decide +kernel
theorem dX10_amount_0 : decode cX10_amount 0 = .ok (.iload_n 1, 1) := by decide +kernel
theorem dX10_amount_1 : decode cX10_amount 1 = .ok (.invokestatic 104, 3) := by decide +kernel
theorem dX10_amount_4 : decode cX10_amount 4 = .ok (.ifCond .eq 13, 3) := by decide +kernel
theorem dX10_amount_7 : decode cX10_amount 7 = .ok (.iload_n 2, 1) := by decide +kernel
theorem dX10_amount_8 : decode cX10_amount 8 = .ok (.iconst 0, 1) := by decide +kernel
theorem dX10_amount_9 : decode cX10_amount 9 = .ok (.bipush 14, 2) := by decide +kernel
theorem dX10_amount_11 : decode cX10_amount 11 = .ok (.invokestatic 127, 3) := by decide +kernel
theorem dX10_amount_14 : decode cX10_amount 14 = .ok (.ifCond .ne 11, 3) := by decide +kernel
theorem dX10_amount_17 : decode cX10_amount 17 = .ok (.new 220, 3) := by decide +kernel
theorem dX10_amount_20 : decode cX10_amount 20 = .ok (.dup, 1) := by decide +kernel
theorem dX10_amount_21 : decode cX10_amount 21 = .ok (.invokespecial 222, 3) := by decide +kernel
theorem dX10_amount_24 : decode cX10_amount 24 = .ok (.athrow, 1) := by decide +kernel
theorem dX10_amount_25 : decode cX10_amount 25 = .ok (.aload_n 0, 1) := by decide +kernel
theorem dX10_amount_26 : decode cX10_amount 26 = .ok (.getfield 33, 3) := by decide +kernel
theorem dX10_amount_29 : decode cX10_amount 29 = .ok (.aload_n 0, 1) := by decide +kernel
theorem dX10_amount_30 : decode cX10_amount 30 = .ok (.getfield 26, 3) := by decide +kernel
theorem dX10_amount_33 : decode cX10_amount 33 = .ok (.invokevirtual 223, 3) := by decide +kernel
theorem dX10_amount_36 : decode cX10_amount 36 = .ok (.aload_n 0, 1) := by decide +kernel
theorem dX10_amount_37 : decode cX10_amount 37 = .ok (.getfield 33, 3) := by decide +kernel
theorem dX10_amount_40 : decode cX10_amount 40 = .ok (.iload_n 2, 1) := by decide +kernel
theorem dX10_amount_41 : decode cX10_amount 41 = .ok (.iload_n 1, 1) := by decide +kernel
theorem dX10_amount_42 : decode cX10_amount 42 = .ok (.invokevirtual 227, 3) := by decide +kernel
theorem dX10_amount_45 : decode cX10_amount 45 = .ok (.lreturn, 1) := by decide +kernel
set_option maxRecDepth 20000 in
theorem ggX10_item_X10_isMonth : GoodIn wsX10_item wsX10_isMonth := goodIn_r _ [7, 8, 9, 6, 10] rfl (by decide +kernel)
set_option maxRecDepth 20000 in
theorem gX10_item_X10_isMonth : GoodIn wsX10_item (va_wsS RX10 104 yX10_isMonth wsX10_isMonth) := goodIn_app (goodIn_of _ (by decide +kernel)) ggX10_item_X10_isMonth
set_option maxRecDepth 20000 in
theorem ggX10_item_X0_has : GoodIn wsX10_item wsX0_has := goodIn_r _ [15, 16, 91, 92, 93, 94, 95] rfl (by decide +kernel)
set_option maxRecDepth 20000 in
theorem gX10_item_X0_has : GoodIn wsX10_item (wsV RX10 110 RX0 yX0_has wsX0_has) := goodIn_app (goodIn_of _ (by decide +kernel)) ggX10_item_X0_has
set_option maxRecDepth 20000 in
theorem ggX10_item_X2_part : GoodIn wsX10_item wsX2_part := goodIn_r _ [21, 22, 23, 24, 25, 26, 27, 20, 28, 29, 30, 31, 32, 33, 34, 35, 36, 37, 38, 39, 40, 41, 42, 43, 44, 45, 46, 47, 6, 48, 49, 79, 80, 81, 82, 83, 84, 85, 86, 87, 88, 89, 90, 91, 92, 93, 94, 95, 96, 97, 98, 99] rfl (by decide +kernel)
set_option maxRecDepth 20000 in
theorem gX10_item_X2_part : GoodIn wsX10_item (wsV RX10 230 RX2 yX2_part wsX2_part) := goodIn_app (goodIn_of _ (by decide +kernel)) ggX10_item_X2_part
set_option maxRecDepth 20000 in
theorem ggX10_item_X5_start : GoodIn wsX10_item wsX5_start := goodIn_r _ [54, 55, 56, 57, 58, 53, 59, 60, 100, 101] rfl (by decide +kernel)
set_option maxRecDepth 20000 in
theorem gX10_item_X5_start : GoodIn wsX10_item (wsV RX10 233 RX5 yX5_start wsX5_start) := goodIn_app (goodIn_of _ (by decide +kernel)) ggX10_item_X5_start
set_option maxRecDepth 20000 in
theorem ggX10_item_X2_partMore : GoodIn wsX10_item wsX2_partMore := goodIn_r _ [64, 65, 18, 19, 20, 21, 22, 23, 24, 25, 26, 27, 28, 29, 30, 31, 32, 33, 34, 35, 36, 37, 38, 39, 40, 41, 42, 43, 44, 45, 46, 47, 6, 48, 49, 79, 80, 81, 82, 83, 84, 85, 86, 87, 88, 89, 90, 91, 92, 93, 94, 95, 96, 97, 98, 99] rfl (by decide +kernel)
set_option maxRecDepth 20000 in
theorem gX10_item_X2_partMore : GoodIn wsX10_item (wsV RX10 237 RX2 yX2_partMore wsX2_partMore) := goodIn_app (goodIn_of _ (by decide +kernel)) ggX10_item_X2_partMore
set_option maxRecDepth 20000 in
theorem ggX10_item_X5_then : GoodIn wsX10_item wsX5_then := goodIn_r _ [59, 55, 60, 100, 101] rfl (by decide +kernel)
set_option maxRecDepth 20000 in
theorem gX10_item_X5_then : GoodIn wsX10_item (wsV RX10 240 RX5 yX5_then wsX5_then) := goodIn_app (goodIn_of _ (by decide +kernel)) ggX10_item_X5_then
set_option maxRecDepth 20000 in
theorem ggX10_item_X2_isAboveCap : GoodIn wsX10_item wsX2_isAboveCap := goodIn_r _ [70, 25, 26, 27, 20, 28, 29, 30, 31, 32, 33, 34, 35, 36, 37, 38, 39, 22, 40, 24, 41, 42, 43, 44, 45, 46, 47, 6, 48, 49, 79, 80, 81, 82, 83, 84, 85, 86, 87, 88, 89, 90, 96, 97, 98, 91, 92, 93, 94, 95, 99] rfl (by decide +kernel)
set_option maxRecDepth 20000 in
theorem gX10_item_X2_isAboveCap : GoodIn wsX10_item (wsV RX10 243 RX2 yX2_isAboveCap wsX2_isAboveCap) := goodIn_app (goodIn_of _ (by decide +kernel)) ggX10_item_X2_isAboveCap
set_option maxRecDepth 20000 in
theorem ggX10_item_X2_done : GoodIn wsX10_item wsX2_done := goodIn_r _ [28, 29, 30, 31, 32, 33, 34, 35, 79, 80, 81, 82, 83, 84, 85, 86, 87, 88, 89, 90, 96, 97, 98] rfl (by decide +kernel)
set_option maxRecDepth 20000 in
theorem gX10_item_X2_done : GoodIn wsX10_item (wsV RX10 246 RX2 yX2_done wsX2_done) := goodIn_app (goodIn_of _ (by decide +kernel)) ggX10_item_X2_done
theorem dX10_item_0 : decode cX10_item 0 = .ok (.iload_n 1, 1) := by decide +kernel
theorem dX10_item_1 : decode cX10_item 1 = .ok (.invokestatic 104, 3) := by decide +kernel
theorem dX10_item_4 : decode cX10_item 4 = .ok (.ifCond .eq 17, 3) := by decide +kernel
theorem dX10_item_7 : decode cX10_item 7 = .ok (.aload_n 0, 1) := by decide +kernel
theorem dX10_item_8 : decode cX10_item 8 = .ok (.getfield 26, 3) := by decide +kernel
theorem dX10_item_11 : decode cX10_item 11 = .ok (.getfield 107, 3) := by decide +kernel
theorem dX10_item_14 : decode cX10_item 14 = .ok (.iload_n 2, 1) := by decide +kernel
theorem dX10_item_15 : decode cX10_item 15 = .ok (.invokevirtual 110, 3) := by decide +kernel
theorem dX10_item_18 : decode cX10_item 18 = .ok (.ifCond .ne 5, 3) := by decide +kernel
theorem dX10_item_21 : decode cX10_item 21 = .ok (.iconst (-1), 1) := by decide +kernel
theorem dX10_item_22 : decode cX10_item 22 = .ok (.ireturn, 1) := by decide +kernel
theorem dX10_item_23 : decode cX10_item 23 = .ok (.aload_n 0, 1) := by decide +kernel
theorem dX10_item_24 : decode cX10_item 24 = .ok (.getfield 47, 3) := by decide +kernel
theorem dX10_item_27 : decode cX10_item 27 = .ok (.aload_n 0, 1) := by decide +kernel
theorem dX10_item_28 : decode cX10_item 28 = .ok (.getfield 26, 3) := by decide +kernel
theorem dX10_item_31 : decode cX10_item 31 = .ok (.iload_n 2, 1) := by decide +kernel
theorem dX10_item_32 : decode cX10_item 32 = .ok (.iload_n 1, 1) := by decide +kernel
theorem dX10_item_33 : decode cX10_item 33 = .ok (.invokevirtual 230, 3) := by decide +kernel
theorem dX10_item_36 : decode cX10_item 36 = .ok (.invokevirtual 233, 3) := by decide +kernel
theorem dX10_item_39 : decode cX10_item 39 = .ok (.aload_n 0, 1) := by decide +kernel
theorem dX10_item_40 : decode cX10_item 40 = .ok (.getfield 26, 3) := by decide +kernel
theorem dX10_item_43 : decode cX10_item 43 = .ok (.iload_n 2, 1) := by decide +kernel
theorem dX10_item_44 : decode cX10_item 44 = .ok (.iload_n 1, 1) := by decide +kernel
theorem dX10_item_45 : decode cX10_item 45 = .ok (.invokevirtual 237, 3) := by decide +kernel
theorem dX10_item_48 : decode cX10_item 48 = .ok (.invokevirtual 240, 3) := by decide +kernel
theorem dX10_item_51 : decode cX10_item 51 = .ok (.pop, 1) := by decide +kernel
theorem dX10_item_52 : decode cX10_item 52 = .ok (.aload_n 0, 1) := by decide +kernel
theorem dX10_item_53 : decode cX10_item 53 = .ok (.getfield 47, 3) := by decide +kernel
theorem dX10_item_56 : decode cX10_item 56 = .ok (.aload_n 0, 1) := by decide +kernel
theorem dX10_item_57 : decode cX10_item 57 = .ok (.getfield 26, 3) := by decide +kernel
theorem dX10_item_60 : decode cX10_item 60 = .ok (.iload_n 2, 1) := by decide +kernel
theorem dX10_item_61 : decode cX10_item 61 = .ok (.iload_n 1, 1) := by decide +kernel
theorem dX10_item_62 : decode cX10_item 62 = .ok (.invokevirtual 243, 3) := by decide +kernel
theorem dX10_item_65 : decode cX10_item 65 = .ok (.ifCond .eq 7, 3) := by decide +kernel
theorem dX10_item_68 : decode cX10_item 68 = .ok (.lconst 1, 1) := by decide +kernel
theorem dX10_item_69 : decode cX10_item 69 = .ok (.goto 4, 3) := by decide +kernel
theorem dX10_item_72 : decode cX10_item 72 = .ok (.lconst 0, 1) := by decide +kernel
theorem dX10_item_73 : decode cX10_item 73 = .ok (.invokevirtual 240, 3) := by decide +kernel
theorem dX10_item_76 : decode cX10_item 76 = .ok (.pop, 1) := by decide +kernel
theorem dX10_item_77 : decode cX10_item 77 = .ok (.aload_n 0, 1) := by decide +kernel
theorem dX10_item_78 : decode cX10_item 78 = .ok (.getfield 26, 3) := by decide +kernel
theorem dX10_item_81 : decode cX10_item 81 = .ok (.iload_n 2, 1) := by decide +kernel
theorem dX10_item_82 : decode cX10_item 82 = .ok (.iload_n 1, 1) := by decide +kernel
theorem dX10_item_83 : decode cX10_item 83 = .ok (.invokevirtual 246, 3) := by decide +kernel
theorem dX10_item_86 : decode cX10_item 86 = .ok (.ireturn, 1) := by decide +kernel
set_option maxRecDepth 20000 in
theorem ggX10_priced_X3_has : GoodIn wsX10_priced wsX3_has := goodIn_r _ [13, 14, 66, 67, 68, 69, 70] rfl (by decide +kernel)
set_option maxRecDepth 20000 in
theorem gX10_priced_X3_has : GoodIn wsX10_priced (wsV RX10 158 RX3 yX3_has wsX3_has) := goodIn_app (goodIn_of _ (by decide +kernel)) ggX10_priced_X3_has
set_option maxRecDepth 20000 in
theorem ggX10_priced_X5_start : GoodIn wsX10_priced wsX5_start := goodIn_r _ [19, 20, 21, 22, 23, 18, 24, 25, 71, 72] rfl (by decide +kernel)
set_option maxRecDepth 20000 in
theorem gX10_priced_X5_start : GoodIn wsX10_priced (wsV RX10 233 RX5 yX5_start wsX5_start) := goodIn_app (goodIn_of _ (by decide +kernel)) ggX10_priced_X5_start
set_option maxRecDepth 20000 in
theorem ggX10_priced_X5_then : GoodIn wsX10_priced wsX5_then := goodIn_r _ [24, 20, 25, 71, 72] rfl (by decide +kernel)
set_option maxRecDepth 20000 in
theorem gX10_priced_X5_then : GoodIn wsX10_priced (wsV RX10 240 RX5 yX5_then wsX5_then) := goodIn_app (goodIn_of _ (by decide +kernel)) ggX10_priced_X5_then
set_option maxRecDepth 20000 in
theorem ggX10_priced_X3_worth : GoodIn wsX10_priced wsX3_worth := goodIn_r _ [30, 31, 32, 66, 67, 68, 69, 70] rfl (by decide +kernel)
set_option maxRecDepth 20000 in
theorem gX10_priced_X3_worth : GoodIn wsX10_priced (wsV RX10 255 RX3 yX3_worth wsX3_worth) := goodIn_app (goodIn_of _ (by decide +kernel)) ggX10_priced_X3_worth
set_option maxRecDepth 20000 in
theorem ggX10_priced_X0_likeBits : GoodIn wsX10_priced wsX0_likeBits := goodIn_r _ [37, 38, 39, 73, 74, 75, 76, 77] rfl (by decide +kernel)
set_option maxRecDepth 20000 in
theorem gX10_priced_X0_likeBits : GoodIn wsX10_priced (wsV RX10 259 RX0 yX0_likeBits wsX0_likeBits) := goodIn_app (goodIn_of _ (by decide +kernel)) ggX10_priced_X0_likeBits
set_option maxRecDepth 20000 in
theorem ggX10_priced_J6_bitCount_0f7a4 : GoodIn wsX10_priced wsJ6_bitCount_0f7a4 := goodIn_r _ [43, 44, 45, 46] rfl (by decide +kernel)
set_option maxRecDepth 20000 in
theorem gX10_priced_J6_bitCount_0f7a4 : GoodIn wsX10_priced (va_wsS RX10 262 yJ6_bitCount_0f7a4 wsJ6_bitCount_0f7a4) := goodIn_app (goodIn_of _ (by decide +kernel)) ggX10_priced_J6_bitCount_0f7a4
theorem dX10_priced_0 : decode cX10_priced 0 = .ok (.aload_n 0, 1) := by decide +kernel
theorem dX10_priced_1 : decode cX10_priced 1 = .ok (.getfield 26, 3) := by decide +kernel
theorem dX10_priced_4 : decode cX10_priced 4 = .ok (.getfield 143, 3) := by decide +kernel
theorem dX10_priced_7 : decode cX10_priced 7 = .ok (.astore_n 2, 1) := by decide +kernel
theorem dX10_priced_8 : decode cX10_priced 8 = .ok (.aload_n 2, 1) := by decide +kernel
theorem dX10_priced_9 : decode cX10_priced 9 = .ok (.iload_n 1, 1) := by decide +kernel
theorem dX10_priced_10 : decode cX10_priced 10 = .ok (.invokevirtual 158, 3) := by decide +kernel
theorem dX10_priced_13 : decode cX10_priced 13 = .ok (.ifCond .ne 5, 3) := by decide +kernel
theorem dX10_priced_16 : decode cX10_priced 16 = .ok (.iconst (-1), 1) := by decide +kernel
theorem dX10_priced_17 : decode cX10_priced 17 = .ok (.ireturn, 1) := by decide +kernel
theorem dX10_priced_18 : decode cX10_priced 18 = .ok (.aload_n 2, 1) := by decide +kernel
theorem dX10_priced_19 : decode cX10_priced 19 = .ok (.getfield 249, 3) := by decide +kernel
theorem dX10_priced_22 : decode cX10_priced 22 = .ok (.iload_n 1, 1) := by decide +kernel
theorem dX10_priced_23 : decode cX10_priced 23 = .ok (.iaload, 1) := by decide +kernel
theorem dX10_priced_24 : decode cX10_priced 24 = .ok (.istore_n 3, 1) := by decide +kernel
theorem dX10_priced_25 : decode cX10_priced 25 = .ok (.aload_n 0, 1) := by decide +kernel
theorem dX10_priced_26 : decode cX10_priced 26 = .ok (.getfield 47, 3) := by decide +kernel
theorem dX10_priced_29 : decode cX10_priced 29 = .ok (.aload_n 2, 1) := by decide +kernel
theorem dX10_priced_30 : decode cX10_priced 30 = .ok (.getfield 252, 3) := by decide +kernel
theorem dX10_priced_33 : decode cX10_priced 33 = .ok (.iload_n 1, 1) := by decide +kernel
theorem dX10_priced_34 : decode cX10_priced 34 = .ok (.iaload, 1) := by decide +kernel
theorem dX10_priced_35 : decode cX10_priced 35 = .ok (.i2l, 1) := by decide +kernel
theorem dX10_priced_36 : decode cX10_priced 36 = .ok (.invokevirtual 233, 3) := by decide +kernel
theorem dX10_priced_39 : decode cX10_priced 39 = .ok (.iload_n 3, 1) := by decide +kernel
theorem dX10_priced_40 : decode cX10_priced 40 = .ok (.i2l, 1) := by decide +kernel
theorem dX10_priced_41 : decode cX10_priced 41 = .ok (.invokevirtual 240, 3) := by decide +kernel
theorem dX10_priced_44 : decode cX10_priced 44 = .ok (.aload_n 2, 1) := by decide +kernel
theorem dX10_priced_45 : decode cX10_priced 45 = .ok (.getfield 159, 3) := by decide +kernel
theorem dX10_priced_48 : decode cX10_priced 48 = .ok (.iload_n 1, 1) := by decide +kernel
theorem dX10_priced_49 : decode cX10_priced 49 = .ok (.iaload, 1) := by decide +kernel
theorem dX10_priced_50 : decode cX10_priced 50 = .ok (.i2l, 1) := by decide +kernel
theorem dX10_priced_51 : decode cX10_priced 51 = .ok (.invokevirtual 240, 3) := by decide +kernel
theorem dX10_priced_54 : decode cX10_priced 54 = .ok (.aload_n 2, 1) := by decide +kernel
theorem dX10_priced_55 : decode cX10_priced 55 = .ok (.iload_n 1, 1) := by decide +kernel
theorem dX10_priced_56 : decode cX10_priced 56 = .ok (.invokevirtual 255, 3) := by decide +kernel
theorem dX10_priced_59 : decode cX10_priced 59 = .ok (.invokevirtual 240, 3) := by decide +kernel
theorem dX10_priced_62 : decode cX10_priced 62 = .ok (.pop, 1) := by decide +kernel
theorem dX10_priced_63 : decode cX10_priced 63 = .ok (.aload_n 0, 1) := by decide +kernel
theorem dX10_priced_64 : decode cX10_priced 64 = .ok (.getfield 47, 3) := by decide +kernel
theorem dX10_priced_67 : decode cX10_priced 67 = .ok (.aload_n 0, 1) := by decide +kernel
theorem dX10_priced_68 : decode cX10_priced 68 = .ok (.getfield 26, 3) := by decide +kernel
theorem dX10_priced_71 : decode cX10_priced 71 = .ok (.getfield 107, 3) := by decide +kernel
theorem dX10_priced_74 : decode cX10_priced 74 = .ok (.iload_n 3, 1) := by decide +kernel
theorem dX10_priced_75 : decode cX10_priced 75 = .ok (.invokevirtual 259, 3) := by decide +kernel
theorem dX10_priced_78 : decode cX10_priced 78 = .ok (.invokestatic 262, 3) := by decide +kernel
theorem dX10_priced_81 : decode cX10_priced 81 = .ok (.i2l, 1) := by decide +kernel
theorem dX10_priced_82 : decode cX10_priced 82 = .ok (.invokevirtual 240, 3) := by decide +kernel
theorem dX10_priced_85 : decode cX10_priced 85 = .ok (.pop, 1) := by decide +kernel
theorem dX10_priced_86 : decode cX10_priced 86 = .ok (.aload_n 2, 1) := by decide +kernel
theorem dX10_priced_87 : decode cX10_priced 87 = .ok (.getfield 267, 3) := by decide +kernel
theorem dX10_priced_90 : decode cX10_priced 90 = .ok (.iload_n 1, 1) := by decide +kernel
theorem dX10_priced_91 : decode cX10_priced 91 = .ok (.iaload, 1) := by decide +kernel
theorem dX10_priced_92 : decode cX10_priced 92 = .ok (.ireturn, 1) := by decide +kernel
set_option maxRecDepth 20000 in
theorem ggX10_held_X7_has : GoodIn wsX10_held wsX7_has := goodIn_r _ [13, 14, 68, 69, 70, 71, 72, 73] rfl (by decide +kernel)
set_option maxRecDepth 20000 in
theorem gX10_held_X7_has : GoodIn wsX10_held (wsV RX10 185 RX7 yX7_has wsX7_has) := goodIn_app (goodIn_of _ (by decide +kernel)) ggX10_held_X7_has
set_option maxRecDepth 20000 in
theorem ggX10_held_X10_isMonth : GoodIn wsX10_held wsX10_isMonth := goodIn_r _ [18, 19, 20, 17, 21] rfl (by decide +kernel)
set_option maxRecDepth 20000 in
theorem gX10_held_X10_isMonth : GoodIn wsX10_held (va_wsS RX10 104 yX10_isMonth wsX10_isMonth) := goodIn_app (goodIn_of _ (by decide +kernel)) ggX10_held_X10_isMonth
set_option maxRecDepth 20000 in
theorem ggX10_held_X5_start : GoodIn wsX10_held wsX5_start := goodIn_r _ [26, 27, 28, 29, 30, 25, 31, 32, 74, 75] rfl (by decide +kernel)
set_option maxRecDepth 20000 in
theorem gX10_held_X5_start : GoodIn wsX10_held (wsV RX10 233 RX5 yX5_start wsX5_start) := goodIn_app (goodIn_of _ (by decide +kernel)) ggX10_held_X5_start
set_option maxRecDepth 20000 in
theorem ggX10_held_X5_then : GoodIn wsX10_held wsX5_then := goodIn_r _ [31, 27, 32, 74, 75] rfl (by decide +kernel)
set_option maxRecDepth 20000 in
theorem gX10_held_X5_then : GoodIn wsX10_held (wsV RX10 240 RX5 yX5_then wsX5_then) := goodIn_app (goodIn_of _ (by decide +kernel)) ggX10_held_X5_then
set_option maxRecDepth 20000 in
theorem ggX10_held_X10_monthOrNone : GoodIn wsX10_held wsX10_monthOrNone := goodIn_r _ [36] rfl (by decide +kernel)
set_option maxRecDepth 20000 in
theorem gX10_held_X10_monthOrNone : GoodIn wsX10_held (va_wsS RX10 274 yX10_monthOrNone wsX10_monthOrNone) := goodIn_app (goodIn_of _ (by decide +kernel)) ggX10_held_X10_monthOrNone
set_option maxRecDepth 20000 in
theorem ggX10_held_X7_heldIn : GoodIn wsX10_held wsX7_heldIn := goodIn_r _ [40, 41, 42, 43, 44, 45, 46, 17, 47, 48, 68, 69, 70, 71, 72, 73] rfl (by decide +kernel)
set_option maxRecDepth 20000 in
theorem gX10_held_X7_heldIn : GoodIn wsX10_held (wsV RX10 195 RX7 yX7_heldIn wsX7_heldIn) := goodIn_app (goodIn_of _ (by decide +kernel)) ggX10_held_X7_heldIn
theorem dX10_held_0 : decode cX10_held 0 = .ok (.aload_n 0, 1) := by decide +kernel
theorem dX10_held_1 : decode cX10_held 1 = .ok (.getfield 26, 3) := by decide +kernel
theorem dX10_held_4 : decode cX10_held 4 = .ok (.getfield 163, 3) := by decide +kernel
theorem dX10_held_7 : decode cX10_held 7 = .ok (.astore_n 3, 1) := by decide +kernel
theorem dX10_held_8 : decode cX10_held 8 = .ok (.aload_n 3, 1) := by decide +kernel
theorem dX10_held_9 : decode cX10_held 9 = .ok (.iload_n 1, 1) := by decide +kernel
theorem dX10_held_10 : decode cX10_held 10 = .ok (.invokevirtual 185, 3) := by decide +kernel
theorem dX10_held_13 : decode cX10_held 13 = .ok (.ifCond .eq 10, 3) := by decide +kernel
theorem dX10_held_16 : decode cX10_held 16 = .ok (.iload_n 2, 1) := by decide +kernel
theorem dX10_held_17 : decode cX10_held 17 = .ok (.invokestatic 104, 3) := by decide +kernel
theorem dX10_held_20 : decode cX10_held 20 = .ok (.ifCond .ne 5, 3) := by decide +kernel
theorem dX10_held_23 : decode cX10_held 23 = .ok (.iconst (-1), 1) := by decide +kernel
theorem dX10_held_24 : decode cX10_held 24 = .ok (.ireturn, 1) := by decide +kernel
theorem dX10_held_25 : decode cX10_held 25 = .ok (.aload_n 0, 1) := by decide +kernel
theorem dX10_held_26 : decode cX10_held 26 = .ok (.getfield 47, 3) := by decide +kernel
theorem dX10_held_29 : decode cX10_held 29 = .ok (.aload_n 3, 1) := by decide +kernel
theorem dX10_held_30 : decode cX10_held 30 = .ok (.getfield 270, 3) := by decide +kernel
theorem dX10_held_33 : decode cX10_held 33 = .ok (.iload_n 1, 1) := by decide +kernel
theorem dX10_held_34 : decode cX10_held 34 = .ok (.iaload, 1) := by decide +kernel
theorem dX10_held_35 : decode cX10_held 35 = .ok (.i2l, 1) := by decide +kernel
theorem dX10_held_36 : decode cX10_held 36 = .ok (.invokevirtual 233, 3) := by decide +kernel
theorem dX10_held_39 : decode cX10_held 39 = .ok (.aload_n 3, 1) := by decide +kernel
theorem dX10_held_40 : decode cX10_held 40 = .ok (.getfield 271, 3) := by decide +kernel
theorem dX10_held_43 : decode cX10_held 43 = .ok (.iload_n 1, 1) := by decide +kernel
theorem dX10_held_44 : decode cX10_held 44 = .ok (.iaload, 1) := by decide +kernel
theorem dX10_held_45 : decode cX10_held 45 = .ok (.i2l, 1) := by decide +kernel
theorem dX10_held_46 : decode cX10_held 46 = .ok (.invokevirtual 240, 3) := by decide +kernel
theorem dX10_held_49 : decode cX10_held 49 = .ok (.pop, 1) := by decide +kernel
theorem dX10_held_50 : decode cX10_held 50 = .ok (.aload_n 0, 1) := by decide +kernel
theorem dX10_held_51 : decode cX10_held 51 = .ok (.getfield 47, 3) := by decide +kernel
theorem dX10_held_54 : decode cX10_held 54 = .ok (.aload_n 3, 1) := by decide +kernel
theorem dX10_held_55 : decode cX10_held 55 = .ok (.getfield 178, 3) := by decide +kernel
theorem dX10_held_58 : decode cX10_held 58 = .ok (.iload_n 1, 1) := by decide +kernel
theorem dX10_held_59 : decode cX10_held 59 = .ok (.iaload, 1) := by decide +kernel
theorem dX10_held_60 : decode cX10_held 60 = .ok (.invokestatic 274, 3) := by decide +kernel
theorem dX10_held_63 : decode cX10_held 63 = .ok (.i2l, 1) := by decide +kernel
theorem dX10_held_64 : decode cX10_held 64 = .ok (.invokevirtual 240, 3) := by decide +kernel
theorem dX10_held_67 : decode cX10_held 67 = .ok (.aload_n 3, 1) := by decide +kernel
theorem dX10_held_68 : decode cX10_held 68 = .ok (.getfield 189, 3) := by decide +kernel
theorem dX10_held_71 : decode cX10_held 71 = .ok (.iload_n 1, 1) := by decide +kernel
theorem dX10_held_72 : decode cX10_held 72 = .ok (.iaload, 1) := by decide +kernel
theorem dX10_held_73 : decode cX10_held 73 = .ok (.invokestatic 274, 3) := by decide +kernel
theorem dX10_held_76 : decode cX10_held 76 = .ok (.i2l, 1) := by decide +kernel
theorem dX10_held_77 : decode cX10_held 77 = .ok (.invokevirtual 240, 3) := by decide +kernel
theorem dX10_held_80 : decode cX10_held 80 = .ok (.pop, 1) := by decide +kernel
theorem dX10_held_81 : decode cX10_held 81 = .ok (.aload_n 0, 1) := by decide +kernel
theorem dX10_held_82 : decode cX10_held 82 = .ok (.getfield 47, 3) := by decide +kernel
theorem dX10_held_85 : decode cX10_held 85 = .ok (.aload_n 3, 1) := by decide +kernel
theorem dX10_held_86 : decode cX10_held 86 = .ok (.getfield 192, 3) := by decide +kernel
theorem dX10_held_89 : decode cX10_held 89 = .ok (.iload_n 1, 1) := by decide +kernel
theorem dX10_held_90 : decode cX10_held 90 = .ok (.iaload, 1) := by decide +kernel
theorem dX10_held_91 : decode cX10_held 91 = .ok (.i2l, 1) := by decide +kernel
theorem dX10_held_92 : decode cX10_held 92 = .ok (.invokevirtual 240, 3) := by decide +kernel
theorem dX10_held_95 : decode cX10_held 95 = .ok (.pop, 1) := by decide +kernel
theorem dX10_held_96 : decode cX10_held 96 = .ok (.aload_n 3, 1) := by decide +kernel
theorem dX10_held_97 : decode cX10_held 97 = .ok (.iload_n 1, 1) := by decide +kernel
theorem dX10_held_98 : decode cX10_held 98 = .ok (.iload_n 2, 1) := by decide +kernel
theorem dX10_held_99 : decode cX10_held 99 = .ok (.invokevirtual 195, 3) := by decide +kernel
theorem dX10_held_102 : decode cX10_held 102 = .ok (.ireturn, 1) := by decide +kernel
set_option maxRecDepth 20000 in
theorem ggX10_sum_X2_advanced : GoodIn wsX10_sum wsX2_advanced := goodIn_r _ [13, 14, 15, 16, 17, 18, 19, 20, 21, 22, 23, 24, 25, 26, 50, 51, 52, 53, 54, 55, 56, 57, 58, 59, 60, 61, 62, 63, 64, 65, 66, 67] rfl (by decide +kernel)
set_option maxRecDepth 20000 in
theorem gX10_sum_X2_advanced : GoodIn wsX10_sum (wsV RX10 277 RX2 yX2_advanced wsX2_advanced) := goodIn_app (goodIn_of _ (by decide +kernel)) ggX10_sum_X2_advanced
set_option maxRecDepth 20000 in
theorem ggX10_sum_X5_start : GoodIn wsX10_sum wsX5_start := goodIn_r _ [31, 32, 33, 34, 35, 30, 36, 37, 68, 69] rfl (by decide +kernel)
set_option maxRecDepth 20000 in
theorem gX10_sum_X5_start : GoodIn wsX10_sum (wsV RX10 233 RX5 yX5_start wsX5_start) := goodIn_app (goodIn_of _ (by decide +kernel)) ggX10_sum_X5_start
set_option maxRecDepth 20000 in
theorem ggX10_sum_X2_limit : GoodIn wsX10_sum wsX2_limit := goodIn_r _ [41, 14, 15, 16, 17, 18, 19, 20, 21, 22, 23, 24, 25, 26, 50, 51, 52, 53, 54, 55, 56, 57, 58, 59, 60, 61, 62, 63, 64, 65, 66, 67] rfl (by decide +kernel)
set_option maxRecDepth 20000 in
theorem gX10_sum_X2_limit : GoodIn wsX10_sum (wsV RX10 281 RX2 yX2_limit wsX2_limit) := goodIn_app (goodIn_of _ (by decide +kernel)) ggX10_sum_X2_limit
set_option maxRecDepth 20000 in
theorem ggX10_sum_X5_then : GoodIn wsX10_sum wsX5_then := goodIn_r _ [36, 32, 37, 68, 69] rfl (by decide +kernel)
set_option maxRecDepth 20000 in
theorem gX10_sum_X5_then : GoodIn wsX10_sum (wsV RX10 240 RX5 yX5_then wsX5_then) := goodIn_app (goodIn_of _ (by decide +kernel)) ggX10_sum_X5_then
theorem dX10_sum_0 : decode cX10_sum 0 = .ok (.aload_n 0, 1) := by decide +kernel
theorem dX10_sum_1 : decode cX10_sum 1 = .ok (.getfield 47, 3) := by decide +kernel
theorem dX10_sum_4 : decode cX10_sum 4 = .ok (.aload_n 0, 1) := by decide +kernel
theorem dX10_sum_5 : decode cX10_sum 5 = .ok (.getfield 26, 3) := by decide +kernel
theorem dX10_sum_8 : decode cX10_sum 8 = .ok (.invokevirtual 277, 3) := by decide +kernel
theorem dX10_sum_11 : decode cX10_sum 11 = .ok (.invokevirtual 233, 3) := by decide +kernel
theorem dX10_sum_14 : decode cX10_sum 14 = .ok (.aload_n 0, 1) := by decide +kernel
theorem dX10_sum_15 : decode cX10_sum 15 = .ok (.getfield 26, 3) := by decide +kernel
theorem dX10_sum_18 : decode cX10_sum 18 = .ok (.invokevirtual 281, 3) := by decide +kernel
theorem dX10_sum_21 : decode cX10_sum 21 = .ok (.invokevirtual 240, 3) := by decide +kernel
theorem dX10_sum_24 : decode cX10_sum 24 = .ok (.aload_n 0, 1) := by decide +kernel
theorem dX10_sum_25 : decode cX10_sum 25 = .ok (.getfield 26, 3) := by decide +kernel
theorem dX10_sum_28 : decode cX10_sum 28 = .ok (.getfield 107, 3) := by decide +kernel
theorem dX10_sum_31 : decode cX10_sum 31 = .ok (.getfield 284, 3) := by decide +kernel
theorem dX10_sum_34 : decode cX10_sum 34 = .ok (.i2l, 1) := by decide +kernel
theorem dX10_sum_35 : decode cX10_sum 35 = .ok (.invokevirtual 240, 3) := by decide +kernel
theorem dX10_sum_38 : decode cX10_sum 38 = .ok (.pop, 1) := by decide +kernel
theorem dX10_sum_39 : decode cX10_sum 39 = .ok (.aload_n 0, 1) := by decide +kernel
theorem dX10_sum_40 : decode cX10_sum 40 = .ok (.getfield 47, 3) := by decide +kernel
theorem dX10_sum_43 : decode cX10_sum 43 = .ok (.ldc2_w 285, 3) := by decide +kernel
theorem dX10_sum_46 : decode cX10_sum 46 = .ok (.aload_n 0, 1) := by decide +kernel
theorem dX10_sum_47 : decode cX10_sum 47 = .ok (.getfield 26, 3) := by decide +kernel
theorem dX10_sum_50 : decode cX10_sum 50 = .ok (.getfield 198, 3) := by decide +kernel
theorem dX10_sum_53 : decode cX10_sum 53 = .ok (.i2l, 1) := by decide +kernel
theorem dX10_sum_54 : decode cX10_sum 54 = .ok (.lmul, 1) := by decide +kernel
theorem dX10_sum_55 : decode cX10_sum 55 = .ok (.aload_n 0, 1) := by decide +kernel
theorem dX10_sum_56 : decode cX10_sum 56 = .ok (.getfield 26, 3) := by decide +kernel
theorem dX10_sum_59 : decode cX10_sum 59 = .ok (.getfield 201, 3) := by decide +kernel
theorem dX10_sum_62 : decode cX10_sum 62 = .ok (.i2l, 1) := by decide +kernel
theorem dX10_sum_63 : decode cX10_sum 63 = .ok (.ladd, 1) := by decide +kernel
theorem dX10_sum_64 : decode cX10_sum 64 = .ok (.invokevirtual 240, 3) := by decide +kernel
theorem dX10_sum_67 : decode cX10_sum 67 = .ok (.pop, 1) := by decide +kernel
theorem dX10_sum_68 : decode cX10_sum 68 = .ok (.aload_n 0, 1) := by decide +kernel
theorem dX10_sum_69 : decode cX10_sum 69 = .ok (.getfield 26, 3) := by decide +kernel
theorem dX10_sum_72 : decode cX10_sum 72 = .ok (.getfield 107, 3) := by decide +kernel
theorem dX10_sum_75 : decode cX10_sum 75 = .ok (.getfield 287, 3) := by decide +kernel
theorem dX10_sum_78 : decode cX10_sum 78 = .ok (.ireturn, 1) := by decide +kernel
set_option maxRecDepth 20000 in
theorem ggX10_lines_X10_isMonth : GoodIn wsX10_lines wsX10_isMonth := goodIn_r _ [7, 8, 9, 6, 10] rfl (by decide +kernel)
set_option maxRecDepth 20000 in
theorem gX10_lines_X10_isMonth : GoodIn wsX10_lines (va_wsS RX10 104 yX10_isMonth wsX10_isMonth) := goodIn_app (goodIn_of _ (by decide +kernel)) ggX10_lines_X10_isMonth
set_option maxRecDepth 20000 in
theorem ggX10_lines_X4_reckon : GoodIn wsX10_lines wsX4_reckon := goodIn_r _ [15, 16, 17, 18, 19, 20, 21, 22, 23, 24, 25, 26, 27, 28, 29, 30, 31, 32, 33, 34, 35, 36, 37, 38, 39, 40, 41, 42, 43, 44, 45, 46, 47, 48, 49, 50, 51, 52, 53, 54, 55, 56, 57, 58, 59, 60, 61, 62, 63, 64, 65, 66, 67, 68, 69, 6, 70, 71, 72, 73, 74, 75, 14, 76, 77, 78, 79, 80, 81, 82, 83, 84, 85, 86, 87, 88, 89, 90, 91, 92, 93, 94, 95, 96, 97, 98, 99, 100, 101, 102, 103, 104, 105, 106, 107, 108, 109, 110, 111, 112, 113, 114, 115, 116, 117, 118, 119, 120, 121, 122, 123, 124, 125, 126, 127, 128, 129, 130, 131, 132, 133, 134, 135, 136, 137, 138, 139, 140, 141, 142, 143, 144, 145, 146, 147, 148, 149, 150, 151, 152, 153, 154, 155, 156, 157, 158, 159, 160, 161, 162, 163, 164, 165, 166, 167, 168, 169, 170, 171, 172, 173, 194, 195, 196, 197, 198, 199, 200, 201, 202, 203, 204, 205, 206, 207, 208, 209, 210, 211, 212, 213, 214, 215, 216, 217, 218, 219, 220, 221, 222, 223, 224, 225, 226] rfl (by decide +kernel)
set_option maxRecDepth 20000 in
theorem gX10_lines_X4_reckon : GoodIn wsX10_lines (wsV RX10 223 RX4 yX4_reckon wsX4_reckon) := goodIn_app (goodIn_of _ (by decide +kernel)) ggX10_lines_X4_reckon
set_option maxRecDepth 20000 in
theorem ggX10_lines_X4_fresh : GoodIn wsX10_lines wsX4_fresh := goodIn_r _ [95, 78, 79, 80, 14, 81, 16, 88, 89, 90, 91, 194] rfl (by decide +kernel)
set_option maxRecDepth 20000 in
theorem gX10_lines_X4_fresh : GoodIn wsX10_lines (wsV RX10 290 RX4 yX4_fresh wsX4_fresh) := goodIn_app (goodIn_of _ (by decide +kernel)) ggX10_lines_X4_fresh
set_option maxRecDepth 20000 in
theorem ggX10_lines_X5_start : GoodIn wsX10_lines wsX5_start := goodIn_r _ [179, 180, 181, 182, 183, 178, 184, 185, 227, 228] rfl (by decide +kernel)
set_option maxRecDepth 20000 in
theorem gX10_lines_X5_start : GoodIn wsX10_lines (wsV RX10 233 RX5 yX5_start wsX5_start) := goodIn_app (goodIn_of _ (by decide +kernel)) ggX10_lines_X5_start
set_option maxRecDepth 20000 in
theorem ggX10_lines_X5_then : GoodIn wsX10_lines wsX5_then := goodIn_r _ [184, 180, 185, 227, 228] rfl (by decide +kernel)
set_option maxRecDepth 20000 in
theorem gX10_lines_X5_then : GoodIn wsX10_lines (wsV RX10 240 RX5 yX5_then wsX5_then) := goodIn_app (goodIn_of _ (by decide +kernel)) ggX10_lines_X5_then
theorem dX10_lines_0 : decode cX10_lines 0 = .ok (.iload_n 1, 1) := by decide +kernel
theorem dX10_lines_1 : decode cX10_lines 1 = .ok (.invokestatic 104, 3) := by decide +kernel
theorem dX10_lines_4 : decode cX10_lines 4 = .ok (.ifCond .ne 5, 3) := by decide +kernel
theorem dX10_lines_7 : decode cX10_lines 7 = .ok (.iconst (-1), 1) := by decide +kernel
theorem dX10_lines_8 : decode cX10_lines 8 = .ok (.ireturn, 1) := by decide +kernel
theorem dX10_lines_9 : decode cX10_lines 9 = .ok (.aload_n 0, 1) := by decide +kernel
theorem dX10_lines_10 : decode cX10_lines 10 = .ok (.getfield 33, 3) := by decide +kernel
theorem dX10_lines_13 : decode cX10_lines 13 = .ok (.aload_n 0, 1) := by decide +kernel
theorem dX10_lines_14 : decode cX10_lines 14 = .ok (.getfield 26, 3) := by decide +kernel
theorem dX10_lines_17 : decode cX10_lines 17 = .ok (.invokevirtual 223, 3) := by decide +kernel
theorem dX10_lines_20 : decode cX10_lines 20 = .ok (.aload_n 0, 1) := by decide +kernel
theorem dX10_lines_21 : decode cX10_lines 21 = .ok (.getfield 47, 3) := by decide +kernel
theorem dX10_lines_24 : decode cX10_lines 24 = .ok (.aload_n 0, 1) := by decide +kernel
theorem dX10_lines_25 : decode cX10_lines 25 = .ok (.getfield 33, 3) := by decide +kernel
theorem dX10_lines_28 : decode cX10_lines 28 = .ok (.iconst 0, 1) := by decide +kernel
theorem dX10_lines_29 : decode cX10_lines 29 = .ok (.iload_n 1, 1) := by decide +kernel
theorem dX10_lines_30 : decode cX10_lines 30 = .ok (.invokevirtual 290, 3) := by decide +kernel
theorem dX10_lines_33 : decode cX10_lines 33 = .ok (.invokevirtual 233, 3) := by decide +kernel
theorem dX10_lines_36 : decode cX10_lines 36 = .ok (.aload_n 0, 1) := by decide +kernel
theorem dX10_lines_37 : decode cX10_lines 37 = .ok (.getfield 33, 3) := by decide +kernel
theorem dX10_lines_40 : decode cX10_lines 40 = .ok (.iconst 2, 1) := by decide +kernel
theorem dX10_lines_41 : decode cX10_lines 41 = .ok (.iload_n 1, 1) := by decide +kernel
theorem dX10_lines_42 : decode cX10_lines 42 = .ok (.invokevirtual 290, 3) := by decide +kernel
theorem dX10_lines_45 : decode cX10_lines 45 = .ok (.invokevirtual 240, 3) := by decide +kernel
theorem dX10_lines_48 : decode cX10_lines 48 = .ok (.pop, 1) := by decide +kernel
theorem dX10_lines_49 : decode cX10_lines 49 = .ok (.aload_n 0, 1) := by decide +kernel
theorem dX10_lines_50 : decode cX10_lines 50 = .ok (.getfield 47, 3) := by decide +kernel
theorem dX10_lines_53 : decode cX10_lines 53 = .ok (.aload_n 0, 1) := by decide +kernel
theorem dX10_lines_54 : decode cX10_lines 54 = .ok (.getfield 33, 3) := by decide +kernel
theorem dX10_lines_57 : decode cX10_lines 57 = .ok (.iconst 3, 1) := by decide +kernel
theorem dX10_lines_58 : decode cX10_lines 58 = .ok (.iload_n 1, 1) := by decide +kernel
theorem dX10_lines_59 : decode cX10_lines 59 = .ok (.invokevirtual 290, 3) := by decide +kernel
theorem dX10_lines_62 : decode cX10_lines 62 = .ok (.invokevirtual 240, 3) := by decide +kernel
theorem dX10_lines_65 : decode cX10_lines 65 = .ok (.aload_n 0, 1) := by decide +kernel
theorem dX10_lines_66 : decode cX10_lines 66 = .ok (.getfield 33, 3) := by decide +kernel
theorem dX10_lines_69 : decode cX10_lines 69 = .ok (.iconst 4, 1) := by decide +kernel
theorem dX10_lines_70 : decode cX10_lines 70 = .ok (.iload_n 1, 1) := by decide +kernel
theorem dX10_lines_71 : decode cX10_lines 71 = .ok (.invokevirtual 290, 3) := by decide +kernel
theorem dX10_lines_74 : decode cX10_lines 74 = .ok (.invokevirtual 240, 3) := by decide +kernel
theorem dX10_lines_77 : decode cX10_lines 77 = .ok (.pop, 1) := by decide +kernel
theorem dX10_lines_78 : decode cX10_lines 78 = .ok (.aload_n 0, 1) := by decide +kernel
theorem dX10_lines_79 : decode cX10_lines 79 = .ok (.getfield 47, 3) := by decide +kernel
theorem dX10_lines_82 : decode cX10_lines 82 = .ok (.aload_n 0, 1) := by decide +kernel
theorem dX10_lines_83 : decode cX10_lines 83 = .ok (.getfield 33, 3) := by decide +kernel
theorem dX10_lines_86 : decode cX10_lines 86 = .ok (.iconst 5, 1) := by decide +kernel
theorem dX10_lines_87 : decode cX10_lines 87 = .ok (.iload_n 1, 1) := by decide +kernel
theorem dX10_lines_88 : decode cX10_lines 88 = .ok (.invokevirtual 290, 3) := by decide +kernel
theorem dX10_lines_91 : decode cX10_lines 91 = .ok (.invokevirtual 240, 3) := by decide +kernel
theorem dX10_lines_94 : decode cX10_lines 94 = .ok (.pop, 1) := by decide +kernel
theorem dX10_lines_95 : decode cX10_lines 95 = .ok (.iconst 0, 1) := by decide +kernel
theorem dX10_lines_96 : decode cX10_lines 96 = .ok (.ireturn, 1) := by decide +kernel
set_option maxRecDepth 20000 in
theorem ggX10_recovered_X4_reckon : GoodIn wsX10_recovered wsX4_reckon := goodIn_r _ [7, 8, 9, 10, 11, 12, 13, 14, 15, 16, 17, 18, 19, 20, 21, 22, 23, 24, 25, 26, 27, 28, 29, 30, 31, 32, 33, 34, 35, 36, 37, 38, 39, 40, 41, 42, 43, 44, 45, 46, 47, 48, 49, 50, 51, 52, 53, 54, 55, 56, 57, 58, 59, 60, 61, 62, 63, 64, 65, 66, 67, 68, 6, 69, 70, 71, 72, 73, 74, 75, 76, 77, 78, 79, 80, 81, 82, 83, 84, 85, 86, 87, 88, 89, 90, 91, 92, 93, 94, 95, 96, 97, 98, 99, 100, 101, 102, 103, 104, 105, 106, 107, 108, 109, 110, 111, 112, 113, 114, 115, 116, 117, 118, 119, 120, 121, 122, 123, 124, 125, 126, 127, 128, 129, 130, 131, 132, 133, 134, 135, 136, 137, 138, 139, 140, 141, 142, 143, 144, 145, 146, 147, 148, 149, 150, 151, 152, 153, 154, 155, 156, 157, 158, 159, 160, 161, 162, 163, 164, 165, 166, 182, 183, 184, 185, 186, 187, 188, 189, 190, 191, 192, 193, 194, 195, 196, 197, 198, 199, 200, 201, 202, 203, 204, 205, 206, 207, 208, 209, 210, 211, 212, 213, 214] rfl (by decide +kernel)
set_option maxRecDepth 20000 in
theorem gX10_recovered_X4_reckon : GoodIn wsX10_recovered (wsV RX10 223 RX4 yX4_reckon wsX4_reckon) := goodIn_app (goodIn_of _ (by decide +kernel)) ggX10_recovered_X4_reckon
set_option maxRecDepth 20000 in
theorem ggX10_recovered_X2_advanced : GoodIn wsX10_recovered wsX2_advanced := goodIn_r _ [120, 38, 18, 109, 55, 56, 57, 58, 59, 60, 61, 62, 63, 64, 183, 184, 185, 186, 187, 188, 189, 190, 191, 192, 193, 194, 195, 196, 197, 198, 199, 208] rfl (by decide +kernel)
set_option maxRecDepth 20000 in
theorem gX10_recovered_X2_advanced : GoodIn wsX10_recovered (wsV RX10 277 RX2 yX2_advanced wsX2_advanced) := goodIn_app (goodIn_of _ (by decide +kernel)) ggX10_recovered_X2_advanced
set_option maxRecDepth 20000 in
theorem ggX10_recovered_X4_firstOf : GoodIn wsX10_recovered wsX4_firstOf := goodIn_r _ [171, 71, 72, 73, 6, 74, 8, 182] rfl (by decide +kernel)
set_option maxRecDepth 20000 in
theorem gX10_recovered_X4_firstOf : GoodIn wsX10_recovered (wsV RX10 293 RX4 yX4_firstOf wsX4_firstOf) := goodIn_app (goodIn_of _ (by decide +kernel)) ggX10_recovered_X4_firstOf
set_option maxRecDepth 20000 in
theorem ggX10_recovered_X10_orNotThere : GoodIn wsX10_recovered wsX10_orNotThere := goodIn_r _ [174] rfl (by decide +kernel)
set_option maxRecDepth 20000 in
theorem gX10_recovered_X10_orNotThere : GoodIn wsX10_recovered (va_wsS RX10 297 yX10_orNotThere wsX10_orNotThere) := goodIn_app (goodIn_of _ (by decide +kernel)) ggX10_recovered_X10_orNotThere
theorem dX10_recovered_0 : decode cX10_recovered 0 = .ok (.aload_n 0, 1) := by decide +kernel
theorem dX10_recovered_1 : decode cX10_recovered 1 = .ok (.getfield 33, 3) := by decide +kernel
theorem dX10_recovered_4 : decode cX10_recovered 4 = .ok (.aload_n 0, 1) := by decide +kernel
theorem dX10_recovered_5 : decode cX10_recovered 5 = .ok (.getfield 26, 3) := by decide +kernel
theorem dX10_recovered_8 : decode cX10_recovered 8 = .ok (.invokevirtual 223, 3) := by decide +kernel
theorem dX10_recovered_11 : decode cX10_recovered 11 = .ok (.aload_n 0, 1) := by decide +kernel
theorem dX10_recovered_12 : decode cX10_recovered 12 = .ok (.getfield 33, 3) := by decide +kernel
theorem dX10_recovered_15 : decode cX10_recovered 15 = .ok (.iconst 4, 1) := by decide +kernel
theorem dX10_recovered_16 : decode cX10_recovered 16 = .ok (.aload_n 0, 1) := by decide +kernel
theorem dX10_recovered_17 : decode cX10_recovered 17 = .ok (.getfield 26, 3) := by decide +kernel
theorem dX10_recovered_20 : decode cX10_recovered 20 = .ok (.invokevirtual 277, 3) := by decide +kernel
theorem dX10_recovered_23 : decode cX10_recovered 23 = .ok (.bipush 24, 2) := by decide +kernel
theorem dX10_recovered_25 : decode cX10_recovered 25 = .ok (.invokevirtual 293, 3) := by decide +kernel
theorem dX10_recovered_28 : decode cX10_recovered 28 = .ok (.invokestatic 297, 3) := by decide +kernel
theorem dX10_recovered_31 : decode cX10_recovered 31 = .ok (.ireturn, 1) := by decide +kernel
set_option maxRecDepth 20000 in
theorem ggX10_limited_X2_limit : GoodIn wsX10_limited wsX2_limit := goodIn_r _ [8, 9, 10, 11, 12, 13, 14, 15, 16, 17, 18, 19, 20, 21, 183, 184, 185, 186, 187, 188, 189, 190, 191, 192, 193, 194, 195, 196, 197, 198, 199, 200] rfl (by decide +kernel)
set_option maxRecDepth 20000 in
theorem gX10_limited_X2_limit : GoodIn wsX10_limited (wsV RX10 281 RX2 yX2_limit wsX2_limit) := goodIn_app (goodIn_of _ (by decide +kernel)) ggX10_limited_X2_limit
set_option maxRecDepth 20000 in
theorem ggX10_limited_X4_reckon : GoodIn wsX10_limited wsX4_reckon := goodIn_r _ [26, 27, 28, 29, 30, 31, 32, 33, 7, 34, 35, 10, 36, 37, 38, 39, 40, 41, 42, 43, 44, 45, 46, 47, 48, 49, 50, 51, 52, 53, 54, 9, 55, 56, 57, 58, 59, 60, 61, 62, 63, 64, 65, 66, 67, 68, 69, 70, 12, 13, 14, 15, 16, 17, 18, 19, 20, 21, 71, 72, 73, 74, 25, 75, 76, 77, 78, 79, 80, 81, 82, 83, 84, 85, 86, 87, 88, 89, 90, 91, 92, 93, 94, 95, 96, 97, 98, 99, 100, 101, 102, 103, 104, 105, 106, 107, 108, 109, 110, 111, 5, 6, 8, 11, 112, 113, 114, 115, 116, 117, 118, 119, 120, 121, 122, 123, 124, 125, 126, 127, 128, 129, 130, 131, 132, 133, 134, 135, 136, 137, 138, 139, 140, 141, 142, 143, 144, 145, 146, 147, 148, 149, 150, 151, 152, 153, 154, 155, 156, 157, 158, 159, 160, 161, 162, 163, 164, 165, 166, 167, 168, 201, 183, 184, 185, 186, 187, 188, 189, 190, 191, 192, 193, 194, 195, 196, 197, 198, 199, 202, 203, 204, 205, 206, 207, 208, 209, 200, 210, 211, 212, 213, 214, 215] rfl (by decide +kernel)
set_option maxRecDepth 20000 in
theorem gX10_limited_X4_reckon : GoodIn wsX10_limited (wsV RX10 223 RX4 yX4_reckon wsX4_reckon) := goodIn_app (goodIn_of _ (by decide +kernel)) ggX10_limited_X4_reckon
set_option maxRecDepth 20000 in
theorem ggX10_limited_X4_firstOf : GoodIn wsX10_limited wsX4_firstOf := goodIn_r _ [172, 77, 78, 79, 25, 80, 27, 201] rfl (by decide +kernel)
set_option maxRecDepth 20000 in
theorem gX10_limited_X4_firstOf : GoodIn wsX10_limited (wsV RX10 293 RX4 yX4_firstOf wsX4_firstOf) := goodIn_app (goodIn_of _ (by decide +kernel)) ggX10_limited_X4_firstOf
set_option maxRecDepth 20000 in
theorem ggX10_limited_X10_orNotThere : GoodIn wsX10_limited wsX10_orNotThere := goodIn_r _ [175] rfl (by decide +kernel)
set_option maxRecDepth 20000 in
theorem gX10_limited_X10_orNotThere : GoodIn wsX10_limited (va_wsS RX10 297 yX10_orNotThere wsX10_orNotThere) := goodIn_app (goodIn_of _ (by decide +kernel)) ggX10_limited_X10_orNotThere
theorem dX10_limited_0 : decode cX10_limited 0 = .ok (.aload_n 0, 1) := by decide +kernel
theorem dX10_limited_1 : decode cX10_limited 1 = .ok (.getfield 26, 3) := by decide +kernel
theorem dX10_limited_4 : decode cX10_limited 4 = .ok (.invokevirtual 281, 3) := by decide +kernel
theorem dX10_limited_7 : decode cX10_limited 7 = .ok (.lstore_n 1, 1) := by decide +kernel
theorem dX10_limited_8 : decode cX10_limited 8 = .ok (.lload_n 1, 1) := by decide +kernel
theorem dX10_limited_9 : decode cX10_limited 9 = .ok (.lconst 0, 1) := by decide +kernel
theorem dX10_limited_10 : decode cX10_limited 10 = .ok (.lcmp, 1) := by decide +kernel
theorem dX10_limited_11 : decode cX10_limited 11 = .ok (.ifCond .gt 6, 3) := by decide +kernel
theorem dX10_limited_14 : decode cX10_limited 14 = .ok (.bipush (-2), 2) := by decide +kernel
theorem dX10_limited_16 : decode cX10_limited 16 = .ok (.ireturn, 1) := by decide +kernel
theorem dX10_limited_17 : decode cX10_limited 17 = .ok (.aload_n 0, 1) := by decide +kernel
theorem dX10_limited_18 : decode cX10_limited 18 = .ok (.getfield 33, 3) := by decide +kernel
theorem dX10_limited_21 : decode cX10_limited 21 = .ok (.aload_n 0, 1) := by decide +kernel
theorem dX10_limited_22 : decode cX10_limited 22 = .ok (.getfield 26, 3) := by decide +kernel
theorem dX10_limited_25 : decode cX10_limited 25 = .ok (.invokevirtual 223, 3) := by decide +kernel
theorem dX10_limited_28 : decode cX10_limited 28 = .ok (.aload_n 0, 1) := by decide +kernel
theorem dX10_limited_29 : decode cX10_limited 29 = .ok (.getfield 33, 3) := by decide +kernel
theorem dX10_limited_32 : decode cX10_limited 32 = .ok (.iconst 3, 1) := by decide +kernel
theorem dX10_limited_33 : decode cX10_limited 33 = .ok (.lload_n 1, 1) := by decide +kernel
theorem dX10_limited_34 : decode cX10_limited 34 = .ok (.aload_n 0, 1) := by decide +kernel
theorem dX10_limited_35 : decode cX10_limited 35 = .ok (.getfield 26, 3) := by decide +kernel
theorem dX10_limited_38 : decode cX10_limited 38 = .ok (.getfield 198, 3) := by decide +kernel
theorem dX10_limited_41 : decode cX10_limited 41 = .ok (.invokevirtual 293, 3) := by decide +kernel
theorem dX10_limited_44 : decode cX10_limited 44 = .ok (.invokestatic 297, 3) := by decide +kernel
theorem dX10_limited_47 : decode cX10_limited 47 = .ok (.ireturn, 1) := by decide +kernel
set_option maxRecDepth 20000 in
theorem ggX10_reaches_X4_reckon : GoodIn wsX10_reaches wsX4_reckon := goodIn_r _ [8, 9, 10, 11, 12, 13, 14, 15, 16, 17, 18, 19, 20, 21, 22, 23, 24, 25, 26, 27, 28, 29, 30, 31, 32, 33, 34, 35, 36, 37, 38, 39, 40, 41, 42, 43, 44, 45, 46, 47, 48, 49, 50, 51, 52, 53, 54, 55, 56, 57, 58, 59, 60, 61, 62, 63, 64, 65, 66, 67, 68, 69, 7, 70, 71, 72, 73, 74, 75, 76, 77, 78, 79, 80, 81, 82, 83, 84, 85, 86, 87, 88, 89, 90, 91, 92, 93, 94, 95, 96, 97, 98, 99, 100, 101, 102, 103, 104, 105, 106, 107, 108, 109, 110, 111, 112, 113, 114, 115, 116, 117, 118, 119, 120, 121, 122, 123, 124, 125, 126, 127, 128, 129, 130, 131, 132, 133, 134, 135, 136, 137, 138, 139, 140, 141, 142, 143, 144, 145, 146, 147, 148, 149, 150, 151, 152, 153, 154, 155, 156, 157, 158, 159, 160, 161, 162, 163, 164, 165, 166, 167, 187, 188, 189, 190, 191, 192, 193, 194, 195, 196, 197, 198, 199, 200, 201, 202, 203, 204, 205, 206, 207, 208, 209, 210, 211, 212, 213, 214, 215, 216, 217, 218, 219] rfl (by decide +kernel)
set_option maxRecDepth 20000 in
theorem gX10_reaches_X4_reckon : GoodIn wsX10_reaches (wsV RX10 223 RX4 yX4_reckon wsX4_reckon) := goodIn_app (goodIn_of _ (by decide +kernel)) ggX10_reaches_X4_reckon
set_option maxRecDepth 20000 in
theorem ggX10_reaches_X4_of : GoodIn wsX10_reaches wsX4_of := goodIn_r _ [75, 9, 187] rfl (by decide +kernel)
set_option maxRecDepth 20000 in
theorem gX10_reaches_X4_of : GoodIn wsX10_reaches (wsV RX10 227 RX4 yX4_of wsX4_of) := goodIn_app (goodIn_of _ (by decide +kernel)) ggX10_reaches_X4_of
set_option maxRecDepth 20000 in
theorem ggX10_reaches_X5_start : GoodIn wsX10_reaches wsX5_start := goodIn_r _ [173, 174, 175, 176, 177, 172, 178, 179, 220, 221] rfl (by decide +kernel)
set_option maxRecDepth 20000 in
theorem gX10_reaches_X5_start : GoodIn wsX10_reaches (wsV RX10 233 RX5 yX5_start wsX5_start) := goodIn_app (goodIn_of _ (by decide +kernel)) ggX10_reaches_X5_start
theorem dX10_reaches_0 : decode cX10_reaches 0 = .ok (.lload_n 1, 1) := by decide +kernel
theorem dX10_reaches_1 : decode cX10_reaches 1 = .ok (.lconst 1, 1) := by decide +kernel
theorem dX10_reaches_2 : decode cX10_reaches 2 = .ok (.lcmp, 1) := by decide +kernel
theorem dX10_reaches_3 : decode cX10_reaches 3 = .ok (.ifCond .ge 5, 3) := by decide +kernel
theorem dX10_reaches_6 : decode cX10_reaches 6 = .ok (.iconst (-1), 1) := by decide +kernel
theorem dX10_reaches_7 : decode cX10_reaches 7 = .ok (.ireturn, 1) := by decide +kernel
theorem dX10_reaches_8 : decode cX10_reaches 8 = .ok (.aload_n 0, 1) := by decide +kernel
theorem dX10_reaches_9 : decode cX10_reaches 9 = .ok (.getfield 33, 3) := by decide +kernel
theorem dX10_reaches_12 : decode cX10_reaches 12 = .ok (.aload_n 0, 1) := by decide +kernel
theorem dX10_reaches_13 : decode cX10_reaches 13 = .ok (.getfield 26, 3) := by decide +kernel
theorem dX10_reaches_16 : decode cX10_reaches 16 = .ok (.invokevirtual 223, 3) := by decide +kernel
theorem dX10_reaches_19 : decode cX10_reaches 19 = .ok (.iconst 0, 1) := by decide +kernel
theorem dX10_reaches_20 : decode cX10_reaches 20 = .ok (.istore_n 3, 1) := by decide +kernel
theorem dX10_reaches_21 : decode cX10_reaches 21 = .ok (.iload_n 3, 1) := by decide +kernel
theorem dX10_reaches_22 : decode cX10_reaches 22 = .ok (.bipush 24, 2) := by decide +kernel
theorem dX10_reaches_24 : decode cX10_reaches 24 = .ok (.if_icmp .ge 44, 3) := by decide +kernel
theorem dX10_reaches_27 : decode cX10_reaches 27 = .ok (.aload_n 0, 1) := by decide +kernel
theorem dX10_reaches_28 : decode cX10_reaches 28 = .ok (.getfield 33, 3) := by decide +kernel
theorem dX10_reaches_31 : decode cX10_reaches 31 = .ok (.bipush 8, 2) := by decide +kernel
theorem dX10_reaches_33 : decode cX10_reaches 33 = .ok (.iload_n 3, 1) := by decide +kernel
theorem dX10_reaches_34 : decode cX10_reaches 34 = .ok (.invokevirtual 227, 3) := by decide +kernel
theorem dX10_reaches_37 : decode cX10_reaches 37 = .ok (.lload_n 1, 1) := by decide +kernel
theorem dX10_reaches_38 : decode cX10_reaches 38 = .ok (.lcmp, 1) := by decide +kernel
theorem dX10_reaches_39 : decode cX10_reaches 39 = .ok (.ifCond .lt 23, 3) := by decide +kernel
theorem dX10_reaches_42 : decode cX10_reaches 42 = .ok (.aload_n 0, 1) := by decide +kernel
theorem dX10_reaches_43 : decode cX10_reaches 43 = .ok (.getfield 47, 3) := by decide +kernel
theorem dX10_reaches_46 : decode cX10_reaches 46 = .ok (.aload_n 0, 1) := by decide +kernel
theorem dX10_reaches_47 : decode cX10_reaches 47 = .ok (.getfield 33, 3) := by decide +kernel
theorem dX10_reaches_50 : decode cX10_reaches 50 = .ok (.bipush 8, 2) := by decide +kernel
theorem dX10_reaches_52 : decode cX10_reaches 52 = .ok (.iload_n 3, 1) := by decide +kernel
theorem dX10_reaches_53 : decode cX10_reaches 53 = .ok (.invokevirtual 227, 3) := by decide +kernel
theorem dX10_reaches_56 : decode cX10_reaches 56 = .ok (.invokevirtual 233, 3) := by decide +kernel
theorem dX10_reaches_59 : decode cX10_reaches 59 = .ok (.pop, 1) := by decide +kernel
theorem dX10_reaches_60 : decode cX10_reaches 60 = .ok (.iload_n 3, 1) := by decide +kernel
theorem dX10_reaches_61 : decode cX10_reaches 61 = .ok (.ireturn, 1) := by decide +kernel
theorem dX10_reaches_62 : decode cX10_reaches 62 = .ok (.iinc 3 1, 3) := by decide +kernel
theorem dX10_reaches_65 : decode cX10_reaches 65 = .ok (.goto (-44), 3) := by decide +kernel
theorem dX10_reaches_68 : decode cX10_reaches 68 = .ok (.bipush (-2), 2) := by decide +kernel
theorem dX10_reaches_70 : decode cX10_reaches 70 = .ok (.ireturn, 1) := by decide +kernel
set_option maxRecDepth 20000 in
theorem ggX10_worst_X4_reckon : GoodIn wsX10_worst wsX4_reckon := goodIn_r _ [8, 9, 10, 11, 12, 13, 14, 15, 16, 17, 18, 19, 20, 21, 22, 23, 24, 25, 26, 27, 28, 29, 30, 31, 32, 33, 34, 35, 36, 37, 38, 39, 40, 41, 42, 43, 44, 45, 46, 47, 48, 49, 50, 51, 52, 53, 54, 55, 56, 57, 58, 59, 60, 61, 62, 63, 64, 65, 66, 67, 68, 69, 7, 70, 71, 72, 73, 74, 75, 76, 77, 78, 79, 80, 81, 82, 83, 84, 85, 86, 87, 88, 89, 90, 91, 92, 93, 94, 95, 96, 97, 98, 99, 100, 101, 102, 103, 104, 105, 106, 107, 108, 109, 110, 111, 112, 113, 114, 115, 116, 117, 118, 119, 120, 121, 122, 123, 124, 125, 126, 127, 128, 129, 130, 131, 132, 133, 134, 135, 136, 137, 138, 139, 140, 141, 142, 143, 144, 145, 146, 147, 148, 149, 150, 151, 152, 153, 154, 155, 156, 157, 158, 159, 160, 161, 162, 163, 164, 165, 166, 167, 188, 189, 190, 191, 192, 193, 194, 195, 196, 197, 198, 199, 200, 201, 202, 203, 204, 205, 206, 207, 208, 209, 210, 211, 212, 213, 214, 215, 216, 217, 218, 219, 220] rfl (by decide +kernel)
set_option maxRecDepth 20000 in
theorem gX10_worst_X4_reckon : GoodIn wsX10_worst (wsV RX10 223 RX4 yX4_reckon wsX4_reckon) := goodIn_app (goodIn_of _ (by decide +kernel)) ggX10_worst_X4_reckon
set_option maxRecDepth 20000 in
theorem ggX10_worst_X4_of : GoodIn wsX10_worst wsX4_of := goodIn_r _ [75, 9, 188] rfl (by decide +kernel)
set_option maxRecDepth 20000 in
theorem gX10_worst_X4_of : GoodIn wsX10_worst (wsV RX10 227 RX4 yX4_of wsX4_of) := goodIn_app (goodIn_of _ (by decide +kernel)) ggX10_worst_X4_of
set_option maxRecDepth 20000 in
theorem ggX10_worst_X5_start : GoodIn wsX10_worst wsX5_start := goodIn_r _ [173, 174, 175, 176, 177, 172, 178, 179, 221, 222] rfl (by decide +kernel)
set_option maxRecDepth 20000 in
theorem gX10_worst_X5_start : GoodIn wsX10_worst (wsV RX10 233 RX5 yX5_start wsX5_start) := goodIn_app (goodIn_of _ (by decide +kernel)) ggX10_worst_X5_start
set_option maxRecDepth 20000 in
theorem ggX10_worst_X5_then : GoodIn wsX10_worst wsX5_then := goodIn_r _ [178, 174, 179, 221, 222] rfl (by decide +kernel)
set_option maxRecDepth 20000 in
theorem gX10_worst_X5_then : GoodIn wsX10_worst (wsV RX10 240 RX5 yX5_then wsX5_then) := goodIn_app (goodIn_of _ (by decide +kernel)) ggX10_worst_X5_then
theorem dX10_worst_0 : decode cX10_worst 0 = .ok (.aload_n 0, 1) := by decide +kernel
theorem dX10_worst_1 : decode cX10_worst 1 = .ok (.getfield 33, 3) := by decide +kernel
theorem dX10_worst_4 : decode cX10_worst 4 = .ok (.aload_n 0, 1) := by decide +kernel
theorem dX10_worst_5 : decode cX10_worst 5 = .ok (.getfield 26, 3) := by decide +kernel
theorem dX10_worst_8 : decode cX10_worst 8 = .ok (.invokevirtual 223, 3) := by decide +kernel
theorem dX10_worst_11 : decode cX10_worst 11 = .ok (.iconst 0, 1) := by decide +kernel
theorem dX10_worst_12 : decode cX10_worst 12 = .ok (.istore_n 1, 1) := by decide +kernel
theorem dX10_worst_13 : decode cX10_worst 13 = .ok (.iconst 0, 1) := by decide +kernel
theorem dX10_worst_14 : decode cX10_worst 14 = .ok (.istore_n 2, 1) := by decide +kernel
theorem dX10_worst_15 : decode cX10_worst 15 = .ok (.iconst 0, 1) := by decide +kernel
theorem dX10_worst_16 : decode cX10_worst 16 = .ok (.istore_n 3, 1) := by decide +kernel
theorem dX10_worst_17 : decode cX10_worst 17 = .ok (.iload_n 3, 1) := by decide +kernel
theorem dX10_worst_18 : decode cX10_worst 18 = .ok (.bipush 24, 2) := by decide +kernel
theorem dX10_worst_20 : decode cX10_worst 20 = .ok (.if_icmp .ge 53, 3) := by decide +kernel
theorem dX10_worst_23 : decode cX10_worst 23 = .ok (.aload_n 0, 1) := by decide +kernel
theorem dX10_worst_24 : decode cX10_worst 24 = .ok (.getfield 33, 3) := by decide +kernel
theorem dX10_worst_27 : decode cX10_worst 27 = .ok (.bipush 9, 2) := by decide +kernel
theorem dX10_worst_29 : decode cX10_worst 29 = .ok (.iload_n 3, 1) := by decide +kernel
theorem dX10_worst_30 : decode cX10_worst 30 = .ok (.invokevirtual 227, 3) := by decide +kernel
theorem dX10_worst_33 : decode cX10_worst 33 = .ok (.aload_n 0, 1) := by decide +kernel
theorem dX10_worst_34 : decode cX10_worst 34 = .ok (.getfield 33, 3) := by decide +kernel
theorem dX10_worst_37 : decode cX10_worst 37 = .ok (.bipush 9, 2) := by decide +kernel
theorem dX10_worst_39 : decode cX10_worst 39 = .ok (.iload_n 1, 1) := by decide +kernel
theorem dX10_worst_40 : decode cX10_worst 40 = .ok (.invokevirtual 227, 3) := by decide +kernel
theorem dX10_worst_43 : decode cX10_worst 43 = .ok (.lcmp, 1) := by decide +kernel
theorem dX10_worst_44 : decode cX10_worst 44 = .ok (.ifCond .le 5, 3) := by decide +kernel
theorem dX10_worst_47 : decode cX10_worst 47 = .ok (.iload_n 3, 1) := by decide +kernel
theorem dX10_worst_48 : decode cX10_worst 48 = .ok (.istore_n 1, 1) := by decide +kernel
theorem dX10_worst_49 : decode cX10_worst 49 = .ok (.aload_n 0, 1) := by decide +kernel
theorem dX10_worst_50 : decode cX10_worst 50 = .ok (.getfield 33, 3) := by decide +kernel
theorem dX10_worst_53 : decode cX10_worst 53 = .ok (.bipush 9, 2) := by decide +kernel
theorem dX10_worst_55 : decode cX10_worst 55 = .ok (.iload_n 3, 1) := by decide +kernel
theorem dX10_worst_56 : decode cX10_worst 56 = .ok (.invokevirtual 227, 3) := by decide +kernel
theorem dX10_worst_59 : decode cX10_worst 59 = .ok (.lconst 0, 1) := by decide +kernel
theorem dX10_worst_60 : decode cX10_worst 60 = .ok (.lcmp, 1) := by decide +kernel
theorem dX10_worst_61 : decode cX10_worst 61 = .ok (.ifCond .le 6, 3) := by decide +kernel
theorem dX10_worst_64 : decode cX10_worst 64 = .ok (.iinc 2 1, 3) := by decide +kernel
theorem dX10_worst_67 : decode cX10_worst 67 = .ok (.iinc 3 1, 3) := by decide +kernel
theorem dX10_worst_70 : decode cX10_worst 70 = .ok (.goto (-53), 3) := by decide +kernel
theorem dX10_worst_73 : decode cX10_worst 73 = .ok (.aload_n 0, 1) := by decide +kernel
theorem dX10_worst_74 : decode cX10_worst 74 = .ok (.getfield 47, 3) := by decide +kernel
theorem dX10_worst_77 : decode cX10_worst 77 = .ok (.aload_n 0, 1) := by decide +kernel
theorem dX10_worst_78 : decode cX10_worst 78 = .ok (.getfield 33, 3) := by decide +kernel
theorem dX10_worst_81 : decode cX10_worst 81 = .ok (.bipush 9, 2) := by decide +kernel
theorem dX10_worst_83 : decode cX10_worst 83 = .ok (.iload_n 1, 1) := by decide +kernel
theorem dX10_worst_84 : decode cX10_worst 84 = .ok (.invokevirtual 227, 3) := by decide +kernel
theorem dX10_worst_87 : decode cX10_worst 87 = .ok (.invokevirtual 233, 3) := by decide +kernel
theorem dX10_worst_90 : decode cX10_worst 90 = .ok (.iload_n 2, 1) := by decide +kernel
theorem dX10_worst_91 : decode cX10_worst 91 = .ok (.i2l, 1) := by decide +kernel
theorem dX10_worst_92 : decode cX10_worst 92 = .ok (.invokevirtual 240, 3) := by decide +kernel
theorem dX10_worst_95 : decode cX10_worst 95 = .ok (.pop, 1) := by decide +kernel
theorem dX10_worst_96 : decode cX10_worst 96 = .ok (.iload_n 1, 1) := by decide +kernel
theorem dX10_worst_97 : decode cX10_worst 97 = .ok (.ireturn, 1) := by decide +kernel
set_option maxRecDepth 20000 in
theorem ggX10_clears_X10_isMonth : GoodIn wsX10_clears wsX10_isMonth := goodIn_r _ [14, 15, 16, 13, 17] rfl (by decide +kernel)
set_option maxRecDepth 20000 in
theorem gX10_clears_X10_isMonth : GoodIn wsX10_clears (va_wsS RX10 104 yX10_isMonth wsX10_isMonth) := goodIn_app (goodIn_of _ (by decide +kernel)) ggX10_clears_X10_isMonth
set_option maxRecDepth 20000 in
theorem ggX10_clears_X4_reckon : GoodIn wsX10_clears wsX4_reckon := goodIn_r _ [22, 23, 24, 25, 26, 27, 28, 29, 30, 31, 32, 33, 34, 35, 36, 37, 38, 39, 40, 41, 42, 43, 44, 45, 46, 47, 48, 49, 50, 51, 52, 53, 54, 55, 56, 57, 58, 59, 60, 61, 62, 63, 64, 65, 66, 67, 68, 69, 70, 71, 72, 73, 74, 75, 76, 13, 77, 78, 79, 80, 81, 82, 21, 83, 84, 85, 86, 87, 88, 89, 90, 91, 92, 93, 94, 95, 96, 97, 98, 99, 100, 101, 102, 103, 104, 105, 106, 107, 108, 109, 110, 111, 112, 113, 114, 115, 116, 117, 118, 119, 120, 121, 122, 123, 124, 125, 126, 127, 128, 129, 130, 131, 132, 133, 134, 135, 136, 137, 138, 139, 140, 141, 142, 143, 144, 145, 146, 147, 148, 149, 150, 151, 152, 153, 154, 155, 156, 157, 158, 159, 160, 161, 162, 163, 164, 165, 166, 167, 168, 169, 170, 171, 172, 173, 174, 175, 176, 177, 178, 179, 180, 214, 202, 203, 204, 205, 206, 207, 208, 209, 210, 211, 212, 213, 215, 216, 217, 218, 219, 220, 221, 222, 223, 224, 225, 226, 227, 228, 229, 230, 231, 232, 233, 234] rfl (by decide +kernel)
set_option maxRecDepth 20000 in
theorem gX10_clears_X4_reckon : GoodIn wsX10_clears (wsV RX10 223 RX4 yX4_reckon wsX4_reckon) := goodIn_app (goodIn_of _ (by decide +kernel)) ggX10_clears_X4_reckon
set_option maxRecDepth 20000 in
theorem ggX10_clears_X4_of : GoodIn wsX10_clears wsX4_of := goodIn_r _ [88, 23, 214] rfl (by decide +kernel)
set_option maxRecDepth 20000 in
theorem gX10_clears_X4_of : GoodIn wsX10_clears (wsV RX10 227 RX4 yX4_of wsX4_of) := goodIn_app (goodIn_of _ (by decide +kernel)) ggX10_clears_X4_of
set_option maxRecDepth 20000 in
theorem ggX10_clears_X4_reckonDebt : GoodIn wsX10_clears wsX4_reckonDebt := goodIn_r _ [179, 23, 180, 129, 117, 130, 109, 71, 72, 73, 74, 75, 95, 96, 97, 21, 98, 85, 86, 87, 88, 76, 13, 77, 78, 214, 228] rfl (by decide +kernel)
set_option maxRecDepth 20000 in
theorem gX10_clears_X4_reckonDebt : GoodIn wsX10_clears (wsV RX10 306 RX4 yX4_reckonDebt wsX4_reckonDebt) := goodIn_app (goodIn_of _ (by decide +kernel)) ggX10_clears_X4_reckonDebt
set_option maxRecDepth 20000 in
theorem ggX10_clears_X5_start : GoodIn wsX10_clears wsX5_start := goodIn_r _ [187, 188, 189, 190, 191, 186, 192, 193, 235, 236] rfl (by decide +kernel)
set_option maxRecDepth 20000 in
theorem gX10_clears_X5_start : GoodIn wsX10_clears (wsV RX10 233 RX5 yX5_start wsX5_start) := goodIn_app (goodIn_of _ (by decide +kernel)) ggX10_clears_X5_start
set_option maxRecDepth 20000 in
theorem ggX10_clears_X5_then : GoodIn wsX10_clears wsX5_then := goodIn_r _ [192, 188, 193, 235, 236] rfl (by decide +kernel)
set_option maxRecDepth 20000 in
theorem gX10_clears_X5_then : GoodIn wsX10_clears (wsV RX10 240 RX5 yX5_then wsX5_then) := goodIn_app (goodIn_of _ (by decide +kernel)) ggX10_clears_X5_then
theorem dX10_clears_0 : decode cX10_clears 0 = .ok (.iload_n 1, 1) := by decide +kernel
theorem dX10_clears_1 : decode cX10_clears 1 = .ok (.invokestatic 104, 3) := by decide +kernel
theorem dX10_clears_4 : decode cX10_clears 4 = .ok (.ifCond .ne 5, 3) := by decide +kernel
theorem dX10_clears_7 : decode cX10_clears 7 = .ok (.iconst (-1), 1) := by decide +kernel
theorem dX10_clears_8 : decode cX10_clears 8 = .ok (.ireturn, 1) := by decide +kernel
theorem dX10_clears_9 : decode cX10_clears 9 = .ok (.aload_n 0, 1) := by decide +kernel
theorem dX10_clears_10 : decode cX10_clears 10 = .ok (.getfield 33, 3) := by decide +kernel
theorem dX10_clears_13 : decode cX10_clears 13 = .ok (.aload_n 0, 1) := by decide +kernel
theorem dX10_clears_14 : decode cX10_clears 14 = .ok (.getfield 26, 3) := by decide +kernel
theorem dX10_clears_17 : decode cX10_clears 17 = .ok (.invokevirtual 223, 3) := by decide +kernel
theorem dX10_clears_20 : decode cX10_clears 20 = .ok (.aload_n 0, 1) := by decide +kernel
theorem dX10_clears_21 : decode cX10_clears 21 = .ok (.getfield 33, 3) := by decide +kernel
theorem dX10_clears_24 : decode cX10_clears 24 = .ok (.bipush 9, 2) := by decide +kernel
theorem dX10_clears_26 : decode cX10_clears 26 = .ok (.iload_n 1, 1) := by decide +kernel
theorem dX10_clears_27 : decode cX10_clears 27 = .ok (.invokevirtual 227, 3) := by decide +kernel
theorem dX10_clears_30 : decode cX10_clears 30 = .ok (.lstore_n 2, 1) := by decide +kernel
theorem dX10_clears_31 : decode cX10_clears 31 = .ok (.aload_n 0, 1) := by decide +kernel
theorem dX10_clears_32 : decode cX10_clears 32 = .ok (.getfield 26, 3) := by decide +kernel
theorem dX10_clears_35 : decode cX10_clears 35 = .ok (.getfield 205, 3) := by decide +kernel
theorem dX10_clears_38 : decode cX10_clears 38 = .ok (.iconst 0, 1) := by decide +kernel
theorem dX10_clears_39 : decode cX10_clears 39 = .ok (.aload_n 0, 1) := by decide +kernel
theorem dX10_clears_40 : decode cX10_clears 40 = .ok (.getfield 40, 3) := by decide +kernel
theorem dX10_clears_43 : decode cX10_clears 43 = .ok (.iconst 0, 1) := by decide +kernel
theorem dX10_clears_44 : decode cX10_clears 44 = .ok (.bipush 24, 2) := by decide +kernel
theorem dX10_clears_46 : decode cX10_clears 46 = .ok (.invokestatic 300, 3) := by decide +kernel
theorem dX10_clears_49 : decode cX10_clears 49 = .ok (.aload_n 0, 1) := by decide +kernel
theorem dX10_clears_50 : decode cX10_clears 50 = .ok (.getfield 40, 3) := by decide +kernel
theorem dX10_clears_53 : decode cX10_clears 53 = .ok (.iload_n 1, 1) := by decide +kernel
theorem dX10_clears_54 : decode cX10_clears 54 = .ok (.dup2, 1) := by decide +kernel
theorem dX10_clears_55 : decode cX10_clears 55 = .ok (.laload, 1) := by decide +kernel
theorem dX10_clears_56 : decode cX10_clears 56 = .ok (.lload_n 2, 1) := by decide +kernel
theorem dX10_clears_57 : decode cX10_clears 57 = .ok (.ladd, 1) := by decide +kernel
theorem dX10_clears_58 : decode cX10_clears 58 = .ok (.lastore, 1) := by decide +kernel
theorem dX10_clears_59 : decode cX10_clears 59 = .ok (.aload_n 0, 1) := by decide +kernel
theorem dX10_clears_60 : decode cX10_clears 60 = .ok (.getfield 33, 3) := by decide +kernel
theorem dX10_clears_63 : decode cX10_clears 63 = .ok (.aload_n 0, 1) := by decide +kernel
theorem dX10_clears_64 : decode cX10_clears 64 = .ok (.getfield 26, 3) := by decide +kernel
theorem dX10_clears_67 : decode cX10_clears 67 = .ok (.getfield 80, 3) := by decide +kernel
theorem dX10_clears_70 : decode cX10_clears 70 = .ok (.aload_n 0, 1) := by decide +kernel
theorem dX10_clears_71 : decode cX10_clears 71 = .ok (.getfield 40, 3) := by decide +kernel
theorem dX10_clears_74 : decode cX10_clears 74 = .ok (.invokevirtual 306, 3) := by decide +kernel
theorem dX10_clears_77 : decode cX10_clears 77 = .ok (.aload_n 0, 1) := by decide +kernel
theorem dX10_clears_78 : decode cX10_clears 78 = .ok (.getfield 47, 3) := by decide +kernel
theorem dX10_clears_81 : decode cX10_clears 81 = .ok (.lload_n 2, 1) := by decide +kernel
theorem dX10_clears_82 : decode cX10_clears 82 = .ok (.invokevirtual 233, 3) := by decide +kernel
theorem dX10_clears_85 : decode cX10_clears 85 = .ok (.aload_n 0, 1) := by decide +kernel
theorem dX10_clears_86 : decode cX10_clears 86 = .ok (.getfield 33, 3) := by decide +kernel
theorem dX10_clears_89 : decode cX10_clears 89 = .ok (.bipush 11, 2) := by decide +kernel
theorem dX10_clears_91 : decode cX10_clears 91 = .ok (.bipush 23, 2) := by decide +kernel
theorem dX10_clears_93 : decode cX10_clears 93 = .ok (.invokevirtual 227, 3) := by decide +kernel
theorem dX10_clears_96 : decode cX10_clears 96 = .ok (.invokevirtual 240, 3) := by decide +kernel
theorem dX10_clears_99 : decode cX10_clears 99 = .ok (.pop, 1) := by decide +kernel
theorem dX10_clears_100 : decode cX10_clears 100 = .ok (.iconst 0, 1) := by decide +kernel
theorem dX10_clears_101 : decode cX10_clears 101 = .ok (.ireturn, 1) := by decide +kernel
set_option maxRecDepth 20000 in
theorem ggX10_paces_X10_isMonth : GoodIn wsX10_paces wsX10_isMonth := goodIn_r _ [7, 8, 9, 6, 10] rfl (by decide +kernel)
set_option maxRecDepth 20000 in
theorem gX10_paces_X10_isMonth : GoodIn wsX10_paces (va_wsS RX10 104 yX10_isMonth wsX10_isMonth) := goodIn_app (goodIn_of _ (by decide +kernel)) ggX10_paces_X10_isMonth
set_option maxRecDepth 20000 in
theorem ggX10_paces_X10_isWithin : GoodIn wsX10_paces wsX10_isWithin := goodIn_r _ [10] rfl (by decide +kernel)
set_option maxRecDepth 20000 in
theorem gX10_paces_X10_isWithin : GoodIn wsX10_paces (va_wsS RX10 127 yX10_isWithin wsX10_isWithin) := goodIn_app (goodIn_of _ (by decide +kernel)) ggX10_paces_X10_isWithin
set_option maxRecDepth 20000 in
theorem ggX10_paces_X10_payFrom : GoodIn wsX10_paces wsX10_payFrom := goodIn_r _ [14, 15, 16, 17, 2, 18, 19, 20, 21, 22, 23, 24, 25, 26, 27, 28, 29, 30, 31, 32, 33, 34, 35, 36, 37, 38, 39, 40, 41, 42, 43, 44, 45, 46, 47, 48, 49, 50, 51, 52, 53, 54, 55, 56, 57, 58, 59, 60, 61, 62, 63, 64, 65, 66, 67, 68, 69, 70, 71, 72, 73, 74, 75, 76, 77, 6, 78, 79, 80, 81, 82, 83, 84, 85, 86, 87, 88, 89, 90, 91, 92, 93, 94, 95, 96, 97, 98, 99, 100, 101, 102, 103, 104, 105, 106, 107, 108, 109, 110, 111, 112, 113, 114, 115, 116, 117, 118, 119, 120, 121, 122, 123, 124, 125, 126, 127, 128, 129, 130, 131, 132, 133, 134, 135, 136, 137, 138, 139, 140, 141, 142, 143, 144, 145, 146, 147, 148, 149, 150, 151, 152, 153, 154, 155, 156, 157, 158, 159, 160, 161, 162, 163, 164, 165, 166, 167, 168, 169, 170, 171, 172, 173, 174, 175, 176, 177, 178, 179, 180, 181, 182, 195, 196, 197, 198, 199, 200, 201, 202, 203, 204, 205, 206, 207, 208, 209, 210, 211, 212, 213, 214, 215, 216, 217, 218, 219, 220, 221, 222, 223, 224, 225, 226, 227, 228, 229, 230, 231, 232, 233, 234] rfl (by decide +kernel)
set_option maxRecDepth 20000 in
theorem gX10_paces_X10_payFrom : GoodIn wsX10_paces (wsV RX10 310 RX10 yX10_payFrom wsX10_payFrom) := goodIn_app (goodIn_of _ (by decide +kernel)) ggX10_paces_X10_payFrom
set_option maxRecDepth 20000 in
theorem ggX10_paces_X4_of : GoodIn wsX10_paces wsX4_of := goodIn_r _ [89, 24, 214] rfl (by decide +kernel)
set_option maxRecDepth 20000 in
theorem gX10_paces_X4_of : GoodIn wsX10_paces (wsV RX10 227 RX4 yX4_of wsX4_of) := goodIn_app (goodIn_of _ (by decide +kernel)) ggX10_paces_X4_of
set_option maxRecDepth 20000 in
theorem ggX10_paces_X5_start : GoodIn wsX10_paces wsX5_start := goodIn_r _ [188, 189, 190, 191, 192, 187, 193, 194, 235, 236] rfl (by decide +kernel)
set_option maxRecDepth 20000 in
theorem gX10_paces_X5_start : GoodIn wsX10_paces (wsV RX10 233 RX5 yX5_start wsX5_start) := goodIn_app (goodIn_of _ (by decide +kernel)) ggX10_paces_X5_start
theorem dX10_paces_0 : decode cX10_paces 0 = .ok (.iload_n 1, 1) := by decide +kernel
theorem dX10_paces_1 : decode cX10_paces 1 = .ok (.invokestatic 104, 3) := by decide +kernel
theorem dX10_paces_4 : decode cX10_paces 4 = .ok (.ifCond .eq 13, 3) := by decide +kernel
theorem dX10_paces_7 : decode cX10_paces 7 = .ok (.iload_n 2, 1) := by decide +kernel
theorem dX10_paces_8 : decode cX10_paces 8 = .ok (.iconst 1, 1) := by decide +kernel
theorem dX10_paces_9 : decode cX10_paces 9 = .ok (.ldc 204, 2) := by decide +kernel
theorem dX10_paces_11 : decode cX10_paces 11 = .ok (.invokestatic 127, 3) := by decide +kernel
theorem dX10_paces_14 : decode cX10_paces 14 = .ok (.ifCond .ne 5, 3) := by decide +kernel
theorem dX10_paces_17 : decode cX10_paces 17 = .ok (.iconst (-1), 1) := by decide +kernel
theorem dX10_paces_18 : decode cX10_paces 18 = .ok (.ireturn, 1) := by decide +kernel
theorem dX10_paces_19 : decode cX10_paces 19 = .ok (.aload_n 0, 1) := by decide +kernel
theorem dX10_paces_20 : decode cX10_paces 20 = .ok (.iload_n 1, 1) := by decide +kernel
theorem dX10_paces_21 : decode cX10_paces 21 = .ok (.iload_n 2, 1) := by decide +kernel
theorem dX10_paces_22 : decode cX10_paces 22 = .ok (.invokevirtual 310, 3) := by decide +kernel
theorem dX10_paces_25 : decode cX10_paces 25 = .ok (.iload_n 1, 1) := by decide +kernel
theorem dX10_paces_26 : decode cX10_paces 26 = .ok (.istore_n 3, 1) := by decide +kernel
theorem dX10_paces_27 : decode cX10_paces 27 = .ok (.iload_n 3, 1) := by decide +kernel
theorem dX10_paces_28 : decode cX10_paces 28 = .ok (.bipush 24, 2) := by decide +kernel
theorem dX10_paces_30 : decode cX10_paces 30 = .ok (.if_icmp .ge 45, 3) := by decide +kernel
theorem dX10_paces_33 : decode cX10_paces 33 = .ok (.aload_n 0, 1) := by decide +kernel
theorem dX10_paces_34 : decode cX10_paces 34 = .ok (.getfield 33, 3) := by decide +kernel
theorem dX10_paces_37 : decode cX10_paces 37 = .ok (.bipush 9, 2) := by decide +kernel
theorem dX10_paces_39 : decode cX10_paces 39 = .ok (.iload_n 3, 1) := by decide +kernel
theorem dX10_paces_40 : decode cX10_paces 40 = .ok (.invokevirtual 227, 3) := by decide +kernel
theorem dX10_paces_43 : decode cX10_paces 43 = .ok (.lconst 0, 1) := by decide +kernel
theorem dX10_paces_44 : decode cX10_paces 44 = .ok (.lcmp, 1) := by decide +kernel
theorem dX10_paces_45 : decode cX10_paces 45 = .ok (.ifCond .ne 24, 3) := by decide +kernel
theorem dX10_paces_48 : decode cX10_paces 48 = .ok (.aload_n 0, 1) := by decide +kernel
theorem dX10_paces_49 : decode cX10_paces 49 = .ok (.getfield 47, 3) := by decide +kernel
theorem dX10_paces_52 : decode cX10_paces 52 = .ok (.aload_n 0, 1) := by decide +kernel
theorem dX10_paces_53 : decode cX10_paces 53 = .ok (.getfield 33, 3) := by decide +kernel
theorem dX10_paces_56 : decode cX10_paces 56 = .ok (.bipush 11, 2) := by decide +kernel
theorem dX10_paces_58 : decode cX10_paces 58 = .ok (.bipush 23, 2) := by decide +kernel
theorem dX10_paces_60 : decode cX10_paces 60 = .ok (.invokevirtual 227, 3) := by decide +kernel
theorem dX10_paces_63 : decode cX10_paces 63 = .ok (.invokevirtual 233, 3) := by decide +kernel
theorem dX10_paces_66 : decode cX10_paces 66 = .ok (.pop, 1) := by decide +kernel
theorem dX10_paces_67 : decode cX10_paces 67 = .ok (.iload_n 3, 1) := by decide +kernel
theorem dX10_paces_68 : decode cX10_paces 68 = .ok (.ireturn, 1) := by decide +kernel
theorem dX10_paces_69 : decode cX10_paces 69 = .ok (.iinc 3 1, 3) := by decide +kernel
theorem dX10_paces_72 : decode cX10_paces 72 = .ok (.goto (-45), 3) := by decide +kernel
theorem dX10_paces_75 : decode cX10_paces 75 = .ok (.bipush (-2), 2) := by decide +kernel
theorem dX10_paces_77 : decode cX10_paces 77 = .ok (.ireturn, 1) := by decide +kernel
set_option maxRecDepth 20000 in
theorem ggX10_enough_X10_isMonth : GoodIn wsX10_enough wsX10_isMonth := goodIn_r _ [15, 16, 17, 14, 18] rfl (by decide +kernel)
set_option maxRecDepth 20000 in
theorem gX10_enough_X10_isMonth : GoodIn wsX10_enough (va_wsS RX10 104 yX10_isMonth wsX10_isMonth) := goodIn_app (goodIn_of _ (by decide +kernel)) ggX10_enough_X10_isMonth
set_option maxRecDepth 20000 in
theorem ggX10_enough_X10_payFrom : GoodIn wsX10_enough wsX10_payFrom := goodIn_r _ [22, 23, 24, 25, 2, 26, 27, 28, 29, 30, 31, 32, 33, 34, 35, 36, 37, 38, 39, 40, 41, 42, 43, 44, 45, 46, 47, 48, 49, 50, 51, 52, 53, 54, 55, 56, 57, 58, 59, 60, 61, 62, 63, 64, 65, 66, 67, 68, 69, 70, 71, 72, 73, 74, 75, 76, 77, 78, 79, 80, 81, 82, 83, 84, 85, 14, 86, 87, 88, 89, 90, 91, 92, 93, 94, 95, 96, 97, 98, 99, 100, 101, 102, 103, 104, 105, 106, 107, 108, 109, 110, 111, 112, 113, 114, 115, 116, 117, 118, 119, 120, 121, 122, 123, 124, 4, 5, 6, 125, 126, 127, 128, 129, 130, 131, 132, 133, 134, 10, 11, 135, 136, 137, 138, 139, 140, 141, 142, 143, 144, 145, 146, 147, 148, 149, 150, 151, 152, 153, 154, 155, 156, 157, 158, 159, 160, 161, 162, 163, 164, 165, 166, 167, 168, 169, 170, 171, 172, 173, 174, 175, 176, 177, 178, 179, 180, 181, 182, 183, 184, 185, 198, 199, 200, 201, 202, 203, 204, 205, 206, 207, 208, 209, 210, 211, 212, 213, 214, 215, 216, 217, 218, 219, 220, 221, 222, 223, 224, 225, 226, 227, 228, 229, 230, 231, 232, 233, 234, 235, 236, 237] rfl (by decide +kernel)
set_option maxRecDepth 20000 in
theorem gX10_enough_X10_payFrom : GoodIn wsX10_enough (wsV RX10 310 RX10 yX10_payFrom wsX10_payFrom) := goodIn_app (goodIn_of _ (by decide +kernel)) ggX10_enough_X10_payFrom
set_option maxRecDepth 20000 in
theorem ggX10_enough_X4_of : GoodIn wsX10_enough wsX4_of := goodIn_r _ [97, 32, 217] rfl (by decide +kernel)
set_option maxRecDepth 20000 in
theorem gX10_enough_X4_of : GoodIn wsX10_enough (wsV RX10 227 RX4 yX4_of wsX4_of) := goodIn_app (goodIn_of _ (by decide +kernel)) ggX10_enough_X4_of
set_option maxRecDepth 20000 in
theorem ggX10_enough_X5_start : GoodIn wsX10_enough wsX5_start := goodIn_r _ [191, 192, 193, 194, 195, 190, 196, 197, 238, 239] rfl (by decide +kernel)
set_option maxRecDepth 20000 in
theorem gX10_enough_X5_start : GoodIn wsX10_enough (wsV RX10 233 RX5 yX5_start wsX5_start) := goodIn_app (goodIn_of _ (by decide +kernel)) ggX10_enough_X5_start
theorem dX10_enough_0 : decode cX10_enough 0 = .ok (.iload_n 1, 1) := by decide +kernel
theorem dX10_enough_1 : decode cX10_enough 1 = .ok (.invokestatic 104, 3) := by decide +kernel
theorem dX10_enough_4 : decode cX10_enough 4 = .ok (.ifCond .eq 15, 3) := by decide +kernel
theorem dX10_enough_7 : decode cX10_enough 7 = .ok (.iload_n 2, 1) := by decide +kernel
theorem dX10_enough_8 : decode cX10_enough 8 = .ok (.invokestatic 104, 3) := by decide +kernel
theorem dX10_enough_11 : decode cX10_enough 11 = .ok (.ifCond .eq 8, 3) := by decide +kernel
theorem dX10_enough_14 : decode cX10_enough 14 = .ok (.iload_n 2, 1) := by decide +kernel
theorem dX10_enough_15 : decode cX10_enough 15 = .ok (.iload_n 1, 1) := by decide +kernel
theorem dX10_enough_16 : decode cX10_enough 16 = .ok (.if_icmp .ge 5, 3) := by decide +kernel
theorem dX10_enough_19 : decode cX10_enough 19 = .ok (.iconst (-1), 1) := by decide +kernel
theorem dX10_enough_20 : decode cX10_enough 20 = .ok (.ireturn, 1) := by decide +kernel
theorem dX10_enough_21 : decode cX10_enough 21 = .ok (.aload_n 0, 1) := by decide +kernel
theorem dX10_enough_22 : decode cX10_enough 22 = .ok (.iload_n 1, 1) := by decide +kernel
theorem dX10_enough_23 : decode cX10_enough 23 = .ok (.iconst 0, 1) := by decide +kernel
theorem dX10_enough_24 : decode cX10_enough 24 = .ok (.invokevirtual 310, 3) := by decide +kernel
theorem dX10_enough_27 : decode cX10_enough 27 = .ok (.ldc2_w 313, 3) := by decide +kernel
theorem dX10_enough_30 : decode cX10_enough 30 = .ok (.lstore_n 3, 1) := by decide +kernel
theorem dX10_enough_31 : decode cX10_enough 31 = .ok (.iload_n 1, 1) := by decide +kernel
theorem dX10_enough_32 : decode cX10_enough 32 = .ok (.istore 5, 2) := by decide +kernel
theorem dX10_enough_34 : decode cX10_enough 34 = .ok (.iload 5, 2) := by decide +kernel
theorem dX10_enough_36 : decode cX10_enough 36 = .ok (.iload_n 2, 1) := by decide +kernel
theorem dX10_enough_37 : decode cX10_enough 37 = .ok (.if_icmp .gt 42, 3) := by decide +kernel
theorem dX10_enough_40 : decode cX10_enough 40 = .ok (.iload 5, 2) := by decide +kernel
theorem dX10_enough_42 : decode cX10_enough 42 = .ok (.iload_n 1, 1) := by decide +kernel
theorem dX10_enough_43 : decode cX10_enough 43 = .ok (.isub, 1) := by decide +kernel
theorem dX10_enough_44 : decode cX10_enough 44 = .ok (.iconst 1, 1) := by decide +kernel
theorem dX10_enough_45 : decode cX10_enough 45 = .ok (.iadd, 1) := by decide +kernel
theorem dX10_enough_46 : decode cX10_enough 46 = .ok (.i2l, 1) := by decide +kernel
theorem dX10_enough_47 : decode cX10_enough 47 = .ok (.lstore 6, 2) := by decide +kernel
theorem dX10_enough_49 : decode cX10_enough 49 = .ok (.lload_n 3, 1) := by decide +kernel
theorem dX10_enough_50 : decode cX10_enough 50 = .ok (.aload_n 0, 1) := by decide +kernel
theorem dX10_enough_51 : decode cX10_enough 51 = .ok (.getfield 33, 3) := by decide +kernel
theorem dX10_enough_54 : decode cX10_enough 54 = .ok (.bipush 9, 2) := by decide +kernel
theorem dX10_enough_56 : decode cX10_enough 56 = .ok (.iload 5, 2) := by decide +kernel
theorem dX10_enough_58 : decode cX10_enough 58 = .ok (.invokevirtual 227, 3) := by decide +kernel
theorem dX10_enough_61 : decode cX10_enough 61 = .ok (.lload 6, 2) := by decide +kernel
theorem dX10_enough_63 : decode cX10_enough 63 = .ok (.ladd, 1) := by decide +kernel
theorem dX10_enough_64 : decode cX10_enough 64 = .ok (.lconst 1, 1) := by decide +kernel
theorem dX10_enough_65 : decode cX10_enough 65 = .ok (.lsub, 1) := by decide +kernel
theorem dX10_enough_66 : decode cX10_enough 66 = .ok (.lload 6, 2) := by decide +kernel
theorem dX10_enough_68 : decode cX10_enough 68 = .ok (.ldiv, 1) := by decide +kernel
theorem dX10_enough_69 : decode cX10_enough 69 = .ok (.invokestatic 315, 3) := by decide +kernel
theorem dX10_enough_72 : decode cX10_enough 72 = .ok (.lstore_n 3, 1) := by decide +kernel
theorem dX10_enough_73 : decode cX10_enough 73 = .ok (.iinc 5 1, 3) := by decide +kernel
theorem dX10_enough_76 : decode cX10_enough 76 = .ok (.goto (-42), 3) := by decide +kernel
theorem dX10_enough_79 : decode cX10_enough 79 = .ok (.lload_n 3, 1) := by decide +kernel
theorem dX10_enough_80 : decode cX10_enough 80 = .ok (.ldc2_w 321, 3) := by decide +kernel
theorem dX10_enough_83 : decode cX10_enough 83 = .ok (.lcmp, 1) := by decide +kernel
theorem dX10_enough_84 : decode cX10_enough 84 = .ok (.ifCond .le 6, 3) := by decide +kernel
theorem dX10_enough_87 : decode cX10_enough 87 = .ok (.bipush (-2), 2) := by decide +kernel
theorem dX10_enough_89 : decode cX10_enough 89 = .ok (.ireturn, 1) := by decide +kernel
theorem dX10_enough_90 : decode cX10_enough 90 = .ok (.aload_n 0, 1) := by decide +kernel
theorem dX10_enough_91 : decode cX10_enough 91 = .ok (.getfield 47, 3) := by decide +kernel
theorem dX10_enough_94 : decode cX10_enough 94 = .ok (.lload_n 3, 1) := by decide +kernel
theorem dX10_enough_95 : decode cX10_enough 95 = .ok (.lconst 1, 1) := by decide +kernel
theorem dX10_enough_96 : decode cX10_enough 96 = .ok (.invokestatic 323, 3) := by decide +kernel
theorem dX10_enough_99 : decode cX10_enough 99 = .ok (.invokevirtual 233, 3) := by decide +kernel
theorem dX10_enough_102 : decode cX10_enough 102 = .ok (.pop, 1) := by decide +kernel
theorem dX10_enough_103 : decode cX10_enough 103 = .ok (.iconst 0, 1) := by decide +kernel
theorem dX10_enough_104 : decode cX10_enough 104 = .ok (.ireturn, 1) := by decide +kernel
set_option maxRecDepth 20000 in
theorem ggX10_shifts_X10_isMeasure : GoodIn wsX10_shifts wsX10_isMeasure := goodIn_r _ [10, 1, 11, 12, 13, 9, 14, 15, 16, 17, 18, 19, 20, 21, 22, 23, 219, 220, 221, 222, 223, 224, 225, 226, 227, 228, 229, 230, 231, 232, 233, 234, 235, 236, 237, 238, 239, 240, 241, 242] rfl (by decide +kernel)
set_option maxRecDepth 20000 in
theorem gX10_shifts_X10_isMeasure : GoodIn wsX10_shifts (wsV RX10 92 RX10 yX10_isMeasure wsX10_isMeasure) := goodIn_app (goodIn_of _ (by decide +kernel)) ggX10_shifts_X10_isMeasure
set_option maxRecDepth 20000 in
theorem ggX10_shifts_X10_reckonAsIfTold : GoodIn wsX10_shifts wsX10_reckonAsIfTold := goodIn_r _ [27, 28, 4, 1, 3, 29, 30, 31, 32, 33, 34, 35, 36, 37, 38, 39, 40, 41, 42, 43, 44, 45, 46, 47, 48, 49, 50, 51, 52, 53, 54, 55, 56, 57, 58, 59, 60, 61, 62, 63, 64, 65, 66, 67, 68, 69, 70, 71, 72, 73, 74, 75, 76, 77, 78, 79, 80, 81, 82, 83, 84, 85, 86, 87, 9, 88, 89, 90, 91, 92, 93, 94, 95, 96, 97, 98, 99, 100, 101, 102, 103, 104, 105, 106, 107, 108, 109, 110, 111, 112, 113, 114, 115, 116, 117, 118, 119, 120, 121, 122, 123, 124, 125, 126, 127, 128, 129, 130, 131, 132, 133, 134, 135, 136, 137, 138, 139, 140, 141, 142, 143, 144, 145, 146, 147, 148, 149, 150, 151, 152, 153, 154, 155, 156, 157, 158, 159, 160, 161, 162, 163, 164, 165, 166, 167, 168, 169, 170, 171, 172, 173, 174, 175, 176, 177, 178, 179, 180, 181, 182, 183, 184, 185, 186, 187, 188, 189, 190, 191, 192, 193, 194, 195, 196, 197, 198, 199, 200, 201, 243, 244, 245, 219, 220, 221, 222, 223, 224, 225, 246, 226, 227, 228, 229, 230, 231, 232, 233, 234, 235, 236, 237, 238, 239, 240, 241, 242, 247, 248, 249, 250, 251, 252, 253, 254, 255, 256, 257, 258] rfl (by decide +kernel)
set_option maxRecDepth 20000 in
theorem gX10_shifts_X10_reckonAsIfTold : GoodIn wsX10_shifts (wsV RX10 326 RX10 yX10_reckonAsIfTold wsX10_reckonAsIfTold) := goodIn_app (goodIn_of _ (by decide +kernel)) ggX10_shifts_X10_reckonAsIfTold
set_option maxRecDepth 20000 in
theorem ggX10_shifts_X4_of : GoodIn wsX10_shifts wsX4_of := goodIn_r _ [99, 34, 246] rfl (by decide +kernel)
set_option maxRecDepth 20000 in
theorem gX10_shifts_X4_of : GoodIn wsX10_shifts (wsV RX10 227 RX4 yX4_of wsX4_of) := goodIn_app (goodIn_of _ (by decide +kernel)) ggX10_shifts_X4_of
set_option maxRecDepth 20000 in
theorem ggX10_shifts_X5_start : GoodIn wsX10_shifts wsX5_start := goodIn_r _ [207, 208, 209, 210, 211, 206, 212, 213, 259, 260] rfl (by decide +kernel)
set_option maxRecDepth 20000 in
theorem gX10_shifts_X5_start : GoodIn wsX10_shifts (wsV RX10 233 RX5 yX5_start wsX5_start) := goodIn_app (goodIn_of _ (by decide +kernel)) ggX10_shifts_X5_start
set_option maxRecDepth 20000 in
theorem ggX10_shifts_X10_moreAsIf : GoodIn wsX10_shifts wsX10_moreAsIf := goodIn_r _ [217, 3, 4, 202, 97, 98, 32, 99, 34, 219, 220, 221, 222, 223, 224, 225, 246] rfl (by decide +kernel)
set_option maxRecDepth 20000 in
theorem gX10_shifts_X10_moreAsIf : GoodIn wsX10_shifts (wsV RX10 330 RX10 yX10_moreAsIf wsX10_moreAsIf) := goodIn_app (goodIn_of _ (by decide +kernel)) ggX10_shifts_X10_moreAsIf
set_option maxRecDepth 20000 in
theorem ggX10_shifts_X5_then : GoodIn wsX10_shifts wsX5_then := goodIn_r _ [212, 208, 213, 259, 260] rfl (by decide +kernel)
set_option maxRecDepth 20000 in
theorem gX10_shifts_X5_then : GoodIn wsX10_shifts (wsV RX10 240 RX5 yX5_then wsX5_then) := goodIn_app (goodIn_of _ (by decide +kernel)) ggX10_shifts_X5_then
theorem dX10_shifts_0 : decode cX10_shifts 0 = .ok (.aload_n 0, 1) := by decide +kernel
theorem dX10_shifts_1 : decode cX10_shifts 1 = .ok (.iload_n 1, 1) := by decide +kernel
theorem dX10_shifts_2 : decode cX10_shifts 2 = .ok (.iload_n 2, 1) := by decide +kernel
theorem dX10_shifts_3 : decode cX10_shifts 3 = .ok (.iload_n 3, 1) := by decide +kernel
theorem dX10_shifts_4 : decode cX10_shifts 4 = .ok (.invokevirtual 92, 3) := by decide +kernel
theorem dX10_shifts_7 : decode cX10_shifts 7 = .ok (.ifCond .ne 5, 3) := by decide +kernel
theorem dX10_shifts_10 : decode cX10_shifts 10 = .ok (.iconst (-1), 1) := by decide +kernel
theorem dX10_shifts_11 : decode cX10_shifts 11 = .ok (.ireturn, 1) := by decide +kernel
theorem dX10_shifts_12 : decode cX10_shifts 12 = .ok (.aload_n 0, 1) := by decide +kernel
theorem dX10_shifts_13 : decode cX10_shifts 13 = .ok (.aload_n 0, 1) := by decide +kernel
theorem dX10_shifts_14 : decode cX10_shifts 14 = .ok (.getfield 26, 3) := by decide +kernel
theorem dX10_shifts_17 : decode cX10_shifts 17 = .ok (.getfield 96, 3) := by decide +kernel
theorem dX10_shifts_20 : decode cX10_shifts 20 = .ok (.iload_n 2, 1) := by decide +kernel
theorem dX10_shifts_21 : decode cX10_shifts 21 = .ok (.aaload, 1) := by decide +kernel
theorem dX10_shifts_22 : decode cX10_shifts 22 = .ok (.iload_n 1, 1) := by decide +kernel
theorem dX10_shifts_23 : decode cX10_shifts 23 = .ok (.iload_n 3, 1) := by decide +kernel
theorem dX10_shifts_24 : decode cX10_shifts 24 = .ok (.invokevirtual 326, 3) := by decide +kernel
theorem dX10_shifts_27 : decode cX10_shifts 27 = .ok (.iconst (-1), 1) := by decide +kernel
theorem dX10_shifts_28 : decode cX10_shifts 28 = .ok (.istore 4, 2) := by decide +kernel
theorem dX10_shifts_30 : decode cX10_shifts 30 = .ok (.iconst 0, 1) := by decide +kernel
theorem dX10_shifts_31 : decode cX10_shifts 31 = .ok (.istore 5, 2) := by decide +kernel
theorem dX10_shifts_33 : decode cX10_shifts 33 = .ok (.bipush 23, 2) := by decide +kernel
theorem dX10_shifts_35 : decode cX10_shifts 35 = .ok (.istore 6, 2) := by decide +kernel
theorem dX10_shifts_37 : decode cX10_shifts 37 = .ok (.iload 6, 2) := by decide +kernel
theorem dX10_shifts_39 : decode cX10_shifts 39 = .ok (.ifCond .lt 42, 3) := by decide +kernel
theorem dX10_shifts_42 : decode cX10_shifts 42 = .ok (.aload_n 0, 1) := by decide +kernel
theorem dX10_shifts_43 : decode cX10_shifts 43 = .ok (.getfield 37, 3) := by decide +kernel
theorem dX10_shifts_46 : decode cX10_shifts 46 = .ok (.bipush 7, 2) := by decide +kernel
theorem dX10_shifts_48 : decode cX10_shifts 48 = .ok (.iload 6, 2) := by decide +kernel
theorem dX10_shifts_50 : decode cX10_shifts 50 = .ok (.invokevirtual 227, 3) := by decide +kernel
theorem dX10_shifts_53 : decode cX10_shifts 53 = .ok (.aload_n 0, 1) := by decide +kernel
theorem dX10_shifts_54 : decode cX10_shifts 54 = .ok (.getfield 33, 3) := by decide +kernel
theorem dX10_shifts_57 : decode cX10_shifts 57 = .ok (.bipush 7, 2) := by decide +kernel
theorem dX10_shifts_59 : decode cX10_shifts 59 = .ok (.iload 6, 2) := by decide +kernel
theorem dX10_shifts_61 : decode cX10_shifts 61 = .ok (.invokevirtual 227, 3) := by decide +kernel
theorem dX10_shifts_64 : decode cX10_shifts 64 = .ok (.lcmp, 1) := by decide +kernel
theorem dX10_shifts_65 : decode cX10_shifts 65 = .ok (.ifCond .eq 10, 3) := by decide +kernel
theorem dX10_shifts_68 : decode cX10_shifts 68 = .ok (.iload 6, 2) := by decide +kernel
theorem dX10_shifts_70 : decode cX10_shifts 70 = .ok (.istore 4, 2) := by decide +kernel
theorem dX10_shifts_72 : decode cX10_shifts 72 = .ok (.iinc 5 1, 3) := by decide +kernel
theorem dX10_shifts_75 : decode cX10_shifts 75 = .ok (.iinc 6 (-1), 3) := by decide +kernel
theorem dX10_shifts_78 : decode cX10_shifts 78 = .ok (.goto (-41), 3) := by decide +kernel
theorem dX10_shifts_81 : decode cX10_shifts 81 = .ok (.aload_n 0, 1) := by decide +kernel
theorem dX10_shifts_82 : decode cX10_shifts 82 = .ok (.getfield 47, 3) := by decide +kernel
theorem dX10_shifts_85 : decode cX10_shifts 85 = .ok (.iload 4, 2) := by decide +kernel
theorem dX10_shifts_87 : decode cX10_shifts 87 = .ok (.i2l, 1) := by decide +kernel
theorem dX10_shifts_88 : decode cX10_shifts 88 = .ok (.invokevirtual 233, 3) := by decide +kernel
theorem dX10_shifts_91 : decode cX10_shifts 91 = .ok (.iload 4, 2) := by decide +kernel
theorem dX10_shifts_93 : decode cX10_shifts 93 = .ok (.iconst (-1), 1) := by decide +kernel
theorem dX10_shifts_94 : decode cX10_shifts 94 = .ok (.if_icmp .ne 7, 3) := by decide +kernel
theorem dX10_shifts_97 : decode cX10_shifts 97 = .ok (.lconst 0, 1) := by decide +kernel
theorem dX10_shifts_98 : decode cX10_shifts 98 = .ok (.goto 11, 3) := by decide +kernel
theorem dX10_shifts_101 : decode cX10_shifts 101 = .ok (.aload_n 0, 1) := by decide +kernel
theorem dX10_shifts_102 : decode cX10_shifts 102 = .ok (.bipush 7, 2) := by decide +kernel
theorem dX10_shifts_104 : decode cX10_shifts 104 = .ok (.iload 4, 2) := by decide +kernel
theorem dX10_shifts_106 : decode cX10_shifts 106 = .ok (.invokevirtual 330, 3) := by decide +kernel
theorem dX10_shifts_109 : decode cX10_shifts 109 = .ok (.invokevirtual 240, 3) := by decide +kernel
theorem dX10_shifts_112 : decode cX10_shifts 112 = .ok (.pop, 1) := by decide +kernel
theorem dX10_shifts_113 : decode cX10_shifts 113 = .ok (.aload_n 0, 1) := by decide +kernel
theorem dX10_shifts_114 : decode cX10_shifts 114 = .ok (.getfield 47, 3) := by decide +kernel
theorem dX10_shifts_117 : decode cX10_shifts 117 = .ok (.aload_n 0, 1) := by decide +kernel
theorem dX10_shifts_118 : decode cX10_shifts 118 = .ok (.bipush 8, 2) := by decide +kernel
theorem dX10_shifts_120 : decode cX10_shifts 120 = .ok (.bipush 23, 2) := by decide +kernel
theorem dX10_shifts_122 : decode cX10_shifts 122 = .ok (.invokevirtual 330, 3) := by decide +kernel
theorem dX10_shifts_125 : decode cX10_shifts 125 = .ok (.invokevirtual 240, 3) := by decide +kernel
theorem dX10_shifts_128 : decode cX10_shifts 128 = .ok (.pop, 1) := by decide +kernel
theorem dX10_shifts_129 : decode cX10_shifts 129 = .ok (.iload 5, 2) := by decide +kernel
theorem dX10_shifts_131 : decode cX10_shifts 131 = .ok (.ireturn, 1) := by decide +kernel
set_option maxRecDepth 20000 in
theorem ggX10_were_X10_isDispute : GoodIn wsX10_were wsX10_isDispute := goodIn_r _ [7, 2, 8, 9, 10, 11, 12, 13, 14, 15, 16, 17, 6, 18, 19, 20, 21, 212, 213, 214, 215, 216, 217, 218, 219, 220, 221, 222, 223, 224, 225, 226, 227, 228, 229, 230, 231, 232, 233, 234, 235, 236] rfl (by decide +kernel)
set_option maxRecDepth 20000 in
theorem gX10_were_X10_isDispute : GoodIn wsX10_were (wsV RX10 172 RX10 yX10_isDispute wsX10_isDispute) := goodIn_app (goodIn_of _ (by decide +kernel)) ggX10_were_X10_isDispute
set_option maxRecDepth 20000 in
theorem ggX10_were_X4_reckon : GoodIn wsX10_were wsX4_reckon := goodIn_r _ [26, 27, 28, 29, 30, 31, 32, 33, 34, 35, 36, 37, 38, 39, 40, 41, 42, 43, 44, 45, 46, 47, 48, 49, 50, 51, 52, 53, 54, 55, 56, 57, 58, 59, 60, 61, 62, 63, 64, 65, 66, 67, 68, 69, 70, 71, 72, 73, 74, 75, 76, 77, 78, 79, 80, 6, 81, 82, 83, 84, 85, 86, 25, 87, 88, 89, 90, 91, 92, 93, 94, 95, 96, 97, 98, 99, 100, 101, 102, 103, 104, 105, 106, 107, 108, 109, 110, 111, 112, 113, 114, 115, 116, 117, 118, 119, 120, 121, 122, 123, 124, 125, 126, 127, 128, 129, 130, 131, 132, 133, 134, 135, 136, 137, 138, 139, 140, 141, 13, 142, 15, 143, 144, 145, 146, 147, 148, 149, 150, 151, 152, 153, 154, 155, 156, 157, 158, 159, 160, 161, 162, 163, 164, 165, 166, 167, 168, 169, 170, 171, 172, 173, 174, 175, 176, 177, 178, 179, 180, 181, 182, 237, 219, 220, 221, 222, 223, 224, 225, 226, 227, 228, 229, 230, 238, 239, 240, 241, 242, 243, 244, 245, 246, 247, 248, 249, 250, 251, 231, 232, 233, 234, 235, 236] rfl (by decide +kernel)
set_option maxRecDepth 20000 in
theorem gX10_were_X4_reckon : GoodIn wsX10_were (wsV RX10 223 RX4 yX4_reckon wsX4_reckon) := goodIn_app (goodIn_of _ (by decide +kernel)) ggX10_were_X4_reckon
set_option maxRecDepth 20000 in
theorem ggX10_were_X10_reckonAsIfDisputed : GoodIn wsX10_were wsX10_reckonAsIfDisputed := goodIn_r _ [186, 2, 8, 187, 188, 189, 22, 23, 24, 25, 26, 27, 28, 29, 30, 31, 32, 33, 34, 35, 36, 37, 38, 39, 40, 41, 42, 43, 44, 45, 46, 47, 48, 49, 50, 51, 52, 53, 54, 55, 56, 57, 58, 59, 60, 61, 62, 63, 64, 65, 66, 67, 68, 69, 70, 71, 72, 73, 74, 75, 76, 77, 78, 79, 80, 6, 81, 82, 83, 84, 85, 86, 87, 88, 89, 90, 91, 92, 93, 94, 95, 96, 97, 98, 99, 100, 101, 102, 103, 104, 105, 106, 107, 108, 109, 110, 111, 112, 113, 114, 115, 116, 117, 118, 119, 120, 121, 122, 123, 124, 125, 126, 127, 128, 129, 130, 131, 132, 133, 134, 135, 136, 137, 138, 139, 140, 141, 13, 142, 15, 143, 144, 145, 146, 147, 148, 149, 150, 151, 152, 153, 154, 155, 156, 157, 158, 159, 160, 161, 162, 163, 164, 165, 166, 167, 168, 169, 170, 171, 172, 173, 174, 175, 176, 177, 178, 179, 180, 181, 182, 212, 213, 214, 215, 216, 217, 218, 219, 220, 221, 222, 223, 224, 225, 226, 227, 228, 229, 230, 231, 232, 233, 234, 235, 236, 237, 238, 239, 240, 241, 242, 243, 244, 245, 246, 247, 248, 249, 250, 251] rfl (by decide +kernel)
set_option maxRecDepth 20000 in
theorem gX10_were_X10_reckonAsIfDisputed : GoodIn wsX10_were (wsV RX10 333 RX10 yX10_reckonAsIfDisputed wsX10_reckonAsIfDisputed) := goodIn_app (goodIn_of _ (by decide +kernel)) ggX10_were_X10_reckonAsIfDisputed
set_option maxRecDepth 20000 in
theorem ggX10_were_X10_tellTotalAndInterest : GoodIn wsX10_were wsX10_tellTotalAndInterest := goodIn_r _ [193, 194, 195, 196, 197, 6, 198, 189, 1, 199, 90, 91, 25, 92, 27, 200, 201, 202, 203, 204, 205, 206, 207, 208, 209, 210, 211, 212, 213, 214, 215, 216, 217, 218, 237, 252, 253] rfl (by decide +kernel)
set_option maxRecDepth 20000 in
theorem gX10_were_X10_tellTotalAndInterest : GoodIn wsX10_were (wsV RX10 336 RX10 yX10_tellTotalAndInterest wsX10_tellTotalAndInterest) := goodIn_app (goodIn_of _ (by decide +kernel)) ggX10_were_X10_tellTotalAndInterest
theorem dX10_were_0 : decode cX10_were 0 = .ok (.aload_n 0, 1) := by decide +kernel
theorem dX10_were_1 : decode cX10_were 1 = .ok (.iload_n 1, 1) := by decide +kernel
theorem dX10_were_2 : decode cX10_were 2 = .ok (.iload_n 2, 1) := by decide +kernel
theorem dX10_were_3 : decode cX10_were 3 = .ok (.invokevirtual 172, 3) := by decide +kernel
theorem dX10_were_6 : decode cX10_were 6 = .ok (.ifCond .ne 5, 3) := by decide +kernel
theorem dX10_were_9 : decode cX10_were 9 = .ok (.iconst (-1), 1) := by decide +kernel
theorem dX10_were_10 : decode cX10_were 10 = .ok (.ireturn, 1) := by decide +kernel
theorem dX10_were_11 : decode cX10_were 11 = .ok (.aload_n 0, 1) := by decide +kernel
theorem dX10_were_12 : decode cX10_were 12 = .ok (.getfield 33, 3) := by decide +kernel
theorem dX10_were_15 : decode cX10_were 15 = .ok (.aload_n 0, 1) := by decide +kernel
theorem dX10_were_16 : decode cX10_were 16 = .ok (.getfield 26, 3) := by decide +kernel
theorem dX10_were_19 : decode cX10_were 19 = .ok (.invokevirtual 223, 3) := by decide +kernel
theorem dX10_were_22 : decode cX10_were 22 = .ok (.aload_n 0, 1) := by decide +kernel
theorem dX10_were_23 : decode cX10_were 23 = .ok (.iload_n 1, 1) := by decide +kernel
theorem dX10_were_24 : decode cX10_were 24 = .ok (.iload_n 2, 1) := by decide +kernel
theorem dX10_were_25 : decode cX10_were 25 = .ok (.invokevirtual 333, 3) := by decide +kernel
theorem dX10_were_28 : decode cX10_were 28 = .ok (.aload_n 0, 1) := by decide +kernel
theorem dX10_were_29 : decode cX10_were 29 = .ok (.invokevirtual 336, 3) := by decide +kernel
theorem dX10_were_32 : decode cX10_were 32 = .ok (.iconst 0, 1) := by decide +kernel
theorem dX10_were_33 : decode cX10_were 33 = .ok (.ireturn, 1) := by decide +kernel
set_option maxRecDepth 20000 in
theorem ggX10_dearest_X7_isDisputed : GoodIn wsX10_dearest wsX7_isDisputed := goodIn_r _ [12, 13, 213, 214, 215, 216, 217, 218] rfl (by decide +kernel)
set_option maxRecDepth 20000 in
theorem gX10_dearest_X7_isDisputed : GoodIn wsX10_dearest (wsV RX10 175 RX7 yX7_isDisputed wsX7_isDisputed) := goodIn_app (goodIn_of _ (by decide +kernel)) ggX10_dearest_X7_isDisputed
set_option maxRecDepth 20000 in
theorem ggX10_dearest_X10_reckonAsIfDisputed : GoodIn wsX10_dearest wsX10_reckonAsIfDisputed := goodIn_r _ [18, 2, 3, 19, 20, 6, 21, 22, 23, 24, 25, 26, 27, 28, 29, 30, 31, 32, 33, 34, 35, 36, 37, 38, 39, 40, 41, 42, 43, 44, 45, 46, 47, 48, 49, 50, 51, 52, 53, 54, 55, 56, 57, 58, 59, 60, 61, 62, 63, 64, 65, 66, 67, 68, 69, 70, 71, 72, 73, 74, 75, 76, 77, 78, 79, 17, 80, 81, 82, 83, 84, 85, 86, 87, 88, 89, 90, 91, 92, 93, 94, 95, 96, 97, 98, 99, 100, 101, 102, 103, 104, 105, 106, 107, 108, 109, 110, 111, 112, 113, 114, 115, 116, 117, 118, 119, 120, 121, 122, 123, 124, 125, 126, 127, 128, 129, 130, 131, 132, 133, 134, 135, 136, 137, 138, 139, 140, 11, 141, 142, 143, 144, 145, 146, 147, 148, 149, 150, 13, 151, 152, 153, 154, 155, 156, 157, 158, 159, 160, 161, 162, 163, 164, 165, 166, 167, 168, 169, 170, 171, 172, 173, 174, 175, 176, 177, 178, 179, 180, 181, 194, 195, 196, 197, 198, 199, 200, 201, 202, 203, 204, 205, 206, 207, 208, 209, 210, 211, 212, 213, 214, 215, 216, 217, 218, 219, 220, 221, 222, 223, 224, 225, 226, 227, 228, 229, 230, 231, 232, 233] rfl (by decide +kernel)
set_option maxRecDepth 20000 in
theorem gX10_dearest_X10_reckonAsIfDisputed : GoodIn wsX10_dearest (wsV RX10 333 RX10 yX10_reckonAsIfDisputed wsX10_reckonAsIfDisputed) := goodIn_app (goodIn_of _ (by decide +kernel)) ggX10_dearest_X10_reckonAsIfDisputed
set_option maxRecDepth 20000 in
theorem ggX10_dearest_X4_of : GoodIn wsX10_dearest wsX4_of := goodIn_r _ [91, 26, 219] rfl (by decide +kernel)
set_option maxRecDepth 20000 in
theorem gX10_dearest_X4_of : GoodIn wsX10_dearest (wsV RX10 227 RX4 yX4_of wsX4_of) := goodIn_app (goodIn_of _ (by decide +kernel)) ggX10_dearest_X4_of
set_option maxRecDepth 20000 in
theorem ggX10_dearest_X5_start : GoodIn wsX10_dearest wsX5_start := goodIn_r _ [187, 188, 189, 190, 191, 186, 192, 193, 234, 235] rfl (by decide +kernel)
set_option maxRecDepth 20000 in
theorem gX10_dearest_X5_start : GoodIn wsX10_dearest (wsV RX10 233 RX5 yX5_start wsX5_start) := goodIn_app (goodIn_of _ (by decide +kernel)) ggX10_dearest_X5_start
theorem dX10_dearest_0 : decode cX10_dearest 0 = .ok (.bipush (-2), 2) := by decide +kernel
theorem dX10_dearest_2 : decode cX10_dearest 2 = .ok (.istore_n 1, 1) := by decide +kernel
theorem dX10_dearest_3 : decode cX10_dearest 3 = .ok (.ldc2_w 339, 3) := by decide +kernel
theorem dX10_dearest_6 : decode cX10_dearest 6 = .ok (.lstore_n 2, 1) := by decide +kernel
theorem dX10_dearest_7 : decode cX10_dearest 7 = .ok (.iconst 0, 1) := by decide +kernel
theorem dX10_dearest_8 : decode cX10_dearest 8 = .ok (.istore 4, 2) := by decide +kernel
theorem dX10_dearest_10 : decode cX10_dearest 10 = .ok (.iload 4, 2) := by decide +kernel
theorem dX10_dearest_12 : decode cX10_dearest 12 = .ok (.aload_n 0, 1) := by decide +kernel
theorem dX10_dearest_13 : decode cX10_dearest 13 = .ok (.getfield 26, 3) := by decide +kernel
theorem dX10_dearest_16 : decode cX10_dearest 16 = .ok (.getfield 163, 3) := by decide +kernel
theorem dX10_dearest_19 : decode cX10_dearest 19 = .ok (.getfield 167, 3) := by decide +kernel
theorem dX10_dearest_22 : decode cX10_dearest 22 = .ok (.if_icmp .ge 72, 3) := by decide +kernel
theorem dX10_dearest_25 : decode cX10_dearest 25 = .ok (.aload_n 0, 1) := by decide +kernel
theorem dX10_dearest_26 : decode cX10_dearest 26 = .ok (.getfield 26, 3) := by decide +kernel
theorem dX10_dearest_29 : decode cX10_dearest 29 = .ok (.getfield 163, 3) := by decide +kernel
theorem dX10_dearest_32 : decode cX10_dearest 32 = .ok (.iload 4, 2) := by decide +kernel
theorem dX10_dearest_34 : decode cX10_dearest 34 = .ok (.invokevirtual 175, 3) := by decide +kernel
theorem dX10_dearest_37 : decode cX10_dearest 37 = .ok (.ifCond .eq 6, 3) := by decide +kernel
theorem dX10_dearest_40 : decode cX10_dearest 40 = .ok (.goto 48, 3) := by decide +kernel
theorem dX10_dearest_43 : decode cX10_dearest 43 = .ok (.aload_n 0, 1) := by decide +kernel
theorem dX10_dearest_44 : decode cX10_dearest 44 = .ok (.iload 4, 2) := by decide +kernel
theorem dX10_dearest_46 : decode cX10_dearest 46 = .ok (.aload_n 0, 1) := by decide +kernel
theorem dX10_dearest_47 : decode cX10_dearest 47 = .ok (.getfield 26, 3) := by decide +kernel
theorem dX10_dearest_50 : decode cX10_dearest 50 = .ok (.getfield 163, 3) := by decide +kernel
theorem dX10_dearest_53 : decode cX10_dearest 53 = .ok (.getfield 270, 3) := by decide +kernel
theorem dX10_dearest_56 : decode cX10_dearest 56 = .ok (.iload 4, 2) := by decide +kernel
theorem dX10_dearest_58 : decode cX10_dearest 58 = .ok (.iaload, 1) := by decide +kernel
theorem dX10_dearest_59 : decode cX10_dearest 59 = .ok (.invokevirtual 333, 3) := by decide +kernel
theorem dX10_dearest_62 : decode cX10_dearest 62 = .ok (.aload_n 0, 1) := by decide +kernel
theorem dX10_dearest_63 : decode cX10_dearest 63 = .ok (.getfield 37, 3) := by decide +kernel
theorem dX10_dearest_66 : decode cX10_dearest 66 = .ok (.bipush 11, 2) := by decide +kernel
theorem dX10_dearest_68 : decode cX10_dearest 68 = .ok (.bipush 23, 2) := by decide +kernel
theorem dX10_dearest_70 : decode cX10_dearest 70 = .ok (.invokevirtual 227, 3) := by decide +kernel
theorem dX10_dearest_73 : decode cX10_dearest 73 = .ok (.lstore 5, 2) := by decide +kernel
theorem dX10_dearest_75 : decode cX10_dearest 75 = .ok (.lload 5, 2) := by decide +kernel
theorem dX10_dearest_77 : decode cX10_dearest 77 = .ok (.lload_n 2, 1) := by decide +kernel
theorem dX10_dearest_78 : decode cX10_dearest 78 = .ok (.lcmp, 1) := by decide +kernel
theorem dX10_dearest_79 : decode cX10_dearest 79 = .ok (.ifCond .le 9, 3) := by decide +kernel
theorem dX10_dearest_82 : decode cX10_dearest 82 = .ok (.lload 5, 2) := by decide +kernel
theorem dX10_dearest_84 : decode cX10_dearest 84 = .ok (.lstore_n 2, 1) := by decide +kernel
theorem dX10_dearest_85 : decode cX10_dearest 85 = .ok (.iload 4, 2) := by decide +kernel
theorem dX10_dearest_87 : decode cX10_dearest 87 = .ok (.istore_n 1, 1) := by decide +kernel
theorem dX10_dearest_88 : decode cX10_dearest 88 = .ok (.iinc 4 1, 3) := by decide +kernel
theorem dX10_dearest_91 : decode cX10_dearest 91 = .ok (.goto (-81), 3) := by decide +kernel
theorem dX10_dearest_94 : decode cX10_dearest 94 = .ok (.iload_n 1, 1) := by decide +kernel
theorem dX10_dearest_95 : decode cX10_dearest 95 = .ok (.ifCond .lt 12, 3) := by decide +kernel
theorem dX10_dearest_98 : decode cX10_dearest 98 = .ok (.aload_n 0, 1) := by decide +kernel
theorem dX10_dearest_99 : decode cX10_dearest 99 = .ok (.getfield 47, 3) := by decide +kernel
theorem dX10_dearest_102 : decode cX10_dearest 102 = .ok (.lload_n 2, 1) := by decide +kernel
theorem dX10_dearest_103 : decode cX10_dearest 103 = .ok (.invokevirtual 233, 3) := by decide +kernel
theorem dX10_dearest_106 : decode cX10_dearest 106 = .ok (.pop, 1) := by decide +kernel
theorem dX10_dearest_107 : decode cX10_dearest 107 = .ok (.iload_n 1, 1) := by decide +kernel
theorem dX10_dearest_108 : decode cX10_dearest 108 = .ok (.ireturn, 1) := by decide +kernel
set_option maxRecDepth 20000 in
theorem ggX10_ends_X0_has : GoodIn wsX10_ends wsX0_has := goodIn_r _ [10, 11, 66, 67, 68, 69, 70] rfl (by decide +kernel)
set_option maxRecDepth 20000 in
theorem gX10_ends_X0_has : GoodIn wsX10_ends (wsV RX10 110 RX0 yX0_has wsX0_has) := goodIn_app (goodIn_of _ (by decide +kernel)) ggX10_ends_X0_has
set_option maxRecDepth 20000 in
theorem ggX10_ends_X6_lastToldAhead : GoodIn wsX10_ends wsX6_lastToldAhead := goodIn_r _ [16, 17, 18, 19, 15, 20, 21, 71, 72, 73] rfl (by decide +kernel)
set_option maxRecDepth 20000 in
theorem gX10_ends_X6_lastToldAhead : GoodIn wsX10_ends (wsV RX10 341 RX6 yX6_lastToldAhead wsX6_lastToldAhead) := goodIn_app (goodIn_of _ (by decide +kernel)) ggX10_ends_X6_lastToldAhead
set_option maxRecDepth 20000 in
theorem ggX10_ends_X6_firstAtLeast : GoodIn wsX10_ends wsX6_firstAtLeast := goodIn_r _ [25, 26, 71, 72, 73] rfl (by decide +kernel)
set_option maxRecDepth 20000 in
theorem gX10_ends_X6_firstAtLeast : GoodIn wsX10_ends (wsV RX10 345 RX6 yX6_firstAtLeast wsX6_firstAtLeast) := goodIn_app (goodIn_of _ (by decide +kernel)) ggX10_ends_X6_firstAtLeast
set_option maxRecDepth 20000 in
theorem ggX10_ends_X5_start : GoodIn wsX10_ends wsX5_start := goodIn_r _ [31, 32, 33, 34, 35, 30, 36, 37, 74, 75] rfl (by decide +kernel)
set_option maxRecDepth 20000 in
theorem gX10_ends_X5_start : GoodIn wsX10_ends (wsV RX10 233 RX5 yX5_start wsX5_start) := goodIn_app (goodIn_of _ (by decide +kernel)) ggX10_ends_X5_start
set_option maxRecDepth 20000 in
theorem ggX10_ends_X6_pace : GoodIn wsX10_ends wsX6_pace := goodIn_r _ [41, 26, 42, 13, 14, 15, 16, 17, 18, 19, 20, 21, 71, 72, 73] rfl (by decide +kernel)
set_option maxRecDepth 20000 in
theorem gX10_ends_X6_pace : GoodIn wsX10_ends (wsV RX10 348 RX6 yX6_pace wsX6_pace) := goodIn_app (goodIn_of _ (by decide +kernel)) ggX10_ends_X6_pace
set_option maxRecDepth 20000 in
theorem ggX10_ends_X6_latest : GoodIn wsX10_ends wsX6_latest := goodIn_r _ [46, 26, 71, 72, 73] rfl (by decide +kernel)
set_option maxRecDepth 20000 in
theorem gX10_ends_X6_latest : GoodIn wsX10_ends (wsV RX10 123 RX6 yX6_latest wsX6_latest) := goodIn_app (goodIn_of _ (by decide +kernel)) ggX10_ends_X6_latest
theorem dX10_ends_0 : decode cX10_ends 0 = .ok (.aload_n 0, 1) := by decide +kernel
theorem dX10_ends_1 : decode cX10_ends 1 = .ok (.getfield 26, 3) := by decide +kernel
theorem dX10_ends_4 : decode cX10_ends 4 = .ok (.getfield 107, 3) := by decide +kernel
theorem dX10_ends_7 : decode cX10_ends 7 = .ok (.iload_n 1, 1) := by decide +kernel
theorem dX10_ends_8 : decode cX10_ends 8 = .ok (.invokevirtual 110, 3) := by decide +kernel
theorem dX10_ends_11 : decode cX10_ends 11 = .ok (.ifCond .ne 5, 3) := by decide +kernel
theorem dX10_ends_14 : decode cX10_ends 14 = .ok (.iconst (-1), 1) := by decide +kernel
theorem dX10_ends_15 : decode cX10_ends 15 = .ok (.ireturn, 1) := by decide +kernel
theorem dX10_ends_16 : decode cX10_ends 16 = .ok (.aload_n 0, 1) := by decide +kernel
theorem dX10_ends_17 : decode cX10_ends 17 = .ok (.getfield 26, 3) := by decide +kernel
theorem dX10_ends_20 : decode cX10_ends 20 = .ok (.getfield 96, 3) := by decide +kernel
theorem dX10_ends_23 : decode cX10_ends 23 = .ok (.iload_n 1, 1) := by decide +kernel
theorem dX10_ends_24 : decode cX10_ends 24 = .ok (.aaload, 1) := by decide +kernel
theorem dX10_ends_25 : decode cX10_ends 25 = .ok (.astore_n 2, 1) := by decide +kernel
theorem dX10_ends_26 : decode cX10_ends 26 = .ok (.aload_n 2, 1) := by decide +kernel
theorem dX10_ends_27 : decode cX10_ends 27 = .ok (.bipush 24, 2) := by decide +kernel
theorem dX10_ends_29 : decode cX10_ends 29 = .ok (.invokevirtual 341, 3) := by decide +kernel
theorem dX10_ends_32 : decode cX10_ends 32 = .ok (.istore_n 3, 1) := by decide +kernel
theorem dX10_ends_33 : decode cX10_ends 33 = .ok (.iload_n 3, 1) := by decide +kernel
theorem dX10_ends_34 : decode cX10_ends 34 = .ok (.iconst (-1), 1) := by decide +kernel
theorem dX10_ends_35 : decode cX10_ends 35 = .ok (.if_icmp .ne 6, 3) := by decide +kernel
theorem dX10_ends_38 : decode cX10_ends 38 = .ok (.bipush (-2), 2) := by decide +kernel
theorem dX10_ends_40 : decode cX10_ends 40 = .ok (.ireturn, 1) := by decide +kernel
theorem dX10_ends_41 : decode cX10_ends 41 = .ok (.aload_n 0, 1) := by decide +kernel
theorem dX10_ends_42 : decode cX10_ends 42 = .ok (.getfield 26, 3) := by decide +kernel
theorem dX10_ends_45 : decode cX10_ends 45 = .ok (.getfield 107, 3) := by decide +kernel
theorem dX10_ends_48 : decode cX10_ends 48 = .ok (.getfield 344, 3) := by decide +kernel
theorem dX10_ends_51 : decode cX10_ends 51 = .ok (.iload_n 1, 1) := by decide +kernel
theorem dX10_ends_52 : decode cX10_ends 52 = .ok (.iaload, 1) := by decide +kernel
theorem dX10_ends_53 : decode cX10_ends 53 = .ok (.istore 4, 2) := by decide +kernel
theorem dX10_ends_55 : decode cX10_ends 55 = .ok (.aload_n 2, 1) := by decide +kernel
theorem dX10_ends_56 : decode cX10_ends 56 = .ok (.iload 4, 2) := by decide +kernel
theorem dX10_ends_58 : decode cX10_ends 58 = .ok (.invokevirtual 345, 3) := by decide +kernel
theorem dX10_ends_61 : decode cX10_ends 61 = .ok (.istore 5, 2) := by decide +kernel
theorem dX10_ends_63 : decode cX10_ends 63 = .ok (.iload 5, 2) := by decide +kernel
theorem dX10_ends_65 : decode cX10_ends 65 = .ok (.iconst (-1), 1) := by decide +kernel
theorem dX10_ends_66 : decode cX10_ends 66 = .ok (.if_icmp .eq 15, 3) := by decide +kernel
theorem dX10_ends_69 : decode cX10_ends 69 = .ok (.aload_n 0, 1) := by decide +kernel
theorem dX10_ends_70 : decode cX10_ends 70 = .ok (.getfield 47, 3) := by decide +kernel
theorem dX10_ends_73 : decode cX10_ends 73 = .ok (.lconst 0, 1) := by decide +kernel
theorem dX10_ends_74 : decode cX10_ends 74 = .ok (.invokevirtual 233, 3) := by decide +kernel
theorem dX10_ends_77 : decode cX10_ends 77 = .ok (.pop, 1) := by decide +kernel
theorem dX10_ends_78 : decode cX10_ends 78 = .ok (.iload 5, 2) := by decide +kernel
theorem dX10_ends_80 : decode cX10_ends 80 = .ok (.ireturn, 1) := by decide +kernel
theorem dX10_ends_81 : decode cX10_ends 81 = .ok (.aload_n 2, 1) := by decide +kernel
theorem dX10_ends_82 : decode cX10_ends 82 = .ok (.iload_n 3, 1) := by decide +kernel
theorem dX10_ends_83 : decode cX10_ends 83 = .ok (.invokevirtual 348, 3) := by decide +kernel
theorem dX10_ends_86 : decode cX10_ends 86 = .ok (.istore 6, 2) := by decide +kernel
theorem dX10_ends_88 : decode cX10_ends 88 = .ok (.iload 6, 2) := by decide +kernel
theorem dX10_ends_90 : decode cX10_ends 90 = .ok (.ifCond .gt 6, 3) := by decide +kernel
theorem dX10_ends_93 : decode cX10_ends 93 = .ok (.bipush (-3), 2) := by decide +kernel
theorem dX10_ends_95 : decode cX10_ends 95 = .ok (.ireturn, 1) := by decide +kernel
theorem dX10_ends_96 : decode cX10_ends 96 = .ok (.aload_n 0, 1) := by decide +kernel
theorem dX10_ends_97 : decode cX10_ends 97 = .ok (.getfield 47, 3) := by decide +kernel
theorem dX10_ends_100 : decode cX10_ends 100 = .ok (.iload 6, 2) := by decide +kernel
theorem dX10_ends_102 : decode cX10_ends 102 = .ok (.i2l, 1) := by decide +kernel
theorem dX10_ends_103 : decode cX10_ends 103 = .ok (.invokevirtual 233, 3) := by decide +kernel
theorem dX10_ends_106 : decode cX10_ends 106 = .ok (.pop, 1) := by decide +kernel
theorem dX10_ends_107 : decode cX10_ends 107 = .ok (.iload_n 3, 1) := by decide +kernel
theorem dX10_ends_108 : decode cX10_ends 108 = .ok (.iload 4, 2) := by decide +kernel
theorem dX10_ends_110 : decode cX10_ends 110 = .ok (.aload_n 2, 1) := by decide +kernel
theorem dX10_ends_111 : decode cX10_ends 111 = .ok (.iload_n 3, 1) := by decide +kernel
theorem dX10_ends_112 : decode cX10_ends 112 = .ok (.invokevirtual 123, 3) := by decide +kernel
theorem dX10_ends_115 : decode cX10_ends 115 = .ok (.isub, 1) := by decide +kernel
theorem dX10_ends_116 : decode cX10_ends 116 = .ok (.iload 6, 2) := by decide +kernel
theorem dX10_ends_118 : decode cX10_ends 118 = .ok (.iadd, 1) := by decide +kernel
theorem dX10_ends_119 : decode cX10_ends 119 = .ok (.iconst 1, 1) := by decide +kernel
theorem dX10_ends_120 : decode cX10_ends 120 = .ok (.isub, 1) := by decide +kernel
theorem dX10_ends_121 : decode cX10_ends 121 = .ok (.iload 6, 2) := by decide +kernel
theorem dX10_ends_123 : decode cX10_ends 123 = .ok (.idiv, 1) := by decide +kernel
theorem dX10_ends_124 : decode cX10_ends 124 = .ok (.iadd, 1) := by decide +kernel
theorem dX10_ends_125 : decode cX10_ends 125 = .ok (.ireturn, 1) := by decide +kernel
set_option maxRecDepth 20000 in
theorem ggX10_leads_X10_isMonth : GoodIn wsX10_leads wsX10_isMonth := goodIn_r _ [8, 9, 10, 7, 11] rfl (by decide +kernel)
set_option maxRecDepth 20000 in
theorem gX10_leads_X10_isMonth : GoodIn wsX10_leads (va_wsS RX10 104 yX10_isMonth wsX10_isMonth) := goodIn_app (goodIn_of _ (by decide +kernel)) ggX10_leads_X10_isMonth
set_option maxRecDepth 20000 in
theorem ggX10_leads_X2_partMore : GoodIn wsX10_leads wsX2_partMore := goodIn_r _ [16, 17, 18, 19, 15, 20, 21, 22, 23, 24, 25, 26, 27, 28, 29, 30, 31, 32, 33, 34, 35, 36, 37, 38, 39, 40, 41, 42, 43, 44, 45, 46, 7, 47, 48, 67, 68, 69, 70, 71, 72, 73, 74, 75, 76, 77, 78, 79, 80, 81, 82, 83, 84, 85, 86, 87] rfl (by decide +kernel)
set_option maxRecDepth 20000 in
theorem gX10_leads_X2_partMore : GoodIn wsX10_leads (wsV RX10 237 RX2 yX2_partMore wsX2_partMore) := goodIn_app (goodIn_of _ (by decide +kernel)) ggX10_leads_X2_partMore
set_option maxRecDepth 20000 in
theorem ggX10_leads_X5_start : GoodIn wsX10_leads wsX5_start := goodIn_r _ [53, 54, 55, 56, 57, 52, 58, 59, 88, 89] rfl (by decide +kernel)
set_option maxRecDepth 20000 in
theorem gX10_leads_X5_start : GoodIn wsX10_leads (wsV RX10 233 RX5 yX5_start wsX5_start) := goodIn_app (goodIn_of _ (by decide +kernel)) ggX10_leads_X5_start
theorem dX10_leads_0 : decode cX10_leads 0 = .ok (.iload_n 1, 1) := by decide +kernel
theorem dX10_leads_1 : decode cX10_leads 1 = .ok (.invokestatic 104, 3) := by decide +kernel
theorem dX10_leads_4 : decode cX10_leads 4 = .ok (.ifCond .ne 5, 3) := by decide +kernel
theorem dX10_leads_7 : decode cX10_leads 7 = .ok (.iconst (-1), 1) := by decide +kernel
theorem dX10_leads_8 : decode cX10_leads 8 = .ok (.ireturn, 1) := by decide +kernel
theorem dX10_leads_9 : decode cX10_leads 9 = .ok (.aload_n 0, 1) := by decide +kernel
theorem dX10_leads_10 : decode cX10_leads 10 = .ok (.getfield 26, 3) := by decide +kernel
theorem dX10_leads_13 : decode cX10_leads 13 = .ok (.getfield 107, 3) := by decide +kernel
theorem dX10_leads_16 : decode cX10_leads 16 = .ok (.getfield 284, 3) := by decide +kernel
theorem dX10_leads_19 : decode cX10_leads 19 = .ok (.ifCond .ne 6, 3) := by decide +kernel
theorem dX10_leads_22 : decode cX10_leads 22 = .ok (.bipush (-2), 2) := by decide +kernel
theorem dX10_leads_24 : decode cX10_leads 24 = .ok (.ireturn, 1) := by decide +kernel
theorem dX10_leads_25 : decode cX10_leads 25 = .ok (.iconst 0, 1) := by decide +kernel
theorem dX10_leads_26 : decode cX10_leads 26 = .ok (.istore_n 2, 1) := by decide +kernel
theorem dX10_leads_27 : decode cX10_leads 27 = .ok (.iconst 1, 1) := by decide +kernel
theorem dX10_leads_28 : decode cX10_leads 28 = .ok (.istore_n 3, 1) := by decide +kernel
theorem dX10_leads_29 : decode cX10_leads 29 = .ok (.iload_n 3, 1) := by decide +kernel
theorem dX10_leads_30 : decode cX10_leads 30 = .ok (.aload_n 0, 1) := by decide +kernel
theorem dX10_leads_31 : decode cX10_leads 31 = .ok (.getfield 26, 3) := by decide +kernel
theorem dX10_leads_34 : decode cX10_leads 34 = .ok (.getfield 107, 3) := by decide +kernel
theorem dX10_leads_37 : decode cX10_leads 37 = .ok (.getfield 284, 3) := by decide +kernel
theorem dX10_leads_40 : decode cX10_leads 40 = .ok (.if_icmp .ge 33, 3) := by decide +kernel
theorem dX10_leads_43 : decode cX10_leads 43 = .ok (.aload_n 0, 1) := by decide +kernel
theorem dX10_leads_44 : decode cX10_leads 44 = .ok (.getfield 26, 3) := by decide +kernel
theorem dX10_leads_47 : decode cX10_leads 47 = .ok (.iload_n 3, 1) := by decide +kernel
theorem dX10_leads_48 : decode cX10_leads 48 = .ok (.iload_n 1, 1) := by decide +kernel
theorem dX10_leads_49 : decode cX10_leads 49 = .ok (.invokevirtual 237, 3) := by decide +kernel
theorem dX10_leads_52 : decode cX10_leads 52 = .ok (.aload_n 0, 1) := by decide +kernel
theorem dX10_leads_53 : decode cX10_leads 53 = .ok (.getfield 26, 3) := by decide +kernel
theorem dX10_leads_56 : decode cX10_leads 56 = .ok (.iload_n 2, 1) := by decide +kernel
theorem dX10_leads_57 : decode cX10_leads 57 = .ok (.iload_n 1, 1) := by decide +kernel
theorem dX10_leads_58 : decode cX10_leads 58 = .ok (.invokevirtual 237, 3) := by decide +kernel
theorem dX10_leads_61 : decode cX10_leads 61 = .ok (.lcmp, 1) := by decide +kernel
theorem dX10_leads_62 : decode cX10_leads 62 = .ok (.ifCond .le 5, 3) := by decide +kernel
theorem dX10_leads_65 : decode cX10_leads 65 = .ok (.iload_n 3, 1) := by decide +kernel
theorem dX10_leads_66 : decode cX10_leads 66 = .ok (.istore_n 2, 1) := by decide +kernel
theorem dX10_leads_67 : decode cX10_leads 67 = .ok (.iinc 3 1, 3) := by decide +kernel
theorem dX10_leads_70 : decode cX10_leads 70 = .ok (.goto (-41), 3) := by decide +kernel
theorem dX10_leads_73 : decode cX10_leads 73 = .ok (.aload_n 0, 1) := by decide +kernel
theorem dX10_leads_74 : decode cX10_leads 74 = .ok (.getfield 47, 3) := by decide +kernel
theorem dX10_leads_77 : decode cX10_leads 77 = .ok (.aload_n 0, 1) := by decide +kernel
theorem dX10_leads_78 : decode cX10_leads 78 = .ok (.getfield 26, 3) := by decide +kernel
theorem dX10_leads_81 : decode cX10_leads 81 = .ok (.iload_n 2, 1) := by decide +kernel
theorem dX10_leads_82 : decode cX10_leads 82 = .ok (.iload_n 1, 1) := by decide +kernel
theorem dX10_leads_83 : decode cX10_leads 83 = .ok (.invokevirtual 237, 3) := by decide +kernel
theorem dX10_leads_86 : decode cX10_leads 86 = .ok (.invokevirtual 233, 3) := by decide +kernel
theorem dX10_leads_89 : decode cX10_leads 89 = .ok (.pop, 1) := by decide +kernel
theorem dX10_leads_90 : decode cX10_leads 90 = .ok (.iload_n 2, 1) := by decide +kernel
theorem dX10_leads_91 : decode cX10_leads 91 = .ok (.ireturn, 1) := by decide +kernel
set_option maxRecDepth 20000 in
theorem ggX10_above_X10_isMonth : GoodIn wsX10_above wsX10_isMonth := goodIn_r _ [9, 10, 11, 8, 12] rfl (by decide +kernel)
set_option maxRecDepth 20000 in
theorem gX10_above_X10_isMonth : GoodIn wsX10_above (va_wsS RX10 104 yX10_isMonth wsX10_isMonth) := goodIn_app (goodIn_of _ (by decide +kernel)) ggX10_above_X10_isMonth
set_option maxRecDepth 20000 in
theorem ggX10_above_X2_done : GoodIn wsX10_above wsX2_done := goodIn_r _ [17, 18, 19, 20, 21, 22, 23, 24, 65, 66, 67, 68, 69, 70, 71, 72, 73, 74, 75, 76, 82, 83, 84] rfl (by decide +kernel)
set_option maxRecDepth 20000 in
theorem gX10_above_X2_done : GoodIn wsX10_above (wsV RX10 246 RX2 yX2_done wsX2_done) := goodIn_app (goodIn_of _ (by decide +kernel)) ggX10_above_X2_done
set_option maxRecDepth 20000 in
theorem ggX10_above_X2_isAboveCap : GoodIn wsX10_above wsX2_isAboveCap := goodIn_r _ [28, 29, 14, 15, 16, 17, 18, 19, 20, 21, 22, 23, 24, 30, 31, 32, 33, 34, 35, 36, 37, 38, 39, 40, 41, 42, 43, 8, 44, 45, 65, 66, 67, 68, 69, 70, 71, 72, 73, 74, 75, 76, 82, 83, 84, 77, 78, 79, 80, 81, 85] rfl (by decide +kernel)
set_option maxRecDepth 20000 in
theorem gX10_above_X2_isAboveCap : GoodIn wsX10_above (wsV RX10 243 RX2 yX2_isAboveCap wsX2_isAboveCap) := goodIn_app (goodIn_of _ (by decide +kernel)) ggX10_above_X2_isAboveCap
set_option maxRecDepth 20000 in
theorem ggX10_above_X5_start : GoodIn wsX10_above wsX5_start := goodIn_r _ [50, 51, 52, 53, 54, 49, 55, 56, 86, 87] rfl (by decide +kernel)
set_option maxRecDepth 20000 in
theorem gX10_above_X5_start : GoodIn wsX10_above (wsV RX10 233 RX5 yX5_start wsX5_start) := goodIn_app (goodIn_of _ (by decide +kernel)) ggX10_above_X5_start
set_option maxRecDepth 20000 in
theorem ggX10_above_X5_then : GoodIn wsX10_above wsX5_then := goodIn_r _ [55, 51, 56, 86, 87] rfl (by decide +kernel)
set_option maxRecDepth 20000 in
theorem gX10_above_X5_then : GoodIn wsX10_above (wsV RX10 240 RX5 yX5_then wsX5_then) := goodIn_app (goodIn_of _ (by decide +kernel)) ggX10_above_X5_then
theorem dX10_above_0 : decode cX10_above 0 = .ok (.iload_n 1, 1) := by decide +kernel
theorem dX10_above_1 : decode cX10_above 1 = .ok (.invokestatic 104, 3) := by decide +kernel
theorem dX10_above_4 : decode cX10_above 4 = .ok (.ifCond .ne 5, 3) := by decide +kernel
theorem dX10_above_7 : decode cX10_above 7 = .ok (.iconst (-1), 1) := by decide +kernel
theorem dX10_above_8 : decode cX10_above 8 = .ok (.ireturn, 1) := by decide +kernel
theorem dX10_above_9 : decode cX10_above 9 = .ok (.iconst 0, 1) := by decide +kernel
theorem dX10_above_10 : decode cX10_above 10 = .ok (.istore_n 2, 1) := by decide +kernel
theorem dX10_above_11 : decode cX10_above 11 = .ok (.iconst 0, 1) := by decide +kernel
theorem dX10_above_12 : decode cX10_above 12 = .ok (.istore_n 3, 1) := by decide +kernel
theorem dX10_above_13 : decode cX10_above 13 = .ok (.iconst 0, 1) := by decide +kernel
theorem dX10_above_14 : decode cX10_above 14 = .ok (.istore 4, 2) := by decide +kernel
theorem dX10_above_16 : decode cX10_above 16 = .ok (.iconst 0, 1) := by decide +kernel
theorem dX10_above_17 : decode cX10_above 17 = .ok (.istore 5, 2) := by decide +kernel
theorem dX10_above_19 : decode cX10_above 19 = .ok (.iload 5, 2) := by decide +kernel
theorem dX10_above_21 : decode cX10_above 21 = .ok (.aload_n 0, 1) := by decide +kernel
theorem dX10_above_22 : decode cX10_above 22 = .ok (.getfield 26, 3) := by decide +kernel
theorem dX10_above_25 : decode cX10_above 25 = .ok (.getfield 107, 3) := by decide +kernel
theorem dX10_above_28 : decode cX10_above 28 = .ok (.getfield 284, 3) := by decide +kernel
theorem dX10_above_31 : decode cX10_above 31 = .ok (.if_icmp .ge 108, 3) := by decide +kernel
theorem dX10_above_34 : decode cX10_above 34 = .ok (.iconst 1, 1) := by decide +kernel
theorem dX10_above_35 : decode cX10_above 35 = .ok (.iload 5, 2) := by decide +kernel
theorem dX10_above_37 : decode cX10_above 37 = .ok (.ishl, 1) := by decide +kernel
theorem dX10_above_38 : decode cX10_above 38 = .ok (.istore 6, 2) := by decide +kernel
theorem dX10_above_40 : decode cX10_above 40 = .ok (.aload_n 0, 1) := by decide +kernel
theorem dX10_above_41 : decode cX10_above 41 = .ok (.getfield 26, 3) := by decide +kernel
theorem dX10_above_44 : decode cX10_above 44 = .ok (.iload 5, 2) := by decide +kernel
theorem dX10_above_46 : decode cX10_above 46 = .ok (.iload_n 1, 1) := by decide +kernel
theorem dX10_above_47 : decode cX10_above 47 = .ok (.invokevirtual 246, 3) := by decide +kernel
theorem dX10_above_50 : decode cX10_above 50 = .ok (.istore 7, 2) := by decide +kernel
theorem dX10_above_52 : decode cX10_above 52 = .ok (.iload_n 2, 1) := by decide +kernel
theorem dX10_above_53 : decode cX10_above 53 = .ok (.iload 7, 2) := by decide +kernel
theorem dX10_above_55 : decode cX10_above 55 = .ok (.aload_n 0, 1) := by decide +kernel
theorem dX10_above_56 : decode cX10_above 56 = .ok (.getfield 26, 3) := by decide +kernel
theorem dX10_above_59 : decode cX10_above 59 = .ok (.getfield 107, 3) := by decide +kernel
theorem dX10_above_62 : decode cX10_above 62 = .ok (.getfield 344, 3) := by decide +kernel
theorem dX10_above_65 : decode cX10_above 65 = .ok (.iload 5, 2) := by decide +kernel
theorem dX10_above_67 : decode cX10_above 67 = .ok (.iaload, 1) := by decide +kernel
theorem dX10_above_68 : decode cX10_above 68 = .ok (.if_icmp .le 8, 3) := by decide +kernel
theorem dX10_above_71 : decode cX10_above 71 = .ok (.iload 6, 2) := by decide +kernel
theorem dX10_above_73 : decode cX10_above 73 = .ok (.goto 4, 3) := by decide +kernel
theorem dX10_above_76 : decode cX10_above 76 = .ok (.iconst 0, 1) := by decide +kernel
theorem dX10_above_77 : decode cX10_above 77 = .ok (.ior, 1) := by decide +kernel
theorem dX10_above_78 : decode cX10_above 78 = .ok (.istore_n 2, 1) := by decide +kernel
theorem dX10_above_79 : decode cX10_above 79 = .ok (.iload_n 3, 1) := by decide +kernel
theorem dX10_above_80 : decode cX10_above 80 = .ok (.aload_n 0, 1) := by decide +kernel
theorem dX10_above_81 : decode cX10_above 81 = .ok (.getfield 26, 3) := by decide +kernel
theorem dX10_above_84 : decode cX10_above 84 = .ok (.iload 5, 2) := by decide +kernel
theorem dX10_above_86 : decode cX10_above 86 = .ok (.iload_n 1, 1) := by decide +kernel
theorem dX10_above_87 : decode cX10_above 87 = .ok (.invokevirtual 243, 3) := by decide +kernel
theorem dX10_above_90 : decode cX10_above 90 = .ok (.ifCond .eq 8, 3) := by decide +kernel
theorem dX10_above_93 : decode cX10_above 93 = .ok (.iload 6, 2) := by decide +kernel
theorem dX10_above_95 : decode cX10_above 95 = .ok (.goto 4, 3) := by decide +kernel
theorem dX10_above_98 : decode cX10_above 98 = .ok (.iconst 0, 1) := by decide +kernel
theorem dX10_above_99 : decode cX10_above 99 = .ok (.ior, 1) := by decide +kernel
theorem dX10_above_100 : decode cX10_above 100 = .ok (.istore_n 3, 1) := by decide +kernel
theorem dX10_above_101 : decode cX10_above 101 = .ok (.iload 4, 2) := by decide +kernel
theorem dX10_above_103 : decode cX10_above 103 = .ok (.iload_n 1, 1) := by decide +kernel
theorem dX10_above_104 : decode cX10_above 104 = .ok (.ifCond .le 25, 3) := by decide +kernel
theorem dX10_above_107 : decode cX10_above 107 = .ok (.iload 7, 2) := by decide +kernel
theorem dX10_above_109 : decode cX10_above 109 = .ok (.aload_n 0, 1) := by decide +kernel
theorem dX10_above_110 : decode cX10_above 110 = .ok (.getfield 26, 3) := by decide +kernel
theorem dX10_above_113 : decode cX10_above 113 = .ok (.iload 5, 2) := by decide +kernel
theorem dX10_above_115 : decode cX10_above 115 = .ok (.iload_n 1, 1) := by decide +kernel
theorem dX10_above_116 : decode cX10_above 116 = .ok (.iconst 1, 1) := by decide +kernel
theorem dX10_above_117 : decode cX10_above 117 = .ok (.isub, 1) := by decide +kernel
theorem dX10_above_118 : decode cX10_above 118 = .ok (.invokevirtual 246, 3) := by decide +kernel
theorem dX10_above_121 : decode cX10_above 121 = .ok (.if_icmp .ge 8, 3) := by decide +kernel
theorem dX10_above_124 : decode cX10_above 124 = .ok (.iload 6, 2) := by decide +kernel
theorem dX10_above_126 : decode cX10_above 126 = .ok (.goto 4, 3) := by decide +kernel
theorem dX10_above_129 : decode cX10_above 129 = .ok (.iconst 0, 1) := by decide +kernel
theorem dX10_above_130 : decode cX10_above 130 = .ok (.ior, 1) := by decide +kernel
theorem dX10_above_131 : decode cX10_above 131 = .ok (.istore 4, 2) := by decide +kernel
theorem dX10_above_133 : decode cX10_above 133 = .ok (.iinc 5 1, 3) := by decide +kernel
theorem dX10_above_136 : decode cX10_above 136 = .ok (.goto (-117), 3) := by decide +kernel
theorem dX10_above_139 : decode cX10_above 139 = .ok (.aload_n 0, 1) := by decide +kernel
theorem dX10_above_140 : decode cX10_above 140 = .ok (.getfield 47, 3) := by decide +kernel
theorem dX10_above_143 : decode cX10_above 143 = .ok (.iload_n 3, 1) := by decide +kernel
theorem dX10_above_144 : decode cX10_above 144 = .ok (.i2l, 1) := by decide +kernel
theorem dX10_above_145 : decode cX10_above 145 = .ok (.invokevirtual 233, 3) := by decide +kernel
theorem dX10_above_148 : decode cX10_above 148 = .ok (.iload 4, 2) := by decide +kernel
theorem dX10_above_150 : decode cX10_above 150 = .ok (.i2l, 1) := by decide +kernel
theorem dX10_above_151 : decode cX10_above 151 = .ok (.invokevirtual 240, 3) := by decide +kernel
theorem dX10_above_154 : decode cX10_above 154 = .ok (.pop, 1) := by decide +kernel
theorem dX10_above_155 : decode cX10_above 155 = .ok (.iload_n 2, 1) := by decide +kernel
theorem dX10_above_156 : decode cX10_above 156 = .ok (.ireturn, 1) := by decide +kernel
set_option maxRecDepth 20000 in
theorem ggX10_like_X10_isKind : GoodIn wsX10_like wsX10_isKind := goodIn_r _ [7, 8, 9, 6, 10] rfl (by decide +kernel)
set_option maxRecDepth 20000 in
theorem gX10_like_X10_isKind : GoodIn wsX10_like (va_wsS RX10 134 yX10_isKind wsX10_isKind) := goodIn_app (goodIn_of _ (by decide +kernel)) ggX10_like_X10_isKind
set_option maxRecDepth 20000 in
theorem ggX10_like_X10_isRate : GoodIn wsX10_like wsX10_isRate := goodIn_r _ [13, 8, 9, 6, 10] rfl (by decide +kernel)
set_option maxRecDepth 20000 in
theorem gX10_like_X10_isRate : GoodIn wsX10_like (va_wsS RX10 140 yX10_isRate wsX10_isRate) := goodIn_app (goodIn_of _ (by decide +kernel)) ggX10_like_X10_isRate
set_option maxRecDepth 20000 in
theorem ggX10_like_X0_likeBits : GoodIn wsX10_like wsX0_likeBits := goodIn_r _ [18, 19, 20, 70, 71, 72, 73, 74] rfl (by decide +kernel)
set_option maxRecDepth 20000 in
theorem gX10_like_X0_likeBits : GoodIn wsX10_like (wsV RX10 259 RX0 yX0_likeBits wsX0_likeBits) := goodIn_app (goodIn_of _ (by decide +kernel)) ggX10_like_X0_likeBits
set_option maxRecDepth 20000 in
theorem ggX10_like_X5_start : GoodIn wsX10_like wsX5_start := goodIn_r _ [25, 26, 27, 28, 29, 24, 30, 31, 75, 76] rfl (by decide +kernel)
set_option maxRecDepth 20000 in
theorem gX10_like_X5_start : GoodIn wsX10_like (wsV RX10 233 RX5 yX5_start wsX5_start) := goodIn_app (goodIn_of _ (by decide +kernel)) ggX10_like_X5_start
set_option maxRecDepth 20000 in
theorem ggX10_like_X0_leastRate : GoodIn wsX10_like wsX0_leastRate := goodIn_r _ [35, 19, 20, 36, 70, 71, 72, 73, 74] rfl (by decide +kernel)
set_option maxRecDepth 20000 in
theorem gX10_like_X0_leastRate : GoodIn wsX10_like (wsV RX10 351 RX0 yX0_leastRate wsX0_leastRate) := goodIn_app (goodIn_of _ (by decide +kernel)) ggX10_like_X0_leastRate
set_option maxRecDepth 20000 in
theorem ggX10_like_X5_then : GoodIn wsX10_like wsX5_then := goodIn_r _ [30, 26, 31, 75, 76] rfl (by decide +kernel)
set_option maxRecDepth 20000 in
theorem gX10_like_X5_then : GoodIn wsX10_like (wsV RX10 240 RX5 yX5_then wsX5_then) := goodIn_app (goodIn_of _ (by decide +kernel)) ggX10_like_X5_then
set_option maxRecDepth 20000 in
theorem ggX10_like_X0_greatestRate : GoodIn wsX10_like wsX0_greatestRate := goodIn_r _ [41, 19, 20, 36, 42, 43, 44, 45, 70, 71, 72, 73, 74] rfl (by decide +kernel)
set_option maxRecDepth 20000 in
theorem gX10_like_X0_greatestRate : GoodIn wsX10_like (wsV RX10 354 RX0 yX0_greatestRate wsX0_greatestRate) := goodIn_app (goodIn_of _ (by decide +kernel)) ggX10_like_X0_greatestRate
set_option maxRecDepth 20000 in
theorem ggX10_like_X0_price : GoodIn wsX10_like wsX0_price := goodIn_r _ [49, 19, 20, 50, 36, 70, 71, 72, 73, 74] rfl (by decide +kernel)
set_option maxRecDepth 20000 in
theorem gX10_like_X0_price : GoodIn wsX10_like (wsV RX10 150 RX0 yX0_price wsX0_price) := goodIn_app (goodIn_of _ (by decide +kernel)) ggX10_like_X0_price
theorem dX10_like_0 : decode cX10_like 0 = .ok (.iload_n 1, 1) := by decide +kernel
theorem dX10_like_1 : decode cX10_like 1 = .ok (.invokestatic 134, 3) := by decide +kernel
theorem dX10_like_4 : decode cX10_like 4 = .ok (.ifCond .eq 10, 3) := by decide +kernel
theorem dX10_like_7 : decode cX10_like 7 = .ok (.iload_n 2, 1) := by decide +kernel
theorem dX10_like_8 : decode cX10_like 8 = .ok (.invokestatic 140, 3) := by decide +kernel
theorem dX10_like_11 : decode cX10_like 11 = .ok (.ifCond .ne 5, 3) := by decide +kernel
theorem dX10_like_14 : decode cX10_like 14 = .ok (.iconst (-1), 1) := by decide +kernel
theorem dX10_like_15 : decode cX10_like 15 = .ok (.ireturn, 1) := by decide +kernel
theorem dX10_like_16 : decode cX10_like 16 = .ok (.aload_n 0, 1) := by decide +kernel
theorem dX10_like_17 : decode cX10_like 17 = .ok (.getfield 26, 3) := by decide +kernel
theorem dX10_like_20 : decode cX10_like 20 = .ok (.getfield 107, 3) := by decide +kernel
theorem dX10_like_23 : decode cX10_like 23 = .ok (.astore_n 3, 1) := by decide +kernel
theorem dX10_like_24 : decode cX10_like 24 = .ok (.aload_n 0, 1) := by decide +kernel
theorem dX10_like_25 : decode cX10_like 25 = .ok (.getfield 47, 3) := by decide +kernel
theorem dX10_like_28 : decode cX10_like 28 = .ok (.aload_n 3, 1) := by decide +kernel
theorem dX10_like_29 : decode cX10_like 29 = .ok (.iload_n 1, 1) := by decide +kernel
theorem dX10_like_30 : decode cX10_like 30 = .ok (.invokevirtual 259, 3) := by decide +kernel
theorem dX10_like_33 : decode cX10_like 33 = .ok (.i2l, 1) := by decide +kernel
theorem dX10_like_34 : decode cX10_like 34 = .ok (.invokevirtual 233, 3) := by decide +kernel
theorem dX10_like_37 : decode cX10_like 37 = .ok (.aload_n 3, 1) := by decide +kernel
theorem dX10_like_38 : decode cX10_like 38 = .ok (.iload_n 1, 1) := by decide +kernel
theorem dX10_like_39 : decode cX10_like 39 = .ok (.invokevirtual 351, 3) := by decide +kernel
theorem dX10_like_42 : decode cX10_like 42 = .ok (.i2l, 1) := by decide +kernel
theorem dX10_like_43 : decode cX10_like 43 = .ok (.invokevirtual 240, 3) := by decide +kernel
theorem dX10_like_46 : decode cX10_like 46 = .ok (.aload_n 3, 1) := by decide +kernel
theorem dX10_like_47 : decode cX10_like 47 = .ok (.iload_n 1, 1) := by decide +kernel
theorem dX10_like_48 : decode cX10_like 48 = .ok (.invokevirtual 354, 3) := by decide +kernel
theorem dX10_like_51 : decode cX10_like 51 = .ok (.i2l, 1) := by decide +kernel
theorem dX10_like_52 : decode cX10_like 52 = .ok (.invokevirtual 240, 3) := by decide +kernel
theorem dX10_like_55 : decode cX10_like 55 = .ok (.pop, 1) := by decide +kernel
theorem dX10_like_56 : decode cX10_like 56 = .ok (.aload_n 3, 1) := by decide +kernel
theorem dX10_like_57 : decode cX10_like 57 = .ok (.iload_n 1, 1) := by decide +kernel
theorem dX10_like_58 : decode cX10_like 58 = .ok (.iload_n 2, 1) := by decide +kernel
theorem dX10_like_59 : decode cX10_like 59 = .ok (.invokevirtual 150, 3) := by decide +kernel
theorem dX10_like_62 : decode cX10_like 62 = .ok (.ireturn, 1) := by decide +kernel
set_option maxRecDepth 20000 in
theorem ggX10_would_X8_allow : GoodIn wsX10_would wsX8_allow := goodIn_r _ [8, 9, 10, 11, 7, 12, 13, 14, 15] rfl (by decide +kernel)
set_option maxRecDepth 20000 in
theorem gX10_would_X8_allow : GoodIn wsX10_would (va_wsS RX10 74 yX8_allow wsX8_allow) := goodIn_app (goodIn_of _ (by decide +kernel)) ggX10_would_X8_allow
set_option maxRecDepth 20000 in
theorem ggX10_would_X8_of : GoodIn wsX10_would wsX8_of := goodIn_r _ [19, 20, 224] rfl (by decide +kernel)
set_option maxRecDepth 20000 in
theorem gX10_would_X8_of : GoodIn wsX10_would (wsV RX10 84 RX8 yX8_of wsX8_of) := goodIn_app (goodIn_of _ (by decide +kernel)) ggX10_would_X8_of
set_option maxRecDepth 20000 in
theorem ggX10_would_X4_reckon : GoodIn wsX10_would wsX4_reckon := goodIn_r _ [25, 26, 27, 28, 29, 30, 31, 32, 33, 34, 35, 36, 37, 38, 39, 40, 41, 42, 43, 44, 45, 46, 47, 48, 49, 50, 51, 52, 53, 54, 55, 56, 57, 58, 59, 60, 61, 62, 63, 64, 65, 66, 67, 68, 69, 70, 71, 72, 73, 17, 18, 7, 19, 20, 74, 14, 75, 76, 77, 78, 79, 80, 24, 81, 82, 83, 84, 85, 86, 87, 88, 89, 90, 91, 92, 93, 94, 95, 96, 97, 98, 99, 100, 101, 102, 103, 104, 105, 106, 107, 108, 109, 110, 111, 112, 113, 114, 115, 116, 117, 118, 119, 120, 121, 122, 123, 124, 125, 126, 127, 128, 129, 130, 131, 132, 133, 134, 135, 136, 137, 138, 139, 140, 141, 142, 143, 144, 145, 146, 147, 148, 149, 150, 151, 152, 153, 154, 155, 156, 157, 158, 159, 160, 161, 162, 163, 164, 165, 166, 167, 168, 169, 170, 171, 172, 173, 174, 175, 176, 177, 178, 225, 212, 213, 214, 215, 216, 217, 218, 219, 220, 221, 222, 223, 226, 227, 228, 229, 230, 231, 232, 233, 234, 235, 236, 237, 238, 224, 239, 240, 241, 242, 243, 244] rfl (by decide +kernel)
set_option maxRecDepth 20000 in
theorem gX10_would_X4_reckon : GoodIn wsX10_would (wsV RX10 223 RX4 yX4_reckon wsX4_reckon) := goodIn_app (goodIn_of _ (by decide +kernel)) ggX10_would_X4_reckon
set_option maxRecDepth 20000 in
theorem ggX10_would_X8_put : GoodIn wsX10_would wsX8_put := goodIn_r _ [182, 20, 224] rfl (by decide +kernel)
set_option maxRecDepth 20000 in
theorem gX10_would_X8_put : GoodIn wsX10_would (wsV RX10 88 RX8 yX8_put wsX8_put) := goodIn_app (goodIn_of _ (by decide +kernel)) ggX10_would_X8_put
set_option maxRecDepth 20000 in
theorem ggX10_would_X10_tellTotalAndInterest : GoodIn wsX10_would wsX10_tellTotalAndInterest := goodIn_r _ [186, 187, 188, 189, 190, 14, 191, 4, 3, 192, 84, 85, 24, 86, 26, 193, 194, 195, 196, 197, 198, 199, 200, 201, 202, 203, 204, 205, 206, 207, 208, 209, 210, 211, 225, 245, 246] rfl (by decide +kernel)
set_option maxRecDepth 20000 in
theorem gX10_would_X10_tellTotalAndInterest : GoodIn wsX10_would (wsV RX10 336 RX10 yX10_tellTotalAndInterest wsX10_tellTotalAndInterest) := goodIn_app (goodIn_of _ (by decide +kernel)) ggX10_would_X10_tellTotalAndInterest
theorem dX10_would_0 : decode cX10_would 0 = .ok (.iload_n 1, 1) := by decide +kernel
theorem dX10_would_1 : decode cX10_would 1 = .ok (.iload_n 2, 1) := by decide +kernel
theorem dX10_would_2 : decode cX10_would 2 = .ok (.invokestatic 74, 3) := by decide +kernel
theorem dX10_would_5 : decode cX10_would 5 = .ok (.ifCond .ne 5, 3) := by decide +kernel
theorem dX10_would_8 : decode cX10_would 8 = .ok (.iconst (-1), 1) := by decide +kernel
theorem dX10_would_9 : decode cX10_would 9 = .ok (.ireturn, 1) := by decide +kernel
theorem dX10_would_10 : decode cX10_would 10 = .ok (.aload_n 0, 1) := by decide +kernel
theorem dX10_would_11 : decode cX10_would 11 = .ok (.getfield 26, 3) := by decide +kernel
theorem dX10_would_14 : decode cX10_would 14 = .ok (.getfield 80, 3) := by decide +kernel
theorem dX10_would_17 : decode cX10_would 17 = .ok (.iload_n 1, 1) := by decide +kernel
theorem dX10_would_18 : decode cX10_would 18 = .ok (.invokevirtual 84, 3) := by decide +kernel
theorem dX10_would_21 : decode cX10_would 21 = .ok (.istore_n 3, 1) := by decide +kernel
theorem dX10_would_22 : decode cX10_would 22 = .ok (.aload_n 0, 1) := by decide +kernel
theorem dX10_would_23 : decode cX10_would 23 = .ok (.getfield 33, 3) := by decide +kernel
theorem dX10_would_26 : decode cX10_would 26 = .ok (.aload_n 0, 1) := by decide +kernel
theorem dX10_would_27 : decode cX10_would 27 = .ok (.getfield 26, 3) := by decide +kernel
theorem dX10_would_30 : decode cX10_would 30 = .ok (.invokevirtual 223, 3) := by decide +kernel
theorem dX10_would_33 : decode cX10_would 33 = .ok (.aload_n 0, 1) := by decide +kernel
theorem dX10_would_34 : decode cX10_would 34 = .ok (.getfield 26, 3) := by decide +kernel
theorem dX10_would_37 : decode cX10_would 37 = .ok (.getfield 80, 3) := by decide +kernel
theorem dX10_would_40 : decode cX10_would 40 = .ok (.iload_n 1, 1) := by decide +kernel
theorem dX10_would_41 : decode cX10_would 41 = .ok (.iload_n 2, 1) := by decide +kernel
theorem dX10_would_42 : decode cX10_would 42 = .ok (.invokevirtual 88, 3) := by decide +kernel
theorem dX10_would_45 : decode cX10_would 45 = .ok (.aload_n 0, 1) := by decide +kernel
theorem dX10_would_46 : decode cX10_would 46 = .ok (.getfield 37, 3) := by decide +kernel
theorem dX10_would_49 : decode cX10_would 49 = .ok (.aload_n 0, 1) := by decide +kernel
theorem dX10_would_50 : decode cX10_would 50 = .ok (.getfield 26, 3) := by decide +kernel
theorem dX10_would_53 : decode cX10_would 53 = .ok (.invokevirtual 223, 3) := by decide +kernel
theorem dX10_would_56 : decode cX10_would 56 = .ok (.aload_n 0, 1) := by decide +kernel
theorem dX10_would_57 : decode cX10_would 57 = .ok (.getfield 26, 3) := by decide +kernel
theorem dX10_would_60 : decode cX10_would 60 = .ok (.getfield 80, 3) := by decide +kernel
theorem dX10_would_63 : decode cX10_would 63 = .ok (.iload_n 1, 1) := by decide +kernel
theorem dX10_would_64 : decode cX10_would 64 = .ok (.iload_n 3, 1) := by decide +kernel
theorem dX10_would_65 : decode cX10_would 65 = .ok (.invokevirtual 88, 3) := by decide +kernel
theorem dX10_would_68 : decode cX10_would 68 = .ok (.aload_n 0, 1) := by decide +kernel
theorem dX10_would_69 : decode cX10_would 69 = .ok (.invokevirtual 336, 3) := by decide +kernel
theorem dX10_would_72 : decode cX10_would 72 = .ok (.iconst 0, 1) := by decide +kernel
theorem dX10_would_73 : decode cX10_would 73 = .ok (.ireturn, 1) := by decide +kernel
set_option maxRecDepth 20000 in
theorem ggX10_keeps_X4_reckon : GoodIn wsX10_keeps wsX4_reckon := goodIn_r _ [8, 9, 10, 11, 12, 13, 14, 15, 16, 17, 18, 19, 20, 21, 22, 23, 24, 25, 26, 27, 28, 29, 30, 31, 32, 33, 34, 35, 36, 37, 38, 39, 40, 41, 42, 43, 44, 45, 46, 47, 48, 49, 50, 51, 52, 53, 54, 55, 56, 57, 58, 59, 60, 61, 62, 63, 64, 65, 66, 67, 68, 69, 7, 70, 71, 72, 73, 74, 75, 76, 77, 78, 79, 80, 81, 82, 83, 84, 85, 86, 87, 88, 89, 90, 91, 92, 93, 94, 95, 96, 97, 98, 99, 100, 101, 102, 103, 104, 105, 106, 107, 108, 109, 110, 111, 112, 113, 114, 115, 116, 117, 118, 119, 120, 121, 122, 123, 124, 125, 126, 127, 128, 129, 130, 131, 132, 133, 134, 135, 136, 137, 138, 139, 140, 141, 142, 143, 144, 145, 146, 147, 148, 149, 150, 151, 152, 153, 154, 155, 156, 157, 158, 159, 160, 161, 162, 163, 164, 165, 166, 167, 193, 194, 195, 196, 197, 198, 199, 200, 201, 202, 203, 204, 205, 206, 207, 208, 209, 210, 211, 212, 213, 214, 215, 216, 217, 218, 219, 220, 221, 222, 223, 224, 225] rfl (by decide +kernel)
set_option maxRecDepth 20000 in
theorem gX10_keeps_X4_reckon : GoodIn wsX10_keeps (wsV RX10 223 RX4 yX4_reckon wsX4_reckon) := goodIn_app (goodIn_of _ (by decide +kernel)) ggX10_keeps_X4_reckon
set_option maxRecDepth 20000 in
theorem ggX10_keeps_X10_greatestRetained : GoodIn wsX10_keeps wsX10_greatestRetained := goodIn_r _ [171, 2, 1, 172, 116, 104, 117, 173, 73, 74, 7, 75, 9, 174, 98, 99, 16, 100, 101, 102, 103, 105, 80, 39, 62, 63, 64, 65, 106, 107, 108, 109, 19, 110, 56, 57, 58, 59, 60, 61, 186, 187, 188, 189, 190, 191, 192, 193, 194, 195, 196, 197, 198, 199, 200, 201, 202, 203, 204, 205, 206, 207, 208, 209, 210, 219] rfl (by decide +kernel)
set_option maxRecDepth 20000 in
theorem gX10_keeps_X10_greatestRetained : GoodIn wsX10_keeps (wsV RX10 357 RX10 yX10_greatestRetained wsX10_greatestRetained) := goodIn_app (goodIn_of _ (by decide +kernel)) ggX10_keeps_X10_greatestRetained
set_option maxRecDepth 20000 in
theorem ggX10_keeps_X5_start : GoodIn wsX10_keeps wsX5_start := goodIn_r _ [179, 180, 181, 182, 183, 178, 184, 185, 226, 227] rfl (by decide +kernel)
set_option maxRecDepth 20000 in
theorem gX10_keeps_X5_start : GoodIn wsX10_keeps (wsV RX10 233 RX5 yX5_start wsX5_start) := goodIn_app (goodIn_of _ (by decide +kernel)) ggX10_keeps_X5_start
theorem dX10_keeps_0 : decode cX10_keeps 0 = .ok (.iload_n 1, 1) := by decide +kernel
theorem dX10_keeps_1 : decode cX10_keeps 1 = .ok (.iconst 1, 1) := by decide +kernel
theorem dX10_keeps_2 : decode cX10_keeps 2 = .ok (.if_icmp .ge 5, 3) := by decide +kernel
theorem dX10_keeps_5 : decode cX10_keeps 5 = .ok (.iconst (-1), 1) := by decide +kernel
theorem dX10_keeps_6 : decode cX10_keeps 6 = .ok (.ireturn, 1) := by decide +kernel
theorem dX10_keeps_7 : decode cX10_keeps 7 = .ok (.aload_n 0, 1) := by decide +kernel
theorem dX10_keeps_8 : decode cX10_keeps 8 = .ok (.getfield 33, 3) := by decide +kernel
theorem dX10_keeps_11 : decode cX10_keeps 11 = .ok (.aload_n 0, 1) := by decide +kernel
theorem dX10_keeps_12 : decode cX10_keeps 12 = .ok (.getfield 26, 3) := by decide +kernel
theorem dX10_keeps_15 : decode cX10_keeps 15 = .ok (.invokevirtual 223, 3) := by decide +kernel
theorem dX10_keeps_18 : decode cX10_keeps 18 = .ok (.iconst 0, 1) := by decide +kernel
theorem dX10_keeps_19 : decode cX10_keeps 19 = .ok (.istore_n 2, 1) := by decide +kernel
theorem dX10_keeps_20 : decode cX10_keeps 20 = .ok (.iload_n 2, 1) := by decide +kernel
theorem dX10_keeps_21 : decode cX10_keeps 21 = .ok (.sipush 200, 3) := by decide +kernel
theorem dX10_keeps_24 : decode cX10_keeps 24 = .ok (.if_icmp .gt 33, 3) := by decide +kernel
theorem dX10_keeps_27 : decode cX10_keeps 27 = .ok (.aload_n 0, 1) := by decide +kernel
theorem dX10_keeps_28 : decode cX10_keeps 28 = .ok (.iload_n 2, 1) := by decide +kernel
theorem dX10_keeps_29 : decode cX10_keeps 29 = .ok (.invokevirtual 357, 3) := by decide +kernel
theorem dX10_keeps_32 : decode cX10_keeps 32 = .ok (.lstore_n 3, 1) := by decide +kernel
theorem dX10_keeps_33 : decode cX10_keeps 33 = .ok (.lload_n 3, 1) := by decide +kernel
theorem dX10_keeps_34 : decode cX10_keeps 34 = .ok (.iload_n 1, 1) := by decide +kernel
theorem dX10_keeps_35 : decode cX10_keeps 35 = .ok (.i2l, 1) := by decide +kernel
theorem dX10_keeps_36 : decode cX10_keeps 36 = .ok (.lcmp, 1) := by decide +kernel
theorem dX10_keeps_37 : decode cX10_keeps 37 = .ok (.ifCond .lt 14, 3) := by decide +kernel
theorem dX10_keeps_40 : decode cX10_keeps 40 = .ok (.aload_n 0, 1) := by decide +kernel
theorem dX10_keeps_41 : decode cX10_keeps 41 = .ok (.getfield 47, 3) := by decide +kernel
theorem dX10_keeps_44 : decode cX10_keeps 44 = .ok (.lload_n 3, 1) := by decide +kernel
theorem dX10_keeps_45 : decode cX10_keeps 45 = .ok (.invokevirtual 233, 3) := by decide +kernel
theorem dX10_keeps_48 : decode cX10_keeps 48 = .ok (.pop, 1) := by decide +kernel
theorem dX10_keeps_49 : decode cX10_keeps 49 = .ok (.iload_n 2, 1) := by decide +kernel
theorem dX10_keeps_50 : decode cX10_keeps 50 = .ok (.ireturn, 1) := by decide +kernel
theorem dX10_keeps_51 : decode cX10_keeps 51 = .ok (.iinc 2 1, 3) := by decide +kernel
theorem dX10_keeps_54 : decode cX10_keeps 54 = .ok (.goto (-34), 3) := by decide +kernel
theorem dX10_keeps_57 : decode cX10_keeps 57 = .ok (.bipush (-2), 2) := by decide +kernel
theorem dX10_keeps_59 : decode cX10_keeps 59 = .ok (.ireturn, 1) := by decide +kernel
set_option maxRecDepth 20000 in
theorem ggX10_overdue_X2_mostDamages : GoodIn wsX10_overdue wsX2_mostDamages := goodIn_r _ [8, 9, 10, 11, 12, 13, 14, 15, 16, 17, 18, 19, 20, 21, 64, 65, 66, 67, 68, 69, 70, 71, 72, 73, 74, 75, 76, 77, 78, 79, 80, 81] rfl (by decide +kernel)
set_option maxRecDepth 20000 in
theorem gX10_overdue_X2_mostDamages : GoodIn wsX10_overdue (wsV RX10 360 RX2 yX2_mostDamages wsX2_mostDamages) := goodIn_app (goodIn_of _ (by decide +kernel)) ggX10_overdue_X2_mostDamages
set_option maxRecDepth 20000 in
theorem ggX10_overdue_X2_damages : GoodIn wsX10_overdue wsX2_damages := goodIn_r _ [25, 9, 10, 11, 26, 27, 28, 29, 30, 31, 32, 7, 33, 34, 35, 36, 37, 38, 39, 40, 41, 42, 12, 13, 14, 15, 16, 17, 18, 19, 20, 21, 43, 5, 6, 8, 64, 65, 66, 67, 68, 69, 70, 71, 72, 73, 74, 75, 76, 77, 78, 79, 80, 81] rfl (by decide +kernel)
set_option maxRecDepth 20000 in
theorem gX10_overdue_X2_damages : GoodIn wsX10_overdue (wsV RX10 363 RX2 yX2_damages wsX2_damages) := goodIn_app (goodIn_of _ (by decide +kernel)) ggX10_overdue_X2_damages
set_option maxRecDepth 20000 in
theorem ggX10_overdue_X5_start : GoodIn wsX10_overdue wsX5_start := goodIn_r _ [48, 49, 50, 51, 52, 47, 53, 54, 82, 83] rfl (by decide +kernel)
set_option maxRecDepth 20000 in
theorem gX10_overdue_X5_start : GoodIn wsX10_overdue (wsV RX10 233 RX5 yX5_start wsX5_start) := goodIn_app (goodIn_of _ (by decide +kernel)) ggX10_overdue_X5_start
set_option maxRecDepth 20000 in
theorem ggX10_overdue_X5_then : GoodIn wsX10_overdue wsX5_then := goodIn_r _ [53, 49, 54, 82, 83] rfl (by decide +kernel)
set_option maxRecDepth 20000 in
theorem gX10_overdue_X5_then : GoodIn wsX10_overdue (wsV RX10 240 RX5 yX5_then wsX5_then) := goodIn_app (goodIn_of _ (by decide +kernel)) ggX10_overdue_X5_then
set_option maxRecDepth 20000 in
theorem ggX10_overdue_X2_lateMonths : GoodIn wsX10_overdue wsX2_lateMonths := goodIn_r _ [33, 34, 35, 36, 28, 37, 38, 39, 40, 41, 42, 64, 65, 66, 67, 68, 69, 70, 71, 72, 73, 74, 75] rfl (by decide +kernel)
set_option maxRecDepth 20000 in
theorem gX10_overdue_X2_lateMonths : GoodIn wsX10_overdue (wsV RX10 366 RX2 yX2_lateMonths wsX2_lateMonths) := goodIn_app (goodIn_of _ (by decide +kernel)) ggX10_overdue_X2_lateMonths
theorem dX10_overdue_0 : decode cX10_overdue 0 = .ok (.aload_n 0, 1) := by decide +kernel
theorem dX10_overdue_1 : decode cX10_overdue 1 = .ok (.getfield 26, 3) := by decide +kernel
theorem dX10_overdue_4 : decode cX10_overdue 4 = .ok (.getfield 208, 3) := by decide +kernel
theorem dX10_overdue_7 : decode cX10_overdue 7 = .ok (.bipush 24, 2) := by decide +kernel
theorem dX10_overdue_9 : decode cX10_overdue 9 = .ok (.if_icmp .ne 6, 3) := by decide +kernel
theorem dX10_overdue_12 : decode cX10_overdue 12 = .ok (.bipush (-2), 2) := by decide +kernel
theorem dX10_overdue_14 : decode cX10_overdue 14 = .ok (.ireturn, 1) := by decide +kernel
theorem dX10_overdue_15 : decode cX10_overdue 15 = .ok (.iconst (-1), 1) := by decide +kernel
theorem dX10_overdue_16 : decode cX10_overdue 16 = .ok (.istore_n 1, 1) := by decide +kernel
theorem dX10_overdue_17 : decode cX10_overdue 17 = .ok (.aload_n 0, 1) := by decide +kernel
theorem dX10_overdue_18 : decode cX10_overdue 18 = .ok (.getfield 26, 3) := by decide +kernel
theorem dX10_overdue_21 : decode cX10_overdue 21 = .ok (.invokevirtual 360, 3) := by decide +kernel
theorem dX10_overdue_24 : decode cX10_overdue 24 = .ok (.lstore_n 2, 1) := by decide +kernel
theorem dX10_overdue_25 : decode cX10_overdue 25 = .ok (.bipush 23, 2) := by decide +kernel
theorem dX10_overdue_27 : decode cX10_overdue 27 = .ok (.istore 4, 2) := by decide +kernel
theorem dX10_overdue_29 : decode cX10_overdue 29 = .ok (.iload 4, 2) := by decide +kernel
theorem dX10_overdue_31 : decode cX10_overdue 31 = .ok (.ifCond .lt 32, 3) := by decide +kernel
theorem dX10_overdue_34 : decode cX10_overdue 34 = .ok (.lload_n 2, 1) := by decide +kernel
theorem dX10_overdue_35 : decode cX10_overdue 35 = .ok (.lconst 0, 1) := by decide +kernel
theorem dX10_overdue_36 : decode cX10_overdue 36 = .ok (.lcmp, 1) := by decide +kernel
theorem dX10_overdue_37 : decode cX10_overdue 37 = .ok (.ifCond .le 26, 3) := by decide +kernel
theorem dX10_overdue_40 : decode cX10_overdue 40 = .ok (.aload_n 0, 1) := by decide +kernel
theorem dX10_overdue_41 : decode cX10_overdue 41 = .ok (.getfield 26, 3) := by decide +kernel
theorem dX10_overdue_44 : decode cX10_overdue 44 = .ok (.iload 4, 2) := by decide +kernel
theorem dX10_overdue_46 : decode cX10_overdue 46 = .ok (.invokevirtual 363, 3) := by decide +kernel
theorem dX10_overdue_49 : decode cX10_overdue 49 = .ok (.lload_n 2, 1) := by decide +kernel
theorem dX10_overdue_50 : decode cX10_overdue 50 = .ok (.lcmp, 1) := by decide +kernel
theorem dX10_overdue_51 : decode cX10_overdue 51 = .ok (.ifCond .ne 6, 3) := by decide +kernel
theorem dX10_overdue_54 : decode cX10_overdue 54 = .ok (.iload 4, 2) := by decide +kernel
theorem dX10_overdue_56 : decode cX10_overdue 56 = .ok (.istore_n 1, 1) := by decide +kernel
theorem dX10_overdue_57 : decode cX10_overdue 57 = .ok (.iinc 4 (-1), 3) := by decide +kernel
theorem dX10_overdue_60 : decode cX10_overdue 60 = .ok (.goto (-31), 3) := by decide +kernel
theorem dX10_overdue_63 : decode cX10_overdue 63 = .ok (.aload_n 0, 1) := by decide +kernel
theorem dX10_overdue_64 : decode cX10_overdue 64 = .ok (.getfield 47, 3) := by decide +kernel
theorem dX10_overdue_67 : decode cX10_overdue 67 = .ok (.aload_n 0, 1) := by decide +kernel
theorem dX10_overdue_68 : decode cX10_overdue 68 = .ok (.getfield 26, 3) := by decide +kernel
theorem dX10_overdue_71 : decode cX10_overdue 71 = .ok (.bipush 23, 2) := by decide +kernel
theorem dX10_overdue_73 : decode cX10_overdue 73 = .ok (.invokevirtual 363, 3) := by decide +kernel
theorem dX10_overdue_76 : decode cX10_overdue 76 = .ok (.invokevirtual 233, 3) := by decide +kernel
theorem dX10_overdue_79 : decode cX10_overdue 79 = .ok (.iload_n 1, 1) := by decide +kernel
theorem dX10_overdue_80 : decode cX10_overdue 80 = .ok (.i2l, 1) := by decide +kernel
theorem dX10_overdue_81 : decode cX10_overdue 81 = .ok (.invokevirtual 240, 3) := by decide +kernel
theorem dX10_overdue_84 : decode cX10_overdue 84 = .ok (.pop, 1) := by decide +kernel
theorem dX10_overdue_85 : decode cX10_overdue 85 = .ok (.aload_n 0, 1) := by decide +kernel
theorem dX10_overdue_86 : decode cX10_overdue 86 = .ok (.getfield 26, 3) := by decide +kernel
theorem dX10_overdue_89 : decode cX10_overdue 89 = .ok (.bipush 23, 2) := by decide +kernel
theorem dX10_overdue_91 : decode cX10_overdue 91 = .ok (.invokevirtual 366, 3) := by decide +kernel
theorem dX10_overdue_94 : decode cX10_overdue 94 = .ok (.ireturn, 1) := by decide +kernel
set_option maxRecDepth 20000 in
theorem ggX10_needed_X4_reckon : GoodIn wsX10_needed wsX4_reckon := goodIn_r _ [11, 12, 13, 14, 15, 16, 17, 18, 19, 20, 21, 22, 23, 24, 25, 26, 27, 28, 29, 30, 31, 32, 33, 34, 35, 36, 37, 38, 39, 40, 41, 42, 43, 44, 45, 46, 47, 48, 49, 50, 51, 52, 53, 54, 55, 56, 57, 58, 59, 60, 61, 62, 63, 64, 65, 66, 67, 68, 69, 70, 71, 72, 10, 73, 74, 75, 76, 77, 78, 79, 80, 81, 82, 83, 84, 85, 86, 87, 88, 89, 90, 91, 92, 93, 94, 95, 96, 97, 98, 99, 100, 101, 102, 103, 104, 105, 106, 107, 108, 109, 110, 111, 112, 113, 114, 115, 116, 117, 118, 119, 120, 121, 122, 123, 124, 125, 126, 127, 128, 129, 130, 131, 132, 133, 134, 135, 136, 137, 138, 139, 140, 141, 142, 143, 144, 145, 146, 147, 148, 149, 150, 151, 152, 153, 154, 155, 156, 157, 158, 159, 160, 161, 162, 163, 164, 165, 166, 167, 168, 169, 170, 207, 195, 196, 197, 198, 199, 200, 201, 202, 203, 204, 205, 206, 208, 209, 210, 211, 212, 213, 214, 215, 216, 217, 218, 219, 220, 221, 222, 223, 224, 225, 226, 227] rfl (by decide +kernel)
set_option maxRecDepth 20000 in
theorem gX10_needed_X4_reckon : GoodIn wsX10_needed (wsV RX10 223 RX4 yX4_reckon wsX4_reckon) := goodIn_app (goodIn_of _ (by decide +kernel)) ggX10_needed_X4_reckon
set_option maxRecDepth 20000 in
theorem ggX10_needed_X2_damages : GoodIn wsX10_needed wsX2_damages := goodIn_r _ [143, 42, 22, 113, 105, 106, 107, 108, 144, 145, 146, 19, 147, 83, 148, 149, 150, 151, 152, 153, 154, 155, 59, 60, 61, 62, 63, 64, 65, 66, 67, 68, 156, 157, 158, 159, 195, 196, 197, 198, 199, 200, 201, 202, 203, 204, 205, 206, 208, 209, 210, 211, 212, 221] rfl (by decide +kernel)
set_option maxRecDepth 20000 in
theorem gX10_needed_X2_damages : GoodIn wsX10_needed (wsV RX10 363 RX2 yX2_damages wsX2_damages) := goodIn_app (goodIn_of _ (by decide +kernel)) ggX10_needed_X2_damages
set_option maxRecDepth 20000 in
theorem ggX10_needed_X10_moreAsIf : GoodIn wsX10_needed wsX10_moreAsIf := goodIn_r _ [175, 5, 3, 176, 76, 77, 10, 78, 12, 188, 189, 190, 191, 192, 193, 194, 207] rfl (by decide +kernel)
set_option maxRecDepth 20000 in
theorem gX10_needed_X10_moreAsIf : GoodIn wsX10_needed (wsV RX10 330 RX10 yX10_moreAsIf wsX10_moreAsIf) := goodIn_app (goodIn_of _ (by decide +kernel)) ggX10_needed_X10_moreAsIf
set_option maxRecDepth 20000 in
theorem ggX10_needed_X5_start : GoodIn wsX10_needed wsX5_start := goodIn_r _ [181, 182, 183, 184, 185, 180, 186, 187, 228, 229] rfl (by decide +kernel)
set_option maxRecDepth 20000 in
theorem gX10_needed_X5_start : GoodIn wsX10_needed (wsV RX10 233 RX5 yX5_start wsX5_start) := goodIn_app (goodIn_of _ (by decide +kernel)) ggX10_needed_X5_start
theorem dX10_needed_0 : decode cX10_needed 0 = .ok (.aload_n 0, 1) := by decide +kernel
theorem dX10_needed_1 : decode cX10_needed 1 = .ok (.getfield 26, 3) := by decide +kernel
theorem dX10_needed_4 : decode cX10_needed 4 = .ok (.getfield 208, 3) := by decide +kernel
theorem dX10_needed_7 : decode cX10_needed 7 = .ok (.bipush 24, 2) := by decide +kernel
theorem dX10_needed_9 : decode cX10_needed 9 = .ok (.if_icmp .ne 6, 3) := by decide +kernel
theorem dX10_needed_12 : decode cX10_needed 12 = .ok (.bipush (-2), 2) := by decide +kernel
theorem dX10_needed_14 : decode cX10_needed 14 = .ok (.ireturn, 1) := by decide +kernel
theorem dX10_needed_15 : decode cX10_needed 15 = .ok (.aload_n 0, 1) := by decide +kernel
theorem dX10_needed_16 : decode cX10_needed 16 = .ok (.getfield 33, 3) := by decide +kernel
theorem dX10_needed_19 : decode cX10_needed 19 = .ok (.aload_n 0, 1) := by decide +kernel
theorem dX10_needed_20 : decode cX10_needed 20 = .ok (.getfield 26, 3) := by decide +kernel
theorem dX10_needed_23 : decode cX10_needed 23 = .ok (.invokevirtual 223, 3) := by decide +kernel
theorem dX10_needed_26 : decode cX10_needed 26 = .ok (.aload_n 0, 1) := by decide +kernel
theorem dX10_needed_27 : decode cX10_needed 27 = .ok (.getfield 26, 3) := by decide +kernel
theorem dX10_needed_30 : decode cX10_needed 30 = .ok (.getfield 211, 3) := by decide +kernel
theorem dX10_needed_33 : decode cX10_needed 33 = .ok (.istore_n 1, 1) := by decide +kernel
theorem dX10_needed_34 : decode cX10_needed 34 = .ok (.iconst 0, 1) := by decide +kernel
theorem dX10_needed_35 : decode cX10_needed 35 = .ok (.istore_n 2, 1) := by decide +kernel
theorem dX10_needed_36 : decode cX10_needed 36 = .ok (.iload_n 2, 1) := by decide +kernel
theorem dX10_needed_37 : decode cX10_needed 37 = .ok (.bipush 24, 2) := by decide +kernel
theorem dX10_needed_39 : decode cX10_needed 39 = .ok (.if_icmp .ge 33, 3) := by decide +kernel
theorem dX10_needed_42 : decode cX10_needed 42 = .ok (.aload_n 0, 1) := by decide +kernel
theorem dX10_needed_43 : decode cX10_needed 43 = .ok (.getfield 26, 3) := by decide +kernel
theorem dX10_needed_46 : decode cX10_needed 46 = .ok (.bipush 23, 2) := by decide +kernel
theorem dX10_needed_48 : decode cX10_needed 48 = .ok (.invokevirtual 363, 3) := by decide +kernel
theorem dX10_needed_51 : decode cX10_needed 51 = .ok (.lconst 0, 1) := by decide +kernel
theorem dX10_needed_52 : decode cX10_needed 52 = .ok (.lcmp, 1) := by decide +kernel
theorem dX10_needed_53 : decode cX10_needed 53 = .ok (.ifCond .le 19, 3) := by decide +kernel
theorem dX10_needed_56 : decode cX10_needed 56 = .ok (.iinc 2 1, 3) := by decide +kernel
theorem dX10_needed_59 : decode cX10_needed 59 = .ok (.aload_n 0, 1) := by decide +kernel
theorem dX10_needed_60 : decode cX10_needed 60 = .ok (.getfield 26, 3) := by decide +kernel
theorem dX10_needed_63 : decode cX10_needed 63 = .ok (.iload_n 1, 1) := by decide +kernel
theorem dX10_needed_64 : decode cX10_needed 64 = .ok (.iload_n 2, 1) := by decide +kernel
theorem dX10_needed_65 : decode cX10_needed 65 = .ok (.iadd, 1) := by decide +kernel
theorem dX10_needed_66 : decode cX10_needed 66 = .ok (.putfield 211, 3) := by decide +kernel
theorem dX10_needed_69 : decode cX10_needed 69 = .ok (.goto (-33), 3) := by decide +kernel
theorem dX10_needed_72 : decode cX10_needed 72 = .ok (.aload_n 0, 1) := by decide +kernel
theorem dX10_needed_73 : decode cX10_needed 73 = .ok (.getfield 37, 3) := by decide +kernel
theorem dX10_needed_76 : decode cX10_needed 76 = .ok (.aload_n 0, 1) := by decide +kernel
theorem dX10_needed_77 : decode cX10_needed 77 = .ok (.getfield 26, 3) := by decide +kernel
theorem dX10_needed_80 : decode cX10_needed 80 = .ok (.invokevirtual 223, 3) := by decide +kernel
theorem dX10_needed_83 : decode cX10_needed 83 = .ok (.aload_n 0, 1) := by decide +kernel
theorem dX10_needed_84 : decode cX10_needed 84 = .ok (.getfield 26, 3) := by decide +kernel
theorem dX10_needed_87 : decode cX10_needed 87 = .ok (.iload_n 1, 1) := by decide +kernel
theorem dX10_needed_88 : decode cX10_needed 88 = .ok (.putfield 211, 3) := by decide +kernel
theorem dX10_needed_91 : decode cX10_needed 91 = .ok (.aload_n 0, 1) := by decide +kernel
theorem dX10_needed_92 : decode cX10_needed 92 = .ok (.getfield 47, 3) := by decide +kernel
theorem dX10_needed_95 : decode cX10_needed 95 = .ok (.aload_n 0, 1) := by decide +kernel
theorem dX10_needed_96 : decode cX10_needed 96 = .ok (.bipush 8, 2) := by decide +kernel
theorem dX10_needed_98 : decode cX10_needed 98 = .ok (.bipush 23, 2) := by decide +kernel
theorem dX10_needed_100 : decode cX10_needed 100 = .ok (.invokevirtual 330, 3) := by decide +kernel
theorem dX10_needed_103 : decode cX10_needed 103 = .ok (.invokevirtual 233, 3) := by decide +kernel
theorem dX10_needed_106 : decode cX10_needed 106 = .ok (.pop, 1) := by decide +kernel
theorem dX10_needed_107 : decode cX10_needed 107 = .ok (.iload_n 2, 1) := by decide +kernel
theorem dX10_needed_108 : decode cX10_needed 108 = .ok (.ireturn, 1) := by decide +kernel
set_option maxRecDepth 20000 in
theorem ggX10_rises_X10_isIndex : GoodIn wsX10_rises wsX10_isIndex := goodIn_r _ [7, 8, 9, 6, 10, 11, 12, 13] rfl (by decide +kernel)
set_option maxRecDepth 20000 in
theorem gX10_rises_X10_isIndex : GoodIn wsX10_rises (va_wsS RX10 214 yX10_isIndex wsX10_isIndex) := goodIn_app (goodIn_of _ (by decide +kernel)) ggX10_rises_X10_isIndex
set_option maxRecDepth 20000 in
theorem ggX10_rises_X10_reckonAsIfTold : GoodIn wsX10_rises wsX10_reckonAsIfTold := goodIn_r _ [17, 18, 19, 1, 20, 21, 22, 23, 24, 25, 26, 27, 28, 29, 30, 31, 32, 33, 34, 35, 36, 37, 38, 39, 40, 41, 42, 43, 44, 45, 46, 47, 48, 49, 50, 51, 52, 53, 54, 55, 56, 57, 58, 59, 60, 61, 62, 63, 64, 65, 66, 67, 68, 69, 70, 71, 72, 73, 74, 75, 76, 77, 78, 79, 6, 80, 81, 82, 83, 84, 85, 86, 87, 88, 89, 90, 91, 92, 93, 94, 95, 96, 97, 98, 99, 100, 101, 102, 103, 104, 105, 106, 107, 108, 109, 110, 111, 112, 113, 114, 115, 116, 117, 118, 119, 120, 121, 122, 123, 124, 125, 126, 127, 128, 129, 130, 131, 132, 133, 134, 135, 136, 137, 138, 139, 140, 141, 142, 143, 144, 145, 146, 147, 148, 149, 150, 151, 152, 153, 154, 155, 156, 157, 158, 159, 160, 161, 162, 163, 164, 165, 166, 167, 168, 169, 170, 171, 172, 173, 174, 175, 176, 177, 178, 179, 180, 181, 182, 183, 184, 185, 186, 187, 188, 189, 190, 191, 192, 193, 230, 231, 232, 211, 212, 213, 214, 215, 216, 217, 233, 218, 219, 220, 221, 222, 223, 224, 225, 226, 227, 228, 229, 234, 235, 236, 237, 238, 239, 240, 241, 242, 243, 244, 245, 246, 247, 248, 249, 250] rfl (by decide +kernel)
set_option maxRecDepth 20000 in
theorem gX10_rises_X10_reckonAsIfTold : GoodIn wsX10_rises (wsV RX10 326 RX10 yX10_reckonAsIfTold wsX10_reckonAsIfTold) := goodIn_app (goodIn_of _ (by decide +kernel)) ggX10_rises_X10_reckonAsIfTold
set_option maxRecDepth 20000 in
theorem ggX10_rises_X10_moreAsIf : GoodIn wsX10_rises wsX10_moreAsIf := goodIn_r _ [197, 20, 19, 198, 89, 90, 24, 91, 26, 211, 212, 213, 214, 215, 216, 217, 233] rfl (by decide +kernel)
set_option maxRecDepth 20000 in
theorem gX10_rises_X10_moreAsIf : GoodIn wsX10_rises (wsV RX10 330 RX10 yX10_moreAsIf wsX10_moreAsIf) := goodIn_app (goodIn_of _ (by decide +kernel)) ggX10_rises_X10_moreAsIf
set_option maxRecDepth 20000 in
theorem ggX10_rises_X5_start : GoodIn wsX10_rises wsX5_start := goodIn_r _ [203, 204, 205, 206, 207, 202, 208, 209, 251, 252] rfl (by decide +kernel)
set_option maxRecDepth 20000 in
theorem gX10_rises_X5_start : GoodIn wsX10_rises (wsV RX10 233 RX5 yX5_start wsX5_start) := goodIn_app (goodIn_of _ (by decide +kernel)) ggX10_rises_X5_start
set_option maxRecDepth 20000 in
theorem ggX10_rises_X5_then : GoodIn wsX10_rises wsX5_then := goodIn_r _ [208, 204, 209, 251, 252] rfl (by decide +kernel)
set_option maxRecDepth 20000 in
theorem gX10_rises_X5_then : GoodIn wsX10_rises (wsV RX10 240 RX5 yX5_then wsX5_then) := goodIn_app (goodIn_of _ (by decide +kernel)) ggX10_rises_X5_then
theorem dX10_rises_0 : decode cX10_rises 0 = .ok (.iload_n 1, 1) := by decide +kernel
theorem dX10_rises_1 : decode cX10_rises 1 = .ok (.iload_n 2, 1) := by decide +kernel
theorem dX10_rises_2 : decode cX10_rises 2 = .ok (.invokestatic 214, 3) := by decide +kernel
theorem dX10_rises_5 : decode cX10_rises 5 = .ok (.ifCond .ne 5, 3) := by decide +kernel
theorem dX10_rises_8 : decode cX10_rises 8 = .ok (.iconst (-1), 1) := by decide +kernel
theorem dX10_rises_9 : decode cX10_rises 9 = .ok (.ireturn, 1) := by decide +kernel
theorem dX10_rises_10 : decode cX10_rises 10 = .ok (.aload_n 0, 1) := by decide +kernel
theorem dX10_rises_11 : decode cX10_rises 11 = .ok (.aload_n 0, 1) := by decide +kernel
theorem dX10_rises_12 : decode cX10_rises 12 = .ok (.getfield 26, 3) := by decide +kernel
theorem dX10_rises_15 : decode cX10_rises 15 = .ok (.getfield 217, 3) := by decide +kernel
theorem dX10_rises_18 : decode cX10_rises 18 = .ok (.iload_n 1, 1) := by decide +kernel
theorem dX10_rises_19 : decode cX10_rises 19 = .ok (.iload_n 2, 1) := by decide +kernel
theorem dX10_rises_20 : decode cX10_rises 20 = .ok (.invokevirtual 326, 3) := by decide +kernel
theorem dX10_rises_23 : decode cX10_rises 23 = .ok (.aload_n 0, 1) := by decide +kernel
theorem dX10_rises_24 : decode cX10_rises 24 = .ok (.getfield 47, 3) := by decide +kernel
theorem dX10_rises_27 : decode cX10_rises 27 = .ok (.aload_n 0, 1) := by decide +kernel
theorem dX10_rises_28 : decode cX10_rises 28 = .ok (.bipush 8, 2) := by decide +kernel
theorem dX10_rises_30 : decode cX10_rises 30 = .ok (.bipush 23, 2) := by decide +kernel
theorem dX10_rises_32 : decode cX10_rises 32 = .ok (.invokevirtual 330, 3) := by decide +kernel
theorem dX10_rises_35 : decode cX10_rises 35 = .ok (.invokevirtual 233, 3) := by decide +kernel
theorem dX10_rises_38 : decode cX10_rises 38 = .ok (.aload_n 0, 1) := by decide +kernel
theorem dX10_rises_39 : decode cX10_rises 39 = .ok (.bipush 14, 2) := by decide +kernel
theorem dX10_rises_41 : decode cX10_rises 41 = .ok (.bipush 23, 2) := by decide +kernel
theorem dX10_rises_43 : decode cX10_rises 43 = .ok (.invokevirtual 330, 3) := by decide +kernel
theorem dX10_rises_46 : decode cX10_rises 46 = .ok (.invokevirtual 240, 3) := by decide +kernel
theorem dX10_rises_49 : decode cX10_rises 49 = .ok (.pop, 1) := by decide +kernel
theorem dX10_rises_50 : decode cX10_rises 50 = .ok (.iconst 0, 1) := by decide +kernel
theorem dX10_rises_51 : decode cX10_rises 51 = .ok (.ireturn, 1) := by decide +kernel
set_option maxRecDepth 20000 in
theorem ggX10_account_X10_isMonth : GoodIn wsX10_account wsX10_isMonth := goodIn_r _ [8, 9, 10, 7, 11] rfl (by decide +kernel)
set_option maxRecDepth 20000 in
theorem gX10_account_X10_isMonth : GoodIn wsX10_account (va_wsS RX10 104 yX10_isMonth wsX10_isMonth) := goodIn_app (goodIn_of _ (by decide +kernel)) ggX10_account_X10_isMonth
set_option maxRecDepth 20000 in
theorem ggX10_account_X4_reckon : GoodIn wsX10_account wsX4_reckon := goodIn_r _ [16, 17, 18, 19, 20, 21, 22, 23, 24, 25, 26, 27, 28, 29, 30, 31, 32, 33, 34, 35, 36, 37, 38, 39, 40, 41, 42, 43, 44, 45, 46, 47, 48, 49, 50, 51, 52, 53, 54, 55, 56, 57, 58, 59, 60, 61, 62, 63, 64, 65, 66, 67, 68, 69, 70, 7, 71, 72, 73, 74, 75, 76, 15, 77, 78, 79, 80, 81, 82, 83, 84, 85, 86, 87, 88, 89, 90, 91, 92, 93, 94, 95, 96, 97, 98, 99, 100, 101, 102, 103, 104, 105, 106, 107, 108, 109, 110, 111, 112, 113, 114, 115, 116, 117, 118, 119, 120, 121, 122, 123, 124, 125, 126, 127, 128, 129, 130, 131, 132, 133, 134, 135, 136, 137, 138, 139, 140, 141, 142, 143, 144, 145, 146, 147, 148, 149, 150, 151, 152, 153, 154, 155, 156, 157, 158, 159, 160, 161, 162, 163, 164, 165, 166, 167, 168, 169, 170, 171, 172, 173, 174, 207, 195, 196, 197, 198, 199, 200, 201, 202, 203, 204, 205, 206, 208, 209, 210, 211, 212, 213, 214, 215, 216, 217, 218, 219, 220, 221, 222, 223, 224, 225, 226, 227] rfl (by decide +kernel)
set_option maxRecDepth 20000 in
theorem gX10_account_X4_reckon : GoodIn wsX10_account (wsV RX10 223 RX4 yX4_reckon wsX4_reckon) := goodIn_app (goodIn_of _ (by decide +kernel)) ggX10_account_X4_reckon
set_option maxRecDepth 20000 in
theorem ggX10_account_X4_of : GoodIn wsX10_account wsX4_of := goodIn_r _ [82, 17, 207] rfl (by decide +kernel)
set_option maxRecDepth 20000 in
theorem gX10_account_X4_of : GoodIn wsX10_account (wsV RX10 227 RX4 yX4_of wsX4_of) := goodIn_app (goodIn_of _ (by decide +kernel)) ggX10_account_X4_of
set_option maxRecDepth 20000 in
theorem ggX10_account_X5_start : GoodIn wsX10_account wsX5_start := goodIn_r _ [180, 181, 182, 183, 184, 179, 185, 186, 228, 229] rfl (by decide +kernel)
set_option maxRecDepth 20000 in
theorem gX10_account_X5_start : GoodIn wsX10_account (wsV RX10 233 RX5 yX5_start wsX5_start) := goodIn_app (goodIn_of _ (by decide +kernel)) ggX10_account_X5_start
set_option maxRecDepth 20000 in
theorem ggX10_account_X5_then : GoodIn wsX10_account wsX5_then := goodIn_r _ [185, 181, 186, 228, 229] rfl (by decide +kernel)
set_option maxRecDepth 20000 in
theorem gX10_account_X5_then : GoodIn wsX10_account (wsV RX10 240 RX5 yX5_then wsX5_then) := goodIn_app (goodIn_of _ (by decide +kernel)) ggX10_account_X5_then
theorem dX10_account_0 : decode cX10_account 0 = .ok (.aload_n 0, 1) := by decide +kernel
theorem dX10_account_1 : decode cX10_account 1 = .ok (.getfield 26, 3) := by decide +kernel
theorem dX10_account_4 : decode cX10_account 4 = .ok (.getfield 201, 3) := by decide +kernel
theorem dX10_account_7 : decode cX10_account 7 = .ok (.istore_n 1, 1) := by decide +kernel
theorem dX10_account_8 : decode cX10_account 8 = .ok (.iload_n 1, 1) := by decide +kernel
theorem dX10_account_9 : decode cX10_account 9 = .ok (.invokestatic 104, 3) := by decide +kernel
theorem dX10_account_12 : decode cX10_account 12 = .ok (.ifCond .ne 6, 3) := by decide +kernel
theorem dX10_account_15 : decode cX10_account 15 = .ok (.bipush (-2), 2) := by decide +kernel
theorem dX10_account_17 : decode cX10_account 17 = .ok (.ireturn, 1) := by decide +kernel
theorem dX10_account_18 : decode cX10_account 18 = .ok (.aload_n 0, 1) := by decide +kernel
theorem dX10_account_19 : decode cX10_account 19 = .ok (.getfield 33, 3) := by decide +kernel
theorem dX10_account_22 : decode cX10_account 22 = .ok (.aload_n 0, 1) := by decide +kernel
theorem dX10_account_23 : decode cX10_account 23 = .ok (.getfield 26, 3) := by decide +kernel
theorem dX10_account_26 : decode cX10_account 26 = .ok (.invokevirtual 223, 3) := by decide +kernel
theorem dX10_account_29 : decode cX10_account 29 = .ok (.aload_n 0, 1) := by decide +kernel
theorem dX10_account_30 : decode cX10_account 30 = .ok (.getfield 33, 3) := by decide +kernel
theorem dX10_account_33 : decode cX10_account 33 = .ok (.bipush 12, 2) := by decide +kernel
theorem dX10_account_35 : decode cX10_account 35 = .ok (.iload_n 1, 1) := by decide +kernel
theorem dX10_account_36 : decode cX10_account 36 = .ok (.invokevirtual 227, 3) := by decide +kernel
theorem dX10_account_39 : decode cX10_account 39 = .ok (.lstore_n 2, 1) := by decide +kernel
theorem dX10_account_40 : decode cX10_account 40 = .ok (.aload_n 0, 1) := by decide +kernel
theorem dX10_account_41 : decode cX10_account 41 = .ok (.getfield 47, 3) := by decide +kernel
theorem dX10_account_44 : decode cX10_account 44 = .ok (.aload_n 0, 1) := by decide +kernel
theorem dX10_account_45 : decode cX10_account 45 = .ok (.getfield 33, 3) := by decide +kernel
theorem dX10_account_48 : decode cX10_account 48 = .ok (.iconst 0, 1) := by decide +kernel
theorem dX10_account_49 : decode cX10_account 49 = .ok (.iload_n 1, 1) := by decide +kernel
theorem dX10_account_50 : decode cX10_account 50 = .ok (.invokevirtual 227, 3) := by decide +kernel
theorem dX10_account_53 : decode cX10_account 53 = .ok (.invokevirtual 233, 3) := by decide +kernel
theorem dX10_account_56 : decode cX10_account 56 = .ok (.aload_n 0, 1) := by decide +kernel
theorem dX10_account_57 : decode cX10_account 57 = .ok (.getfield 33, 3) := by decide +kernel
theorem dX10_account_60 : decode cX10_account 60 = .ok (.iconst 5, 1) := by decide +kernel
theorem dX10_account_61 : decode cX10_account 61 = .ok (.iload_n 1, 1) := by decide +kernel
theorem dX10_account_62 : decode cX10_account 62 = .ok (.invokevirtual 227, 3) := by decide +kernel
theorem dX10_account_65 : decode cX10_account 65 = .ok (.invokevirtual 240, 3) := by decide +kernel
theorem dX10_account_68 : decode cX10_account 68 = .ok (.lload_n 2, 1) := by decide +kernel
theorem dX10_account_69 : decode cX10_account 69 = .ok (.invokevirtual 240, 3) := by decide +kernel
theorem dX10_account_72 : decode cX10_account 72 = .ok (.pop, 1) := by decide +kernel
theorem dX10_account_73 : decode cX10_account 73 = .ok (.aload_n 0, 1) := by decide +kernel
theorem dX10_account_74 : decode cX10_account 74 = .ok (.getfield 47, 3) := by decide +kernel
theorem dX10_account_77 : decode cX10_account 77 = .ok (.aload_n 0, 1) := by decide +kernel
theorem dX10_account_78 : decode cX10_account 78 = .ok (.getfield 33, 3) := by decide +kernel
theorem dX10_account_81 : decode cX10_account 81 = .ok (.bipush 8, 2) := by decide +kernel
theorem dX10_account_83 : decode cX10_account 83 = .ok (.iload_n 1, 1) := by decide +kernel
theorem dX10_account_84 : decode cX10_account 84 = .ok (.invokevirtual 227, 3) := by decide +kernel
theorem dX10_account_87 : decode cX10_account 87 = .ok (.lload_n 2, 1) := by decide +kernel
theorem dX10_account_88 : decode cX10_account 88 = .ok (.lsub, 1) := by decide +kernel
theorem dX10_account_89 : decode cX10_account 89 = .ok (.invokevirtual 240, 3) := by decide +kernel
theorem dX10_account_92 : decode cX10_account 92 = .ok (.aload_n 0, 1) := by decide +kernel
theorem dX10_account_93 : decode cX10_account 93 = .ok (.getfield 33, 3) := by decide +kernel
theorem dX10_account_96 : decode cX10_account 96 = .ok (.bipush 11, 2) := by decide +kernel
theorem dX10_account_98 : decode cX10_account 98 = .ok (.iload_n 1, 1) := by decide +kernel
theorem dX10_account_99 : decode cX10_account 99 = .ok (.invokevirtual 227, 3) := by decide +kernel
theorem dX10_account_102 : decode cX10_account 102 = .ok (.invokevirtual 240, 3) := by decide +kernel
theorem dX10_account_105 : decode cX10_account 105 = .ok (.pop, 1) := by decide +kernel
theorem dX10_account_106 : decode cX10_account 106 = .ok (.iconst 0, 1) := by decide +kernel
theorem dX10_account_107 : decode cX10_account 107 = .ok (.ireturn, 1) := by decide +kernel
set_option maxRecDepth 20000 in
theorem ggX10_count_X8_has : GoodIn wsX10_count wsX8_has := goodIn_r _ [20] rfl (by decide +kernel)
set_option maxRecDepth 20000 in
theorem gX10_count_X8_has : GoodIn wsX10_count (va_wsS RX10 369 yX8_has wsX8_has) := goodIn_app (goodIn_of _ (by decide +kernel)) ggX10_count_X8_has
set_option maxRecDepth 20000 in
theorem ggX10_count_X8_of : GoodIn wsX10_count wsX8_of := goodIn_r _ [24, 25, 87] rfl (by decide +kernel)
set_option maxRecDepth 20000 in
theorem gX10_count_X8_of : GoodIn wsX10_count (wsV RX10 84 RX8 yX8_of wsX8_of) := goodIn_app (goodIn_of _ (by decide +kernel)) ggX10_count_X8_of
set_option maxRecDepth 20000 in
theorem ggX10_count_X10_monthOrNone : GoodIn wsX10_count wsX10_monthOrNone := goodIn_r _ [29] rfl (by decide +kernel)
set_option maxRecDepth 20000 in
theorem gX10_count_X10_monthOrNone : GoodIn wsX10_count (va_wsS RX10 274 yX10_monthOrNone wsX10_monthOrNone) := goodIn_app (goodIn_of _ (by decide +kernel)) ggX10_count_X10_monthOrNone
set_option maxRecDepth 20000 in
theorem ggX10_count_X2_measuredMonths : GoodIn wsX10_count wsX2_measuredMonths := goodIn_r _ [34, 35, 36, 37, 33, 38, 39, 40, 41, 42, 43, 44, 45, 46, 47, 55, 56, 57, 58, 59, 60, 61, 62, 63, 64, 65, 66, 67, 68, 69, 70, 71, 88, 89, 90] rfl (by decide +kernel)
set_option maxRecDepth 20000 in
theorem gX10_count_X2_measuredMonths : GoodIn wsX10_count (wsV RX10 370 RX2 yX2_measuredMonths wsX2_measuredMonths) := goodIn_app (goodIn_of _ (by decide +kernel)) ggX10_count_X2_measuredMonths
theorem dX10_count_0 : decode cX10_count 0 = .ok (.iload_n 1, 1) := by decide +kernel
theorem dX10_count_1 : decode cX10_count 1 = .ok (.bipush 10, 2) := by decide +kernel
theorem dX10_count_3 : decode cX10_count 3 = .ok (.if_icmp .lt 32, 3) := by decide +kernel
theorem dX10_count_6 : decode cX10_count 6 = .ok (.iload_n 1, 1) := by decide +kernel
theorem dX10_count_7 : decode cX10_count 7 = .ok (.bipush 10, 2) := by decide +kernel
theorem dX10_count_9 : decode cX10_count 9 = .ok (.isub, 1) := by decide +kernel
theorem dX10_count_10 : decode cX10_count 10 = .ok (.invokestatic 369, 3) := by decide +kernel
theorem dX10_count_13 : decode cX10_count 13 = .ok (.ifCond .eq 20, 3) := by decide +kernel
theorem dX10_count_16 : decode cX10_count 16 = .ok (.aload_n 0, 1) := by decide +kernel
theorem dX10_count_17 : decode cX10_count 17 = .ok (.getfield 26, 3) := by decide +kernel
theorem dX10_count_20 : decode cX10_count 20 = .ok (.getfield 80, 3) := by decide +kernel
theorem dX10_count_23 : decode cX10_count 23 = .ok (.iload_n 1, 1) := by decide +kernel
theorem dX10_count_24 : decode cX10_count 24 = .ok (.bipush 10, 2) := by decide +kernel
theorem dX10_count_26 : decode cX10_count 26 = .ok (.isub, 1) := by decide +kernel
theorem dX10_count_27 : decode cX10_count 27 = .ok (.invokevirtual 84, 3) := by decide +kernel
theorem dX10_count_30 : decode cX10_count 30 = .ok (.goto 4, 3) := by decide +kernel
theorem dX10_count_33 : decode cX10_count 33 = .ok (.iconst (-1), 1) := by decide +kernel
theorem dX10_count_34 : decode cX10_count 34 = .ok (.ireturn, 1) := by decide +kernel
theorem dX10_count_35 : decode cX10_count 35 = .ok (.iload_n 1, 1) := by decide +kernel
theorem dX10_count_36 : decode cX10_count 36 = .ok (.tableswitch 175 0 9 #[56, 67, 78, 89, 100, 111, 119, 127, 135, 167], 56) := by decide +kernel
theorem dX10_count_92 : decode cX10_count 92 = .ok (.aload_n 0, 1) := by decide +kernel
theorem dX10_count_93 : decode cX10_count 93 = .ok (.getfield 26, 3) := by decide +kernel
theorem dX10_count_96 : decode cX10_count 96 = .ok (.getfield 107, 3) := by decide +kernel
theorem dX10_count_99 : decode cX10_count 99 = .ok (.getfield 284, 3) := by decide +kernel
theorem dX10_count_102 : decode cX10_count 102 = .ok (.ireturn, 1) := by decide +kernel
theorem dX10_count_103 : decode cX10_count 103 = .ok (.aload_n 0, 1) := by decide +kernel
theorem dX10_count_104 : decode cX10_count 104 = .ok (.getfield 26, 3) := by decide +kernel
theorem dX10_count_107 : decode cX10_count 107 = .ok (.getfield 143, 3) := by decide +kernel
theorem dX10_count_110 : decode cX10_count 110 = .ok (.getfield 147, 3) := by decide +kernel
theorem dX10_count_113 : decode cX10_count 113 = .ok (.ireturn, 1) := by decide +kernel
theorem dX10_count_114 : decode cX10_count 114 = .ok (.aload_n 0, 1) := by decide +kernel
theorem dX10_count_115 : decode cX10_count 115 = .ok (.getfield 26, 3) := by decide +kernel
theorem dX10_count_118 : decode cX10_count 118 = .ok (.getfield 163, 3) := by decide +kernel
theorem dX10_count_121 : decode cX10_count 121 = .ok (.getfield 167, 3) := by decide +kernel
theorem dX10_count_124 : decode cX10_count 124 = .ok (.ireturn, 1) := by decide +kernel
theorem dX10_count_125 : decode cX10_count 125 = .ok (.aload_n 0, 1) := by decide +kernel
theorem dX10_count_126 : decode cX10_count 126 = .ok (.getfield 26, 3) := by decide +kernel
theorem dX10_count_129 : decode cX10_count 129 = .ok (.getfield 198, 3) := by decide +kernel
theorem dX10_count_132 : decode cX10_count 132 = .ok (.invokestatic 274, 3) := by decide +kernel
theorem dX10_count_135 : decode cX10_count 135 = .ok (.ireturn, 1) := by decide +kernel
theorem dX10_count_136 : decode cX10_count 136 = .ok (.aload_n 0, 1) := by decide +kernel
theorem dX10_count_137 : decode cX10_count 137 = .ok (.getfield 26, 3) := by decide +kernel
theorem dX10_count_140 : decode cX10_count 140 = .ok (.getfield 201, 3) := by decide +kernel
theorem dX10_count_143 : decode cX10_count 143 = .ok (.invokestatic 274, 3) := by decide +kernel
theorem dX10_count_146 : decode cX10_count 146 = .ok (.ireturn, 1) := by decide +kernel
theorem dX10_count_147 : decode cX10_count 147 = .ok (.aload_n 0, 1) := by decide +kernel
theorem dX10_count_148 : decode cX10_count 148 = .ok (.getfield 26, 3) := by decide +kernel
theorem dX10_count_151 : decode cX10_count 151 = .ok (.invokevirtual 370, 3) := by decide +kernel
theorem dX10_count_154 : decode cX10_count 154 = .ok (.ireturn, 1) := by decide +kernel
theorem dX10_count_155 : decode cX10_count 155 = .ok (.aload_n 0, 1) := by decide +kernel
theorem dX10_count_156 : decode cX10_count 156 = .ok (.getfield 47, 3) := by decide +kernel
theorem dX10_count_159 : decode cX10_count 159 = .ok (.getfield 373, 3) := by decide +kernel
theorem dX10_count_162 : decode cX10_count 162 = .ok (.ireturn, 1) := by decide +kernel
theorem dX10_count_163 : decode cX10_count 163 = .ok (.aload_n 0, 1) := by decide +kernel
theorem dX10_count_164 : decode cX10_count 164 = .ok (.getfield 12, 3) := by decide +kernel
theorem dX10_count_167 : decode cX10_count 167 = .ok (.getfield 55, 3) := by decide +kernel
theorem dX10_count_170 : decode cX10_count 170 = .ok (.ireturn, 1) := by decide +kernel
theorem dX10_count_171 : decode cX10_count 171 = .ok (.aload_n 0, 1) := by decide +kernel
theorem dX10_count_172 : decode cX10_count 172 = .ok (.getfield 26, 3) := by decide +kernel
theorem dX10_count_175 : decode cX10_count 175 = .ok (.getfield 208, 3) := by decide +kernel
theorem dX10_count_178 : decode cX10_count 178 = .ok (.bipush 24, 2) := by decide +kernel
theorem dX10_count_180 : decode cX10_count 180 = .ok (.if_icmp .ne 7, 3) := by decide +kernel
theorem dX10_count_183 : decode cX10_count 183 = .ok (.iconst (-1), 1) := by decide +kernel
theorem dX10_count_184 : decode cX10_count 184 = .ok (.goto 18, 3) := by decide +kernel
theorem dX10_count_187 : decode cX10_count 187 = .ok (.aload_n 0, 1) := by decide +kernel
theorem dX10_count_188 : decode cX10_count 188 = .ok (.getfield 26, 3) := by decide +kernel
theorem dX10_count_191 : decode cX10_count 191 = .ok (.getfield 208, 3) := by decide +kernel
theorem dX10_count_194 : decode cX10_count 194 = .ok (.aload_n 0, 1) := by decide +kernel
theorem dX10_count_195 : decode cX10_count 195 = .ok (.getfield 26, 3) := by decide +kernel
theorem dX10_count_198 : decode cX10_count 198 = .ok (.getfield 211, 3) := by decide +kernel
theorem dX10_count_201 : decode cX10_count 201 = .ok (.iadd, 1) := by decide +kernel
theorem dX10_count_202 : decode cX10_count 202 = .ok (.ireturn, 1) := by decide +kernel
theorem dX10_count_203 : decode cX10_count 203 = .ok (.aload_n 0, 1) := by decide +kernel
theorem dX10_count_204 : decode cX10_count 204 = .ok (.getfield 26, 3) := by decide +kernel
theorem dX10_count_207 : decode cX10_count 207 = .ok (.getfield 211, 3) := by decide +kernel
theorem dX10_count_210 : decode cX10_count 210 = .ok (.ireturn, 1) := by decide +kernel
theorem dX10_count_211 : decode cX10_count 211 = .ok (.iconst (-1), 1) := by decide +kernel
theorem dX10_count_212 : decode cX10_count 212 = .ok (.ireturn, 1) := by decide +kernel
theorem dX10_row_0 : decode cX10_row 0 = .ok (.iload_n 1, 1) := by decide +kernel
theorem dX10_row_1 : decode cX10_row 1 = .ok (.ifCond .lt 14, 3) := by decide +kernel
theorem dX10_row_4 : decode cX10_row 4 = .ok (.iload_n 1, 1) := by decide +kernel
theorem dX10_row_5 : decode cX10_row 5 = .ok (.aload_n 0, 1) := by decide +kernel
theorem dX10_row_6 : decode cX10_row 6 = .ok (.getfield 47, 3) := by decide +kernel
theorem dX10_row_9 : decode cX10_row 9 = .ok (.getfield 373, 3) := by decide +kernel
theorem dX10_row_12 : decode cX10_row 12 = .ok (.if_icmp .lt 11, 3) := by decide +kernel
theorem dX10_row_15 : decode cX10_row 15 = .ok (.new 220, 3) := by decide +kernel
theorem dX10_row_18 : decode cX10_row 18 = .ok (.dup, 1) := by decide +kernel
theorem dX10_row_19 : decode cX10_row 19 = .ok (.invokespecial 222, 3) := by decide +kernel
theorem dX10_row_22 : decode cX10_row 22 = .ok (.athrow, 1) := by decide +kernel
theorem dX10_row_23 : decode cX10_row 23 = .ok (.aload_n 0, 1) := by decide +kernel
theorem dX10_row_24 : decode cX10_row 24 = .ok (.getfield 47, 3) := by decide +kernel
theorem dX10_row_27 : decode cX10_row 27 = .ok (.getfield 374, 3) := by decide +kernel
theorem dX10_row_30 : decode cX10_row 30 = .ok (.iload_n 1, 1) := by decide +kernel
theorem dX10_row_31 : decode cX10_row 31 = .ok (.laload, 1) := by decide +kernel
theorem dX10_row_32 : decode cX10_row 32 = .ok (.lreturn, 1) := by decide +kernel
theorem dX10_isWithin_0 : decode cX10_isWithin 0 = .ok (.iload_n 0, 1) := by decide +kernel
theorem dX10_isWithin_1 : decode cX10_isWithin 1 = .ok (.iload_n 1, 1) := by decide +kernel
theorem dX10_isWithin_2 : decode cX10_isWithin 2 = .ok (.if_icmp .lt 12, 3) := by decide +kernel
theorem dX10_isWithin_5 : decode cX10_isWithin 5 = .ok (.iload_n 0, 1) := by decide +kernel
theorem dX10_isWithin_6 : decode cX10_isWithin 6 = .ok (.iload_n 2, 1) := by decide +kernel
theorem dX10_isWithin_7 : decode cX10_isWithin 7 = .ok (.if_icmp .gt 7, 3) := by decide +kernel
theorem dX10_isWithin_10 : decode cX10_isWithin 10 = .ok (.iconst 1, 1) := by decide +kernel
theorem dX10_isWithin_11 : decode cX10_isWithin 11 = .ok (.goto 4, 3) := by decide +kernel
theorem dX10_isWithin_14 : decode cX10_isWithin 14 = .ok (.iconst 0, 1) := by decide +kernel
theorem dX10_isWithin_15 : decode cX10_isWithin 15 = .ok (.ireturn, 1) := by decide +kernel
set_option maxRecDepth 20000 in
theorem ggX10_isMonth_X10_isWithin : GoodIn wsX10_isMonth wsX10_isWithin := goodIn_r _ [4] rfl (by decide +kernel)
set_option maxRecDepth 20000 in
theorem gX10_isMonth_X10_isWithin : GoodIn wsX10_isMonth (va_wsS RX10 127 yX10_isWithin wsX10_isWithin) := goodIn_app (goodIn_of _ (by decide +kernel)) ggX10_isMonth_X10_isWithin
theorem dX10_isMonth_0 : decode cX10_isMonth 0 = .ok (.iload_n 0, 1) := by decide +kernel
theorem dX10_isMonth_1 : decode cX10_isMonth 1 = .ok (.iconst 0, 1) := by decide +kernel
theorem dX10_isMonth_2 : decode cX10_isMonth 2 = .ok (.bipush 23, 2) := by decide +kernel
theorem dX10_isMonth_4 : decode cX10_isMonth 4 = .ok (.invokestatic 127, 3) := by decide +kernel
theorem dX10_isMonth_7 : decode cX10_isMonth 7 = .ok (.ireturn, 1) := by decide +kernel
set_option maxRecDepth 20000 in
theorem ggX10_isKind_X10_isWithin : GoodIn wsX10_isKind wsX10_isWithin := goodIn_r _ [4] rfl (by decide +kernel)
set_option maxRecDepth 20000 in
theorem gX10_isKind_X10_isWithin : GoodIn wsX10_isKind (va_wsS RX10 127 yX10_isWithin wsX10_isWithin) := goodIn_app (goodIn_of _ (by decide +kernel)) ggX10_isKind_X10_isWithin
theorem dX10_isKind_0 : decode cX10_isKind 0 = .ok (.iload_n 0, 1) := by decide +kernel
theorem dX10_isKind_1 : decode cX10_isKind 1 = .ok (.iconst 0, 1) := by decide +kernel
theorem dX10_isKind_2 : decode cX10_isKind 2 = .ok (.iconst 4, 1) := by decide +kernel
theorem dX10_isKind_3 : decode cX10_isKind 3 = .ok (.invokestatic 127, 3) := by decide +kernel
theorem dX10_isKind_6 : decode cX10_isKind 6 = .ok (.ireturn, 1) := by decide +kernel
set_option maxRecDepth 20000 in
theorem ggX10_isRate_X10_isWithin : GoodIn wsX10_isRate wsX10_isWithin := goodIn_r _ [4] rfl (by decide +kernel)
set_option maxRecDepth 20000 in
theorem gX10_isRate_X10_isWithin : GoodIn wsX10_isRate (va_wsS RX10 127 yX10_isWithin wsX10_isWithin) := goodIn_app (goodIn_of _ (by decide +kernel)) ggX10_isRate_X10_isWithin
theorem dX10_isRate_0 : decode cX10_isRate 0 = .ok (.iload_n 0, 1) := by decide +kernel
theorem dX10_isRate_1 : decode cX10_isRate 1 = .ok (.iconst 0, 1) := by decide +kernel
theorem dX10_isRate_2 : decode cX10_isRate 2 = .ok (.sipush 999, 3) := by decide +kernel
theorem dX10_isRate_5 : decode cX10_isRate 5 = .ok (.invokestatic 127, 3) := by decide +kernel
theorem dX10_isRate_8 : decode cX10_isRate 8 = .ok (.ireturn, 1) := by decide +kernel
set_option maxRecDepth 20000 in
theorem ggX10_isChanged_X10_isWithin : GoodIn wsX10_isChanged wsX10_isWithin := goodIn_r _ [4] rfl (by decide +kernel)
set_option maxRecDepth 20000 in
theorem gX10_isChanged_X10_isWithin : GoodIn wsX10_isChanged (va_wsS RX10 127 yX10_isWithin wsX10_isWithin) := goodIn_app (goodIn_of _ (by decide +kernel)) ggX10_isChanged_X10_isWithin
theorem dX10_isChanged_0 : decode cX10_isChanged 0 = .ok (.iload_n 0, 1) := by decide +kernel
theorem dX10_isChanged_1 : decode cX10_isChanged 1 = .ok (.ifCond .eq 20, 3) := by decide +kernel
theorem dX10_isChanged_4 : decode cX10_isChanged 4 = .ok (.iload_n 0, 1) := by decide +kernel
theorem dX10_isChanged_5 : decode cX10_isChanged 5 = .ok (.sipush (-999), 3) := by decide +kernel
theorem dX10_isChanged_8 : decode cX10_isChanged 8 = .ok (.sipush 999, 3) := by decide +kernel
theorem dX10_isChanged_11 : decode cX10_isChanged 11 = .ok (.invokestatic 127, 3) := by decide +kernel
theorem dX10_isChanged_14 : decode cX10_isChanged 14 = .ok (.ifCond .eq 7, 3) := by decide +kernel
theorem dX10_isChanged_17 : decode cX10_isChanged 17 = .ok (.iconst 1, 1) := by decide +kernel
theorem dX10_isChanged_18 : decode cX10_isChanged 18 = .ok (.goto 4, 3) := by decide +kernel
theorem dX10_isChanged_21 : decode cX10_isChanged 21 = .ok (.iconst 0, 1) := by decide +kernel
theorem dX10_isChanged_22 : decode cX10_isChanged 22 = .ok (.ireturn, 1) := by decide +kernel
set_option maxRecDepth 20000 in
theorem ggX10_isIndex_X10_isMonth : GoodIn wsX10_isIndex wsX10_isMonth := goodIn_r _ [4, 5, 6, 3, 7] rfl (by decide +kernel)
set_option maxRecDepth 20000 in
theorem gX10_isIndex_X10_isMonth : GoodIn wsX10_isIndex (va_wsS RX10 104 yX10_isMonth wsX10_isMonth) := goodIn_app (goodIn_of _ (by decide +kernel)) ggX10_isIndex_X10_isMonth
set_option maxRecDepth 20000 in
theorem ggX10_isIndex_X10_isWithin : GoodIn wsX10_isIndex wsX10_isWithin := goodIn_r _ [7] rfl (by decide +kernel)
set_option maxRecDepth 20000 in
theorem gX10_isIndex_X10_isWithin : GoodIn wsX10_isIndex (va_wsS RX10 127 yX10_isWithin wsX10_isWithin) := goodIn_app (goodIn_of _ (by decide +kernel)) ggX10_isIndex_X10_isWithin
theorem dX10_isIndex_0 : decode cX10_isIndex 0 = .ok (.iload_n 0, 1) := by decide +kernel
theorem dX10_isIndex_1 : decode cX10_isIndex 1 = .ok (.invokestatic 104, 3) := by decide +kernel
theorem dX10_isIndex_4 : decode cX10_isIndex 4 = .ok (.ifCond .eq 20, 3) := by decide +kernel
theorem dX10_isIndex_7 : decode cX10_isIndex 7 = .ok (.iload_n 1, 1) := by decide +kernel
theorem dX10_isIndex_8 : decode cX10_isIndex 8 = .ok (.sipush 500, 3) := by decide +kernel
theorem dX10_isIndex_11 : decode cX10_isIndex 11 = .ok (.sipush 2000, 3) := by decide +kernel
theorem dX10_isIndex_14 : decode cX10_isIndex 14 = .ok (.invokestatic 127, 3) := by decide +kernel
theorem dX10_isIndex_17 : decode cX10_isIndex 17 = .ok (.ifCond .eq 7, 3) := by decide +kernel
theorem dX10_isIndex_20 : decode cX10_isIndex 20 = .ok (.iconst 1, 1) := by decide +kernel
theorem dX10_isIndex_21 : decode cX10_isIndex 21 = .ok (.goto 4, 3) := by decide +kernel
theorem dX10_isIndex_24 : decode cX10_isIndex 24 = .ok (.iconst 0, 1) := by decide +kernel
theorem dX10_isIndex_25 : decode cX10_isIndex 25 = .ok (.ireturn, 1) := by decide +kernel
set_option maxRecDepth 20000 in
theorem ggX10_isMeasure_X10_isMonth : GoodIn wsX10_isMeasure wsX10_isMonth := goodIn_r _ [6, 7, 8, 5, 9] rfl (by decide +kernel)
set_option maxRecDepth 20000 in
theorem gX10_isMeasure_X10_isMonth : GoodIn wsX10_isMeasure (va_wsS RX10 104 yX10_isMonth wsX10_isMonth) := goodIn_app (goodIn_of _ (by decide +kernel)) ggX10_isMeasure_X10_isMonth
set_option maxRecDepth 20000 in
theorem ggX10_isMeasure_X0_has : GoodIn wsX10_isMeasure wsX0_has := goodIn_r _ [14, 15, 35, 36, 37, 38, 39] rfl (by decide +kernel)
set_option maxRecDepth 20000 in
theorem gX10_isMeasure_X0_has : GoodIn wsX10_isMeasure (wsV RX10 110 RX0 yX0_has wsX0_has) := goodIn_app (goodIn_of _ (by decide +kernel)) ggX10_isMeasure_X0_has
set_option maxRecDepth 20000 in
theorem ggX10_isMeasure_X10_isWithin : GoodIn wsX10_isMeasure wsX10_isWithin := goodIn_r _ [9] rfl (by decide +kernel)
set_option maxRecDepth 20000 in
theorem gX10_isMeasure_X10_isWithin : GoodIn wsX10_isMeasure (va_wsS RX10 127 yX10_isWithin wsX10_isWithin) := goodIn_app (goodIn_of _ (by decide +kernel)) ggX10_isMeasure_X10_isWithin
theorem dX10_isMeasure_0 : decode cX10_isMeasure 0 = .ok (.iload_n 1, 1) := by decide +kernel
theorem dX10_isMeasure_1 : decode cX10_isMeasure 1 = .ok (.invokestatic 104, 3) := by decide +kernel
theorem dX10_isMeasure_4 : decode cX10_isMeasure 4 = .ok (.ifCond .eq 32, 3) := by decide +kernel
theorem dX10_isMeasure_7 : decode cX10_isMeasure 7 = .ok (.aload_n 0, 1) := by decide +kernel
theorem dX10_isMeasure_8 : decode cX10_isMeasure 8 = .ok (.getfield 26, 3) := by decide +kernel
theorem dX10_isMeasure_11 : decode cX10_isMeasure 11 = .ok (.getfield 107, 3) := by decide +kernel
theorem dX10_isMeasure_14 : decode cX10_isMeasure 14 = .ok (.iload_n 2, 1) := by decide +kernel
theorem dX10_isMeasure_15 : decode cX10_isMeasure 15 = .ok (.invokevirtual 110, 3) := by decide +kernel
theorem dX10_isMeasure_18 : decode cX10_isMeasure 18 = .ok (.ifCond .eq 18, 3) := by decide +kernel
theorem dX10_isMeasure_21 : decode cX10_isMeasure 21 = .ok (.iload_n 3, 1) := by decide +kernel
theorem dX10_isMeasure_22 : decode cX10_isMeasure 22 = .ok (.iconst 0, 1) := by decide +kernel
theorem dX10_isMeasure_23 : decode cX10_isMeasure 23 = .ok (.sipush 1999, 3) := by decide +kernel
theorem dX10_isMeasure_26 : decode cX10_isMeasure 26 = .ok (.invokestatic 127, 3) := by decide +kernel
theorem dX10_isMeasure_29 : decode cX10_isMeasure 29 = .ok (.ifCond .eq 7, 3) := by decide +kernel
theorem dX10_isMeasure_32 : decode cX10_isMeasure 32 = .ok (.iconst 1, 1) := by decide +kernel
theorem dX10_isMeasure_33 : decode cX10_isMeasure 33 = .ok (.goto 4, 3) := by decide +kernel
theorem dX10_isMeasure_36 : decode cX10_isMeasure 36 = .ok (.iconst 0, 1) := by decide +kernel
theorem dX10_isMeasure_37 : decode cX10_isMeasure 37 = .ok (.ireturn, 1) := by decide +kernel
set_option maxRecDepth 20000 in
theorem ggX10_isDispute_X7_has : GoodIn wsX10_isDispute wsX7_has := goodIn_r _ [8, 9, 36, 37, 38, 39, 40, 41] rfl (by decide +kernel)
set_option maxRecDepth 20000 in
theorem gX10_isDispute_X7_has : GoodIn wsX10_isDispute (wsV RX10 185 RX7 yX7_has wsX7_has) := goodIn_app (goodIn_of _ (by decide +kernel)) ggX10_isDispute_X7_has
set_option maxRecDepth 20000 in
theorem ggX10_isDispute_X10_isMonth : GoodIn wsX10_isDispute wsX10_isMonth := goodIn_r _ [13, 14, 15, 12, 16] rfl (by decide +kernel)
set_option maxRecDepth 20000 in
theorem gX10_isDispute_X10_isMonth : GoodIn wsX10_isDispute (va_wsS RX10 104 yX10_isMonth wsX10_isMonth) := goodIn_app (goodIn_of _ (by decide +kernel)) ggX10_isDispute_X10_isMonth
theorem dX10_isDispute_0 : decode cX10_isDispute 0 = .ok (.aload_n 0, 1) := by decide +kernel
theorem dX10_isDispute_1 : decode cX10_isDispute 1 = .ok (.getfield 26, 3) := by decide +kernel
theorem dX10_isDispute_4 : decode cX10_isDispute 4 = .ok (.getfield 163, 3) := by decide +kernel
theorem dX10_isDispute_7 : decode cX10_isDispute 7 = .ok (.iload_n 1, 1) := by decide +kernel
theorem dX10_isDispute_8 : decode cX10_isDispute 8 = .ok (.invokevirtual 185, 3) := by decide +kernel
theorem dX10_isDispute_11 : decode cX10_isDispute 11 = .ok (.ifCond .eq 30, 3) := by decide +kernel
theorem dX10_isDispute_14 : decode cX10_isDispute 14 = .ok (.iload_n 2, 1) := by decide +kernel
theorem dX10_isDispute_15 : decode cX10_isDispute 15 = .ok (.invokestatic 104, 3) := by decide +kernel
theorem dX10_isDispute_18 : decode cX10_isDispute 18 = .ok (.ifCond .eq 23, 3) := by decide +kernel
theorem dX10_isDispute_21 : decode cX10_isDispute 21 = .ok (.iload_n 2, 1) := by decide +kernel
theorem dX10_isDispute_22 : decode cX10_isDispute 22 = .ok (.aload_n 0, 1) := by decide +kernel
theorem dX10_isDispute_23 : decode cX10_isDispute 23 = .ok (.getfield 26, 3) := by decide +kernel
theorem dX10_isDispute_26 : decode cX10_isDispute 26 = .ok (.getfield 163, 3) := by decide +kernel
theorem dX10_isDispute_29 : decode cX10_isDispute 29 = .ok (.getfield 270, 3) := by decide +kernel
theorem dX10_isDispute_32 : decode cX10_isDispute 32 = .ok (.iload_n 1, 1) := by decide +kernel
theorem dX10_isDispute_33 : decode cX10_isDispute 33 = .ok (.iaload, 1) := by decide +kernel
theorem dX10_isDispute_34 : decode cX10_isDispute 34 = .ok (.if_icmp .lt 7, 3) := by decide +kernel
theorem dX10_isDispute_37 : decode cX10_isDispute 37 = .ok (.iconst 1, 1) := by decide +kernel
theorem dX10_isDispute_38 : decode cX10_isDispute 38 = .ok (.goto 4, 3) := by decide +kernel
theorem dX10_isDispute_41 : decode cX10_isDispute 41 = .ok (.iconst 0, 1) := by decide +kernel
theorem dX10_isDispute_42 : decode cX10_isDispute 42 = .ok (.ireturn, 1) := by decide +kernel
theorem dX10_thousandths_0 : decode cX10_thousandths 0 = .ok (.lload_n 1, 1) := by decide +kernel
theorem dX10_thousandths_1 : decode cX10_thousandths 1 = .ok (.iload_n 0, 1) := by decide +kernel
theorem dX10_thousandths_2 : decode cX10_thousandths 2 = .ok (.i2l, 1) := by decide +kernel
theorem dX10_thousandths_3 : decode cX10_thousandths 3 = .ok (.lmul, 1) := by decide +kernel
theorem dX10_thousandths_4 : decode cX10_thousandths 4 = .ok (.ldc2_w 377, 3) := by decide +kernel
theorem dX10_thousandths_7 : decode cX10_thousandths 7 = .ok (.ldiv, 1) := by decide +kernel
theorem dX10_thousandths_8 : decode cX10_thousandths 8 = .ok (.lreturn, 1) := by decide +kernel
theorem dX10_monthOrNone_0 : decode cX10_monthOrNone 0 = .ok (.iload_n 0, 1) := by decide +kernel
theorem dX10_monthOrNone_1 : decode cX10_monthOrNone 1 = .ok (.bipush 24, 2) := by decide +kernel
theorem dX10_monthOrNone_3 : decode cX10_monthOrNone 3 = .ok (.if_icmp .ne 7, 3) := by decide +kernel
theorem dX10_monthOrNone_6 : decode cX10_monthOrNone 6 = .ok (.iconst (-1), 1) := by decide +kernel
theorem dX10_monthOrNone_7 : decode cX10_monthOrNone 7 = .ok (.goto 4, 3) := by decide +kernel
theorem dX10_monthOrNone_10 : decode cX10_monthOrNone 10 = .ok (.iload_n 0, 1) := by decide +kernel
theorem dX10_monthOrNone_11 : decode cX10_monthOrNone 11 = .ok (.ireturn, 1) := by decide +kernel
theorem dX10_orNotThere_0 : decode cX10_orNotThere 0 = .ok (.iload_n 0, 1) := by decide +kernel
theorem dX10_orNotThere_1 : decode cX10_orNotThere 1 = .ok (.iconst (-1), 1) := by decide +kernel
theorem dX10_orNotThere_2 : decode cX10_orNotThere 2 = .ok (.if_icmp .ne 8, 3) := by decide +kernel
theorem dX10_orNotThere_5 : decode cX10_orNotThere 5 = .ok (.bipush (-2), 2) := by decide +kernel
theorem dX10_orNotThere_7 : decode cX10_orNotThere 7 = .ok (.goto 4, 3) := by decide +kernel
theorem dX10_orNotThere_10 : decode cX10_orNotThere 10 = .ok (.iload_n 0, 1) := by decide +kernel
theorem dX10_orNotThere_11 : decode cX10_orNotThere 11 = .ok (.ireturn, 1) := by decide +kernel
set_option maxRecDepth 20000 in
theorem ggX10_tellAnew_X6_isTold : GoodIn wsX10_tellAnew wsX6_isTold := goodIn_r _ [5, 6, 18, 19, 20] rfl (by decide +kernel)
set_option maxRecDepth 20000 in
theorem gX10_tellAnew_X6_isTold : GoodIn wsX10_tellAnew (wsV RX10 115 RX6 yX6_isTold wsX6_isTold) := goodIn_app (goodIn_of _ (by decide +kernel)) ggX10_tellAnew_X6_isTold
set_option maxRecDepth 20000 in
theorem ggX10_tellAnew_X6_latest : GoodIn wsX10_tellAnew wsX6_latest := goodIn_r _ [10, 11, 18, 19, 20] rfl (by decide +kernel)
set_option maxRecDepth 20000 in
theorem gX10_tellAnew_X6_latest : GoodIn wsX10_tellAnew (wsV RX10 123 RX6 yX6_latest wsX6_latest) := goodIn_app (goodIn_of _ (by decide +kernel)) ggX10_tellAnew_X6_latest
set_option maxRecDepth 20000 in
theorem ggX10_tellAnew_X6_tell : GoodIn wsX10_tellAnew wsX6_tell := goodIn_r _ [15, 6, 11, 16, 17, 2, 3, 4, 5, 18, 19, 20] rfl (by decide +kernel)
set_option maxRecDepth 20000 in
theorem gX10_tellAnew_X6_tell : GoodIn wsX10_tellAnew (wsV RX10 120 RX6 yX6_tell wsX6_tell) := goodIn_app (goodIn_of _ (by decide +kernel)) ggX10_tellAnew_X6_tell
theorem dX10_tellAnew_0 : decode cX10_tellAnew 0 = .ok (.aload_n 0, 1) := by decide +kernel
theorem dX10_tellAnew_1 : decode cX10_tellAnew 1 = .ok (.iload_n 1, 1) := by decide +kernel
theorem dX10_tellAnew_2 : decode cX10_tellAnew 2 = .ok (.invokevirtual 115, 3) := by decide +kernel
theorem dX10_tellAnew_5 : decode cX10_tellAnew 5 = .ok (.ifCond .eq 15, 3) := by decide +kernel
theorem dX10_tellAnew_8 : decode cX10_tellAnew 8 = .ok (.aload_n 0, 1) := by decide +kernel
theorem dX10_tellAnew_9 : decode cX10_tellAnew 9 = .ok (.iload_n 1, 1) := by decide +kernel
theorem dX10_tellAnew_10 : decode cX10_tellAnew 10 = .ok (.invokevirtual 123, 3) := by decide +kernel
theorem dX10_tellAnew_13 : decode cX10_tellAnew 13 = .ok (.iload_n 2, 1) := by decide +kernel
theorem dX10_tellAnew_14 : decode cX10_tellAnew 14 = .ok (.if_icmp .ne 6, 3) := by decide +kernel
theorem dX10_tellAnew_17 : decode cX10_tellAnew 17 = .ok (.bipush (-2), 2) := by decide +kernel
theorem dX10_tellAnew_19 : decode cX10_tellAnew 19 = .ok (.ireturn, 1) := by decide +kernel
theorem dX10_tellAnew_20 : decode cX10_tellAnew 20 = .ok (.aload_n 0, 1) := by decide +kernel
theorem dX10_tellAnew_21 : decode cX10_tellAnew 21 = .ok (.iload_n 1, 1) := by decide +kernel
theorem dX10_tellAnew_22 : decode cX10_tellAnew 22 = .ok (.invokevirtual 123, 3) := by decide +kernel
theorem dX10_tellAnew_25 : decode cX10_tellAnew 25 = .ok (.istore_n 3, 1) := by decide +kernel
theorem dX10_tellAnew_26 : decode cX10_tellAnew 26 = .ok (.aload_n 0, 1) := by decide +kernel
theorem dX10_tellAnew_27 : decode cX10_tellAnew 27 = .ok (.iload_n 1, 1) := by decide +kernel
theorem dX10_tellAnew_28 : decode cX10_tellAnew 28 = .ok (.iload_n 2, 1) := by decide +kernel
theorem dX10_tellAnew_29 : decode cX10_tellAnew 29 = .ok (.invokevirtual 120, 3) := by decide +kernel
theorem dX10_tellAnew_32 : decode cX10_tellAnew 32 = .ok (.iload_n 3, 1) := by decide +kernel
theorem dX10_tellAnew_33 : decode cX10_tellAnew 33 = .ok (.ireturn, 1) := by decide +kernel
set_option maxRecDepth 20000 in
theorem ggX10_reckonAsIfTold_X4_reckon : GoodIn wsX10_reckonAsIfTold wsX4_reckon := goodIn_r _ [9, 10, 11, 12, 13, 14, 15, 16, 17, 18, 19, 20, 21, 22, 23, 24, 25, 26, 27, 28, 29, 30, 31, 32, 33, 34, 35, 36, 37, 38, 39, 40, 41, 42, 43, 44, 45, 46, 47, 48, 49, 50, 51, 52, 53, 54, 55, 56, 57, 58, 59, 60, 61, 62, 63, 64, 65, 66, 67, 68, 69, 70, 8, 71, 72, 73, 74, 75, 76, 77, 78, 79, 80, 81, 82, 83, 84, 85, 86, 87, 88, 89, 90, 91, 92, 93, 94, 95, 96, 97, 98, 99, 100, 101, 102, 103, 104, 105, 106, 107, 108, 109, 110, 111, 112, 113, 114, 115, 116, 117, 118, 119, 120, 121, 122, 123, 124, 125, 126, 127, 128, 129, 130, 131, 132, 133, 134, 135, 136, 137, 138, 139, 140, 141, 142, 143, 144, 145, 146, 147, 148, 149, 150, 151, 152, 153, 154, 155, 156, 157, 158, 159, 160, 161, 162, 163, 164, 165, 166, 167, 168, 189, 190, 191, 192, 193, 194, 195, 196, 197, 198, 199, 200, 201, 202, 203, 204, 205, 206, 207, 208, 209, 210, 211, 179, 180, 181, 212, 213, 214, 215, 216, 217, 218] rfl (by decide +kernel)
set_option maxRecDepth 20000 in
theorem gX10_reckonAsIfTold_X4_reckon : GoodIn wsX10_reckonAsIfTold (wsV RX10 223 RX4 yX4_reckon wsX4_reckon) := goodIn_app (goodIn_of _ (by decide +kernel)) ggX10_reckonAsIfTold_X4_reckon
set_option maxRecDepth 20000 in
theorem ggX10_reckonAsIfTold_X6_tell : GoodIn wsX10_reckonAsIfTold wsX6_tell := goodIn_r _ [172, 173, 51, 174, 175, 176, 177, 49, 178, 179, 180, 181] rfl (by decide +kernel)
set_option maxRecDepth 20000 in
theorem gX10_reckonAsIfTold_X6_tell : GoodIn wsX10_reckonAsIfTold (wsV RX10 120 RX6 yX6_tell wsX6_tell) := goodIn_app (goodIn_of _ (by decide +kernel)) ggX10_reckonAsIfTold_X6_tell
theorem dX10_reckonAsIfTold_0 : decode cX10_reckonAsIfTold 0 = .ok (.aload_n 1, 1) := by decide +kernel
theorem dX10_reckonAsIfTold_1 : decode cX10_reckonAsIfTold 1 = .ok (.getfield 379, 3) := by decide +kernel
theorem dX10_reckonAsIfTold_4 : decode cX10_reckonAsIfTold 4 = .ok (.iload_n 2, 1) := by decide +kernel
theorem dX10_reckonAsIfTold_5 : decode cX10_reckonAsIfTold 5 = .ok (.iaload, 1) := by decide +kernel
theorem dX10_reckonAsIfTold_6 : decode cX10_reckonAsIfTold 6 = .ok (.istore 4, 2) := by decide +kernel
theorem dX10_reckonAsIfTold_8 : decode cX10_reckonAsIfTold 8 = .ok (.aload_n 0, 1) := by decide +kernel
theorem dX10_reckonAsIfTold_9 : decode cX10_reckonAsIfTold 9 = .ok (.getfield 33, 3) := by decide +kernel
theorem dX10_reckonAsIfTold_12 : decode cX10_reckonAsIfTold 12 = .ok (.aload_n 0, 1) := by decide +kernel
theorem dX10_reckonAsIfTold_13 : decode cX10_reckonAsIfTold 13 = .ok (.getfield 26, 3) := by decide +kernel
theorem dX10_reckonAsIfTold_16 : decode cX10_reckonAsIfTold 16 = .ok (.invokevirtual 223, 3) := by decide +kernel
theorem dX10_reckonAsIfTold_19 : decode cX10_reckonAsIfTold 19 = .ok (.aload_n 1, 1) := by decide +kernel
theorem dX10_reckonAsIfTold_20 : decode cX10_reckonAsIfTold 20 = .ok (.iload_n 2, 1) := by decide +kernel
theorem dX10_reckonAsIfTold_21 : decode cX10_reckonAsIfTold 21 = .ok (.iload_n 3, 1) := by decide +kernel
theorem dX10_reckonAsIfTold_22 : decode cX10_reckonAsIfTold 22 = .ok (.invokevirtual 120, 3) := by decide +kernel
theorem dX10_reckonAsIfTold_25 : decode cX10_reckonAsIfTold 25 = .ok (.aload_n 0, 1) := by decide +kernel
theorem dX10_reckonAsIfTold_26 : decode cX10_reckonAsIfTold 26 = .ok (.getfield 37, 3) := by decide +kernel
theorem dX10_reckonAsIfTold_29 : decode cX10_reckonAsIfTold 29 = .ok (.aload_n 0, 1) := by decide +kernel
theorem dX10_reckonAsIfTold_30 : decode cX10_reckonAsIfTold 30 = .ok (.getfield 26, 3) := by decide +kernel
theorem dX10_reckonAsIfTold_33 : decode cX10_reckonAsIfTold 33 = .ok (.invokevirtual 223, 3) := by decide +kernel
theorem dX10_reckonAsIfTold_36 : decode cX10_reckonAsIfTold 36 = .ok (.aload_n 1, 1) := by decide +kernel
theorem dX10_reckonAsIfTold_37 : decode cX10_reckonAsIfTold 37 = .ok (.iload_n 2, 1) := by decide +kernel
theorem dX10_reckonAsIfTold_38 : decode cX10_reckonAsIfTold 38 = .ok (.iload 4, 2) := by decide +kernel
theorem dX10_reckonAsIfTold_40 : decode cX10_reckonAsIfTold 40 = .ok (.invokevirtual 120, 3) := by decide +kernel
theorem dX10_reckonAsIfTold_43 : decode cX10_reckonAsIfTold 43 = .ok (.return_, 1) := by decide +kernel
set_option maxRecDepth 20000 in
theorem ggX10_reckonAsIfDisputed_X4_reckon : GoodIn wsX10_reckonAsIfDisputed wsX4_reckon := goodIn_r _ [10, 11, 12, 13, 14, 15, 16, 17, 18, 19, 20, 21, 22, 23, 24, 25, 26, 27, 28, 29, 30, 31, 32, 33, 34, 35, 36, 37, 38, 39, 40, 41, 42, 43, 44, 45, 46, 47, 48, 49, 50, 51, 52, 53, 54, 55, 56, 57, 58, 59, 60, 61, 62, 63, 64, 65, 66, 67, 68, 69, 70, 71, 9, 72, 73, 74, 75, 76, 77, 78, 79, 80, 81, 82, 83, 84, 85, 86, 87, 88, 89, 90, 91, 92, 93, 94, 95, 96, 97, 98, 99, 100, 101, 102, 103, 104, 105, 106, 107, 108, 109, 110, 111, 112, 113, 114, 115, 116, 117, 118, 119, 120, 121, 122, 123, 124, 125, 126, 127, 128, 129, 130, 131, 132, 133, 134, 135, 136, 137, 138, 139, 140, 141, 142, 143, 144, 145, 146, 147, 148, 149, 150, 151, 152, 153, 154, 155, 156, 157, 158, 159, 160, 161, 162, 163, 164, 165, 166, 167, 168, 169, 195, 177, 178, 179, 180, 181, 182, 183, 184, 185, 186, 187, 188, 196, 197, 198, 199, 200, 201, 202, 203, 204, 205, 206, 207, 208, 209, 189, 190, 191, 192, 193, 194] rfl (by decide +kernel)
set_option maxRecDepth 20000 in
theorem gX10_reckonAsIfDisputed_X4_reckon : GoodIn wsX10_reckonAsIfDisputed (wsV RX10 223 RX4 yX4_reckon wsX4_reckon) := goodIn_app (goodIn_of _ (by decide +kernel)) ggX10_reckonAsIfDisputed_X4_reckon
theorem dX10_reckonAsIfDisputed_0 : decode cX10_reckonAsIfDisputed 0 = .ok (.aload_n 0, 1) := by decide +kernel
theorem dX10_reckonAsIfDisputed_1 : decode cX10_reckonAsIfDisputed 1 = .ok (.getfield 26, 3) := by decide +kernel
theorem dX10_reckonAsIfDisputed_4 : decode cX10_reckonAsIfDisputed 4 = .ok (.getfield 163, 3) := by decide +kernel
theorem dX10_reckonAsIfDisputed_7 : decode cX10_reckonAsIfDisputed 7 = .ok (.astore_n 3, 1) := by decide +kernel
theorem dX10_reckonAsIfDisputed_8 : decode cX10_reckonAsIfDisputed 8 = .ok (.aload_n 3, 1) := by decide +kernel
theorem dX10_reckonAsIfDisputed_9 : decode cX10_reckonAsIfDisputed 9 = .ok (.getfield 178, 3) := by decide +kernel
theorem dX10_reckonAsIfDisputed_12 : decode cX10_reckonAsIfDisputed 12 = .ok (.iload_n 1, 1) := by decide +kernel
theorem dX10_reckonAsIfDisputed_13 : decode cX10_reckonAsIfDisputed 13 = .ok (.iaload, 1) := by decide +kernel
theorem dX10_reckonAsIfDisputed_14 : decode cX10_reckonAsIfDisputed 14 = .ok (.istore 4, 2) := by decide +kernel
theorem dX10_reckonAsIfDisputed_16 : decode cX10_reckonAsIfDisputed 16 = .ok (.aload_n 3, 1) := by decide +kernel
theorem dX10_reckonAsIfDisputed_17 : decode cX10_reckonAsIfDisputed 17 = .ok (.getfield 189, 3) := by decide +kernel
theorem dX10_reckonAsIfDisputed_20 : decode cX10_reckonAsIfDisputed 20 = .ok (.iload_n 1, 1) := by decide +kernel
theorem dX10_reckonAsIfDisputed_21 : decode cX10_reckonAsIfDisputed 21 = .ok (.iaload, 1) := by decide +kernel
theorem dX10_reckonAsIfDisputed_22 : decode cX10_reckonAsIfDisputed 22 = .ok (.istore 5, 2) := by decide +kernel
theorem dX10_reckonAsIfDisputed_24 : decode cX10_reckonAsIfDisputed 24 = .ok (.aload_n 3, 1) := by decide +kernel
theorem dX10_reckonAsIfDisputed_25 : decode cX10_reckonAsIfDisputed 25 = .ok (.getfield 178, 3) := by decide +kernel
theorem dX10_reckonAsIfDisputed_28 : decode cX10_reckonAsIfDisputed 28 = .ok (.iload_n 1, 1) := by decide +kernel
theorem dX10_reckonAsIfDisputed_29 : decode cX10_reckonAsIfDisputed 29 = .ok (.iload_n 2, 1) := by decide +kernel
theorem dX10_reckonAsIfDisputed_30 : decode cX10_reckonAsIfDisputed 30 = .ok (.iastore, 1) := by decide +kernel
theorem dX10_reckonAsIfDisputed_31 : decode cX10_reckonAsIfDisputed 31 = .ok (.aload_n 3, 1) := by decide +kernel
theorem dX10_reckonAsIfDisputed_32 : decode cX10_reckonAsIfDisputed 32 = .ok (.getfield 189, 3) := by decide +kernel
theorem dX10_reckonAsIfDisputed_35 : decode cX10_reckonAsIfDisputed 35 = .ok (.iload_n 1, 1) := by decide +kernel
theorem dX10_reckonAsIfDisputed_36 : decode cX10_reckonAsIfDisputed 36 = .ok (.bipush 24, 2) := by decide +kernel
theorem dX10_reckonAsIfDisputed_38 : decode cX10_reckonAsIfDisputed 38 = .ok (.iastore, 1) := by decide +kernel
theorem dX10_reckonAsIfDisputed_39 : decode cX10_reckonAsIfDisputed 39 = .ok (.aload_n 0, 1) := by decide +kernel
theorem dX10_reckonAsIfDisputed_40 : decode cX10_reckonAsIfDisputed 40 = .ok (.getfield 37, 3) := by decide +kernel
theorem dX10_reckonAsIfDisputed_43 : decode cX10_reckonAsIfDisputed 43 = .ok (.aload_n 0, 1) := by decide +kernel
theorem dX10_reckonAsIfDisputed_44 : decode cX10_reckonAsIfDisputed 44 = .ok (.getfield 26, 3) := by decide +kernel
theorem dX10_reckonAsIfDisputed_47 : decode cX10_reckonAsIfDisputed 47 = .ok (.invokevirtual 223, 3) := by decide +kernel
theorem dX10_reckonAsIfDisputed_50 : decode cX10_reckonAsIfDisputed 50 = .ok (.aload_n 3, 1) := by decide +kernel
theorem dX10_reckonAsIfDisputed_51 : decode cX10_reckonAsIfDisputed 51 = .ok (.getfield 178, 3) := by decide +kernel
theorem dX10_reckonAsIfDisputed_54 : decode cX10_reckonAsIfDisputed 54 = .ok (.iload_n 1, 1) := by decide +kernel
theorem dX10_reckonAsIfDisputed_55 : decode cX10_reckonAsIfDisputed 55 = .ok (.iload 4, 2) := by decide +kernel
theorem dX10_reckonAsIfDisputed_57 : decode cX10_reckonAsIfDisputed 57 = .ok (.iastore, 1) := by decide +kernel
theorem dX10_reckonAsIfDisputed_58 : decode cX10_reckonAsIfDisputed 58 = .ok (.aload_n 3, 1) := by decide +kernel
theorem dX10_reckonAsIfDisputed_59 : decode cX10_reckonAsIfDisputed 59 = .ok (.getfield 189, 3) := by decide +kernel
theorem dX10_reckonAsIfDisputed_62 : decode cX10_reckonAsIfDisputed 62 = .ok (.iload_n 1, 1) := by decide +kernel
theorem dX10_reckonAsIfDisputed_63 : decode cX10_reckonAsIfDisputed 63 = .ok (.iload 5, 2) := by decide +kernel
theorem dX10_reckonAsIfDisputed_65 : decode cX10_reckonAsIfDisputed 65 = .ok (.iastore, 1) := by decide +kernel
theorem dX10_reckonAsIfDisputed_66 : decode cX10_reckonAsIfDisputed 66 = .ok (.return_, 1) := by decide +kernel
set_option maxRecDepth 20000 in
theorem ggX10_payFrom_X4_reckon : GoodIn wsX10_payFrom wsX4_reckon := goodIn_r _ [10, 11, 12, 13, 14, 15, 16, 17, 18, 19, 20, 21, 22, 23, 24, 25, 26, 27, 28, 29, 30, 31, 32, 33, 34, 35, 36, 37, 38, 39, 40, 41, 42, 43, 44, 45, 46, 47, 48, 49, 50, 51, 52, 53, 54, 55, 56, 57, 58, 59, 60, 61, 62, 63, 64, 65, 66, 67, 68, 69, 70, 71, 9, 72, 73, 74, 75, 76, 77, 78, 79, 80, 81, 82, 83, 84, 85, 86, 87, 88, 89, 90, 91, 92, 93, 94, 95, 96, 97, 98, 99, 100, 101, 102, 103, 104, 105, 106, 107, 108, 109, 110, 111, 112, 113, 114, 115, 116, 117, 118, 119, 120, 121, 122, 123, 124, 125, 126, 127, 128, 129, 130, 131, 132, 133, 134, 135, 136, 137, 138, 139, 140, 141, 142, 143, 144, 145, 146, 147, 148, 149, 150, 151, 152, 153, 154, 155, 156, 157, 158, 159, 160, 161, 162, 163, 164, 165, 166, 167, 168, 169, 190, 178, 179, 180, 181, 182, 183, 184, 185, 186, 187, 188, 189, 191, 192, 193, 194, 195, 196, 197, 198, 199, 200, 201, 202, 203, 204, 205, 206, 207, 208, 209, 210] rfl (by decide +kernel)
set_option maxRecDepth 20000 in
theorem gX10_payFrom_X4_reckon : GoodIn wsX10_payFrom (wsV RX10 223 RX4 yX4_reckon wsX4_reckon) := goodIn_app (goodIn_of _ (by decide +kernel)) ggX10_payFrom_X4_reckon
set_option maxRecDepth 20000 in
theorem ggX10_payFrom_X4_reckonDebt : GoodIn wsX10_payFrom wsX4_reckonDebt := goodIn_r _ [168, 11, 169, 118, 106, 119, 98, 59, 60, 61, 62, 63, 84, 85, 86, 9, 87, 74, 75, 76, 77, 64, 65, 66, 67, 190, 204] rfl (by decide +kernel)
set_option maxRecDepth 20000 in
theorem gX10_payFrom_X4_reckonDebt : GoodIn wsX10_payFrom (wsV RX10 306 RX4 yX4_reckonDebt wsX4_reckonDebt) := goodIn_app (goodIn_of _ (by decide +kernel)) ggX10_payFrom_X4_reckonDebt
theorem dX10_payFrom_0 : decode cX10_payFrom 0 = .ok (.iconst 0, 1) := by decide +kernel
theorem dX10_payFrom_1 : decode cX10_payFrom 1 = .ok (.istore_n 3, 1) := by decide +kernel
theorem dX10_payFrom_2 : decode cX10_payFrom 2 = .ok (.iload_n 3, 1) := by decide +kernel
theorem dX10_payFrom_3 : decode cX10_payFrom 3 = .ok (.bipush 24, 2) := by decide +kernel
theorem dX10_payFrom_5 : decode cX10_payFrom 5 = .ok (.if_icmp .ge 34, 3) := by decide +kernel
theorem dX10_payFrom_8 : decode cX10_payFrom 8 = .ok (.aload_n 0, 1) := by decide +kernel
theorem dX10_payFrom_9 : decode cX10_payFrom 9 = .ok (.getfield 40, 3) := by decide +kernel
theorem dX10_payFrom_12 : decode cX10_payFrom 12 = .ok (.iload_n 3, 1) := by decide +kernel
theorem dX10_payFrom_13 : decode cX10_payFrom 13 = .ok (.iload_n 3, 1) := by decide +kernel
theorem dX10_payFrom_14 : decode cX10_payFrom 14 = .ok (.iload_n 1, 1) := by decide +kernel
theorem dX10_payFrom_15 : decode cX10_payFrom 15 = .ok (.if_icmp .ge 15, 3) := by decide +kernel
theorem dX10_payFrom_18 : decode cX10_payFrom 18 = .ok (.aload_n 0, 1) := by decide +kernel
theorem dX10_payFrom_19 : decode cX10_payFrom 19 = .ok (.getfield 26, 3) := by decide +kernel
theorem dX10_payFrom_22 : decode cX10_payFrom 22 = .ok (.getfield 205, 3) := by decide +kernel
theorem dX10_payFrom_25 : decode cX10_payFrom 25 = .ok (.iload_n 3, 1) := by decide +kernel
theorem dX10_payFrom_26 : decode cX10_payFrom 26 = .ok (.laload, 1) := by decide +kernel
theorem dX10_payFrom_27 : decode cX10_payFrom 27 = .ok (.goto 5, 3) := by decide +kernel
theorem dX10_payFrom_30 : decode cX10_payFrom 30 = .ok (.iload_n 2, 1) := by decide +kernel
theorem dX10_payFrom_31 : decode cX10_payFrom 31 = .ok (.i2l, 1) := by decide +kernel
theorem dX10_payFrom_32 : decode cX10_payFrom 32 = .ok (.lastore, 1) := by decide +kernel
theorem dX10_payFrom_33 : decode cX10_payFrom 33 = .ok (.iinc 3 1, 3) := by decide +kernel
theorem dX10_payFrom_36 : decode cX10_payFrom 36 = .ok (.goto (-34), 3) := by decide +kernel
theorem dX10_payFrom_39 : decode cX10_payFrom 39 = .ok (.aload_n 0, 1) := by decide +kernel
theorem dX10_payFrom_40 : decode cX10_payFrom 40 = .ok (.getfield 33, 3) := by decide +kernel
theorem dX10_payFrom_43 : decode cX10_payFrom 43 = .ok (.aload_n 0, 1) := by decide +kernel
theorem dX10_payFrom_44 : decode cX10_payFrom 44 = .ok (.getfield 26, 3) := by decide +kernel
theorem dX10_payFrom_47 : decode cX10_payFrom 47 = .ok (.invokevirtual 223, 3) := by decide +kernel
theorem dX10_payFrom_50 : decode cX10_payFrom 50 = .ok (.aload_n 0, 1) := by decide +kernel
theorem dX10_payFrom_51 : decode cX10_payFrom 51 = .ok (.getfield 33, 3) := by decide +kernel
theorem dX10_payFrom_54 : decode cX10_payFrom 54 = .ok (.aload_n 0, 1) := by decide +kernel
theorem dX10_payFrom_55 : decode cX10_payFrom 55 = .ok (.getfield 26, 3) := by decide +kernel
theorem dX10_payFrom_58 : decode cX10_payFrom 58 = .ok (.getfield 80, 3) := by decide +kernel
theorem dX10_payFrom_61 : decode cX10_payFrom 61 = .ok (.aload_n 0, 1) := by decide +kernel
theorem dX10_payFrom_62 : decode cX10_payFrom 62 = .ok (.getfield 40, 3) := by decide +kernel
theorem dX10_payFrom_65 : decode cX10_payFrom 65 = .ok (.invokevirtual 306, 3) := by decide +kernel
theorem dX10_payFrom_68 : decode cX10_payFrom 68 = .ok (.return_, 1) := by decide +kernel
set_option maxRecDepth 20000 in
theorem ggX10_moreAsIf_X4_of : GoodIn wsX10_moreAsIf wsX4_of := goodIn_r _ [7, 8, 16] rfl (by decide +kernel)
set_option maxRecDepth 20000 in
theorem gX10_moreAsIf_X4_of : GoodIn wsX10_moreAsIf (wsV RX10 227 RX4 yX4_of wsX4_of) := goodIn_app (goodIn_of _ (by decide +kernel)) ggX10_moreAsIf_X4_of
theorem dX10_moreAsIf_0 : decode cX10_moreAsIf 0 = .ok (.aload_n 0, 1) := by decide +kernel
theorem dX10_moreAsIf_1 : decode cX10_moreAsIf 1 = .ok (.getfield 37, 3) := by decide +kernel
theorem dX10_moreAsIf_4 : decode cX10_moreAsIf 4 = .ok (.iload_n 1, 1) := by decide +kernel
theorem dX10_moreAsIf_5 : decode cX10_moreAsIf 5 = .ok (.iload_n 2, 1) := by decide +kernel
theorem dX10_moreAsIf_6 : decode cX10_moreAsIf 6 = .ok (.invokevirtual 227, 3) := by decide +kernel
theorem dX10_moreAsIf_9 : decode cX10_moreAsIf 9 = .ok (.aload_n 0, 1) := by decide +kernel
theorem dX10_moreAsIf_10 : decode cX10_moreAsIf 10 = .ok (.getfield 33, 3) := by decide +kernel
theorem dX10_moreAsIf_13 : decode cX10_moreAsIf 13 = .ok (.iload_n 1, 1) := by decide +kernel
theorem dX10_moreAsIf_14 : decode cX10_moreAsIf 14 = .ok (.iload_n 2, 1) := by decide +kernel
theorem dX10_moreAsIf_15 : decode cX10_moreAsIf 15 = .ok (.invokevirtual 227, 3) := by decide +kernel
theorem dX10_moreAsIf_18 : decode cX10_moreAsIf 18 = .ok (.lsub, 1) := by decide +kernel
theorem dX10_moreAsIf_19 : decode cX10_moreAsIf 19 = .ok (.lreturn, 1) := by decide +kernel
set_option maxRecDepth 20000 in
theorem ggX10_tellTotalAndInterest_X10_moreAsIf : GoodIn wsX10_tellTotalAndInterest wsX10_moreAsIf := goodIn_r _ [6, 7, 8, 9, 10, 11, 12, 13, 14, 27, 28, 29, 30, 31, 32, 33, 34] rfl (by decide +kernel)
set_option maxRecDepth 20000 in
theorem gX10_tellTotalAndInterest_X10_moreAsIf : GoodIn wsX10_tellTotalAndInterest (wsV RX10 330 RX10 yX10_moreAsIf wsX10_moreAsIf) := goodIn_app (goodIn_of _ (by decide +kernel)) ggX10_tellTotalAndInterest_X10_moreAsIf
set_option maxRecDepth 20000 in
theorem ggX10_tellTotalAndInterest_X5_start : GoodIn wsX10_tellTotalAndInterest wsX5_start := goodIn_r _ [19, 20, 21, 22, 23, 18, 24, 25, 35, 36] rfl (by decide +kernel)
set_option maxRecDepth 20000 in
theorem gX10_tellTotalAndInterest_X5_start : GoodIn wsX10_tellTotalAndInterest (wsV RX10 233 RX5 yX5_start wsX5_start) := goodIn_app (goodIn_of _ (by decide +kernel)) ggX10_tellTotalAndInterest_X5_start
set_option maxRecDepth 20000 in
theorem ggX10_tellTotalAndInterest_X5_then : GoodIn wsX10_tellTotalAndInterest wsX5_then := goodIn_r _ [24, 20, 25, 35, 36] rfl (by decide +kernel)
set_option maxRecDepth 20000 in
theorem gX10_tellTotalAndInterest_X5_then : GoodIn wsX10_tellTotalAndInterest (wsV RX10 240 RX5 yX5_then wsX5_then) := goodIn_app (goodIn_of _ (by decide +kernel)) ggX10_tellTotalAndInterest_X5_then
theorem dX10_tellTotalAndInterest_0 : decode cX10_tellTotalAndInterest 0 = .ok (.aload_n 0, 1) := by decide +kernel
theorem dX10_tellTotalAndInterest_1 : decode cX10_tellTotalAndInterest 1 = .ok (.getfield 47, 3) := by decide +kernel
theorem dX10_tellTotalAndInterest_4 : decode cX10_tellTotalAndInterest 4 = .ok (.aload_n 0, 1) := by decide +kernel
theorem dX10_tellTotalAndInterest_5 : decode cX10_tellTotalAndInterest 5 = .ok (.bipush 8, 2) := by decide +kernel
theorem dX10_tellTotalAndInterest_7 : decode cX10_tellTotalAndInterest 7 = .ok (.bipush 23, 2) := by decide +kernel
theorem dX10_tellTotalAndInterest_9 : decode cX10_tellTotalAndInterest 9 = .ok (.invokevirtual 330, 3) := by decide +kernel
theorem dX10_tellTotalAndInterest_12 : decode cX10_tellTotalAndInterest 12 = .ok (.invokevirtual 233, 3) := by decide +kernel
theorem dX10_tellTotalAndInterest_15 : decode cX10_tellTotalAndInterest 15 = .ok (.aload_n 0, 1) := by decide +kernel
theorem dX10_tellTotalAndInterest_16 : decode cX10_tellTotalAndInterest 16 = .ok (.bipush 11, 2) := by decide +kernel
theorem dX10_tellTotalAndInterest_18 : decode cX10_tellTotalAndInterest 18 = .ok (.bipush 23, 2) := by decide +kernel
theorem dX10_tellTotalAndInterest_20 : decode cX10_tellTotalAndInterest 20 = .ok (.invokevirtual 330, 3) := by decide +kernel
theorem dX10_tellTotalAndInterest_23 : decode cX10_tellTotalAndInterest 23 = .ok (.invokevirtual 240, 3) := by decide +kernel
theorem dX10_tellTotalAndInterest_26 : decode cX10_tellTotalAndInterest 26 = .ok (.pop, 1) := by decide +kernel
theorem dX10_tellTotalAndInterest_27 : decode cX10_tellTotalAndInterest 27 = .ok (.return_, 1) := by decide +kernel
set_option maxRecDepth 20000 in
theorem ggX10_greatestRetained_X4_of : GoodIn wsX10_greatestRetained wsX4_of := goodIn_r _ [11, 12, 47] rfl (by decide +kernel)
set_option maxRecDepth 20000 in
theorem gX10_greatestRetained_X4_of : GoodIn wsX10_greatestRetained (wsV RX10 227 RX4 yX4_of wsX4_of) := goodIn_app (goodIn_of _ (by decide +kernel)) ggX10_greatestRetained_X4_of
set_option maxRecDepth 20000 in
theorem ggX10_greatestRetained_X2_retained : GoodIn wsX10_greatestRetained wsX2_retained := goodIn_r _ [17, 18, 19, 20, 5, 21, 22, 23, 24, 25, 26, 27, 28, 29, 30, 16, 31, 32, 33, 34, 35, 36, 37, 38, 39, 48, 49, 50, 51, 52, 53, 54, 55, 56, 57, 58, 59, 60, 61, 62, 63, 64, 65] rfl (by decide +kernel)
set_option maxRecDepth 20000 in
theorem gX10_greatestRetained_X2_retained : GoodIn wsX10_greatestRetained (wsV RX10 382 RX2 yX2_retained wsX2_retained) := goodIn_app (goodIn_of _ (by decide +kernel)) ggX10_greatestRetained_X2_retained
theorem dX10_greatestRetained_0 : decode cX10_greatestRetained 0 = .ok (.lconst 0, 1) := by decide +kernel
theorem dX10_greatestRetained_1 : decode cX10_greatestRetained 1 = .ok (.lstore_n 2, 1) := by decide +kernel
theorem dX10_greatestRetained_2 : decode cX10_greatestRetained 2 = .ok (.iconst 0, 1) := by decide +kernel
theorem dX10_greatestRetained_3 : decode cX10_greatestRetained 3 = .ok (.istore 4, 2) := by decide +kernel
theorem dX10_greatestRetained_5 : decode cX10_greatestRetained 5 = .ok (.iload 4, 2) := by decide +kernel
theorem dX10_greatestRetained_7 : decode cX10_greatestRetained 7 = .ok (.bipush 24, 2) := by decide +kernel
theorem dX10_greatestRetained_9 : decode cX10_greatestRetained 9 = .ok (.if_icmp .ge 34, 3) := by decide +kernel
theorem dX10_greatestRetained_12 : decode cX10_greatestRetained 12 = .ok (.lload_n 2, 1) := by decide +kernel
theorem dX10_greatestRetained_13 : decode cX10_greatestRetained 13 = .ok (.aload_n 0, 1) := by decide +kernel
theorem dX10_greatestRetained_14 : decode cX10_greatestRetained 14 = .ok (.getfield 26, 3) := by decide +kernel
theorem dX10_greatestRetained_17 : decode cX10_greatestRetained 17 = .ok (.iload_n 1, 1) := by decide +kernel
theorem dX10_greatestRetained_18 : decode cX10_greatestRetained 18 = .ok (.aload_n 0, 1) := by decide +kernel
theorem dX10_greatestRetained_19 : decode cX10_greatestRetained 19 = .ok (.getfield 33, 3) := by decide +kernel
theorem dX10_greatestRetained_22 : decode cX10_greatestRetained 22 = .ok (.iconst 0, 1) := by decide +kernel
theorem dX10_greatestRetained_23 : decode cX10_greatestRetained 23 = .ok (.iload 4, 2) := by decide +kernel
theorem dX10_greatestRetained_25 : decode cX10_greatestRetained 25 = .ok (.invokevirtual 227, 3) := by decide +kernel
theorem dX10_greatestRetained_28 : decode cX10_greatestRetained 28 = .ok (.iload 4, 2) := by decide +kernel
theorem dX10_greatestRetained_30 : decode cX10_greatestRetained 30 = .ok (.invokevirtual 382, 3) := by decide +kernel
theorem dX10_greatestRetained_33 : decode cX10_greatestRetained 33 = .ok (.invokestatic 323, 3) := by decide +kernel
theorem dX10_greatestRetained_36 : decode cX10_greatestRetained 36 = .ok (.lstore_n 2, 1) := by decide +kernel
theorem dX10_greatestRetained_37 : decode cX10_greatestRetained 37 = .ok (.iinc 4 1, 3) := by decide +kernel
theorem dX10_greatestRetained_40 : decode cX10_greatestRetained 40 = .ok (.goto (-35), 3) := by decide +kernel
theorem dX10_greatestRetained_43 : decode cX10_greatestRetained 43 = .ok (.lload_n 2, 1) := by decide +kernel
theorem dX10_greatestRetained_44 : decode cX10_greatestRetained 44 = .ok (.lreturn, 1) := by decide +kernel
