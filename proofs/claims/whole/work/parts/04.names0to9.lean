theorem dX0_init_0 : decode cX0_init 0 = .ok (.aload_n 0, 1) := by decide +kernel
theorem dX0_init_1 : decode cX0_init 1 = .ok (.invokespecial 3, 3) := by decide +kernel
theorem dX0_init_4 : decode cX0_init 4 = .ok (.aload_n 0, 1) := by decide +kernel
theorem dX0_init_5 : decode cX0_init 5 = .ok (.bipush 10, 2) := by decide +kernel
theorem dX0_init_7 : decode cX0_init 7 = .ok (.newarray .int, 2) := by decide +kernel
theorem dX0_init_9 : decode cX0_init 9 = .ok (.putfield 9, 3) := by decide +kernel
theorem dX0_init_12 : decode cX0_init 12 = .ok (.aload_n 0, 1) := by decide +kernel
theorem dX0_init_13 : decode cX0_init 13 = .ok (.bipush 10, 2) := by decide +kernel
theorem dX0_init_15 : decode cX0_init 15 = .ok (.newarray .int, 2) := by decide +kernel
theorem dX0_init_17 : decode cX0_init 17 = .ok (.putfield 15, 3) := by decide +kernel
theorem dX0_init_20 : decode cX0_init 20 = .ok (.aload_n 0, 1) := by decide +kernel
theorem dX0_init_21 : decode cX0_init 21 = .ok (.bipush 10, 2) := by decide +kernel
theorem dX0_init_23 : decode cX0_init 23 = .ok (.newarray .int, 2) := by decide +kernel
theorem dX0_init_25 : decode cX0_init 25 = .ok (.putfield 18, 3) := by decide +kernel
theorem dX0_init_28 : decode cX0_init 28 = .ok (.aload_n 0, 1) := by decide +kernel
theorem dX0_init_29 : decode cX0_init 29 = .ok (.iconst 0, 1) := by decide +kernel
theorem dX0_init_30 : decode cX0_init 30 = .ok (.putfield 21, 3) := by decide +kernel
theorem dX0_init_33 : decode cX0_init 33 = .ok (.aload_n 0, 1) := by decide +kernel
theorem dX0_init_34 : decode cX0_init 34 = .ok (.iconst 0, 1) := by decide +kernel
theorem dX0_init_35 : decode cX0_init 35 = .ok (.putfield 25, 3) := by decide +kernel
theorem dX0_init_38 : decode cX0_init 38 = .ok (.return_, 1) := by decide +kernel
theorem dX0_clear_0 : decode cX0_clear 0 = .ok (.aload_n 0, 1) := by decide +kernel
theorem dX0_clear_1 : decode cX0_clear 1 = .ok (.iconst 0, 1) := by decide +kernel
theorem dX0_clear_2 : decode cX0_clear 2 = .ok (.putfield 21, 3) := by decide +kernel
theorem dX0_clear_5 : decode cX0_clear 5 = .ok (.aload_n 0, 1) := by decide +kernel
theorem dX0_clear_6 : decode cX0_clear 6 = .ok (.iconst 0, 1) := by decide +kernel
theorem dX0_clear_7 : decode cX0_clear 7 = .ok (.putfield 25, 3) := by decide +kernel
theorem dX0_clear_10 : decode cX0_clear 10 = .ok (.return_, 1) := by decide +kernel
theorem dX0_add_0 : decode cX0_add 0 = .ok (.aload_n 0, 1) := by decide +kernel
theorem dX0_add_1 : decode cX0_add 1 = .ok (.getfield 21, 3) := by decide +kernel
theorem dX0_add_4 : decode cX0_add 4 = .ok (.bipush 10, 2) := by decide +kernel
theorem dX0_add_6 : decode cX0_add 6 = .ok (.if_icmp .lt 4, 3) := by decide +kernel
theorem dX0_add_9 : decode cX0_add 9 = .ok (.return_, 1) := by decide +kernel
theorem dX0_add_10 : decode cX0_add 10 = .ok (.aload_n 0, 1) := by decide +kernel
theorem dX0_add_11 : decode cX0_add 11 = .ok (.getfield 9, 3) := by decide +kernel
theorem dX0_add_14 : decode cX0_add 14 = .ok (.aload_n 0, 1) := by decide +kernel
theorem dX0_add_15 : decode cX0_add 15 = .ok (.getfield 21, 3) := by decide +kernel
theorem dX0_add_18 : decode cX0_add 18 = .ok (.iload_n 1, 1) := by decide +kernel
theorem dX0_add_19 : decode cX0_add 19 = .ok (.iastore, 1) := by decide +kernel
theorem dX0_add_20 : decode cX0_add 20 = .ok (.aload_n 0, 1) := by decide +kernel
theorem dX0_add_21 : decode cX0_add 21 = .ok (.getfield 15, 3) := by decide +kernel
theorem dX0_add_24 : decode cX0_add 24 = .ok (.aload_n 0, 1) := by decide +kernel
theorem dX0_add_25 : decode cX0_add 25 = .ok (.getfield 21, 3) := by decide +kernel
theorem dX0_add_28 : decode cX0_add 28 = .ok (.iload_n 2, 1) := by decide +kernel
theorem dX0_add_29 : decode cX0_add 29 = .ok (.iastore, 1) := by decide +kernel
theorem dX0_add_30 : decode cX0_add 30 = .ok (.aload_n 0, 1) := by decide +kernel
theorem dX0_add_31 : decode cX0_add 31 = .ok (.getfield 18, 3) := by decide +kernel
theorem dX0_add_34 : decode cX0_add 34 = .ok (.aload_n 0, 1) := by decide +kernel
theorem dX0_add_35 : decode cX0_add 35 = .ok (.getfield 21, 3) := by decide +kernel
theorem dX0_add_38 : decode cX0_add 38 = .ok (.iload_n 3, 1) := by decide +kernel
theorem dX0_add_39 : decode cX0_add 39 = .ok (.iastore, 1) := by decide +kernel
theorem dX0_add_40 : decode cX0_add 40 = .ok (.aload_n 0, 1) := by decide +kernel
theorem dX0_add_41 : decode cX0_add 41 = .ok (.dup, 1) := by decide +kernel
theorem dX0_add_42 : decode cX0_add 42 = .ok (.getfield 21, 3) := by decide +kernel
theorem dX0_add_45 : decode cX0_add 45 = .ok (.iconst 1, 1) := by decide +kernel
theorem dX0_add_46 : decode cX0_add 46 = .ok (.iadd, 1) := by decide +kernel
theorem dX0_add_47 : decode cX0_add 47 = .ok (.putfield 21, 3) := by decide +kernel
theorem dX0_add_50 : decode cX0_add 50 = .ok (.aload_n 0, 1) := by decide +kernel
theorem dX0_add_51 : decode cX0_add 51 = .ok (.dup, 1) := by decide +kernel
theorem dX0_add_52 : decode cX0_add 52 = .ok (.getfield 25, 3) := by decide +kernel
theorem dX0_add_55 : decode cX0_add 55 = .ok (.iload_n 2, 1) := by decide +kernel
theorem dX0_add_56 : decode cX0_add 56 = .ok (.iload_n 3, 1) := by decide +kernel
theorem dX0_add_57 : decode cX0_add 57 = .ok (.imul, 1) := by decide +kernel
theorem dX0_add_58 : decode cX0_add 58 = .ok (.iadd, 1) := by decide +kernel
theorem dX0_add_59 : decode cX0_add 59 = .ok (.putfield 25, 3) := by decide +kernel
theorem dX0_add_62 : decode cX0_add 62 = .ok (.return_, 1) := by decide +kernel
set_option maxRecDepth 20000 in
theorem ggX0_take_X0_clear : GoodIn wsX0_take wsX0_clear := goodIn_r _ [9, 1, 10, 15, 16, 17, 18, 19] rfl (by decide +kernel)
set_option maxRecDepth 20000 in
theorem gX0_take_X0_clear : GoodIn wsX0_take (wsV RX0 28 RX0 yX0_clear wsX0_clear) := goodIn_app (goodIn_of _ (by decide +kernel)) ggX0_take_X0_clear
set_option maxRecDepth 20000 in
theorem ggX0_take_X0_add : GoodIn wsX0_take wsX0_add := goodIn_r _ [14, 1, 2, 3, 4, 10, 15, 16, 17, 18, 19] rfl (by decide +kernel)
set_option maxRecDepth 20000 in
theorem gX0_take_X0_add : GoodIn wsX0_take (wsV RX0 31 RX0 yX0_add wsX0_add) := goodIn_app (goodIn_of _ (by decide +kernel)) ggX0_take_X0_add
theorem dX0_take_0 : decode cX0_take 0 = .ok (.aload_n 0, 1) := by decide +kernel
theorem dX0_take_1 : decode cX0_take 1 = .ok (.invokevirtual 28, 3) := by decide +kernel
theorem dX0_take_4 : decode cX0_take 4 = .ok (.iconst 0, 1) := by decide +kernel
theorem dX0_take_5 : decode cX0_take 5 = .ok (.istore_n 2, 1) := by decide +kernel
theorem dX0_take_6 : decode cX0_take 6 = .ok (.iload_n 2, 1) := by decide +kernel
theorem dX0_take_7 : decode cX0_take 7 = .ok (.aload_n 1, 1) := by decide +kernel
theorem dX0_take_8 : decode cX0_take 8 = .ok (.getfield 21, 3) := by decide +kernel
theorem dX0_take_11 : decode cX0_take 11 = .ok (.if_icmp .ge 31, 3) := by decide +kernel
theorem dX0_take_14 : decode cX0_take 14 = .ok (.aload_n 0, 1) := by decide +kernel
theorem dX0_take_15 : decode cX0_take 15 = .ok (.aload_n 1, 1) := by decide +kernel
theorem dX0_take_16 : decode cX0_take 16 = .ok (.getfield 9, 3) := by decide +kernel
theorem dX0_take_19 : decode cX0_take 19 = .ok (.iload_n 2, 1) := by decide +kernel
theorem dX0_take_20 : decode cX0_take 20 = .ok (.iaload, 1) := by decide +kernel
theorem dX0_take_21 : decode cX0_take 21 = .ok (.aload_n 1, 1) := by decide +kernel
theorem dX0_take_22 : decode cX0_take 22 = .ok (.getfield 15, 3) := by decide +kernel
theorem dX0_take_25 : decode cX0_take 25 = .ok (.iload_n 2, 1) := by decide +kernel
theorem dX0_take_26 : decode cX0_take 26 = .ok (.iaload, 1) := by decide +kernel
theorem dX0_take_27 : decode cX0_take 27 = .ok (.aload_n 1, 1) := by decide +kernel
theorem dX0_take_28 : decode cX0_take 28 = .ok (.getfield 18, 3) := by decide +kernel
theorem dX0_take_31 : decode cX0_take 31 = .ok (.iload_n 2, 1) := by decide +kernel
theorem dX0_take_32 : decode cX0_take 32 = .ok (.iaload, 1) := by decide +kernel
theorem dX0_take_33 : decode cX0_take 33 = .ok (.invokevirtual 31, 3) := by decide +kernel
theorem dX0_take_36 : decode cX0_take 36 = .ok (.iinc 2 1, 3) := by decide +kernel
theorem dX0_take_39 : decode cX0_take 39 = .ok (.goto (-33), 3) := by decide +kernel
theorem dX0_take_42 : decode cX0_take 42 = .ok (.return_, 1) := by decide +kernel
theorem dX0_has_0 : decode cX0_has 0 = .ok (.iload_n 1, 1) := by decide +kernel
theorem dX0_has_1 : decode cX0_has 1 = .ok (.ifCond .lt 15, 3) := by decide +kernel
theorem dX0_has_4 : decode cX0_has 4 = .ok (.iload_n 1, 1) := by decide +kernel
theorem dX0_has_5 : decode cX0_has 5 = .ok (.aload_n 0, 1) := by decide +kernel
theorem dX0_has_6 : decode cX0_has 6 = .ok (.getfield 21, 3) := by decide +kernel
theorem dX0_has_9 : decode cX0_has 9 = .ok (.if_icmp .ge 7, 3) := by decide +kernel
theorem dX0_has_12 : decode cX0_has 12 = .ok (.iconst 1, 1) := by decide +kernel
theorem dX0_has_13 : decode cX0_has 13 = .ok (.goto 4, 3) := by decide +kernel
theorem dX0_has_16 : decode cX0_has 16 = .ok (.iconst 0, 1) := by decide +kernel
theorem dX0_has_17 : decode cX0_has 17 = .ok (.ireturn, 1) := by decide +kernel
theorem dX0_likeBits_0 : decode cX0_likeBits 0 = .ok (.iconst 0, 1) := by decide +kernel
theorem dX0_likeBits_1 : decode cX0_likeBits 1 = .ok (.istore_n 2, 1) := by decide +kernel
theorem dX0_likeBits_2 : decode cX0_likeBits 2 = .ok (.iconst 0, 1) := by decide +kernel
theorem dX0_likeBits_3 : decode cX0_likeBits 3 = .ok (.istore_n 3, 1) := by decide +kernel
theorem dX0_likeBits_4 : decode cX0_likeBits 4 = .ok (.iload_n 3, 1) := by decide +kernel
theorem dX0_likeBits_5 : decode cX0_likeBits 5 = .ok (.aload_n 0, 1) := by decide +kernel
theorem dX0_likeBits_6 : decode cX0_likeBits 6 = .ok (.getfield 21, 3) := by decide +kernel
theorem dX0_likeBits_9 : decode cX0_likeBits 9 = .ok (.if_icmp .ge 29, 3) := by decide +kernel
theorem dX0_likeBits_12 : decode cX0_likeBits 12 = .ok (.iload_n 2, 1) := by decide +kernel
theorem dX0_likeBits_13 : decode cX0_likeBits 13 = .ok (.aload_n 0, 1) := by decide +kernel
theorem dX0_likeBits_14 : decode cX0_likeBits 14 = .ok (.getfield 9, 3) := by decide +kernel
theorem dX0_likeBits_17 : decode cX0_likeBits 17 = .ok (.iload_n 3, 1) := by decide +kernel
theorem dX0_likeBits_18 : decode cX0_likeBits 18 = .ok (.iaload, 1) := by decide +kernel
theorem dX0_likeBits_19 : decode cX0_likeBits 19 = .ok (.iload_n 1, 1) := by decide +kernel
theorem dX0_likeBits_20 : decode cX0_likeBits 20 = .ok (.if_icmp .ne 9, 3) := by decide +kernel
theorem dX0_likeBits_23 : decode cX0_likeBits 23 = .ok (.iconst 1, 1) := by decide +kernel
theorem dX0_likeBits_24 : decode cX0_likeBits 24 = .ok (.iload_n 3, 1) := by decide +kernel
theorem dX0_likeBits_25 : decode cX0_likeBits 25 = .ok (.ishl, 1) := by decide +kernel
theorem dX0_likeBits_26 : decode cX0_likeBits 26 = .ok (.goto 4, 3) := by decide +kernel
theorem dX0_likeBits_29 : decode cX0_likeBits 29 = .ok (.iconst 0, 1) := by decide +kernel
theorem dX0_likeBits_30 : decode cX0_likeBits 30 = .ok (.ior, 1) := by decide +kernel
theorem dX0_likeBits_31 : decode cX0_likeBits 31 = .ok (.istore_n 2, 1) := by decide +kernel
theorem dX0_likeBits_32 : decode cX0_likeBits 32 = .ok (.iinc 3 1, 3) := by decide +kernel
theorem dX0_likeBits_35 : decode cX0_likeBits 35 = .ok (.goto (-31), 3) := by decide +kernel
theorem dX0_likeBits_38 : decode cX0_likeBits 38 = .ok (.iload_n 2, 1) := by decide +kernel
theorem dX0_likeBits_39 : decode cX0_likeBits 39 = .ok (.ireturn, 1) := by decide +kernel
theorem dX0_price_0 : decode cX0_price 0 = .ok (.iconst 0, 1) := by decide +kernel
theorem dX0_price_1 : decode cX0_price 1 = .ok (.istore_n 3, 1) := by decide +kernel
theorem dX0_price_2 : decode cX0_price 2 = .ok (.iconst 0, 1) := by decide +kernel
theorem dX0_price_3 : decode cX0_price 3 = .ok (.istore 4, 2) := by decide +kernel
theorem dX0_price_5 : decode cX0_price 5 = .ok (.iconst 0, 1) := by decide +kernel
theorem dX0_price_6 : decode cX0_price 6 = .ok (.istore 5, 2) := by decide +kernel
theorem dX0_price_8 : decode cX0_price 8 = .ok (.iload 5, 2) := by decide +kernel
theorem dX0_price_10 : decode cX0_price 10 = .ok (.aload_n 0, 1) := by decide +kernel
theorem dX0_price_11 : decode cX0_price 11 = .ok (.getfield 21, 3) := by decide +kernel
theorem dX0_price_14 : decode cX0_price 14 = .ok (.if_icmp .ge 50, 3) := by decide +kernel
theorem dX0_price_17 : decode cX0_price 17 = .ok (.aload_n 0, 1) := by decide +kernel
theorem dX0_price_18 : decode cX0_price 18 = .ok (.getfield 9, 3) := by decide +kernel
theorem dX0_price_21 : decode cX0_price 21 = .ok (.iload 5, 2) := by decide +kernel
theorem dX0_price_23 : decode cX0_price 23 = .ok (.iaload, 1) := by decide +kernel
theorem dX0_price_24 : decode cX0_price 24 = .ok (.iload_n 1, 1) := by decide +kernel
theorem dX0_price_25 : decode cX0_price 25 = .ok (.if_icmp .ne 33, 3) := by decide +kernel
theorem dX0_price_28 : decode cX0_price 28 = .ok (.iload_n 3, 1) := by decide +kernel
theorem dX0_price_29 : decode cX0_price 29 = .ok (.aload_n 0, 1) := by decide +kernel
theorem dX0_price_30 : decode cX0_price 30 = .ok (.getfield 15, 3) := by decide +kernel
theorem dX0_price_33 : decode cX0_price 33 = .ok (.iload 5, 2) := by decide +kernel
theorem dX0_price_35 : decode cX0_price 35 = .ok (.iaload, 1) := by decide +kernel
theorem dX0_price_36 : decode cX0_price 36 = .ok (.aload_n 0, 1) := by decide +kernel
theorem dX0_price_37 : decode cX0_price 37 = .ok (.getfield 18, 3) := by decide +kernel
theorem dX0_price_40 : decode cX0_price 40 = .ok (.iload 5, 2) := by decide +kernel
theorem dX0_price_42 : decode cX0_price 42 = .ok (.iaload, 1) := by decide +kernel
theorem dX0_price_43 : decode cX0_price 43 = .ok (.imul, 1) := by decide +kernel
theorem dX0_price_44 : decode cX0_price 44 = .ok (.iadd, 1) := by decide +kernel
theorem dX0_price_45 : decode cX0_price 45 = .ok (.istore_n 3, 1) := by decide +kernel
theorem dX0_price_46 : decode cX0_price 46 = .ok (.iload 4, 2) := by decide +kernel
theorem dX0_price_48 : decode cX0_price 48 = .ok (.aload_n 0, 1) := by decide +kernel
theorem dX0_price_49 : decode cX0_price 49 = .ok (.getfield 15, 3) := by decide +kernel
theorem dX0_price_52 : decode cX0_price 52 = .ok (.iload 5, 2) := by decide +kernel
theorem dX0_price_54 : decode cX0_price 54 = .ok (.iaload, 1) := by decide +kernel
theorem dX0_price_55 : decode cX0_price 55 = .ok (.iadd, 1) := by decide +kernel
theorem dX0_price_56 : decode cX0_price 56 = .ok (.istore 4, 2) := by decide +kernel
theorem dX0_price_58 : decode cX0_price 58 = .ok (.iinc 5 1, 3) := by decide +kernel
theorem dX0_price_61 : decode cX0_price 61 = .ok (.goto (-53), 3) := by decide +kernel
theorem dX0_price_64 : decode cX0_price 64 = .ok (.iload 4, 2) := by decide +kernel
theorem dX0_price_66 : decode cX0_price 66 = .ok (.ifCond .le 10, 3) := by decide +kernel
theorem dX0_price_69 : decode cX0_price 69 = .ok (.iload_n 3, 1) := by decide +kernel
theorem dX0_price_70 : decode cX0_price 70 = .ok (.iload 4, 2) := by decide +kernel
theorem dX0_price_72 : decode cX0_price 72 = .ok (.idiv, 1) := by decide +kernel
theorem dX0_price_73 : decode cX0_price 73 = .ok (.goto 4, 3) := by decide +kernel
theorem dX0_price_76 : decode cX0_price 76 = .ok (.iload_n 2, 1) := by decide +kernel
theorem dX0_price_77 : decode cX0_price 77 = .ok (.ireturn, 1) := by decide +kernel
theorem dX0_leastRate_0 : decode cX0_leastRate 0 = .ok (.iconst 0, 1) := by decide +kernel
theorem dX0_leastRate_1 : decode cX0_leastRate 1 = .ok (.istore_n 2, 1) := by decide +kernel
theorem dX0_leastRate_2 : decode cX0_leastRate 2 = .ok (.iconst 0, 1) := by decide +kernel
theorem dX0_leastRate_3 : decode cX0_leastRate 3 = .ok (.istore_n 3, 1) := by decide +kernel
theorem dX0_leastRate_4 : decode cX0_leastRate 4 = .ok (.iload_n 3, 1) := by decide +kernel
theorem dX0_leastRate_5 : decode cX0_leastRate 5 = .ok (.aload_n 0, 1) := by decide +kernel
theorem dX0_leastRate_6 : decode cX0_leastRate 6 = .ok (.getfield 21, 3) := by decide +kernel
theorem dX0_leastRate_9 : decode cX0_leastRate 9 = .ok (.if_icmp .ge 40, 3) := by decide +kernel
theorem dX0_leastRate_12 : decode cX0_leastRate 12 = .ok (.aload_n 0, 1) := by decide +kernel
theorem dX0_leastRate_13 : decode cX0_leastRate 13 = .ok (.getfield 9, 3) := by decide +kernel
theorem dX0_leastRate_16 : decode cX0_leastRate 16 = .ok (.iload_n 3, 1) := by decide +kernel
theorem dX0_leastRate_17 : decode cX0_leastRate 17 = .ok (.iaload, 1) := by decide +kernel
theorem dX0_leastRate_18 : decode cX0_leastRate 18 = .ok (.iload_n 1, 1) := by decide +kernel
theorem dX0_leastRate_19 : decode cX0_leastRate 19 = .ok (.if_icmp .ne 24, 3) := by decide +kernel
theorem dX0_leastRate_22 : decode cX0_leastRate 22 = .ok (.iload_n 2, 1) := by decide +kernel
theorem dX0_leastRate_23 : decode cX0_leastRate 23 = .ok (.ifCond .eq 13, 3) := by decide +kernel
theorem dX0_leastRate_26 : decode cX0_leastRate 26 = .ok (.aload_n 0, 1) := by decide +kernel
theorem dX0_leastRate_27 : decode cX0_leastRate 27 = .ok (.getfield 18, 3) := by decide +kernel
theorem dX0_leastRate_30 : decode cX0_leastRate 30 = .ok (.iload_n 3, 1) := by decide +kernel
theorem dX0_leastRate_31 : decode cX0_leastRate 31 = .ok (.iaload, 1) := by decide +kernel
theorem dX0_leastRate_32 : decode cX0_leastRate 32 = .ok (.iload_n 2, 1) := by decide +kernel
theorem dX0_leastRate_33 : decode cX0_leastRate 33 = .ok (.if_icmp .ge 10, 3) := by decide +kernel
theorem dX0_leastRate_36 : decode cX0_leastRate 36 = .ok (.aload_n 0, 1) := by decide +kernel
theorem dX0_leastRate_37 : decode cX0_leastRate 37 = .ok (.getfield 18, 3) := by decide +kernel
theorem dX0_leastRate_40 : decode cX0_leastRate 40 = .ok (.iload_n 3, 1) := by decide +kernel
theorem dX0_leastRate_41 : decode cX0_leastRate 41 = .ok (.iaload, 1) := by decide +kernel
theorem dX0_leastRate_42 : decode cX0_leastRate 42 = .ok (.istore_n 2, 1) := by decide +kernel
theorem dX0_leastRate_43 : decode cX0_leastRate 43 = .ok (.iinc 3 1, 3) := by decide +kernel
theorem dX0_leastRate_46 : decode cX0_leastRate 46 = .ok (.goto (-42), 3) := by decide +kernel
theorem dX0_leastRate_49 : decode cX0_leastRate 49 = .ok (.iload_n 2, 1) := by decide +kernel
theorem dX0_leastRate_50 : decode cX0_leastRate 50 = .ok (.ireturn, 1) := by decide +kernel
theorem dX0_greatestRate_0 : decode cX0_greatestRate 0 = .ok (.iconst 0, 1) := by decide +kernel
theorem dX0_greatestRate_1 : decode cX0_greatestRate 1 = .ok (.istore_n 2, 1) := by decide +kernel
theorem dX0_greatestRate_2 : decode cX0_greatestRate 2 = .ok (.iconst 0, 1) := by decide +kernel
theorem dX0_greatestRate_3 : decode cX0_greatestRate 3 = .ok (.istore_n 3, 1) := by decide +kernel
theorem dX0_greatestRate_4 : decode cX0_greatestRate 4 = .ok (.iload_n 3, 1) := by decide +kernel
theorem dX0_greatestRate_5 : decode cX0_greatestRate 5 = .ok (.aload_n 0, 1) := by decide +kernel
theorem dX0_greatestRate_6 : decode cX0_greatestRate 6 = .ok (.getfield 21, 3) := by decide +kernel
theorem dX0_greatestRate_9 : decode cX0_greatestRate 9 = .ok (.if_icmp .ge 30, 3) := by decide +kernel
theorem dX0_greatestRate_12 : decode cX0_greatestRate 12 = .ok (.aload_n 0, 1) := by decide +kernel
theorem dX0_greatestRate_13 : decode cX0_greatestRate 13 = .ok (.getfield 9, 3) := by decide +kernel
theorem dX0_greatestRate_16 : decode cX0_greatestRate 16 = .ok (.iload_n 3, 1) := by decide +kernel
theorem dX0_greatestRate_17 : decode cX0_greatestRate 17 = .ok (.iaload, 1) := by decide +kernel
theorem dX0_greatestRate_18 : decode cX0_greatestRate 18 = .ok (.iload_n 1, 1) := by decide +kernel
theorem dX0_greatestRate_19 : decode cX0_greatestRate 19 = .ok (.if_icmp .ne 14, 3) := by decide +kernel
theorem dX0_greatestRate_22 : decode cX0_greatestRate 22 = .ok (.iload_n 2, 1) := by decide +kernel
theorem dX0_greatestRate_23 : decode cX0_greatestRate 23 = .ok (.aload_n 0, 1) := by decide +kernel
theorem dX0_greatestRate_24 : decode cX0_greatestRate 24 = .ok (.getfield 18, 3) := by decide +kernel
theorem dX0_greatestRate_27 : decode cX0_greatestRate 27 = .ok (.iload_n 3, 1) := by decide +kernel
theorem dX0_greatestRate_28 : decode cX0_greatestRate 28 = .ok (.iaload, 1) := by decide +kernel
theorem dX0_greatestRate_29 : decode cX0_greatestRate 29 = .ok (.invokestatic 35, 3) := by decide +kernel
theorem dX0_greatestRate_32 : decode cX0_greatestRate 32 = .ok (.istore_n 2, 1) := by decide +kernel
theorem dX0_greatestRate_33 : decode cX0_greatestRate 33 = .ok (.iinc 3 1, 3) := by decide +kernel
theorem dX0_greatestRate_36 : decode cX0_greatestRate 36 = .ok (.goto (-32), 3) := by decide +kernel
theorem dX0_greatestRate_39 : decode cX0_greatestRate 39 = .ok (.iload_n 2, 1) := by decide +kernel
theorem dX0_greatestRate_40 : decode cX0_greatestRate 40 = .ok (.ireturn, 1) := by decide +kernel
set_option maxRecDepth 20000 in
theorem ggX1_init_X0_init : GoodIn wsX1_init wsX0_init := goodIn_r _ [10, 11, 2, 3, 12, 13, 14, 15, 16, 17, 18, 19, 20, 21, 22] rfl (by decide +kernel)
set_option maxRecDepth 20000 in
theorem gX1_init_X0_init_n11 : GoodIn wsX1_init (wsX0_init) := ggX1_init_X0_init
theorem dX1_init_0 : decode cX1_init 0 = .ok (.aload_n 0, 1) := by decide +kernel
theorem dX1_init_1 : decode cX1_init 1 = .ok (.invokespecial 3, 3) := by decide +kernel
theorem dX1_init_4 : decode cX1_init 4 = .ok (.aload_n 0, 1) := by decide +kernel
theorem dX1_init_5 : decode cX1_init 5 = .ok (.new 9, 3) := by decide +kernel
theorem dX1_init_8 : decode cX1_init 8 = .ok (.dup, 1) := by decide +kernel
theorem dX1_init_9 : decode cX1_init 9 = .ok (.invokespecial 11, 3) := by decide +kernel
theorem dX1_init_12 : decode cX1_init 12 = .ok (.putfield 12, 3) := by decide +kernel
theorem dX1_init_15 : decode cX1_init 15 = .ok (.aload_n 0, 1) := by decide +kernel
theorem dX1_init_16 : decode cX1_init 16 = .ok (.iconst 0, 1) := by decide +kernel
theorem dX1_init_17 : decode cX1_init 17 = .ok (.putfield 18, 3) := by decide +kernel
theorem dX1_init_20 : decode cX1_init 20 = .ok (.return_, 1) := by decide +kernel
set_option maxRecDepth 20000 in
theorem ggX1_read_X0_clear : GoodIn wsX1_read wsX0_clear := goodIn_r _ [9, 10, 11, 53, 54, 55, 56, 57] rfl (by decide +kernel)
set_option maxRecDepth 20000 in
theorem gX1_read_X0_clear : GoodIn wsX1_read (wsV RX1 22 RX0 yX0_clear wsX0_clear) := goodIn_app (goodIn_of _ (by decide +kernel)) ggX1_read_X0_clear
set_option maxRecDepth 20000 in
theorem ggX1_read_X1_readItem : GoodIn wsX1_read wsX1_readItem := goodIn_r _ [16, 1, 2, 17, 18, 19, 20, 21, 22, 23, 24, 25, 26, 27, 28, 29, 30, 31, 32, 15, 33, 34, 35, 36, 37, 38, 39, 40, 41, 42, 43, 44, 8, 45, 10, 46, 47, 48, 11, 49, 50, 51, 52, 53, 54, 55, 56, 57] rfl (by decide +kernel)
set_option maxRecDepth 20000 in
theorem gX1_read_X1_readItem : GoodIn wsX1_read (wsV RX1 30 RX1 yX1_readItem wsX1_readItem) := goodIn_app (goodIn_of _ (by decide +kernel)) ggX1_read_X1_readItem
set_option maxRecDepth 20000 in
theorem ggX1_read_X1_pass : GoodIn wsX1_read wsX1_pass := goodIn_r _ [33, 1, 17, 18, 19, 20, 21, 22, 23, 49, 50, 51, 52] rfl (by decide +kernel)
set_option maxRecDepth 20000 in
theorem gX1_read_X1_pass : GoodIn wsX1_read (wsV RX1 35 RX1 yX1_pass wsX1_pass) := goodIn_app (goodIn_of _ (by decide +kernel)) ggX1_read_X1_pass
theorem dX1_read_0 : decode cX1_read 0 = .ok (.aload_n 0, 1) := by decide +kernel
theorem dX1_read_1 : decode cX1_read 1 = .ok (.iconst 0, 1) := by decide +kernel
theorem dX1_read_2 : decode cX1_read 2 = .ok (.putfield 18, 3) := by decide +kernel
theorem dX1_read_5 : decode cX1_read 5 = .ok (.aload_n 0, 1) := by decide +kernel
theorem dX1_read_6 : decode cX1_read 6 = .ok (.getfield 12, 3) := by decide +kernel
theorem dX1_read_9 : decode cX1_read 9 = .ok (.invokevirtual 22, 3) := by decide +kernel
theorem dX1_read_12 : decode cX1_read 12 = .ok (.aload_n 1, 1) := by decide +kernel
theorem dX1_read_13 : decode cX1_read 13 = .ok (.getfield 25, 3) := by decide +kernel
theorem dX1_read_16 : decode cX1_read 16 = .ok (.ifCond .ne 5, 3) := by decide +kernel
theorem dX1_read_19 : decode cX1_read 19 = .ok (.iconst 0, 1) := by decide +kernel
theorem dX1_read_20 : decode cX1_read 20 = .ok (.ireturn, 1) := by decide +kernel
theorem dX1_read_21 : decode cX1_read 21 = .ok (.iconst 0, 1) := by decide +kernel
theorem dX1_read_22 : decode cX1_read 22 = .ok (.istore_n 2, 1) := by decide +kernel
theorem dX1_read_23 : decode cX1_read 23 = .ok (.iload_n 2, 1) := by decide +kernel
theorem dX1_read_24 : decode cX1_read 24 = .ok (.bipush 10, 2) := by decide +kernel
theorem dX1_read_26 : decode cX1_read 26 = .ok (.if_icmp .ge 66, 3) := by decide +kernel
theorem dX1_read_29 : decode cX1_read 29 = .ok (.aload_n 0, 1) := by decide +kernel
theorem dX1_read_30 : decode cX1_read 30 = .ok (.aload_n 1, 1) := by decide +kernel
theorem dX1_read_31 : decode cX1_read 31 = .ok (.invokevirtual 30, 3) := by decide +kernel
theorem dX1_read_34 : decode cX1_read 34 = .ok (.ifCond .ne 10, 3) := by decide +kernel
theorem dX1_read_37 : decode cX1_read 37 = .ok (.iconst (-1), 1) := by decide +kernel
theorem dX1_read_38 : decode cX1_read 38 = .ok (.aload_n 0, 1) := by decide +kernel
theorem dX1_read_39 : decode cX1_read 39 = .ok (.getfield 18, 3) := by decide +kernel
theorem dX1_read_42 : decode cX1_read 42 = .ok (.isub, 1) := by decide +kernel
theorem dX1_read_43 : decode cX1_read 43 = .ok (.ireturn, 1) := by decide +kernel
theorem dX1_read_44 : decode cX1_read 44 = .ok (.aload_n 0, 1) := by decide +kernel
theorem dX1_read_45 : decode cX1_read 45 = .ok (.getfield 18, 3) := by decide +kernel
theorem dX1_read_48 : decode cX1_read 48 = .ok (.aload_n 1, 1) := by decide +kernel
theorem dX1_read_49 : decode cX1_read 49 = .ok (.getfield 25, 3) := by decide +kernel
theorem dX1_read_52 : decode cX1_read 52 = .ok (.if_icmp .ne 11, 3) := by decide +kernel
theorem dX1_read_55 : decode cX1_read 55 = .ok (.aload_n 0, 1) := by decide +kernel
theorem dX1_read_56 : decode cX1_read 56 = .ok (.getfield 12, 3) := by decide +kernel
theorem dX1_read_59 : decode cX1_read 59 = .ok (.getfield 34, 3) := by decide +kernel
theorem dX1_read_62 : decode cX1_read 62 = .ok (.ireturn, 1) := by decide +kernel
theorem dX1_read_63 : decode cX1_read 63 = .ok (.iload_n 2, 1) := by decide +kernel
theorem dX1_read_64 : decode cX1_read 64 = .ok (.bipush 9, 2) := by decide +kernel
theorem dX1_read_66 : decode cX1_read 66 = .ok (.if_icmp .eq 13, 3) := by decide +kernel
theorem dX1_read_69 : decode cX1_read 69 = .ok (.aload_n 0, 1) := by decide +kernel
theorem dX1_read_70 : decode cX1_read 70 = .ok (.aload_n 1, 1) := by decide +kernel
theorem dX1_read_71 : decode cX1_read 71 = .ok (.bipush 59, 2) := by decide +kernel
theorem dX1_read_73 : decode cX1_read 73 = .ok (.invokevirtual 35, 3) := by decide +kernel
theorem dX1_read_76 : decode cX1_read 76 = .ok (.ifCond .ne 10, 3) := by decide +kernel
theorem dX1_read_79 : decode cX1_read 79 = .ok (.iconst (-1), 1) := by decide +kernel
theorem dX1_read_80 : decode cX1_read 80 = .ok (.aload_n 0, 1) := by decide +kernel
theorem dX1_read_81 : decode cX1_read 81 = .ok (.getfield 18, 3) := by decide +kernel
theorem dX1_read_84 : decode cX1_read 84 = .ok (.isub, 1) := by decide +kernel
theorem dX1_read_85 : decode cX1_read 85 = .ok (.ireturn, 1) := by decide +kernel
theorem dX1_read_86 : decode cX1_read 86 = .ok (.iinc 2 1, 3) := by decide +kernel
theorem dX1_read_89 : decode cX1_read 89 = .ok (.goto (-66), 3) := by decide +kernel
theorem dX1_read_92 : decode cX1_read 92 = .ok (.iconst (-1), 1) := by decide +kernel
theorem dX1_read_93 : decode cX1_read 93 = .ok (.aload_n 0, 1) := by decide +kernel
theorem dX1_read_94 : decode cX1_read 94 = .ok (.getfield 18, 3) := by decide +kernel
theorem dX1_read_97 : decode cX1_read 97 = .ok (.isub, 1) := by decide +kernel
theorem dX1_read_98 : decode cX1_read 98 = .ok (.ireturn, 1) := by decide +kernel
set_option maxRecDepth 20000 in
theorem ggX1_readItem_X9_signAt : GoodIn wsX1_readItem wsX9_signAt := goodIn_r _ [7, 8, 9, 41, 42] rfl (by decide +kernel)
set_option maxRecDepth 20000 in
theorem gX1_readItem_X9_signAt : GoodIn wsX1_readItem (wsV RX1 39 RX9 yX9_signAt wsX9_signAt) := goodIn_app (goodIn_of _ (by decide +kernel)) ggX1_readItem_X9_signAt
set_option maxRecDepth 20000 in
theorem ggX1_readItem_X10_isKind : GoodIn wsX1_readItem wsX10_isKind := goodIn_r _ [12, 13, 14, 11, 15] rfl (by decide +kernel)
set_option maxRecDepth 20000 in
theorem gX1_readItem_X10_isKind_n43 : GoodIn wsX1_readItem (wsX10_isKind) := ggX1_readItem_X10_isKind
set_option maxRecDepth 20000 in
theorem ggX1_readItem_X1_pass : GoodIn wsX1_readItem wsX1_pass := goodIn_r _ [20, 1, 3, 4, 5, 6, 7, 8, 9, 39, 40, 41, 42] rfl (by decide +kernel)
set_option maxRecDepth 20000 in
theorem gX1_readItem_X1_pass : GoodIn wsX1_readItem (wsV RX1 35 RX1 yX1_pass wsX1_pass) := goodIn_app (goodIn_of _ (by decide +kernel)) ggX1_readItem_X1_pass
set_option maxRecDepth 20000 in
theorem ggX1_readItem_X1_readNumber : GoodIn wsX1_readItem wsX1_readNumber := goodIn_r _ [24, 1, 25, 26, 27, 19, 28, 3, 4, 5, 6, 7, 8, 9, 14, 11, 15, 39, 40, 41, 42] rfl (by decide +kernel)
set_option maxRecDepth 20000 in
theorem gX1_readItem_X1_readNumber : GoodIn wsX1_readItem (wsV RX1 47 RX1 yX1_readNumber wsX1_readNumber) := goodIn_app (goodIn_of _ (by decide +kernel)) ggX1_readItem_X1_readNumber
set_option maxRecDepth 20000 in
theorem ggX1_readItem_X0_add : GoodIn wsX1_readItem wsX0_add := goodIn_r _ [33, 34, 35, 36, 37, 38, 43, 44, 45, 46, 47] rfl (by decide +kernel)
set_option maxRecDepth 20000 in
theorem gX1_readItem_X0_add : GoodIn wsX1_readItem (wsV RX1 51 RX0 yX0_add wsX0_add) := goodIn_app (goodIn_of _ (by decide +kernel)) ggX1_readItem_X0_add
theorem dX1_readItem_0 : decode cX1_readItem 0 = .ok (.aload_n 1, 1) := by decide +kernel
theorem dX1_readItem_1 : decode cX1_readItem 1 = .ok (.aload_n 0, 1) := by decide +kernel
theorem dX1_readItem_2 : decode cX1_readItem 2 = .ok (.getfield 18, 3) := by decide +kernel
theorem dX1_readItem_5 : decode cX1_readItem 5 = .ok (.invokevirtual 39, 3) := by decide +kernel
theorem dX1_readItem_8 : decode cX1_readItem 8 = .ok (.bipush 48, 2) := by decide +kernel
theorem dX1_readItem_10 : decode cX1_readItem 10 = .ok (.isub, 1) := by decide +kernel
theorem dX1_readItem_11 : decode cX1_readItem 11 = .ok (.istore_n 2, 1) := by decide +kernel
theorem dX1_readItem_12 : decode cX1_readItem 12 = .ok (.iload_n 2, 1) := by decide +kernel
theorem dX1_readItem_13 : decode cX1_readItem 13 = .ok (.invokestatic 43, 3) := by decide +kernel
theorem dX1_readItem_16 : decode cX1_readItem 16 = .ok (.ifCond .ne 5, 3) := by decide +kernel
theorem dX1_readItem_19 : decode cX1_readItem 19 = .ok (.iconst 0, 1) := by decide +kernel
theorem dX1_readItem_20 : decode cX1_readItem 20 = .ok (.ireturn, 1) := by decide +kernel
theorem dX1_readItem_21 : decode cX1_readItem 21 = .ok (.aload_n 0, 1) := by decide +kernel
theorem dX1_readItem_22 : decode cX1_readItem 22 = .ok (.dup, 1) := by decide +kernel
theorem dX1_readItem_23 : decode cX1_readItem 23 = .ok (.getfield 18, 3) := by decide +kernel
theorem dX1_readItem_26 : decode cX1_readItem 26 = .ok (.iconst 1, 1) := by decide +kernel
theorem dX1_readItem_27 : decode cX1_readItem 27 = .ok (.iadd, 1) := by decide +kernel
theorem dX1_readItem_28 : decode cX1_readItem 28 = .ok (.putfield 18, 3) := by decide +kernel
theorem dX1_readItem_31 : decode cX1_readItem 31 = .ok (.aload_n 0, 1) := by decide +kernel
theorem dX1_readItem_32 : decode cX1_readItem 32 = .ok (.aload_n 1, 1) := by decide +kernel
theorem dX1_readItem_33 : decode cX1_readItem 33 = .ok (.bipush 58, 2) := by decide +kernel
theorem dX1_readItem_35 : decode cX1_readItem 35 = .ok (.invokevirtual 35, 3) := by decide +kernel
theorem dX1_readItem_38 : decode cX1_readItem 38 = .ok (.ifCond .ne 5, 3) := by decide +kernel
theorem dX1_readItem_41 : decode cX1_readItem 41 = .ok (.iconst 0, 1) := by decide +kernel
theorem dX1_readItem_42 : decode cX1_readItem 42 = .ok (.ireturn, 1) := by decide +kernel
theorem dX1_readItem_43 : decode cX1_readItem 43 = .ok (.aload_n 0, 1) := by decide +kernel
theorem dX1_readItem_44 : decode cX1_readItem 44 = .ok (.aload_n 1, 1) := by decide +kernel
theorem dX1_readItem_45 : decode cX1_readItem 45 = .ok (.invokevirtual 47, 3) := by decide +kernel
theorem dX1_readItem_48 : decode cX1_readItem 48 = .ok (.istore_n 3, 1) := by decide +kernel
theorem dX1_readItem_49 : decode cX1_readItem 49 = .ok (.iload_n 3, 1) := by decide +kernel
theorem dX1_readItem_50 : decode cX1_readItem 50 = .ok (.ifCond .eq 13, 3) := by decide +kernel
theorem dX1_readItem_53 : decode cX1_readItem 53 = .ok (.aload_n 0, 1) := by decide +kernel
theorem dX1_readItem_54 : decode cX1_readItem 54 = .ok (.aload_n 1, 1) := by decide +kernel
theorem dX1_readItem_55 : decode cX1_readItem 55 = .ok (.bipush 42, 2) := by decide +kernel
theorem dX1_readItem_57 : decode cX1_readItem 57 = .ok (.invokevirtual 35, 3) := by decide +kernel
theorem dX1_readItem_60 : decode cX1_readItem 60 = .ok (.ifCond .ne 5, 3) := by decide +kernel
theorem dX1_readItem_63 : decode cX1_readItem 63 = .ok (.iconst 0, 1) := by decide +kernel
theorem dX1_readItem_64 : decode cX1_readItem 64 = .ok (.ireturn, 1) := by decide +kernel
theorem dX1_readItem_65 : decode cX1_readItem 65 = .ok (.aload_n 0, 1) := by decide +kernel
theorem dX1_readItem_66 : decode cX1_readItem 66 = .ok (.aload_n 1, 1) := by decide +kernel
theorem dX1_readItem_67 : decode cX1_readItem 67 = .ok (.invokevirtual 47, 3) := by decide +kernel
theorem dX1_readItem_70 : decode cX1_readItem 70 = .ok (.istore 4, 2) := by decide +kernel
theorem dX1_readItem_72 : decode cX1_readItem 72 = .ok (.iload 4, 2) := by decide +kernel
theorem dX1_readItem_74 : decode cX1_readItem 74 = .ok (.ifCond .ne 5, 3) := by decide +kernel
theorem dX1_readItem_77 : decode cX1_readItem 77 = .ok (.iconst 0, 1) := by decide +kernel
theorem dX1_readItem_78 : decode cX1_readItem 78 = .ok (.ireturn, 1) := by decide +kernel
theorem dX1_readItem_79 : decode cX1_readItem 79 = .ok (.aload_n 0, 1) := by decide +kernel
theorem dX1_readItem_80 : decode cX1_readItem 80 = .ok (.getfield 12, 3) := by decide +kernel
theorem dX1_readItem_83 : decode cX1_readItem 83 = .ok (.iload_n 2, 1) := by decide +kernel
theorem dX1_readItem_84 : decode cX1_readItem 84 = .ok (.iload_n 3, 1) := by decide +kernel
theorem dX1_readItem_85 : decode cX1_readItem 85 = .ok (.iload 4, 2) := by decide +kernel
theorem dX1_readItem_87 : decode cX1_readItem 87 = .ok (.invokevirtual 51, 3) := by decide +kernel
theorem dX1_readItem_90 : decode cX1_readItem 90 = .ok (.iconst 1, 1) := by decide +kernel
theorem dX1_readItem_91 : decode cX1_readItem 91 = .ok (.ireturn, 1) := by decide +kernel
set_option maxRecDepth 20000 in
theorem ggX1_pass_X9_signAt : GoodIn wsX1_pass wsX9_signAt := goodIn_r _ [6, 7, 8, 11, 12] rfl (by decide +kernel)
set_option maxRecDepth 20000 in
theorem gX1_pass_X9_signAt : GoodIn wsX1_pass (wsV RX1 39 RX9 yX9_signAt wsX9_signAt) := goodIn_app (goodIn_of _ (by decide +kernel)) ggX1_pass_X9_signAt
theorem dX1_pass_0 : decode cX1_pass 0 = .ok (.aload_n 1, 1) := by decide +kernel
theorem dX1_pass_1 : decode cX1_pass 1 = .ok (.aload_n 0, 1) := by decide +kernel
theorem dX1_pass_2 : decode cX1_pass 2 = .ok (.getfield 18, 3) := by decide +kernel
theorem dX1_pass_5 : decode cX1_pass 5 = .ok (.invokevirtual 39, 3) := by decide +kernel
theorem dX1_pass_8 : decode cX1_pass 8 = .ok (.iload_n 2, 1) := by decide +kernel
theorem dX1_pass_9 : decode cX1_pass 9 = .ok (.if_icmp .eq 5, 3) := by decide +kernel
theorem dX1_pass_12 : decode cX1_pass 12 = .ok (.iconst 0, 1) := by decide +kernel
theorem dX1_pass_13 : decode cX1_pass 13 = .ok (.ireturn, 1) := by decide +kernel
theorem dX1_pass_14 : decode cX1_pass 14 = .ok (.aload_n 0, 1) := by decide +kernel
theorem dX1_pass_15 : decode cX1_pass 15 = .ok (.dup, 1) := by decide +kernel
theorem dX1_pass_16 : decode cX1_pass 16 = .ok (.getfield 18, 3) := by decide +kernel
theorem dX1_pass_19 : decode cX1_pass 19 = .ok (.iconst 1, 1) := by decide +kernel
theorem dX1_pass_20 : decode cX1_pass 20 = .ok (.iadd, 1) := by decide +kernel
theorem dX1_pass_21 : decode cX1_pass 21 = .ok (.putfield 18, 3) := by decide +kernel
theorem dX1_pass_24 : decode cX1_pass 24 = .ok (.iconst 1, 1) := by decide +kernel
theorem dX1_pass_25 : decode cX1_pass 25 = .ok (.ireturn, 1) := by decide +kernel
set_option maxRecDepth 20000 in
theorem ggX1_readNumber_X1_isDigit : GoodIn wsX1_readNumber wsX1_isDigit := goodIn_r _ [6, 1, 7, 8, 9, 10, 11, 12, 13, 14, 15, 16, 17, 18, 19, 20] rfl (by decide +kernel)
set_option maxRecDepth 20000 in
theorem gX1_readNumber_X1_isDigit : GoodIn wsX1_readNumber (wsV RX1 55 RX1 yX1_isDigit wsX1_isDigit) := goodIn_app (goodIn_of _ (by decide +kernel)) ggX1_readNumber_X1_isDigit
set_option maxRecDepth 20000 in
theorem ggX1_readNumber_X9_signAt : GoodIn wsX1_readNumber wsX9_signAt := goodIn_r _ [11, 12, 13, 19, 20] rfl (by decide +kernel)
set_option maxRecDepth 20000 in
theorem gX1_readNumber_X9_signAt : GoodIn wsX1_readNumber (wsV RX1 39 RX9 yX9_signAt wsX9_signAt) := goodIn_app (goodIn_of _ (by decide +kernel)) ggX1_readNumber_X9_signAt
theorem dX1_readNumber_0 : decode cX1_readNumber 0 = .ok (.iconst 0, 1) := by decide +kernel
theorem dX1_readNumber_1 : decode cX1_readNumber 1 = .ok (.istore_n 2, 1) := by decide +kernel
theorem dX1_readNumber_2 : decode cX1_readNumber 2 = .ok (.iconst 0, 1) := by decide +kernel
theorem dX1_readNumber_3 : decode cX1_readNumber 3 = .ok (.istore_n 3, 1) := by decide +kernel
theorem dX1_readNumber_4 : decode cX1_readNumber 4 = .ok (.iload_n 3, 1) := by decide +kernel
theorem dX1_readNumber_5 : decode cX1_readNumber 5 = .ok (.iconst 3, 1) := by decide +kernel
theorem dX1_readNumber_6 : decode cX1_readNumber 6 = .ok (.if_icmp .ge 44, 3) := by decide +kernel
theorem dX1_readNumber_9 : decode cX1_readNumber 9 = .ok (.aload_n 0, 1) := by decide +kernel
theorem dX1_readNumber_10 : decode cX1_readNumber 10 = .ok (.aload_n 1, 1) := by decide +kernel
theorem dX1_readNumber_11 : decode cX1_readNumber 11 = .ok (.invokevirtual 55, 3) := by decide +kernel
theorem dX1_readNumber_14 : decode cX1_readNumber 14 = .ok (.ifCond .eq 36, 3) := by decide +kernel
theorem dX1_readNumber_17 : decode cX1_readNumber 17 = .ok (.bipush 10, 2) := by decide +kernel
theorem dX1_readNumber_19 : decode cX1_readNumber 19 = .ok (.iload_n 2, 1) := by decide +kernel
theorem dX1_readNumber_20 : decode cX1_readNumber 20 = .ok (.imul, 1) := by decide +kernel
theorem dX1_readNumber_21 : decode cX1_readNumber 21 = .ok (.aload_n 1, 1) := by decide +kernel
theorem dX1_readNumber_22 : decode cX1_readNumber 22 = .ok (.aload_n 0, 1) := by decide +kernel
theorem dX1_readNumber_23 : decode cX1_readNumber 23 = .ok (.getfield 18, 3) := by decide +kernel
theorem dX1_readNumber_26 : decode cX1_readNumber 26 = .ok (.invokevirtual 39, 3) := by decide +kernel
theorem dX1_readNumber_29 : decode cX1_readNumber 29 = .ok (.iadd, 1) := by decide +kernel
theorem dX1_readNumber_30 : decode cX1_readNumber 30 = .ok (.bipush 48, 2) := by decide +kernel
theorem dX1_readNumber_32 : decode cX1_readNumber 32 = .ok (.isub, 1) := by decide +kernel
theorem dX1_readNumber_33 : decode cX1_readNumber 33 = .ok (.istore_n 2, 1) := by decide +kernel
theorem dX1_readNumber_34 : decode cX1_readNumber 34 = .ok (.iinc 3 1, 3) := by decide +kernel
theorem dX1_readNumber_37 : decode cX1_readNumber 37 = .ok (.aload_n 0, 1) := by decide +kernel
theorem dX1_readNumber_38 : decode cX1_readNumber 38 = .ok (.dup, 1) := by decide +kernel
theorem dX1_readNumber_39 : decode cX1_readNumber 39 = .ok (.getfield 18, 3) := by decide +kernel
theorem dX1_readNumber_42 : decode cX1_readNumber 42 = .ok (.iconst 1, 1) := by decide +kernel
theorem dX1_readNumber_43 : decode cX1_readNumber 43 = .ok (.iadd, 1) := by decide +kernel
theorem dX1_readNumber_44 : decode cX1_readNumber 44 = .ok (.putfield 18, 3) := by decide +kernel
theorem dX1_readNumber_47 : decode cX1_readNumber 47 = .ok (.goto (-43), 3) := by decide +kernel
theorem dX1_readNumber_50 : decode cX1_readNumber 50 = .ok (.iload_n 3, 1) := by decide +kernel
theorem dX1_readNumber_51 : decode cX1_readNumber 51 = .ok (.ifCond .le 25, 3) := by decide +kernel
theorem dX1_readNumber_54 : decode cX1_readNumber 54 = .ok (.iload_n 2, 1) := by decide +kernel
theorem dX1_readNumber_55 : decode cX1_readNumber 55 = .ok (.ifCond .ne 21, 3) := by decide +kernel
theorem dX1_readNumber_58 : decode cX1_readNumber 58 = .ok (.aload_n 0, 1) := by decide +kernel
theorem dX1_readNumber_59 : decode cX1_readNumber 59 = .ok (.aload_n 1, 1) := by decide +kernel
theorem dX1_readNumber_60 : decode cX1_readNumber 60 = .ok (.invokevirtual 55, 3) := by decide +kernel
theorem dX1_readNumber_63 : decode cX1_readNumber 63 = .ok (.ifCond .ne 13, 3) := by decide +kernel
theorem dX1_readNumber_66 : decode cX1_readNumber 66 = .ok (.aload_n 0, 1) := by decide +kernel
theorem dX1_readNumber_67 : decode cX1_readNumber 67 = .ok (.dup, 1) := by decide +kernel
theorem dX1_readNumber_68 : decode cX1_readNumber 68 = .ok (.getfield 18, 3) := by decide +kernel
theorem dX1_readNumber_71 : decode cX1_readNumber 71 = .ok (.iconst 1, 1) := by decide +kernel
theorem dX1_readNumber_72 : decode cX1_readNumber 72 = .ok (.isub, 1) := by decide +kernel
theorem dX1_readNumber_73 : decode cX1_readNumber 73 = .ok (.putfield 18, 3) := by decide +kernel
theorem dX1_readNumber_76 : decode cX1_readNumber 76 = .ok (.iload_n 2, 1) := by decide +kernel
theorem dX1_readNumber_77 : decode cX1_readNumber 77 = .ok (.ireturn, 1) := by decide +kernel
set_option maxRecDepth 20000 in
theorem ggX1_isDigit_X9_signAt : GoodIn wsX1_isDigit wsX9_signAt := goodIn_r _ [6, 7, 8, 14, 15] rfl (by decide +kernel)
set_option maxRecDepth 20000 in
theorem gX1_isDigit_X9_signAt : GoodIn wsX1_isDigit (wsV RX1 39 RX9 yX9_signAt wsX9_signAt) := goodIn_app (goodIn_of _ (by decide +kernel)) ggX1_isDigit_X9_signAt
set_option maxRecDepth 20000 in
theorem ggX1_isDigit_X10_isWithin : GoodIn wsX1_isDigit wsX10_isWithin := goodIn_r _ [11] rfl (by decide +kernel)
set_option maxRecDepth 20000 in
theorem gX1_isDigit_X10_isWithin_n58 : GoodIn wsX1_isDigit (wsX10_isWithin) := ggX1_isDigit_X10_isWithin
theorem dX1_isDigit_0 : decode cX1_isDigit 0 = .ok (.aload_n 1, 1) := by decide +kernel
theorem dX1_isDigit_1 : decode cX1_isDigit 1 = .ok (.aload_n 0, 1) := by decide +kernel
theorem dX1_isDigit_2 : decode cX1_isDigit 2 = .ok (.getfield 18, 3) := by decide +kernel
theorem dX1_isDigit_5 : decode cX1_isDigit 5 = .ok (.invokevirtual 39, 3) := by decide +kernel
theorem dX1_isDigit_8 : decode cX1_isDigit 8 = .ok (.bipush 48, 2) := by decide +kernel
theorem dX1_isDigit_10 : decode cX1_isDigit 10 = .ok (.bipush 57, 2) := by decide +kernel
theorem dX1_isDigit_12 : decode cX1_isDigit 12 = .ok (.invokestatic 58, 3) := by decide +kernel
theorem dX1_isDigit_15 : decode cX1_isDigit 15 = .ok (.ireturn, 1) := by decide +kernel
set_option maxRecDepth 20000 in
theorem ggX2_init_X0_init : GoodIn wsX2_init wsX0_init := goodIn_r _ [33, 34, 2, 3, 35, 36, 37, 38, 39, 40, 79, 80, 81, 82, 83] rfl (by decide +kernel)
set_option maxRecDepth 20000 in
theorem gX2_init_X0_init_n11 : GoodIn wsX2_init (wsX0_init) := ggX2_init_X0_init
set_option maxRecDepth 20000 in
theorem ggX2_init_X8_init : GoodIn wsX2_init wsX8_init := goodIn_r _ [43, 44, 2, 3, 35, 45, 46, 47, 48, 49, 50, 96] rfl (by decide +kernel)
set_option maxRecDepth 20000 in
theorem gX2_init_X8_init : GoodIn wsX2_init (wsX8_init) := ggX2_init_X8_init
set_option maxRecDepth 20000 in
theorem ggX2_init_X6_init : GoodIn wsX2_init wsX6_init := goodIn_r _ [53, 54, 2, 3, 35, 55, 56, 57, 58, 59, 60, 61, 97, 98, 99] rfl (by decide +kernel)
set_option maxRecDepth 20000 in
theorem gX2_init_X6_init : GoodIn wsX2_init (wsX6_init) := ggX2_init_X6_init
set_option maxRecDepth 20000 in
theorem ggX2_init_X3_init : GoodIn wsX2_init wsX3_init := goodIn_r _ [63, 64, 2, 3, 35, 65, 66, 67, 68, 69, 100, 101, 102, 103, 104] rfl (by decide +kernel)
set_option maxRecDepth 20000 in
theorem gX2_init_X3_init_n43 : GoodIn wsX2_init (wsX3_init) := ggX2_init_X3_init
set_option maxRecDepth 20000 in
theorem ggX2_init_X7_init : GoodIn wsX2_init wsX7_init := goodIn_r _ [71, 72, 2, 3, 35, 73, 74, 75, 76, 77, 78, 105, 106, 107, 108, 109, 110] rfl (by decide +kernel)
set_option maxRecDepth 20000 in
theorem gX2_init_X7_init_n50 : GoodIn wsX2_init (wsX7_init) := ggX2_init_X7_init
theorem dX2_init_0 : decode cX2_init 0 = .ok (.aload_n 0, 1) := by decide +kernel
theorem dX2_init_1 : decode cX2_init 1 = .ok (.invokespecial 3, 3) := by decide +kernel
theorem dX2_init_4 : decode cX2_init 4 = .ok (.aload_n 0, 1) := by decide +kernel
theorem dX2_init_5 : decode cX2_init 5 = .ok (.new 9, 3) := by decide +kernel
theorem dX2_init_8 : decode cX2_init 8 = .ok (.dup, 1) := by decide +kernel
theorem dX2_init_9 : decode cX2_init 9 = .ok (.invokespecial 11, 3) := by decide +kernel
theorem dX2_init_12 : decode cX2_init 12 = .ok (.putfield 12, 3) := by decide +kernel
theorem dX2_init_15 : decode cX2_init 15 = .ok (.aload_n 0, 1) := by decide +kernel
theorem dX2_init_16 : decode cX2_init 16 = .ok (.new 18, 3) := by decide +kernel
theorem dX2_init_19 : decode cX2_init 19 = .ok (.dup, 1) := by decide +kernel
theorem dX2_init_20 : decode cX2_init 20 = .ok (.invokespecial 20, 3) := by decide +kernel
theorem dX2_init_23 : decode cX2_init 23 = .ok (.putfield 21, 3) := by decide +kernel
theorem dX2_init_26 : decode cX2_init 26 = .ok (.aload_n 0, 1) := by decide +kernel
theorem dX2_init_27 : decode cX2_init 27 = .ok (.bipush 10, 2) := by decide +kernel
theorem dX2_init_29 : decode cX2_init 29 = .ok (.anewarray 25, 3) := by decide +kernel
theorem dX2_init_32 : decode cX2_init 32 = .ok (.putfield 27, 3) := by decide +kernel
theorem dX2_init_35 : decode cX2_init 35 = .ok (.aload_n 0, 1) := by decide +kernel
theorem dX2_init_36 : decode cX2_init 36 = .ok (.new 25, 3) := by decide +kernel
theorem dX2_init_39 : decode cX2_init 39 = .ok (.dup, 1) := by decide +kernel
theorem dX2_init_40 : decode cX2_init 40 = .ok (.iconst 0, 1) := by decide +kernel
theorem dX2_init_41 : decode cX2_init 41 = .ok (.invokespecial 31, 3) := by decide +kernel
theorem dX2_init_44 : decode cX2_init 44 = .ok (.putfield 34, 3) := by decide +kernel
theorem dX2_init_47 : decode cX2_init 47 = .ok (.aload_n 0, 1) := by decide +kernel
theorem dX2_init_48 : decode cX2_init 48 = .ok (.new 25, 3) := by decide +kernel
theorem dX2_init_51 : decode cX2_init 51 = .ok (.dup, 1) := by decide +kernel
theorem dX2_init_52 : decode cX2_init 52 = .ok (.sipush 1000, 3) := by decide +kernel
theorem dX2_init_55 : decode cX2_init 55 = .ok (.invokespecial 31, 3) := by decide +kernel
theorem dX2_init_58 : decode cX2_init 58 = .ok (.putfield 38, 3) := by decide +kernel
theorem dX2_init_61 : decode cX2_init 61 = .ok (.aload_n 0, 1) := by decide +kernel
theorem dX2_init_62 : decode cX2_init 62 = .ok (.new 41, 3) := by decide +kernel
theorem dX2_init_65 : decode cX2_init 65 = .ok (.dup, 1) := by decide +kernel
theorem dX2_init_66 : decode cX2_init 66 = .ok (.invokespecial 43, 3) := by decide +kernel
theorem dX2_init_69 : decode cX2_init 69 = .ok (.putfield 44, 3) := by decide +kernel
theorem dX2_init_72 : decode cX2_init 72 = .ok (.aload_n 0, 1) := by decide +kernel
theorem dX2_init_73 : decode cX2_init 73 = .ok (.new 48, 3) := by decide +kernel
theorem dX2_init_76 : decode cX2_init 76 = .ok (.dup, 1) := by decide +kernel
theorem dX2_init_77 : decode cX2_init 77 = .ok (.invokespecial 50, 3) := by decide +kernel
theorem dX2_init_80 : decode cX2_init 80 = .ok (.putfield 51, 3) := by decide +kernel
theorem dX2_init_83 : decode cX2_init 83 = .ok (.aload_n 0, 1) := by decide +kernel
theorem dX2_init_84 : decode cX2_init 84 = .ok (.bipush 24, 2) := by decide +kernel
theorem dX2_init_86 : decode cX2_init 86 = .ok (.newarray .long, 2) := by decide +kernel
theorem dX2_init_88 : decode cX2_init 88 = .ok (.putfield 55, 3) := by decide +kernel
theorem dX2_init_91 : decode cX2_init 91 = .ok (.aload_n 0, 1) := by decide +kernel
theorem dX2_init_92 : decode cX2_init 92 = .ok (.bipush 24, 2) := by decide +kernel
theorem dX2_init_94 : decode cX2_init 94 = .ok (.putfield 59, 3) := by decide +kernel
theorem dX2_init_97 : decode cX2_init 97 = .ok (.aload_n 0, 1) := by decide +kernel
theorem dX2_init_98 : decode cX2_init 98 = .ok (.bipush 24, 2) := by decide +kernel
theorem dX2_init_100 : decode cX2_init 100 = .ok (.putfield 63, 3) := by decide +kernel
theorem dX2_init_103 : decode cX2_init 103 = .ok (.aload_n 0, 1) := by decide +kernel
theorem dX2_init_104 : decode cX2_init 104 = .ok (.bipush 24, 2) := by decide +kernel
theorem dX2_init_106 : decode cX2_init 106 = .ok (.putfield 66, 3) := by decide +kernel
theorem dX2_init_109 : decode cX2_init 109 = .ok (.aload_n 0, 1) := by decide +kernel
theorem dX2_init_110 : decode cX2_init 110 = .ok (.iconst 0, 1) := by decide +kernel
theorem dX2_init_111 : decode cX2_init 111 = .ok (.putfield 69, 3) := by decide +kernel
theorem dX2_init_114 : decode cX2_init 114 = .ok (.iconst 0, 1) := by decide +kernel
theorem dX2_init_115 : decode cX2_init 115 = .ok (.istore_n 1, 1) := by decide +kernel
theorem dX2_init_116 : decode cX2_init 116 = .ok (.iload_n 1, 1) := by decide +kernel
theorem dX2_init_117 : decode cX2_init 117 = .ok (.bipush 10, 2) := by decide +kernel
theorem dX2_init_119 : decode cX2_init 119 = .ok (.if_icmp .ge 23, 3) := by decide +kernel
theorem dX2_init_122 : decode cX2_init 122 = .ok (.aload_n 0, 1) := by decide +kernel
theorem dX2_init_123 : decode cX2_init 123 = .ok (.getfield 27, 3) := by decide +kernel
theorem dX2_init_126 : decode cX2_init 126 = .ok (.iload_n 1, 1) := by decide +kernel
theorem dX2_init_127 : decode cX2_init 127 = .ok (.new 25, 3) := by decide +kernel
theorem dX2_init_130 : decode cX2_init 130 = .ok (.dup, 1) := by decide +kernel
theorem dX2_init_131 : decode cX2_init 131 = .ok (.iconst 0, 1) := by decide +kernel
theorem dX2_init_132 : decode cX2_init 132 = .ok (.invokespecial 31, 3) := by decide +kernel
theorem dX2_init_135 : decode cX2_init 135 = .ok (.aastore, 1) := by decide +kernel
theorem dX2_init_136 : decode cX2_init 136 = .ok (.iinc 1 1, 3) := by decide +kernel
theorem dX2_init_139 : decode cX2_init 139 = .ok (.goto (-23), 3) := by decide +kernel
theorem dX2_init_142 : decode cX2_init 142 = .ok (.return_, 1) := by decide +kernel
set_option maxRecDepth 20000 in
theorem ggX2_startWith_X0_take : GoodIn wsX2_startWith wsX0_take := goodIn_r _ [18, 19, 20, 21, 22, 23, 24, 25, 17, 26, 27, 28, 29, 30, 31, 70, 71, 72, 73, 74] rfl (by decide +kernel)
set_option maxRecDepth 20000 in
theorem gX2_startWith_X0_take : GoodIn wsX2_startWith (wsV RX2 72 RX0 yX0_take wsX0_take) := goodIn_app (goodIn_of _ (by decide +kernel)) ggX2_startWith_X0_take
set_option maxRecDepth 20000 in
theorem ggX2_startWith_X6_clear : GoodIn wsX2_startWith wsX6_clear := goodIn_r _ [36, 37, 38, 39, 40, 41, 42, 43, 75, 76, 77] rfl (by decide +kernel)
set_option maxRecDepth 20000 in
theorem gX2_startWith_X6_clear : GoodIn wsX2_startWith (wsV RX2 76 RX6 yX6_clear wsX6_clear) := goodIn_app (goodIn_of _ (by decide +kernel)) ggX2_startWith_X6_clear
set_option maxRecDepth 20000 in
theorem ggX2_startWith_J7_fill_d0a16 : GoodIn wsX2_startWith wsJ7_fill_d0a16 := goodIn_r _ [46] rfl (by decide +kernel)
set_option maxRecDepth 20000 in
theorem gX2_startWith_J7_fill_d0a16 : GoodIn wsX2_startWith (va_wsS RX2 83 yJ7_fill_d0a16 wsJ7_fill_d0a16) := goodIn_app (goodIn_of _ (by decide +kernel)) ggX2_startWith_J7_fill_d0a16
theorem dX2_startWith_0 : decode cX2_startWith 0 = .ok (.aload_n 0, 1) := by decide +kernel
theorem dX2_startWith_1 : decode cX2_startWith 1 = .ok (.getfield 12, 3) := by decide +kernel
theorem dX2_startWith_4 : decode cX2_startWith 4 = .ok (.aload_n 1, 1) := by decide +kernel
theorem dX2_startWith_5 : decode cX2_startWith 5 = .ok (.invokevirtual 72, 3) := by decide +kernel
theorem dX2_startWith_8 : decode cX2_startWith 8 = .ok (.iconst 0, 1) := by decide +kernel
theorem dX2_startWith_9 : decode cX2_startWith 9 = .ok (.istore_n 2, 1) := by decide +kernel
theorem dX2_startWith_10 : decode cX2_startWith 10 = .ok (.iload_n 2, 1) := by decide +kernel
theorem dX2_startWith_11 : decode cX2_startWith 11 = .ok (.bipush 10, 2) := by decide +kernel
theorem dX2_startWith_13 : decode cX2_startWith 13 = .ok (.if_icmp .ge 18, 3) := by decide +kernel
theorem dX2_startWith_16 : decode cX2_startWith 16 = .ok (.aload_n 0, 1) := by decide +kernel
theorem dX2_startWith_17 : decode cX2_startWith 17 = .ok (.getfield 27, 3) := by decide +kernel
theorem dX2_startWith_20 : decode cX2_startWith 20 = .ok (.iload_n 2, 1) := by decide +kernel
theorem dX2_startWith_21 : decode cX2_startWith 21 = .ok (.aaload, 1) := by decide +kernel
theorem dX2_startWith_22 : decode cX2_startWith 22 = .ok (.invokevirtual 76, 3) := by decide +kernel
theorem dX2_startWith_25 : decode cX2_startWith 25 = .ok (.iinc 2 1, 3) := by decide +kernel
theorem dX2_startWith_28 : decode cX2_startWith 28 = .ok (.goto (-18), 3) := by decide +kernel
theorem dX2_startWith_31 : decode cX2_startWith 31 = .ok (.aload_n 0, 1) := by decide +kernel
theorem dX2_startWith_32 : decode cX2_startWith 32 = .ok (.getfield 34, 3) := by decide +kernel
theorem dX2_startWith_35 : decode cX2_startWith 35 = .ok (.invokevirtual 76, 3) := by decide +kernel
theorem dX2_startWith_38 : decode cX2_startWith 38 = .ok (.aload_n 0, 1) := by decide +kernel
theorem dX2_startWith_39 : decode cX2_startWith 39 = .ok (.getfield 38, 3) := by decide +kernel
theorem dX2_startWith_42 : decode cX2_startWith 42 = .ok (.invokevirtual 76, 3) := by decide +kernel
theorem dX2_startWith_45 : decode cX2_startWith 45 = .ok (.aload_n 0, 1) := by decide +kernel
theorem dX2_startWith_46 : decode cX2_startWith 46 = .ok (.getfield 44, 3) := by decide +kernel
theorem dX2_startWith_49 : decode cX2_startWith 49 = .ok (.iconst 0, 1) := by decide +kernel
theorem dX2_startWith_50 : decode cX2_startWith 50 = .ok (.putfield 79, 3) := by decide +kernel
theorem dX2_startWith_53 : decode cX2_startWith 53 = .ok (.aload_n 0, 1) := by decide +kernel
theorem dX2_startWith_54 : decode cX2_startWith 54 = .ok (.getfield 51, 3) := by decide +kernel
theorem dX2_startWith_57 : decode cX2_startWith 57 = .ok (.iconst 0, 1) := by decide +kernel
theorem dX2_startWith_58 : decode cX2_startWith 58 = .ok (.putfield 82, 3) := by decide +kernel
theorem dX2_startWith_61 : decode cX2_startWith 61 = .ok (.aload_n 0, 1) := by decide +kernel
theorem dX2_startWith_62 : decode cX2_startWith 62 = .ok (.getfield 55, 3) := by decide +kernel
theorem dX2_startWith_65 : decode cX2_startWith 65 = .ok (.lconst 0, 1) := by decide +kernel
theorem dX2_startWith_66 : decode cX2_startWith 66 = .ok (.invokestatic 83, 3) := by decide +kernel
theorem dX2_startWith_69 : decode cX2_startWith 69 = .ok (.aload_n 0, 1) := by decide +kernel
theorem dX2_startWith_70 : decode cX2_startWith 70 = .ok (.bipush 24, 2) := by decide +kernel
theorem dX2_startWith_72 : decode cX2_startWith 72 = .ok (.putfield 59, 3) := by decide +kernel
theorem dX2_startWith_75 : decode cX2_startWith 75 = .ok (.aload_n 0, 1) := by decide +kernel
theorem dX2_startWith_76 : decode cX2_startWith 76 = .ok (.bipush 24, 2) := by decide +kernel
theorem dX2_startWith_78 : decode cX2_startWith 78 = .ok (.putfield 63, 3) := by decide +kernel
theorem dX2_startWith_81 : decode cX2_startWith 81 = .ok (.aload_n 0, 1) := by decide +kernel
theorem dX2_startWith_82 : decode cX2_startWith 82 = .ok (.bipush 24, 2) := by decide +kernel
theorem dX2_startWith_84 : decode cX2_startWith 84 = .ok (.putfield 66, 3) := by decide +kernel
theorem dX2_startWith_87 : decode cX2_startWith 87 = .ok (.aload_n 0, 1) := by decide +kernel
theorem dX2_startWith_88 : decode cX2_startWith 88 = .ok (.iconst 0, 1) := by decide +kernel
theorem dX2_startWith_89 : decode cX2_startWith 89 = .ok (.putfield 69, 3) := by decide +kernel
theorem dX2_startWith_92 : decode cX2_startWith 92 = .ok (.return_, 1) := by decide +kernel
set_option maxRecDepth 20000 in
theorem ggX2_measuredMonths_X2_isMeasured : GoodIn wsX2_measuredMonths wsX2_isMeasured := goodIn_r _ [5, 6, 7, 8, 9, 10, 11, 12, 13, 14, 15, 16, 17, 18, 19, 20, 21, 22, 23, 24, 25, 26, 27, 28, 29, 30, 31, 32, 33, 34] rfl (by decide +kernel)
set_option maxRecDepth 20000 in
theorem gX2_measuredMonths_X2_isMeasured : GoodIn wsX2_measuredMonths (wsV RX2 89 RX2 yX2_isMeasured wsX2_isMeasured) := goodIn_app (goodIn_of _ (by decide +kernel)) ggX2_measuredMonths_X2_isMeasured
theorem dX2_measuredMonths_0 : decode cX2_measuredMonths 0 = .ok (.iconst 0, 1) := by decide +kernel
theorem dX2_measuredMonths_1 : decode cX2_measuredMonths 1 = .ok (.istore_n 1, 1) := by decide +kernel
theorem dX2_measuredMonths_2 : decode cX2_measuredMonths 2 = .ok (.iconst 0, 1) := by decide +kernel
theorem dX2_measuredMonths_3 : decode cX2_measuredMonths 3 = .ok (.istore_n 2, 1) := by decide +kernel
theorem dX2_measuredMonths_4 : decode cX2_measuredMonths 4 = .ok (.iload_n 2, 1) := by decide +kernel
theorem dX2_measuredMonths_5 : decode cX2_measuredMonths 5 = .ok (.bipush 24, 2) := by decide +kernel
theorem dX2_measuredMonths_7 : decode cX2_measuredMonths 7 = .ok (.if_icmp .ge 25, 3) := by decide +kernel
theorem dX2_measuredMonths_10 : decode cX2_measuredMonths 10 = .ok (.iload_n 1, 1) := by decide +kernel
theorem dX2_measuredMonths_11 : decode cX2_measuredMonths 11 = .ok (.aload_n 0, 1) := by decide +kernel
theorem dX2_measuredMonths_12 : decode cX2_measuredMonths 12 = .ok (.iload_n 2, 1) := by decide +kernel
theorem dX2_measuredMonths_13 : decode cX2_measuredMonths 13 = .ok (.invokevirtual 89, 3) := by decide +kernel
theorem dX2_measuredMonths_16 : decode cX2_measuredMonths 16 = .ok (.ifCond .eq 7, 3) := by decide +kernel
theorem dX2_measuredMonths_19 : decode cX2_measuredMonths 19 = .ok (.iconst 1, 1) := by decide +kernel
theorem dX2_measuredMonths_20 : decode cX2_measuredMonths 20 = .ok (.goto 4, 3) := by decide +kernel
theorem dX2_measuredMonths_23 : decode cX2_measuredMonths 23 = .ok (.iconst 0, 1) := by decide +kernel
theorem dX2_measuredMonths_24 : decode cX2_measuredMonths 24 = .ok (.iadd, 1) := by decide +kernel
theorem dX2_measuredMonths_25 : decode cX2_measuredMonths 25 = .ok (.istore_n 1, 1) := by decide +kernel
theorem dX2_measuredMonths_26 : decode cX2_measuredMonths 26 = .ok (.iinc 2 1, 3) := by decide +kernel
theorem dX2_measuredMonths_29 : decode cX2_measuredMonths 29 = .ok (.goto (-25), 3) := by decide +kernel
theorem dX2_measuredMonths_32 : decode cX2_measuredMonths 32 = .ok (.iload_n 1, 1) := by decide +kernel
theorem dX2_measuredMonths_33 : decode cX2_measuredMonths 33 = .ok (.ireturn, 1) := by decide +kernel
set_option maxRecDepth 20000 in
theorem ggX2_isMeasured_X6_isTold : GoodIn wsX2_isMeasured wsX6_isTold := goodIn_r _ [8, 9, 27, 28, 29] rfl (by decide +kernel)
set_option maxRecDepth 20000 in
theorem gX2_isMeasured_X6_isTold : GoodIn wsX2_isMeasured (wsV RX2 94 RX6 yX6_isTold wsX6_isTold) := goodIn_app (goodIn_of _ (by decide +kernel)) ggX2_isMeasured_X6_isTold
theorem dX2_isMeasured_0 : decode cX2_isMeasured 0 = .ok (.iconst 0, 1) := by decide +kernel
theorem dX2_isMeasured_1 : decode cX2_isMeasured 1 = .ok (.istore_n 2, 1) := by decide +kernel
theorem dX2_isMeasured_2 : decode cX2_isMeasured 2 = .ok (.iload_n 2, 1) := by decide +kernel
theorem dX2_isMeasured_3 : decode cX2_isMeasured 3 = .ok (.aload_n 0, 1) := by decide +kernel
theorem dX2_isMeasured_4 : decode cX2_isMeasured 4 = .ok (.getfield 12, 3) := by decide +kernel
theorem dX2_isMeasured_7 : decode cX2_isMeasured 7 = .ok (.getfield 93, 3) := by decide +kernel
theorem dX2_isMeasured_10 : decode cX2_isMeasured 10 = .ok (.if_icmp .ge 24, 3) := by decide +kernel
theorem dX2_isMeasured_13 : decode cX2_isMeasured 13 = .ok (.aload_n 0, 1) := by decide +kernel
theorem dX2_isMeasured_14 : decode cX2_isMeasured 14 = .ok (.getfield 27, 3) := by decide +kernel
theorem dX2_isMeasured_17 : decode cX2_isMeasured 17 = .ok (.iload_n 2, 1) := by decide +kernel
theorem dX2_isMeasured_18 : decode cX2_isMeasured 18 = .ok (.aaload, 1) := by decide +kernel
theorem dX2_isMeasured_19 : decode cX2_isMeasured 19 = .ok (.iload_n 1, 1) := by decide +kernel
theorem dX2_isMeasured_20 : decode cX2_isMeasured 20 = .ok (.invokevirtual 94, 3) := by decide +kernel
theorem dX2_isMeasured_23 : decode cX2_isMeasured 23 = .ok (.ifCond .eq 5, 3) := by decide +kernel
theorem dX2_isMeasured_26 : decode cX2_isMeasured 26 = .ok (.iconst 1, 1) := by decide +kernel
theorem dX2_isMeasured_27 : decode cX2_isMeasured 27 = .ok (.ireturn, 1) := by decide +kernel
theorem dX2_isMeasured_28 : decode cX2_isMeasured 28 = .ok (.iinc 2 1, 3) := by decide +kernel
theorem dX2_isMeasured_31 : decode cX2_isMeasured 31 = .ok (.goto (-29), 3) := by decide +kernel
theorem dX2_isMeasured_34 : decode cX2_isMeasured 34 = .ok (.iconst 0, 1) := by decide +kernel
theorem dX2_isMeasured_35 : decode cX2_isMeasured 35 = .ok (.ireturn, 1) := by decide +kernel
set_option maxRecDepth 20000 in
theorem ggX2_advanced_X8_of : GoodIn wsX2_advanced wsX8_of := goodIn_r _ [8, 9, 31] rfl (by decide +kernel)
set_option maxRecDepth 20000 in
theorem gX2_advanced_X8_of : GoodIn wsX2_advanced (wsV RX2 97 RX8 yX8_of wsX8_of) := goodIn_app (goodIn_of _ (by decide +kernel)) ggX2_advanced_X8_of
set_option maxRecDepth 20000 in
theorem ggX2_advanced_X10_thousandths : GoodIn wsX2_advanced wsX10_thousandths := goodIn_r _ [12, 13] rfl (by decide +kernel)
set_option maxRecDepth 20000 in
theorem gX2_advanced_X10_thousandths_n104 : GoodIn wsX2_advanced (wsX10_thousandths) := ggX2_advanced_X10_thousandths
theorem dX2_advanced_0 : decode cX2_advanced 0 = .ok (.aload_n 0, 1) := by decide +kernel
theorem dX2_advanced_1 : decode cX2_advanced 1 = .ok (.getfield 21, 3) := by decide +kernel
theorem dX2_advanced_4 : decode cX2_advanced 4 = .ok (.iconst 3, 1) := by decide +kernel
theorem dX2_advanced_5 : decode cX2_advanced 5 = .ok (.invokevirtual 97, 3) := by decide +kernel
theorem dX2_advanced_8 : decode cX2_advanced 8 = .ok (.aload_n 0, 1) := by decide +kernel
theorem dX2_advanced_9 : decode cX2_advanced 9 = .ok (.getfield 12, 3) := by decide +kernel
theorem dX2_advanced_12 : decode cX2_advanced 12 = .ok (.getfield 101, 3) := by decide +kernel
theorem dX2_advanced_15 : decode cX2_advanced 15 = .ok (.i2l, 1) := by decide +kernel
theorem dX2_advanced_16 : decode cX2_advanced 16 = .ok (.invokestatic 104, 3) := by decide +kernel
theorem dX2_advanced_19 : decode cX2_advanced 19 = .ok (.lreturn, 1) := by decide +kernel
set_option maxRecDepth 20000 in
theorem ggX2_limit_X8_of : GoodIn wsX2_limit wsX8_of := goodIn_r _ [8, 9, 31] rfl (by decide +kernel)
set_option maxRecDepth 20000 in
theorem gX2_limit_X8_of : GoodIn wsX2_limit (wsV RX2 97 RX8 yX8_of wsX8_of) := goodIn_app (goodIn_of _ (by decide +kernel)) ggX2_limit_X8_of
set_option maxRecDepth 20000 in
theorem ggX2_limit_X10_thousandths : GoodIn wsX2_limit wsX10_thousandths := goodIn_r _ [12, 13] rfl (by decide +kernel)
set_option maxRecDepth 20000 in
theorem gX2_limit_X10_thousandths_n104 : GoodIn wsX2_limit (wsX10_thousandths) := ggX2_limit_X10_thousandths
theorem dX2_limit_0 : decode cX2_limit 0 = .ok (.aload_n 0, 1) := by decide +kernel
theorem dX2_limit_1 : decode cX2_limit 1 = .ok (.getfield 21, 3) := by decide +kernel
theorem dX2_limit_4 : decode cX2_limit 4 = .ok (.iconst 1, 1) := by decide +kernel
theorem dX2_limit_5 : decode cX2_limit 5 = .ok (.invokevirtual 97, 3) := by decide +kernel
theorem dX2_limit_8 : decode cX2_limit 8 = .ok (.aload_n 0, 1) := by decide +kernel
theorem dX2_limit_9 : decode cX2_limit 9 = .ok (.getfield 12, 3) := by decide +kernel
theorem dX2_limit_12 : decode cX2_limit 12 = .ok (.getfield 101, 3) := by decide +kernel
theorem dX2_limit_15 : decode cX2_limit 15 = .ok (.i2l, 1) := by decide +kernel
theorem dX2_limit_16 : decode cX2_limit 16 = .ok (.invokestatic 104, 3) := by decide +kernel
theorem dX2_limit_19 : decode cX2_limit 19 = .ok (.lreturn, 1) := by decide +kernel
set_option maxRecDepth 20000 in
theorem ggX2_done_X6_latest : GoodIn wsX2_done wsX6_latest := goodIn_r _ [6, 7, 20, 21, 22] rfl (by decide +kernel)
set_option maxRecDepth 20000 in
theorem gX2_done_X6_latest : GoodIn wsX2_done (wsV RX2 108 RX6 yX6_latest wsX6_latest) := goodIn_app (goodIn_of _ (by decide +kernel)) ggX2_done_X6_latest
theorem dX2_done_0 : decode cX2_done 0 = .ok (.aload_n 0, 1) := by decide +kernel
theorem dX2_done_1 : decode cX2_done 1 = .ok (.getfield 27, 3) := by decide +kernel
theorem dX2_done_4 : decode cX2_done 4 = .ok (.iload_n 1, 1) := by decide +kernel
theorem dX2_done_5 : decode cX2_done 5 = .ok (.aaload, 1) := by decide +kernel
theorem dX2_done_6 : decode cX2_done 6 = .ok (.iload_n 2, 1) := by decide +kernel
theorem dX2_done_7 : decode cX2_done 7 = .ok (.invokevirtual 108, 3) := by decide +kernel
theorem dX2_done_10 : decode cX2_done 10 = .ok (.ireturn, 1) := by decide +kernel
set_option maxRecDepth 20000 in
theorem ggX2_cap_X8_of : GoodIn wsX2_cap wsX8_of := goodIn_r _ [8, 9, 31] rfl (by decide +kernel)
set_option maxRecDepth 20000 in
theorem gX2_cap_X8_of : GoodIn wsX2_cap (wsV RX2 97 RX8 yX8_of wsX8_of) := goodIn_app (goodIn_of _ (by decide +kernel)) ggX2_cap_X8_of
set_option maxRecDepth 20000 in
theorem ggX2_cap_X10_thousandths : GoodIn wsX2_cap wsX10_thousandths := goodIn_r _ [12, 13] rfl (by decide +kernel)
set_option maxRecDepth 20000 in
theorem gX2_cap_X10_thousandths_n104 : GoodIn wsX2_cap (wsX10_thousandths) := ggX2_cap_X10_thousandths
theorem dX2_cap_0 : decode cX2_cap 0 = .ok (.aload_n 0, 1) := by decide +kernel
theorem dX2_cap_1 : decode cX2_cap 1 = .ok (.getfield 12, 3) := by decide +kernel
theorem dX2_cap_4 : decode cX2_cap 4 = .ok (.getfield 111, 3) := by decide +kernel
theorem dX2_cap_7 : decode cX2_cap 7 = .ok (.iload_n 1, 1) := by decide +kernel
theorem dX2_cap_8 : decode cX2_cap 8 = .ok (.iaload, 1) := by decide +kernel
theorem dX2_cap_9 : decode cX2_cap 9 = .ok (.istore_n 2, 1) := by decide +kernel
theorem dX2_cap_10 : decode cX2_cap 10 = .ok (.iload_n 2, 1) := by decide +kernel
theorem dX2_cap_11 : decode cX2_cap 11 = .ok (.i2l, 1) := by decide +kernel
theorem dX2_cap_12 : decode cX2_cap 12 = .ok (.aload_n 0, 1) := by decide +kernel
theorem dX2_cap_13 : decode cX2_cap 13 = .ok (.getfield 21, 3) := by decide +kernel
theorem dX2_cap_16 : decode cX2_cap 16 = .ok (.bipush 9, 2) := by decide +kernel
theorem dX2_cap_18 : decode cX2_cap 18 = .ok (.invokevirtual 97, 3) := by decide +kernel
theorem dX2_cap_21 : decode cX2_cap 21 = .ok (.iload_n 2, 1) := by decide +kernel
theorem dX2_cap_22 : decode cX2_cap 22 = .ok (.i2l, 1) := by decide +kernel
theorem dX2_cap_23 : decode cX2_cap 23 = .ok (.invokestatic 104, 3) := by decide +kernel
theorem dX2_cap_26 : decode cX2_cap 26 = .ok (.ladd, 1) := by decide +kernel
theorem dX2_cap_27 : decode cX2_cap 27 = .ok (.lreturn, 1) := by decide +kernel
set_option maxRecDepth 20000 in
theorem ggX2_isAboveCap_X2_done : GoodIn wsX2_isAboveCap wsX2_done := goodIn_r _ [5, 6, 7, 8, 9, 10, 11, 12, 30, 31, 32, 33, 34, 35, 36, 37, 38, 39, 40, 41, 42, 43, 44] rfl (by decide +kernel)
set_option maxRecDepth 20000 in
theorem gX2_isAboveCap_X2_done : GoodIn wsX2_isAboveCap (wsV RX2 115 RX2 yX2_done wsX2_done) := goodIn_app (goodIn_of _ (by decide +kernel)) ggX2_isAboveCap_X2_done
set_option maxRecDepth 20000 in
theorem ggX2_isAboveCap_X2_cap : GoodIn wsX2_isAboveCap wsX2_cap := goodIn_r _ [16, 17, 18, 19, 20, 21, 22, 23, 24, 25, 26, 27, 28, 29, 30, 31, 32, 33, 34, 35, 36, 37, 38, 39, 40, 41, 45, 46, 47, 48, 49, 50] rfl (by decide +kernel)
set_option maxRecDepth 20000 in
theorem gX2_isAboveCap_X2_cap : GoodIn wsX2_isAboveCap (wsV RX2 119 RX2 yX2_cap wsX2_cap) := goodIn_app (goodIn_of _ (by decide +kernel)) ggX2_isAboveCap_X2_cap
theorem dX2_isAboveCap_0 : decode cX2_isAboveCap 0 = .ok (.aload_n 0, 1) := by decide +kernel
theorem dX2_isAboveCap_1 : decode cX2_isAboveCap 1 = .ok (.iload_n 1, 1) := by decide +kernel
theorem dX2_isAboveCap_2 : decode cX2_isAboveCap 2 = .ok (.iload_n 2, 1) := by decide +kernel
theorem dX2_isAboveCap_3 : decode cX2_isAboveCap 3 = .ok (.invokevirtual 115, 3) := by decide +kernel
theorem dX2_isAboveCap_6 : decode cX2_isAboveCap 6 = .ok (.i2l, 1) := by decide +kernel
theorem dX2_isAboveCap_7 : decode cX2_isAboveCap 7 = .ok (.aload_n 0, 1) := by decide +kernel
theorem dX2_isAboveCap_8 : decode cX2_isAboveCap 8 = .ok (.iload_n 1, 1) := by decide +kernel
theorem dX2_isAboveCap_9 : decode cX2_isAboveCap 9 = .ok (.invokevirtual 119, 3) := by decide +kernel
theorem dX2_isAboveCap_12 : decode cX2_isAboveCap 12 = .ok (.lcmp, 1) := by decide +kernel
theorem dX2_isAboveCap_13 : decode cX2_isAboveCap 13 = .ok (.ifCond .le 7, 3) := by decide +kernel
theorem dX2_isAboveCap_16 : decode cX2_isAboveCap 16 = .ok (.iconst 1, 1) := by decide +kernel
theorem dX2_isAboveCap_17 : decode cX2_isAboveCap 17 = .ok (.goto 4, 3) := by decide +kernel
theorem dX2_isAboveCap_20 : decode cX2_isAboveCap 20 = .ok (.iconst 0, 1) := by decide +kernel
theorem dX2_isAboveCap_21 : decode cX2_isAboveCap 21 = .ok (.ireturn, 1) := by decide +kernel
set_option maxRecDepth 20000 in
theorem ggX2_part_X2_done : GoodIn wsX2_part wsX2_done := goodIn_r _ [8, 9, 10, 11, 12, 13, 14, 15, 31, 32, 33, 34, 35, 36, 37, 38, 39, 40, 41, 42, 48, 49, 50] rfl (by decide +kernel)
set_option maxRecDepth 20000 in
theorem gX2_part_X2_done : GoodIn wsX2_part (wsV RX2 115 RX2 yX2_done wsX2_done) := goodIn_app (goodIn_of _ (by decide +kernel)) ggX2_part_X2_done
set_option maxRecDepth 20000 in
theorem ggX2_part_X2_cap : GoodIn wsX2_part wsX2_cap := goodIn_r _ [19, 1, 20, 3, 21, 22, 23, 24, 25, 26, 27, 28, 29, 30, 31, 32, 33, 34, 35, 36, 37, 38, 39, 40, 41, 42, 43, 44, 45, 46, 47, 51] rfl (by decide +kernel)
set_option maxRecDepth 20000 in
theorem gX2_part_X2_cap : GoodIn wsX2_part (wsV RX2 119 RX2 yX2_cap wsX2_cap) := goodIn_app (goodIn_of _ (by decide +kernel)) ggX2_part_X2_cap
set_option maxRecDepth 20000 in
theorem ggX2_part_X8_of : GoodIn wsX2_part wsX8_of := goodIn_r _ [25, 26, 51] rfl (by decide +kernel)
set_option maxRecDepth 20000 in
theorem gX2_part_X8_of : GoodIn wsX2_part (wsV RX2 97 RX8 yX8_of wsX8_of) := goodIn_app (goodIn_of _ (by decide +kernel)) ggX2_part_X8_of
set_option maxRecDepth 20000 in
theorem ggX2_part_X10_thousandths : GoodIn wsX2_part wsX10_thousandths := goodIn_r _ [29, 30] rfl (by decide +kernel)
set_option maxRecDepth 20000 in
theorem gX2_part_X10_thousandths_n104 : GoodIn wsX2_part (wsX10_thousandths) := ggX2_part_X10_thousandths
theorem dX2_part_0 : decode cX2_part 0 = .ok (.aload_n 0, 1) := by decide +kernel
theorem dX2_part_1 : decode cX2_part 1 = .ok (.iload_n 1, 1) := by decide +kernel
theorem dX2_part_2 : decode cX2_part 2 = .ok (.iload_n 2, 1) := by decide +kernel
theorem dX2_part_3 : decode cX2_part 3 = .ok (.invokevirtual 115, 3) := by decide +kernel
theorem dX2_part_6 : decode cX2_part 6 = .ok (.i2l, 1) := by decide +kernel
theorem dX2_part_7 : decode cX2_part 7 = .ok (.lstore_n 3, 1) := by decide +kernel
theorem dX2_part_8 : decode cX2_part 8 = .ok (.aload_n 0, 1) := by decide +kernel
theorem dX2_part_9 : decode cX2_part 9 = .ok (.iload_n 1, 1) := by decide +kernel
theorem dX2_part_10 : decode cX2_part 10 = .ok (.invokevirtual 119, 3) := by decide +kernel
theorem dX2_part_13 : decode cX2_part 13 = .ok (.lstore 5, 2) := by decide +kernel
theorem dX2_part_15 : decode cX2_part 15 = .ok (.aload_n 0, 1) := by decide +kernel
theorem dX2_part_16 : decode cX2_part 16 = .ok (.getfield 12, 3) := by decide +kernel
theorem dX2_part_19 : decode cX2_part 19 = .ok (.getfield 123, 3) := by decide +kernel
theorem dX2_part_22 : decode cX2_part 22 = .ok (.iload_n 1, 1) := by decide +kernel
theorem dX2_part_23 : decode cX2_part 23 = .ok (.iaload, 1) := by decide +kernel
theorem dX2_part_24 : decode cX2_part 24 = .ok (.i2l, 1) := by decide +kernel
theorem dX2_part_25 : decode cX2_part 25 = .ok (.lstore 7, 2) := by decide +kernel
theorem dX2_part_27 : decode cX2_part 27 = .ok (.lload_n 3, 1) := by decide +kernel
theorem dX2_part_28 : decode cX2_part 28 = .ok (.lload 5, 2) := by decide +kernel
theorem dX2_part_30 : decode cX2_part 30 = .ok (.lcmp, 1) := by decide +kernel
theorem dX2_part_31 : decode cX2_part 31 = .ok (.ifCond .gt 8, 3) := by decide +kernel
theorem dX2_part_34 : decode cX2_part 34 = .ok (.lload_n 3, 1) := by decide +kernel
theorem dX2_part_35 : decode cX2_part 35 = .ok (.lload 7, 2) := by decide +kernel
theorem dX2_part_37 : decode cX2_part 37 = .ok (.lmul, 1) := by decide +kernel
theorem dX2_part_38 : decode cX2_part 38 = .ok (.lreturn, 1) := by decide +kernel
theorem dX2_part_39 : decode cX2_part 39 = .ok (.lload 5, 2) := by decide +kernel
theorem dX2_part_41 : decode cX2_part 41 = .ok (.lload 7, 2) := by decide +kernel
theorem dX2_part_43 : decode cX2_part 43 = .ok (.lmul, 1) := by decide +kernel
theorem dX2_part_44 : decode cX2_part 44 = .ok (.lload_n 3, 1) := by decide +kernel
theorem dX2_part_45 : decode cX2_part 45 = .ok (.lload 5, 2) := by decide +kernel
theorem dX2_part_47 : decode cX2_part 47 = .ok (.lsub, 1) := by decide +kernel
theorem dX2_part_48 : decode cX2_part 48 = .ok (.aload_n 0, 1) := by decide +kernel
theorem dX2_part_49 : decode cX2_part 49 = .ok (.getfield 21, 3) := by decide +kernel
theorem dX2_part_52 : decode cX2_part 52 = .ok (.bipush 10, 2) := by decide +kernel
theorem dX2_part_54 : decode cX2_part 54 = .ok (.invokevirtual 97, 3) := by decide +kernel
theorem dX2_part_57 : decode cX2_part 57 = .ok (.lload 7, 2) := by decide +kernel
theorem dX2_part_59 : decode cX2_part 59 = .ok (.invokestatic 104, 3) := by decide +kernel
theorem dX2_part_62 : decode cX2_part 62 = .ok (.lmul, 1) := by decide +kernel
theorem dX2_part_63 : decode cX2_part 63 = .ok (.ladd, 1) := by decide +kernel
theorem dX2_part_64 : decode cX2_part 64 = .ok (.lreturn, 1) := by decide +kernel
set_option maxRecDepth 20000 in
theorem ggX2_partMore_X2_part : GoodIn wsX2_partMore wsX2_part := goodIn_r _ [5, 6, 7, 8, 9, 10, 11, 4, 12, 13, 14, 15, 16, 17, 18, 19, 20, 21, 22, 23, 24, 25, 26, 27, 28, 29, 30, 31, 32, 33, 34, 35, 36, 37, 38, 39, 40, 41, 42, 43, 44, 45, 46, 47, 48, 49, 50, 51, 52, 53, 54, 55] rfl (by decide +kernel)
set_option maxRecDepth 20000 in
theorem gX2_partMore_X2_part : GoodIn wsX2_partMore (wsV RX2 126 RX2 yX2_part wsX2_part) := goodIn_app (goodIn_of _ (by decide +kernel)) ggX2_partMore_X2_part
theorem dX2_partMore_0 : decode cX2_partMore 0 = .ok (.aload_n 0, 1) := by decide +kernel
theorem dX2_partMore_1 : decode cX2_partMore 1 = .ok (.iload_n 1, 1) := by decide +kernel
theorem dX2_partMore_2 : decode cX2_partMore 2 = .ok (.iload_n 2, 1) := by decide +kernel
theorem dX2_partMore_3 : decode cX2_partMore 3 = .ok (.invokevirtual 126, 3) := by decide +kernel
theorem dX2_partMore_6 : decode cX2_partMore 6 = .ok (.iload_n 2, 1) := by decide +kernel
theorem dX2_partMore_7 : decode cX2_partMore 7 = .ok (.ifCond .le 14, 3) := by decide +kernel
theorem dX2_partMore_10 : decode cX2_partMore 10 = .ok (.aload_n 0, 1) := by decide +kernel
theorem dX2_partMore_11 : decode cX2_partMore 11 = .ok (.iload_n 1, 1) := by decide +kernel
theorem dX2_partMore_12 : decode cX2_partMore 12 = .ok (.iload_n 2, 1) := by decide +kernel
theorem dX2_partMore_13 : decode cX2_partMore 13 = .ok (.iconst 1, 1) := by decide +kernel
theorem dX2_partMore_14 : decode cX2_partMore 14 = .ok (.isub, 1) := by decide +kernel
theorem dX2_partMore_15 : decode cX2_partMore 15 = .ok (.invokevirtual 126, 3) := by decide +kernel
theorem dX2_partMore_18 : decode cX2_partMore 18 = .ok (.goto 4, 3) := by decide +kernel
theorem dX2_partMore_21 : decode cX2_partMore 21 = .ok (.lconst 0, 1) := by decide +kernel
theorem dX2_partMore_22 : decode cX2_partMore 22 = .ok (.lsub, 1) := by decide +kernel
theorem dX2_partMore_23 : decode cX2_partMore 23 = .ok (.lreturn, 1) := by decide +kernel
set_option maxRecDepth 20000 in
theorem ggX2_work_X3_worthTill : GoodIn wsX2_work wsX3_worthTill := goodIn_r _ [8, 9, 10, 11, 12, 13, 7, 14, 15, 16, 67, 68, 69, 70, 71] rfl (by decide +kernel)
set_option maxRecDepth 20000 in
theorem gX2_work_X3_worthTill : GoodIn wsX2_work (wsV RX2 130 RX3 yX3_worthTill wsX3_worthTill) := goodIn_app (goodIn_of _ (by decide +kernel)) ggX2_work_X3_worthTill
set_option maxRecDepth 20000 in
theorem ggX2_work_X2_part : GoodIn wsX2_work wsX2_part := goodIn_r _ [21, 2, 22, 23, 24, 25, 26, 20, 27, 28, 29, 30, 31, 32, 33, 34, 35, 36, 37, 38, 39, 40, 41, 42, 43, 44, 45, 46, 47, 48, 49, 50, 51, 52, 53, 54, 55, 56, 57, 58, 59, 60, 61, 62, 63, 64, 65, 66, 72, 73, 74, 75] rfl (by decide +kernel)
set_option maxRecDepth 20000 in
theorem gX2_work_X2_part : GoodIn wsX2_work (wsV RX2 126 RX2 yX2_part wsX2_part) := goodIn_app (goodIn_of _ (by decide +kernel)) ggX2_work_X2_part
theorem dX2_work_0 : decode cX2_work 0 = .ok (.aload_n 0, 1) := by decide +kernel
theorem dX2_work_1 : decode cX2_work 1 = .ok (.getfield 44, 3) := by decide +kernel
theorem dX2_work_4 : decode cX2_work 4 = .ok (.iload_n 1, 1) := by decide +kernel
theorem dX2_work_5 : decode cX2_work 5 = .ok (.invokevirtual 130, 3) := by decide +kernel
theorem dX2_work_8 : decode cX2_work 8 = .ok (.lstore_n 2, 1) := by decide +kernel
theorem dX2_work_9 : decode cX2_work 9 = .ok (.iconst 0, 1) := by decide +kernel
theorem dX2_work_10 : decode cX2_work 10 = .ok (.istore 4, 2) := by decide +kernel
theorem dX2_work_12 : decode cX2_work 12 = .ok (.iload 4, 2) := by decide +kernel
theorem dX2_work_14 : decode cX2_work 14 = .ok (.aload_n 0, 1) := by decide +kernel
theorem dX2_work_15 : decode cX2_work 15 = .ok (.getfield 12, 3) := by decide +kernel
theorem dX2_work_18 : decode cX2_work 18 = .ok (.getfield 93, 3) := by decide +kernel
theorem dX2_work_21 : decode cX2_work 21 = .ok (.if_icmp .ge 19, 3) := by decide +kernel
theorem dX2_work_24 : decode cX2_work 24 = .ok (.lload_n 2, 1) := by decide +kernel
theorem dX2_work_25 : decode cX2_work 25 = .ok (.aload_n 0, 1) := by decide +kernel
theorem dX2_work_26 : decode cX2_work 26 = .ok (.iload 4, 2) := by decide +kernel
theorem dX2_work_28 : decode cX2_work 28 = .ok (.iload_n 1, 1) := by decide +kernel
theorem dX2_work_29 : decode cX2_work 29 = .ok (.invokevirtual 126, 3) := by decide +kernel
theorem dX2_work_32 : decode cX2_work 32 = .ok (.ladd, 1) := by decide +kernel
theorem dX2_work_33 : decode cX2_work 33 = .ok (.lstore_n 2, 1) := by decide +kernel
theorem dX2_work_34 : decode cX2_work 34 = .ok (.iinc 4 1, 3) := by decide +kernel
theorem dX2_work_37 : decode cX2_work 37 = .ok (.goto (-25), 3) := by decide +kernel
theorem dX2_work_40 : decode cX2_work 40 = .ok (.lload_n 2, 1) := by decide +kernel
theorem dX2_work_41 : decode cX2_work 41 = .ok (.lreturn, 1) := by decide +kernel
set_option maxRecDepth 20000 in
theorem ggX2_materials_X8_of : GoodIn wsX2_materials wsX8_of := goodIn_r _ [8, 9, 32] rfl (by decide +kernel)
set_option maxRecDepth 20000 in
theorem gX2_materials_X8_of : GoodIn wsX2_materials (wsV RX2 97 RX8 yX8_of wsX8_of) := goodIn_app (goodIn_of _ (by decide +kernel)) ggX2_materials_X8_of
set_option maxRecDepth 20000 in
theorem ggX2_materials_X6_latest : GoodIn wsX2_materials wsX6_latest := goodIn_r _ [14, 15, 33, 34, 35] rfl (by decide +kernel)
set_option maxRecDepth 20000 in
theorem gX2_materials_X6_latest : GoodIn wsX2_materials (wsV RX2 108 RX6 yX6_latest wsX6_latest) := goodIn_app (goodIn_of _ (by decide +kernel)) ggX2_materials_X6_latest
set_option maxRecDepth 20000 in
theorem ggX2_materials_X10_thousandths : GoodIn wsX2_materials wsX10_thousandths := goodIn_r _ [18, 19] rfl (by decide +kernel)
set_option maxRecDepth 20000 in
theorem gX2_materials_X10_thousandths_n104 : GoodIn wsX2_materials (wsX10_thousandths) := ggX2_materials_X10_thousandths
theorem dX2_materials_0 : decode cX2_materials 0 = .ok (.iload_n 1, 1) := by decide +kernel
theorem dX2_materials_1 : decode cX2_materials 1 = .ok (.aload_n 0, 1) := by decide +kernel
theorem dX2_materials_2 : decode cX2_materials 2 = .ok (.getfield 59, 3) := by decide +kernel
theorem dX2_materials_5 : decode cX2_materials 5 = .ok (.if_icmp .lt 7, 3) := by decide +kernel
theorem dX2_materials_8 : decode cX2_materials 8 = .ok (.lconst 0, 1) := by decide +kernel
theorem dX2_materials_9 : decode cX2_materials 9 = .ok (.goto 24, 3) := by decide +kernel
theorem dX2_materials_12 : decode cX2_materials 12 = .ok (.aload_n 0, 1) := by decide +kernel
theorem dX2_materials_13 : decode cX2_materials 13 = .ok (.getfield 21, 3) := by decide +kernel
theorem dX2_materials_16 : decode cX2_materials 16 = .ok (.bipush 6, 2) := by decide +kernel
theorem dX2_materials_18 : decode cX2_materials 18 = .ok (.invokevirtual 97, 3) := by decide +kernel
theorem dX2_materials_21 : decode cX2_materials 21 = .ok (.aload_n 0, 1) := by decide +kernel
theorem dX2_materials_22 : decode cX2_materials 22 = .ok (.getfield 34, 3) := by decide +kernel
theorem dX2_materials_25 : decode cX2_materials 25 = .ok (.iload_n 1, 1) := by decide +kernel
theorem dX2_materials_26 : decode cX2_materials 26 = .ok (.invokevirtual 108, 3) := by decide +kernel
theorem dX2_materials_29 : decode cX2_materials 29 = .ok (.i2l, 1) := by decide +kernel
theorem dX2_materials_30 : decode cX2_materials 30 = .ok (.invokestatic 104, 3) := by decide +kernel
theorem dX2_materials_33 : decode cX2_materials 33 = .ok (.lreturn, 1) := by decide +kernel
set_option maxRecDepth 20000 in
theorem ggX2_retained_X10_thousandths : GoodIn wsX2_retained wsX10_thousandths := goodIn_r _ [10, 11] rfl (by decide +kernel)
set_option maxRecDepth 20000 in
theorem gX2_retained_X10_thousandths_n104 : GoodIn wsX2_retained (wsX10_thousandths) := ggX2_retained_X10_thousandths
set_option maxRecDepth 20000 in
theorem ggX2_retained_X2_limit : GoodIn wsX2_retained wsX2_limit := goodIn_r _ [16, 7, 17, 18, 19, 20, 21, 22, 23, 24, 8, 9, 10, 11, 25, 26, 27, 28, 29, 30, 31, 32, 33, 34, 35, 36, 37, 38, 39, 40, 41, 42] rfl (by decide +kernel)
set_option maxRecDepth 20000 in
theorem gX2_retained_X2_limit : GoodIn wsX2_retained (wsV RX2 133 RX2 yX2_limit wsX2_limit) := goodIn_app (goodIn_of _ (by decide +kernel)) ggX2_retained_X2_limit
set_option maxRecDepth 20000 in
theorem ggX2_retained_X8_of : GoodIn wsX2_retained wsX8_of := goodIn_r _ [23, 24, 42] rfl (by decide +kernel)
set_option maxRecDepth 20000 in
theorem gX2_retained_X8_of : GoodIn wsX2_retained (wsV RX2 97 RX8 yX8_of wsX8_of) := goodIn_app (goodIn_of _ (by decide +kernel)) ggX2_retained_X8_of
theorem dX2_retained_0 : decode cX2_retained 0 = .ok (.iload 4, 2) := by decide +kernel
theorem dX2_retained_2 : decode cX2_retained 2 = .ok (.aload_n 0, 1) := by decide +kernel
theorem dX2_retained_3 : decode cX2_retained 3 = .ok (.getfield 63, 3) := by decide +kernel
theorem dX2_retained_6 : decode cX2_retained 6 = .ok (.if_icmp .ge 9, 3) := by decide +kernel
theorem dX2_retained_9 : decode cX2_retained 9 = .ok (.lload_n 2, 1) := by decide +kernel
theorem dX2_retained_10 : decode cX2_retained 10 = .ok (.lconst 0, 1) := by decide +kernel
theorem dX2_retained_11 : decode cX2_retained 11 = .ok (.lcmp, 1) := by decide +kernel
theorem dX2_retained_12 : decode cX2_retained 12 = .ok (.ifCond .ge 5, 3) := by decide +kernel
theorem dX2_retained_15 : decode cX2_retained 15 = .ok (.lconst 0, 1) := by decide +kernel
theorem dX2_retained_16 : decode cX2_retained 16 = .ok (.lreturn, 1) := by decide +kernel
theorem dX2_retained_17 : decode cX2_retained 17 = .ok (.iload_n 1, 1) := by decide +kernel
theorem dX2_retained_18 : decode cX2_retained 18 = .ok (.lload_n 2, 1) := by decide +kernel
theorem dX2_retained_19 : decode cX2_retained 19 = .ok (.invokestatic 104, 3) := by decide +kernel
theorem dX2_retained_22 : decode cX2_retained 22 = .ok (.aload_n 0, 1) := by decide +kernel
theorem dX2_retained_23 : decode cX2_retained 23 = .ok (.invokevirtual 133, 3) := by decide +kernel
theorem dX2_retained_26 : decode cX2_retained 26 = .ok (.invokestatic 137, 3) := by decide +kernel
theorem dX2_retained_29 : decode cX2_retained 29 = .ok (.lstore 5, 2) := by decide +kernel
theorem dX2_retained_31 : decode cX2_retained 31 = .ok (.iload 4, 2) := by decide +kernel
theorem dX2_retained_33 : decode cX2_retained 33 = .ok (.aload_n 0, 1) := by decide +kernel
theorem dX2_retained_34 : decode cX2_retained 34 = .ok (.getfield 59, 3) := by decide +kernel
theorem dX2_retained_37 : decode cX2_retained 37 = .ok (.if_icmp .lt 22, 3) := by decide +kernel
theorem dX2_retained_40 : decode cX2_retained 40 = .ok (.lload 5, 2) := by decide +kernel
theorem dX2_retained_42 : decode cX2_retained 42 = .ok (.aload_n 0, 1) := by decide +kernel
theorem dX2_retained_43 : decode cX2_retained 43 = .ok (.getfield 21, 3) := by decide +kernel
theorem dX2_retained_46 : decode cX2_retained 46 = .ok (.iconst 2, 1) := by decide +kernel
theorem dX2_retained_47 : decode cX2_retained 47 = .ok (.invokevirtual 97, 3) := by decide +kernel
theorem dX2_retained_50 : decode cX2_retained 50 = .ok (.lload 5, 2) := by decide +kernel
theorem dX2_retained_52 : decode cX2_retained 52 = .ok (.invokestatic 104, 3) := by decide +kernel
theorem dX2_retained_55 : decode cX2_retained 55 = .ok (.lsub, 1) := by decide +kernel
theorem dX2_retained_56 : decode cX2_retained 56 = .ok (.goto 5, 3) := by decide +kernel
theorem dX2_retained_59 : decode cX2_retained 59 = .ok (.lload 5, 2) := by decide +kernel
theorem dX2_retained_61 : decode cX2_retained 61 = .ok (.lreturn, 1) := by decide +kernel
set_option maxRecDepth 20000 in
theorem ggX2_recoveredFor_X2_advanced : GoodIn wsX2_recoveredFor wsX2_advanced := goodIn_r _ [16, 2, 3, 4, 17, 18, 19, 20, 21, 22, 23, 24, 25, 26, 27, 28, 29, 30, 31, 32, 33, 34, 35, 36, 37, 38, 39, 40, 41, 42, 43, 44] rfl (by decide +kernel)
set_option maxRecDepth 20000 in
theorem gX2_recoveredFor_X2_advanced : GoodIn wsX2_recoveredFor (wsV RX2 143 RX2 yX2_advanced wsX2_advanced) := goodIn_app (goodIn_of _ (by decide +kernel)) ggX2_recoveredFor_X2_advanced
set_option maxRecDepth 20000 in
theorem ggX2_recoveredFor_X8_of : GoodIn wsX2_recoveredFor wsX8_of := goodIn_r _ [21, 22, 44] rfl (by decide +kernel)
set_option maxRecDepth 20000 in
theorem gX2_recoveredFor_X8_of : GoodIn wsX2_recoveredFor (wsV RX2 97 RX8 yX8_of wsX8_of) := goodIn_app (goodIn_of _ (by decide +kernel)) ggX2_recoveredFor_X8_of
set_option maxRecDepth 20000 in
theorem ggX2_recoveredFor_X10_thousandths : GoodIn wsX2_recoveredFor wsX10_thousandths := goodIn_r _ [25, 26] rfl (by decide +kernel)
set_option maxRecDepth 20000 in
theorem gX2_recoveredFor_X10_thousandths_n104 : GoodIn wsX2_recoveredFor (wsX10_thousandths) := ggX2_recoveredFor_X10_thousandths
theorem dX2_recoveredFor_0 : decode cX2_recoveredFor 0 = .ok (.aload_n 0, 1) := by decide +kernel
theorem dX2_recoveredFor_1 : decode cX2_recoveredFor 1 = .ok (.invokevirtual 143, 3) := by decide +kernel
theorem dX2_recoveredFor_4 : decode cX2_recoveredFor 4 = .ok (.lstore 6, 2) := by decide +kernel
theorem dX2_recoveredFor_6 : decode cX2_recoveredFor 6 = .ok (.iload 5, 2) := by decide +kernel
theorem dX2_recoveredFor_8 : decode cX2_recoveredFor 8 = .ok (.aload_n 0, 1) := by decide +kernel
theorem dX2_recoveredFor_9 : decode cX2_recoveredFor 9 = .ok (.getfield 63, 3) := by decide +kernel
theorem dX2_recoveredFor_12 : decode cX2_recoveredFor 12 = .ok (.if_icmp .lt 6, 3) := by decide +kernel
theorem dX2_recoveredFor_15 : decode cX2_recoveredFor 15 = .ok (.lload 6, 2) := by decide +kernel
theorem dX2_recoveredFor_17 : decode cX2_recoveredFor 17 = .ok (.lreturn, 1) := by decide +kernel
theorem dX2_recoveredFor_18 : decode cX2_recoveredFor 18 = .ok (.lconst 0, 1) := by decide +kernel
theorem dX2_recoveredFor_19 : decode cX2_recoveredFor 19 = .ok (.lload_n 1, 1) := by decide +kernel
theorem dX2_recoveredFor_20 : decode cX2_recoveredFor 20 = .ok (.aload_n 0, 1) := by decide +kernel
theorem dX2_recoveredFor_21 : decode cX2_recoveredFor 21 = .ok (.getfield 21, 3) := by decide +kernel
theorem dX2_recoveredFor_24 : decode cX2_recoveredFor 24 = .ok (.iconst 4, 1) := by decide +kernel
theorem dX2_recoveredFor_25 : decode cX2_recoveredFor 25 = .ok (.invokevirtual 97, 3) := by decide +kernel
theorem dX2_recoveredFor_28 : decode cX2_recoveredFor 28 = .ok (.aload_n 0, 1) := by decide +kernel
theorem dX2_recoveredFor_29 : decode cX2_recoveredFor 29 = .ok (.getfield 12, 3) := by decide +kernel
theorem dX2_recoveredFor_32 : decode cX2_recoveredFor 32 = .ok (.getfield 101, 3) := by decide +kernel
theorem dX2_recoveredFor_35 : decode cX2_recoveredFor 35 = .ok (.i2l, 1) := by decide +kernel
theorem dX2_recoveredFor_36 : decode cX2_recoveredFor 36 = .ok (.invokestatic 104, 3) := by decide +kernel
theorem dX2_recoveredFor_39 : decode cX2_recoveredFor 39 = .ok (.lsub, 1) := by decide +kernel
theorem dX2_recoveredFor_40 : decode cX2_recoveredFor 40 = .ok (.invokestatic 146, 3) := by decide +kernel
theorem dX2_recoveredFor_43 : decode cX2_recoveredFor 43 = .ok (.lstore 8, 2) := by decide +kernel
theorem dX2_recoveredFor_45 : decode cX2_recoveredFor 45 = .ok (.lload_n 3, 1) := by decide +kernel
theorem dX2_recoveredFor_46 : decode cX2_recoveredFor 46 = .ok (.lload 6, 2) := by decide +kernel
theorem dX2_recoveredFor_48 : decode cX2_recoveredFor 48 = .ok (.aload_n 0, 1) := by decide +kernel
theorem dX2_recoveredFor_49 : decode cX2_recoveredFor 49 = .ok (.getfield 21, 3) := by decide +kernel
theorem dX2_recoveredFor_52 : decode cX2_recoveredFor 52 = .ok (.iconst 5, 1) := by decide +kernel
theorem dX2_recoveredFor_53 : decode cX2_recoveredFor 53 = .ok (.invokevirtual 97, 3) := by decide +kernel
theorem dX2_recoveredFor_56 : decode cX2_recoveredFor 56 = .ok (.lload 8, 2) := by decide +kernel
theorem dX2_recoveredFor_58 : decode cX2_recoveredFor 58 = .ok (.invokestatic 104, 3) := by decide +kernel
theorem dX2_recoveredFor_61 : decode cX2_recoveredFor 61 = .ok (.invokestatic 137, 3) := by decide +kernel
theorem dX2_recoveredFor_64 : decode cX2_recoveredFor 64 = .ok (.invokestatic 146, 3) := by decide +kernel
theorem dX2_recoveredFor_67 : decode cX2_recoveredFor 67 = .ok (.lreturn, 1) := by decide +kernel
theorem dX2_lateMonths_0 : decode cX2_lateMonths 0 = .ok (.iconst 0, 1) := by decide +kernel
theorem dX2_lateMonths_1 : decode cX2_lateMonths 1 = .ok (.iload_n 1, 1) := by decide +kernel
theorem dX2_lateMonths_2 : decode cX2_lateMonths 2 = .ok (.aload_n 0, 1) := by decide +kernel
theorem dX2_lateMonths_3 : decode cX2_lateMonths 3 = .ok (.getfield 59, 3) := by decide +kernel
theorem dX2_lateMonths_6 : decode cX2_lateMonths 6 = .ok (.invokestatic 149, 3) := by decide +kernel
theorem dX2_lateMonths_9 : decode cX2_lateMonths 9 = .ok (.aload_n 0, 1) := by decide +kernel
theorem dX2_lateMonths_10 : decode cX2_lateMonths 10 = .ok (.getfield 66, 3) := by decide +kernel
theorem dX2_lateMonths_13 : decode cX2_lateMonths 13 = .ok (.aload_n 0, 1) := by decide +kernel
theorem dX2_lateMonths_14 : decode cX2_lateMonths 14 = .ok (.getfield 69, 3) := by decide +kernel
theorem dX2_lateMonths_17 : decode cX2_lateMonths 17 = .ok (.iadd, 1) := by decide +kernel
theorem dX2_lateMonths_18 : decode cX2_lateMonths 18 = .ok (.isub, 1) := by decide +kernel
theorem dX2_lateMonths_19 : decode cX2_lateMonths 19 = .ok (.invokestatic 151, 3) := by decide +kernel
theorem dX2_lateMonths_22 : decode cX2_lateMonths 22 = .ok (.ireturn, 1) := by decide +kernel
set_option maxRecDepth 20000 in
theorem ggX2_mostDamages_X8_of : GoodIn wsX2_mostDamages wsX8_of := goodIn_r _ [8, 9, 31] rfl (by decide +kernel)
set_option maxRecDepth 20000 in
theorem gX2_mostDamages_X8_of : GoodIn wsX2_mostDamages (wsV RX2 97 RX8 yX8_of wsX8_of) := goodIn_app (goodIn_of _ (by decide +kernel)) ggX2_mostDamages_X8_of
set_option maxRecDepth 20000 in
theorem ggX2_mostDamages_X10_thousandths : GoodIn wsX2_mostDamages wsX10_thousandths := goodIn_r _ [12, 13] rfl (by decide +kernel)
set_option maxRecDepth 20000 in
theorem gX2_mostDamages_X10_thousandths_n104 : GoodIn wsX2_mostDamages (wsX10_thousandths) := ggX2_mostDamages_X10_thousandths
theorem dX2_mostDamages_0 : decode cX2_mostDamages 0 = .ok (.aload_n 0, 1) := by decide +kernel
theorem dX2_mostDamages_1 : decode cX2_mostDamages 1 = .ok (.getfield 21, 3) := by decide +kernel
theorem dX2_mostDamages_4 : decode cX2_mostDamages 4 = .ok (.bipush 12, 2) := by decide +kernel
theorem dX2_mostDamages_6 : decode cX2_mostDamages 6 = .ok (.invokevirtual 97, 3) := by decide +kernel
theorem dX2_mostDamages_9 : decode cX2_mostDamages 9 = .ok (.aload_n 0, 1) := by decide +kernel
theorem dX2_mostDamages_10 : decode cX2_mostDamages 10 = .ok (.getfield 12, 3) := by decide +kernel
theorem dX2_mostDamages_13 : decode cX2_mostDamages 13 = .ok (.getfield 101, 3) := by decide +kernel
theorem dX2_mostDamages_16 : decode cX2_mostDamages 16 = .ok (.i2l, 1) := by decide +kernel
theorem dX2_mostDamages_17 : decode cX2_mostDamages 17 = .ok (.invokestatic 104, 3) := by decide +kernel
theorem dX2_mostDamages_20 : decode cX2_mostDamages 20 = .ok (.lreturn, 1) := by decide +kernel
set_option maxRecDepth 20000 in
theorem ggX2_damages_X2_lateMonths : GoodIn wsX2_damages wsX2_lateMonths := goodIn_r _ [12, 13, 14, 15, 6, 16, 17, 18, 19, 20, 21, 36, 37, 38, 39, 40, 41, 42, 43, 44, 45, 46, 47] rfl (by decide +kernel)
set_option maxRecDepth 20000 in
theorem gX2_damages_X2_lateMonths : GoodIn wsX2_damages (wsV RX2 153 RX2 yX2_lateMonths wsX2_lateMonths) := goodIn_app (goodIn_of _ (by decide +kernel)) ggX2_damages_X2_lateMonths
set_option maxRecDepth 20000 in
theorem ggX2_damages_X8_of : GoodIn wsX2_damages wsX8_of := goodIn_r _ [26, 27, 53] rfl (by decide +kernel)
set_option maxRecDepth 20000 in
theorem gX2_damages_X8_of : GoodIn wsX2_damages (wsV RX2 97 RX8 yX8_of wsX8_of) := goodIn_app (goodIn_of _ (by decide +kernel)) ggX2_damages_X8_of
set_option maxRecDepth 20000 in
theorem ggX2_damages_X10_thousandths : GoodIn wsX2_damages wsX10_thousandths := goodIn_r _ [30, 31] rfl (by decide +kernel)
set_option maxRecDepth 20000 in
theorem gX2_damages_X10_thousandths_n104 : GoodIn wsX2_damages (wsX10_thousandths) := ggX2_damages_X10_thousandths
set_option maxRecDepth 20000 in
theorem ggX2_damages_X2_mostDamages : GoodIn wsX2_damages wsX2_mostDamages := goodIn_r _ [35, 1, 2, 3, 22, 23, 24, 25, 26, 27, 28, 29, 30, 31, 36, 37, 38, 39, 40, 41, 42, 43, 44, 45, 46, 47, 48, 49, 50, 51, 52, 53] rfl (by decide +kernel)
set_option maxRecDepth 20000 in
theorem gX2_damages_X2_mostDamages : GoodIn wsX2_damages (wsV RX2 156 RX2 yX2_mostDamages wsX2_mostDamages) := goodIn_app (goodIn_of _ (by decide +kernel)) ggX2_damages_X2_mostDamages
theorem dX2_damages_0 : decode cX2_damages 0 = .ok (.aload_n 0, 1) := by decide +kernel
theorem dX2_damages_1 : decode cX2_damages 1 = .ok (.iload_n 1, 1) := by decide +kernel
theorem dX2_damages_2 : decode cX2_damages 2 = .ok (.invokevirtual 153, 3) := by decide +kernel
theorem dX2_damages_5 : decode cX2_damages 5 = .ok (.i2l, 1) := by decide +kernel
theorem dX2_damages_6 : decode cX2_damages 6 = .ok (.aload_n 0, 1) := by decide +kernel
theorem dX2_damages_7 : decode cX2_damages 7 = .ok (.getfield 21, 3) := by decide +kernel
theorem dX2_damages_10 : decode cX2_damages 10 = .ok (.bipush 11, 2) := by decide +kernel
theorem dX2_damages_12 : decode cX2_damages 12 = .ok (.invokevirtual 97, 3) := by decide +kernel
theorem dX2_damages_15 : decode cX2_damages 15 = .ok (.aload_n 0, 1) := by decide +kernel
theorem dX2_damages_16 : decode cX2_damages 16 = .ok (.getfield 12, 3) := by decide +kernel
theorem dX2_damages_19 : decode cX2_damages 19 = .ok (.getfield 101, 3) := by decide +kernel
theorem dX2_damages_22 : decode cX2_damages 22 = .ok (.i2l, 1) := by decide +kernel
theorem dX2_damages_23 : decode cX2_damages 23 = .ok (.invokestatic 104, 3) := by decide +kernel
theorem dX2_damages_26 : decode cX2_damages 26 = .ok (.lmul, 1) := by decide +kernel
theorem dX2_damages_27 : decode cX2_damages 27 = .ok (.lstore_n 2, 1) := by decide +kernel
theorem dX2_damages_28 : decode cX2_damages 28 = .ok (.lload_n 2, 1) := by decide +kernel
theorem dX2_damages_29 : decode cX2_damages 29 = .ok (.aload_n 0, 1) := by decide +kernel
theorem dX2_damages_30 : decode cX2_damages 30 = .ok (.invokevirtual 156, 3) := by decide +kernel
theorem dX2_damages_33 : decode cX2_damages 33 = .ok (.invokestatic 137, 3) := by decide +kernel
theorem dX2_damages_36 : decode cX2_damages 36 = .ok (.lreturn, 1) := by decide +kernel
set_option maxRecDepth 20000 in
theorem ggX2_adjustedFor_X6_latest : GoodIn wsX2_adjustedFor wsX6_latest := goodIn_r _ [8, 9, 32, 33, 34] rfl (by decide +kernel)
set_option maxRecDepth 20000 in
theorem gX2_adjustedFor_X6_latest : GoodIn wsX2_adjustedFor (wsV RX2 108 RX6 yX6_latest wsX6_latest) := goodIn_app (goodIn_of _ (by decide +kernel)) ggX2_adjustedFor_X6_latest
set_option maxRecDepth 20000 in
theorem ggX2_adjustedFor_X8_of : GoodIn wsX2_adjustedFor wsX8_of := goodIn_r _ [14, 15, 35] rfl (by decide +kernel)
set_option maxRecDepth 20000 in
theorem gX2_adjustedFor_X8_of : GoodIn wsX2_adjustedFor (wsV RX2 97 RX8 yX8_of wsX8_of) := goodIn_app (goodIn_of _ (by decide +kernel)) ggX2_adjustedFor_X8_of
set_option maxRecDepth 20000 in
theorem ggX2_adjustedFor_X10_thousandths : GoodIn wsX2_adjustedFor wsX10_thousandths := goodIn_r _ [18, 19] rfl (by decide +kernel)
set_option maxRecDepth 20000 in
theorem gX2_adjustedFor_X10_thousandths_n104 : GoodIn wsX2_adjustedFor (wsX10_thousandths) := ggX2_adjustedFor_X10_thousandths
theorem dX2_adjustedFor_0 : decode cX2_adjustedFor 0 = .ok (.lload_n 1, 1) := by decide +kernel
theorem dX2_adjustedFor_1 : decode cX2_adjustedFor 1 = .ok (.aload_n 0, 1) := by decide +kernel
theorem dX2_adjustedFor_2 : decode cX2_adjustedFor 2 = .ok (.getfield 38, 3) := by decide +kernel
theorem dX2_adjustedFor_5 : decode cX2_adjustedFor 5 = .ok (.iload_n 3, 1) := by decide +kernel
theorem dX2_adjustedFor_6 : decode cX2_adjustedFor 6 = .ok (.invokevirtual 108, 3) := by decide +kernel
theorem dX2_adjustedFor_9 : decode cX2_adjustedFor 9 = .ok (.sipush 1000, 3) := by decide +kernel
theorem dX2_adjustedFor_12 : decode cX2_adjustedFor 12 = .ok (.isub, 1) := by decide +kernel
theorem dX2_adjustedFor_13 : decode cX2_adjustedFor 13 = .ok (.i2l, 1) := by decide +kernel
theorem dX2_adjustedFor_14 : decode cX2_adjustedFor 14 = .ok (.lmul, 1) := by decide +kernel
theorem dX2_adjustedFor_15 : decode cX2_adjustedFor 15 = .ok (.ldc2_w 159, 3) := by decide +kernel
theorem dX2_adjustedFor_18 : decode cX2_adjustedFor 18 = .ok (.ldiv, 1) := by decide +kernel
theorem dX2_adjustedFor_19 : decode cX2_adjustedFor 19 = .ok (.lstore 4, 2) := by decide +kernel
theorem dX2_adjustedFor_21 : decode cX2_adjustedFor 21 = .ok (.aload_n 0, 1) := by decide +kernel
theorem dX2_adjustedFor_22 : decode cX2_adjustedFor 22 = .ok (.getfield 21, 3) := by decide +kernel
theorem dX2_adjustedFor_25 : decode cX2_adjustedFor 25 = .ok (.bipush 13, 2) := by decide +kernel
theorem dX2_adjustedFor_27 : decode cX2_adjustedFor 27 = .ok (.invokevirtual 97, 3) := by decide +kernel
theorem dX2_adjustedFor_30 : decode cX2_adjustedFor 30 = .ok (.lload 4, 2) := by decide +kernel
theorem dX2_adjustedFor_32 : decode cX2_adjustedFor 32 = .ok (.invokestatic 104, 3) := by decide +kernel
theorem dX2_adjustedFor_35 : decode cX2_adjustedFor 35 = .ok (.lreturn, 1) := by decide +kernel
theorem dX3_init_0 : decode cX3_init 0 = .ok (.aload_n 0, 1) := by decide +kernel
theorem dX3_init_1 : decode cX3_init 1 = .ok (.invokespecial 3, 3) := by decide +kernel
theorem dX3_init_4 : decode cX3_init 4 = .ok (.aload_n 0, 1) := by decide +kernel
theorem dX3_init_5 : decode cX3_init 5 = .ok (.bipush 8, 2) := by decide +kernel
theorem dX3_init_7 : decode cX3_init 7 = .ok (.newarray .int, 2) := by decide +kernel
theorem dX3_init_9 : decode cX3_init 9 = .ok (.putfield 9, 3) := by decide +kernel
theorem dX3_init_12 : decode cX3_init 12 = .ok (.aload_n 0, 1) := by decide +kernel
theorem dX3_init_13 : decode cX3_init 13 = .ok (.bipush 8, 2) := by decide +kernel
theorem dX3_init_15 : decode cX3_init 15 = .ok (.newarray .int, 2) := by decide +kernel
theorem dX3_init_17 : decode cX3_init 17 = .ok (.putfield 15, 3) := by decide +kernel
theorem dX3_init_20 : decode cX3_init 20 = .ok (.aload_n 0, 1) := by decide +kernel
theorem dX3_init_21 : decode cX3_init 21 = .ok (.bipush 8, 2) := by decide +kernel
theorem dX3_init_23 : decode cX3_init 23 = .ok (.newarray .int, 2) := by decide +kernel
theorem dX3_init_25 : decode cX3_init 25 = .ok (.putfield 18, 3) := by decide +kernel
theorem dX3_init_28 : decode cX3_init 28 = .ok (.aload_n 0, 1) := by decide +kernel
theorem dX3_init_29 : decode cX3_init 29 = .ok (.bipush 8, 2) := by decide +kernel
theorem dX3_init_31 : decode cX3_init 31 = .ok (.newarray .int, 2) := by decide +kernel
theorem dX3_init_33 : decode cX3_init 33 = .ok (.putfield 21, 3) := by decide +kernel
theorem dX3_init_36 : decode cX3_init 36 = .ok (.aload_n 0, 1) := by decide +kernel
theorem dX3_init_37 : decode cX3_init 37 = .ok (.iconst 0, 1) := by decide +kernel
theorem dX3_init_38 : decode cX3_init 38 = .ok (.putfield 24, 3) := by decide +kernel
theorem dX3_init_41 : decode cX3_init 41 = .ok (.return_, 1) := by decide +kernel
theorem dX3_has_0 : decode cX3_has 0 = .ok (.iload_n 1, 1) := by decide +kernel
theorem dX3_has_1 : decode cX3_has 1 = .ok (.ifCond .lt 15, 3) := by decide +kernel
theorem dX3_has_4 : decode cX3_has 4 = .ok (.iload_n 1, 1) := by decide +kernel
theorem dX3_has_5 : decode cX3_has 5 = .ok (.aload_n 0, 1) := by decide +kernel
theorem dX3_has_6 : decode cX3_has 6 = .ok (.getfield 24, 3) := by decide +kernel
theorem dX3_has_9 : decode cX3_has 9 = .ok (.if_icmp .ge 7, 3) := by decide +kernel
theorem dX3_has_12 : decode cX3_has 12 = .ok (.iconst 1, 1) := by decide +kernel
theorem dX3_has_13 : decode cX3_has 13 = .ok (.goto 4, 3) := by decide +kernel
theorem dX3_has_16 : decode cX3_has 16 = .ok (.iconst 0, 1) := by decide +kernel
theorem dX3_has_17 : decode cX3_has 17 = .ok (.ireturn, 1) := by decide +kernel
theorem dX3_add_0 : decode cX3_add 0 = .ok (.aload_n 0, 1) := by decide +kernel
theorem dX3_add_1 : decode cX3_add 1 = .ok (.getfield 24, 3) := by decide +kernel
theorem dX3_add_4 : decode cX3_add 4 = .ok (.bipush 8, 2) := by decide +kernel
theorem dX3_add_6 : decode cX3_add 6 = .ok (.if_icmp .lt 5, 3) := by decide +kernel
theorem dX3_add_9 : decode cX3_add 9 = .ok (.iconst (-1), 1) := by decide +kernel
theorem dX3_add_10 : decode cX3_add 10 = .ok (.ireturn, 1) := by decide +kernel
theorem dX3_add_11 : decode cX3_add 11 = .ok (.aload_n 0, 1) := by decide +kernel
theorem dX3_add_12 : decode cX3_add 12 = .ok (.getfield 9, 3) := by decide +kernel
theorem dX3_add_15 : decode cX3_add 15 = .ok (.aload_n 0, 1) := by decide +kernel
theorem dX3_add_16 : decode cX3_add 16 = .ok (.getfield 24, 3) := by decide +kernel
theorem dX3_add_19 : decode cX3_add 19 = .ok (.iload_n 1, 1) := by decide +kernel
theorem dX3_add_20 : decode cX3_add 20 = .ok (.iastore, 1) := by decide +kernel
theorem dX3_add_21 : decode cX3_add 21 = .ok (.aload_n 0, 1) := by decide +kernel
theorem dX3_add_22 : decode cX3_add 22 = .ok (.getfield 15, 3) := by decide +kernel
theorem dX3_add_25 : decode cX3_add 25 = .ok (.aload_n 0, 1) := by decide +kernel
theorem dX3_add_26 : decode cX3_add 26 = .ok (.getfield 24, 3) := by decide +kernel
theorem dX3_add_29 : decode cX3_add 29 = .ok (.iload_n 2, 1) := by decide +kernel
theorem dX3_add_30 : decode cX3_add 30 = .ok (.iastore, 1) := by decide +kernel
theorem dX3_add_31 : decode cX3_add 31 = .ok (.aload_n 0, 1) := by decide +kernel
theorem dX3_add_32 : decode cX3_add 32 = .ok (.getfield 18, 3) := by decide +kernel
theorem dX3_add_35 : decode cX3_add 35 = .ok (.aload_n 0, 1) := by decide +kernel
theorem dX3_add_36 : decode cX3_add 36 = .ok (.getfield 24, 3) := by decide +kernel
theorem dX3_add_39 : decode cX3_add 39 = .ok (.iload_n 3, 1) := by decide +kernel
theorem dX3_add_40 : decode cX3_add 40 = .ok (.iastore, 1) := by decide +kernel
theorem dX3_add_41 : decode cX3_add 41 = .ok (.aload_n 0, 1) := by decide +kernel
theorem dX3_add_42 : decode cX3_add 42 = .ok (.getfield 21, 3) := by decide +kernel
theorem dX3_add_45 : decode cX3_add 45 = .ok (.aload_n 0, 1) := by decide +kernel
theorem dX3_add_46 : decode cX3_add 46 = .ok (.getfield 24, 3) := by decide +kernel
theorem dX3_add_49 : decode cX3_add 49 = .ok (.iload 4, 2) := by decide +kernel
theorem dX3_add_51 : decode cX3_add 51 = .ok (.iastore, 1) := by decide +kernel
theorem dX3_add_52 : decode cX3_add 52 = .ok (.aload_n 0, 1) := by decide +kernel
theorem dX3_add_53 : decode cX3_add 53 = .ok (.dup, 1) := by decide +kernel
theorem dX3_add_54 : decode cX3_add 54 = .ok (.getfield 24, 3) := by decide +kernel
theorem dX3_add_57 : decode cX3_add 57 = .ok (.iconst 1, 1) := by decide +kernel
theorem dX3_add_58 : decode cX3_add 58 = .ok (.iadd, 1) := by decide +kernel
theorem dX3_add_59 : decode cX3_add 59 = .ok (.putfield 24, 3) := by decide +kernel
theorem dX3_add_62 : decode cX3_add 62 = .ok (.aload_n 0, 1) := by decide +kernel
theorem dX3_add_63 : decode cX3_add 63 = .ok (.getfield 24, 3) := by decide +kernel
theorem dX3_add_66 : decode cX3_add 66 = .ok (.iconst 1, 1) := by decide +kernel
theorem dX3_add_67 : decode cX3_add 67 = .ok (.isub, 1) := by decide +kernel
theorem dX3_add_68 : decode cX3_add 68 = .ok (.ireturn, 1) := by decide +kernel
theorem dX3_worth_0 : decode cX3_worth 0 = .ok (.aload_n 0, 1) := by decide +kernel
theorem dX3_worth_1 : decode cX3_worth 1 = .ok (.getfield 18, 3) := by decide +kernel
theorem dX3_worth_4 : decode cX3_worth 4 = .ok (.iload_n 1, 1) := by decide +kernel
theorem dX3_worth_5 : decode cX3_worth 5 = .ok (.iaload, 1) := by decide +kernel
theorem dX3_worth_6 : decode cX3_worth 6 = .ok (.i2l, 1) := by decide +kernel
theorem dX3_worth_7 : decode cX3_worth 7 = .ok (.aload_n 0, 1) := by decide +kernel
theorem dX3_worth_8 : decode cX3_worth 8 = .ok (.getfield 21, 3) := by decide +kernel
theorem dX3_worth_11 : decode cX3_worth 11 = .ok (.iload_n 1, 1) := by decide +kernel
theorem dX3_worth_12 : decode cX3_worth 12 = .ok (.iaload, 1) := by decide +kernel
theorem dX3_worth_13 : decode cX3_worth 13 = .ok (.i2l, 1) := by decide +kernel
theorem dX3_worth_14 : decode cX3_worth 14 = .ok (.lmul, 1) := by decide +kernel
theorem dX3_worth_15 : decode cX3_worth 15 = .ok (.lreturn, 1) := by decide +kernel
set_option maxRecDepth 20000 in
theorem ggX3_worthTill_X3_worth : GoodIn wsX3_worthTill wsX3_worth := goodIn_r _ [7, 8, 9, 10, 11, 12, 13, 14] rfl (by decide +kernel)
set_option maxRecDepth 20000 in
theorem gX3_worthTill_X3_worth : GoodIn wsX3_worthTill (wsV RX3 28 RX3 yX3_worth wsX3_worth) := goodIn_app (goodIn_of _ (by decide +kernel)) ggX3_worthTill_X3_worth
theorem dX3_worthTill_0 : decode cX3_worthTill 0 = .ok (.lconst 0, 1) := by decide +kernel
theorem dX3_worthTill_1 : decode cX3_worthTill 1 = .ok (.lstore_n 2, 1) := by decide +kernel
theorem dX3_worthTill_2 : decode cX3_worthTill 2 = .ok (.iconst 0, 1) := by decide +kernel
theorem dX3_worthTill_3 : decode cX3_worthTill 3 = .ok (.istore 4, 2) := by decide +kernel
theorem dX3_worthTill_5 : decode cX3_worthTill 5 = .ok (.iload 4, 2) := by decide +kernel
theorem dX3_worthTill_7 : decode cX3_worthTill 7 = .ok (.aload_n 0, 1) := by decide +kernel
theorem dX3_worthTill_8 : decode cX3_worthTill 8 = .ok (.getfield 24, 3) := by decide +kernel
theorem dX3_worthTill_11 : decode cX3_worthTill 11 = .ok (.if_icmp .ge 29, 3) := by decide +kernel
theorem dX3_worthTill_14 : decode cX3_worthTill 14 = .ok (.aload_n 0, 1) := by decide +kernel
theorem dX3_worthTill_15 : decode cX3_worthTill 15 = .ok (.getfield 9, 3) := by decide +kernel
theorem dX3_worthTill_18 : decode cX3_worthTill 18 = .ok (.iload 4, 2) := by decide +kernel
theorem dX3_worthTill_20 : decode cX3_worthTill 20 = .ok (.iaload, 1) := by decide +kernel
theorem dX3_worthTill_21 : decode cX3_worthTill 21 = .ok (.iload_n 1, 1) := by decide +kernel
theorem dX3_worthTill_22 : decode cX3_worthTill 22 = .ok (.if_icmp .gt 12, 3) := by decide +kernel
theorem dX3_worthTill_25 : decode cX3_worthTill 25 = .ok (.lload_n 2, 1) := by decide +kernel
theorem dX3_worthTill_26 : decode cX3_worthTill 26 = .ok (.aload_n 0, 1) := by decide +kernel
theorem dX3_worthTill_27 : decode cX3_worthTill 27 = .ok (.iload 4, 2) := by decide +kernel
theorem dX3_worthTill_29 : decode cX3_worthTill 29 = .ok (.invokevirtual 28, 3) := by decide +kernel
theorem dX3_worthTill_32 : decode cX3_worthTill 32 = .ok (.ladd, 1) := by decide +kernel
theorem dX3_worthTill_33 : decode cX3_worthTill 33 = .ok (.lstore_n 2, 1) := by decide +kernel
theorem dX3_worthTill_34 : decode cX3_worthTill 34 = .ok (.iinc 4 1, 3) := by decide +kernel
theorem dX3_worthTill_37 : decode cX3_worthTill 37 = .ok (.goto (-32), 3) := by decide +kernel
theorem dX3_worthTill_40 : decode cX3_worthTill 40 = .ok (.lload_n 2, 1) := by decide +kernel
theorem dX3_worthTill_41 : decode cX3_worthTill 41 = .ok (.lreturn, 1) := by decide +kernel
theorem dX4_init_0 : decode cX4_init 0 = .ok (.aload_n 0, 1) := by decide +kernel
theorem dX4_init_1 : decode cX4_init 1 = .ok (.invokespecial 3, 3) := by decide +kernel
theorem dX4_init_4 : decode cX4_init 4 = .ok (.aload_n 0, 1) := by decide +kernel
theorem dX4_init_5 : decode cX4_init 5 = .ok (.bipush 15, 2) := by decide +kernel
theorem dX4_init_7 : decode cX4_init 7 = .ok (.bipush 24, 2) := by decide +kernel
theorem dX4_init_9 : decode cX4_init 9 = .ok (.multianewarray 9 2, 4) := by decide +kernel
theorem dX4_init_13 : decode cX4_init 13 = .ok (.putfield 11, 3) := by decide +kernel
theorem dX4_init_16 : decode cX4_init 16 = .ok (.return_, 1) := by decide +kernel
theorem dX4_of_0 : decode cX4_of 0 = .ok (.aload_n 0, 1) := by decide +kernel
theorem dX4_of_1 : decode cX4_of 1 = .ok (.getfield 11, 3) := by decide +kernel
theorem dX4_of_4 : decode cX4_of 4 = .ok (.iload_n 1, 1) := by decide +kernel
theorem dX4_of_5 : decode cX4_of 5 = .ok (.aaload, 1) := by decide +kernel
theorem dX4_of_6 : decode cX4_of 6 = .ok (.iload_n 2, 1) := by decide +kernel
theorem dX4_of_7 : decode cX4_of 7 = .ok (.laload, 1) := by decide +kernel
theorem dX4_of_8 : decode cX4_of 8 = .ok (.lreturn, 1) := by decide +kernel
theorem dX4_ahead_0 : decode cX4_ahead 0 = .ok (.iload_n 2, 1) := by decide +kernel
theorem dX4_ahead_1 : decode cX4_ahead 1 = .ok (.ifCond .le 16, 3) := by decide +kernel
theorem dX4_ahead_4 : decode cX4_ahead 4 = .ok (.aload_n 0, 1) := by decide +kernel
theorem dX4_ahead_5 : decode cX4_ahead 5 = .ok (.getfield 11, 3) := by decide +kernel
theorem dX4_ahead_8 : decode cX4_ahead 8 = .ok (.iload_n 1, 1) := by decide +kernel
theorem dX4_ahead_9 : decode cX4_ahead 9 = .ok (.aaload, 1) := by decide +kernel
theorem dX4_ahead_10 : decode cX4_ahead 10 = .ok (.iload_n 2, 1) := by decide +kernel
theorem dX4_ahead_11 : decode cX4_ahead 11 = .ok (.iconst 1, 1) := by decide +kernel
theorem dX4_ahead_12 : decode cX4_ahead 12 = .ok (.isub, 1) := by decide +kernel
theorem dX4_ahead_13 : decode cX4_ahead 13 = .ok (.laload, 1) := by decide +kernel
theorem dX4_ahead_14 : decode cX4_ahead 14 = .ok (.goto 4, 3) := by decide +kernel
theorem dX4_ahead_17 : decode cX4_ahead 17 = .ok (.lconst 0, 1) := by decide +kernel
theorem dX4_ahead_18 : decode cX4_ahead 18 = .ok (.lreturn, 1) := by decide +kernel
set_option maxRecDepth 20000 in
theorem ggX4_fresh_X4_of : GoodIn wsX4_fresh wsX4_of := goodIn_r _ [5, 6, 11] rfl (by decide +kernel)
set_option maxRecDepth 20000 in
theorem gX4_fresh_X4_of : GoodIn wsX4_fresh (wsV RX4 16 RX4 yX4_of wsX4_of) := goodIn_app (goodIn_of _ (by decide +kernel)) ggX4_fresh_X4_of
set_option maxRecDepth 20000 in
theorem ggX4_fresh_X4_ahead : GoodIn wsX4_fresh wsX4_ahead := goodIn_r _ [10, 6, 11] rfl (by decide +kernel)
set_option maxRecDepth 20000 in
theorem gX4_fresh_X4_ahead : GoodIn wsX4_fresh (wsV RX4 20 RX4 yX4_ahead wsX4_ahead) := goodIn_app (goodIn_of _ (by decide +kernel)) ggX4_fresh_X4_ahead
theorem dX4_fresh_0 : decode cX4_fresh 0 = .ok (.aload_n 0, 1) := by decide +kernel
theorem dX4_fresh_1 : decode cX4_fresh 1 = .ok (.iload_n 1, 1) := by decide +kernel
theorem dX4_fresh_2 : decode cX4_fresh 2 = .ok (.iload_n 2, 1) := by decide +kernel
theorem dX4_fresh_3 : decode cX4_fresh 3 = .ok (.invokevirtual 16, 3) := by decide +kernel
theorem dX4_fresh_6 : decode cX4_fresh 6 = .ok (.aload_n 0, 1) := by decide +kernel
theorem dX4_fresh_7 : decode cX4_fresh 7 = .ok (.iload_n 1, 1) := by decide +kernel
theorem dX4_fresh_8 : decode cX4_fresh 8 = .ok (.iload_n 2, 1) := by decide +kernel
theorem dX4_fresh_9 : decode cX4_fresh 9 = .ok (.invokevirtual 20, 3) := by decide +kernel
theorem dX4_fresh_12 : decode cX4_fresh 12 = .ok (.lsub, 1) := by decide +kernel
theorem dX4_fresh_13 : decode cX4_fresh 13 = .ok (.lreturn, 1) := by decide +kernel
set_option maxRecDepth 20000 in
theorem ggX4_firstOf_X4_of : GoodIn wsX4_firstOf wsX4_of := goodIn_r _ [5, 6, 7] rfl (by decide +kernel)
set_option maxRecDepth 20000 in
theorem gX4_firstOf_X4_of : GoodIn wsX4_firstOf (wsV RX4 16 RX4 yX4_of wsX4_of) := goodIn_app (goodIn_of _ (by decide +kernel)) ggX4_firstOf_X4_of
theorem dX4_firstOf_0 : decode cX4_firstOf 0 = .ok (.iconst 0, 1) := by decide +kernel
theorem dX4_firstOf_1 : decode cX4_firstOf 1 = .ok (.istore 5, 2) := by decide +kernel
theorem dX4_firstOf_3 : decode cX4_firstOf 3 = .ok (.iload 5, 2) := by decide +kernel
theorem dX4_firstOf_5 : decode cX4_firstOf 5 = .ok (.bipush 24, 2) := by decide +kernel
theorem dX4_firstOf_7 : decode cX4_firstOf 7 = .ok (.if_icmp .ge 31, 3) := by decide +kernel
theorem dX4_firstOf_10 : decode cX4_firstOf 10 = .ok (.iload 5, 2) := by decide +kernel
theorem dX4_firstOf_12 : decode cX4_firstOf 12 = .ok (.iload 4, 2) := by decide +kernel
theorem dX4_firstOf_14 : decode cX4_firstOf 14 = .ok (.if_icmp .ge 24, 3) := by decide +kernel
theorem dX4_firstOf_17 : decode cX4_firstOf 17 = .ok (.aload_n 0, 1) := by decide +kernel
theorem dX4_firstOf_18 : decode cX4_firstOf 18 = .ok (.iload_n 1, 1) := by decide +kernel
theorem dX4_firstOf_19 : decode cX4_firstOf 19 = .ok (.iload 5, 2) := by decide +kernel
theorem dX4_firstOf_21 : decode cX4_firstOf 21 = .ok (.invokevirtual 16, 3) := by decide +kernel
theorem dX4_firstOf_24 : decode cX4_firstOf 24 = .ok (.lload_n 2, 1) := by decide +kernel
theorem dX4_firstOf_25 : decode cX4_firstOf 25 = .ok (.lcmp, 1) := by decide +kernel
theorem dX4_firstOf_26 : decode cX4_firstOf 26 = .ok (.ifCond .ne 6, 3) := by decide +kernel
theorem dX4_firstOf_29 : decode cX4_firstOf 29 = .ok (.iload 5, 2) := by decide +kernel
theorem dX4_firstOf_31 : decode cX4_firstOf 31 = .ok (.ireturn, 1) := by decide +kernel
theorem dX4_firstOf_32 : decode cX4_firstOf 32 = .ok (.iinc 5 1, 3) := by decide +kernel
theorem dX4_firstOf_35 : decode cX4_firstOf 35 = .ok (.goto (-32), 3) := by decide +kernel
theorem dX4_firstOf_38 : decode cX4_firstOf 38 = .ok (.iconst (-1), 1) := by decide +kernel
theorem dX4_firstOf_39 : decode cX4_firstOf 39 = .ok (.ireturn, 1) := by decide +kernel
set_option maxRecDepth 20000 in
theorem ggX4_reckon_X2_work : GoodIn wsX4_reckon wsX2_work := goodIn_r _ [9, 10, 11, 12, 13, 14, 15, 16, 17, 18, 19, 20, 21, 22, 23, 24, 25, 26, 27, 28, 8, 29, 30, 31, 32, 33, 34, 35, 36, 37, 38, 39, 40, 41, 42, 43, 44, 45, 46, 47, 48, 49, 50, 51, 52, 53, 54, 55, 56, 57, 162, 163, 164, 165, 166, 167, 168, 169, 170, 171, 172, 173, 174, 175, 176, 177, 178, 179, 180, 181, 182, 183, 184, 185, 186, 187] rfl (by decide +kernel)
set_option maxRecDepth 20000 in
theorem gX4_reckon_X2_work : GoodIn wsX4_reckon (wsV RX4 23 RX2 yX2_work wsX2_work) := goodIn_app (goodIn_of _ (by decide +kernel)) ggX4_reckon_X2_work
set_option maxRecDepth 20000 in
theorem ggX4_reckon_X3_worthTill : GoodIn wsX4_reckon wsX3_worthTill := goodIn_r _ [17, 18, 19, 20, 21, 22, 16, 23, 24, 25, 179, 180, 181, 182, 183] rfl (by decide +kernel)
set_option maxRecDepth 20000 in
theorem gX4_reckon_X3_worthTill : GoodIn wsX4_reckon (wsV RX4 33 RX3 yX3_worthTill wsX3_worthTill) := goodIn_app (goodIn_of _ (by decide +kernel)) ggX4_reckon_X3_worthTill
set_option maxRecDepth 20000 in
theorem ggX4_reckon_X4_reckonNet : GoodIn wsX4_reckon wsX4_reckonNet := goodIn_r _ [63, 3, 64, 1, 65, 66, 67, 62, 68, 69, 70, 71, 8, 72, 73, 31, 74, 48, 49, 50, 51, 52, 53, 37, 38, 39, 40, 41, 42, 54, 55, 56, 57, 75, 76, 77, 78, 79, 80, 81, 82, 83, 84, 85, 86, 87, 88, 89, 90, 91, 92, 93, 94, 95, 96, 97, 98, 99, 100, 101, 102, 11, 103, 104, 105, 106, 107, 108, 109, 110, 111, 112, 113, 114, 115, 116, 117, 118, 119, 120, 121, 122, 123, 124, 125, 126, 127, 128, 129, 130, 131, 132, 133, 134, 135, 136, 137, 138, 139, 140, 141, 142, 143, 144, 145, 146, 147, 148, 149, 150, 162, 163, 164, 165, 166, 167, 168, 169, 170, 171, 172, 173, 161, 187, 184, 185, 186, 174, 175, 176, 177, 178, 188, 189, 190, 191, 192, 193] rfl (by decide +kernel)
set_option maxRecDepth 20000 in
theorem gX4_reckon_X4_reckonNet : GoodIn wsX4_reckon (wsV RX4 38 RX4 yX4_reckonNet wsX4_reckonNet) := goodIn_app (goodIn_of _ (by decide +kernel)) ggX4_reckon_X4_reckonNet
set_option maxRecDepth 20000 in
theorem ggX4_reckon_X4_reckonCertified : GoodIn wsX4_reckon wsX4_reckonCertified := goodIn_r _ [154, 155, 1, 65, 66, 67, 62, 68, 75, 76, 77, 78, 162, 163, 164, 165, 166, 167, 168, 169, 170, 171, 172, 173, 161] rfl (by decide +kernel)
set_option maxRecDepth 20000 in
theorem gX4_reckon_X4_reckonCertified : GoodIn wsX4_reckon (wsV RX4 42 RX4 yX4_reckonCertified wsX4_reckonCertified) := goodIn_app (goodIn_of _ (by decide +kernel)) ggX4_reckon_X4_reckonCertified
set_option maxRecDepth 20000 in
theorem ggX4_reckon_X4_reckonDebt : GoodIn wsX4_reckon wsX4_reckonDebt := goodIn_r _ [159, 1, 160, 109, 97, 110, 89, 49, 50, 51, 52, 53, 75, 76, 77, 62, 78, 65, 66, 67, 68, 54, 55, 56, 57, 161, 187] rfl (by decide +kernel)
set_option maxRecDepth 20000 in
theorem gX4_reckon_X4_reckonDebt : GoodIn wsX4_reckon (wsV RX4 53 RX4 yX4_reckonDebt wsX4_reckonDebt) := goodIn_app (goodIn_of _ (by decide +kernel)) ggX4_reckon_X4_reckonDebt
theorem dX4_reckon_0 : decode cX4_reckon 0 = .ok (.iconst 0, 1) := by decide +kernel
theorem dX4_reckon_1 : decode cX4_reckon 1 = .ok (.istore_n 2, 1) := by decide +kernel
theorem dX4_reckon_2 : decode cX4_reckon 2 = .ok (.iload_n 2, 1) := by decide +kernel
theorem dX4_reckon_3 : decode cX4_reckon 3 = .ok (.bipush 24, 2) := by decide +kernel
theorem dX4_reckon_5 : decode cX4_reckon 5 = .ok (.if_icmp .ge 50, 3) := by decide +kernel
theorem dX4_reckon_8 : decode cX4_reckon 8 = .ok (.aload_n 0, 1) := by decide +kernel
theorem dX4_reckon_9 : decode cX4_reckon 9 = .ok (.getfield 11, 3) := by decide +kernel
theorem dX4_reckon_12 : decode cX4_reckon 12 = .ok (.iconst 0, 1) := by decide +kernel
theorem dX4_reckon_13 : decode cX4_reckon 13 = .ok (.aaload, 1) := by decide +kernel
theorem dX4_reckon_14 : decode cX4_reckon 14 = .ok (.iload_n 2, 1) := by decide +kernel
theorem dX4_reckon_15 : decode cX4_reckon 15 = .ok (.aload_n 1, 1) := by decide +kernel
theorem dX4_reckon_16 : decode cX4_reckon 16 = .ok (.iload_n 2, 1) := by decide +kernel
theorem dX4_reckon_17 : decode cX4_reckon 17 = .ok (.invokevirtual 23, 3) := by decide +kernel
theorem dX4_reckon_20 : decode cX4_reckon 20 = .ok (.lastore, 1) := by decide +kernel
theorem dX4_reckon_21 : decode cX4_reckon 21 = .ok (.aload_n 0, 1) := by decide +kernel
theorem dX4_reckon_22 : decode cX4_reckon 22 = .ok (.getfield 11, 3) := by decide +kernel
theorem dX4_reckon_25 : decode cX4_reckon 25 = .ok (.iconst 1, 1) := by decide +kernel
theorem dX4_reckon_26 : decode cX4_reckon 26 = .ok (.aaload, 1) := by decide +kernel
theorem dX4_reckon_27 : decode cX4_reckon 27 = .ok (.iload_n 2, 1) := by decide +kernel
theorem dX4_reckon_28 : decode cX4_reckon 28 = .ok (.aload_n 1, 1) := by decide +kernel
theorem dX4_reckon_29 : decode cX4_reckon 29 = .ok (.getfield 29, 3) := by decide +kernel
theorem dX4_reckon_32 : decode cX4_reckon 32 = .ok (.iload_n 2, 1) := by decide +kernel
theorem dX4_reckon_33 : decode cX4_reckon 33 = .ok (.invokevirtual 33, 3) := by decide +kernel
theorem dX4_reckon_36 : decode cX4_reckon 36 = .ok (.lastore, 1) := by decide +kernel
theorem dX4_reckon_37 : decode cX4_reckon 37 = .ok (.aload_n 0, 1) := by decide +kernel
theorem dX4_reckon_38 : decode cX4_reckon 38 = .ok (.aload_n 1, 1) := by decide +kernel
theorem dX4_reckon_39 : decode cX4_reckon 39 = .ok (.iload_n 2, 1) := by decide +kernel
theorem dX4_reckon_40 : decode cX4_reckon 40 = .ok (.invokevirtual 38, 3) := by decide +kernel
theorem dX4_reckon_43 : decode cX4_reckon 43 = .ok (.aload_n 0, 1) := by decide +kernel
theorem dX4_reckon_44 : decode cX4_reckon 44 = .ok (.aload_n 1, 1) := by decide +kernel
theorem dX4_reckon_45 : decode cX4_reckon 45 = .ok (.iload_n 2, 1) := by decide +kernel
theorem dX4_reckon_46 : decode cX4_reckon 46 = .ok (.invokevirtual 42, 3) := by decide +kernel
theorem dX4_reckon_49 : decode cX4_reckon 49 = .ok (.iinc 2 1, 3) := by decide +kernel
theorem dX4_reckon_52 : decode cX4_reckon 52 = .ok (.goto (-50), 3) := by decide +kernel
theorem dX4_reckon_55 : decode cX4_reckon 55 = .ok (.aload_n 0, 1) := by decide +kernel
theorem dX4_reckon_56 : decode cX4_reckon 56 = .ok (.aload_n 1, 1) := by decide +kernel
theorem dX4_reckon_57 : decode cX4_reckon 57 = .ok (.getfield 45, 3) := by decide +kernel
theorem dX4_reckon_60 : decode cX4_reckon 60 = .ok (.aload_n 1, 1) := by decide +kernel
theorem dX4_reckon_61 : decode cX4_reckon 61 = .ok (.getfield 49, 3) := by decide +kernel
theorem dX4_reckon_64 : decode cX4_reckon 64 = .ok (.invokevirtual 53, 3) := by decide +kernel
theorem dX4_reckon_67 : decode cX4_reckon 67 = .ok (.return_, 1) := by decide +kernel
set_option maxRecDepth 20000 in
theorem ggX4_reckonNet_X4_of : GoodIn wsX4_reckonNet wsX4_of := goodIn_r _ [8, 3, 122] rfl (by decide +kernel)
set_option maxRecDepth 20000 in
theorem gX4_reckonNet_X4_of : GoodIn wsX4_reckonNet (wsV RX4 16 RX4 yX4_of wsX4_of) := goodIn_app (goodIn_of _ (by decide +kernel)) ggX4_reckonNet_X4_of
set_option maxRecDepth 20000 in
theorem ggX4_reckonNet_X2_materials : GoodIn wsX4_reckonNet wsX2_materials := goodIn_r _ [13, 14, 15, 16, 17, 18, 19, 20, 21, 22, 23, 24, 25, 26, 27, 28, 29, 30, 31, 32, 110, 111, 112, 113, 114, 115, 116, 117, 118, 119, 120, 121, 123, 124, 125, 126] rfl (by decide +kernel)
set_option maxRecDepth 20000 in
theorem gX4_reckonNet_X2_materials : GoodIn wsX4_reckonNet (wsV RX4 57 RX2 yX2_materials wsX2_materials) := goodIn_app (goodIn_of _ (by decide +kernel)) ggX4_reckonNet_X2_materials
set_option maxRecDepth 20000 in
theorem ggX4_reckonNet_X4_ahead : GoodIn wsX4_reckonNet wsX4_ahead := goodIn_r _ [36, 3, 122] rfl (by decide +kernel)
set_option maxRecDepth 20000 in
theorem gX4_reckonNet_X4_ahead : GoodIn wsX4_reckonNet (wsV RX4 20 RX4 yX4_ahead wsX4_ahead) := goodIn_app (goodIn_of _ (by decide +kernel)) ggX4_reckonNet_X4_ahead
set_option maxRecDepth 20000 in
theorem ggX4_reckonNet_X4_fresh : GoodIn wsX4_reckonNet wsX4_fresh := goodIn_r _ [40, 4, 5, 6, 7, 8, 3, 33, 34, 35, 36, 122] rfl (by decide +kernel)
set_option maxRecDepth 20000 in
theorem gX4_reckonNet_X4_fresh : GoodIn wsX4_reckonNet (wsV RX4 60 RX4 yX4_fresh wsX4_fresh) := goodIn_app (goodIn_of _ (by decide +kernel)) ggX4_reckonNet_X4_fresh
set_option maxRecDepth 20000 in
theorem ggX4_reckonNet_X2_adjustedFor : GoodIn wsX4_reckonNet wsX2_adjustedFor := goodIn_r _ [44, 45, 46, 15, 23, 24, 25, 26, 27, 28, 17, 18, 19, 20, 21, 22, 29, 30, 31, 32, 110, 111, 112, 113, 114, 115, 116, 117, 118, 119, 120, 121, 124, 125, 126, 123] rfl (by decide +kernel)
set_option maxRecDepth 20000 in
theorem gX4_reckonNet_X2_adjustedFor : GoodIn wsX4_reckonNet (wsV RX4 63 RX2 yX2_adjustedFor wsX2_adjustedFor) := goodIn_app (goodIn_of _ (by decide +kernel)) ggX4_reckonNet_X2_adjustedFor
set_option maxRecDepth 20000 in
theorem ggX4_reckonNet_X8_of : GoodIn wsX4_reckonNet wsX8_of := goodIn_r _ [21, 22, 123] rfl (by decide +kernel)
set_option maxRecDepth 20000 in
theorem gX4_reckonNet_X8_of : GoodIn wsX4_reckonNet (wsV RX4 69 RX8 yX8_of wsX8_of) := goodIn_app (goodIn_of _ (by decide +kernel)) ggX4_reckonNet_X8_of
set_option maxRecDepth 20000 in
theorem ggX4_reckonNet_X2_retained : GoodIn wsX4_reckonNet wsX2_retained := goodIn_r _ [51, 52, 53, 54, 55, 56, 14, 15, 29, 30, 31, 32, 57, 58, 59, 12, 60, 61, 62, 17, 18, 19, 20, 21, 22, 110, 111, 112, 113, 114, 115, 116, 117, 118, 119, 120, 121, 127, 128, 129, 130, 131, 123] rfl (by decide +kernel)
set_option maxRecDepth 20000 in
theorem gX4_reckonNet_X2_retained : GoodIn wsX4_reckonNet (wsV RX4 72 RX2 yX2_retained wsX2_retained) := goodIn_app (goodIn_of _ (by decide +kernel)) ggX4_reckonNet_X2_retained
set_option maxRecDepth 20000 in
theorem ggX4_reckonNet_X2_recoveredFor : GoodIn wsX4_reckonNet wsX2_recoveredFor := goodIn_r _ [66, 52, 15, 61, 62, 67, 68, 55, 69, 53, 54, 56, 70, 71, 72, 12, 73, 17, 18, 19, 20, 21, 22, 29, 30, 31, 32, 110, 111, 112, 113, 114, 115, 116, 117, 118, 119, 120, 121, 127, 128, 129, 130, 131, 123] rfl (by decide +kernel)
set_option maxRecDepth 20000 in
theorem gX4_reckonNet_X2_recoveredFor : GoodIn wsX4_reckonNet (wsV RX4 76 RX2 yX2_recoveredFor wsX2_recoveredFor) := goodIn_app (goodIn_of _ (by decide +kernel)) ggX4_reckonNet_X2_recoveredFor
set_option maxRecDepth 20000 in
theorem ggX4_reckonNet_X7_allHeldIn : GoodIn wsX4_reckonNet wsX7_allHeldIn := goodIn_r _ [78, 79, 80, 81, 82, 77, 83, 84, 85, 86, 87, 88, 29, 30, 31, 32, 132, 133, 134, 135, 136, 137] rfl (by decide +kernel)
set_option maxRecDepth 20000 in
theorem gX4_reckonNet_X7_allHeldIn : GoodIn wsX4_reckonNet (wsV RX4 84 RX7 yX7_allHeldIn wsX7_allHeldIn) := goodIn_app (goodIn_of _ (by decide +kernel)) ggX4_reckonNet_X7_allHeldIn
set_option maxRecDepth 20000 in
theorem ggX4_reckonNet_X2_damages : GoodIn wsX4_reckonNet wsX2_damages := goodIn_r _ [92, 15, 61, 62, 53, 54, 55, 56, 93, 94, 95, 12, 96, 14, 97, 98, 99, 100, 101, 102, 103, 104, 17, 18, 19, 20, 21, 22, 29, 30, 31, 32, 105, 106, 107, 108, 110, 111, 112, 113, 114, 115, 116, 117, 118, 119, 120, 121, 127, 128, 129, 130, 131, 123] rfl (by decide +kernel)
set_option maxRecDepth 20000 in
theorem gX4_reckonNet_X2_damages : GoodIn wsX4_reckonNet (wsV RX4 89 RX2 yX2_damages wsX2_damages) := goodIn_app (goodIn_of _ (by decide +kernel)) ggX4_reckonNet_X2_damages
set_option maxRecDepth 20000 in
theorem ggX4_reckonNet_X2_advanced : GoodIn wsX4_reckonNet wsX2_advanced := goodIn_r _ [73, 15, 61, 62, 17, 18, 19, 20, 21, 22, 29, 30, 31, 32, 110, 111, 112, 113, 114, 115, 116, 117, 118, 119, 120, 121, 127, 128, 129, 130, 131, 123] rfl (by decide +kernel)
set_option maxRecDepth 20000 in
theorem gX4_reckonNet_X2_advanced : GoodIn wsX4_reckonNet (wsV RX4 92 RX2 yX2_advanced wsX2_advanced) := goodIn_app (goodIn_of _ (by decide +kernel)) ggX4_reckonNet_X2_advanced
theorem dX4_reckonNet_0 : decode cX4_reckonNet 0 = .ok (.aload_n 0, 1) := by decide +kernel
theorem dX4_reckonNet_1 : decode cX4_reckonNet 1 = .ok (.iconst 0, 1) := by decide +kernel
theorem dX4_reckonNet_2 : decode cX4_reckonNet 2 = .ok (.iload_n 2, 1) := by decide +kernel
theorem dX4_reckonNet_3 : decode cX4_reckonNet 3 = .ok (.invokevirtual 16, 3) := by decide +kernel
theorem dX4_reckonNet_6 : decode cX4_reckonNet 6 = .ok (.lstore_n 3, 1) := by decide +kernel
theorem dX4_reckonNet_7 : decode cX4_reckonNet 7 = .ok (.aload_n 1, 1) := by decide +kernel
theorem dX4_reckonNet_8 : decode cX4_reckonNet 8 = .ok (.iload_n 2, 1) := by decide +kernel
theorem dX4_reckonNet_9 : decode cX4_reckonNet 9 = .ok (.invokevirtual 57, 3) := by decide +kernel
theorem dX4_reckonNet_12 : decode cX4_reckonNet 12 = .ok (.lstore 5, 2) := by decide +kernel
theorem dX4_reckonNet_14 : decode cX4_reckonNet 14 = .ok (.aload_n 0, 1) := by decide +kernel
theorem dX4_reckonNet_15 : decode cX4_reckonNet 15 = .ok (.bipush 14, 2) := by decide +kernel
theorem dX4_reckonNet_17 : decode cX4_reckonNet 17 = .ok (.iload_n 2, 1) := by decide +kernel
theorem dX4_reckonNet_18 : decode cX4_reckonNet 18 = .ok (.invokevirtual 20, 3) := by decide +kernel
theorem dX4_reckonNet_21 : decode cX4_reckonNet 21 = .ok (.aload_n 1, 1) := by decide +kernel
theorem dX4_reckonNet_22 : decode cX4_reckonNet 22 = .ok (.aload_n 0, 1) := by decide +kernel
theorem dX4_reckonNet_23 : decode cX4_reckonNet 23 = .ok (.iconst 0, 1) := by decide +kernel
theorem dX4_reckonNet_24 : decode cX4_reckonNet 24 = .ok (.iload_n 2, 1) := by decide +kernel
theorem dX4_reckonNet_25 : decode cX4_reckonNet 25 = .ok (.invokevirtual 60, 3) := by decide +kernel
theorem dX4_reckonNet_28 : decode cX4_reckonNet 28 = .ok (.iload_n 2, 1) := by decide +kernel
theorem dX4_reckonNet_29 : decode cX4_reckonNet 29 = .ok (.invokevirtual 63, 3) := by decide +kernel
theorem dX4_reckonNet_32 : decode cX4_reckonNet 32 = .ok (.ladd, 1) := by decide +kernel
theorem dX4_reckonNet_33 : decode cX4_reckonNet 33 = .ok (.lstore 7, 2) := by decide +kernel
theorem dX4_reckonNet_35 : decode cX4_reckonNet 35 = .ok (.aload_n 1, 1) := by decide +kernel
theorem dX4_reckonNet_36 : decode cX4_reckonNet 36 = .ok (.aload_n 1, 1) := by decide +kernel
theorem dX4_reckonNet_37 : decode cX4_reckonNet 37 = .ok (.getfield 45, 3) := by decide +kernel
theorem dX4_reckonNet_40 : decode cX4_reckonNet 40 = .ok (.iconst 0, 1) := by decide +kernel
theorem dX4_reckonNet_41 : decode cX4_reckonNet 41 = .ok (.invokevirtual 69, 3) := by decide +kernel
theorem dX4_reckonNet_44 : decode cX4_reckonNet 44 = .ok (.lload_n 3, 1) := by decide +kernel
theorem dX4_reckonNet_45 : decode cX4_reckonNet 45 = .ok (.iload_n 2, 1) := by decide +kernel
theorem dX4_reckonNet_46 : decode cX4_reckonNet 46 = .ok (.invokevirtual 72, 3) := by decide +kernel
theorem dX4_reckonNet_49 : decode cX4_reckonNet 49 = .ok (.lstore 9, 2) := by decide +kernel
theorem dX4_reckonNet_51 : decode cX4_reckonNet 51 = .ok (.aload_n 1, 1) := by decide +kernel
theorem dX4_reckonNet_52 : decode cX4_reckonNet 52 = .ok (.lload_n 3, 1) := by decide +kernel
theorem dX4_reckonNet_53 : decode cX4_reckonNet 53 = .ok (.aload_n 0, 1) := by decide +kernel
theorem dX4_reckonNet_54 : decode cX4_reckonNet 54 = .ok (.iconst 4, 1) := by decide +kernel
theorem dX4_reckonNet_55 : decode cX4_reckonNet 55 = .ok (.iload_n 2, 1) := by decide +kernel
theorem dX4_reckonNet_56 : decode cX4_reckonNet 56 = .ok (.invokevirtual 20, 3) := by decide +kernel
theorem dX4_reckonNet_59 : decode cX4_reckonNet 59 = .ok (.iload_n 2, 1) := by decide +kernel
theorem dX4_reckonNet_60 : decode cX4_reckonNet 60 = .ok (.invokevirtual 76, 3) := by decide +kernel
theorem dX4_reckonNet_63 : decode cX4_reckonNet 63 = .ok (.lstore 11, 2) := by decide +kernel
theorem dX4_reckonNet_65 : decode cX4_reckonNet 65 = .ok (.aload_n 1, 1) := by decide +kernel
theorem dX4_reckonNet_66 : decode cX4_reckonNet 66 = .ok (.getfield 80, 3) := by decide +kernel
theorem dX4_reckonNet_69 : decode cX4_reckonNet 69 = .ok (.iload_n 2, 1) := by decide +kernel
theorem dX4_reckonNet_70 : decode cX4_reckonNet 70 = .ok (.invokevirtual 84, 3) := by decide +kernel
theorem dX4_reckonNet_73 : decode cX4_reckonNet 73 = .ok (.lstore 13, 2) := by decide +kernel
theorem dX4_reckonNet_75 : decode cX4_reckonNet 75 = .ok (.aload_n 1, 1) := by decide +kernel
theorem dX4_reckonNet_76 : decode cX4_reckonNet 76 = .ok (.iload_n 2, 1) := by decide +kernel
theorem dX4_reckonNet_77 : decode cX4_reckonNet 77 = .ok (.invokevirtual 89, 3) := by decide +kernel
theorem dX4_reckonNet_80 : decode cX4_reckonNet 80 = .ok (.lstore 15, 2) := by decide +kernel
theorem dX4_reckonNet_82 : decode cX4_reckonNet 82 = .ok (.aload_n 0, 1) := by decide +kernel
theorem dX4_reckonNet_83 : decode cX4_reckonNet 83 = .ok (.getfield 11, 3) := by decide +kernel
theorem dX4_reckonNet_86 : decode cX4_reckonNet 86 = .ok (.iconst 2, 1) := by decide +kernel
theorem dX4_reckonNet_87 : decode cX4_reckonNet 87 = .ok (.aaload, 1) := by decide +kernel
theorem dX4_reckonNet_88 : decode cX4_reckonNet 88 = .ok (.iload_n 2, 1) := by decide +kernel
theorem dX4_reckonNet_89 : decode cX4_reckonNet 89 = .ok (.lload 5, 2) := by decide +kernel
theorem dX4_reckonNet_91 : decode cX4_reckonNet 91 = .ok (.lastore, 1) := by decide +kernel
theorem dX4_reckonNet_92 : decode cX4_reckonNet 92 = .ok (.aload_n 0, 1) := by decide +kernel
theorem dX4_reckonNet_93 : decode cX4_reckonNet 93 = .ok (.getfield 11, 3) := by decide +kernel
theorem dX4_reckonNet_96 : decode cX4_reckonNet 96 = .ok (.bipush 14, 2) := by decide +kernel
theorem dX4_reckonNet_98 : decode cX4_reckonNet 98 = .ok (.aaload, 1) := by decide +kernel
theorem dX4_reckonNet_99 : decode cX4_reckonNet 99 = .ok (.iload_n 2, 1) := by decide +kernel
theorem dX4_reckonNet_100 : decode cX4_reckonNet 100 = .ok (.lload 7, 2) := by decide +kernel
theorem dX4_reckonNet_102 : decode cX4_reckonNet 102 = .ok (.lastore, 1) := by decide +kernel
theorem dX4_reckonNet_103 : decode cX4_reckonNet 103 = .ok (.aload_n 0, 1) := by decide +kernel
theorem dX4_reckonNet_104 : decode cX4_reckonNet 104 = .ok (.getfield 11, 3) := by decide +kernel
theorem dX4_reckonNet_107 : decode cX4_reckonNet 107 = .ok (.iconst 3, 1) := by decide +kernel
theorem dX4_reckonNet_108 : decode cX4_reckonNet 108 = .ok (.aaload, 1) := by decide +kernel
theorem dX4_reckonNet_109 : decode cX4_reckonNet 109 = .ok (.iload_n 2, 1) := by decide +kernel
theorem dX4_reckonNet_110 : decode cX4_reckonNet 110 = .ok (.lload 9, 2) := by decide +kernel
theorem dX4_reckonNet_112 : decode cX4_reckonNet 112 = .ok (.lastore, 1) := by decide +kernel
theorem dX4_reckonNet_113 : decode cX4_reckonNet 113 = .ok (.aload_n 0, 1) := by decide +kernel
theorem dX4_reckonNet_114 : decode cX4_reckonNet 114 = .ok (.getfield 11, 3) := by decide +kernel
theorem dX4_reckonNet_117 : decode cX4_reckonNet 117 = .ok (.iconst 4, 1) := by decide +kernel
theorem dX4_reckonNet_118 : decode cX4_reckonNet 118 = .ok (.aaload, 1) := by decide +kernel
theorem dX4_reckonNet_119 : decode cX4_reckonNet 119 = .ok (.iload_n 2, 1) := by decide +kernel
theorem dX4_reckonNet_120 : decode cX4_reckonNet 120 = .ok (.lload 11, 2) := by decide +kernel
theorem dX4_reckonNet_122 : decode cX4_reckonNet 122 = .ok (.lastore, 1) := by decide +kernel
theorem dX4_reckonNet_123 : decode cX4_reckonNet 123 = .ok (.aload_n 0, 1) := by decide +kernel
theorem dX4_reckonNet_124 : decode cX4_reckonNet 124 = .ok (.getfield 11, 3) := by decide +kernel
theorem dX4_reckonNet_127 : decode cX4_reckonNet 127 = .ok (.iconst 5, 1) := by decide +kernel
theorem dX4_reckonNet_128 : decode cX4_reckonNet 128 = .ok (.aaload, 1) := by decide +kernel
theorem dX4_reckonNet_129 : decode cX4_reckonNet 129 = .ok (.iload_n 2, 1) := by decide +kernel
theorem dX4_reckonNet_130 : decode cX4_reckonNet 130 = .ok (.lload 13, 2) := by decide +kernel
theorem dX4_reckonNet_132 : decode cX4_reckonNet 132 = .ok (.lastore, 1) := by decide +kernel
theorem dX4_reckonNet_133 : decode cX4_reckonNet 133 = .ok (.aload_n 0, 1) := by decide +kernel
theorem dX4_reckonNet_134 : decode cX4_reckonNet 134 = .ok (.getfield 11, 3) := by decide +kernel
theorem dX4_reckonNet_137 : decode cX4_reckonNet 137 = .ok (.bipush 13, 2) := by decide +kernel
theorem dX4_reckonNet_139 : decode cX4_reckonNet 139 = .ok (.aaload, 1) := by decide +kernel
theorem dX4_reckonNet_140 : decode cX4_reckonNet 140 = .ok (.iload_n 2, 1) := by decide +kernel
theorem dX4_reckonNet_141 : decode cX4_reckonNet 141 = .ok (.lload 15, 2) := by decide +kernel
theorem dX4_reckonNet_143 : decode cX4_reckonNet 143 = .ok (.lastore, 1) := by decide +kernel
theorem dX4_reckonNet_144 : decode cX4_reckonNet 144 = .ok (.aload_n 0, 1) := by decide +kernel
theorem dX4_reckonNet_145 : decode cX4_reckonNet 145 = .ok (.getfield 11, 3) := by decide +kernel
theorem dX4_reckonNet_148 : decode cX4_reckonNet 148 = .ok (.bipush 6, 2) := by decide +kernel
theorem dX4_reckonNet_150 : decode cX4_reckonNet 150 = .ok (.aaload, 1) := by decide +kernel
theorem dX4_reckonNet_151 : decode cX4_reckonNet 151 = .ok (.iload_n 2, 1) := by decide +kernel
theorem dX4_reckonNet_152 : decode cX4_reckonNet 152 = .ok (.lload_n 3, 1) := by decide +kernel
theorem dX4_reckonNet_153 : decode cX4_reckonNet 153 = .ok (.lload 5, 2) := by decide +kernel
theorem dX4_reckonNet_155 : decode cX4_reckonNet 155 = .ok (.ladd, 1) := by decide +kernel
theorem dX4_reckonNet_156 : decode cX4_reckonNet 156 = .ok (.aload_n 1, 1) := by decide +kernel
theorem dX4_reckonNet_157 : decode cX4_reckonNet 157 = .ok (.invokevirtual 92, 3) := by decide +kernel
theorem dX4_reckonNet_160 : decode cX4_reckonNet 160 = .ok (.ladd, 1) := by decide +kernel
theorem dX4_reckonNet_161 : decode cX4_reckonNet 161 = .ok (.lload 7, 2) := by decide +kernel
theorem dX4_reckonNet_163 : decode cX4_reckonNet 163 = .ok (.ladd, 1) := by decide +kernel
theorem dX4_reckonNet_164 : decode cX4_reckonNet 164 = .ok (.lload 9, 2) := by decide +kernel
theorem dX4_reckonNet_166 : decode cX4_reckonNet 166 = .ok (.lsub, 1) := by decide +kernel
theorem dX4_reckonNet_167 : decode cX4_reckonNet 167 = .ok (.lload 11, 2) := by decide +kernel
theorem dX4_reckonNet_169 : decode cX4_reckonNet 169 = .ok (.lsub, 1) := by decide +kernel
theorem dX4_reckonNet_170 : decode cX4_reckonNet 170 = .ok (.lload 13, 2) := by decide +kernel
theorem dX4_reckonNet_172 : decode cX4_reckonNet 172 = .ok (.lsub, 1) := by decide +kernel
theorem dX4_reckonNet_173 : decode cX4_reckonNet 173 = .ok (.lload 15, 2) := by decide +kernel
theorem dX4_reckonNet_175 : decode cX4_reckonNet 175 = .ok (.lsub, 1) := by decide +kernel
theorem dX4_reckonNet_176 : decode cX4_reckonNet 176 = .ok (.lastore, 1) := by decide +kernel
theorem dX4_reckonNet_177 : decode cX4_reckonNet 177 = .ok (.return_, 1) := by decide +kernel
set_option maxRecDepth 20000 in
theorem ggX4_reckonCertified_X4_of : GoodIn wsX4_reckonCertified wsX4_of := goodIn_r _ [7, 2, 24] rfl (by decide +kernel)
set_option maxRecDepth 20000 in
theorem gX4_reckonCertified_X4_of : GoodIn wsX4_reckonCertified (wsV RX4 16 RX4 yX4_of wsX4_of) := goodIn_app (goodIn_of _ (by decide +kernel)) ggX4_reckonCertified_X4_of
set_option maxRecDepth 20000 in
theorem ggX4_reckonCertified_X4_ahead : GoodIn wsX4_reckonCertified wsX4_ahead := goodIn_r _ [11, 2, 24] rfl (by decide +kernel)
set_option maxRecDepth 20000 in
theorem gX4_reckonCertified_X4_ahead : GoodIn wsX4_reckonCertified (wsV RX4 20 RX4 yX4_ahead wsX4_ahead) := goodIn_app (goodIn_of _ (by decide +kernel)) ggX4_reckonCertified_X4_ahead
theorem dX4_reckonCertified_0 : decode cX4_reckonCertified 0 = .ok (.aload_n 0, 1) := by decide +kernel
theorem dX4_reckonCertified_1 : decode cX4_reckonCertified 1 = .ok (.bipush 6, 2) := by decide +kernel
theorem dX4_reckonCertified_3 : decode cX4_reckonCertified 3 = .ok (.iload_n 2, 1) := by decide +kernel
theorem dX4_reckonCertified_4 : decode cX4_reckonCertified 4 = .ok (.invokevirtual 16, 3) := by decide +kernel
theorem dX4_reckonCertified_7 : decode cX4_reckonCertified 7 = .ok (.aload_n 0, 1) := by decide +kernel
theorem dX4_reckonCertified_8 : decode cX4_reckonCertified 8 = .ok (.bipush 8, 2) := by decide +kernel
theorem dX4_reckonCertified_10 : decode cX4_reckonCertified 10 = .ok (.iload_n 2, 1) := by decide +kernel
theorem dX4_reckonCertified_11 : decode cX4_reckonCertified 11 = .ok (.invokevirtual 20, 3) := by decide +kernel
theorem dX4_reckonCertified_14 : decode cX4_reckonCertified 14 = .ok (.lsub, 1) := by decide +kernel
theorem dX4_reckonCertified_15 : decode cX4_reckonCertified 15 = .ok (.lstore_n 3, 1) := by decide +kernel
theorem dX4_reckonCertified_16 : decode cX4_reckonCertified 16 = .ok (.lload_n 3, 1) := by decide +kernel
theorem dX4_reckonCertified_17 : decode cX4_reckonCertified 17 = .ok (.lconst 0, 1) := by decide +kernel
theorem dX4_reckonCertified_18 : decode cX4_reckonCertified 18 = .ok (.lcmp, 1) := by decide +kernel
theorem dX4_reckonCertified_19 : decode cX4_reckonCertified 19 = .ok (.ifCond .ge 13, 3) := by decide +kernel
theorem dX4_reckonCertified_22 : decode cX4_reckonCertified 22 = .ok (.iload_n 2, 1) := by decide +kernel
theorem dX4_reckonCertified_23 : decode cX4_reckonCertified 23 = .ok (.aload_n 1, 1) := by decide +kernel
theorem dX4_reckonCertified_24 : decode cX4_reckonCertified 24 = .ok (.getfield 96, 3) := by decide +kernel
theorem dX4_reckonCertified_27 : decode cX4_reckonCertified 27 = .ok (.if_icmp .ge 5, 3) := by decide +kernel
theorem dX4_reckonCertified_30 : decode cX4_reckonCertified 30 = .ok (.lconst 0, 1) := by decide +kernel
theorem dX4_reckonCertified_31 : decode cX4_reckonCertified 31 = .ok (.lstore_n 3, 1) := by decide +kernel
theorem dX4_reckonCertified_32 : decode cX4_reckonCertified 32 = .ok (.aload_n 0, 1) := by decide +kernel
theorem dX4_reckonCertified_33 : decode cX4_reckonCertified 33 = .ok (.getfield 11, 3) := by decide +kernel
theorem dX4_reckonCertified_36 : decode cX4_reckonCertified 36 = .ok (.bipush 7, 2) := by decide +kernel
theorem dX4_reckonCertified_38 : decode cX4_reckonCertified 38 = .ok (.aaload, 1) := by decide +kernel
theorem dX4_reckonCertified_39 : decode cX4_reckonCertified 39 = .ok (.iload_n 2, 1) := by decide +kernel
theorem dX4_reckonCertified_40 : decode cX4_reckonCertified 40 = .ok (.lload_n 3, 1) := by decide +kernel
theorem dX4_reckonCertified_41 : decode cX4_reckonCertified 41 = .ok (.lastore, 1) := by decide +kernel
theorem dX4_reckonCertified_42 : decode cX4_reckonCertified 42 = .ok (.aload_n 0, 1) := by decide +kernel
theorem dX4_reckonCertified_43 : decode cX4_reckonCertified 43 = .ok (.getfield 11, 3) := by decide +kernel
theorem dX4_reckonCertified_46 : decode cX4_reckonCertified 46 = .ok (.bipush 8, 2) := by decide +kernel
theorem dX4_reckonCertified_48 : decode cX4_reckonCertified 48 = .ok (.aaload, 1) := by decide +kernel
theorem dX4_reckonCertified_49 : decode cX4_reckonCertified 49 = .ok (.iload_n 2, 1) := by decide +kernel
theorem dX4_reckonCertified_50 : decode cX4_reckonCertified 50 = .ok (.aload_n 0, 1) := by decide +kernel
theorem dX4_reckonCertified_51 : decode cX4_reckonCertified 51 = .ok (.bipush 8, 2) := by decide +kernel
theorem dX4_reckonCertified_53 : decode cX4_reckonCertified 53 = .ok (.iload_n 2, 1) := by decide +kernel
theorem dX4_reckonCertified_54 : decode cX4_reckonCertified 54 = .ok (.invokevirtual 20, 3) := by decide +kernel
theorem dX4_reckonCertified_57 : decode cX4_reckonCertified 57 = .ok (.lload_n 3, 1) := by decide +kernel
theorem dX4_reckonCertified_58 : decode cX4_reckonCertified 58 = .ok (.ladd, 1) := by decide +kernel
theorem dX4_reckonCertified_59 : decode cX4_reckonCertified 59 = .ok (.lastore, 1) := by decide +kernel
theorem dX4_reckonCertified_60 : decode cX4_reckonCertified 60 = .ok (.return_, 1) := by decide +kernel
set_option maxRecDepth 20000 in
theorem ggX4_reckonDebt_X8_of : GoodIn wsX4_reckonDebt wsX8_of := goodIn_r _ [10, 11, 26] rfl (by decide +kernel)
set_option maxRecDepth 20000 in
theorem gX4_reckonDebt_X8_of : GoodIn wsX4_reckonDebt (wsV RX4 69 RX8 yX8_of wsX8_of) := goodIn_app (goodIn_of _ (by decide +kernel)) ggX4_reckonDebt_X8_of
set_option maxRecDepth 20000 in
theorem ggX4_reckonDebt_X4_ahead : GoodIn wsX4_reckonDebt wsX4_ahead := goodIn_r _ [16, 1, 25] rfl (by decide +kernel)
set_option maxRecDepth 20000 in
theorem gX4_reckonDebt_X4_ahead : GoodIn wsX4_reckonDebt (wsV RX4 20 RX4 yX4_ahead wsX4_ahead) := goodIn_app (goodIn_of _ (by decide +kernel)) ggX4_reckonDebt_X4_ahead
set_option maxRecDepth 20000 in
theorem ggX4_reckonDebt_X4_of : GoodIn wsX4_reckonDebt wsX4_of := goodIn_r _ [20, 1, 25] rfl (by decide +kernel)
set_option maxRecDepth 20000 in
theorem gX4_reckonDebt_X4_of : GoodIn wsX4_reckonDebt (wsV RX4 16 RX4 yX4_of wsX4_of) := goodIn_app (goodIn_of _ (by decide +kernel)) ggX4_reckonDebt_X4_of
set_option maxRecDepth 20000 in
theorem ggX4_reckonDebt_X10_thousandths : GoodIn wsX4_reckonDebt wsX10_thousandths := goodIn_r _ [23, 24] rfl (by decide +kernel)
set_option maxRecDepth 20000 in
theorem gX4_reckonDebt_X10_thousandths_n106 : GoodIn wsX4_reckonDebt (wsX10_thousandths) := ggX4_reckonDebt_X10_thousandths
theorem dX4_reckonDebt_0 : decode cX4_reckonDebt 0 = .ok (.aload_n 1, 1) := by decide +kernel
theorem dX4_reckonDebt_1 : decode cX4_reckonDebt 1 = .ok (.bipush 8, 2) := by decide +kernel
theorem dX4_reckonDebt_3 : decode cX4_reckonDebt 3 = .ok (.invokevirtual 69, 3) := by decide +kernel
theorem dX4_reckonDebt_6 : decode cX4_reckonDebt 6 = .ok (.istore_n 3, 1) := by decide +kernel
theorem dX4_reckonDebt_7 : decode cX4_reckonDebt 7 = .ok (.iconst 0, 1) := by decide +kernel
theorem dX4_reckonDebt_8 : decode cX4_reckonDebt 8 = .ok (.istore 4, 2) := by decide +kernel
theorem dX4_reckonDebt_10 : decode cX4_reckonDebt 10 = .ok (.iload 4, 2) := by decide +kernel
theorem dX4_reckonDebt_12 : decode cX4_reckonDebt 12 = .ok (.bipush 24, 2) := by decide +kernel
theorem dX4_reckonDebt_14 : decode cX4_reckonDebt 14 = .ok (.if_icmp .ge 144, 3) := by decide +kernel
theorem dX4_reckonDebt_17 : decode cX4_reckonDebt 17 = .ok (.iload 4, 2) := by decide +kernel
theorem dX4_reckonDebt_19 : decode cX4_reckonDebt 19 = .ok (.aload_n 2, 1) := by decide +kernel
theorem dX4_reckonDebt_20 : decode cX4_reckonDebt 20 = .ok (.arraylength, 1) := by decide +kernel
theorem dX4_reckonDebt_21 : decode cX4_reckonDebt 21 = .ok (.if_icmp .ge 137, 3) := by decide +kernel
theorem dX4_reckonDebt_24 : decode cX4_reckonDebt 24 = .ok (.aload_n 0, 1) := by decide +kernel
theorem dX4_reckonDebt_25 : decode cX4_reckonDebt 25 = .ok (.getfield 11, 3) := by decide +kernel
theorem dX4_reckonDebt_28 : decode cX4_reckonDebt 28 = .ok (.bipush 12, 2) := by decide +kernel
theorem dX4_reckonDebt_30 : decode cX4_reckonDebt 30 = .ok (.aaload, 1) := by decide +kernel
theorem dX4_reckonDebt_31 : decode cX4_reckonDebt 31 = .ok (.iload 4, 2) := by decide +kernel
theorem dX4_reckonDebt_33 : decode cX4_reckonDebt 33 = .ok (.aload_n 0, 1) := by decide +kernel
theorem dX4_reckonDebt_34 : decode cX4_reckonDebt 34 = .ok (.bipush 12, 2) := by decide +kernel
theorem dX4_reckonDebt_36 : decode cX4_reckonDebt 36 = .ok (.iload 4, 2) := by decide +kernel
theorem dX4_reckonDebt_38 : decode cX4_reckonDebt 38 = .ok (.invokevirtual 20, 3) := by decide +kernel
theorem dX4_reckonDebt_41 : decode cX4_reckonDebt 41 = .ok (.aload_n 2, 1) := by decide +kernel
theorem dX4_reckonDebt_42 : decode cX4_reckonDebt 42 = .ok (.iload 4, 2) := by decide +kernel
theorem dX4_reckonDebt_44 : decode cX4_reckonDebt 44 = .ok (.laload, 1) := by decide +kernel
theorem dX4_reckonDebt_45 : decode cX4_reckonDebt 45 = .ok (.ladd, 1) := by decide +kernel
theorem dX4_reckonDebt_46 : decode cX4_reckonDebt 46 = .ok (.lastore, 1) := by decide +kernel
theorem dX4_reckonDebt_47 : decode cX4_reckonDebt 47 = .ok (.iload 4, 2) := by decide +kernel
theorem dX4_reckonDebt_49 : decode cX4_reckonDebt 49 = .ok (.iload_n 3, 1) := by decide +kernel
theorem dX4_reckonDebt_50 : decode cX4_reckonDebt 50 = .ok (.if_icmp .lt 20, 3) := by decide +kernel
theorem dX4_reckonDebt_53 : decode cX4_reckonDebt 53 = .ok (.iload_n 3, 1) := by decide +kernel
theorem dX4_reckonDebt_54 : decode cX4_reckonDebt 54 = .ok (.ifCond .lt 16, 3) := by decide +kernel
theorem dX4_reckonDebt_57 : decode cX4_reckonDebt 57 = .ok (.aload_n 0, 1) := by decide +kernel
theorem dX4_reckonDebt_58 : decode cX4_reckonDebt 58 = .ok (.bipush 8, 2) := by decide +kernel
theorem dX4_reckonDebt_60 : decode cX4_reckonDebt 60 = .ok (.iload 4, 2) := by decide +kernel
theorem dX4_reckonDebt_62 : decode cX4_reckonDebt 62 = .ok (.iload_n 3, 1) := by decide +kernel
theorem dX4_reckonDebt_63 : decode cX4_reckonDebt 63 = .ok (.isub, 1) := by decide +kernel
theorem dX4_reckonDebt_64 : decode cX4_reckonDebt 64 = .ok (.invokevirtual 16, 3) := by decide +kernel
theorem dX4_reckonDebt_67 : decode cX4_reckonDebt 67 = .ok (.goto 4, 3) := by decide +kernel
theorem dX4_reckonDebt_70 : decode cX4_reckonDebt 70 = .ok (.lconst 0, 1) := by decide +kernel
theorem dX4_reckonDebt_71 : decode cX4_reckonDebt 71 = .ok (.lstore 5, 2) := by decide +kernel
theorem dX4_reckonDebt_73 : decode cX4_reckonDebt 73 = .ok (.aload_n 0, 1) := by decide +kernel
theorem dX4_reckonDebt_74 : decode cX4_reckonDebt 74 = .ok (.getfield 11, 3) := by decide +kernel
theorem dX4_reckonDebt_77 : decode cX4_reckonDebt 77 = .ok (.bipush 9, 2) := by decide +kernel
theorem dX4_reckonDebt_79 : decode cX4_reckonDebt 79 = .ok (.aaload, 1) := by decide +kernel
theorem dX4_reckonDebt_80 : decode cX4_reckonDebt 80 = .ok (.iload 4, 2) := by decide +kernel
theorem dX4_reckonDebt_82 : decode cX4_reckonDebt 82 = .ok (.lconst 0, 1) := by decide +kernel
theorem dX4_reckonDebt_83 : decode cX4_reckonDebt 83 = .ok (.lload 5, 2) := by decide +kernel
theorem dX4_reckonDebt_85 : decode cX4_reckonDebt 85 = .ok (.aload_n 0, 1) := by decide +kernel
theorem dX4_reckonDebt_86 : decode cX4_reckonDebt 86 = .ok (.bipush 12, 2) := by decide +kernel
theorem dX4_reckonDebt_88 : decode cX4_reckonDebt 88 = .ok (.iload 4, 2) := by decide +kernel
theorem dX4_reckonDebt_90 : decode cX4_reckonDebt 90 = .ok (.invokevirtual 16, 3) := by decide +kernel
theorem dX4_reckonDebt_93 : decode cX4_reckonDebt 93 = .ok (.lsub, 1) := by decide +kernel
theorem dX4_reckonDebt_94 : decode cX4_reckonDebt 94 = .ok (.invokestatic 100, 3) := by decide +kernel
theorem dX4_reckonDebt_97 : decode cX4_reckonDebt 97 = .ok (.lastore, 1) := by decide +kernel
theorem dX4_reckonDebt_98 : decode cX4_reckonDebt 98 = .ok (.aload_n 0, 1) := by decide +kernel
theorem dX4_reckonDebt_99 : decode cX4_reckonDebt 99 = .ok (.getfield 11, 3) := by decide +kernel
theorem dX4_reckonDebt_102 : decode cX4_reckonDebt 102 = .ok (.bipush 10, 2) := by decide +kernel
theorem dX4_reckonDebt_104 : decode cX4_reckonDebt 104 = .ok (.aaload, 1) := by decide +kernel
theorem dX4_reckonDebt_105 : decode cX4_reckonDebt 105 = .ok (.iload 4, 2) := by decide +kernel
theorem dX4_reckonDebt_107 : decode cX4_reckonDebt 107 = .ok (.aload_n 1, 1) := by decide +kernel
theorem dX4_reckonDebt_108 : decode cX4_reckonDebt 108 = .ok (.bipush 7, 2) := by decide +kernel
theorem dX4_reckonDebt_110 : decode cX4_reckonDebt 110 = .ok (.invokevirtual 69, 3) := by decide +kernel
theorem dX4_reckonDebt_113 : decode cX4_reckonDebt 113 = .ok (.aload_n 0, 1) := by decide +kernel
theorem dX4_reckonDebt_114 : decode cX4_reckonDebt 114 = .ok (.bipush 9, 2) := by decide +kernel
theorem dX4_reckonDebt_116 : decode cX4_reckonDebt 116 = .ok (.iload 4, 2) := by decide +kernel
theorem dX4_reckonDebt_118 : decode cX4_reckonDebt 118 = .ok (.invokevirtual 16, 3) := by decide +kernel
theorem dX4_reckonDebt_121 : decode cX4_reckonDebt 121 = .ok (.invokestatic 106, 3) := by decide +kernel
theorem dX4_reckonDebt_124 : decode cX4_reckonDebt 124 = .ok (.lastore, 1) := by decide +kernel
theorem dX4_reckonDebt_125 : decode cX4_reckonDebt 125 = .ok (.aload_n 0, 1) := by decide +kernel
theorem dX4_reckonDebt_126 : decode cX4_reckonDebt 126 = .ok (.getfield 11, 3) := by decide +kernel
theorem dX4_reckonDebt_129 : decode cX4_reckonDebt 129 = .ok (.bipush 11, 2) := by decide +kernel
theorem dX4_reckonDebt_131 : decode cX4_reckonDebt 131 = .ok (.aaload, 1) := by decide +kernel
theorem dX4_reckonDebt_132 : decode cX4_reckonDebt 132 = .ok (.iload 4, 2) := by decide +kernel
theorem dX4_reckonDebt_134 : decode cX4_reckonDebt 134 = .ok (.aload_n 0, 1) := by decide +kernel
theorem dX4_reckonDebt_135 : decode cX4_reckonDebt 135 = .ok (.bipush 11, 2) := by decide +kernel
theorem dX4_reckonDebt_137 : decode cX4_reckonDebt 137 = .ok (.iload 4, 2) := by decide +kernel
theorem dX4_reckonDebt_139 : decode cX4_reckonDebt 139 = .ok (.invokevirtual 20, 3) := by decide +kernel
theorem dX4_reckonDebt_142 : decode cX4_reckonDebt 142 = .ok (.aload_n 0, 1) := by decide +kernel
theorem dX4_reckonDebt_143 : decode cX4_reckonDebt 143 = .ok (.bipush 10, 2) := by decide +kernel
theorem dX4_reckonDebt_145 : decode cX4_reckonDebt 145 = .ok (.iload 4, 2) := by decide +kernel
theorem dX4_reckonDebt_147 : decode cX4_reckonDebt 147 = .ok (.invokevirtual 16, 3) := by decide +kernel
theorem dX4_reckonDebt_150 : decode cX4_reckonDebt 150 = .ok (.ladd, 1) := by decide +kernel
theorem dX4_reckonDebt_151 : decode cX4_reckonDebt 151 = .ok (.lastore, 1) := by decide +kernel
theorem dX4_reckonDebt_152 : decode cX4_reckonDebt 152 = .ok (.iinc 4 1, 3) := by decide +kernel
theorem dX4_reckonDebt_155 : decode cX4_reckonDebt 155 = .ok (.goto (-145), 3) := by decide +kernel
theorem dX4_reckonDebt_158 : decode cX4_reckonDebt 158 = .ok (.return_, 1) := by decide +kernel
theorem dX5_init_0 : decode cX5_init 0 = .ok (.aload_n 0, 1) := by decide +kernel
theorem dX5_init_1 : decode cX5_init 1 = .ok (.invokespecial 1, 3) := by decide +kernel
theorem dX5_init_4 : decode cX5_init 4 = .ok (.aload_n 0, 1) := by decide +kernel
theorem dX5_init_5 : decode cX5_init 5 = .ok (.iconst 5, 1) := by decide +kernel
theorem dX5_init_6 : decode cX5_init 6 = .ok (.newarray .long, 2) := by decide +kernel
theorem dX5_init_8 : decode cX5_init 8 = .ok (.putfield 9, 3) := by decide +kernel
theorem dX5_init_11 : decode cX5_init 11 = .ok (.aload_n 0, 1) := by decide +kernel
theorem dX5_init_12 : decode cX5_init 12 = .ok (.iconst 0, 1) := by decide +kernel
theorem dX5_init_13 : decode cX5_init 13 = .ok (.putfield 13, 3) := by decide +kernel
theorem dX5_init_16 : decode cX5_init 16 = .ok (.return_, 1) := by decide +kernel
set_option maxRecDepth 20000 in
theorem ggX5_start_X5_then : GoodIn wsX5_start wsX5_then := goodIn_r _ [6, 1, 7, 8, 9] rfl (by decide +kernel)
set_option maxRecDepth 20000 in
theorem gX5_start_X5_then : GoodIn wsX5_start (wsV RX5 17 RX5 yX5_then wsX5_then) := goodIn_app (goodIn_of _ (by decide +kernel)) ggX5_start_X5_then
theorem dX5_start_0 : decode cX5_start 0 = .ok (.aload_n 0, 1) := by decide +kernel
theorem dX5_start_1 : decode cX5_start 1 = .ok (.iconst 0, 1) := by decide +kernel
theorem dX5_start_2 : decode cX5_start 2 = .ok (.putfield 13, 3) := by decide +kernel
theorem dX5_start_5 : decode cX5_start 5 = .ok (.aload_n 0, 1) := by decide +kernel
theorem dX5_start_6 : decode cX5_start 6 = .ok (.lload_n 1, 1) := by decide +kernel
theorem dX5_start_7 : decode cX5_start 7 = .ok (.invokevirtual 17, 3) := by decide +kernel
theorem dX5_start_10 : decode cX5_start 10 = .ok (.areturn, 1) := by decide +kernel
theorem dX5_then_0 : decode cX5_then 0 = .ok (.aload_n 0, 1) := by decide +kernel
theorem dX5_then_1 : decode cX5_then 1 = .ok (.getfield 13, 3) := by decide +kernel
theorem dX5_then_4 : decode cX5_then 4 = .ok (.iconst 5, 1) := by decide +kernel
theorem dX5_then_5 : decode cX5_then 5 = .ok (.if_icmp .ge 23, 3) := by decide +kernel
theorem dX5_then_8 : decode cX5_then 8 = .ok (.aload_n 0, 1) := by decide +kernel
theorem dX5_then_9 : decode cX5_then 9 = .ok (.getfield 9, 3) := by decide +kernel
theorem dX5_then_12 : decode cX5_then 12 = .ok (.aload_n 0, 1) := by decide +kernel
theorem dX5_then_13 : decode cX5_then 13 = .ok (.getfield 13, 3) := by decide +kernel
theorem dX5_then_16 : decode cX5_then 16 = .ok (.lload_n 1, 1) := by decide +kernel
theorem dX5_then_17 : decode cX5_then 17 = .ok (.lastore, 1) := by decide +kernel
theorem dX5_then_18 : decode cX5_then 18 = .ok (.aload_n 0, 1) := by decide +kernel
theorem dX5_then_19 : decode cX5_then 19 = .ok (.dup, 1) := by decide +kernel
theorem dX5_then_20 : decode cX5_then 20 = .ok (.getfield 13, 3) := by decide +kernel
theorem dX5_then_23 : decode cX5_then 23 = .ok (.iconst 1, 1) := by decide +kernel
theorem dX5_then_24 : decode cX5_then 24 = .ok (.iadd, 1) := by decide +kernel
theorem dX5_then_25 : decode cX5_then 25 = .ok (.putfield 13, 3) := by decide +kernel
theorem dX5_then_28 : decode cX5_then 28 = .ok (.aload_n 0, 1) := by decide +kernel
theorem dX5_then_29 : decode cX5_then 29 = .ok (.areturn, 1) := by decide +kernel
set_option maxRecDepth 20000 in
theorem ggX6_init_J7_fill_53178 : GoodIn wsX6_init wsJ7_fill_53178 := goodIn_r _ [11] rfl (by decide +kernel)
set_option maxRecDepth 20000 in
theorem gX6_init_J7_fill_53178 : GoodIn wsX6_init (va_wsS RX6 22 yJ7_fill_53178 wsJ7_fill_53178) := goodIn_app (goodIn_of _ (by decide +kernel)) ggX6_init_J7_fill_53178
theorem dX6_init_0 : decode cX6_init 0 = .ok (.aload_n 0, 1) := by decide +kernel
theorem dX6_init_1 : decode cX6_init 1 = .ok (.invokespecial 3, 3) := by decide +kernel
theorem dX6_init_4 : decode cX6_init 4 = .ok (.aload_n 0, 1) := by decide +kernel
theorem dX6_init_5 : decode cX6_init 5 = .ok (.bipush 24, 2) := by decide +kernel
theorem dX6_init_7 : decode cX6_init 7 = .ok (.newarray .int, 2) := by decide +kernel
theorem dX6_init_9 : decode cX6_init 9 = .ok (.putfield 9, 3) := by decide +kernel
theorem dX6_init_12 : decode cX6_init 12 = .ok (.aload_n 0, 1) := by decide +kernel
theorem dX6_init_13 : decode cX6_init 13 = .ok (.bipush 24, 2) := by decide +kernel
theorem dX6_init_15 : decode cX6_init 15 = .ok (.newarray .int, 2) := by decide +kernel
theorem dX6_init_17 : decode cX6_init 17 = .ok (.putfield 15, 3) := by decide +kernel
theorem dX6_init_20 : decode cX6_init 20 = .ok (.aload_n 0, 1) := by decide +kernel
theorem dX6_init_21 : decode cX6_init 21 = .ok (.iload_n 1, 1) := by decide +kernel
theorem dX6_init_22 : decode cX6_init 22 = .ok (.putfield 18, 3) := by decide +kernel
theorem dX6_init_25 : decode cX6_init 25 = .ok (.aload_n 0, 1) := by decide +kernel
theorem dX6_init_26 : decode cX6_init 26 = .ok (.getfield 9, 3) := by decide +kernel
theorem dX6_init_29 : decode cX6_init 29 = .ok (.iconst (-1), 1) := by decide +kernel
theorem dX6_init_30 : decode cX6_init 30 = .ok (.invokestatic 22, 3) := by decide +kernel
theorem dX6_init_33 : decode cX6_init 33 = .ok (.aload_n 0, 1) := by decide +kernel
theorem dX6_init_34 : decode cX6_init 34 = .ok (.getfield 15, 3) := by decide +kernel
theorem dX6_init_37 : decode cX6_init 37 = .ok (.iload_n 1, 1) := by decide +kernel
theorem dX6_init_38 : decode cX6_init 38 = .ok (.invokestatic 22, 3) := by decide +kernel
theorem dX6_init_41 : decode cX6_init 41 = .ok (.return_, 1) := by decide +kernel
set_option maxRecDepth 20000 in
theorem ggX6_clear_J7_fill_53178 : GoodIn wsX6_clear wsJ7_fill_53178 := goodIn_r _ [7] rfl (by decide +kernel)
set_option maxRecDepth 20000 in
theorem gX6_clear_J7_fill_53178 : GoodIn wsX6_clear (va_wsS RX6 22 yJ7_fill_53178 wsJ7_fill_53178) := goodIn_app (goodIn_of _ (by decide +kernel)) ggX6_clear_J7_fill_53178
theorem dX6_clear_0 : decode cX6_clear 0 = .ok (.aload_n 0, 1) := by decide +kernel
theorem dX6_clear_1 : decode cX6_clear 1 = .ok (.getfield 9, 3) := by decide +kernel
theorem dX6_clear_4 : decode cX6_clear 4 = .ok (.iconst (-1), 1) := by decide +kernel
theorem dX6_clear_5 : decode cX6_clear 5 = .ok (.invokestatic 22, 3) := by decide +kernel
theorem dX6_clear_8 : decode cX6_clear 8 = .ok (.aload_n 0, 1) := by decide +kernel
theorem dX6_clear_9 : decode cX6_clear 9 = .ok (.getfield 15, 3) := by decide +kernel
theorem dX6_clear_12 : decode cX6_clear 12 = .ok (.aload_n 0, 1) := by decide +kernel
theorem dX6_clear_13 : decode cX6_clear 13 = .ok (.getfield 18, 3) := by decide +kernel
theorem dX6_clear_16 : decode cX6_clear 16 = .ok (.invokestatic 22, 3) := by decide +kernel
theorem dX6_clear_19 : decode cX6_clear 19 = .ok (.return_, 1) := by decide +kernel
theorem dX6_isTold_0 : decode cX6_isTold 0 = .ok (.aload_n 0, 1) := by decide +kernel
theorem dX6_isTold_1 : decode cX6_isTold 1 = .ok (.getfield 9, 3) := by decide +kernel
theorem dX6_isTold_4 : decode cX6_isTold 4 = .ok (.iload_n 1, 1) := by decide +kernel
theorem dX6_isTold_5 : decode cX6_isTold 5 = .ok (.iaload, 1) := by decide +kernel
theorem dX6_isTold_6 : decode cX6_isTold 6 = .ok (.iconst (-1), 1) := by decide +kernel
theorem dX6_isTold_7 : decode cX6_isTold 7 = .ok (.if_icmp .eq 7, 3) := by decide +kernel
theorem dX6_isTold_10 : decode cX6_isTold 10 = .ok (.iconst 1, 1) := by decide +kernel
theorem dX6_isTold_11 : decode cX6_isTold 11 = .ok (.goto 4, 3) := by decide +kernel
theorem dX6_isTold_14 : decode cX6_isTold 14 = .ok (.iconst 0, 1) := by decide +kernel
theorem dX6_isTold_15 : decode cX6_isTold 15 = .ok (.ireturn, 1) := by decide +kernel
theorem dX6_latest_0 : decode cX6_latest 0 = .ok (.aload_n 0, 1) := by decide +kernel
theorem dX6_latest_1 : decode cX6_latest 1 = .ok (.getfield 15, 3) := by decide +kernel
theorem dX6_latest_4 : decode cX6_latest 4 = .ok (.iload_n 1, 1) := by decide +kernel
theorem dX6_latest_5 : decode cX6_latest 5 = .ok (.iaload, 1) := by decide +kernel
theorem dX6_latest_6 : decode cX6_latest 6 = .ok (.ireturn, 1) := by decide +kernel
set_option maxRecDepth 20000 in
theorem ggX6_tell_X6_isTold : GoodIn wsX6_tell wsX6_isTold := goodIn_r _ [8, 1, 9, 10, 11] rfl (by decide +kernel)
set_option maxRecDepth 20000 in
theorem gX6_tell_X6_isTold : GoodIn wsX6_tell (wsV RX6 28 RX6 yX6_isTold wsX6_isTold) := goodIn_app (goodIn_of _ (by decide +kernel)) ggX6_tell_X6_isTold
theorem dX6_tell_0 : decode cX6_tell 0 = .ok (.aload_n 0, 1) := by decide +kernel
theorem dX6_tell_1 : decode cX6_tell 1 = .ok (.getfield 9, 3) := by decide +kernel
theorem dX6_tell_4 : decode cX6_tell 4 = .ok (.iload_n 1, 1) := by decide +kernel
theorem dX6_tell_5 : decode cX6_tell 5 = .ok (.iload_n 2, 1) := by decide +kernel
theorem dX6_tell_6 : decode cX6_tell 6 = .ok (.iastore, 1) := by decide +kernel
theorem dX6_tell_7 : decode cX6_tell 7 = .ok (.iload_n 1, 1) := by decide +kernel
theorem dX6_tell_8 : decode cX6_tell 8 = .ok (.ifCond .le 14, 3) := by decide +kernel
theorem dX6_tell_11 : decode cX6_tell 11 = .ok (.aload_n 0, 1) := by decide +kernel
theorem dX6_tell_12 : decode cX6_tell 12 = .ok (.getfield 15, 3) := by decide +kernel
theorem dX6_tell_15 : decode cX6_tell 15 = .ok (.iload_n 1, 1) := by decide +kernel
theorem dX6_tell_16 : decode cX6_tell 16 = .ok (.iconst 1, 1) := by decide +kernel
theorem dX6_tell_17 : decode cX6_tell 17 = .ok (.isub, 1) := by decide +kernel
theorem dX6_tell_18 : decode cX6_tell 18 = .ok (.iaload, 1) := by decide +kernel
theorem dX6_tell_19 : decode cX6_tell 19 = .ok (.goto 7, 3) := by decide +kernel
theorem dX6_tell_22 : decode cX6_tell 22 = .ok (.aload_n 0, 1) := by decide +kernel
theorem dX6_tell_23 : decode cX6_tell 23 = .ok (.getfield 18, 3) := by decide +kernel
theorem dX6_tell_26 : decode cX6_tell 26 = .ok (.istore_n 3, 1) := by decide +kernel
theorem dX6_tell_27 : decode cX6_tell 27 = .ok (.iload_n 1, 1) := by decide +kernel
theorem dX6_tell_28 : decode cX6_tell 28 = .ok (.istore 4, 2) := by decide +kernel
theorem dX6_tell_30 : decode cX6_tell 30 = .ok (.iload 4, 2) := by decide +kernel
theorem dX6_tell_32 : decode cX6_tell 32 = .ok (.bipush 24, 2) := by decide +kernel
theorem dX6_tell_34 : decode cX6_tell 34 = .ok (.if_icmp .ge 34, 3) := by decide +kernel
theorem dX6_tell_37 : decode cX6_tell 37 = .ok (.aload_n 0, 1) := by decide +kernel
theorem dX6_tell_38 : decode cX6_tell 38 = .ok (.iload 4, 2) := by decide +kernel
theorem dX6_tell_40 : decode cX6_tell 40 = .ok (.invokevirtual 28, 3) := by decide +kernel
theorem dX6_tell_43 : decode cX6_tell 43 = .ok (.ifCond .eq 11, 3) := by decide +kernel
theorem dX6_tell_46 : decode cX6_tell 46 = .ok (.aload_n 0, 1) := by decide +kernel
theorem dX6_tell_47 : decode cX6_tell 47 = .ok (.getfield 9, 3) := by decide +kernel
theorem dX6_tell_50 : decode cX6_tell 50 = .ok (.iload 4, 2) := by decide +kernel
theorem dX6_tell_52 : decode cX6_tell 52 = .ok (.iaload, 1) := by decide +kernel
theorem dX6_tell_53 : decode cX6_tell 53 = .ok (.istore_n 3, 1) := by decide +kernel
theorem dX6_tell_54 : decode cX6_tell 54 = .ok (.aload_n 0, 1) := by decide +kernel
theorem dX6_tell_55 : decode cX6_tell 55 = .ok (.getfield 15, 3) := by decide +kernel
theorem dX6_tell_58 : decode cX6_tell 58 = .ok (.iload 4, 2) := by decide +kernel
theorem dX6_tell_60 : decode cX6_tell 60 = .ok (.iload_n 3, 1) := by decide +kernel
theorem dX6_tell_61 : decode cX6_tell 61 = .ok (.iastore, 1) := by decide +kernel
theorem dX6_tell_62 : decode cX6_tell 62 = .ok (.iinc 4 1, 3) := by decide +kernel
theorem dX6_tell_65 : decode cX6_tell 65 = .ok (.goto (-35), 3) := by decide +kernel
theorem dX6_tell_68 : decode cX6_tell 68 = .ok (.return_, 1) := by decide +kernel
theorem dX6_firstAtLeast_0 : decode cX6_firstAtLeast 0 = .ok (.iconst 0, 1) := by decide +kernel
theorem dX6_firstAtLeast_1 : decode cX6_firstAtLeast 1 = .ok (.istore_n 2, 1) := by decide +kernel
theorem dX6_firstAtLeast_2 : decode cX6_firstAtLeast 2 = .ok (.iload_n 2, 1) := by decide +kernel
theorem dX6_firstAtLeast_3 : decode cX6_firstAtLeast 3 = .ok (.bipush 24, 2) := by decide +kernel
theorem dX6_firstAtLeast_5 : decode cX6_firstAtLeast 5 = .ok (.if_icmp .ge 21, 3) := by decide +kernel
theorem dX6_firstAtLeast_8 : decode cX6_firstAtLeast 8 = .ok (.aload_n 0, 1) := by decide +kernel
theorem dX6_firstAtLeast_9 : decode cX6_firstAtLeast 9 = .ok (.getfield 15, 3) := by decide +kernel
theorem dX6_firstAtLeast_12 : decode cX6_firstAtLeast 12 = .ok (.iload_n 2, 1) := by decide +kernel
theorem dX6_firstAtLeast_13 : decode cX6_firstAtLeast 13 = .ok (.iaload, 1) := by decide +kernel
theorem dX6_firstAtLeast_14 : decode cX6_firstAtLeast 14 = .ok (.iload_n 1, 1) := by decide +kernel
theorem dX6_firstAtLeast_15 : decode cX6_firstAtLeast 15 = .ok (.if_icmp .lt 5, 3) := by decide +kernel
theorem dX6_firstAtLeast_18 : decode cX6_firstAtLeast 18 = .ok (.iload_n 2, 1) := by decide +kernel
theorem dX6_firstAtLeast_19 : decode cX6_firstAtLeast 19 = .ok (.ireturn, 1) := by decide +kernel
theorem dX6_firstAtLeast_20 : decode cX6_firstAtLeast 20 = .ok (.iinc 2 1, 3) := by decide +kernel
theorem dX6_firstAtLeast_23 : decode cX6_firstAtLeast 23 = .ok (.goto (-21), 3) := by decide +kernel
theorem dX6_firstAtLeast_26 : decode cX6_firstAtLeast 26 = .ok (.iconst (-1), 1) := by decide +kernel
theorem dX6_firstAtLeast_27 : decode cX6_firstAtLeast 27 = .ok (.ireturn, 1) := by decide +kernel
set_option maxRecDepth 20000 in
theorem ggX6_lastToldAhead_X6_isTold : GoodIn wsX6_lastToldAhead wsX6_isTold := goodIn_r _ [5, 6, 7, 8, 9] rfl (by decide +kernel)
set_option maxRecDepth 20000 in
theorem gX6_lastToldAhead_X6_isTold : GoodIn wsX6_lastToldAhead (wsV RX6 28 RX6 yX6_isTold wsX6_isTold) := goodIn_app (goodIn_of _ (by decide +kernel)) ggX6_lastToldAhead_X6_isTold
theorem dX6_lastToldAhead_0 : decode cX6_lastToldAhead 0 = .ok (.iload_n 1, 1) := by decide +kernel
theorem dX6_lastToldAhead_1 : decode cX6_lastToldAhead 1 = .ok (.iconst 1, 1) := by decide +kernel
theorem dX6_lastToldAhead_2 : decode cX6_lastToldAhead 2 = .ok (.isub, 1) := by decide +kernel
theorem dX6_lastToldAhead_3 : decode cX6_lastToldAhead 3 = .ok (.istore_n 2, 1) := by decide +kernel
theorem dX6_lastToldAhead_4 : decode cX6_lastToldAhead 4 = .ok (.iload_n 2, 1) := by decide +kernel
theorem dX6_lastToldAhead_5 : decode cX6_lastToldAhead 5 = .ok (.ifCond .lt 19, 3) := by decide +kernel
theorem dX6_lastToldAhead_8 : decode cX6_lastToldAhead 8 = .ok (.aload_n 0, 1) := by decide +kernel
theorem dX6_lastToldAhead_9 : decode cX6_lastToldAhead 9 = .ok (.iload_n 2, 1) := by decide +kernel
theorem dX6_lastToldAhead_10 : decode cX6_lastToldAhead 10 = .ok (.invokevirtual 28, 3) := by decide +kernel
theorem dX6_lastToldAhead_13 : decode cX6_lastToldAhead 13 = .ok (.ifCond .eq 5, 3) := by decide +kernel
theorem dX6_lastToldAhead_16 : decode cX6_lastToldAhead 16 = .ok (.iload_n 2, 1) := by decide +kernel
theorem dX6_lastToldAhead_17 : decode cX6_lastToldAhead 17 = .ok (.ireturn, 1) := by decide +kernel
theorem dX6_lastToldAhead_18 : decode cX6_lastToldAhead 18 = .ok (.iinc 2 (-1), 3) := by decide +kernel
theorem dX6_lastToldAhead_21 : decode cX6_lastToldAhead 21 = .ok (.goto (-17), 3) := by decide +kernel
theorem dX6_lastToldAhead_24 : decode cX6_lastToldAhead 24 = .ok (.iconst (-1), 1) := by decide +kernel
theorem dX6_lastToldAhead_25 : decode cX6_lastToldAhead 25 = .ok (.ireturn, 1) := by decide +kernel
set_option maxRecDepth 20000 in
theorem ggX6_pace_X6_lastToldAhead : GoodIn wsX6_pace wsX6_lastToldAhead := goodIn_r _ [6, 7, 8, 9, 5, 10, 11, 12, 13, 14] rfl (by decide +kernel)
set_option maxRecDepth 20000 in
theorem gX6_pace_X6_lastToldAhead : GoodIn wsX6_pace (wsV RX6 32 RX6 yX6_lastToldAhead wsX6_lastToldAhead) := goodIn_app (goodIn_of _ (by decide +kernel)) ggX6_pace_X6_lastToldAhead
theorem dX6_pace_0 : decode cX6_pace 0 = .ok (.aload_n 0, 1) := by decide +kernel
theorem dX6_pace_1 : decode cX6_pace 1 = .ok (.iload_n 1, 1) := by decide +kernel
theorem dX6_pace_2 : decode cX6_pace 2 = .ok (.invokevirtual 32, 3) := by decide +kernel
theorem dX6_pace_5 : decode cX6_pace 5 = .ok (.istore_n 2, 1) := by decide +kernel
theorem dX6_pace_6 : decode cX6_pace 6 = .ok (.iload_n 2, 1) := by decide +kernel
theorem dX6_pace_7 : decode cX6_pace 7 = .ok (.iconst (-1), 1) := by decide +kernel
theorem dX6_pace_8 : decode cX6_pace 8 = .ok (.if_icmp .eq 8, 3) := by decide +kernel
theorem dX6_pace_11 : decode cX6_pace 11 = .ok (.iload_n 2, 1) := by decide +kernel
theorem dX6_pace_12 : decode cX6_pace 12 = .ok (.iload_n 1, 1) := by decide +kernel
theorem dX6_pace_13 : decode cX6_pace 13 = .ok (.if_icmp .lt 10, 3) := by decide +kernel
theorem dX6_pace_16 : decode cX6_pace 16 = .ok (.aload_n 0, 1) := by decide +kernel
theorem dX6_pace_17 : decode cX6_pace 17 = .ok (.getfield 15, 3) := by decide +kernel
theorem dX6_pace_20 : decode cX6_pace 20 = .ok (.iload_n 1, 1) := by decide +kernel
theorem dX6_pace_21 : decode cX6_pace 21 = .ok (.iaload, 1) := by decide +kernel
theorem dX6_pace_22 : decode cX6_pace 22 = .ok (.ireturn, 1) := by decide +kernel
theorem dX6_pace_23 : decode cX6_pace 23 = .ok (.aload_n 0, 1) := by decide +kernel
theorem dX6_pace_24 : decode cX6_pace 24 = .ok (.getfield 15, 3) := by decide +kernel
theorem dX6_pace_27 : decode cX6_pace 27 = .ok (.iload_n 1, 1) := by decide +kernel
theorem dX6_pace_28 : decode cX6_pace 28 = .ok (.iaload, 1) := by decide +kernel
theorem dX6_pace_29 : decode cX6_pace 29 = .ok (.aload_n 0, 1) := by decide +kernel
theorem dX6_pace_30 : decode cX6_pace 30 = .ok (.getfield 15, 3) := by decide +kernel
theorem dX6_pace_33 : decode cX6_pace 33 = .ok (.iload_n 2, 1) := by decide +kernel
theorem dX6_pace_34 : decode cX6_pace 34 = .ok (.iaload, 1) := by decide +kernel
theorem dX6_pace_35 : decode cX6_pace 35 = .ok (.isub, 1) := by decide +kernel
theorem dX6_pace_36 : decode cX6_pace 36 = .ok (.iload_n 1, 1) := by decide +kernel
theorem dX6_pace_37 : decode cX6_pace 37 = .ok (.iload_n 2, 1) := by decide +kernel
theorem dX6_pace_38 : decode cX6_pace 38 = .ok (.isub, 1) := by decide +kernel
theorem dX6_pace_39 : decode cX6_pace 39 = .ok (.idiv, 1) := by decide +kernel
theorem dX6_pace_40 : decode cX6_pace 40 = .ok (.ireturn, 1) := by decide +kernel
theorem dX7_init_0 : decode cX7_init 0 = .ok (.aload_n 0, 1) := by decide +kernel
theorem dX7_init_1 : decode cX7_init 1 = .ok (.invokespecial 3, 3) := by decide +kernel
theorem dX7_init_4 : decode cX7_init 4 = .ok (.aload_n 0, 1) := by decide +kernel
theorem dX7_init_5 : decode cX7_init 5 = .ok (.bipush 6, 2) := by decide +kernel
theorem dX7_init_7 : decode cX7_init 7 = .ok (.newarray .int, 2) := by decide +kernel
theorem dX7_init_9 : decode cX7_init 9 = .ok (.putfield 9, 3) := by decide +kernel
theorem dX7_init_12 : decode cX7_init 12 = .ok (.aload_n 0, 1) := by decide +kernel
theorem dX7_init_13 : decode cX7_init 13 = .ok (.bipush 6, 2) := by decide +kernel
theorem dX7_init_15 : decode cX7_init 15 = .ok (.newarray .int, 2) := by decide +kernel
theorem dX7_init_17 : decode cX7_init 17 = .ok (.putfield 15, 3) := by decide +kernel
theorem dX7_init_20 : decode cX7_init 20 = .ok (.aload_n 0, 1) := by decide +kernel
theorem dX7_init_21 : decode cX7_init 21 = .ok (.bipush 6, 2) := by decide +kernel
theorem dX7_init_23 : decode cX7_init 23 = .ok (.newarray .int, 2) := by decide +kernel
theorem dX7_init_25 : decode cX7_init 25 = .ok (.putfield 18, 3) := by decide +kernel
theorem dX7_init_28 : decode cX7_init 28 = .ok (.aload_n 0, 1) := by decide +kernel
theorem dX7_init_29 : decode cX7_init 29 = .ok (.bipush 6, 2) := by decide +kernel
theorem dX7_init_31 : decode cX7_init 31 = .ok (.newarray .int, 2) := by decide +kernel
theorem dX7_init_33 : decode cX7_init 33 = .ok (.putfield 21, 3) := by decide +kernel
theorem dX7_init_36 : decode cX7_init 36 = .ok (.aload_n 0, 1) := by decide +kernel
theorem dX7_init_37 : decode cX7_init 37 = .ok (.bipush 6, 2) := by decide +kernel
theorem dX7_init_39 : decode cX7_init 39 = .ok (.newarray .int, 2) := by decide +kernel
theorem dX7_init_41 : decode cX7_init 41 = .ok (.putfield 24, 3) := by decide +kernel
theorem dX7_init_44 : decode cX7_init 44 = .ok (.aload_n 0, 1) := by decide +kernel
theorem dX7_init_45 : decode cX7_init 45 = .ok (.iconst 0, 1) := by decide +kernel
theorem dX7_init_46 : decode cX7_init 46 = .ok (.putfield 27, 3) := by decide +kernel
theorem dX7_init_49 : decode cX7_init 49 = .ok (.return_, 1) := by decide +kernel
theorem dX7_has_0 : decode cX7_has 0 = .ok (.iload_n 1, 1) := by decide +kernel
theorem dX7_has_1 : decode cX7_has 1 = .ok (.ifCond .lt 15, 3) := by decide +kernel
theorem dX7_has_4 : decode cX7_has 4 = .ok (.iload_n 1, 1) := by decide +kernel
theorem dX7_has_5 : decode cX7_has 5 = .ok (.aload_n 0, 1) := by decide +kernel
theorem dX7_has_6 : decode cX7_has 6 = .ok (.getfield 27, 3) := by decide +kernel
theorem dX7_has_9 : decode cX7_has 9 = .ok (.if_icmp .ge 7, 3) := by decide +kernel
theorem dX7_has_12 : decode cX7_has 12 = .ok (.iconst 1, 1) := by decide +kernel
theorem dX7_has_13 : decode cX7_has 13 = .ok (.goto 4, 3) := by decide +kernel
theorem dX7_has_16 : decode cX7_has 16 = .ok (.iconst 0, 1) := by decide +kernel
theorem dX7_has_17 : decode cX7_has 17 = .ok (.ireturn, 1) := by decide +kernel
theorem dX7_isDisputed_0 : decode cX7_isDisputed 0 = .ok (.aload_n 0, 1) := by decide +kernel
theorem dX7_isDisputed_1 : decode cX7_isDisputed 1 = .ok (.getfield 18, 3) := by decide +kernel
theorem dX7_isDisputed_4 : decode cX7_isDisputed 4 = .ok (.iload_n 1, 1) := by decide +kernel
theorem dX7_isDisputed_5 : decode cX7_isDisputed 5 = .ok (.iaload, 1) := by decide +kernel
theorem dX7_isDisputed_6 : decode cX7_isDisputed 6 = .ok (.bipush 24, 2) := by decide +kernel
theorem dX7_isDisputed_8 : decode cX7_isDisputed 8 = .ok (.if_icmp .eq 7, 3) := by decide +kernel
theorem dX7_isDisputed_11 : decode cX7_isDisputed 11 = .ok (.iconst 1, 1) := by decide +kernel
theorem dX7_isDisputed_12 : decode cX7_isDisputed 12 = .ok (.goto 4, 3) := by decide +kernel
theorem dX7_isDisputed_15 : decode cX7_isDisputed 15 = .ok (.iconst 0, 1) := by decide +kernel
theorem dX7_isDisputed_16 : decode cX7_isDisputed 16 = .ok (.ireturn, 1) := by decide +kernel
theorem dX7_isDecided_0 : decode cX7_isDecided 0 = .ok (.aload_n 0, 1) := by decide +kernel
theorem dX7_isDecided_1 : decode cX7_isDecided 1 = .ok (.getfield 21, 3) := by decide +kernel
theorem dX7_isDecided_4 : decode cX7_isDecided 4 = .ok (.iload_n 1, 1) := by decide +kernel
theorem dX7_isDecided_5 : decode cX7_isDecided 5 = .ok (.iaload, 1) := by decide +kernel
theorem dX7_isDecided_6 : decode cX7_isDecided 6 = .ok (.bipush 24, 2) := by decide +kernel
theorem dX7_isDecided_8 : decode cX7_isDecided 8 = .ok (.if_icmp .eq 7, 3) := by decide +kernel
theorem dX7_isDecided_11 : decode cX7_isDecided 11 = .ok (.iconst 1, 1) := by decide +kernel
theorem dX7_isDecided_12 : decode cX7_isDecided 12 = .ok (.goto 4, 3) := by decide +kernel
theorem dX7_isDecided_15 : decode cX7_isDecided 15 = .ok (.iconst 0, 1) := by decide +kernel
theorem dX7_isDecided_16 : decode cX7_isDecided 16 = .ok (.ireturn, 1) := by decide +kernel
theorem dX7_add_0 : decode cX7_add 0 = .ok (.aload_n 0, 1) := by decide +kernel
theorem dX7_add_1 : decode cX7_add 1 = .ok (.getfield 27, 3) := by decide +kernel
theorem dX7_add_4 : decode cX7_add 4 = .ok (.bipush 6, 2) := by decide +kernel
theorem dX7_add_6 : decode cX7_add 6 = .ok (.if_icmp .lt 5, 3) := by decide +kernel
theorem dX7_add_9 : decode cX7_add 9 = .ok (.iconst (-1), 1) := by decide +kernel
theorem dX7_add_10 : decode cX7_add 10 = .ok (.ireturn, 1) := by decide +kernel
theorem dX7_add_11 : decode cX7_add 11 = .ok (.aload_n 0, 1) := by decide +kernel
theorem dX7_add_12 : decode cX7_add 12 = .ok (.getfield 9, 3) := by decide +kernel
theorem dX7_add_15 : decode cX7_add 15 = .ok (.aload_n 0, 1) := by decide +kernel
theorem dX7_add_16 : decode cX7_add 16 = .ok (.getfield 27, 3) := by decide +kernel
theorem dX7_add_19 : decode cX7_add 19 = .ok (.iload_n 1, 1) := by decide +kernel
theorem dX7_add_20 : decode cX7_add 20 = .ok (.iastore, 1) := by decide +kernel
theorem dX7_add_21 : decode cX7_add 21 = .ok (.aload_n 0, 1) := by decide +kernel
theorem dX7_add_22 : decode cX7_add 22 = .ok (.getfield 15, 3) := by decide +kernel
theorem dX7_add_25 : decode cX7_add 25 = .ok (.aload_n 0, 1) := by decide +kernel
theorem dX7_add_26 : decode cX7_add 26 = .ok (.getfield 27, 3) := by decide +kernel
theorem dX7_add_29 : decode cX7_add 29 = .ok (.iload_n 2, 1) := by decide +kernel
theorem dX7_add_30 : decode cX7_add 30 = .ok (.iastore, 1) := by decide +kernel
theorem dX7_add_31 : decode cX7_add 31 = .ok (.aload_n 0, 1) := by decide +kernel
theorem dX7_add_32 : decode cX7_add 32 = .ok (.getfield 18, 3) := by decide +kernel
theorem dX7_add_35 : decode cX7_add 35 = .ok (.aload_n 0, 1) := by decide +kernel
theorem dX7_add_36 : decode cX7_add 36 = .ok (.getfield 27, 3) := by decide +kernel
theorem dX7_add_39 : decode cX7_add 39 = .ok (.bipush 24, 2) := by decide +kernel
theorem dX7_add_41 : decode cX7_add 41 = .ok (.iastore, 1) := by decide +kernel
theorem dX7_add_42 : decode cX7_add 42 = .ok (.aload_n 0, 1) := by decide +kernel
theorem dX7_add_43 : decode cX7_add 43 = .ok (.getfield 21, 3) := by decide +kernel
theorem dX7_add_46 : decode cX7_add 46 = .ok (.aload_n 0, 1) := by decide +kernel
theorem dX7_add_47 : decode cX7_add 47 = .ok (.getfield 27, 3) := by decide +kernel
theorem dX7_add_50 : decode cX7_add 50 = .ok (.bipush 24, 2) := by decide +kernel
theorem dX7_add_52 : decode cX7_add 52 = .ok (.iastore, 1) := by decide +kernel
theorem dX7_add_53 : decode cX7_add 53 = .ok (.aload_n 0, 1) := by decide +kernel
theorem dX7_add_54 : decode cX7_add 54 = .ok (.getfield 24, 3) := by decide +kernel
theorem dX7_add_57 : decode cX7_add 57 = .ok (.aload_n 0, 1) := by decide +kernel
theorem dX7_add_58 : decode cX7_add 58 = .ok (.getfield 27, 3) := by decide +kernel
theorem dX7_add_61 : decode cX7_add 61 = .ok (.iconst 0, 1) := by decide +kernel
theorem dX7_add_62 : decode cX7_add 62 = .ok (.iastore, 1) := by decide +kernel
theorem dX7_add_63 : decode cX7_add 63 = .ok (.aload_n 0, 1) := by decide +kernel
theorem dX7_add_64 : decode cX7_add 64 = .ok (.dup, 1) := by decide +kernel
theorem dX7_add_65 : decode cX7_add 65 = .ok (.getfield 27, 3) := by decide +kernel
theorem dX7_add_68 : decode cX7_add 68 = .ok (.iconst 1, 1) := by decide +kernel
theorem dX7_add_69 : decode cX7_add 69 = .ok (.iadd, 1) := by decide +kernel
theorem dX7_add_70 : decode cX7_add 70 = .ok (.putfield 27, 3) := by decide +kernel
theorem dX7_add_73 : decode cX7_add 73 = .ok (.aload_n 0, 1) := by decide +kernel
theorem dX7_add_74 : decode cX7_add 74 = .ok (.getfield 27, 3) := by decide +kernel
theorem dX7_add_77 : decode cX7_add 77 = .ok (.iconst 1, 1) := by decide +kernel
theorem dX7_add_78 : decode cX7_add 78 = .ok (.isub, 1) := by decide +kernel
theorem dX7_add_79 : decode cX7_add 79 = .ok (.ireturn, 1) := by decide +kernel
set_option maxRecDepth 20000 in
theorem ggX7_open_X7_isDisputed : GoodIn wsX7_open wsX7_isDisputed := goodIn_r _ [6, 7, 13, 14, 15, 16, 17, 18] rfl (by decide +kernel)
set_option maxRecDepth 20000 in
theorem gX7_open_X7_isDisputed : GoodIn wsX7_open (wsV RX7 31 RX7 yX7_isDisputed wsX7_isDisputed) := goodIn_app (goodIn_of _ (by decide +kernel)) ggX7_open_X7_isDisputed
set_option maxRecDepth 20000 in
theorem ggX7_open_X7_isDecided : GoodIn wsX7_open wsX7_isDecided := goodIn_r _ [11, 12, 13, 14, 15, 16, 17, 18] rfl (by decide +kernel)
set_option maxRecDepth 20000 in
theorem gX7_open_X7_isDecided : GoodIn wsX7_open (wsV RX7 35 RX7 yX7_isDecided wsX7_isDecided) := goodIn_app (goodIn_of _ (by decide +kernel)) ggX7_open_X7_isDecided
theorem dX7_open_0 : decode cX7_open 0 = .ok (.iconst 0, 1) := by decide +kernel
theorem dX7_open_1 : decode cX7_open 1 = .ok (.istore_n 1, 1) := by decide +kernel
theorem dX7_open_2 : decode cX7_open 2 = .ok (.iconst 0, 1) := by decide +kernel
theorem dX7_open_3 : decode cX7_open 3 = .ok (.istore_n 2, 1) := by decide +kernel
theorem dX7_open_4 : decode cX7_open 4 = .ok (.iload_n 2, 1) := by decide +kernel
theorem dX7_open_5 : decode cX7_open 5 = .ok (.aload_n 0, 1) := by decide +kernel
theorem dX7_open_6 : decode cX7_open 6 = .ok (.getfield 27, 3) := by decide +kernel
theorem dX7_open_9 : decode cX7_open 9 = .ok (.if_icmp .ge 28, 3) := by decide +kernel
theorem dX7_open_12 : decode cX7_open 12 = .ok (.aload_n 0, 1) := by decide +kernel
theorem dX7_open_13 : decode cX7_open 13 = .ok (.iload_n 2, 1) := by decide +kernel
theorem dX7_open_14 : decode cX7_open 14 = .ok (.invokevirtual 31, 3) := by decide +kernel
theorem dX7_open_17 : decode cX7_open 17 = .ok (.ifCond .eq 14, 3) := by decide +kernel
theorem dX7_open_20 : decode cX7_open 20 = .ok (.aload_n 0, 1) := by decide +kernel
theorem dX7_open_21 : decode cX7_open 21 = .ok (.iload_n 2, 1) := by decide +kernel
theorem dX7_open_22 : decode cX7_open 22 = .ok (.invokevirtual 35, 3) := by decide +kernel
theorem dX7_open_25 : decode cX7_open 25 = .ok (.ifCond .ne 6, 3) := by decide +kernel
theorem dX7_open_28 : decode cX7_open 28 = .ok (.iinc 1 1, 3) := by decide +kernel
theorem dX7_open_31 : decode cX7_open 31 = .ok (.iinc 2 1, 3) := by decide +kernel
theorem dX7_open_34 : decode cX7_open 34 = .ok (.goto (-30), 3) := by decide +kernel
theorem dX7_open_37 : decode cX7_open 37 = .ok (.iload_n 1, 1) := by decide +kernel
theorem dX7_open_38 : decode cX7_open 38 = .ok (.ireturn, 1) := by decide +kernel
set_option maxRecDepth 20000 in
theorem ggX7_heldIn_X10_thousandths : GoodIn wsX7_heldIn wsX10_thousandths := goodIn_r _ [8, 9] rfl (by decide +kernel)
set_option maxRecDepth 20000 in
theorem gX7_heldIn_X10_thousandths_n38 : GoodIn wsX7_heldIn (wsX10_thousandths) := ggX7_heldIn_X10_thousandths
theorem dX7_heldIn_0 : decode cX7_heldIn 0 = .ok (.iload_n 2, 1) := by decide +kernel
theorem dX7_heldIn_1 : decode cX7_heldIn 1 = .ok (.aload_n 0, 1) := by decide +kernel
theorem dX7_heldIn_2 : decode cX7_heldIn 2 = .ok (.getfield 9, 3) := by decide +kernel
theorem dX7_heldIn_5 : decode cX7_heldIn 5 = .ok (.iload_n 1, 1) := by decide +kernel
theorem dX7_heldIn_6 : decode cX7_heldIn 6 = .ok (.iaload, 1) := by decide +kernel
theorem dX7_heldIn_7 : decode cX7_heldIn 7 = .ok (.if_icmp .ge 5, 3) := by decide +kernel
theorem dX7_heldIn_10 : decode cX7_heldIn 10 = .ok (.iconst 0, 1) := by decide +kernel
theorem dX7_heldIn_11 : decode cX7_heldIn 11 = .ok (.ireturn, 1) := by decide +kernel
theorem dX7_heldIn_12 : decode cX7_heldIn 12 = .ok (.iload_n 2, 1) := by decide +kernel
theorem dX7_heldIn_13 : decode cX7_heldIn 13 = .ok (.aload_n 0, 1) := by decide +kernel
theorem dX7_heldIn_14 : decode cX7_heldIn 14 = .ok (.getfield 21, 3) := by decide +kernel
theorem dX7_heldIn_17 : decode cX7_heldIn 17 = .ok (.iload_n 1, 1) := by decide +kernel
theorem dX7_heldIn_18 : decode cX7_heldIn 18 = .ok (.iaload, 1) := by decide +kernel
theorem dX7_heldIn_19 : decode cX7_heldIn 19 = .ok (.if_icmp .lt 21, 3) := by decide +kernel
theorem dX7_heldIn_22 : decode cX7_heldIn 22 = .ok (.aload_n 0, 1) := by decide +kernel
theorem dX7_heldIn_23 : decode cX7_heldIn 23 = .ok (.getfield 24, 3) := by decide +kernel
theorem dX7_heldIn_26 : decode cX7_heldIn 26 = .ok (.iload_n 1, 1) := by decide +kernel
theorem dX7_heldIn_27 : decode cX7_heldIn 27 = .ok (.iaload, 1) := by decide +kernel
theorem dX7_heldIn_28 : decode cX7_heldIn 28 = .ok (.aload_n 0, 1) := by decide +kernel
theorem dX7_heldIn_29 : decode cX7_heldIn 29 = .ok (.getfield 15, 3) := by decide +kernel
theorem dX7_heldIn_32 : decode cX7_heldIn 32 = .ok (.iload_n 1, 1) := by decide +kernel
theorem dX7_heldIn_33 : decode cX7_heldIn 33 = .ok (.iaload, 1) := by decide +kernel
theorem dX7_heldIn_34 : decode cX7_heldIn 34 = .ok (.i2l, 1) := by decide +kernel
theorem dX7_heldIn_35 : decode cX7_heldIn 35 = .ok (.invokestatic 38, 3) := by decide +kernel
theorem dX7_heldIn_38 : decode cX7_heldIn 38 = .ok (.l2i, 1) := by decide +kernel
theorem dX7_heldIn_39 : decode cX7_heldIn 39 = .ok (.ireturn, 1) := by decide +kernel
theorem dX7_heldIn_40 : decode cX7_heldIn 40 = .ok (.iload_n 2, 1) := by decide +kernel
theorem dX7_heldIn_41 : decode cX7_heldIn 41 = .ok (.aload_n 0, 1) := by decide +kernel
theorem dX7_heldIn_42 : decode cX7_heldIn 42 = .ok (.getfield 18, 3) := by decide +kernel
theorem dX7_heldIn_45 : decode cX7_heldIn 45 = .ok (.iload_n 1, 1) := by decide +kernel
theorem dX7_heldIn_46 : decode cX7_heldIn 46 = .ok (.iaload, 1) := by decide +kernel
theorem dX7_heldIn_47 : decode cX7_heldIn 47 = .ok (.if_icmp .lt 7, 3) := by decide +kernel
theorem dX7_heldIn_50 : decode cX7_heldIn 50 = .ok (.iconst 0, 1) := by decide +kernel
theorem dX7_heldIn_51 : decode cX7_heldIn 51 = .ok (.goto 9, 3) := by decide +kernel
theorem dX7_heldIn_54 : decode cX7_heldIn 54 = .ok (.aload_n 0, 1) := by decide +kernel
theorem dX7_heldIn_55 : decode cX7_heldIn 55 = .ok (.getfield 15, 3) := by decide +kernel
theorem dX7_heldIn_58 : decode cX7_heldIn 58 = .ok (.iload_n 1, 1) := by decide +kernel
theorem dX7_heldIn_59 : decode cX7_heldIn 59 = .ok (.iaload, 1) := by decide +kernel
theorem dX7_heldIn_60 : decode cX7_heldIn 60 = .ok (.ireturn, 1) := by decide +kernel
set_option maxRecDepth 20000 in
theorem ggX7_allHeldIn_X7_heldIn : GoodIn wsX7_allHeldIn wsX7_heldIn := goodIn_r _ [6, 7, 8, 9, 10, 11, 12, 13, 14, 15, 16, 17, 18, 19, 20, 21] rfl (by decide +kernel)
set_option maxRecDepth 20000 in
theorem gX7_allHeldIn_X7_heldIn : GoodIn wsX7_allHeldIn (wsV RX7 42 RX7 yX7_heldIn wsX7_heldIn) := goodIn_app (goodIn_of _ (by decide +kernel)) ggX7_allHeldIn_X7_heldIn
theorem dX7_allHeldIn_0 : decode cX7_allHeldIn 0 = .ok (.lconst 0, 1) := by decide +kernel
theorem dX7_allHeldIn_1 : decode cX7_allHeldIn 1 = .ok (.lstore_n 2, 1) := by decide +kernel
theorem dX7_allHeldIn_2 : decode cX7_allHeldIn 2 = .ok (.iconst 0, 1) := by decide +kernel
theorem dX7_allHeldIn_3 : decode cX7_allHeldIn 3 = .ok (.istore 4, 2) := by decide +kernel
theorem dX7_allHeldIn_5 : decode cX7_allHeldIn 5 = .ok (.iload 4, 2) := by decide +kernel
theorem dX7_allHeldIn_7 : decode cX7_allHeldIn 7 = .ok (.aload_n 0, 1) := by decide +kernel
theorem dX7_allHeldIn_8 : decode cX7_allHeldIn 8 = .ok (.getfield 27, 3) := by decide +kernel
theorem dX7_allHeldIn_11 : decode cX7_allHeldIn 11 = .ok (.if_icmp .ge 20, 3) := by decide +kernel
theorem dX7_allHeldIn_14 : decode cX7_allHeldIn 14 = .ok (.lload_n 2, 1) := by decide +kernel
theorem dX7_allHeldIn_15 : decode cX7_allHeldIn 15 = .ok (.aload_n 0, 1) := by decide +kernel
theorem dX7_allHeldIn_16 : decode cX7_allHeldIn 16 = .ok (.iload 4, 2) := by decide +kernel
theorem dX7_allHeldIn_18 : decode cX7_allHeldIn 18 = .ok (.iload_n 1, 1) := by decide +kernel
theorem dX7_allHeldIn_19 : decode cX7_allHeldIn 19 = .ok (.invokevirtual 42, 3) := by decide +kernel
theorem dX7_allHeldIn_22 : decode cX7_allHeldIn 22 = .ok (.i2l, 1) := by decide +kernel
theorem dX7_allHeldIn_23 : decode cX7_allHeldIn 23 = .ok (.ladd, 1) := by decide +kernel
theorem dX7_allHeldIn_24 : decode cX7_allHeldIn 24 = .ok (.lstore_n 2, 1) := by decide +kernel
theorem dX7_allHeldIn_25 : decode cX7_allHeldIn 25 = .ok (.iinc 4 1, 3) := by decide +kernel
theorem dX7_allHeldIn_28 : decode cX7_allHeldIn 28 = .ok (.goto (-23), 3) := by decide +kernel
theorem dX7_allHeldIn_31 : decode cX7_allHeldIn 31 = .ok (.lload_n 2, 1) := by decide +kernel
theorem dX7_allHeldIn_32 : decode cX7_allHeldIn 32 = .ok (.lreturn, 1) := by decide +kernel
theorem dX8_init_0 : decode cX8_init 0 = .ok (.aload_n 0, 1) := by decide +kernel
theorem dX8_init_1 : decode cX8_init 1 = .ok (.invokespecial 1, 3) := by decide +kernel
theorem dX8_init_4 : decode cX8_init 4 = .ok (.aload_n 0, 1) := by decide +kernel
theorem dX8_init_5 : decode cX8_init 5 = .ok (.bipush 14, 2) := by decide +kernel
theorem dX8_init_7 : decode cX8_init 7 = .ok (.newarray .int, 2) := by decide +kernel
theorem dX8_init_9 : decode cX8_init 9 = .ok (.putfield 9, 3) := by decide +kernel
theorem dX8_init_12 : decode cX8_init 12 = .ok (.getstatic 13, 3) := by decide +kernel
theorem dX8_init_15 : decode cX8_init 15 = .ok (.iconst 0, 1) := by decide +kernel
theorem dX8_init_16 : decode cX8_init 16 = .ok (.aload_n 0, 1) := by decide +kernel
theorem dX8_init_17 : decode cX8_init 17 = .ok (.getfield 9, 3) := by decide +kernel
theorem dX8_init_20 : decode cX8_init 20 = .ok (.iconst 0, 1) := by decide +kernel
theorem dX8_init_21 : decode cX8_init 21 = .ok (.bipush 14, 2) := by decide +kernel
theorem dX8_init_23 : decode cX8_init 23 = .ok (.invokestatic 16, 3) := by decide +kernel
theorem dX8_init_26 : decode cX8_init 26 = .ok (.return_, 1) := by decide +kernel
theorem dX8_has_0 : decode cX8_has 0 = .ok (.iload_n 0, 1) := by decide +kernel
theorem dX8_has_1 : decode cX8_has 1 = .ok (.ifCond .lt 13, 3) := by decide +kernel
theorem dX8_has_4 : decode cX8_has 4 = .ok (.iload_n 0, 1) := by decide +kernel
theorem dX8_has_5 : decode cX8_has 5 = .ok (.bipush 14, 2) := by decide +kernel
theorem dX8_has_7 : decode cX8_has 7 = .ok (.if_icmp .ge 7, 3) := by decide +kernel
theorem dX8_has_10 : decode cX8_has 10 = .ok (.iconst 1, 1) := by decide +kernel
theorem dX8_has_11 : decode cX8_has 11 = .ok (.goto 4, 3) := by decide +kernel
theorem dX8_has_14 : decode cX8_has 14 = .ok (.iconst 0, 1) := by decide +kernel
theorem dX8_has_15 : decode cX8_has 15 = .ok (.ireturn, 1) := by decide +kernel
set_option maxRecDepth 20000 in
theorem ggX8_allow_X8_has : GoodIn wsX8_allow wsX8_has := goodIn_r _ [5] rfl (by decide +kernel)
set_option maxRecDepth 20000 in
theorem gX8_allow_X8_has : GoodIn wsX8_allow (va_wsS RX8 22 yX8_has wsX8_has) := goodIn_app (goodIn_of _ (by decide +kernel)) ggX8_allow_X8_has
set_option maxRecDepth 20000 in
theorem ggX8_allow_X10_isWithin : GoodIn wsX8_allow wsX10_isWithin := goodIn_r _ [8] rfl (by decide +kernel)
set_option maxRecDepth 20000 in
theorem gX8_allow_X10_isWithin_n29 : GoodIn wsX8_allow (wsX10_isWithin) := ggX8_allow_X10_isWithin
theorem dX8_allow_0 : decode cX8_allow 0 = .ok (.iload_n 0, 1) := by decide +kernel
theorem dX8_allow_1 : decode cX8_allow 1 = .ok (.invokestatic 22, 3) := by decide +kernel
theorem dX8_allow_4 : decode cX8_allow 4 = .ok (.ifCond .eq 20, 3) := by decide +kernel
theorem dX8_allow_7 : decode cX8_allow 7 = .ok (.iload_n 1, 1) := by decide +kernel
theorem dX8_allow_8 : decode cX8_allow 8 = .ok (.iconst 0, 1) := by decide +kernel
theorem dX8_allow_9 : decode cX8_allow 9 = .ok (.getstatic 26, 3) := by decide +kernel
theorem dX8_allow_12 : decode cX8_allow 12 = .ok (.iload_n 0, 1) := by decide +kernel
theorem dX8_allow_13 : decode cX8_allow 13 = .ok (.iaload, 1) := by decide +kernel
theorem dX8_allow_14 : decode cX8_allow 14 = .ok (.invokestatic 29, 3) := by decide +kernel
theorem dX8_allow_17 : decode cX8_allow 17 = .ok (.ifCond .eq 7, 3) := by decide +kernel
theorem dX8_allow_20 : decode cX8_allow 20 = .ok (.iconst 1, 1) := by decide +kernel
theorem dX8_allow_21 : decode cX8_allow 21 = .ok (.goto 4, 3) := by decide +kernel
theorem dX8_allow_24 : decode cX8_allow 24 = .ok (.iconst 0, 1) := by decide +kernel
theorem dX8_allow_25 : decode cX8_allow 25 = .ok (.ireturn, 1) := by decide +kernel
theorem dX8_of_0 : decode cX8_of 0 = .ok (.aload_n 0, 1) := by decide +kernel
theorem dX8_of_1 : decode cX8_of 1 = .ok (.getfield 9, 3) := by decide +kernel
theorem dX8_of_4 : decode cX8_of 4 = .ok (.iload_n 1, 1) := by decide +kernel
theorem dX8_of_5 : decode cX8_of 5 = .ok (.iaload, 1) := by decide +kernel
theorem dX8_of_6 : decode cX8_of 6 = .ok (.ireturn, 1) := by decide +kernel
theorem dX8_put_0 : decode cX8_put 0 = .ok (.aload_n 0, 1) := by decide +kernel
theorem dX8_put_1 : decode cX8_put 1 = .ok (.getfield 9, 3) := by decide +kernel
theorem dX8_put_4 : decode cX8_put 4 = .ok (.iload_n 1, 1) := by decide +kernel
theorem dX8_put_5 : decode cX8_put 5 = .ok (.iload_n 2, 1) := by decide +kernel
theorem dX8_put_6 : decode cX8_put 6 = .ok (.iastore, 1) := by decide +kernel
theorem dX8_put_7 : decode cX8_put 7 = .ok (.return_, 1) := by decide +kernel
theorem dX9_init_0 : decode cX9_init 0 = .ok (.aload_n 0, 1) := by decide +kernel
theorem dX9_init_1 : decode cX9_init 1 = .ok (.invokespecial 3, 3) := by decide +kernel
theorem dX9_init_4 : decode cX9_init 4 = .ok (.aload_n 0, 1) := by decide +kernel
theorem dX9_init_5 : decode cX9_init 5 = .ok (.bipush 120, 2) := by decide +kernel
theorem dX9_init_7 : decode cX9_init 7 = .ok (.newarray .int, 2) := by decide +kernel
theorem dX9_init_9 : decode cX9_init 9 = .ok (.putfield 9, 3) := by decide +kernel
theorem dX9_init_12 : decode cX9_init 12 = .ok (.aload_n 0, 1) := by decide +kernel
theorem dX9_init_13 : decode cX9_init 13 = .ok (.iconst 0, 1) := by decide +kernel
theorem dX9_init_14 : decode cX9_init 14 = .ok (.putfield 15, 3) := by decide +kernel
theorem dX9_init_17 : decode cX9_init 17 = .ok (.return_, 1) := by decide +kernel
theorem dX9_append_0 : decode cX9_append 0 = .ok (.aload_n 0, 1) := by decide +kernel
theorem dX9_append_1 : decode cX9_append 1 = .ok (.getfield 15, 3) := by decide +kernel
theorem dX9_append_4 : decode cX9_append 4 = .ok (.bipush 116, 2) := by decide +kernel
theorem dX9_append_6 : decode cX9_append 6 = .ok (.if_icmp .le 5, 3) := by decide +kernel
theorem dX9_append_9 : decode cX9_append 9 = .ok (.iconst 0, 1) := by decide +kernel
theorem dX9_append_10 : decode cX9_append 10 = .ok (.ireturn, 1) := by decide +kernel
theorem dX9_append_11 : decode cX9_append 11 = .ok (.bipush 24, 2) := by decide +kernel
theorem dX9_append_13 : decode cX9_append 13 = .ok (.istore_n 2, 1) := by decide +kernel
theorem dX9_append_14 : decode cX9_append 14 = .ok (.iload_n 2, 1) := by decide +kernel
theorem dX9_append_15 : decode cX9_append 15 = .ok (.ifCond .lt 35, 3) := by decide +kernel
theorem dX9_append_18 : decode cX9_append 18 = .ok (.aload_n 0, 1) := by decide +kernel
theorem dX9_append_19 : decode cX9_append 19 = .ok (.getfield 9, 3) := by decide +kernel
theorem dX9_append_22 : decode cX9_append 22 = .ok (.aload_n 0, 1) := by decide +kernel
theorem dX9_append_23 : decode cX9_append 23 = .ok (.getfield 15, 3) := by decide +kernel
theorem dX9_append_26 : decode cX9_append 26 = .ok (.iload_n 1, 1) := by decide +kernel
theorem dX9_append_27 : decode cX9_append 27 = .ok (.iload_n 2, 1) := by decide +kernel
theorem dX9_append_28 : decode cX9_append 28 = .ok (.iushr, 1) := by decide +kernel
theorem dX9_append_29 : decode cX9_append 29 = .ok (.sipush 255, 3) := by decide +kernel
theorem dX9_append_32 : decode cX9_append 32 = .ok (.iand, 1) := by decide +kernel
theorem dX9_append_33 : decode cX9_append 33 = .ok (.iastore, 1) := by decide +kernel
theorem dX9_append_34 : decode cX9_append 34 = .ok (.aload_n 0, 1) := by decide +kernel
theorem dX9_append_35 : decode cX9_append 35 = .ok (.dup, 1) := by decide +kernel
theorem dX9_append_36 : decode cX9_append 36 = .ok (.getfield 15, 3) := by decide +kernel
theorem dX9_append_39 : decode cX9_append 39 = .ok (.iconst 1, 1) := by decide +kernel
theorem dX9_append_40 : decode cX9_append 40 = .ok (.iadd, 1) := by decide +kernel
theorem dX9_append_41 : decode cX9_append 41 = .ok (.putfield 15, 3) := by decide +kernel
theorem dX9_append_44 : decode cX9_append 44 = .ok (.iinc 2 (-8), 3) := by decide +kernel
theorem dX9_append_47 : decode cX9_append 47 = .ok (.goto (-33), 3) := by decide +kernel
theorem dX9_append_50 : decode cX9_append 50 = .ok (.iconst 1, 1) := by decide +kernel
theorem dX9_append_51 : decode cX9_append 51 = .ok (.ireturn, 1) := by decide +kernel
theorem dX9_cutTo_0 : decode cX9_cutTo 0 = .ok (.iload_n 1, 1) := by decide +kernel
theorem dX9_cutTo_1 : decode cX9_cutTo 1 = .ok (.ifCond .lt 11, 3) := by decide +kernel
theorem dX9_cutTo_4 : decode cX9_cutTo 4 = .ok (.iload_n 1, 1) := by decide +kernel
theorem dX9_cutTo_5 : decode cX9_cutTo 5 = .ok (.aload_n 0, 1) := by decide +kernel
theorem dX9_cutTo_6 : decode cX9_cutTo 6 = .ok (.getfield 15, 3) := by decide +kernel
theorem dX9_cutTo_9 : decode cX9_cutTo 9 = .ok (.if_icmp .le 5, 3) := by decide +kernel
theorem dX9_cutTo_12 : decode cX9_cutTo 12 = .ok (.iconst 0, 1) := by decide +kernel
theorem dX9_cutTo_13 : decode cX9_cutTo 13 = .ok (.ireturn, 1) := by decide +kernel
theorem dX9_cutTo_14 : decode cX9_cutTo 14 = .ok (.aload_n 0, 1) := by decide +kernel
theorem dX9_cutTo_15 : decode cX9_cutTo 15 = .ok (.iload_n 1, 1) := by decide +kernel
theorem dX9_cutTo_16 : decode cX9_cutTo 16 = .ok (.putfield 15, 3) := by decide +kernel
theorem dX9_cutTo_19 : decode cX9_cutTo 19 = .ok (.iconst 1, 1) := by decide +kernel
theorem dX9_cutTo_20 : decode cX9_cutTo 20 = .ok (.ireturn, 1) := by decide +kernel
theorem dX9_signAt_0 : decode cX9_signAt 0 = .ok (.iload_n 1, 1) := by decide +kernel
theorem dX9_signAt_1 : decode cX9_signAt 1 = .ok (.ifCond .lt 20, 3) := by decide +kernel
theorem dX9_signAt_4 : decode cX9_signAt 4 = .ok (.iload_n 1, 1) := by decide +kernel
theorem dX9_signAt_5 : decode cX9_signAt 5 = .ok (.aload_n 0, 1) := by decide +kernel
theorem dX9_signAt_6 : decode cX9_signAt 6 = .ok (.getfield 15, 3) := by decide +kernel
theorem dX9_signAt_9 : decode cX9_signAt 9 = .ok (.if_icmp .ge 12, 3) := by decide +kernel
theorem dX9_signAt_12 : decode cX9_signAt 12 = .ok (.aload_n 0, 1) := by decide +kernel
theorem dX9_signAt_13 : decode cX9_signAt 13 = .ok (.getfield 9, 3) := by decide +kernel
theorem dX9_signAt_16 : decode cX9_signAt 16 = .ok (.iload_n 1, 1) := by decide +kernel
theorem dX9_signAt_17 : decode cX9_signAt 17 = .ok (.iaload, 1) := by decide +kernel
theorem dX9_signAt_18 : decode cX9_signAt 18 = .ok (.goto 4, 3) := by decide +kernel
theorem dX9_signAt_21 : decode cX9_signAt 21 = .ok (.iconst (-1), 1) := by decide +kernel
theorem dX9_signAt_22 : decode cX9_signAt 22 = .ok (.ireturn, 1) := by decide +kernel
theorem dJ6_bitCount_0f7a4_0 : decode cJ6_bitCount_0f7a4 0 = .ok (.iload_n 0, 1) := by decide +kernel
theorem dJ6_bitCount_0f7a4_1 : decode cJ6_bitCount_0f7a4 1 = .ok (.iload_n 0, 1) := by decide +kernel
theorem dJ6_bitCount_0f7a4_2 : decode cJ6_bitCount_0f7a4 2 = .ok (.iconst 1, 1) := by decide +kernel
theorem dJ6_bitCount_0f7a4_3 : decode cJ6_bitCount_0f7a4 3 = .ok (.iushr, 1) := by decide +kernel
theorem dJ6_bitCount_0f7a4_4 : decode cJ6_bitCount_0f7a4 4 = .ok (.ldc_w 265, 3) := by decide +kernel
theorem dJ6_bitCount_0f7a4_7 : decode cJ6_bitCount_0f7a4 7 = .ok (.iand, 1) := by decide +kernel
theorem dJ6_bitCount_0f7a4_8 : decode cJ6_bitCount_0f7a4 8 = .ok (.isub, 1) := by decide +kernel
theorem dJ6_bitCount_0f7a4_9 : decode cJ6_bitCount_0f7a4 9 = .ok (.istore_n 0, 1) := by decide +kernel
theorem dJ6_bitCount_0f7a4_10 : decode cJ6_bitCount_0f7a4 10 = .ok (.iload_n 0, 1) := by decide +kernel
theorem dJ6_bitCount_0f7a4_11 : decode cJ6_bitCount_0f7a4 11 = .ok (.ldc_w 266, 3) := by decide +kernel
theorem dJ6_bitCount_0f7a4_14 : decode cJ6_bitCount_0f7a4 14 = .ok (.iand, 1) := by decide +kernel
theorem dJ6_bitCount_0f7a4_15 : decode cJ6_bitCount_0f7a4 15 = .ok (.iload_n 0, 1) := by decide +kernel
theorem dJ6_bitCount_0f7a4_16 : decode cJ6_bitCount_0f7a4 16 = .ok (.iconst 2, 1) := by decide +kernel
theorem dJ6_bitCount_0f7a4_17 : decode cJ6_bitCount_0f7a4 17 = .ok (.iushr, 1) := by decide +kernel
theorem dJ6_bitCount_0f7a4_18 : decode cJ6_bitCount_0f7a4 18 = .ok (.ldc_w 266, 3) := by decide +kernel
theorem dJ6_bitCount_0f7a4_21 : decode cJ6_bitCount_0f7a4 21 = .ok (.iand, 1) := by decide +kernel
theorem dJ6_bitCount_0f7a4_22 : decode cJ6_bitCount_0f7a4 22 = .ok (.iadd, 1) := by decide +kernel
theorem dJ6_bitCount_0f7a4_23 : decode cJ6_bitCount_0f7a4 23 = .ok (.istore_n 0, 1) := by decide +kernel
theorem dJ6_bitCount_0f7a4_24 : decode cJ6_bitCount_0f7a4 24 = .ok (.iload_n 0, 1) := by decide +kernel
theorem dJ6_bitCount_0f7a4_25 : decode cJ6_bitCount_0f7a4 25 = .ok (.iload_n 0, 1) := by decide +kernel
theorem dJ6_bitCount_0f7a4_26 : decode cJ6_bitCount_0f7a4 26 = .ok (.iconst 4, 1) := by decide +kernel
theorem dJ6_bitCount_0f7a4_27 : decode cJ6_bitCount_0f7a4 27 = .ok (.iushr, 1) := by decide +kernel
theorem dJ6_bitCount_0f7a4_28 : decode cJ6_bitCount_0f7a4 28 = .ok (.iadd, 1) := by decide +kernel
theorem dJ6_bitCount_0f7a4_29 : decode cJ6_bitCount_0f7a4 29 = .ok (.ldc_w 267, 3) := by decide +kernel
theorem dJ6_bitCount_0f7a4_32 : decode cJ6_bitCount_0f7a4 32 = .ok (.iand, 1) := by decide +kernel
theorem dJ6_bitCount_0f7a4_33 : decode cJ6_bitCount_0f7a4 33 = .ok (.istore_n 0, 1) := by decide +kernel
theorem dJ6_bitCount_0f7a4_34 : decode cJ6_bitCount_0f7a4 34 = .ok (.iload_n 0, 1) := by decide +kernel
theorem dJ6_bitCount_0f7a4_35 : decode cJ6_bitCount_0f7a4 35 = .ok (.iload_n 0, 1) := by decide +kernel
theorem dJ6_bitCount_0f7a4_36 : decode cJ6_bitCount_0f7a4 36 = .ok (.bipush 8, 2) := by decide +kernel
theorem dJ6_bitCount_0f7a4_38 : decode cJ6_bitCount_0f7a4 38 = .ok (.iushr, 1) := by decide +kernel
theorem dJ6_bitCount_0f7a4_39 : decode cJ6_bitCount_0f7a4 39 = .ok (.iadd, 1) := by decide +kernel
theorem dJ6_bitCount_0f7a4_40 : decode cJ6_bitCount_0f7a4 40 = .ok (.istore_n 0, 1) := by decide +kernel
theorem dJ6_bitCount_0f7a4_41 : decode cJ6_bitCount_0f7a4 41 = .ok (.iload_n 0, 1) := by decide +kernel
theorem dJ6_bitCount_0f7a4_42 : decode cJ6_bitCount_0f7a4 42 = .ok (.iload_n 0, 1) := by decide +kernel
theorem dJ6_bitCount_0f7a4_43 : decode cJ6_bitCount_0f7a4 43 = .ok (.bipush 16, 2) := by decide +kernel
theorem dJ6_bitCount_0f7a4_45 : decode cJ6_bitCount_0f7a4 45 = .ok (.iushr, 1) := by decide +kernel
theorem dJ6_bitCount_0f7a4_46 : decode cJ6_bitCount_0f7a4 46 = .ok (.iadd, 1) := by decide +kernel
theorem dJ6_bitCount_0f7a4_47 : decode cJ6_bitCount_0f7a4 47 = .ok (.istore_n 0, 1) := by decide +kernel
theorem dJ6_bitCount_0f7a4_48 : decode cJ6_bitCount_0f7a4 48 = .ok (.iload_n 0, 1) := by decide +kernel
theorem dJ6_bitCount_0f7a4_49 : decode cJ6_bitCount_0f7a4 49 = .ok (.bipush 63, 2) := by decide +kernel
theorem dJ6_bitCount_0f7a4_51 : decode cJ6_bitCount_0f7a4 51 = .ok (.iand, 1) := by decide +kernel
theorem dJ6_bitCount_0f7a4_52 : decode cJ6_bitCount_0f7a4 52 = .ok (.ireturn, 1) := by decide +kernel
theorem dJ9_max_7cf53_0 : decode cJ9_max_7cf53 0 = .ok (.iload_n 0, 1) := by decide +kernel
theorem dJ9_max_7cf53_1 : decode cJ9_max_7cf53 1 = .ok (.iload_n 1, 1) := by decide +kernel
theorem dJ9_max_7cf53_2 : decode cJ9_max_7cf53 2 = .ok (.if_icmp .lt 7, 3) := by decide +kernel
theorem dJ9_max_7cf53_5 : decode cJ9_max_7cf53 5 = .ok (.iload_n 0, 1) := by decide +kernel
theorem dJ9_max_7cf53_6 : decode cJ9_max_7cf53 6 = .ok (.goto 4, 3) := by decide +kernel
theorem dJ9_max_7cf53_9 : decode cJ9_max_7cf53 9 = .ok (.iload_n 1, 1) := by decide +kernel
theorem dJ9_max_7cf53_10 : decode cJ9_max_7cf53 10 = .ok (.ireturn, 1) := by decide +kernel
theorem dJ9_max_f86c9_0 : decode cJ9_max_f86c9 0 = .ok (.lload_n 0, 1) := by decide +kernel
theorem dJ9_max_f86c9_1 : decode cJ9_max_f86c9 1 = .ok (.lload_n 2, 1) := by decide +kernel
theorem dJ9_max_f86c9_2 : decode cJ9_max_f86c9 2 = .ok (.lcmp, 1) := by decide +kernel
theorem dJ9_max_f86c9_3 : decode cJ9_max_f86c9 3 = .ok (.ifCond .lt 7, 3) := by decide +kernel
theorem dJ9_max_f86c9_6 : decode cJ9_max_f86c9 6 = .ok (.lload_n 0, 1) := by decide +kernel
theorem dJ9_max_f86c9_7 : decode cJ9_max_f86c9 7 = .ok (.goto 4, 3) := by decide +kernel
theorem dJ9_max_f86c9_10 : decode cJ9_max_f86c9 10 = .ok (.lload_n 2, 1) := by decide +kernel
theorem dJ9_max_f86c9_11 : decode cJ9_max_f86c9 11 = .ok (.lreturn, 1) := by decide +kernel
theorem dJ9_min_7cf53_0 : decode cJ9_min_7cf53 0 = .ok (.iload_n 0, 1) := by decide +kernel
theorem dJ9_min_7cf53_1 : decode cJ9_min_7cf53 1 = .ok (.iload_n 1, 1) := by decide +kernel
theorem dJ9_min_7cf53_2 : decode cJ9_min_7cf53 2 = .ok (.if_icmp .gt 7, 3) := by decide +kernel
theorem dJ9_min_7cf53_5 : decode cJ9_min_7cf53 5 = .ok (.iload_n 0, 1) := by decide +kernel
theorem dJ9_min_7cf53_6 : decode cJ9_min_7cf53 6 = .ok (.goto 4, 3) := by decide +kernel
theorem dJ9_min_7cf53_9 : decode cJ9_min_7cf53 9 = .ok (.iload_n 1, 1) := by decide +kernel
theorem dJ9_min_7cf53_10 : decode cJ9_min_7cf53 10 = .ok (.ireturn, 1) := by decide +kernel
theorem dJ9_min_f86c9_0 : decode cJ9_min_f86c9 0 = .ok (.lload_n 0, 1) := by decide +kernel
theorem dJ9_min_f86c9_1 : decode cJ9_min_f86c9 1 = .ok (.lload_n 2, 1) := by decide +kernel
theorem dJ9_min_f86c9_2 : decode cJ9_min_f86c9 2 = .ok (.lcmp, 1) := by decide +kernel
theorem dJ9_min_f86c9_3 : decode cJ9_min_f86c9 3 = .ok (.ifCond .gt 7, 3) := by decide +kernel
theorem dJ9_min_f86c9_6 : decode cJ9_min_f86c9 6 = .ok (.lload_n 0, 1) := by decide +kernel
theorem dJ9_min_f86c9_7 : decode cJ9_min_f86c9 7 = .ok (.goto 4, 3) := by decide +kernel
theorem dJ9_min_f86c9_10 : decode cJ9_min_f86c9 10 = .ok (.lload_n 2, 1) := by decide +kernel
theorem dJ9_min_f86c9_11 : decode cJ9_min_f86c9 11 = .ok (.lreturn, 1) := by decide +kernel
theorem dJ7_fill_d0a16_0 : decode cJ7_fill_d0a16 0 = .ok (.iconst 0, 1) := by decide +kernel
theorem dJ7_fill_d0a16_1 : decode cJ7_fill_d0a16 1 = .ok (.istore_n 3, 1) := by decide +kernel
theorem dJ7_fill_d0a16_2 : decode cJ7_fill_d0a16 2 = .ok (.aload_n 0, 1) := by decide +kernel
theorem dJ7_fill_d0a16_3 : decode cJ7_fill_d0a16 3 = .ok (.arraylength, 1) := by decide +kernel
theorem dJ7_fill_d0a16_4 : decode cJ7_fill_d0a16 4 = .ok (.istore 4, 2) := by decide +kernel
theorem dJ7_fill_d0a16_6 : decode cJ7_fill_d0a16 6 = .ok (.iload_n 3, 1) := by decide +kernel
theorem dJ7_fill_d0a16_7 : decode cJ7_fill_d0a16 7 = .ok (.iload 4, 2) := by decide +kernel
theorem dJ7_fill_d0a16_9 : decode cJ7_fill_d0a16 9 = .ok (.if_icmp .ge 13, 3) := by decide +kernel
theorem dJ7_fill_d0a16_12 : decode cJ7_fill_d0a16 12 = .ok (.aload_n 0, 1) := by decide +kernel
theorem dJ7_fill_d0a16_13 : decode cJ7_fill_d0a16 13 = .ok (.iload_n 3, 1) := by decide +kernel
theorem dJ7_fill_d0a16_14 : decode cJ7_fill_d0a16 14 = .ok (.lload_n 1, 1) := by decide +kernel
theorem dJ7_fill_d0a16_15 : decode cJ7_fill_d0a16 15 = .ok (.lastore, 1) := by decide +kernel
theorem dJ7_fill_d0a16_16 : decode cJ7_fill_d0a16 16 = .ok (.iinc 3 1, 3) := by decide +kernel
theorem dJ7_fill_d0a16_19 : decode cJ7_fill_d0a16 19 = .ok (.goto (-13), 3) := by decide +kernel
theorem dJ7_fill_d0a16_22 : decode cJ7_fill_d0a16 22 = .ok (.return_, 1) := by decide +kernel
theorem dJ7_fill_53178_0 : decode cJ7_fill_53178 0 = .ok (.iconst 0, 1) := by decide +kernel
theorem dJ7_fill_53178_1 : decode cJ7_fill_53178 1 = .ok (.istore_n 2, 1) := by decide +kernel
theorem dJ7_fill_53178_2 : decode cJ7_fill_53178 2 = .ok (.aload_n 0, 1) := by decide +kernel
theorem dJ7_fill_53178_3 : decode cJ7_fill_53178 3 = .ok (.arraylength, 1) := by decide +kernel
theorem dJ7_fill_53178_4 : decode cJ7_fill_53178 4 = .ok (.istore_n 3, 1) := by decide +kernel
theorem dJ7_fill_53178_5 : decode cJ7_fill_53178 5 = .ok (.iload_n 2, 1) := by decide +kernel
theorem dJ7_fill_53178_6 : decode cJ7_fill_53178 6 = .ok (.iload_n 3, 1) := by decide +kernel
theorem dJ7_fill_53178_7 : decode cJ7_fill_53178 7 = .ok (.if_icmp .ge 13, 3) := by decide +kernel
theorem dJ7_fill_53178_10 : decode cJ7_fill_53178 10 = .ok (.aload_n 0, 1) := by decide +kernel
theorem dJ7_fill_53178_11 : decode cJ7_fill_53178 11 = .ok (.iload_n 2, 1) := by decide +kernel
theorem dJ7_fill_53178_12 : decode cJ7_fill_53178 12 = .ok (.iload_n 1, 1) := by decide +kernel
theorem dJ7_fill_53178_13 : decode cJ7_fill_53178 13 = .ok (.iastore, 1) := by decide +kernel
theorem dJ7_fill_53178_14 : decode cJ7_fill_53178 14 = .ok (.iinc 2 1, 3) := by decide +kernel
theorem dJ7_fill_53178_17 : decode cJ7_fill_53178 17 = .ok (.goto (-12), 3) := by decide +kernel
theorem dJ7_fill_53178_20 : decode cJ7_fill_53178 20 = .ok (.return_, 1) := by decide +kernel
