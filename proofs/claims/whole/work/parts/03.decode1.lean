theorem dX0_init_0 : decode cX0_init 0 = .ok (.aload_n 0, 1) := by decide +kernel
theorem dX0_init_1 : decode cX0_init 1 = .ok (.invokespecial 3, 3) := by decide +kernel
theorem dX0_init_4 : decode cX0_init 4 = .ok (.aload_n 0, 1) := by decide +kernel
theorem dX0_init_5 : decode cX0_init 5 = .ok (.bipush 7, 2) := by decide +kernel
theorem dX0_init_7 : decode cX0_init 7 = .ok (.newarray .int, 2) := by decide +kernel
theorem dX0_init_9 : decode cX0_init 9 = .ok (.putfield 9, 3) := by decide +kernel
theorem dX0_init_12 : decode cX0_init 12 = .ok (.aload_n 0, 1) := by decide +kernel
theorem dX0_init_13 : decode cX0_init 13 = .ok (.bipush 7, 2) := by decide +kernel
theorem dX0_init_15 : decode cX0_init 15 = .ok (.newarray .int, 2) := by decide +kernel
theorem dX0_init_17 : decode cX0_init 17 = .ok (.putfield 15, 3) := by decide +kernel
theorem dX0_init_20 : decode cX0_init 20 = .ok (.aload_n 0, 1) := by decide +kernel
theorem dX0_init_21 : decode cX0_init 21 = .ok (.bipush 6, 2) := by decide +kernel
theorem dX0_init_23 : decode cX0_init 23 = .ok (.newarray .int, 2) := by decide +kernel
theorem dX0_init_25 : decode cX0_init 25 = .ok (.putfield 18, 3) := by decide +kernel
theorem dX0_init_28 : decode cX0_init 28 = .ok (.aload_n 0, 1) := by decide +kernel
theorem dX0_init_29 : decode cX0_init 29 = .ok (.bipush 6, 2) := by decide +kernel
theorem dX0_init_31 : decode cX0_init 31 = .ok (.newarray .int, 2) := by decide +kernel
theorem dX0_init_33 : decode cX0_init 33 = .ok (.putfield 21, 3) := by decide +kernel
theorem dX0_init_36 : decode cX0_init 36 = .ok (.aload_n 0, 1) := by decide +kernel
theorem dX0_init_37 : decode cX0_init 37 = .ok (.iconst 5, 1) := by decide +kernel
theorem dX0_init_38 : decode cX0_init 38 = .ok (.newarray .int, 2) := by decide +kernel
theorem dX0_init_40 : decode cX0_init 40 = .ok (.putfield 24, 3) := by decide +kernel
theorem dX0_init_43 : decode cX0_init 43 = .ok (.aload_n 0, 1) := by decide +kernel
theorem dX0_init_44 : decode cX0_init 44 = .ok (.iconst 5, 1) := by decide +kernel
theorem dX0_init_45 : decode cX0_init 45 = .ok (.newarray .int, 2) := by decide +kernel
theorem dX0_init_47 : decode cX0_init 47 = .ok (.putfield 27, 3) := by decide +kernel
theorem dX0_init_50 : decode cX0_init 50 = .ok (.return_, 1) := by decide +kernel
theorem dX0_clear_0 : decode cX0_clear 0 = .ok (.aload_n 0, 1) := by decide +kernel
theorem dX0_clear_1 : decode cX0_clear 1 = .ok (.iconst 0, 1) := by decide +kernel
theorem dX0_clear_2 : decode cX0_clear 2 = .ok (.putfield 30, 3) := by decide +kernel
theorem dX0_clear_5 : decode cX0_clear 5 = .ok (.aload_n 0, 1) := by decide +kernel
theorem dX0_clear_6 : decode cX0_clear 6 = .ok (.iconst 0, 1) := by decide +kernel
theorem dX0_clear_7 : decode cX0_clear 7 = .ok (.putfield 34, 3) := by decide +kernel
theorem dX0_clear_10 : decode cX0_clear 10 = .ok (.aload_n 0, 1) := by decide +kernel
theorem dX0_clear_11 : decode cX0_clear 11 = .ok (.iconst 0, 1) := by decide +kernel
theorem dX0_clear_12 : decode cX0_clear 12 = .ok (.putfield 37, 3) := by decide +kernel
theorem dX0_clear_15 : decode cX0_clear 15 = .ok (.aload_n 0, 1) := by decide +kernel
theorem dX0_clear_16 : decode cX0_clear 16 = .ok (.iconst 0, 1) := by decide +kernel
theorem dX0_clear_17 : decode cX0_clear 17 = .ok (.putfield 40, 3) := by decide +kernel
theorem dX0_clear_20 : decode cX0_clear 20 = .ok (.aload_n 0, 1) := by decide +kernel
theorem dX0_clear_21 : decode cX0_clear 21 = .ok (.iconst 0, 1) := by decide +kernel
theorem dX0_clear_22 : decode cX0_clear 22 = .ok (.putfield 43, 3) := by decide +kernel
theorem dX0_clear_25 : decode cX0_clear 25 = .ok (.aload_n 0, 1) := by decide +kernel
theorem dX0_clear_26 : decode cX0_clear 26 = .ok (.iconst 0, 1) := by decide +kernel
theorem dX0_clear_27 : decode cX0_clear 27 = .ok (.putfield 46, 3) := by decide +kernel
theorem dX0_clear_30 : decode cX0_clear 30 = .ok (.aload_n 0, 1) := by decide +kernel
theorem dX0_clear_31 : decode cX0_clear 31 = .ok (.iconst 0, 1) := by decide +kernel
theorem dX0_clear_32 : decode cX0_clear 32 = .ok (.putfield 50, 3) := by decide +kernel
theorem dX0_clear_35 : decode cX0_clear 35 = .ok (.return_, 1) := by decide +kernel
theorem dX0_hasPart_0 : decode cX0_hasPart 0 = .ok (.iload_n 1, 1) := by decide +kernel
theorem dX0_hasPart_1 : decode cX0_hasPart 1 = .ok (.ifCond .lt 21, 3) := by decide +kernel
theorem dX0_hasPart_4 : decode cX0_hasPart 4 = .ok (.iload_n 1, 1) := by decide +kernel
theorem dX0_hasPart_5 : decode cX0_hasPart 5 = .ok (.aload_n 0, 1) := by decide +kernel
theorem dX0_hasPart_6 : decode cX0_hasPart 6 = .ok (.getfield 30, 3) := by decide +kernel
theorem dX0_hasPart_9 : decode cX0_hasPart 9 = .ok (.if_icmp .ge 13, 3) := by decide +kernel
theorem dX0_hasPart_12 : decode cX0_hasPart 12 = .ok (.iload_n 1, 1) := by decide +kernel
theorem dX0_hasPart_13 : decode cX0_hasPart 13 = .ok (.bipush 7, 2) := by decide +kernel
theorem dX0_hasPart_15 : decode cX0_hasPart 15 = .ok (.if_icmp .ge 7, 3) := by decide +kernel
theorem dX0_hasPart_18 : decode cX0_hasPart 18 = .ok (.iconst 1, 1) := by decide +kernel
theorem dX0_hasPart_19 : decode cX0_hasPart 19 = .ok (.goto 4, 3) := by decide +kernel
theorem dX0_hasPart_22 : decode cX0_hasPart 22 = .ok (.iconst 0, 1) := by decide +kernel
theorem dX0_hasPart_23 : decode cX0_hasPart 23 = .ok (.ireturn, 1) := by decide +kernel
set_option maxRecDepth 20000 in
theorem ggX0_hasMouth_X0_hasPart : GoodIn wsX0_hasMouth wsX0_hasPart := goodIn_r _ [6, 7, 8, 9, 10, 11, 12, 13, 14, 15, 16, 17, 18, 19, 20] (by decide +kernel) (by decide +kernel)
set_option maxRecDepth 20000 in
theorem gX0_hasMouth_X0_hasPart : GoodIn wsX0_hasMouth (wsV RX0 53 RX0 yX0_hasPart wsX0_hasPart) := goodIn_app (goodIn_of _ (by decide +kernel)) ggX0_hasMouth_X0_hasPart
theorem dX0_hasMouth_0 : decode cX0_hasMouth 0 = .ok (.aload_n 0, 1) := by decide +kernel
theorem dX0_hasMouth_1 : decode cX0_hasMouth 1 = .ok (.iload_n 1, 1) := by decide +kernel
theorem dX0_hasMouth_2 : decode cX0_hasMouth 2 = .ok (.invokevirtual 53, 3) := by decide +kernel
theorem dX0_hasMouth_5 : decode cX0_hasMouth 5 = .ok (.ifCond .eq 19, 3) := by decide +kernel
theorem dX0_hasMouth_8 : decode cX0_hasMouth 8 = .ok (.aload_n 0, 1) := by decide +kernel
theorem dX0_hasMouth_9 : decode cX0_hasMouth 9 = .ok (.getfield 34, 3) := by decide +kernel
theorem dX0_hasMouth_12 : decode cX0_hasMouth 12 = .ok (.iload_n 1, 1) := by decide +kernel
theorem dX0_hasMouth_13 : decode cX0_hasMouth 13 = .ok (.ishr, 1) := by decide +kernel
theorem dX0_hasMouth_14 : decode cX0_hasMouth 14 = .ok (.iconst 1, 1) := by decide +kernel
theorem dX0_hasMouth_15 : decode cX0_hasMouth 15 = .ok (.iand, 1) := by decide +kernel
theorem dX0_hasMouth_16 : decode cX0_hasMouth 16 = .ok (.iconst 1, 1) := by decide +kernel
theorem dX0_hasMouth_17 : decode cX0_hasMouth 17 = .ok (.if_icmp .ne 7, 3) := by decide +kernel
theorem dX0_hasMouth_20 : decode cX0_hasMouth 20 = .ok (.iconst 1, 1) := by decide +kernel
theorem dX0_hasMouth_21 : decode cX0_hasMouth 21 = .ok (.goto 4, 3) := by decide +kernel
theorem dX0_hasMouth_24 : decode cX0_hasMouth 24 = .ok (.iconst 0, 1) := by decide +kernel
theorem dX0_hasMouth_25 : decode cX0_hasMouth 25 = .ok (.ireturn, 1) := by decide +kernel
set_option maxRecDepth 20000 in
theorem ggX0_hasWay_X0_hasPart : GoodIn wsX0_hasWay wsX0_hasPart := goodIn_r _ [6, 7, 8, 9, 10, 11, 12, 13, 14, 15, 16, 17, 18, 19, 20] (by decide +kernel) (by decide +kernel)
set_option maxRecDepth 20000 in
theorem gX0_hasWay_X0_hasPart : GoodIn wsX0_hasWay (wsV RX0 53 RX0 yX0_hasPart wsX0_hasPart) := goodIn_app (goodIn_of _ (by decide +kernel)) ggX0_hasWay_X0_hasPart
theorem dX0_hasWay_0 : decode cX0_hasWay 0 = .ok (.aload_n 0, 1) := by decide +kernel
theorem dX0_hasWay_1 : decode cX0_hasWay 1 = .ok (.iload_n 1, 1) := by decide +kernel
theorem dX0_hasWay_2 : decode cX0_hasWay 2 = .ok (.invokevirtual 53, 3) := by decide +kernel
theorem dX0_hasWay_5 : decode cX0_hasWay 5 = .ok (.ifCond .eq 29, 3) := by decide +kernel
theorem dX0_hasWay_8 : decode cX0_hasWay 8 = .ok (.aload_n 0, 1) := by decide +kernel
theorem dX0_hasWay_9 : decode cX0_hasWay 9 = .ok (.iload_n 2, 1) := by decide +kernel
theorem dX0_hasWay_10 : decode cX0_hasWay 10 = .ok (.invokevirtual 53, 3) := by decide +kernel
theorem dX0_hasWay_13 : decode cX0_hasWay 13 = .ok (.ifCond .eq 21, 3) := by decide +kernel
theorem dX0_hasWay_16 : decode cX0_hasWay 16 = .ok (.aload_n 0, 1) := by decide +kernel
theorem dX0_hasWay_17 : decode cX0_hasWay 17 = .ok (.getfield 15, 3) := by decide +kernel
theorem dX0_hasWay_20 : decode cX0_hasWay 20 = .ok (.iload_n 1, 1) := by decide +kernel
theorem dX0_hasWay_21 : decode cX0_hasWay 21 = .ok (.iaload, 1) := by decide +kernel
theorem dX0_hasWay_22 : decode cX0_hasWay 22 = .ok (.iload_n 2, 1) := by decide +kernel
theorem dX0_hasWay_23 : decode cX0_hasWay 23 = .ok (.ishr, 1) := by decide +kernel
theorem dX0_hasWay_24 : decode cX0_hasWay 24 = .ok (.iconst 1, 1) := by decide +kernel
theorem dX0_hasWay_25 : decode cX0_hasWay 25 = .ok (.iand, 1) := by decide +kernel
theorem dX0_hasWay_26 : decode cX0_hasWay 26 = .ok (.iconst 1, 1) := by decide +kernel
theorem dX0_hasWay_27 : decode cX0_hasWay 27 = .ok (.if_icmp .ne 7, 3) := by decide +kernel
theorem dX0_hasWay_30 : decode cX0_hasWay 30 = .ok (.iconst 1, 1) := by decide +kernel
theorem dX0_hasWay_31 : decode cX0_hasWay 31 = .ok (.goto 4, 3) := by decide +kernel
theorem dX0_hasWay_34 : decode cX0_hasWay 34 = .ok (.iconst 0, 1) := by decide +kernel
theorem dX0_hasWay_35 : decode cX0_hasWay 35 = .ok (.ireturn, 1) := by decide +kernel
theorem dX0_hasPerson_0 : decode cX0_hasPerson 0 = .ok (.iload_n 1, 1) := by decide +kernel
theorem dX0_hasPerson_1 : decode cX0_hasPerson 1 = .ok (.ifCond .lt 21, 3) := by decide +kernel
theorem dX0_hasPerson_4 : decode cX0_hasPerson 4 = .ok (.iload_n 1, 1) := by decide +kernel
theorem dX0_hasPerson_5 : decode cX0_hasPerson 5 = .ok (.aload_n 0, 1) := by decide +kernel
theorem dX0_hasPerson_6 : decode cX0_hasPerson 6 = .ok (.getfield 40, 3) := by decide +kernel
theorem dX0_hasPerson_9 : decode cX0_hasPerson 9 = .ok (.if_icmp .ge 13, 3) := by decide +kernel
theorem dX0_hasPerson_12 : decode cX0_hasPerson 12 = .ok (.iload_n 1, 1) := by decide +kernel
theorem dX0_hasPerson_13 : decode cX0_hasPerson 13 = .ok (.bipush 6, 2) := by decide +kernel
theorem dX0_hasPerson_15 : decode cX0_hasPerson 15 = .ok (.if_icmp .ge 7, 3) := by decide +kernel
theorem dX0_hasPerson_18 : decode cX0_hasPerson 18 = .ok (.iconst 1, 1) := by decide +kernel
theorem dX0_hasPerson_19 : decode cX0_hasPerson 19 = .ok (.goto 4, 3) := by decide +kernel
theorem dX0_hasPerson_22 : decode cX0_hasPerson 22 = .ok (.iconst 0, 1) := by decide +kernel
theorem dX0_hasPerson_23 : decode cX0_hasPerson 23 = .ok (.ireturn, 1) := by decide +kernel
set_option maxRecDepth 20000 in
theorem ggX0_mayFollow_X0_hasPart : GoodIn wsX0_mayFollow wsX0_hasPart := goodIn_r _ [5, 6, 12, 13, 14, 15, 16, 17, 18, 19, 20, 21, 22, 23, 24] (by decide +kernel) (by decide +kernel)
set_option maxRecDepth 20000 in
theorem gX0_mayFollow_X0_hasPart : GoodIn wsX0_mayFollow (wsV RX0 53 RX0 yX0_hasPart wsX0_hasPart) := goodIn_app (goodIn_of _ (by decide +kernel)) ggX0_mayFollow_X0_hasPart
set_option maxRecDepth 20000 in
theorem ggX0_mayFollow_X0_hasWay : GoodIn wsX0_mayFollow wsX0_hasWay := goodIn_r _ [10, 11, 1, 2, 3, 4, 5, 6, 12, 13, 14, 15, 16, 17, 18, 19, 20, 21, 22, 23, 24] (by decide +kernel) (by decide +kernel)
set_option maxRecDepth 20000 in
theorem gX0_mayFollow_X0_hasWay : GoodIn wsX0_mayFollow (wsV RX0 57 RX0 yX0_hasWay wsX0_hasWay) := goodIn_app (goodIn_of _ (by decide +kernel)) ggX0_mayFollow_X0_hasWay
theorem dX0_mayFollow_0 : decode cX0_mayFollow 0 = .ok (.aload_n 0, 1) := by decide +kernel
theorem dX0_mayFollow_1 : decode cX0_mayFollow 1 = .ok (.iload_n 1, 1) := by decide +kernel
theorem dX0_mayFollow_2 : decode cX0_mayFollow 2 = .ok (.invokevirtual 53, 3) := by decide +kernel
theorem dX0_mayFollow_5 : decode cX0_mayFollow 5 = .ok (.ifCond .eq 8, 3) := by decide +kernel
theorem dX0_mayFollow_8 : decode cX0_mayFollow 8 = .ok (.iload_n 1, 1) := by decide +kernel
theorem dX0_mayFollow_9 : decode cX0_mayFollow 9 = .ok (.iload_n 2, 1) := by decide +kernel
theorem dX0_mayFollow_10 : decode cX0_mayFollow 10 = .ok (.if_icmp .eq 12, 3) := by decide +kernel
theorem dX0_mayFollow_13 : decode cX0_mayFollow 13 = .ok (.aload_n 0, 1) := by decide +kernel
theorem dX0_mayFollow_14 : decode cX0_mayFollow 14 = .ok (.iload_n 1, 1) := by decide +kernel
theorem dX0_mayFollow_15 : decode cX0_mayFollow 15 = .ok (.iload_n 2, 1) := by decide +kernel
theorem dX0_mayFollow_16 : decode cX0_mayFollow 16 = .ok (.invokevirtual 57, 3) := by decide +kernel
theorem dX0_mayFollow_19 : decode cX0_mayFollow 19 = .ok (.ifCond .eq 7, 3) := by decide +kernel
theorem dX0_mayFollow_22 : decode cX0_mayFollow 22 = .ok (.iconst 1, 1) := by decide +kernel
theorem dX0_mayFollow_23 : decode cX0_mayFollow 23 = .ok (.goto 4, 3) := by decide +kernel
theorem dX0_mayFollow_26 : decode cX0_mayFollow 26 = .ok (.iconst 0, 1) := by decide +kernel
theorem dX0_mayFollow_27 : decode cX0_mayFollow 27 = .ok (.ireturn, 1) := by decide +kernel
set_option maxRecDepth 20000 in
theorem ggX0_rateOf_X0_hasPart : GoodIn wsX0_rateOf wsX0_hasPart := goodIn_r _ [6, 7, 8, 9, 10, 11, 12, 13, 14, 15, 16, 17, 18, 19, 20] (by decide +kernel) (by decide +kernel)
set_option maxRecDepth 20000 in
theorem gX0_rateOf_X0_hasPart : GoodIn wsX0_rateOf (wsV RX0 53 RX0 yX0_hasPart wsX0_hasPart) := goodIn_app (goodIn_of _ (by decide +kernel)) ggX0_rateOf_X0_hasPart
theorem dX0_rateOf_0 : decode cX0_rateOf 0 = .ok (.aload_n 0, 1) := by decide +kernel
theorem dX0_rateOf_1 : decode cX0_rateOf 1 = .ok (.iload_n 1, 1) := by decide +kernel
theorem dX0_rateOf_2 : decode cX0_rateOf 2 = .ok (.invokevirtual 53, 3) := by decide +kernel
theorem dX0_rateOf_5 : decode cX0_rateOf 5 = .ok (.ifCond .eq 12, 3) := by decide +kernel
theorem dX0_rateOf_8 : decode cX0_rateOf 8 = .ok (.aload_n 0, 1) := by decide +kernel
theorem dX0_rateOf_9 : decode cX0_rateOf 9 = .ok (.getfield 9, 3) := by decide +kernel
theorem dX0_rateOf_12 : decode cX0_rateOf 12 = .ok (.iload_n 1, 1) := by decide +kernel
theorem dX0_rateOf_13 : decode cX0_rateOf 13 = .ok (.iaload, 1) := by decide +kernel
theorem dX0_rateOf_14 : decode cX0_rateOf 14 = .ok (.goto 4, 3) := by decide +kernel
theorem dX0_rateOf_17 : decode cX0_rateOf 17 = .ok (.iconst 0, 1) := by decide +kernel
theorem dX0_rateOf_18 : decode cX0_rateOf 18 = .ok (.ireturn, 1) := by decide +kernel
set_option maxRecDepth 20000 in
theorem ggX0_alikeSet_X0_hasPart : GoodIn wsX0_alikeSet wsX0_hasPart := goodIn_r _ [6, 7, 12, 13, 14, 15, 16, 17, 18, 19, 20, 21, 22, 23, 24] (by decide +kernel) (by decide +kernel)
set_option maxRecDepth 20000 in
theorem gX0_alikeSet_X0_hasPart : GoodIn wsX0_alikeSet (wsV RX0 53 RX0 yX0_hasPart wsX0_hasPart) := goodIn_app (goodIn_of _ (by decide +kernel)) ggX0_alikeSet_X0_hasPart
set_option maxRecDepth 20000 in
theorem ggX0_alikeSet_X0_rateOf : GoodIn wsX0_alikeSet wsX0_rateOf := goodIn_r _ [11, 1, 2, 3, 4, 5, 6, 7, 12, 13, 14, 15, 16, 17, 18, 19, 20, 21, 22, 23, 24] (by decide +kernel) (by decide +kernel)
set_option maxRecDepth 20000 in
theorem gX0_alikeSet_X0_rateOf : GoodIn wsX0_alikeSet (wsV RX0 61 RX0 yX0_rateOf wsX0_rateOf) := goodIn_app (goodIn_of _ (by decide +kernel)) ggX0_alikeSet_X0_rateOf
theorem dX0_alikeSet_0 : decode cX0_alikeSet 0 = .ok (.iconst 0, 1) := by decide +kernel
theorem dX0_alikeSet_1 : decode cX0_alikeSet 1 = .ok (.istore_n 2, 1) := by decide +kernel
theorem dX0_alikeSet_2 : decode cX0_alikeSet 2 = .ok (.iconst 0, 1) := by decide +kernel
theorem dX0_alikeSet_3 : decode cX0_alikeSet 3 = .ok (.istore_n 3, 1) := by decide +kernel
theorem dX0_alikeSet_4 : decode cX0_alikeSet 4 = .ok (.iload_n 3, 1) := by decide +kernel
theorem dX0_alikeSet_5 : decode cX0_alikeSet 5 = .ok (.bipush 7, 2) := by decide +kernel
theorem dX0_alikeSet_7 : decode cX0_alikeSet 7 = .ok (.if_icmp .ge 42, 3) := by decide +kernel
theorem dX0_alikeSet_10 : decode cX0_alikeSet 10 = .ok (.iload_n 3, 1) := by decide +kernel
theorem dX0_alikeSet_11 : decode cX0_alikeSet 11 = .ok (.iload_n 1, 1) := by decide +kernel
theorem dX0_alikeSet_12 : decode cX0_alikeSet 12 = .ok (.if_icmp .eq 31, 3) := by decide +kernel
theorem dX0_alikeSet_15 : decode cX0_alikeSet 15 = .ok (.aload_n 0, 1) := by decide +kernel
theorem dX0_alikeSet_16 : decode cX0_alikeSet 16 = .ok (.iload_n 3, 1) := by decide +kernel
theorem dX0_alikeSet_17 : decode cX0_alikeSet 17 = .ok (.invokevirtual 53, 3) := by decide +kernel
theorem dX0_alikeSet_20 : decode cX0_alikeSet 20 = .ok (.ifCond .eq 23, 3) := by decide +kernel
theorem dX0_alikeSet_23 : decode cX0_alikeSet 23 = .ok (.aload_n 0, 1) := by decide +kernel
theorem dX0_alikeSet_24 : decode cX0_alikeSet 24 = .ok (.getfield 9, 3) := by decide +kernel
theorem dX0_alikeSet_27 : decode cX0_alikeSet 27 = .ok (.iload_n 3, 1) := by decide +kernel
theorem dX0_alikeSet_28 : decode cX0_alikeSet 28 = .ok (.iaload, 1) := by decide +kernel
theorem dX0_alikeSet_29 : decode cX0_alikeSet 29 = .ok (.aload_n 0, 1) := by decide +kernel
theorem dX0_alikeSet_30 : decode cX0_alikeSet 30 = .ok (.iload_n 1, 1) := by decide +kernel
theorem dX0_alikeSet_31 : decode cX0_alikeSet 31 = .ok (.invokevirtual 61, 3) := by decide +kernel
theorem dX0_alikeSet_34 : decode cX0_alikeSet 34 = .ok (.if_icmp .ne 9, 3) := by decide +kernel
theorem dX0_alikeSet_37 : decode cX0_alikeSet 37 = .ok (.iload_n 2, 1) := by decide +kernel
theorem dX0_alikeSet_38 : decode cX0_alikeSet 38 = .ok (.iconst 1, 1) := by decide +kernel
theorem dX0_alikeSet_39 : decode cX0_alikeSet 39 = .ok (.iload_n 3, 1) := by decide +kernel
theorem dX0_alikeSet_40 : decode cX0_alikeSet 40 = .ok (.ishl, 1) := by decide +kernel
theorem dX0_alikeSet_41 : decode cX0_alikeSet 41 = .ok (.ior, 1) := by decide +kernel
theorem dX0_alikeSet_42 : decode cX0_alikeSet 42 = .ok (.istore_n 2, 1) := by decide +kernel
theorem dX0_alikeSet_43 : decode cX0_alikeSet 43 = .ok (.iinc 3 1, 3) := by decide +kernel
theorem dX0_alikeSet_46 : decode cX0_alikeSet 46 = .ok (.goto (-42), 3) := by decide +kernel
theorem dX0_alikeSet_49 : decode cX0_alikeSet 49 = .ok (.iload_n 2, 1) := by decide +kernel
theorem dX0_alikeSet_50 : decode cX0_alikeSet 50 = .ok (.ireturn, 1) := by decide +kernel
theorem dX0_lastWinterEnd_0 : decode cX0_lastWinterEnd 0 = .ok (.iconst (-1), 1) := by decide +kernel
theorem dX0_lastWinterEnd_1 : decode cX0_lastWinterEnd 1 = .ok (.istore_n 2, 1) := by decide +kernel
theorem dX0_lastWinterEnd_2 : decode cX0_lastWinterEnd 2 = .ok (.iconst 0, 1) := by decide +kernel
theorem dX0_lastWinterEnd_3 : decode cX0_lastWinterEnd 3 = .ok (.istore_n 3, 1) := by decide +kernel
theorem dX0_lastWinterEnd_4 : decode cX0_lastWinterEnd 4 = .ok (.iload_n 3, 1) := by decide +kernel
theorem dX0_lastWinterEnd_5 : decode cX0_lastWinterEnd 5 = .ok (.aload_n 0, 1) := by decide +kernel
theorem dX0_lastWinterEnd_6 : decode cX0_lastWinterEnd 6 = .ok (.getfield 50, 3) := by decide +kernel
theorem dX0_lastWinterEnd_9 : decode cX0_lastWinterEnd 9 = .ok (.if_icmp .ge 35, 3) := by decide +kernel
theorem dX0_lastWinterEnd_12 : decode cX0_lastWinterEnd 12 = .ok (.iload_n 3, 1) := by decide +kernel
theorem dX0_lastWinterEnd_13 : decode cX0_lastWinterEnd 13 = .ok (.iconst 5, 1) := by decide +kernel
theorem dX0_lastWinterEnd_14 : decode cX0_lastWinterEnd 14 = .ok (.if_icmp .ge 30, 3) := by decide +kernel
theorem dX0_lastWinterEnd_17 : decode cX0_lastWinterEnd 17 = .ok (.aload_n 0, 1) := by decide +kernel
theorem dX0_lastWinterEnd_18 : decode cX0_lastWinterEnd 18 = .ok (.getfield 24, 3) := by decide +kernel
theorem dX0_lastWinterEnd_21 : decode cX0_lastWinterEnd 21 = .ok (.iload_n 3, 1) := by decide +kernel
theorem dX0_lastWinterEnd_22 : decode cX0_lastWinterEnd 22 = .ok (.iaload, 1) := by decide +kernel
theorem dX0_lastWinterEnd_23 : decode cX0_lastWinterEnd 23 = .ok (.iload_n 1, 1) := by decide +kernel
theorem dX0_lastWinterEnd_24 : decode cX0_lastWinterEnd 24 = .ok (.if_icmp .lt 14, 3) := by decide +kernel
theorem dX0_lastWinterEnd_27 : decode cX0_lastWinterEnd 27 = .ok (.iload_n 2, 1) := by decide +kernel
theorem dX0_lastWinterEnd_28 : decode cX0_lastWinterEnd 28 = .ok (.aload_n 0, 1) := by decide +kernel
theorem dX0_lastWinterEnd_29 : decode cX0_lastWinterEnd 29 = .ok (.getfield 27, 3) := by decide +kernel
theorem dX0_lastWinterEnd_32 : decode cX0_lastWinterEnd 32 = .ok (.iload_n 3, 1) := by decide +kernel
theorem dX0_lastWinterEnd_33 : decode cX0_lastWinterEnd 33 = .ok (.iaload, 1) := by decide +kernel
theorem dX0_lastWinterEnd_34 : decode cX0_lastWinterEnd 34 = .ok (.invokestatic 65, 3) := by decide +kernel
theorem dX0_lastWinterEnd_37 : decode cX0_lastWinterEnd 37 = .ok (.istore_n 2, 1) := by decide +kernel
theorem dX0_lastWinterEnd_38 : decode cX0_lastWinterEnd 38 = .ok (.iinc 3 1, 3) := by decide +kernel
theorem dX0_lastWinterEnd_41 : decode cX0_lastWinterEnd 41 = .ok (.goto (-37), 3) := by decide +kernel
theorem dX0_lastWinterEnd_44 : decode cX0_lastWinterEnd 44 = .ok (.iload_n 2, 1) := by decide +kernel
theorem dX0_lastWinterEnd_45 : decode cX0_lastWinterEnd 45 = .ok (.ireturn, 1) := by decide +kernel
theorem dX0_addPart_0 : decode cX0_addPart 0 = .ok (.aload_n 0, 1) := by decide +kernel
theorem dX0_addPart_1 : decode cX0_addPart 1 = .ok (.getfield 30, 3) := by decide +kernel
theorem dX0_addPart_4 : decode cX0_addPart 4 = .ok (.ifCond .lt 51, 3) := by decide +kernel
theorem dX0_addPart_7 : decode cX0_addPart 7 = .ok (.aload_n 0, 1) := by decide +kernel
theorem dX0_addPart_8 : decode cX0_addPart 8 = .ok (.getfield 30, 3) := by decide +kernel
theorem dX0_addPart_11 : decode cX0_addPart 11 = .ok (.bipush 7, 2) := by decide +kernel
theorem dX0_addPart_13 : decode cX0_addPart 13 = .ok (.if_icmp .ge 42, 3) := by decide +kernel
theorem dX0_addPart_16 : decode cX0_addPart 16 = .ok (.iload_n 2, 1) := by decide +kernel
theorem dX0_addPart_17 : decode cX0_addPart 17 = .ok (.ifCond .le 38, 3) := by decide +kernel
theorem dX0_addPart_20 : decode cX0_addPart 20 = .ok (.aload_n 0, 1) := by decide +kernel
theorem dX0_addPart_21 : decode cX0_addPart 21 = .ok (.getfield 9, 3) := by decide +kernel
theorem dX0_addPart_24 : decode cX0_addPart 24 = .ok (.aload_n 0, 1) := by decide +kernel
theorem dX0_addPart_25 : decode cX0_addPart 25 = .ok (.getfield 30, 3) := by decide +kernel
theorem dX0_addPart_28 : decode cX0_addPart 28 = .ok (.bipush 60, 2) := by decide +kernel
theorem dX0_addPart_30 : decode cX0_addPart 30 = .ok (.iload_n 1, 1) := by decide +kernel
theorem dX0_addPart_31 : decode cX0_addPart 31 = .ok (.imul, 1) := by decide +kernel
theorem dX0_addPart_32 : decode cX0_addPart 32 = .ok (.iload_n 2, 1) := by decide +kernel
theorem dX0_addPart_33 : decode cX0_addPart 33 = .ok (.idiv, 1) := by decide +kernel
theorem dX0_addPart_34 : decode cX0_addPart 34 = .ok (.iastore, 1) := by decide +kernel
theorem dX0_addPart_35 : decode cX0_addPart 35 = .ok (.aload_n 0, 1) := by decide +kernel
theorem dX0_addPart_36 : decode cX0_addPart 36 = .ok (.getfield 15, 3) := by decide +kernel
theorem dX0_addPart_39 : decode cX0_addPart 39 = .ok (.aload_n 0, 1) := by decide +kernel
theorem dX0_addPart_40 : decode cX0_addPart 40 = .ok (.getfield 30, 3) := by decide +kernel
theorem dX0_addPart_43 : decode cX0_addPart 43 = .ok (.iconst 0, 1) := by decide +kernel
theorem dX0_addPart_44 : decode cX0_addPart 44 = .ok (.iastore, 1) := by decide +kernel
theorem dX0_addPart_45 : decode cX0_addPart 45 = .ok (.aload_n 0, 1) := by decide +kernel
theorem dX0_addPart_46 : decode cX0_addPart 46 = .ok (.dup, 1) := by decide +kernel
theorem dX0_addPart_47 : decode cX0_addPart 47 = .ok (.getfield 30, 3) := by decide +kernel
theorem dX0_addPart_50 : decode cX0_addPart 50 = .ok (.iconst 1, 1) := by decide +kernel
theorem dX0_addPart_51 : decode cX0_addPart 51 = .ok (.iadd, 1) := by decide +kernel
theorem dX0_addPart_52 : decode cX0_addPart 52 = .ok (.putfield 30, 3) := by decide +kernel
theorem dX0_addPart_55 : decode cX0_addPart 55 = .ok (.return_, 1) := by decide +kernel
set_option maxRecDepth 20000 in
theorem ggX0_addMouth_X0_hasPart : GoodIn wsX0_addMouth wsX0_hasPart := goodIn_r _ [6, 7, 8, 9, 10, 11, 12, 13, 14, 15, 16, 17, 18, 19, 20] (by decide +kernel) (by decide +kernel)
set_option maxRecDepth 20000 in
theorem gX0_addMouth_X0_hasPart : GoodIn wsX0_addMouth (wsV RX0 53 RX0 yX0_hasPart wsX0_hasPart) := goodIn_app (goodIn_of _ (by decide +kernel)) ggX0_addMouth_X0_hasPart
theorem dX0_addMouth_0 : decode cX0_addMouth 0 = .ok (.aload_n 0, 1) := by decide +kernel
theorem dX0_addMouth_1 : decode cX0_addMouth 1 = .ok (.iload_n 1, 1) := by decide +kernel
theorem dX0_addMouth_2 : decode cX0_addMouth 2 = .ok (.invokevirtual 53, 3) := by decide +kernel
theorem dX0_addMouth_5 : decode cX0_addMouth 5 = .ok (.ifCond .eq 15, 3) := by decide +kernel
theorem dX0_addMouth_8 : decode cX0_addMouth 8 = .ok (.aload_n 0, 1) := by decide +kernel
theorem dX0_addMouth_9 : decode cX0_addMouth 9 = .ok (.dup, 1) := by decide +kernel
theorem dX0_addMouth_10 : decode cX0_addMouth 10 = .ok (.getfield 34, 3) := by decide +kernel
theorem dX0_addMouth_13 : decode cX0_addMouth 13 = .ok (.iconst 1, 1) := by decide +kernel
theorem dX0_addMouth_14 : decode cX0_addMouth 14 = .ok (.iload_n 1, 1) := by decide +kernel
theorem dX0_addMouth_15 : decode cX0_addMouth 15 = .ok (.ishl, 1) := by decide +kernel
theorem dX0_addMouth_16 : decode cX0_addMouth 16 = .ok (.ior, 1) := by decide +kernel
theorem dX0_addMouth_17 : decode cX0_addMouth 17 = .ok (.putfield 34, 3) := by decide +kernel
theorem dX0_addMouth_20 : decode cX0_addMouth 20 = .ok (.return_, 1) := by decide +kernel
set_option maxRecDepth 20000 in
theorem ggX0_addWay_X0_hasPart : GoodIn wsX0_addWay wsX0_hasPart := goodIn_r _ [7, 8, 9, 10, 11, 12, 13, 14, 15, 16, 17, 18, 19, 20, 21] (by decide +kernel) (by decide +kernel)
set_option maxRecDepth 20000 in
theorem gX0_addWay_X0_hasPart : GoodIn wsX0_addWay (wsV RX0 53 RX0 yX0_hasPart wsX0_hasPart) := goodIn_app (goodIn_of _ (by decide +kernel)) ggX0_addWay_X0_hasPart
theorem dX0_addWay_0 : decode cX0_addWay 0 = .ok (.aload_n 0, 1) := by decide +kernel
theorem dX0_addWay_1 : decode cX0_addWay 1 = .ok (.iload_n 1, 1) := by decide +kernel
theorem dX0_addWay_2 : decode cX0_addWay 2 = .ok (.invokevirtual 53, 3) := by decide +kernel
theorem dX0_addWay_5 : decode cX0_addWay 5 = .ok (.ifCond .eq 45, 3) := by decide +kernel
theorem dX0_addWay_8 : decode cX0_addWay 8 = .ok (.aload_n 0, 1) := by decide +kernel
theorem dX0_addWay_9 : decode cX0_addWay 9 = .ok (.iload_n 2, 1) := by decide +kernel
theorem dX0_addWay_10 : decode cX0_addWay 10 = .ok (.invokevirtual 53, 3) := by decide +kernel
theorem dX0_addWay_13 : decode cX0_addWay 13 = .ok (.ifCond .eq 37, 3) := by decide +kernel
theorem dX0_addWay_16 : decode cX0_addWay 16 = .ok (.aload_n 0, 1) := by decide +kernel
theorem dX0_addWay_17 : decode cX0_addWay 17 = .ok (.getfield 15, 3) := by decide +kernel
theorem dX0_addWay_20 : decode cX0_addWay 20 = .ok (.iload_n 1, 1) := by decide +kernel
theorem dX0_addWay_21 : decode cX0_addWay 21 = .ok (.dup2, 1) := by decide +kernel
theorem dX0_addWay_22 : decode cX0_addWay 22 = .ok (.iaload, 1) := by decide +kernel
theorem dX0_addWay_23 : decode cX0_addWay 23 = .ok (.iconst 1, 1) := by decide +kernel
theorem dX0_addWay_24 : decode cX0_addWay 24 = .ok (.iload_n 2, 1) := by decide +kernel
theorem dX0_addWay_25 : decode cX0_addWay 25 = .ok (.ishl, 1) := by decide +kernel
theorem dX0_addWay_26 : decode cX0_addWay 26 = .ok (.ior, 1) := by decide +kernel
theorem dX0_addWay_27 : decode cX0_addWay 27 = .ok (.iastore, 1) := by decide +kernel
theorem dX0_addWay_28 : decode cX0_addWay 28 = .ok (.aload_n 0, 1) := by decide +kernel
theorem dX0_addWay_29 : decode cX0_addWay 29 = .ok (.getfield 15, 3) := by decide +kernel
theorem dX0_addWay_32 : decode cX0_addWay 32 = .ok (.iload_n 2, 1) := by decide +kernel
theorem dX0_addWay_33 : decode cX0_addWay 33 = .ok (.dup2, 1) := by decide +kernel
theorem dX0_addWay_34 : decode cX0_addWay 34 = .ok (.iaload, 1) := by decide +kernel
theorem dX0_addWay_35 : decode cX0_addWay 35 = .ok (.iconst 1, 1) := by decide +kernel
theorem dX0_addWay_36 : decode cX0_addWay 36 = .ok (.iload_n 1, 1) := by decide +kernel
theorem dX0_addWay_37 : decode cX0_addWay 37 = .ok (.ishl, 1) := by decide +kernel
theorem dX0_addWay_38 : decode cX0_addWay 38 = .ok (.ior, 1) := by decide +kernel
theorem dX0_addWay_39 : decode cX0_addWay 39 = .ok (.iastore, 1) := by decide +kernel
theorem dX0_addWay_40 : decode cX0_addWay 40 = .ok (.aload_n 0, 1) := by decide +kernel
theorem dX0_addWay_41 : decode cX0_addWay 41 = .ok (.dup, 1) := by decide +kernel
theorem dX0_addWay_42 : decode cX0_addWay 42 = .ok (.getfield 37, 3) := by decide +kernel
theorem dX0_addWay_45 : decode cX0_addWay 45 = .ok (.iconst 1, 1) := by decide +kernel
theorem dX0_addWay_46 : decode cX0_addWay 46 = .ok (.iadd, 1) := by decide +kernel
theorem dX0_addWay_47 : decode cX0_addWay 47 = .ok (.putfield 37, 3) := by decide +kernel
theorem dX0_addWay_50 : decode cX0_addWay 50 = .ok (.return_, 1) := by decide +kernel
theorem dX0_addPerson_0 : decode cX0_addPerson 0 = .ok (.aload_n 0, 1) := by decide +kernel
theorem dX0_addPerson_1 : decode cX0_addPerson 1 = .ok (.getfield 40, 3) := by decide +kernel
theorem dX0_addPerson_4 : decode cX0_addPerson 4 = .ok (.ifCond .lt 45, 3) := by decide +kernel
theorem dX0_addPerson_7 : decode cX0_addPerson 7 = .ok (.aload_n 0, 1) := by decide +kernel
theorem dX0_addPerson_8 : decode cX0_addPerson 8 = .ok (.getfield 40, 3) := by decide +kernel
theorem dX0_addPerson_11 : decode cX0_addPerson 11 = .ok (.bipush 6, 2) := by decide +kernel
theorem dX0_addPerson_13 : decode cX0_addPerson 13 = .ok (.if_icmp .ge 36, 3) := by decide +kernel
theorem dX0_addPerson_16 : decode cX0_addPerson 16 = .ok (.aload_n 0, 1) := by decide +kernel
theorem dX0_addPerson_17 : decode cX0_addPerson 17 = .ok (.getfield 18, 3) := by decide +kernel
theorem dX0_addPerson_20 : decode cX0_addPerson 20 = .ok (.aload_n 0, 1) := by decide +kernel
theorem dX0_addPerson_21 : decode cX0_addPerson 21 = .ok (.getfield 40, 3) := by decide +kernel
theorem dX0_addPerson_24 : decode cX0_addPerson 24 = .ok (.bipush 60, 2) := by decide +kernel
theorem dX0_addPerson_26 : decode cX0_addPerson 26 = .ok (.iload_n 1, 1) := by decide +kernel
theorem dX0_addPerson_27 : decode cX0_addPerson 27 = .ok (.imul, 1) := by decide +kernel
theorem dX0_addPerson_28 : decode cX0_addPerson 28 = .ok (.iastore, 1) := by decide +kernel
theorem dX0_addPerson_29 : decode cX0_addPerson 29 = .ok (.aload_n 0, 1) := by decide +kernel
theorem dX0_addPerson_30 : decode cX0_addPerson 30 = .ok (.getfield 21, 3) := by decide +kernel
theorem dX0_addPerson_33 : decode cX0_addPerson 33 = .ok (.aload_n 0, 1) := by decide +kernel
theorem dX0_addPerson_34 : decode cX0_addPerson 34 = .ok (.getfield 40, 3) := by decide +kernel
theorem dX0_addPerson_37 : decode cX0_addPerson 37 = .ok (.iload_n 2, 1) := by decide +kernel
theorem dX0_addPerson_38 : decode cX0_addPerson 38 = .ok (.iastore, 1) := by decide +kernel
theorem dX0_addPerson_39 : decode cX0_addPerson 39 = .ok (.aload_n 0, 1) := by decide +kernel
theorem dX0_addPerson_40 : decode cX0_addPerson 40 = .ok (.dup, 1) := by decide +kernel
theorem dX0_addPerson_41 : decode cX0_addPerson 41 = .ok (.getfield 40, 3) := by decide +kernel
theorem dX0_addPerson_44 : decode cX0_addPerson 44 = .ok (.iconst 1, 1) := by decide +kernel
theorem dX0_addPerson_45 : decode cX0_addPerson 45 = .ok (.iadd, 1) := by decide +kernel
theorem dX0_addPerson_46 : decode cX0_addPerson 46 = .ok (.putfield 40, 3) := by decide +kernel
theorem dX0_addPerson_49 : decode cX0_addPerson 49 = .ok (.return_, 1) := by decide +kernel
theorem dX0_setInterest_0 : decode cX0_setInterest 0 = .ok (.aload_n 0, 1) := by decide +kernel
theorem dX0_setInterest_1 : decode cX0_setInterest 1 = .ok (.iload_n 1, 1) := by decide +kernel
theorem dX0_setInterest_2 : decode cX0_setInterest 2 = .ok (.putfield 43, 3) := by decide +kernel
theorem dX0_setInterest_5 : decode cX0_setInterest 5 = .ok (.aload_n 0, 1) := by decide +kernel
theorem dX0_setInterest_6 : decode cX0_setInterest 6 = .ok (.iconst 1, 1) := by decide +kernel
theorem dX0_setInterest_7 : decode cX0_setInterest 7 = .ok (.putfield 46, 3) := by decide +kernel
theorem dX0_setInterest_10 : decode cX0_setInterest 10 = .ok (.return_, 1) := by decide +kernel
theorem dX0_addWinter_0 : decode cX0_addWinter 0 = .ok (.aload_n 0, 1) := by decide +kernel
theorem dX0_addWinter_1 : decode cX0_addWinter 1 = .ok (.getfield 50, 3) := by decide +kernel
theorem dX0_addWinter_4 : decode cX0_addWinter 4 = .ok (.ifCond .lt 49, 3) := by decide +kernel
theorem dX0_addWinter_7 : decode cX0_addWinter 7 = .ok (.aload_n 0, 1) := by decide +kernel
theorem dX0_addWinter_8 : decode cX0_addWinter 8 = .ok (.getfield 50, 3) := by decide +kernel
theorem dX0_addWinter_11 : decode cX0_addWinter 11 = .ok (.iconst 5, 1) := by decide +kernel
theorem dX0_addWinter_12 : decode cX0_addWinter 12 = .ok (.if_icmp .ge 41, 3) := by decide +kernel
theorem dX0_addWinter_15 : decode cX0_addWinter 15 = .ok (.aload_n 0, 1) := by decide +kernel
theorem dX0_addWinter_16 : decode cX0_addWinter 16 = .ok (.getfield 24, 3) := by decide +kernel
theorem dX0_addWinter_19 : decode cX0_addWinter 19 = .ok (.aload_n 0, 1) := by decide +kernel
theorem dX0_addWinter_20 : decode cX0_addWinter 20 = .ok (.getfield 50, 3) := by decide +kernel
theorem dX0_addWinter_23 : decode cX0_addWinter 23 = .ok (.bipush 60, 2) := by decide +kernel
theorem dX0_addWinter_25 : decode cX0_addWinter 25 = .ok (.iload_n 1, 1) := by decide +kernel
theorem dX0_addWinter_26 : decode cX0_addWinter 26 = .ok (.imul, 1) := by decide +kernel
theorem dX0_addWinter_27 : decode cX0_addWinter 27 = .ok (.iastore, 1) := by decide +kernel
theorem dX0_addWinter_28 : decode cX0_addWinter 28 = .ok (.aload_n 0, 1) := by decide +kernel
theorem dX0_addWinter_29 : decode cX0_addWinter 29 = .ok (.getfield 27, 3) := by decide +kernel
theorem dX0_addWinter_32 : decode cX0_addWinter 32 = .ok (.aload_n 0, 1) := by decide +kernel
theorem dX0_addWinter_33 : decode cX0_addWinter 33 = .ok (.getfield 50, 3) := by decide +kernel
theorem dX0_addWinter_36 : decode cX0_addWinter 36 = .ok (.bipush 60, 2) := by decide +kernel
theorem dX0_addWinter_38 : decode cX0_addWinter 38 = .ok (.iload_n 1, 1) := by decide +kernel
theorem dX0_addWinter_39 : decode cX0_addWinter 39 = .ok (.iload_n 2, 1) := by decide +kernel
theorem dX0_addWinter_40 : decode cX0_addWinter 40 = .ok (.iadd, 1) := by decide +kernel
theorem dX0_addWinter_41 : decode cX0_addWinter 41 = .ok (.imul, 1) := by decide +kernel
theorem dX0_addWinter_42 : decode cX0_addWinter 42 = .ok (.iastore, 1) := by decide +kernel
theorem dX0_addWinter_43 : decode cX0_addWinter 43 = .ok (.aload_n 0, 1) := by decide +kernel
theorem dX0_addWinter_44 : decode cX0_addWinter 44 = .ok (.dup, 1) := by decide +kernel
theorem dX0_addWinter_45 : decode cX0_addWinter 45 = .ok (.getfield 50, 3) := by decide +kernel
theorem dX0_addWinter_48 : decode cX0_addWinter 48 = .ok (.iconst 1, 1) := by decide +kernel
theorem dX0_addWinter_49 : decode cX0_addWinter 49 = .ok (.iadd, 1) := by decide +kernel
theorem dX0_addWinter_50 : decode cX0_addWinter 50 = .ok (.putfield 50, 3) := by decide +kernel
theorem dX0_addWinter_53 : decode cX0_addWinter 53 = .ok (.return_, 1) := by decide +kernel
theorem dX1_init_0 : decode cX1_init 0 = .ok (.aload_n 0, 1) := by decide +kernel
theorem dX1_init_1 : decode cX1_init 1 = .ok (.invokespecial 3, 3) := by decide +kernel
theorem dX1_init_4 : decode cX1_init 4 = .ok (.aload_n 0, 1) := by decide +kernel
theorem dX1_init_5 : decode cX1_init 5 = .ok (.sipush 287, 3) := by decide +kernel
theorem dX1_init_8 : decode cX1_init 8 = .ok (.bipush 94, 2) := by decide +kernel
theorem dX1_init_10 : decode cX1_init 10 = .ok (.multianewarray 11 2, 4) := by decide +kernel
theorem dX1_init_14 : decode cX1_init 14 = .ok (.putfield 13, 3) := by decide +kernel
theorem dX1_init_17 : decode cX1_init 17 = .ok (.aload_n 0, 1) := by decide +kernel
theorem dX1_init_18 : decode cX1_init 18 = .ok (.bipush 94, 2) := by decide +kernel
theorem dX1_init_20 : decode cX1_init 20 = .ok (.newarray .long, 2) := by decide +kernel
theorem dX1_init_22 : decode cX1_init 22 = .ok (.putfield 16, 3) := by decide +kernel
theorem dX1_init_25 : decode cX1_init 25 = .ok (.return_, 1) := by decide +kernel
set_option maxRecDepth 20000 in
theorem ggX1_daysMaking_X0_hasPart : GoodIn wsX1_daysMaking wsX0_hasPart := goodIn_r _ [9, 10, 44, 45, 46, 47, 48, 49, 50, 51, 52, 53, 54, 55, 56] (by decide +kernel) (by decide +kernel)
set_option maxRecDepth 20000 in
theorem gX1_daysMaking_X0_hasPart : GoodIn wsX1_daysMaking (wsV RX1 26 RX0 yX0_hasPart wsX0_hasPart) := goodIn_app (goodIn_of _ (by decide +kernel)) ggX1_daysMaking_X0_hasPart
set_option maxRecDepth 20000 in
theorem ggX1_daysMaking_X1_layRest : GoodIn wsX1_daysMaking wsX1_layRest := goodIn_r _ [15, 16, 17, 18, 19, 20, 8, 21, 22, 6, 7, 9, 10, 23, 24, 25, 26, 27, 28, 29, 14, 30, 57, 58, 44, 45, 46, 47, 48, 49, 50, 51, 52, 53, 54, 55, 56] (by decide +kernel) (by decide +kernel)
set_option maxRecDepth 20000 in
theorem gX1_daysMaking_X1_layRest : GoodIn wsX1_daysMaking (wsV RX1 32 RX1 yX1_layRest wsX1_layRest) := goodIn_app (goodIn_of _ (by decide +kernel)) ggX1_daysMaking_X1_layRest
set_option maxRecDepth 20000 in
theorem ggX1_daysMaking_X0_rateOf : GoodIn wsX1_daysMaking wsX0_rateOf := goodIn_r _ [34, 35, 22, 6, 7, 8, 9, 10, 44, 45, 46, 47, 48, 49, 50, 51, 52, 53, 54, 55, 56] (by decide +kernel) (by decide +kernel)
set_option maxRecDepth 20000 in
theorem gX1_daysMaking_X0_rateOf : GoodIn wsX1_daysMaking (wsV RX1 36 RX0 yX0_rateOf wsX0_rateOf) := goodIn_app (goodIn_of _ (by decide +kernel)) ggX1_daysMaking_X0_rateOf
set_option maxRecDepth 20000 in
theorem ggX1_daysMaking_X1_layShifted : GoodIn wsX1_daysMaking wsX1_layShifted := goodIn_r _ [39, 17, 16, 28, 29, 14, 30, 57, 58] (by decide +kernel) (by decide +kernel)
set_option maxRecDepth 20000 in
theorem gX1_daysMaking_X1_layShifted : GoodIn wsX1_daysMaking (wsV RX1 40 RX1 yX1_layShifted wsX1_layShifted) := goodIn_app (goodIn_of _ (by decide +kernel)) ggX1_daysMaking_X1_layShifted
set_option maxRecDepth 20000 in
theorem ggX1_daysMaking_X1_canMake : GoodIn wsX1_daysMaking wsX1_canMake := goodIn_r _ [43, 17, 28, 29, 14, 30, 57, 58] (by decide +kernel) (by decide +kernel)
set_option maxRecDepth 20000 in
theorem gX1_daysMaking_X1_canMake : GoodIn wsX1_daysMaking (wsV RX1 44 RX1 yX1_canMake wsX1_canMake) := goodIn_app (goodIn_of _ (by decide +kernel)) ggX1_daysMaking_X1_canMake
theorem dX1_daysMaking_0 : decode cX1_daysMaking 0 = .ok (.bipush 94, 2) := by decide +kernel
theorem dX1_daysMaking_2 : decode cX1_daysMaking 2 = .ok (.iload 4, 2) := by decide +kernel
theorem dX1_daysMaking_4 : decode cX1_daysMaking 4 = .ok (.bipush 64, 2) := by decide +kernel
theorem dX1_daysMaking_6 : decode cX1_daysMaking 6 = .ok (.idiv, 1) := by decide +kernel
theorem dX1_daysMaking_7 : decode cX1_daysMaking 7 = .ok (.iconst 1, 1) := by decide +kernel
theorem dX1_daysMaking_8 : decode cX1_daysMaking 8 = .ok (.iadd, 1) := by decide +kernel
theorem dX1_daysMaking_9 : decode cX1_daysMaking 9 = .ok (.invokestatic 20, 3) := by decide +kernel
theorem dX1_daysMaking_12 : decode cX1_daysMaking 12 = .ok (.istore 5, 2) := by decide +kernel
theorem dX1_daysMaking_14 : decode cX1_daysMaking 14 = .ok (.iconst 1, 1) := by decide +kernel
theorem dX1_daysMaking_15 : decode cX1_daysMaking 15 = .ok (.istore 6, 2) := by decide +kernel
theorem dX1_daysMaking_17 : decode cX1_daysMaking 17 = .ok (.iload 6, 2) := by decide +kernel
theorem dX1_daysMaking_19 : decode cX1_daysMaking 19 = .ok (.bipush 40, 2) := by decide +kernel
theorem dX1_daysMaking_21 : decode cX1_daysMaking 21 = .ok (.if_icmp .gt 77, 3) := by decide +kernel
theorem dX1_daysMaking_24 : decode cX1_daysMaking 24 = .ok (.iconst 0, 1) := by decide +kernel
theorem dX1_daysMaking_25 : decode cX1_daysMaking 25 = .ok (.istore 7, 2) := by decide +kernel
theorem dX1_daysMaking_27 : decode cX1_daysMaking 27 = .ok (.iload 7, 2) := by decide +kernel
theorem dX1_daysMaking_29 : decode cX1_daysMaking 29 = .ok (.bipush 7, 2) := by decide +kernel
theorem dX1_daysMaking_31 : decode cX1_daysMaking 31 = .ok (.if_icmp .ge 46, 3) := by decide +kernel
theorem dX1_daysMaking_34 : decode cX1_daysMaking 34 = .ok (.aload_n 1, 1) := by decide +kernel
theorem dX1_daysMaking_35 : decode cX1_daysMaking 35 = .ok (.iload 7, 2) := by decide +kernel
theorem dX1_daysMaking_37 : decode cX1_daysMaking 37 = .ok (.invokevirtual 26, 3) := by decide +kernel
theorem dX1_daysMaking_40 : decode cX1_daysMaking 40 = .ok (.ifCond .eq 31, 3) := by decide +kernel
theorem dX1_daysMaking_43 : decode cX1_daysMaking 43 = .ok (.aload_n 0, 1) := by decide +kernel
theorem dX1_daysMaking_44 : decode cX1_daysMaking 44 = .ok (.aload_n 1, 1) := by decide +kernel
theorem dX1_daysMaking_45 : decode cX1_daysMaking 45 = .ok (.iload_n 3, 1) := by decide +kernel
theorem dX1_daysMaking_46 : decode cX1_daysMaking 46 = .ok (.iload 6, 2) := by decide +kernel
theorem dX1_daysMaking_48 : decode cX1_daysMaking 48 = .ok (.iload 7, 2) := by decide +kernel
theorem dX1_daysMaking_50 : decode cX1_daysMaking 50 = .ok (.iload 5, 2) := by decide +kernel
theorem dX1_daysMaking_52 : decode cX1_daysMaking 52 = .ok (.invokevirtual 32, 3) := by decide +kernel
theorem dX1_daysMaking_55 : decode cX1_daysMaking 55 = .ok (.aload_n 0, 1) := by decide +kernel
theorem dX1_daysMaking_56 : decode cX1_daysMaking 56 = .ok (.iload 6, 2) := by decide +kernel
theorem dX1_daysMaking_58 : decode cX1_daysMaking 58 = .ok (.iload 7, 2) := by decide +kernel
theorem dX1_daysMaking_60 : decode cX1_daysMaking 60 = .ok (.aload_n 1, 1) := by decide +kernel
theorem dX1_daysMaking_61 : decode cX1_daysMaking 61 = .ok (.iload 7, 2) := by decide +kernel
theorem dX1_daysMaking_63 : decode cX1_daysMaking 63 = .ok (.invokevirtual 36, 3) := by decide +kernel
theorem dX1_daysMaking_66 : decode cX1_daysMaking 66 = .ok (.iload 5, 2) := by decide +kernel
theorem dX1_daysMaking_68 : decode cX1_daysMaking 68 = .ok (.invokevirtual 40, 3) := by decide +kernel
theorem dX1_daysMaking_71 : decode cX1_daysMaking 71 = .ok (.iinc 7 1, 3) := by decide +kernel
theorem dX1_daysMaking_74 : decode cX1_daysMaking 74 = .ok (.goto (-47), 3) := by decide +kernel
theorem dX1_daysMaking_77 : decode cX1_daysMaking 77 = .ok (.aload_n 0, 1) := by decide +kernel
theorem dX1_daysMaking_78 : decode cX1_daysMaking 78 = .ok (.iload 6, 2) := by decide +kernel
theorem dX1_daysMaking_80 : decode cX1_daysMaking 80 = .ok (.iload_n 2, 1) := by decide +kernel
theorem dX1_daysMaking_81 : decode cX1_daysMaking 81 = .ok (.iload 4, 2) := by decide +kernel
theorem dX1_daysMaking_83 : decode cX1_daysMaking 83 = .ok (.invokevirtual 44, 3) := by decide +kernel
theorem dX1_daysMaking_86 : decode cX1_daysMaking 86 = .ok (.ifCond .eq 6, 3) := by decide +kernel
theorem dX1_daysMaking_89 : decode cX1_daysMaking 89 = .ok (.iload 6, 2) := by decide +kernel
theorem dX1_daysMaking_91 : decode cX1_daysMaking 91 = .ok (.ireturn, 1) := by decide +kernel
theorem dX1_daysMaking_92 : decode cX1_daysMaking 92 = .ok (.iinc 6 1, 3) := by decide +kernel
theorem dX1_daysMaking_95 : decode cX1_daysMaking 95 = .ok (.goto (-78), 3) := by decide +kernel
theorem dX1_daysMaking_98 : decode cX1_daysMaking 98 = .ok (.iconst (-1), 1) := by decide +kernel
theorem dX1_daysMaking_99 : decode cX1_daysMaking 99 = .ok (.ireturn, 1) := by decide +kernel
set_option maxRecDepth 20000 in
theorem ggX1_partOfDay_X0_rateOf : GoodIn wsX1_partOfDay wsX0_rateOf := goodIn_r _ [5, 6, 7, 8, 9, 4, 10, 11, 34, 35, 36, 37, 38, 39, 40, 41, 42, 43, 44, 45, 46] (by decide +kernel) (by decide +kernel)
set_option maxRecDepth 20000 in
theorem gX1_partOfDay_X0_rateOf : GoodIn wsX1_partOfDay (wsV RX1 36 RX0 yX0_rateOf wsX0_rateOf) := goodIn_app (goodIn_of _ (by decide +kernel)) ggX1_partOfDay_X0_rateOf
set_option maxRecDepth 20000 in
theorem ggX1_partOfDay_X1_firstMaking : GoodIn wsX1_partOfDay wsX1_firstMaking := goodIn_r _ [16, 17, 18, 19, 4, 20, 7, 8, 9, 10, 11, 21, 22, 23, 24, 25, 26, 27, 28, 15, 29, 30, 31, 32, 33, 34, 35, 36, 37, 38, 39, 40, 41, 42, 43, 44, 45, 46, 47, 48] (by decide +kernel) (by decide +kernel)
set_option maxRecDepth 20000 in
theorem gX1_partOfDay_X1_firstMaking : GoodIn wsX1_partOfDay (wsV RX1 48 RX1 yX1_firstMaking wsX1_firstMaking) := goodIn_app (goodIn_of _ (by decide +kernel)) ggX1_partOfDay_X1_firstMaking
theorem dX1_partOfDay_0 : decode cX1_partOfDay 0 = .ok (.iload_n 2, 1) := by decide +kernel
theorem dX1_partOfDay_1 : decode cX1_partOfDay 1 = .ok (.istore 6, 2) := by decide +kernel
theorem dX1_partOfDay_3 : decode cX1_partOfDay 3 = .ok (.iload_n 3, 1) := by decide +kernel
theorem dX1_partOfDay_4 : decode cX1_partOfDay 4 = .ok (.istore 7, 2) := by decide +kernel
theorem dX1_partOfDay_6 : decode cX1_partOfDay 6 = .ok (.iconst 0, 1) := by decide +kernel
theorem dX1_partOfDay_7 : decode cX1_partOfDay 7 = .ok (.istore 8, 2) := by decide +kernel
theorem dX1_partOfDay_9 : decode cX1_partOfDay 9 = .ok (.iload 8, 2) := by decide +kernel
theorem dX1_partOfDay_11 : decode cX1_partOfDay 11 = .ok (.iload 5, 2) := by decide +kernel
theorem dX1_partOfDay_13 : decode cX1_partOfDay 13 = .ok (.if_icmp .ge 45, 3) := by decide +kernel
theorem dX1_partOfDay_16 : decode cX1_partOfDay 16 = .ok (.iload 8, 2) := by decide +kernel
theorem dX1_partOfDay_18 : decode cX1_partOfDay 18 = .ok (.bipush 40, 2) := by decide +kernel
theorem dX1_partOfDay_20 : decode cX1_partOfDay 20 = .ok (.if_icmp .ge 38, 3) := by decide +kernel
theorem dX1_partOfDay_23 : decode cX1_partOfDay 23 = .ok (.iload 7, 2) := by decide +kernel
theorem dX1_partOfDay_25 : decode cX1_partOfDay 25 = .ok (.aload_n 1, 1) := by decide +kernel
theorem dX1_partOfDay_26 : decode cX1_partOfDay 26 = .ok (.iload 6, 2) := by decide +kernel
theorem dX1_partOfDay_28 : decode cX1_partOfDay 28 = .ok (.invokevirtual 36, 3) := by decide +kernel
theorem dX1_partOfDay_31 : decode cX1_partOfDay 31 = .ok (.isub, 1) := by decide +kernel
theorem dX1_partOfDay_32 : decode cX1_partOfDay 32 = .ok (.istore 7, 2) := by decide +kernel
theorem dX1_partOfDay_34 : decode cX1_partOfDay 34 = .ok (.aload_n 0, 1) := by decide +kernel
theorem dX1_partOfDay_35 : decode cX1_partOfDay 35 = .ok (.aload_n 1, 1) := by decide +kernel
theorem dX1_partOfDay_36 : decode cX1_partOfDay 36 = .ok (.iload 6, 2) := by decide +kernel
theorem dX1_partOfDay_38 : decode cX1_partOfDay 38 = .ok (.iload 4, 2) := by decide +kernel
theorem dX1_partOfDay_40 : decode cX1_partOfDay 40 = .ok (.iconst 1, 1) := by decide +kernel
theorem dX1_partOfDay_41 : decode cX1_partOfDay 41 = .ok (.isub, 1) := by decide +kernel
theorem dX1_partOfDay_42 : decode cX1_partOfDay 42 = .ok (.iload 8, 2) := by decide +kernel
theorem dX1_partOfDay_44 : decode cX1_partOfDay 44 = .ok (.isub, 1) := by decide +kernel
theorem dX1_partOfDay_45 : decode cX1_partOfDay 45 = .ok (.iload 7, 2) := by decide +kernel
theorem dX1_partOfDay_47 : decode cX1_partOfDay 47 = .ok (.invokevirtual 48, 3) := by decide +kernel
theorem dX1_partOfDay_50 : decode cX1_partOfDay 50 = .ok (.istore 6, 2) := by decide +kernel
theorem dX1_partOfDay_52 : decode cX1_partOfDay 52 = .ok (.iinc 8 1, 3) := by decide +kernel
theorem dX1_partOfDay_55 : decode cX1_partOfDay 55 = .ok (.goto (-46), 3) := by decide +kernel
theorem dX1_partOfDay_58 : decode cX1_partOfDay 58 = .ok (.iload 6, 2) := by decide +kernel
theorem dX1_partOfDay_60 : decode cX1_partOfDay 60 = .ok (.ireturn, 1) := by decide +kernel
set_option maxRecDepth 20000 in
theorem ggX1_firstMaking_X0_mayFollow : GoodIn wsX1_firstMaking wsX0_mayFollow := goodIn_r _ [5, 6, 7, 8, 4, 9, 10, 11, 12, 13, 14, 15, 25, 26, 27, 28, 29, 30, 31, 32, 33, 34, 35, 36, 37] (by decide +kernel) (by decide +kernel)
set_option maxRecDepth 20000 in
theorem gX1_firstMaking_X0_mayFollow : GoodIn wsX1_firstMaking (wsV RX1 52 RX0 yX0_mayFollow wsX0_mayFollow) := goodIn_app (goodIn_of _ (by decide +kernel)) ggX1_firstMaking_X0_mayFollow
set_option maxRecDepth 20000 in
theorem ggX1_firstMaking_X1_canMake : GoodIn wsX1_firstMaking wsX1_canMake := goodIn_r _ [20, 21, 22, 23, 19, 24, 38, 39] (by decide +kernel) (by decide +kernel)
set_option maxRecDepth 20000 in
theorem gX1_firstMaking_X1_canMake : GoodIn wsX1_firstMaking (wsV RX1 44 RX1 yX1_canMake wsX1_canMake) := goodIn_app (goodIn_of _ (by decide +kernel)) ggX1_firstMaking_X1_canMake
theorem dX1_firstMaking_0 : decode cX1_firstMaking 0 = .ok (.iconst 0, 1) := by decide +kernel
theorem dX1_firstMaking_1 : decode cX1_firstMaking 1 = .ok (.istore 5, 2) := by decide +kernel
theorem dX1_firstMaking_3 : decode cX1_firstMaking 3 = .ok (.iload 5, 2) := by decide +kernel
theorem dX1_firstMaking_5 : decode cX1_firstMaking 5 = .ok (.bipush 7, 2) := by decide +kernel
theorem dX1_firstMaking_7 : decode cX1_firstMaking 7 = .ok (.if_icmp .ge 34, 3) := by decide +kernel
theorem dX1_firstMaking_10 : decode cX1_firstMaking 10 = .ok (.aload_n 1, 1) := by decide +kernel
theorem dX1_firstMaking_11 : decode cX1_firstMaking 11 = .ok (.iload_n 2, 1) := by decide +kernel
theorem dX1_firstMaking_12 : decode cX1_firstMaking 12 = .ok (.iload 5, 2) := by decide +kernel
theorem dX1_firstMaking_14 : decode cX1_firstMaking 14 = .ok (.invokevirtual 52, 3) := by decide +kernel
theorem dX1_firstMaking_17 : decode cX1_firstMaking 17 = .ok (.ifCond .eq 18, 3) := by decide +kernel
theorem dX1_firstMaking_20 : decode cX1_firstMaking 20 = .ok (.aload_n 0, 1) := by decide +kernel
theorem dX1_firstMaking_21 : decode cX1_firstMaking 21 = .ok (.iload_n 3, 1) := by decide +kernel
theorem dX1_firstMaking_22 : decode cX1_firstMaking 22 = .ok (.iload 5, 2) := by decide +kernel
theorem dX1_firstMaking_24 : decode cX1_firstMaking 24 = .ok (.iload 4, 2) := by decide +kernel
theorem dX1_firstMaking_26 : decode cX1_firstMaking 26 = .ok (.invokevirtual 44, 3) := by decide +kernel
theorem dX1_firstMaking_29 : decode cX1_firstMaking 29 = .ok (.ifCond .eq 6, 3) := by decide +kernel
theorem dX1_firstMaking_32 : decode cX1_firstMaking 32 = .ok (.iload 5, 2) := by decide +kernel
theorem dX1_firstMaking_34 : decode cX1_firstMaking 34 = .ok (.ireturn, 1) := by decide +kernel
theorem dX1_firstMaking_35 : decode cX1_firstMaking 35 = .ok (.iinc 5 1, 3) := by decide +kernel
theorem dX1_firstMaking_38 : decode cX1_firstMaking 38 = .ok (.goto (-35), 3) := by decide +kernel
theorem dX1_firstMaking_41 : decode cX1_firstMaking 41 = .ok (.iconst (-1), 1) := by decide +kernel
theorem dX1_firstMaking_42 : decode cX1_firstMaking 42 = .ok (.ireturn, 1) := by decide +kernel
set_option maxRecDepth 20000 in
theorem ggX1_canMake_X1_isRow : GoodIn wsX1_canMake wsX1_isRow := goodIn_r _ [5] (by decide +kernel) (by decide +kernel)
set_option maxRecDepth 20000 in
theorem gX1_canMake_X1_isRow : GoodIn wsX1_canMake (va_wsS RX1 56 yX1_isRow wsX1_isRow) := goodIn_app (goodIn_of _ (by decide +kernel)) ggX1_canMake_X1_isRow
theorem dX1_canMake_0 : decode cX1_canMake 0 = .ok (.iload_n 1, 1) := by decide +kernel
theorem dX1_canMake_1 : decode cX1_canMake 1 = .ok (.iload_n 2, 1) := by decide +kernel
theorem dX1_canMake_2 : decode cX1_canMake 2 = .ok (.invokestatic 56, 3) := by decide +kernel
theorem dX1_canMake_5 : decode cX1_canMake 5 = .ok (.ifCond .eq 14, 3) := by decide +kernel
theorem dX1_canMake_8 : decode cX1_canMake 8 = .ok (.iload_n 3, 1) := by decide +kernel
theorem dX1_canMake_9 : decode cX1_canMake 9 = .ok (.ifCond .lt 10, 3) := by decide +kernel
theorem dX1_canMake_12 : decode cX1_canMake 12 = .ok (.iload_n 3, 1) := by decide +kernel
theorem dX1_canMake_13 : decode cX1_canMake 13 = .ok (.sipush 6000, 3) := by decide +kernel
theorem dX1_canMake_16 : decode cX1_canMake 16 = .ok (.if_icmp .le 5, 3) := by decide +kernel
theorem dX1_canMake_19 : decode cX1_canMake 19 = .ok (.iconst 0, 1) := by decide +kernel
theorem dX1_canMake_20 : decode cX1_canMake 20 = .ok (.ireturn, 1) := by decide +kernel
theorem dX1_canMake_21 : decode cX1_canMake 21 = .ok (.aload_n 0, 1) := by decide +kernel
theorem dX1_canMake_22 : decode cX1_canMake 22 = .ok (.getfield 13, 3) := by decide +kernel
theorem dX1_canMake_25 : decode cX1_canMake 25 = .ok (.iload_n 1, 1) := by decide +kernel
theorem dX1_canMake_26 : decode cX1_canMake 26 = .ok (.bipush 7, 2) := by decide +kernel
theorem dX1_canMake_28 : decode cX1_canMake 28 = .ok (.imul, 1) := by decide +kernel
theorem dX1_canMake_29 : decode cX1_canMake 29 = .ok (.iload_n 2, 1) := by decide +kernel
theorem dX1_canMake_30 : decode cX1_canMake 30 = .ok (.iadd, 1) := by decide +kernel
theorem dX1_canMake_31 : decode cX1_canMake 31 = .ok (.aaload, 1) := by decide +kernel
theorem dX1_canMake_32 : decode cX1_canMake 32 = .ok (.iload_n 3, 1) := by decide +kernel
theorem dX1_canMake_33 : decode cX1_canMake 33 = .ok (.bipush 64, 2) := by decide +kernel
theorem dX1_canMake_35 : decode cX1_canMake 35 = .ok (.idiv, 1) := by decide +kernel
theorem dX1_canMake_36 : decode cX1_canMake 36 = .ok (.laload, 1) := by decide +kernel
theorem dX1_canMake_37 : decode cX1_canMake 37 = .ok (.iload_n 3, 1) := by decide +kernel
theorem dX1_canMake_38 : decode cX1_canMake 38 = .ok (.bipush 64, 2) := by decide +kernel
theorem dX1_canMake_40 : decode cX1_canMake 40 = .ok (.irem, 1) := by decide +kernel
theorem dX1_canMake_41 : decode cX1_canMake 41 = .ok (.lushr, 1) := by decide +kernel
theorem dX1_canMake_42 : decode cX1_canMake 42 = .ok (.lconst 1, 1) := by decide +kernel
theorem dX1_canMake_43 : decode cX1_canMake 43 = .ok (.land, 1) := by decide +kernel
theorem dX1_canMake_44 : decode cX1_canMake 44 = .ok (.lconst 1, 1) := by decide +kernel
theorem dX1_canMake_45 : decode cX1_canMake 45 = .ok (.lcmp, 1) := by decide +kernel
theorem dX1_canMake_46 : decode cX1_canMake 46 = .ok (.ifCond .ne 7, 3) := by decide +kernel
theorem dX1_canMake_49 : decode cX1_canMake 49 = .ok (.iconst 1, 1) := by decide +kernel
theorem dX1_canMake_50 : decode cX1_canMake 50 = .ok (.goto 4, 3) := by decide +kernel
theorem dX1_canMake_53 : decode cX1_canMake 53 = .ok (.iconst 0, 1) := by decide +kernel
theorem dX1_canMake_54 : decode cX1_canMake 54 = .ok (.ireturn, 1) := by decide +kernel
set_option maxRecDepth 20000 in
theorem ggX1_layRest_X0_mayFollow : GoodIn wsX1_layRest wsX0_mayFollow := goodIn_r _ [7, 8, 9, 10, 6, 11, 12, 13, 14, 15, 16, 17, 24, 25, 26, 27, 28, 29, 30, 31, 32, 33, 34, 35, 36] (by decide +kernel) (by decide +kernel)
set_option maxRecDepth 20000 in
theorem gX1_layRest_X0_mayFollow : GoodIn wsX1_layRest (wsV RX1 52 RX0 yX0_mayFollow wsX0_mayFollow) := goodIn_app (goodIn_of _ (by decide +kernel)) ggX1_layRest_X0_mayFollow
set_option maxRecDepth 20000 in
theorem ggX1_layRest_X1_isRow : GoodIn wsX1_layRest wsX1_isRow := goodIn_r _ [21] (by decide +kernel) (by decide +kernel)
set_option maxRecDepth 20000 in
theorem gX1_layRest_X1_isRow : GoodIn wsX1_layRest (va_wsS RX1 56 yX1_isRow wsX1_isRow) := goodIn_app (goodIn_of _ (by decide +kernel)) ggX1_layRest_X1_isRow
theorem dX1_layRest_0 : decode cX1_layRest 0 = .ok (.iconst 0, 1) := by decide +kernel
theorem dX1_layRest_1 : decode cX1_layRest 1 = .ok (.istore 6, 2) := by decide +kernel
theorem dX1_layRest_3 : decode cX1_layRest 3 = .ok (.iload 6, 2) := by decide +kernel
theorem dX1_layRest_5 : decode cX1_layRest 5 = .ok (.iload 5, 2) := by decide +kernel
theorem dX1_layRest_7 : decode cX1_layRest 7 = .ok (.if_icmp .ge 24, 3) := by decide +kernel
theorem dX1_layRest_10 : decode cX1_layRest 10 = .ok (.iload 6, 2) := by decide +kernel
theorem dX1_layRest_12 : decode cX1_layRest 12 = .ok (.bipush 94, 2) := by decide +kernel
theorem dX1_layRest_14 : decode cX1_layRest 14 = .ok (.if_icmp .ge 17, 3) := by decide +kernel
theorem dX1_layRest_17 : decode cX1_layRest 17 = .ok (.aload_n 0, 1) := by decide +kernel
theorem dX1_layRest_18 : decode cX1_layRest 18 = .ok (.getfield 16, 3) := by decide +kernel
theorem dX1_layRest_21 : decode cX1_layRest 21 = .ok (.iload 6, 2) := by decide +kernel
theorem dX1_layRest_23 : decode cX1_layRest 23 = .ok (.lconst 0, 1) := by decide +kernel
theorem dX1_layRest_24 : decode cX1_layRest 24 = .ok (.lastore, 1) := by decide +kernel
theorem dX1_layRest_25 : decode cX1_layRest 25 = .ok (.iinc 6 1, 3) := by decide +kernel
theorem dX1_layRest_28 : decode cX1_layRest 28 = .ok (.goto (-25), 3) := by decide +kernel
theorem dX1_layRest_31 : decode cX1_layRest 31 = .ok (.iload_n 3, 1) := by decide +kernel
theorem dX1_layRest_32 : decode cX1_layRest 32 = .ok (.iconst 1, 1) := by decide +kernel
theorem dX1_layRest_33 : decode cX1_layRest 33 = .ok (.if_icmp .ne 16, 3) := by decide +kernel
theorem dX1_layRest_36 : decode cX1_layRest 36 = .ok (.iload 4, 2) := by decide +kernel
theorem dX1_layRest_38 : decode cX1_layRest 38 = .ok (.iload_n 2, 1) := by decide +kernel
theorem dX1_layRest_39 : decode cX1_layRest 39 = .ok (.if_icmp .ne 10, 3) := by decide +kernel
theorem dX1_layRest_42 : decode cX1_layRest 42 = .ok (.aload_n 0, 1) := by decide +kernel
theorem dX1_layRest_43 : decode cX1_layRest 43 = .ok (.getfield 16, 3) := by decide +kernel
theorem dX1_layRest_46 : decode cX1_layRest 46 = .ok (.iconst 0, 1) := by decide +kernel
theorem dX1_layRest_47 : decode cX1_layRest 47 = .ok (.lconst 1, 1) := by decide +kernel
theorem dX1_layRest_48 : decode cX1_layRest 48 = .ok (.lastore, 1) := by decide +kernel
theorem dX1_layRest_49 : decode cX1_layRest 49 = .ok (.iconst 0, 1) := by decide +kernel
theorem dX1_layRest_50 : decode cX1_layRest 50 = .ok (.istore 6, 2) := by decide +kernel
theorem dX1_layRest_52 : decode cX1_layRest 52 = .ok (.iload 6, 2) := by decide +kernel
theorem dX1_layRest_54 : decode cX1_layRest 54 = .ok (.bipush 7, 2) := by decide +kernel
theorem dX1_layRest_56 : decode cX1_layRest 56 = .ok (.if_icmp .ge 90, 3) := by decide +kernel
theorem dX1_layRest_59 : decode cX1_layRest 59 = .ok (.iload_n 3, 1) := by decide +kernel
theorem dX1_layRest_60 : decode cX1_layRest 60 = .ok (.iconst 1, 1) := by decide +kernel
theorem dX1_layRest_61 : decode cX1_layRest 61 = .ok (.if_icmp .le 79, 3) := by decide +kernel
theorem dX1_layRest_64 : decode cX1_layRest 64 = .ok (.aload_n 1, 1) := by decide +kernel
theorem dX1_layRest_65 : decode cX1_layRest 65 = .ok (.iload 4, 2) := by decide +kernel
theorem dX1_layRest_67 : decode cX1_layRest 67 = .ok (.iload 6, 2) := by decide +kernel
theorem dX1_layRest_69 : decode cX1_layRest 69 = .ok (.invokevirtual 52, 3) := by decide +kernel
theorem dX1_layRest_72 : decode cX1_layRest 72 = .ok (.ifCond .eq 68, 3) := by decide +kernel
theorem dX1_layRest_75 : decode cX1_layRest 75 = .ok (.iload_n 3, 1) := by decide +kernel
theorem dX1_layRest_76 : decode cX1_layRest 76 = .ok (.iconst 1, 1) := by decide +kernel
theorem dX1_layRest_77 : decode cX1_layRest 77 = .ok (.isub, 1) := by decide +kernel
theorem dX1_layRest_78 : decode cX1_layRest 78 = .ok (.iload 6, 2) := by decide +kernel
theorem dX1_layRest_80 : decode cX1_layRest 80 = .ok (.invokestatic 56, 3) := by decide +kernel
theorem dX1_layRest_83 : decode cX1_layRest 83 = .ok (.ifCond .eq 57, 3) := by decide +kernel
theorem dX1_layRest_86 : decode cX1_layRest 86 = .ok (.aload_n 0, 1) := by decide +kernel
theorem dX1_layRest_87 : decode cX1_layRest 87 = .ok (.getfield 13, 3) := by decide +kernel
theorem dX1_layRest_90 : decode cX1_layRest 90 = .ok (.iload_n 3, 1) := by decide +kernel
theorem dX1_layRest_91 : decode cX1_layRest 91 = .ok (.iconst 1, 1) := by decide +kernel
theorem dX1_layRest_92 : decode cX1_layRest 92 = .ok (.isub, 1) := by decide +kernel
theorem dX1_layRest_93 : decode cX1_layRest 93 = .ok (.bipush 7, 2) := by decide +kernel
theorem dX1_layRest_95 : decode cX1_layRest 95 = .ok (.imul, 1) := by decide +kernel
theorem dX1_layRest_96 : decode cX1_layRest 96 = .ok (.iload 6, 2) := by decide +kernel
theorem dX1_layRest_98 : decode cX1_layRest 98 = .ok (.iadd, 1) := by decide +kernel
theorem dX1_layRest_99 : decode cX1_layRest 99 = .ok (.aaload, 1) := by decide +kernel
theorem dX1_layRest_100 : decode cX1_layRest 100 = .ok (.astore 7, 2) := by decide +kernel
theorem dX1_layRest_102 : decode cX1_layRest 102 = .ok (.iconst 0, 1) := by decide +kernel
theorem dX1_layRest_103 : decode cX1_layRest 103 = .ok (.istore 8, 2) := by decide +kernel
theorem dX1_layRest_105 : decode cX1_layRest 105 = .ok (.iload 8, 2) := by decide +kernel
theorem dX1_layRest_107 : decode cX1_layRest 107 = .ok (.iload 5, 2) := by decide +kernel
theorem dX1_layRest_109 : decode cX1_layRest 109 = .ok (.if_icmp .ge 31, 3) := by decide +kernel
theorem dX1_layRest_112 : decode cX1_layRest 112 = .ok (.iload 8, 2) := by decide +kernel
theorem dX1_layRest_114 : decode cX1_layRest 114 = .ok (.bipush 94, 2) := by decide +kernel
theorem dX1_layRest_116 : decode cX1_layRest 116 = .ok (.if_icmp .ge 24, 3) := by decide +kernel
theorem dX1_layRest_119 : decode cX1_layRest 119 = .ok (.aload_n 0, 1) := by decide +kernel
theorem dX1_layRest_120 : decode cX1_layRest 120 = .ok (.getfield 16, 3) := by decide +kernel
theorem dX1_layRest_123 : decode cX1_layRest 123 = .ok (.iload 8, 2) := by decide +kernel
theorem dX1_layRest_125 : decode cX1_layRest 125 = .ok (.dup2, 1) := by decide +kernel
theorem dX1_layRest_126 : decode cX1_layRest 126 = .ok (.laload, 1) := by decide +kernel
theorem dX1_layRest_127 : decode cX1_layRest 127 = .ok (.aload 7, 2) := by decide +kernel
theorem dX1_layRest_129 : decode cX1_layRest 129 = .ok (.iload 8, 2) := by decide +kernel
theorem dX1_layRest_131 : decode cX1_layRest 131 = .ok (.laload, 1) := by decide +kernel
theorem dX1_layRest_132 : decode cX1_layRest 132 = .ok (.lor, 1) := by decide +kernel
theorem dX1_layRest_133 : decode cX1_layRest 133 = .ok (.lastore, 1) := by decide +kernel
theorem dX1_layRest_134 : decode cX1_layRest 134 = .ok (.iinc 8 1, 3) := by decide +kernel
theorem dX1_layRest_137 : decode cX1_layRest 137 = .ok (.goto (-32), 3) := by decide +kernel
theorem dX1_layRest_140 : decode cX1_layRest 140 = .ok (.iinc 6 1, 3) := by decide +kernel
theorem dX1_layRest_143 : decode cX1_layRest 143 = .ok (.goto (-91), 3) := by decide +kernel
theorem dX1_layRest_146 : decode cX1_layRest 146 = .ok (.return_, 1) := by decide +kernel
set_option maxRecDepth 20000 in
theorem ggX1_layShifted_X1_isRow : GoodIn wsX1_layShifted wsX1_isRow := goodIn_r _ [6] (by decide +kernel) (by decide +kernel)
set_option maxRecDepth 20000 in
theorem gX1_layShifted_X1_isRow : GoodIn wsX1_layShifted (va_wsS RX1 56 yX1_isRow wsX1_isRow) := goodIn_app (goodIn_of _ (by decide +kernel)) ggX1_layShifted_X1_isRow
theorem dX1_layShifted_0 : decode cX1_layShifted 0 = .ok (.iload_n 1, 1) := by decide +kernel
theorem dX1_layShifted_1 : decode cX1_layShifted 1 = .ok (.iload_n 2, 1) := by decide +kernel
theorem dX1_layShifted_2 : decode cX1_layShifted 2 = .ok (.invokestatic 56, 3) := by decide +kernel
theorem dX1_layShifted_5 : decode cX1_layShifted 5 = .ok (.ifCond .eq 7, 3) := by decide +kernel
theorem dX1_layShifted_8 : decode cX1_layShifted 8 = .ok (.iload_n 3, 1) := by decide +kernel
theorem dX1_layShifted_9 : decode cX1_layShifted 9 = .ok (.ifCond .ge 4, 3) := by decide +kernel
theorem dX1_layShifted_12 : decode cX1_layShifted 12 = .ok (.return_, 1) := by decide +kernel
theorem dX1_layShifted_13 : decode cX1_layShifted 13 = .ok (.aload_n 0, 1) := by decide +kernel
theorem dX1_layShifted_14 : decode cX1_layShifted 14 = .ok (.getfield 13, 3) := by decide +kernel
theorem dX1_layShifted_17 : decode cX1_layShifted 17 = .ok (.iload_n 1, 1) := by decide +kernel
theorem dX1_layShifted_18 : decode cX1_layShifted 18 = .ok (.bipush 7, 2) := by decide +kernel
theorem dX1_layShifted_20 : decode cX1_layShifted 20 = .ok (.imul, 1) := by decide +kernel
theorem dX1_layShifted_21 : decode cX1_layShifted 21 = .ok (.iload_n 2, 1) := by decide +kernel
theorem dX1_layShifted_22 : decode cX1_layShifted 22 = .ok (.iadd, 1) := by decide +kernel
theorem dX1_layShifted_23 : decode cX1_layShifted 23 = .ok (.aaload, 1) := by decide +kernel
theorem dX1_layShifted_24 : decode cX1_layShifted 24 = .ok (.astore 5, 2) := by decide +kernel
theorem dX1_layShifted_26 : decode cX1_layShifted 26 = .ok (.iload_n 3, 1) := by decide +kernel
theorem dX1_layShifted_27 : decode cX1_layShifted 27 = .ok (.bipush 64, 2) := by decide +kernel
theorem dX1_layShifted_29 : decode cX1_layShifted 29 = .ok (.idiv, 1) := by decide +kernel
theorem dX1_layShifted_30 : decode cX1_layShifted 30 = .ok (.istore 6, 2) := by decide +kernel
theorem dX1_layShifted_32 : decode cX1_layShifted 32 = .ok (.iload_n 3, 1) := by decide +kernel
theorem dX1_layShifted_33 : decode cX1_layShifted 33 = .ok (.bipush 64, 2) := by decide +kernel
theorem dX1_layShifted_35 : decode cX1_layShifted 35 = .ok (.irem, 1) := by decide +kernel
theorem dX1_layShifted_36 : decode cX1_layShifted 36 = .ok (.istore 7, 2) := by decide +kernel
theorem dX1_layShifted_38 : decode cX1_layShifted 38 = .ok (.iconst 0, 1) := by decide +kernel
theorem dX1_layShifted_39 : decode cX1_layShifted 39 = .ok (.istore 8, 2) := by decide +kernel
theorem dX1_layShifted_41 : decode cX1_layShifted 41 = .ok (.iload 8, 2) := by decide +kernel
theorem dX1_layShifted_43 : decode cX1_layShifted 43 = .ok (.iload 4, 2) := by decide +kernel
theorem dX1_layShifted_45 : decode cX1_layShifted 45 = .ok (.if_icmp .ge 84, 3) := by decide +kernel
theorem dX1_layShifted_48 : decode cX1_layShifted 48 = .ok (.iload 8, 2) := by decide +kernel
theorem dX1_layShifted_50 : decode cX1_layShifted 50 = .ok (.bipush 94, 2) := by decide +kernel
theorem dX1_layShifted_52 : decode cX1_layShifted 52 = .ok (.if_icmp .ge 77, 3) := by decide +kernel
theorem dX1_layShifted_55 : decode cX1_layShifted 55 = .ok (.iload 8, 2) := by decide +kernel
theorem dX1_layShifted_57 : decode cX1_layShifted 57 = .ok (.iload 6, 2) := by decide +kernel
theorem dX1_layShifted_59 : decode cX1_layShifted 59 = .ok (.if_icmp .lt 19, 3) := by decide +kernel
theorem dX1_layShifted_62 : decode cX1_layShifted 62 = .ok (.aload_n 0, 1) := by decide +kernel
theorem dX1_layShifted_63 : decode cX1_layShifted 63 = .ok (.getfield 16, 3) := by decide +kernel
theorem dX1_layShifted_66 : decode cX1_layShifted 66 = .ok (.iload 8, 2) := by decide +kernel
theorem dX1_layShifted_68 : decode cX1_layShifted 68 = .ok (.iload 6, 2) := by decide +kernel
theorem dX1_layShifted_70 : decode cX1_layShifted 70 = .ok (.isub, 1) := by decide +kernel
theorem dX1_layShifted_71 : decode cX1_layShifted 71 = .ok (.laload, 1) := by decide +kernel
theorem dX1_layShifted_72 : decode cX1_layShifted 72 = .ok (.iload 7, 2) := by decide +kernel
theorem dX1_layShifted_74 : decode cX1_layShifted 74 = .ok (.lshl, 1) := by decide +kernel
theorem dX1_layShifted_75 : decode cX1_layShifted 75 = .ok (.goto 4, 3) := by decide +kernel
theorem dX1_layShifted_78 : decode cX1_layShifted 78 = .ok (.lconst 0, 1) := by decide +kernel
theorem dX1_layShifted_79 : decode cX1_layShifted 79 = .ok (.lstore 9, 2) := by decide +kernel
theorem dX1_layShifted_81 : decode cX1_layShifted 81 = .ok (.iload 7, 2) := by decide +kernel
theorem dX1_layShifted_83 : decode cX1_layShifted 83 = .ok (.ifCond .le 33, 3) := by decide +kernel
theorem dX1_layShifted_86 : decode cX1_layShifted 86 = .ok (.iload 8, 2) := by decide +kernel
theorem dX1_layShifted_88 : decode cX1_layShifted 88 = .ok (.iload 6, 2) := by decide +kernel
theorem dX1_layShifted_90 : decode cX1_layShifted 90 = .ok (.if_icmp .le 26, 3) := by decide +kernel
theorem dX1_layShifted_93 : decode cX1_layShifted 93 = .ok (.lload 9, 2) := by decide +kernel
theorem dX1_layShifted_95 : decode cX1_layShifted 95 = .ok (.aload_n 0, 1) := by decide +kernel
theorem dX1_layShifted_96 : decode cX1_layShifted 96 = .ok (.getfield 16, 3) := by decide +kernel
theorem dX1_layShifted_99 : decode cX1_layShifted 99 = .ok (.iload 8, 2) := by decide +kernel
theorem dX1_layShifted_101 : decode cX1_layShifted 101 = .ok (.iload 6, 2) := by decide +kernel
theorem dX1_layShifted_103 : decode cX1_layShifted 103 = .ok (.isub, 1) := by decide +kernel
theorem dX1_layShifted_104 : decode cX1_layShifted 104 = .ok (.iconst 1, 1) := by decide +kernel
theorem dX1_layShifted_105 : decode cX1_layShifted 105 = .ok (.isub, 1) := by decide +kernel
theorem dX1_layShifted_106 : decode cX1_layShifted 106 = .ok (.laload, 1) := by decide +kernel
theorem dX1_layShifted_107 : decode cX1_layShifted 107 = .ok (.bipush 64, 2) := by decide +kernel
theorem dX1_layShifted_109 : decode cX1_layShifted 109 = .ok (.iload 7, 2) := by decide +kernel
theorem dX1_layShifted_111 : decode cX1_layShifted 111 = .ok (.isub, 1) := by decide +kernel
theorem dX1_layShifted_112 : decode cX1_layShifted 112 = .ok (.lushr, 1) := by decide +kernel
theorem dX1_layShifted_113 : decode cX1_layShifted 113 = .ok (.lor, 1) := by decide +kernel
theorem dX1_layShifted_114 : decode cX1_layShifted 114 = .ok (.lstore 9, 2) := by decide +kernel
theorem dX1_layShifted_116 : decode cX1_layShifted 116 = .ok (.aload 5, 2) := by decide +kernel
theorem dX1_layShifted_118 : decode cX1_layShifted 118 = .ok (.iload 8, 2) := by decide +kernel
theorem dX1_layShifted_120 : decode cX1_layShifted 120 = .ok (.lload 9, 2) := by decide +kernel
theorem dX1_layShifted_122 : decode cX1_layShifted 122 = .ok (.lastore, 1) := by decide +kernel
theorem dX1_layShifted_123 : decode cX1_layShifted 123 = .ok (.iinc 8 1, 3) := by decide +kernel
theorem dX1_layShifted_126 : decode cX1_layShifted 126 = .ok (.goto (-85), 3) := by decide +kernel
theorem dX1_layShifted_129 : decode cX1_layShifted 129 = .ok (.return_, 1) := by decide +kernel
theorem dX1_isRow_0 : decode cX1_isRow 0 = .ok (.iload_n 0, 1) := by decide +kernel
theorem dX1_isRow_1 : decode cX1_isRow 1 = .ok (.iconst 1, 1) := by decide +kernel
theorem dX1_isRow_2 : decode cX1_isRow 2 = .ok (.if_icmp .lt 23, 3) := by decide +kernel
theorem dX1_isRow_5 : decode cX1_isRow 5 = .ok (.iload_n 0, 1) := by decide +kernel
theorem dX1_isRow_6 : decode cX1_isRow 6 = .ok (.bipush 40, 2) := by decide +kernel
theorem dX1_isRow_8 : decode cX1_isRow 8 = .ok (.if_icmp .gt 17, 3) := by decide +kernel
theorem dX1_isRow_11 : decode cX1_isRow 11 = .ok (.iload_n 1, 1) := by decide +kernel
theorem dX1_isRow_12 : decode cX1_isRow 12 = .ok (.ifCond .lt 13, 3) := by decide +kernel
theorem dX1_isRow_15 : decode cX1_isRow 15 = .ok (.iload_n 1, 1) := by decide +kernel
theorem dX1_isRow_16 : decode cX1_isRow 16 = .ok (.bipush 7, 2) := by decide +kernel
theorem dX1_isRow_18 : decode cX1_isRow 18 = .ok (.if_icmp .ge 7, 3) := by decide +kernel
theorem dX1_isRow_21 : decode cX1_isRow 21 = .ok (.iconst 1, 1) := by decide +kernel
theorem dX1_isRow_22 : decode cX1_isRow 22 = .ok (.goto 4, 3) := by decide +kernel
theorem dX1_isRow_25 : decode cX1_isRow 25 = .ok (.iconst 0, 1) := by decide +kernel
theorem dX1_isRow_26 : decode cX1_isRow 26 = .ok (.ireturn, 1) := by decide +kernel
theorem dX2_init_0 : decode cX2_init 0 = .ok (.aload_n 0, 1) := by decide +kernel
theorem dX2_init_1 : decode cX2_init 1 = .ok (.invokespecial 3, 3) := by decide +kernel
theorem dX2_init_4 : decode cX2_init 4 = .ok (.aload_n 0, 1) := by decide +kernel
theorem dX2_init_5 : decode cX2_init 5 = .ok (.bipush 6, 2) := by decide +kernel
theorem dX2_init_7 : decode cX2_init 7 = .ok (.newarray .int, 2) := by decide +kernel
theorem dX2_init_9 : decode cX2_init 9 = .ok (.putfield 9, 3) := by decide +kernel
theorem dX2_init_12 : decode cX2_init 12 = .ok (.aload_n 0, 1) := by decide +kernel
theorem dX2_init_13 : decode cX2_init 13 = .ok (.bipush 6, 2) := by decide +kernel
theorem dX2_init_15 : decode cX2_init 15 = .ok (.newarray .int, 2) := by decide +kernel
theorem dX2_init_17 : decode cX2_init 17 = .ok (.putfield 15, 3) := by decide +kernel
theorem dX2_init_20 : decode cX2_init 20 = .ok (.aload_n 0, 1) := by decide +kernel
theorem dX2_init_21 : decode cX2_init 21 = .ok (.bipush 6, 2) := by decide +kernel
theorem dX2_init_23 : decode cX2_init 23 = .ok (.newarray .int, 2) := by decide +kernel
theorem dX2_init_25 : decode cX2_init 25 = .ok (.putfield 18, 3) := by decide +kernel
theorem dX2_init_28 : decode cX2_init 28 = .ok (.return_, 1) := by decide +kernel
theorem dX2_startIn_0 : decode cX2_startIn 0 = .ok (.aload_n 0, 1) := by decide +kernel
theorem dX2_startIn_1 : decode cX2_startIn 1 = .ok (.iconst 0, 1) := by decide +kernel
theorem dX2_startIn_2 : decode cX2_startIn 2 = .ok (.putfield 21, 3) := by decide +kernel
theorem dX2_startIn_5 : decode cX2_startIn 5 = .ok (.iconst 0, 1) := by decide +kernel
theorem dX2_startIn_6 : decode cX2_startIn 6 = .ok (.istore_n 2, 1) := by decide +kernel
theorem dX2_startIn_7 : decode cX2_startIn 7 = .ok (.iload_n 2, 1) := by decide +kernel
theorem dX2_startIn_8 : decode cX2_startIn 8 = .ok (.bipush 6, 2) := by decide +kernel
theorem dX2_startIn_10 : decode cX2_startIn 10 = .ok (.if_icmp .ge 40, 3) := by decide +kernel
theorem dX2_startIn_13 : decode cX2_startIn 13 = .ok (.aload_n 0, 1) := by decide +kernel
theorem dX2_startIn_14 : decode cX2_startIn 14 = .ok (.getfield 9, 3) := by decide +kernel
theorem dX2_startIn_17 : decode cX2_startIn 17 = .ok (.iload_n 2, 1) := by decide +kernel
theorem dX2_startIn_18 : decode cX2_startIn 18 = .ok (.aload_n 1, 1) := by decide +kernel
theorem dX2_startIn_19 : decode cX2_startIn 19 = .ok (.getfield 25, 3) := by decide +kernel
theorem dX2_startIn_22 : decode cX2_startIn 22 = .ok (.iload_n 2, 1) := by decide +kernel
theorem dX2_startIn_23 : decode cX2_startIn 23 = .ok (.iaload, 1) := by decide +kernel
theorem dX2_startIn_24 : decode cX2_startIn 24 = .ok (.iastore, 1) := by decide +kernel
theorem dX2_startIn_25 : decode cX2_startIn 25 = .ok (.aload_n 0, 1) := by decide +kernel
theorem dX2_startIn_26 : decode cX2_startIn 26 = .ok (.getfield 15, 3) := by decide +kernel
theorem dX2_startIn_29 : decode cX2_startIn 29 = .ok (.iload_n 2, 1) := by decide +kernel
theorem dX2_startIn_30 : decode cX2_startIn 30 = .ok (.aload_n 1, 1) := by decide +kernel
theorem dX2_startIn_31 : decode cX2_startIn 31 = .ok (.getfield 30, 3) := by decide +kernel
theorem dX2_startIn_34 : decode cX2_startIn 34 = .ok (.iload_n 2, 1) := by decide +kernel
theorem dX2_startIn_35 : decode cX2_startIn 35 = .ok (.iaload, 1) := by decide +kernel
theorem dX2_startIn_36 : decode cX2_startIn 36 = .ok (.iastore, 1) := by decide +kernel
theorem dX2_startIn_37 : decode cX2_startIn 37 = .ok (.aload_n 0, 1) := by decide +kernel
theorem dX2_startIn_38 : decode cX2_startIn 38 = .ok (.getfield 18, 3) := by decide +kernel
theorem dX2_startIn_41 : decode cX2_startIn 41 = .ok (.iload_n 2, 1) := by decide +kernel
theorem dX2_startIn_42 : decode cX2_startIn 42 = .ok (.iconst (-1), 1) := by decide +kernel
theorem dX2_startIn_43 : decode cX2_startIn 43 = .ok (.iastore, 1) := by decide +kernel
theorem dX2_startIn_44 : decode cX2_startIn 44 = .ok (.iinc 2 1, 3) := by decide +kernel
theorem dX2_startIn_47 : decode cX2_startIn 47 = .ok (.goto (-40), 3) := by decide +kernel
theorem dX2_startIn_50 : decode cX2_startIn 50 = .ok (.return_, 1) := by decide +kernel
theorem dX2_copyFrom_0 : decode cX2_copyFrom 0 = .ok (.aload_n 0, 1) := by decide +kernel
theorem dX2_copyFrom_1 : decode cX2_copyFrom 1 = .ok (.aload_n 1, 1) := by decide +kernel
theorem dX2_copyFrom_2 : decode cX2_copyFrom 2 = .ok (.getfield 21, 3) := by decide +kernel
theorem dX2_copyFrom_5 : decode cX2_copyFrom 5 = .ok (.putfield 21, 3) := by decide +kernel
theorem dX2_copyFrom_8 : decode cX2_copyFrom 8 = .ok (.aload_n 0, 1) := by decide +kernel
theorem dX2_copyFrom_9 : decode cX2_copyFrom 9 = .ok (.aload_n 1, 1) := by decide +kernel
theorem dX2_copyFrom_10 : decode cX2_copyFrom 10 = .ok (.getfield 33, 3) := by decide +kernel
theorem dX2_copyFrom_13 : decode cX2_copyFrom 13 = .ok (.putfield 33, 3) := by decide +kernel
theorem dX2_copyFrom_16 : decode cX2_copyFrom 16 = .ok (.iconst 0, 1) := by decide +kernel
theorem dX2_copyFrom_17 : decode cX2_copyFrom 17 = .ok (.istore_n 2, 1) := by decide +kernel
theorem dX2_copyFrom_18 : decode cX2_copyFrom 18 = .ok (.iload_n 2, 1) := by decide +kernel
theorem dX2_copyFrom_19 : decode cX2_copyFrom 19 = .ok (.bipush 6, 2) := by decide +kernel
theorem dX2_copyFrom_21 : decode cX2_copyFrom 21 = .ok (.if_icmp .ge 45, 3) := by decide +kernel
theorem dX2_copyFrom_24 : decode cX2_copyFrom 24 = .ok (.aload_n 0, 1) := by decide +kernel
theorem dX2_copyFrom_25 : decode cX2_copyFrom 25 = .ok (.getfield 9, 3) := by decide +kernel
theorem dX2_copyFrom_28 : decode cX2_copyFrom 28 = .ok (.iload_n 2, 1) := by decide +kernel
theorem dX2_copyFrom_29 : decode cX2_copyFrom 29 = .ok (.aload_n 1, 1) := by decide +kernel
theorem dX2_copyFrom_30 : decode cX2_copyFrom 30 = .ok (.getfield 9, 3) := by decide +kernel
theorem dX2_copyFrom_33 : decode cX2_copyFrom 33 = .ok (.iload_n 2, 1) := by decide +kernel
theorem dX2_copyFrom_34 : decode cX2_copyFrom 34 = .ok (.iaload, 1) := by decide +kernel
theorem dX2_copyFrom_35 : decode cX2_copyFrom 35 = .ok (.iastore, 1) := by decide +kernel
theorem dX2_copyFrom_36 : decode cX2_copyFrom 36 = .ok (.aload_n 0, 1) := by decide +kernel
theorem dX2_copyFrom_37 : decode cX2_copyFrom 37 = .ok (.getfield 15, 3) := by decide +kernel
theorem dX2_copyFrom_40 : decode cX2_copyFrom 40 = .ok (.iload_n 2, 1) := by decide +kernel
theorem dX2_copyFrom_41 : decode cX2_copyFrom 41 = .ok (.aload_n 1, 1) := by decide +kernel
theorem dX2_copyFrom_42 : decode cX2_copyFrom 42 = .ok (.getfield 15, 3) := by decide +kernel
theorem dX2_copyFrom_45 : decode cX2_copyFrom 45 = .ok (.iload_n 2, 1) := by decide +kernel
theorem dX2_copyFrom_46 : decode cX2_copyFrom 46 = .ok (.iaload, 1) := by decide +kernel
theorem dX2_copyFrom_47 : decode cX2_copyFrom 47 = .ok (.iastore, 1) := by decide +kernel
theorem dX2_copyFrom_48 : decode cX2_copyFrom 48 = .ok (.aload_n 0, 1) := by decide +kernel
theorem dX2_copyFrom_49 : decode cX2_copyFrom 49 = .ok (.getfield 18, 3) := by decide +kernel
theorem dX2_copyFrom_52 : decode cX2_copyFrom 52 = .ok (.iload_n 2, 1) := by decide +kernel
theorem dX2_copyFrom_53 : decode cX2_copyFrom 53 = .ok (.aload_n 1, 1) := by decide +kernel
theorem dX2_copyFrom_54 : decode cX2_copyFrom 54 = .ok (.getfield 18, 3) := by decide +kernel
theorem dX2_copyFrom_57 : decode cX2_copyFrom 57 = .ok (.iload_n 2, 1) := by decide +kernel
theorem dX2_copyFrom_58 : decode cX2_copyFrom 58 = .ok (.iaload, 1) := by decide +kernel
theorem dX2_copyFrom_59 : decode cX2_copyFrom 59 = .ok (.iastore, 1) := by decide +kernel
theorem dX2_copyFrom_60 : decode cX2_copyFrom 60 = .ok (.iinc 2 1, 3) := by decide +kernel
theorem dX2_copyFrom_63 : decode cX2_copyFrom 63 = .ok (.goto (-45), 3) := by decide +kernel
theorem dX2_copyFrom_66 : decode cX2_copyFrom 66 = .ok (.return_, 1) := by decide +kernel
set_option maxRecDepth 20000 in
theorem ggX2_isUp_X2_isPlace : GoodIn wsX2_isUp wsX2_isPlace := goodIn_r _ [5] (by decide +kernel) (by decide +kernel)
set_option maxRecDepth 20000 in
theorem gX2_isUp_X2_isPlace : GoodIn wsX2_isUp (va_wsS RX2 36 yX2_isPlace wsX2_isPlace) := goodIn_app (goodIn_of _ (by decide +kernel)) ggX2_isUp_X2_isPlace
theorem dX2_isUp_0 : decode cX2_isUp 0 = .ok (.iload_n 1, 1) := by decide +kernel
theorem dX2_isUp_1 : decode cX2_isUp 1 = .ok (.invokestatic 36, 3) := by decide +kernel
theorem dX2_isUp_4 : decode cX2_isUp 4 = .ok (.ifCond .eq 17, 3) := by decide +kernel
theorem dX2_isUp_7 : decode cX2_isUp 7 = .ok (.aload_n 0, 1) := by decide +kernel
theorem dX2_isUp_8 : decode cX2_isUp 8 = .ok (.getfield 18, 3) := by decide +kernel
theorem dX2_isUp_11 : decode cX2_isUp 11 = .ok (.iload_n 1, 1) := by decide +kernel
theorem dX2_isUp_12 : decode cX2_isUp 12 = .ok (.iaload, 1) := by decide +kernel
theorem dX2_isUp_13 : decode cX2_isUp 13 = .ok (.iconst (-1), 1) := by decide +kernel
theorem dX2_isUp_14 : decode cX2_isUp 14 = .ok (.if_icmp .ne 7, 3) := by decide +kernel
theorem dX2_isUp_17 : decode cX2_isUp 17 = .ok (.iconst 1, 1) := by decide +kernel
theorem dX2_isUp_18 : decode cX2_isUp 18 = .ok (.goto 4, 3) := by decide +kernel
theorem dX2_isUp_21 : decode cX2_isUp 21 = .ok (.iconst 0, 1) := by decide +kernel
theorem dX2_isUp_22 : decode cX2_isUp 22 = .ok (.ireturn, 1) := by decide +kernel
theorem dX2_downSet_0 : decode cX2_downSet 0 = .ok (.iconst 0, 1) := by decide +kernel
theorem dX2_downSet_1 : decode cX2_downSet 1 = .ok (.istore_n 2, 1) := by decide +kernel
theorem dX2_downSet_2 : decode cX2_downSet 2 = .ok (.iconst 0, 1) := by decide +kernel
theorem dX2_downSet_3 : decode cX2_downSet 3 = .ok (.istore_n 3, 1) := by decide +kernel
theorem dX2_downSet_4 : decode cX2_downSet 4 = .ok (.iload_n 3, 1) := by decide +kernel
theorem dX2_downSet_5 : decode cX2_downSet 5 = .ok (.iload_n 1, 1) := by decide +kernel
theorem dX2_downSet_6 : decode cX2_downSet 6 = .ok (.if_icmp .ge 31, 3) := by decide +kernel
theorem dX2_downSet_9 : decode cX2_downSet 9 = .ok (.iload_n 3, 1) := by decide +kernel
theorem dX2_downSet_10 : decode cX2_downSet 10 = .ok (.bipush 6, 2) := by decide +kernel
theorem dX2_downSet_12 : decode cX2_downSet 12 = .ok (.if_icmp .ge 25, 3) := by decide +kernel
theorem dX2_downSet_15 : decode cX2_downSet 15 = .ok (.aload_n 0, 1) := by decide +kernel
theorem dX2_downSet_16 : decode cX2_downSet 16 = .ok (.getfield 18, 3) := by decide +kernel
theorem dX2_downSet_19 : decode cX2_downSet 19 = .ok (.iload_n 3, 1) := by decide +kernel
theorem dX2_downSet_20 : decode cX2_downSet 20 = .ok (.iaload, 1) := by decide +kernel
theorem dX2_downSet_21 : decode cX2_downSet 21 = .ok (.iconst (-1), 1) := by decide +kernel
theorem dX2_downSet_22 : decode cX2_downSet 22 = .ok (.if_icmp .eq 9, 3) := by decide +kernel
theorem dX2_downSet_25 : decode cX2_downSet 25 = .ok (.iload_n 2, 1) := by decide +kernel
theorem dX2_downSet_26 : decode cX2_downSet 26 = .ok (.iconst 1, 1) := by decide +kernel
theorem dX2_downSet_27 : decode cX2_downSet 27 = .ok (.iload_n 3, 1) := by decide +kernel
theorem dX2_downSet_28 : decode cX2_downSet 28 = .ok (.ishl, 1) := by decide +kernel
theorem dX2_downSet_29 : decode cX2_downSet 29 = .ok (.ior, 1) := by decide +kernel
theorem dX2_downSet_30 : decode cX2_downSet 30 = .ok (.istore_n 2, 1) := by decide +kernel
theorem dX2_downSet_31 : decode cX2_downSet 31 = .ok (.iinc 3 1, 3) := by decide +kernel
theorem dX2_downSet_34 : decode cX2_downSet 34 = .ok (.goto (-30), 3) := by decide +kernel
theorem dX2_downSet_37 : decode cX2_downSet 37 = .ok (.iload_n 2, 1) := by decide +kernel
theorem dX2_downSet_38 : decode cX2_downSet 38 = .ok (.ireturn, 1) := by decide +kernel
set_option maxRecDepth 20000 in
theorem ggX2_goIn_X2_isPlace : GoodIn wsX2_goIn wsX2_isPlace := goodIn_r _ [7] (by decide +kernel) (by decide +kernel)
set_option maxRecDepth 20000 in
theorem gX2_goIn_X2_isPlace : GoodIn wsX2_goIn (va_wsS RX2 36 yX2_isPlace wsX2_isPlace) := goodIn_app (goodIn_of _ (by decide +kernel)) ggX2_goIn_X2_isPlace
theorem dX2_goIn_0 : decode cX2_goIn 0 = .ok (.iload_n 1, 1) := by decide +kernel
theorem dX2_goIn_1 : decode cX2_goIn 1 = .ok (.invokestatic 36, 3) := by decide +kernel
theorem dX2_goIn_4 : decode cX2_goIn 4 = .ok (.ifCond .eq 25, 3) := by decide +kernel
theorem dX2_goIn_7 : decode cX2_goIn 7 = .ok (.aload_n 0, 1) := by decide +kernel
theorem dX2_goIn_8 : decode cX2_goIn 8 = .ok (.getfield 9, 3) := by decide +kernel
theorem dX2_goIn_11 : decode cX2_goIn 11 = .ok (.iload_n 1, 1) := by decide +kernel
theorem dX2_goIn_12 : decode cX2_goIn 12 = .ok (.dup2, 1) := by decide +kernel
theorem dX2_goIn_13 : decode cX2_goIn 13 = .ok (.iaload, 1) := by decide +kernel
theorem dX2_goIn_14 : decode cX2_goIn 14 = .ok (.iload_n 2, 1) := by decide +kernel
theorem dX2_goIn_15 : decode cX2_goIn 15 = .ok (.iadd, 1) := by decide +kernel
theorem dX2_goIn_16 : decode cX2_goIn 16 = .ok (.iastore, 1) := by decide +kernel
theorem dX2_goIn_17 : decode cX2_goIn 17 = .ok (.aload_n 0, 1) := by decide +kernel
theorem dX2_goIn_18 : decode cX2_goIn 18 = .ok (.getfield 18, 3) := by decide +kernel
theorem dX2_goIn_21 : decode cX2_goIn 21 = .ok (.iload_n 1, 1) := by decide +kernel
theorem dX2_goIn_22 : decode cX2_goIn 22 = .ok (.aload_n 0, 1) := by decide +kernel
theorem dX2_goIn_23 : decode cX2_goIn 23 = .ok (.getfield 21, 3) := by decide +kernel
theorem dX2_goIn_26 : decode cX2_goIn 26 = .ok (.iload_n 3, 1) := by decide +kernel
theorem dX2_goIn_27 : decode cX2_goIn 27 = .ok (.iadd, 1) := by decide +kernel
theorem dX2_goIn_28 : decode cX2_goIn 28 = .ok (.iastore, 1) := by decide +kernel
theorem dX2_goIn_29 : decode cX2_goIn 29 = .ok (.return_, 1) := by decide +kernel
set_option maxRecDepth 20000 in
theorem ggX2_ageAt_X2_isPlace : GoodIn wsX2_ageAt wsX2_isPlace := goodIn_r _ [11] (by decide +kernel) (by decide +kernel)
set_option maxRecDepth 20000 in
theorem gX2_ageAt_X2_isPlace : GoodIn wsX2_ageAt (va_wsS RX2 36 yX2_isPlace wsX2_isPlace) := goodIn_app (goodIn_of _ (by decide +kernel)) ggX2_ageAt_X2_isPlace
theorem dX2_ageAt_0 : decode cX2_ageAt 0 = .ok (.iload_n 1, 1) := by decide +kernel
theorem dX2_ageAt_1 : decode cX2_ageAt 1 = .ok (.invokestatic 36, 3) := by decide +kernel
theorem dX2_ageAt_4 : decode cX2_ageAt 4 = .ok (.ifCond .ne 5, 3) := by decide +kernel
theorem dX2_ageAt_7 : decode cX2_ageAt 7 = .ok (.iconst 0, 1) := by decide +kernel
theorem dX2_ageAt_8 : decode cX2_ageAt 8 = .ok (.ireturn, 1) := by decide +kernel
theorem dX2_ageAt_9 : decode cX2_ageAt 9 = .ok (.aload_n 0, 1) := by decide +kernel
theorem dX2_ageAt_10 : decode cX2_ageAt 10 = .ok (.getfield 9, 3) := by decide +kernel
theorem dX2_ageAt_13 : decode cX2_ageAt 13 = .ok (.iload_n 1, 1) := by decide +kernel
theorem dX2_ageAt_14 : decode cX2_ageAt 14 = .ok (.iaload, 1) := by decide +kernel
theorem dX2_ageAt_15 : decode cX2_ageAt 15 = .ok (.iconst 0, 1) := by decide +kernel
theorem dX2_ageAt_16 : decode cX2_ageAt 16 = .ok (.iload_n 2, 1) := by decide +kernel
theorem dX2_ageAt_17 : decode cX2_ageAt 17 = .ok (.aload_n 0, 1) := by decide +kernel
theorem dX2_ageAt_18 : decode cX2_ageAt 18 = .ok (.getfield 21, 3) := by decide +kernel
theorem dX2_ageAt_21 : decode cX2_ageAt 21 = .ok (.aload_n 0, 1) := by decide +kernel
theorem dX2_ageAt_22 : decode cX2_ageAt 22 = .ok (.getfield 18, 3) := by decide +kernel
theorem dX2_ageAt_25 : decode cX2_ageAt 25 = .ok (.iload_n 1, 1) := by decide +kernel
theorem dX2_ageAt_26 : decode cX2_ageAt 26 = .ok (.iaload, 1) := by decide +kernel
theorem dX2_ageAt_27 : decode cX2_ageAt 27 = .ok (.invokestatic 40, 3) := by decide +kernel
theorem dX2_ageAt_30 : decode cX2_ageAt 30 = .ok (.isub, 1) := by decide +kernel
theorem dX2_ageAt_31 : decode cX2_ageAt 31 = .ok (.invokestatic 40, 3) := by decide +kernel
theorem dX2_ageAt_34 : decode cX2_ageAt 34 = .ok (.iadd, 1) := by decide +kernel
theorem dX2_ageAt_35 : decode cX2_ageAt 35 = .ok (.ireturn, 1) := by decide +kernel
set_option maxRecDepth 20000 in
theorem ggX2_meetingDate_X2_isPlace : GoodIn wsX2_meetingDate wsX2_isPlace := goodIn_r _ [10] (by decide +kernel) (by decide +kernel)
set_option maxRecDepth 20000 in
theorem gX2_meetingDate_X2_isPlace : GoodIn wsX2_meetingDate (va_wsS RX2 36 yX2_isPlace wsX2_isPlace) := goodIn_app (goodIn_of _ (by decide +kernel)) ggX2_meetingDate_X2_isPlace
theorem dX2_meetingDate_0 : decode cX2_meetingDate 0 = .ok (.iload_n 1, 1) := by decide +kernel
theorem dX2_meetingDate_1 : decode cX2_meetingDate 1 = .ok (.invokestatic 36, 3) := by decide +kernel
theorem dX2_meetingDate_4 : decode cX2_meetingDate 4 = .ok (.ifCond .eq 35, 3) := by decide +kernel
theorem dX2_meetingDate_7 : decode cX2_meetingDate 7 = .ok (.iload_n 2, 1) := by decide +kernel
theorem dX2_meetingDate_8 : decode cX2_meetingDate 8 = .ok (.invokestatic 36, 3) := by decide +kernel
theorem dX2_meetingDate_11 : decode cX2_meetingDate 11 = .ok (.ifCond .eq 28, 3) := by decide +kernel
theorem dX2_meetingDate_14 : decode cX2_meetingDate 14 = .ok (.aload_n 0, 1) := by decide +kernel
theorem dX2_meetingDate_15 : decode cX2_meetingDate 15 = .ok (.getfield 21, 3) := by decide +kernel
theorem dX2_meetingDate_18 : decode cX2_meetingDate 18 = .ok (.aload_n 0, 1) := by decide +kernel
theorem dX2_meetingDate_19 : decode cX2_meetingDate 19 = .ok (.getfield 18, 3) := by decide +kernel
theorem dX2_meetingDate_22 : decode cX2_meetingDate 22 = .ok (.iload_n 1, 1) := by decide +kernel
theorem dX2_meetingDate_23 : decode cX2_meetingDate 23 = .ok (.iaload, 1) := by decide +kernel
theorem dX2_meetingDate_24 : decode cX2_meetingDate 24 = .ok (.aload_n 0, 1) := by decide +kernel
theorem dX2_meetingDate_25 : decode cX2_meetingDate 25 = .ok (.getfield 18, 3) := by decide +kernel
theorem dX2_meetingDate_28 : decode cX2_meetingDate 28 = .ok (.iload_n 2, 1) := by decide +kernel
theorem dX2_meetingDate_29 : decode cX2_meetingDate 29 = .ok (.iaload, 1) := by decide +kernel
theorem dX2_meetingDate_30 : decode cX2_meetingDate 30 = .ok (.invokestatic 40, 3) := by decide +kernel
theorem dX2_meetingDate_33 : decode cX2_meetingDate 33 = .ok (.invokestatic 40, 3) := by decide +kernel
theorem dX2_meetingDate_36 : decode cX2_meetingDate 36 = .ok (.goto 7, 3) := by decide +kernel
theorem dX2_meetingDate_39 : decode cX2_meetingDate 39 = .ok (.aload_n 0, 1) := by decide +kernel
theorem dX2_meetingDate_40 : decode cX2_meetingDate 40 = .ok (.getfield 21, 3) := by decide +kernel
theorem dX2_meetingDate_43 : decode cX2_meetingDate 43 = .ok (.ireturn, 1) := by decide +kernel
set_option maxRecDepth 20000 in
theorem ggX2_richesAt_X2_isPlace : GoodIn wsX2_richesAt wsX2_isPlace := goodIn_r _ [6] (by decide +kernel) (by decide +kernel)
set_option maxRecDepth 20000 in
theorem gX2_richesAt_X2_isPlace : GoodIn wsX2_richesAt (va_wsS RX2 36 yX2_isPlace wsX2_isPlace) := goodIn_app (goodIn_of _ (by decide +kernel)) ggX2_richesAt_X2_isPlace
set_option maxRecDepth 20000 in
theorem ggX2_richesAt_X2_grown : GoodIn wsX2_richesAt wsX2_grown := goodIn_r _ [9, 10, 11, 12, 13, 14, 15] (by decide +kernel) (by decide +kernel)
set_option maxRecDepth 20000 in
theorem gX2_richesAt_X2_grown : GoodIn wsX2_richesAt (va_wsS RX2 46 yX2_grown wsX2_grown) := goodIn_app (goodIn_of _ (by decide +kernel)) ggX2_richesAt_X2_grown
theorem dX2_richesAt_0 : decode cX2_richesAt 0 = .ok (.iload_n 1, 1) := by decide +kernel
theorem dX2_richesAt_1 : decode cX2_richesAt 1 = .ok (.invokestatic 36, 3) := by decide +kernel
theorem dX2_richesAt_4 : decode cX2_richesAt 4 = .ok (.ifCond .eq 28, 3) := by decide +kernel
theorem dX2_richesAt_7 : decode cX2_richesAt 7 = .ok (.aload_n 0, 1) := by decide +kernel
theorem dX2_richesAt_8 : decode cX2_richesAt 8 = .ok (.getfield 15, 3) := by decide +kernel
theorem dX2_richesAt_11 : decode cX2_richesAt 11 = .ok (.iload_n 1, 1) := by decide +kernel
theorem dX2_richesAt_12 : decode cX2_richesAt 12 = .ok (.iaload, 1) := by decide +kernel
theorem dX2_richesAt_13 : decode cX2_richesAt 13 = .ok (.iload_n 3, 1) := by decide +kernel
theorem dX2_richesAt_14 : decode cX2_richesAt 14 = .ok (.iload_n 2, 1) := by decide +kernel
theorem dX2_richesAt_15 : decode cX2_richesAt 15 = .ok (.bipush 60, 2) := by decide +kernel
theorem dX2_richesAt_17 : decode cX2_richesAt 17 = .ok (.idiv, 1) := by decide +kernel
theorem dX2_richesAt_18 : decode cX2_richesAt 18 = .ok (.aload_n 0, 1) := by decide +kernel
theorem dX2_richesAt_19 : decode cX2_richesAt 19 = .ok (.getfield 21, 3) := by decide +kernel
theorem dX2_richesAt_22 : decode cX2_richesAt 22 = .ok (.bipush 60, 2) := by decide +kernel
theorem dX2_richesAt_24 : decode cX2_richesAt 24 = .ok (.idiv, 1) := by decide +kernel
theorem dX2_richesAt_25 : decode cX2_richesAt 25 = .ok (.isub, 1) := by decide +kernel
theorem dX2_richesAt_26 : decode cX2_richesAt 26 = .ok (.invokestatic 46, 3) := by decide +kernel
theorem dX2_richesAt_29 : decode cX2_richesAt 29 = .ok (.goto 4, 3) := by decide +kernel
theorem dX2_richesAt_32 : decode cX2_richesAt 32 = .ok (.iconst 0, 1) := by decide +kernel
theorem dX2_richesAt_33 : decode cX2_richesAt 33 = .ok (.ireturn, 1) := by decide +kernel
set_option maxRecDepth 20000 in
theorem ggX2_letPass_X2_ageAt : GoodIn wsX2_letPass wsX2_ageAt := goodIn_r _ [11, 3, 1, 6, 12, 13, 14, 15, 16, 17, 10, 18, 31, 32, 33, 34, 35, 36] (by decide +kernel) (by decide +kernel)
set_option maxRecDepth 20000 in
theorem gX2_letPass_X2_ageAt : GoodIn wsX2_letPass (wsV RX2 53 RX2 yX2_ageAt wsX2_ageAt) := goodIn_app (goodIn_of _ (by decide +kernel)) ggX2_letPass_X2_ageAt
set_option maxRecDepth 20000 in
theorem ggX2_letPass_X2_richesAt : GoodIn wsX2_letPass wsX2_richesAt := goodIn_r _ [22, 4, 1, 16, 17, 10, 18, 23, 24, 25, 26, 27, 28, 29, 14, 30, 31, 32, 33, 34, 35, 36] (by decide +kernel) (by decide +kernel)
set_option maxRecDepth 20000 in
theorem gX2_letPass_X2_richesAt : GoodIn wsX2_letPass (wsV RX2 59 RX2 yX2_richesAt wsX2_richesAt) := goodIn_app (goodIn_of _ (by decide +kernel)) ggX2_letPass_X2_richesAt
theorem dX2_letPass_0 : decode cX2_letPass 0 = .ok (.aload_n 0, 1) := by decide +kernel
theorem dX2_letPass_1 : decode cX2_letPass 1 = .ok (.getfield 21, 3) := by decide +kernel
theorem dX2_letPass_4 : decode cX2_letPass 4 = .ok (.iload_n 1, 1) := by decide +kernel
theorem dX2_letPass_5 : decode cX2_letPass 5 = .ok (.iadd, 1) := by decide +kernel
theorem dX2_letPass_6 : decode cX2_letPass 6 = .ok (.istore_n 3, 1) := by decide +kernel
theorem dX2_letPass_7 : decode cX2_letPass 7 = .ok (.iconst 0, 1) := by decide +kernel
theorem dX2_letPass_8 : decode cX2_letPass 8 = .ok (.istore 4, 2) := by decide +kernel
theorem dX2_letPass_10 : decode cX2_letPass 10 = .ok (.iload 4, 2) := by decide +kernel
theorem dX2_letPass_12 : decode cX2_letPass 12 = .ok (.aload_n 2, 1) := by decide +kernel
theorem dX2_letPass_13 : decode cX2_letPass 13 = .ok (.getfield 50, 3) := by decide +kernel
theorem dX2_letPass_16 : decode cX2_letPass 16 = .ok (.if_icmp .ge 67, 3) := by decide +kernel
theorem dX2_letPass_19 : decode cX2_letPass 19 = .ok (.iload 4, 2) := by decide +kernel
theorem dX2_letPass_21 : decode cX2_letPass 21 = .ok (.bipush 6, 2) := by decide +kernel
theorem dX2_letPass_23 : decode cX2_letPass 23 = .ok (.if_icmp .ge 60, 3) := by decide +kernel
theorem dX2_letPass_26 : decode cX2_letPass 26 = .ok (.aload_n 0, 1) := by decide +kernel
theorem dX2_letPass_27 : decode cX2_letPass 27 = .ok (.getfield 9, 3) := by decide +kernel
theorem dX2_letPass_30 : decode cX2_letPass 30 = .ok (.iload 4, 2) := by decide +kernel
theorem dX2_letPass_32 : decode cX2_letPass 32 = .ok (.aload_n 0, 1) := by decide +kernel
theorem dX2_letPass_33 : decode cX2_letPass 33 = .ok (.iload 4, 2) := by decide +kernel
theorem dX2_letPass_35 : decode cX2_letPass 35 = .ok (.iload_n 3, 1) := by decide +kernel
theorem dX2_letPass_36 : decode cX2_letPass 36 = .ok (.invokevirtual 53, 3) := by decide +kernel
theorem dX2_letPass_39 : decode cX2_letPass 39 = .ok (.iastore, 1) := by decide +kernel
theorem dX2_letPass_40 : decode cX2_letPass 40 = .ok (.aload_n 0, 1) := by decide +kernel
theorem dX2_letPass_41 : decode cX2_letPass 41 = .ok (.getfield 15, 3) := by decide +kernel
theorem dX2_letPass_44 : decode cX2_letPass 44 = .ok (.iload 4, 2) := by decide +kernel
theorem dX2_letPass_46 : decode cX2_letPass 46 = .ok (.aload_n 0, 1) := by decide +kernel
theorem dX2_letPass_47 : decode cX2_letPass 47 = .ok (.iload 4, 2) := by decide +kernel
theorem dX2_letPass_49 : decode cX2_letPass 49 = .ok (.iload_n 3, 1) := by decide +kernel
theorem dX2_letPass_50 : decode cX2_letPass 50 = .ok (.aload_n 2, 1) := by decide +kernel
theorem dX2_letPass_51 : decode cX2_letPass 51 = .ok (.getfield 56, 3) := by decide +kernel
theorem dX2_letPass_54 : decode cX2_letPass 54 = .ok (.invokevirtual 59, 3) := by decide +kernel
theorem dX2_letPass_57 : decode cX2_letPass 57 = .ok (.iastore, 1) := by decide +kernel
theorem dX2_letPass_58 : decode cX2_letPass 58 = .ok (.aload_n 0, 1) := by decide +kernel
theorem dX2_letPass_59 : decode cX2_letPass 59 = .ok (.getfield 18, 3) := by decide +kernel
theorem dX2_letPass_62 : decode cX2_letPass 62 = .ok (.iload 4, 2) := by decide +kernel
theorem dX2_letPass_64 : decode cX2_letPass 64 = .ok (.iaload, 1) := by decide +kernel
theorem dX2_letPass_65 : decode cX2_letPass 65 = .ok (.iload_n 3, 1) := by decide +kernel
theorem dX2_letPass_66 : decode cX2_letPass 66 = .ok (.if_icmp .gt 11, 3) := by decide +kernel
theorem dX2_letPass_69 : decode cX2_letPass 69 = .ok (.aload_n 0, 1) := by decide +kernel
theorem dX2_letPass_70 : decode cX2_letPass 70 = .ok (.getfield 18, 3) := by decide +kernel
theorem dX2_letPass_73 : decode cX2_letPass 73 = .ok (.iload 4, 2) := by decide +kernel
theorem dX2_letPass_75 : decode cX2_letPass 75 = .ok (.iconst (-1), 1) := by decide +kernel
theorem dX2_letPass_76 : decode cX2_letPass 76 = .ok (.iastore, 1) := by decide +kernel
theorem dX2_letPass_77 : decode cX2_letPass 77 = .ok (.iinc 4 1, 3) := by decide +kernel
theorem dX2_letPass_80 : decode cX2_letPass 80 = .ok (.goto (-70), 3) := by decide +kernel
theorem dX2_letPass_83 : decode cX2_letPass 83 = .ok (.aload_n 0, 1) := by decide +kernel
theorem dX2_letPass_84 : decode cX2_letPass 84 = .ok (.iload_n 3, 1) := by decide +kernel
theorem dX2_letPass_85 : decode cX2_letPass 85 = .ok (.putfield 21, 3) := by decide +kernel
theorem dX2_letPass_88 : decode cX2_letPass 88 = .ok (.return_, 1) := by decide +kernel
set_option maxRecDepth 20000 in
theorem ggX2_driftOnce_X2_nextDraw : GoodIn wsX2_driftOnce wsX2_nextDraw := goodIn_r _ [7, 8, 9, 10, 11, 12, 82, 83, 84, 85, 86, 87] (by decide +kernel) (by decide +kernel)
set_option maxRecDepth 20000 in
theorem gX2_driftOnce_X2_nextDraw : GoodIn wsX2_driftOnce (wsV RX2 62 RX2 yX2_nextDraw wsX2_nextDraw) := goodIn_app (goodIn_of _ (by decide +kernel)) ggX2_driftOnce_X2_nextDraw
set_option maxRecDepth 20000 in
theorem ggX2_driftOnce_X2_isUp : GoodIn wsX2_driftOnce wsX2_isUp := goodIn_r _ [16, 17, 18, 19, 6, 20, 82, 83, 84, 85, 86, 87] (by decide +kernel) (by decide +kernel)
set_option maxRecDepth 20000 in
theorem gX2_driftOnce_X2_isUp : GoodIn wsX2_driftOnce (wsV RX2 66 RX2 yX2_isUp wsX2_isUp) := goodIn_app (goodIn_of _ (by decide +kernel)) ggX2_driftOnce_X2_isUp
set_option maxRecDepth 20000 in
theorem ggX2_driftOnce_X0_hasMouth : GoodIn wsX2_driftOnce wsX0_hasMouth := goodIn_r _ [25, 26, 27, 28, 29, 24, 30, 31, 69, 70, 71, 72, 73, 74, 75, 76, 77, 78, 79, 80, 81] (by decide +kernel) (by decide +kernel)
set_option maxRecDepth 20000 in
theorem gX2_driftOnce_X0_hasMouth : GoodIn wsX2_driftOnce (wsV RX2 72 RX0 yX0_hasMouth wsX0_hasMouth) := goodIn_app (goodIn_of _ (by decide +kernel)) ggX2_driftOnce_X0_hasMouth
set_option maxRecDepth 20000 in
theorem ggX2_driftOnce_X0_rateOf : GoodIn wsX2_driftOnce wsX0_rateOf := goodIn_r _ [35, 36, 27, 28, 29, 24, 30, 31, 69, 70, 71, 72, 73, 74, 75, 76, 77, 78, 79, 80, 81] (by decide +kernel) (by decide +kernel)
set_option maxRecDepth 20000 in
theorem gX2_driftOnce_X0_rateOf : GoodIn wsX2_driftOnce (wsV RX2 75 RX0 yX0_rateOf wsX0_rateOf) := goodIn_app (goodIn_of _ (by decide +kernel)) ggX2_driftOnce_X0_rateOf
set_option maxRecDepth 20000 in
theorem ggX2_driftOnce_X2_goIn : GoodIn wsX2_driftOnce wsX2_goIn := goodIn_r _ [40, 41, 17, 42, 18, 19, 6, 20, 82, 83, 84, 85, 86, 87] (by decide +kernel) (by decide +kernel)
set_option maxRecDepth 20000 in
theorem gX2_driftOnce_X2_goIn : GoodIn wsX2_driftOnce (wsV RX2 78 RX2 yX2_goIn wsX2_goIn) := goodIn_app (goodIn_of _ (by decide +kernel)) ggX2_driftOnce_X2_goIn
set_option maxRecDepth 20000 in
theorem ggX2_driftOnce_X2_letPass : GoodIn wsX2_driftOnce wsX2_letPass := goodIn_r _ [46, 42, 1, 41, 47, 48, 17, 49, 50, 51, 6, 52, 53, 54, 55, 56, 18, 19, 20, 57, 58, 59, 60, 61, 62, 63, 64, 65, 66, 67, 68, 82, 83, 84, 85, 86, 87, 69, 70, 71, 72, 73, 74, 75, 76, 77, 78, 79, 80, 81] (by decide +kernel) (by decide +kernel)
set_option maxRecDepth 20000 in
theorem gX2_driftOnce_X2_letPass : GoodIn wsX2_driftOnce (wsV RX2 82 RX2 yX2_letPass wsX2_letPass) := goodIn_app (goodIn_of _ (by decide +kernel)) ggX2_driftOnce_X2_letPass
theorem dX2_driftOnce_0 : decode cX2_driftOnce 0 = .ok (.aload_n 0, 1) := by decide +kernel
theorem dX2_driftOnce_1 : decode cX2_driftOnce 1 = .ok (.aload_n 1, 1) := by decide +kernel
theorem dX2_driftOnce_2 : decode cX2_driftOnce 2 = .ok (.getfield 50, 3) := by decide +kernel
theorem dX2_driftOnce_5 : decode cX2_driftOnce 5 = .ok (.invokevirtual 62, 3) := by decide +kernel
theorem dX2_driftOnce_8 : decode cX2_driftOnce 8 = .ok (.istore_n 2, 1) := by decide +kernel
theorem dX2_driftOnce_9 : decode cX2_driftOnce 9 = .ok (.aload_n 0, 1) := by decide +kernel
theorem dX2_driftOnce_10 : decode cX2_driftOnce 10 = .ok (.iload_n 2, 1) := by decide +kernel
theorem dX2_driftOnce_11 : decode cX2_driftOnce 11 = .ok (.invokevirtual 66, 3) := by decide +kernel
theorem dX2_driftOnce_14 : decode cX2_driftOnce 14 = .ok (.ifCond .eq 45, 3) := by decide +kernel
theorem dX2_driftOnce_17 : decode cX2_driftOnce 17 = .ok (.aload_n 0, 1) := by decide +kernel
theorem dX2_driftOnce_18 : decode cX2_driftOnce 18 = .ok (.aload_n 1, 1) := by decide +kernel
theorem dX2_driftOnce_19 : decode cX2_driftOnce 19 = .ok (.getfield 69, 3) := by decide +kernel
theorem dX2_driftOnce_22 : decode cX2_driftOnce 22 = .ok (.invokevirtual 62, 3) := by decide +kernel
theorem dX2_driftOnce_25 : decode cX2_driftOnce 25 = .ok (.istore_n 3, 1) := by decide +kernel
theorem dX2_driftOnce_26 : decode cX2_driftOnce 26 = .ok (.aload_n 0, 1) := by decide +kernel
theorem dX2_driftOnce_27 : decode cX2_driftOnce 27 = .ok (.bipush 9, 2) := by decide +kernel
theorem dX2_driftOnce_29 : decode cX2_driftOnce 29 = .ok (.invokevirtual 62, 3) := by decide +kernel
theorem dX2_driftOnce_32 : decode cX2_driftOnce 32 = .ok (.iconst 1, 1) := by decide +kernel
theorem dX2_driftOnce_33 : decode cX2_driftOnce 33 = .ok (.iadd, 1) := by decide +kernel
theorem dX2_driftOnce_34 : decode cX2_driftOnce 34 = .ok (.istore 4, 2) := by decide +kernel
theorem dX2_driftOnce_36 : decode cX2_driftOnce 36 = .ok (.aload_n 1, 1) := by decide +kernel
theorem dX2_driftOnce_37 : decode cX2_driftOnce 37 = .ok (.iload_n 3, 1) := by decide +kernel
theorem dX2_driftOnce_38 : decode cX2_driftOnce 38 = .ok (.invokevirtual 72, 3) := by decide +kernel
theorem dX2_driftOnce_41 : decode cX2_driftOnce 41 = .ok (.ifCond .eq 18, 3) := by decide +kernel
theorem dX2_driftOnce_44 : decode cX2_driftOnce 44 = .ok (.aload_n 0, 1) := by decide +kernel
theorem dX2_driftOnce_45 : decode cX2_driftOnce 45 = .ok (.iload_n 2, 1) := by decide +kernel
theorem dX2_driftOnce_46 : decode cX2_driftOnce 46 = .ok (.iload 4, 2) := by decide +kernel
theorem dX2_driftOnce_48 : decode cX2_driftOnce 48 = .ok (.iload 4, 2) := by decide +kernel
theorem dX2_driftOnce_50 : decode cX2_driftOnce 50 = .ok (.aload_n 1, 1) := by decide +kernel
theorem dX2_driftOnce_51 : decode cX2_driftOnce 51 = .ok (.iload_n 3, 1) := by decide +kernel
theorem dX2_driftOnce_52 : decode cX2_driftOnce 52 = .ok (.invokevirtual 75, 3) := by decide +kernel
theorem dX2_driftOnce_55 : decode cX2_driftOnce 55 = .ok (.imul, 1) := by decide +kernel
theorem dX2_driftOnce_56 : decode cX2_driftOnce 56 = .ok (.invokevirtual 78, 3) := by decide +kernel
theorem dX2_driftOnce_59 : decode cX2_driftOnce 59 = .ok (.aload_n 0, 1) := by decide +kernel
theorem dX2_driftOnce_60 : decode cX2_driftOnce 60 = .ok (.aload_n 0, 1) := by decide +kernel
theorem dX2_driftOnce_61 : decode cX2_driftOnce 61 = .ok (.bipush 60, 2) := by decide +kernel
theorem dX2_driftOnce_63 : decode cX2_driftOnce 63 = .ok (.invokevirtual 62, 3) := by decide +kernel
theorem dX2_driftOnce_66 : decode cX2_driftOnce 66 = .ok (.aload_n 1, 1) := by decide +kernel
theorem dX2_driftOnce_67 : decode cX2_driftOnce 67 = .ok (.invokevirtual 82, 3) := by decide +kernel
theorem dX2_driftOnce_70 : decode cX2_driftOnce 70 = .ok (.return_, 1) := by decide +kernel
theorem dX2_nextDraw_0 : decode cX2_nextDraw 0 = .ok (.aload_n 0, 1) := by decide +kernel
theorem dX2_nextDraw_1 : decode cX2_nextDraw 1 = .ok (.aload_n 0, 1) := by decide +kernel
theorem dX2_nextDraw_2 : decode cX2_nextDraw 2 = .ok (.getfield 33, 3) := by decide +kernel
theorem dX2_nextDraw_5 : decode cX2_nextDraw 5 = .ok (.i2l, 1) := by decide +kernel
theorem dX2_nextDraw_6 : decode cX2_nextDraw 6 = .ok (.ldc2_w 86, 3) := by decide +kernel
theorem dX2_nextDraw_9 : decode cX2_nextDraw 9 = .ok (.lmul, 1) := by decide +kernel
theorem dX2_nextDraw_10 : decode cX2_nextDraw 10 = .ok (.ldc2_w 88, 3) := by decide +kernel
theorem dX2_nextDraw_13 : decode cX2_nextDraw 13 = .ok (.ladd, 1) := by decide +kernel
theorem dX2_nextDraw_14 : decode cX2_nextDraw 14 = .ok (.ldc2_w 90, 3) := by decide +kernel
theorem dX2_nextDraw_17 : decode cX2_nextDraw 17 = .ok (.land, 1) := by decide +kernel
theorem dX2_nextDraw_18 : decode cX2_nextDraw 18 = .ok (.l2i, 1) := by decide +kernel
theorem dX2_nextDraw_19 : decode cX2_nextDraw 19 = .ok (.putfield 33, 3) := by decide +kernel
theorem dX2_nextDraw_22 : decode cX2_nextDraw 22 = .ok (.iload_n 1, 1) := by decide +kernel
theorem dX2_nextDraw_23 : decode cX2_nextDraw 23 = .ok (.ifCond .le 15, 3) := by decide +kernel
theorem dX2_nextDraw_26 : decode cX2_nextDraw 26 = .ok (.aload_n 0, 1) := by decide +kernel
theorem dX2_nextDraw_27 : decode cX2_nextDraw 27 = .ok (.getfield 33, 3) := by decide +kernel
theorem dX2_nextDraw_30 : decode cX2_nextDraw 30 = .ok (.ldc 92, 2) := by decide +kernel
theorem dX2_nextDraw_32 : decode cX2_nextDraw 32 = .ok (.idiv, 1) := by decide +kernel
theorem dX2_nextDraw_33 : decode cX2_nextDraw 33 = .ok (.iload_n 1, 1) := by decide +kernel
theorem dX2_nextDraw_34 : decode cX2_nextDraw 34 = .ok (.irem, 1) := by decide +kernel
theorem dX2_nextDraw_35 : decode cX2_nextDraw 35 = .ok (.goto 4, 3) := by decide +kernel
theorem dX2_nextDraw_38 : decode cX2_nextDraw 38 = .ok (.iconst 0, 1) := by decide +kernel
theorem dX2_nextDraw_39 : decode cX2_nextDraw 39 = .ok (.ireturn, 1) := by decide +kernel
theorem dX2_isPlace_0 : decode cX2_isPlace 0 = .ok (.iload_n 0, 1) := by decide +kernel
theorem dX2_isPlace_1 : decode cX2_isPlace 1 = .ok (.ifCond .lt 13, 3) := by decide +kernel
theorem dX2_isPlace_4 : decode cX2_isPlace 4 = .ok (.iload_n 0, 1) := by decide +kernel
theorem dX2_isPlace_5 : decode cX2_isPlace 5 = .ok (.bipush 6, 2) := by decide +kernel
theorem dX2_isPlace_7 : decode cX2_isPlace 7 = .ok (.if_icmp .ge 7, 3) := by decide +kernel
theorem dX2_isPlace_10 : decode cX2_isPlace 10 = .ok (.iconst 1, 1) := by decide +kernel
theorem dX2_isPlace_11 : decode cX2_isPlace 11 = .ok (.goto 4, 3) := by decide +kernel
theorem dX2_isPlace_14 : decode cX2_isPlace 14 = .ok (.iconst 0, 1) := by decide +kernel
theorem dX2_isPlace_15 : decode cX2_isPlace 15 = .ok (.ireturn, 1) := by decide +kernel
theorem dX2_grown_0 : decode cX2_grown 0 = .ok (.iload_n 0, 1) := by decide +kernel
theorem dX2_grown_1 : decode cX2_grown 1 = .ok (.i2l, 1) := by decide +kernel
theorem dX2_grown_2 : decode cX2_grown 2 = .ok (.lstore_n 3, 1) := by decide +kernel
theorem dX2_grown_3 : decode cX2_grown 3 = .ok (.iconst 0, 1) := by decide +kernel
theorem dX2_grown_4 : decode cX2_grown 4 = .ok (.istore 5, 2) := by decide +kernel
theorem dX2_grown_6 : decode cX2_grown 6 = .ok (.iload 5, 2) := by decide +kernel
theorem dX2_grown_8 : decode cX2_grown 8 = .ok (.iload_n 2, 1) := by decide +kernel
theorem dX2_grown_9 : decode cX2_grown 9 = .ok (.if_icmp .ge 48, 3) := by decide +kernel
theorem dX2_grown_12 : decode cX2_grown 12 = .ok (.lload_n 3, 1) := by decide +kernel
theorem dX2_grown_13 : decode cX2_grown 13 = .ok (.iload_n 1, 1) := by decide +kernel
theorem dX2_grown_14 : decode cX2_grown 14 = .ok (.i2l, 1) := by decide +kernel
theorem dX2_grown_15 : decode cX2_grown 15 = .ok (.lmul, 1) := by decide +kernel
theorem dX2_grown_16 : decode cX2_grown 16 = .ok (.ldc2_w 93, 3) := by decide +kernel
theorem dX2_grown_19 : decode cX2_grown 19 = .ok (.ldiv, 1) := by decide +kernel
theorem dX2_grown_20 : decode cX2_grown 20 = .ok (.lstore 6, 2) := by decide +kernel
theorem dX2_grown_22 : decode cX2_grown 22 = .ok (.lload 6, 2) := by decide +kernel
theorem dX2_grown_24 : decode cX2_grown 24 = .ok (.lconst 0, 1) := by decide +kernel
theorem dX2_grown_25 : decode cX2_grown 25 = .ok (.lcmp, 1) := by decide +kernel
theorem dX2_grown_26 : decode cX2_grown 26 = .ok (.ifCond .eq 31, 3) := by decide +kernel
theorem dX2_grown_29 : decode cX2_grown 29 = .ok (.lload_n 3, 1) := by decide +kernel
theorem dX2_grown_30 : decode cX2_grown 30 = .ok (.ldc2_w 95, 3) := by decide +kernel
theorem dX2_grown_33 : decode cX2_grown 33 = .ok (.lcmp, 1) := by decide +kernel
theorem dX2_grown_34 : decode cX2_grown 34 = .ok (.ifCond .lt 6, 3) := by decide +kernel
theorem dX2_grown_37 : decode cX2_grown 37 = .ok (.goto 20, 3) := by decide +kernel
theorem dX2_grown_40 : decode cX2_grown 40 = .ok (.ldc2_w 95, 3) := by decide +kernel
theorem dX2_grown_43 : decode cX2_grown 43 = .ok (.lload_n 3, 1) := by decide +kernel
theorem dX2_grown_44 : decode cX2_grown 44 = .ok (.lload 6, 2) := by decide +kernel
theorem dX2_grown_46 : decode cX2_grown 46 = .ok (.ladd, 1) := by decide +kernel
theorem dX2_grown_47 : decode cX2_grown 47 = .ok (.invokestatic 97, 3) := by decide +kernel
theorem dX2_grown_50 : decode cX2_grown 50 = .ok (.lstore_n 3, 1) := by decide +kernel
theorem dX2_grown_51 : decode cX2_grown 51 = .ok (.iinc 5 1, 3) := by decide +kernel
theorem dX2_grown_54 : decode cX2_grown 54 = .ok (.goto (-48), 3) := by decide +kernel
theorem dX2_grown_57 : decode cX2_grown 57 = .ok (.lload_n 3, 1) := by decide +kernel
theorem dX2_grown_58 : decode cX2_grown 58 = .ok (.l2i, 1) := by decide +kernel
theorem dX2_grown_59 : decode cX2_grown 59 = .ok (.ireturn, 1) := by decide +kernel
theorem dX3_init_0 : decode cX3_init 0 = .ok (.aload_n 0, 1) := by decide +kernel
theorem dX3_init_1 : decode cX3_init 1 = .ok (.invokespecial 3, 3) := by decide +kernel
theorem dX3_init_4 : decode cX3_init 4 = .ok (.return_, 1) := by decide +kernel
set_option maxRecDepth 20000 in
theorem ggX3_readAll_X0_clear : GoodIn wsX3_readAll wsX0_clear := goodIn_r _ [13, 14, 15, 16, 17, 18, 19, 20, 166, 167, 168, 169, 170, 171, 172, 173, 174, 175, 176, 177, 178] (by decide +kernel) (by decide +kernel)
set_option maxRecDepth 20000 in
theorem gX3_readAll_X0_clear : GoodIn wsX3_readAll (wsV RX3 30 RX0 yX0_clear wsX0_clear) := goodIn_app (goodIn_of _ (by decide +kernel)) ggX3_readAll_X0_clear
set_option maxRecDepth 20000 in
theorem ggX3_readAll_X3_skipBlanks : GoodIn wsX3_readAll wsX3_skipBlanks := goodIn_r _ [25, 3, 8, 161, 162, 163, 164, 165] (by decide +kernel) (by decide +kernel)
set_option maxRecDepth 20000 in
theorem gX3_readAll_X3_skipBlanks : GoodIn wsX3_readAll (wsV RX3 35 RX3 yX3_skipBlanks wsX3_skipBlanks) := goodIn_app (goodIn_of _ (by decide +kernel)) ggX3_readAll_X3_skipBlanks
set_option maxRecDepth 20000 in
theorem ggX3_readAll_X3_readClause : GoodIn wsX3_readAll wsX3_readClause := goodIn_r _ [29, 3, 1, 30, 31, 32, 33, 24, 34, 8, 35, 36, 37, 38, 39, 40, 41, 42, 43, 44, 45, 46, 47, 48, 49, 50, 51, 52, 53, 54, 55, 56, 57, 58, 59, 60, 61, 62, 63, 64, 65, 66, 67, 68, 69, 70, 71, 72, 73, 74, 75, 76, 77, 78, 79, 80, 81, 82, 83, 84, 85, 86, 87, 88, 89, 90, 91, 92, 93, 2, 94, 95, 96, 97, 98, 99, 100, 101, 102, 103, 104, 105, 106, 107, 108, 109, 110, 111, 21, 22, 23, 25, 112, 113, 114, 12, 115, 15, 116, 117, 118, 119, 14, 120, 121, 122, 123, 124, 125, 126, 127, 128, 129, 130, 131, 132, 133, 134, 135, 136, 137, 138, 139, 140, 141, 142, 143, 144, 16, 145, 146, 147, 148, 17, 149, 150, 151, 152, 153, 154, 18, 19, 155, 156, 157, 158, 20, 159, 160, 161, 162, 163, 164, 165, 166, 167, 168, 169, 170, 171, 172, 173, 174, 175, 176, 177, 178] (by decide +kernel) (by decide +kernel)
set_option maxRecDepth 20000 in
theorem gX3_readAll_X3_readClause : GoodIn wsX3_readAll (wsV RX3 39 RX3 yX3_readClause wsX3_readClause) := goodIn_app (goodIn_of _ (by decide +kernel)) ggX3_readAll_X3_readClause
theorem dX3_readAll_0 : decode cX3_readAll 0 = .ok (.aload_n 0, 1) := by decide +kernel
theorem dX3_readAll_1 : decode cX3_readAll 1 = .ok (.iconst 0, 1) := by decide +kernel
theorem dX3_readAll_2 : decode cX3_readAll 2 = .ok (.putfield 9, 3) := by decide +kernel
theorem dX3_readAll_5 : decode cX3_readAll 5 = .ok (.aload_n 0, 1) := by decide +kernel
theorem dX3_readAll_6 : decode cX3_readAll 6 = .ok (.iconst (-1), 1) := by decide +kernel
theorem dX3_readAll_7 : decode cX3_readAll 7 = .ok (.putfield 15, 3) := by decide +kernel
theorem dX3_readAll_10 : decode cX3_readAll 10 = .ok (.aload_n 0, 1) := by decide +kernel
theorem dX3_readAll_11 : decode cX3_readAll 11 = .ok (.iconst 0, 1) := by decide +kernel
theorem dX3_readAll_12 : decode cX3_readAll 12 = .ok (.putfield 18, 3) := by decide +kernel
theorem dX3_readAll_15 : decode cX3_readAll 15 = .ok (.aload_n 0, 1) := by decide +kernel
theorem dX3_readAll_16 : decode cX3_readAll 16 = .ok (.iload_n 2, 1) := by decide +kernel
theorem dX3_readAll_17 : decode cX3_readAll 17 = .ok (.aload_n 1, 1) := by decide +kernel
theorem dX3_readAll_18 : decode cX3_readAll 18 = .ok (.arraylength, 1) := by decide +kernel
theorem dX3_readAll_19 : decode cX3_readAll 19 = .ok (.invokestatic 21, 3) := by decide +kernel
theorem dX3_readAll_22 : decode cX3_readAll 22 = .ok (.putfield 27, 3) := by decide +kernel
theorem dX3_readAll_25 : decode cX3_readAll 25 = .ok (.aload_n 3, 1) := by decide +kernel
theorem dX3_readAll_26 : decode cX3_readAll 26 = .ok (.invokevirtual 30, 3) := by decide +kernel
theorem dX3_readAll_29 : decode cX3_readAll 29 = .ok (.aload_n 0, 1) := by decide +kernel
theorem dX3_readAll_30 : decode cX3_readAll 30 = .ok (.aload_n 1, 1) := by decide +kernel
theorem dX3_readAll_31 : decode cX3_readAll 31 = .ok (.invokevirtual 35, 3) := by decide +kernel
theorem dX3_readAll_34 : decode cX3_readAll 34 = .ok (.iconst 0, 1) := by decide +kernel
theorem dX3_readAll_35 : decode cX3_readAll 35 = .ok (.istore 4, 2) := by decide +kernel
theorem dX3_readAll_37 : decode cX3_readAll 37 = .ok (.iload 4, 2) := by decide +kernel
theorem dX3_readAll_39 : decode cX3_readAll 39 = .ok (.aload_n 0, 1) := by decide +kernel
theorem dX3_readAll_40 : decode cX3_readAll 40 = .ok (.getfield 27, 3) := by decide +kernel
theorem dX3_readAll_43 : decode cX3_readAll 43 = .ok (.if_icmp .ge 38, 3) := by decide +kernel
theorem dX3_readAll_46 : decode cX3_readAll 46 = .ok (.aload_n 0, 1) := by decide +kernel
theorem dX3_readAll_47 : decode cX3_readAll 47 = .ok (.getfield 18, 3) := by decide +kernel
theorem dX3_readAll_50 : decode cX3_readAll 50 = .ok (.aload_n 0, 1) := by decide +kernel
theorem dX3_readAll_51 : decode cX3_readAll 51 = .ok (.getfield 27, 3) := by decide +kernel
theorem dX3_readAll_54 : decode cX3_readAll 54 = .ok (.if_icmp .ge 27, 3) := by decide +kernel
theorem dX3_readAll_57 : decode cX3_readAll 57 = .ok (.aload_n 0, 1) := by decide +kernel
theorem dX3_readAll_58 : decode cX3_readAll 58 = .ok (.getfield 9, 3) := by decide +kernel
theorem dX3_readAll_61 : decode cX3_readAll 61 = .ok (.ifCond .ne 20, 3) := by decide +kernel
theorem dX3_readAll_64 : decode cX3_readAll 64 = .ok (.aload_n 0, 1) := by decide +kernel
theorem dX3_readAll_65 : decode cX3_readAll 65 = .ok (.aload_n 1, 1) := by decide +kernel
theorem dX3_readAll_66 : decode cX3_readAll 66 = .ok (.aload_n 3, 1) := by decide +kernel
theorem dX3_readAll_67 : decode cX3_readAll 67 = .ok (.invokevirtual 39, 3) := by decide +kernel
theorem dX3_readAll_70 : decode cX3_readAll 70 = .ok (.aload_n 0, 1) := by decide +kernel
theorem dX3_readAll_71 : decode cX3_readAll 71 = .ok (.aload_n 1, 1) := by decide +kernel
theorem dX3_readAll_72 : decode cX3_readAll 72 = .ok (.invokevirtual 35, 3) := by decide +kernel
theorem dX3_readAll_75 : decode cX3_readAll 75 = .ok (.iinc 4 1, 3) := by decide +kernel
theorem dX3_readAll_78 : decode cX3_readAll 78 = .ok (.goto (-41), 3) := by decide +kernel
theorem dX3_readAll_81 : decode cX3_readAll 81 = .ok (.return_, 1) := by decide +kernel
set_option maxRecDepth 20000 in
theorem ggX3_readClause_X3_wordEnd : GoodIn wsX3_readClause wsX3_wordEnd := goodIn_r _ [8, 1, 9, 149, 150, 151, 152, 153] (by decide +kernel) (by decide +kernel)
set_option maxRecDepth 20000 in
theorem gX3_readClause_X3_wordEnd : GoodIn wsX3_readClause (wsV RX3 43 RX3 yX3_wordEnd wsX3_wordEnd) := goodIn_app (goodIn_of _ (by decide +kernel)) ggX3_readClause_X3_wordEnd
set_option maxRecDepth 20000 in
theorem ggX3_readClause_X3_clauseOf : GoodIn wsX3_readClause wsX3_clauseOf := goodIn_r _ [12, 13, 14, 7, 15, 16, 17, 18, 19, 20, 21, 22, 23, 24, 25, 26, 27, 28, 29, 30, 31, 32, 33, 34, 35, 36, 37, 38, 39, 40, 41, 42, 43, 44, 45, 46, 47, 48, 49, 50, 51, 52, 53, 54, 55, 56, 57, 58, 59, 60, 61, 62, 63, 64] (by decide +kernel) (by decide +kernel)
set_option maxRecDepth 20000 in
theorem gX3_readClause_X3_clauseOf : GoodIn wsX3_readClause (va_wsS RX3 47 yX3_clauseOf wsX3_clauseOf) := goodIn_app (goodIn_of _ (by decide +kernel)) ggX3_readClause_X3_clauseOf
set_option maxRecDepth 20000 in
theorem ggX3_readClause_X3_setFault : GoodIn wsX3_readClause wsX3_setFault := goodIn_r _ [68, 2, 69, 149, 150, 151, 152, 153] (by decide +kernel) (by decide +kernel)
set_option maxRecDepth 20000 in
theorem gX3_readClause_X3_setFault : GoodIn wsX3_readClause (wsV RX3 51 RX3 yX3_setFault wsX3_setFault) := goodIn_app (goodIn_of _ (by decide +kernel)) ggX3_readClause_X3_setFault
set_option maxRecDepth 20000 in
theorem ggX3_readClause_X3_isFull : GoodIn wsX3_readClause wsX3_isFull := goodIn_r _ [72, 73, 74, 75, 76, 77, 154, 155, 156, 157, 158, 159, 160, 161, 162, 163, 164, 165, 166] (by decide +kernel) (by decide +kernel)
set_option maxRecDepth 20000 in
theorem gX3_readClause_X3_isFull : GoodIn wsX3_readClause (va_wsS RX3 55 yX3_isFull wsX3_isFull) := goodIn_app (goodIn_of _ (by decide +kernel)) ggX3_readClause_X3_isFull
set_option maxRecDepth 20000 in
theorem ggX3_readClause_X3_lowest : GoodIn wsX3_readClause wsX3_lowest := goodIn_r _ [80] (by decide +kernel) (by decide +kernel)
set_option maxRecDepth 20000 in
theorem gX3_readClause_X3_lowest : GoodIn wsX3_readClause (va_wsS RX3 59 yX3_lowest wsX3_lowest) := goodIn_app (goodIn_of _ (by decide +kernel)) ggX3_readClause_X3_lowest
set_option maxRecDepth 20000 in
theorem ggX3_readClause_X3_highest : GoodIn wsX3_readClause wsX3_highest := goodIn_r _ [83, 73, 154, 155, 156, 157, 158, 159, 160, 161, 162, 163, 164, 165, 166] (by decide +kernel) (by decide +kernel)
set_option maxRecDepth 20000 in
theorem gX3_readClause_X3_highest : GoodIn wsX3_readClause (va_wsS RX3 63 yX3_highest wsX3_highest) := goodIn_app (goodIn_of _ (by decide +kernel)) ggX3_readClause_X3_highest
set_option maxRecDepth 20000 in
theorem ggX3_readClause_X3_readNumber : GoodIn wsX3_readClause wsX3_readNumber := goodIn_r _ [87, 1, 3, 9, 88, 89, 90, 7, 91, 65, 66, 67, 68, 2, 69, 149, 150, 151, 152, 153] (by decide +kernel) (by decide +kernel)
set_option maxRecDepth 20000 in
theorem gX3_readClause_X3_readNumber : GoodIn wsX3_readClause (wsV RX3 67 RX3 yX3_readNumber wsX3_readNumber) := goodIn_app (goodIn_of _ (by decide +kernel)) ggX3_readClause_X3_readNumber
set_option maxRecDepth 20000 in
theorem ggX3_readClause_X0_hasMouth : GoodIn wsX3_readClause wsX0_hasMouth := goodIn_r _ [96, 97, 98, 99, 100, 95, 101, 102, 154, 155, 156, 157, 158, 159, 160, 161, 162, 163, 164, 165, 166] (by decide +kernel) (by decide +kernel)
set_option maxRecDepth 20000 in
theorem gX3_readClause_X0_hasMouth : GoodIn wsX3_readClause (wsV RX3 70 RX0 yX0_hasMouth wsX0_hasMouth) := goodIn_app (goodIn_of _ (by decide +kernel)) ggX3_readClause_X0_hasMouth
set_option maxRecDepth 20000 in
theorem ggX3_readClause_X0_hasWay : GoodIn wsX3_readClause wsX0_hasWay := goodIn_r _ [106, 107, 98, 99, 100, 95, 101, 102, 154, 155, 156, 157, 158, 159, 160, 161, 162, 163, 164, 165, 166] (by decide +kernel) (by decide +kernel)
set_option maxRecDepth 20000 in
theorem gX3_readClause_X0_hasWay : GoodIn wsX3_readClause (wsV RX3 77 RX0 yX0_hasWay wsX0_hasWay) := goodIn_app (goodIn_of _ (by decide +kernel)) ggX3_readClause_X0_hasWay
set_option maxRecDepth 20000 in
theorem ggX3_readClause_X3_readEnd : GoodIn wsX3_readClause wsX3_readEnd := goodIn_r _ [111, 1, 9, 88, 89, 90, 7, 91, 65, 66, 67, 68, 2, 69, 149, 150, 151, 152, 153] (by decide +kernel) (by decide +kernel)
set_option maxRecDepth 20000 in
theorem gX3_readClause_X3_readEnd : GoodIn wsX3_readClause (wsV RX3 81 RX3 yX3_readEnd wsX3_readEnd) := goodIn_app (goodIn_of _ (by decide +kernel)) ggX3_readClause_X3_readEnd
set_option maxRecDepth 20000 in
theorem ggX3_readClause_X3_addClause : GoodIn wsX3_readClause wsX3_addClause := goodIn_r _ [114, 115, 116, 117, 95, 118, 102, 119, 107, 120, 121, 122, 123, 97, 98, 99, 100, 101, 124, 125, 126, 127, 128, 129, 130, 131, 132, 133, 134, 135, 136, 137, 138, 139, 140, 141, 142, 143, 144, 145, 146, 147, 148, 154, 155, 156, 157, 158, 159, 160, 161, 162, 163, 164, 165, 166] (by decide +kernel) (by decide +kernel)
set_option maxRecDepth 20000 in
theorem gX3_readClause_X3_addClause : GoodIn wsX3_readClause (va_wsS RX3 84 yX3_addClause wsX3_addClause) := goodIn_app (goodIn_of _ (by decide +kernel)) ggX3_readClause_X3_addClause
theorem dX3_readClause_0 : decode cX3_readClause 0 = .ok (.aload_n 0, 1) := by decide +kernel
theorem dX3_readClause_1 : decode cX3_readClause 1 = .ok (.aload_n 1, 1) := by decide +kernel
theorem dX3_readClause_2 : decode cX3_readClause 2 = .ok (.invokevirtual 43, 3) := by decide +kernel
theorem dX3_readClause_5 : decode cX3_readClause 5 = .ok (.istore_n 3, 1) := by decide +kernel
theorem dX3_readClause_6 : decode cX3_readClause 6 = .ok (.aload_n 1, 1) := by decide +kernel
theorem dX3_readClause_7 : decode cX3_readClause 7 = .ok (.aload_n 0, 1) := by decide +kernel
theorem dX3_readClause_8 : decode cX3_readClause 8 = .ok (.getfield 18, 3) := by decide +kernel
theorem dX3_readClause_11 : decode cX3_readClause 11 = .ok (.iload_n 3, 1) := by decide +kernel
theorem dX3_readClause_12 : decode cX3_readClause 12 = .ok (.invokestatic 47, 3) := by decide +kernel
theorem dX3_readClause_15 : decode cX3_readClause 15 = .ok (.istore 4, 2) := by decide +kernel
theorem dX3_readClause_17 : decode cX3_readClause 17 = .ok (.iload 4, 2) := by decide +kernel
theorem dX3_readClause_19 : decode cX3_readClause 19 = .ok (.ifCond .ne 13, 3) := by decide +kernel
theorem dX3_readClause_22 : decode cX3_readClause 22 = .ok (.aload_n 0, 1) := by decide +kernel
theorem dX3_readClause_23 : decode cX3_readClause 23 = .ok (.iconst 1, 1) := by decide +kernel
theorem dX3_readClause_24 : decode cX3_readClause 24 = .ok (.aload_n 0, 1) := by decide +kernel
theorem dX3_readClause_25 : decode cX3_readClause 25 = .ok (.getfield 18, 3) := by decide +kernel
theorem dX3_readClause_28 : decode cX3_readClause 28 = .ok (.invokevirtual 51, 3) := by decide +kernel
theorem dX3_readClause_31 : decode cX3_readClause 31 = .ok (.return_, 1) := by decide +kernel
theorem dX3_readClause_32 : decode cX3_readClause 32 = .ok (.iload 4, 2) := by decide +kernel
theorem dX3_readClause_34 : decode cX3_readClause 34 = .ok (.aload_n 2, 1) := by decide +kernel
theorem dX3_readClause_35 : decode cX3_readClause 35 = .ok (.invokestatic 55, 3) := by decide +kernel
theorem dX3_readClause_38 : decode cX3_readClause 38 = .ok (.ifCond .eq 13, 3) := by decide +kernel
theorem dX3_readClause_41 : decode cX3_readClause 41 = .ok (.aload_n 0, 1) := by decide +kernel
theorem dX3_readClause_42 : decode cX3_readClause 42 = .ok (.iconst 3, 1) := by decide +kernel
theorem dX3_readClause_43 : decode cX3_readClause 43 = .ok (.aload_n 0, 1) := by decide +kernel
theorem dX3_readClause_44 : decode cX3_readClause 44 = .ok (.getfield 18, 3) := by decide +kernel
theorem dX3_readClause_47 : decode cX3_readClause 47 = .ok (.invokevirtual 51, 3) := by decide +kernel
theorem dX3_readClause_50 : decode cX3_readClause 50 = .ok (.return_, 1) := by decide +kernel
theorem dX3_readClause_51 : decode cX3_readClause 51 = .ok (.aload_n 0, 1) := by decide +kernel
theorem dX3_readClause_52 : decode cX3_readClause 52 = .ok (.iload_n 3, 1) := by decide +kernel
theorem dX3_readClause_53 : decode cX3_readClause 53 = .ok (.putfield 18, 3) := by decide +kernel
theorem dX3_readClause_56 : decode cX3_readClause 56 = .ok (.aload_n 0, 1) := by decide +kernel
theorem dX3_readClause_57 : decode cX3_readClause 57 = .ok (.aload_n 1, 1) := by decide +kernel
theorem dX3_readClause_58 : decode cX3_readClause 58 = .ok (.iload 4, 2) := by decide +kernel
theorem dX3_readClause_60 : decode cX3_readClause 60 = .ok (.iconst 0, 1) := by decide +kernel
theorem dX3_readClause_61 : decode cX3_readClause 61 = .ok (.invokestatic 59, 3) := by decide +kernel
theorem dX3_readClause_64 : decode cX3_readClause 64 = .ok (.iload 4, 2) := by decide +kernel
theorem dX3_readClause_66 : decode cX3_readClause 66 = .ok (.iconst 0, 1) := by decide +kernel
theorem dX3_readClause_67 : decode cX3_readClause 67 = .ok (.aload_n 2, 1) := by decide +kernel
theorem dX3_readClause_68 : decode cX3_readClause 68 = .ok (.invokestatic 63, 3) := by decide +kernel
theorem dX3_readClause_71 : decode cX3_readClause 71 = .ok (.invokevirtual 67, 3) := by decide +kernel
theorem dX3_readClause_74 : decode cX3_readClause 74 = .ok (.istore 5, 2) := by decide +kernel
theorem dX3_readClause_76 : decode cX3_readClause 76 = .ok (.aload_n 0, 1) := by decide +kernel
theorem dX3_readClause_77 : decode cX3_readClause 77 = .ok (.getfield 9, 3) := by decide +kernel
theorem dX3_readClause_80 : decode cX3_readClause 80 = .ok (.ifCond .ne 27, 3) := by decide +kernel
theorem dX3_readClause_83 : decode cX3_readClause 83 = .ok (.iload 4, 2) := by decide +kernel
theorem dX3_readClause_85 : decode cX3_readClause 85 = .ok (.iconst 2, 1) := by decide +kernel
theorem dX3_readClause_86 : decode cX3_readClause 86 = .ok (.if_icmp .ne 21, 3) := by decide +kernel
theorem dX3_readClause_89 : decode cX3_readClause 89 = .ok (.aload_n 2, 1) := by decide +kernel
theorem dX3_readClause_90 : decode cX3_readClause 90 = .ok (.iload 5, 2) := by decide +kernel
theorem dX3_readClause_92 : decode cX3_readClause 92 = .ok (.invokevirtual 70, 3) := by decide +kernel
theorem dX3_readClause_95 : decode cX3_readClause 95 = .ok (.ifCond .eq 12, 3) := by decide +kernel
theorem dX3_readClause_98 : decode cX3_readClause 98 = .ok (.aload_n 0, 1) := by decide +kernel
theorem dX3_readClause_99 : decode cX3_readClause 99 = .ok (.iconst 4, 1) := by decide +kernel
theorem dX3_readClause_100 : decode cX3_readClause 100 = .ok (.aload_n 0, 1) := by decide +kernel
theorem dX3_readClause_101 : decode cX3_readClause 101 = .ok (.getfield 74, 3) := by decide +kernel
theorem dX3_readClause_104 : decode cX3_readClause 104 = .ok (.invokevirtual 51, 3) := by decide +kernel
theorem dX3_readClause_107 : decode cX3_readClause 107 = .ok (.iconst 0, 1) := by decide +kernel
theorem dX3_readClause_108 : decode cX3_readClause 108 = .ok (.istore 6, 2) := by decide +kernel
theorem dX3_readClause_110 : decode cX3_readClause 110 = .ok (.aload_n 0, 1) := by decide +kernel
theorem dX3_readClause_111 : decode cX3_readClause 111 = .ok (.getfield 9, 3) := by decide +kernel
theorem dX3_readClause_114 : decode cX3_readClause 114 = .ok (.ifCond .ne 35, 3) := by decide +kernel
theorem dX3_readClause_117 : decode cX3_readClause 117 = .ok (.iload 4, 2) := by decide +kernel
theorem dX3_readClause_119 : decode cX3_readClause 119 = .ok (.iconst 2, 1) := by decide +kernel
theorem dX3_readClause_120 : decode cX3_readClause 120 = .ok (.if_icmp .eq 29, 3) := by decide +kernel
theorem dX3_readClause_123 : decode cX3_readClause 123 = .ok (.iload 4, 2) := by decide +kernel
theorem dX3_readClause_125 : decode cX3_readClause 125 = .ok (.iconst 5, 1) := by decide +kernel
theorem dX3_readClause_126 : decode cX3_readClause 126 = .ok (.if_icmp .eq 23, 3) := by decide +kernel
theorem dX3_readClause_129 : decode cX3_readClause 129 = .ok (.aload_n 0, 1) := by decide +kernel
theorem dX3_readClause_130 : decode cX3_readClause 130 = .ok (.aload_n 1, 1) := by decide +kernel
theorem dX3_readClause_131 : decode cX3_readClause 131 = .ok (.iload 4, 2) := by decide +kernel
theorem dX3_readClause_133 : decode cX3_readClause 133 = .ok (.iconst 1, 1) := by decide +kernel
theorem dX3_readClause_134 : decode cX3_readClause 134 = .ok (.invokestatic 59, 3) := by decide +kernel
theorem dX3_readClause_137 : decode cX3_readClause 137 = .ok (.iload 4, 2) := by decide +kernel
theorem dX3_readClause_139 : decode cX3_readClause 139 = .ok (.iconst 1, 1) := by decide +kernel
theorem dX3_readClause_140 : decode cX3_readClause 140 = .ok (.aload_n 2, 1) := by decide +kernel
theorem dX3_readClause_141 : decode cX3_readClause 141 = .ok (.invokestatic 63, 3) := by decide +kernel
theorem dX3_readClause_144 : decode cX3_readClause 144 = .ok (.invokevirtual 67, 3) := by decide +kernel
theorem dX3_readClause_147 : decode cX3_readClause 147 = .ok (.istore 6, 2) := by decide +kernel
theorem dX3_readClause_149 : decode cX3_readClause 149 = .ok (.aload_n 0, 1) := by decide +kernel
theorem dX3_readClause_150 : decode cX3_readClause 150 = .ok (.getfield 9, 3) := by decide +kernel
theorem dX3_readClause_153 : decode cX3_readClause 153 = .ok (.ifCond .ne 36, 3) := by decide +kernel
theorem dX3_readClause_156 : decode cX3_readClause 156 = .ok (.iload 4, 2) := by decide +kernel
theorem dX3_readClause_158 : decode cX3_readClause 158 = .ok (.iconst 3, 1) := by decide +kernel
theorem dX3_readClause_159 : decode cX3_readClause 159 = .ok (.if_icmp .ne 30, 3) := by decide +kernel
theorem dX3_readClause_162 : decode cX3_readClause 162 = .ok (.iload 5, 2) := by decide +kernel
theorem dX3_readClause_164 : decode cX3_readClause 164 = .ok (.iload 6, 2) := by decide +kernel
theorem dX3_readClause_166 : decode cX3_readClause 166 = .ok (.if_icmp .eq 14, 3) := by decide +kernel
theorem dX3_readClause_169 : decode cX3_readClause 169 = .ok (.aload_n 2, 1) := by decide +kernel
theorem dX3_readClause_170 : decode cX3_readClause 170 = .ok (.iload 5, 2) := by decide +kernel
theorem dX3_readClause_172 : decode cX3_readClause 172 = .ok (.iload 6, 2) := by decide +kernel
theorem dX3_readClause_174 : decode cX3_readClause 174 = .ok (.invokevirtual 77, 3) := by decide +kernel
theorem dX3_readClause_177 : decode cX3_readClause 177 = .ok (.ifCond .eq 12, 3) := by decide +kernel
theorem dX3_readClause_180 : decode cX3_readClause 180 = .ok (.aload_n 0, 1) := by decide +kernel
theorem dX3_readClause_181 : decode cX3_readClause 181 = .ok (.iconst 4, 1) := by decide +kernel
theorem dX3_readClause_182 : decode cX3_readClause 182 = .ok (.aload_n 0, 1) := by decide +kernel
theorem dX3_readClause_183 : decode cX3_readClause 183 = .ok (.getfield 74, 3) := by decide +kernel
theorem dX3_readClause_186 : decode cX3_readClause 186 = .ok (.invokevirtual 51, 3) := by decide +kernel
theorem dX3_readClause_189 : decode cX3_readClause 189 = .ok (.aload_n 0, 1) := by decide +kernel
theorem dX3_readClause_190 : decode cX3_readClause 190 = .ok (.getfield 9, 3) := by decide +kernel
theorem dX3_readClause_193 : decode cX3_readClause 193 = .ok (.ifCond .ne 8, 3) := by decide +kernel
theorem dX3_readClause_196 : decode cX3_readClause 196 = .ok (.aload_n 0, 1) := by decide +kernel
theorem dX3_readClause_197 : decode cX3_readClause 197 = .ok (.aload_n 1, 1) := by decide +kernel
theorem dX3_readClause_198 : decode cX3_readClause 198 = .ok (.invokevirtual 81, 3) := by decide +kernel
theorem dX3_readClause_201 : decode cX3_readClause 201 = .ok (.aload_n 0, 1) := by decide +kernel
theorem dX3_readClause_202 : decode cX3_readClause 202 = .ok (.getfield 9, 3) := by decide +kernel
theorem dX3_readClause_205 : decode cX3_readClause 205 = .ok (.ifCond .ne 13, 3) := by decide +kernel
theorem dX3_readClause_208 : decode cX3_readClause 208 = .ok (.iload 4, 2) := by decide +kernel
theorem dX3_readClause_210 : decode cX3_readClause 210 = .ok (.iload 5, 2) := by decide +kernel
theorem dX3_readClause_212 : decode cX3_readClause 212 = .ok (.iload 6, 2) := by decide +kernel
theorem dX3_readClause_214 : decode cX3_readClause 214 = .ok (.aload_n 2, 1) := by decide +kernel
theorem dX3_readClause_215 : decode cX3_readClause 215 = .ok (.invokestatic 84, 3) := by decide +kernel
theorem dX3_readClause_218 : decode cX3_readClause 218 = .ok (.return_, 1) := by decide +kernel
set_option maxRecDepth 20000 in
theorem ggX3_readNumber_X3_skipBlanks : GoodIn wsX3_readNumber wsX3_skipBlanks := goodIn_r _ [8, 1, 3, 15, 16, 17, 18, 19] (by decide +kernel) (by decide +kernel)
set_option maxRecDepth 20000 in
theorem gX3_readNumber_X3_skipBlanks : GoodIn wsX3_readNumber (wsV RX3 35 RX3 yX3_skipBlanks wsX3_skipBlanks) := goodIn_app (goodIn_of _ (by decide +kernel)) ggX3_readNumber_X3_skipBlanks
set_option maxRecDepth 20000 in
theorem ggX3_readNumber_X3_setFault : GoodIn wsX3_readNumber wsX3_setFault := goodIn_r _ [12, 13, 14, 15, 16, 17, 18, 19] (by decide +kernel) (by decide +kernel)
set_option maxRecDepth 20000 in
theorem gX3_readNumber_X3_setFault : GoodIn wsX3_readNumber (wsV RX3 51 RX3 yX3_setFault wsX3_setFault) := goodIn_app (goodIn_of _ (by decide +kernel)) ggX3_readNumber_X3_setFault
theorem dX3_readNumber_0 : decode cX3_readNumber 0 = .ok (.aload_n 0, 1) := by decide +kernel
theorem dX3_readNumber_1 : decode cX3_readNumber 1 = .ok (.aload_n 1, 1) := by decide +kernel
theorem dX3_readNumber_2 : decode cX3_readNumber 2 = .ok (.invokevirtual 35, 3) := by decide +kernel
theorem dX3_readNumber_5 : decode cX3_readNumber 5 = .ok (.aload_n 0, 1) := by decide +kernel
theorem dX3_readNumber_6 : decode cX3_readNumber 6 = .ok (.aload_n 0, 1) := by decide +kernel
theorem dX3_readNumber_7 : decode cX3_readNumber 7 = .ok (.getfield 18, 3) := by decide +kernel
theorem dX3_readNumber_10 : decode cX3_readNumber 10 = .ok (.putfield 74, 3) := by decide +kernel
theorem dX3_readNumber_13 : decode cX3_readNumber 13 = .ok (.iconst 0, 1) := by decide +kernel
theorem dX3_readNumber_14 : decode cX3_readNumber 14 = .ok (.istore 4, 2) := by decide +kernel
theorem dX3_readNumber_16 : decode cX3_readNumber 16 = .ok (.aload_n 0, 1) := by decide +kernel
theorem dX3_readNumber_17 : decode cX3_readNumber 17 = .ok (.getfield 18, 3) := by decide +kernel
theorem dX3_readNumber_20 : decode cX3_readNumber 20 = .ok (.istore 5, 2) := by decide +kernel
theorem dX3_readNumber_22 : decode cX3_readNumber 22 = .ok (.iload 5, 2) := by decide +kernel
theorem dX3_readNumber_24 : decode cX3_readNumber 24 = .ok (.aload_n 0, 1) := by decide +kernel
theorem dX3_readNumber_25 : decode cX3_readNumber 25 = .ok (.getfield 27, 3) := by decide +kernel
theorem dX3_readNumber_28 : decode cX3_readNumber 28 = .ok (.if_icmp .ge 77, 3) := by decide +kernel
theorem dX3_readNumber_31 : decode cX3_readNumber 31 = .ok (.iload 5, 2) := by decide +kernel
theorem dX3_readNumber_33 : decode cX3_readNumber 33 = .ok (.ifCond .lt 72, 3) := by decide +kernel
theorem dX3_readNumber_36 : decode cX3_readNumber 36 = .ok (.iload 5, 2) := by decide +kernel
theorem dX3_readNumber_38 : decode cX3_readNumber 38 = .ok (.aload_n 1, 1) := by decide +kernel
theorem dX3_readNumber_39 : decode cX3_readNumber 39 = .ok (.arraylength, 1) := by decide +kernel
theorem dX3_readNumber_40 : decode cX3_readNumber 40 = .ok (.if_icmp .ge 65, 3) := by decide +kernel
theorem dX3_readNumber_43 : decode cX3_readNumber 43 = .ok (.aload_n 1, 1) := by decide +kernel
theorem dX3_readNumber_44 : decode cX3_readNumber 44 = .ok (.iload 5, 2) := by decide +kernel
theorem dX3_readNumber_46 : decode cX3_readNumber 46 = .ok (.caload, 1) := by decide +kernel
theorem dX3_readNumber_47 : decode cX3_readNumber 47 = .ok (.bipush 48, 2) := by decide +kernel
theorem dX3_readNumber_49 : decode cX3_readNumber 49 = .ok (.if_icmp .lt 56, 3) := by decide +kernel
theorem dX3_readNumber_52 : decode cX3_readNumber 52 = .ok (.aload_n 1, 1) := by decide +kernel
theorem dX3_readNumber_53 : decode cX3_readNumber 53 = .ok (.iload 5, 2) := by decide +kernel
theorem dX3_readNumber_55 : decode cX3_readNumber 55 = .ok (.caload, 1) := by decide +kernel
theorem dX3_readNumber_56 : decode cX3_readNumber 56 = .ok (.bipush 57, 2) := by decide +kernel
theorem dX3_readNumber_58 : decode cX3_readNumber 58 = .ok (.if_icmp .gt 47, 3) := by decide +kernel
theorem dX3_readNumber_61 : decode cX3_readNumber 61 = .ok (.aload_n 0, 1) := by decide +kernel
theorem dX3_readNumber_62 : decode cX3_readNumber 62 = .ok (.getfield 18, 3) := by decide +kernel
theorem dX3_readNumber_65 : decode cX3_readNumber 65 = .ok (.aload_n 0, 1) := by decide +kernel
theorem dX3_readNumber_66 : decode cX3_readNumber 66 = .ok (.getfield 74, 3) := by decide +kernel
theorem dX3_readNumber_69 : decode cX3_readNumber 69 = .ok (.isub, 1) := by decide +kernel
theorem dX3_readNumber_70 : decode cX3_readNumber 70 = .ok (.iconst 4, 1) := by decide +kernel
theorem dX3_readNumber_71 : decode cX3_readNumber 71 = .ok (.if_icmp .ge 18, 3) := by decide +kernel
theorem dX3_readNumber_74 : decode cX3_readNumber 74 = .ok (.bipush 10, 2) := by decide +kernel
theorem dX3_readNumber_76 : decode cX3_readNumber 76 = .ok (.iload 4, 2) := by decide +kernel
theorem dX3_readNumber_78 : decode cX3_readNumber 78 = .ok (.imul, 1) := by decide +kernel
theorem dX3_readNumber_79 : decode cX3_readNumber 79 = .ok (.aload_n 1, 1) := by decide +kernel
theorem dX3_readNumber_80 : decode cX3_readNumber 80 = .ok (.iload 5, 2) := by decide +kernel
theorem dX3_readNumber_82 : decode cX3_readNumber 82 = .ok (.caload, 1) := by decide +kernel
theorem dX3_readNumber_83 : decode cX3_readNumber 83 = .ok (.bipush 48, 2) := by decide +kernel
theorem dX3_readNumber_85 : decode cX3_readNumber 85 = .ok (.isub, 1) := by decide +kernel
theorem dX3_readNumber_86 : decode cX3_readNumber 86 = .ok (.iadd, 1) := by decide +kernel
theorem dX3_readNumber_87 : decode cX3_readNumber 87 = .ok (.istore 4, 2) := by decide +kernel
theorem dX3_readNumber_89 : decode cX3_readNumber 89 = .ok (.aload_n 0, 1) := by decide +kernel
theorem dX3_readNumber_90 : decode cX3_readNumber 90 = .ok (.dup, 1) := by decide +kernel
theorem dX3_readNumber_91 : decode cX3_readNumber 91 = .ok (.getfield 18, 3) := by decide +kernel
theorem dX3_readNumber_94 : decode cX3_readNumber 94 = .ok (.iconst 1, 1) := by decide +kernel
theorem dX3_readNumber_95 : decode cX3_readNumber 95 = .ok (.iadd, 1) := by decide +kernel
theorem dX3_readNumber_96 : decode cX3_readNumber 96 = .ok (.putfield 18, 3) := by decide +kernel
theorem dX3_readNumber_99 : decode cX3_readNumber 99 = .ok (.iinc 5 1, 3) := by decide +kernel
theorem dX3_readNumber_102 : decode cX3_readNumber 102 = .ok (.goto (-80), 3) := by decide +kernel
theorem dX3_readNumber_105 : decode cX3_readNumber 105 = .ok (.aload_n 0, 1) := by decide +kernel
theorem dX3_readNumber_106 : decode cX3_readNumber 106 = .ok (.getfield 18, 3) := by decide +kernel
theorem dX3_readNumber_109 : decode cX3_readNumber 109 = .ok (.aload_n 0, 1) := by decide +kernel
theorem dX3_readNumber_110 : decode cX3_readNumber 110 = .ok (.getfield 74, 3) := by decide +kernel
theorem dX3_readNumber_113 : decode cX3_readNumber 113 = .ok (.if_icmp .ne 15, 3) := by decide +kernel
theorem dX3_readNumber_116 : decode cX3_readNumber 116 = .ok (.aload_n 0, 1) := by decide +kernel
theorem dX3_readNumber_117 : decode cX3_readNumber 117 = .ok (.iconst 1, 1) := by decide +kernel
theorem dX3_readNumber_118 : decode cX3_readNumber 118 = .ok (.aload_n 0, 1) := by decide +kernel
theorem dX3_readNumber_119 : decode cX3_readNumber 119 = .ok (.getfield 74, 3) := by decide +kernel
theorem dX3_readNumber_122 : decode cX3_readNumber 122 = .ok (.invokevirtual 51, 3) := by decide +kernel
theorem dX3_readNumber_125 : decode cX3_readNumber 125 = .ok (.goto 37, 3) := by decide +kernel
theorem dX3_readNumber_128 : decode cX3_readNumber 128 = .ok (.aload_n 0, 1) := by decide +kernel
theorem dX3_readNumber_129 : decode cX3_readNumber 129 = .ok (.getfield 18, 3) := by decide +kernel
theorem dX3_readNumber_132 : decode cX3_readNumber 132 = .ok (.aload_n 0, 1) := by decide +kernel
theorem dX3_readNumber_133 : decode cX3_readNumber 133 = .ok (.getfield 74, 3) := by decide +kernel
theorem dX3_readNumber_136 : decode cX3_readNumber 136 = .ok (.isub, 1) := by decide +kernel
theorem dX3_readNumber_137 : decode cX3_readNumber 137 = .ok (.iconst 3, 1) := by decide +kernel
theorem dX3_readNumber_138 : decode cX3_readNumber 138 = .ok (.if_icmp .gt 15, 3) := by decide +kernel
theorem dX3_readNumber_141 : decode cX3_readNumber 141 = .ok (.iload 4, 2) := by decide +kernel
theorem dX3_readNumber_143 : decode cX3_readNumber 143 = .ok (.iload_n 2, 1) := by decide +kernel
theorem dX3_readNumber_144 : decode cX3_readNumber 144 = .ok (.if_icmp .lt 9, 3) := by decide +kernel
theorem dX3_readNumber_147 : decode cX3_readNumber 147 = .ok (.iload 4, 2) := by decide +kernel
theorem dX3_readNumber_149 : decode cX3_readNumber 149 = .ok (.iload_n 3, 1) := by decide +kernel
theorem dX3_readNumber_150 : decode cX3_readNumber 150 = .ok (.if_icmp .le 12, 3) := by decide +kernel
theorem dX3_readNumber_153 : decode cX3_readNumber 153 = .ok (.aload_n 0, 1) := by decide +kernel
theorem dX3_readNumber_154 : decode cX3_readNumber 154 = .ok (.iconst 2, 1) := by decide +kernel
theorem dX3_readNumber_155 : decode cX3_readNumber 155 = .ok (.aload_n 0, 1) := by decide +kernel
theorem dX3_readNumber_156 : decode cX3_readNumber 156 = .ok (.getfield 74, 3) := by decide +kernel
theorem dX3_readNumber_159 : decode cX3_readNumber 159 = .ok (.invokevirtual 51, 3) := by decide +kernel
theorem dX3_readNumber_162 : decode cX3_readNumber 162 = .ok (.iload 4, 2) := by decide +kernel
theorem dX3_readNumber_164 : decode cX3_readNumber 164 = .ok (.ireturn, 1) := by decide +kernel
set_option maxRecDepth 20000 in
theorem ggX3_readEnd_X3_skipBlanks : GoodIn wsX3_readEnd wsX3_skipBlanks := goodIn_r _ [7, 1, 2, 14, 15, 16, 17, 18] (by decide +kernel) (by decide +kernel)
set_option maxRecDepth 20000 in
theorem gX3_readEnd_X3_skipBlanks : GoodIn wsX3_readEnd (wsV RX3 35 RX3 yX3_skipBlanks wsX3_skipBlanks) := goodIn_app (goodIn_of _ (by decide +kernel)) ggX3_readEnd_X3_skipBlanks
set_option maxRecDepth 20000 in
theorem ggX3_readEnd_X3_setFault : GoodIn wsX3_readEnd wsX3_setFault := goodIn_r _ [11, 12, 13, 14, 15, 16, 17, 18] (by decide +kernel) (by decide +kernel)
set_option maxRecDepth 20000 in
theorem gX3_readEnd_X3_setFault : GoodIn wsX3_readEnd (wsV RX3 51 RX3 yX3_setFault wsX3_setFault) := goodIn_app (goodIn_of _ (by decide +kernel)) ggX3_readEnd_X3_setFault
theorem dX3_readEnd_0 : decode cX3_readEnd 0 = .ok (.aload_n 0, 1) := by decide +kernel
theorem dX3_readEnd_1 : decode cX3_readEnd 1 = .ok (.aload_n 1, 1) := by decide +kernel
theorem dX3_readEnd_2 : decode cX3_readEnd 2 = .ok (.invokevirtual 35, 3) := by decide +kernel
theorem dX3_readEnd_5 : decode cX3_readEnd 5 = .ok (.aload_n 0, 1) := by decide +kernel
theorem dX3_readEnd_6 : decode cX3_readEnd 6 = .ok (.getfield 18, 3) := by decide +kernel
theorem dX3_readEnd_9 : decode cX3_readEnd 9 = .ok (.ifCond .lt 47, 3) := by decide +kernel
theorem dX3_readEnd_12 : decode cX3_readEnd 12 = .ok (.aload_n 0, 1) := by decide +kernel
theorem dX3_readEnd_13 : decode cX3_readEnd 13 = .ok (.getfield 18, 3) := by decide +kernel
theorem dX3_readEnd_16 : decode cX3_readEnd 16 = .ok (.aload_n 0, 1) := by decide +kernel
theorem dX3_readEnd_17 : decode cX3_readEnd 17 = .ok (.getfield 27, 3) := by decide +kernel
theorem dX3_readEnd_20 : decode cX3_readEnd 20 = .ok (.if_icmp .ge 36, 3) := by decide +kernel
theorem dX3_readEnd_23 : decode cX3_readEnd 23 = .ok (.aload_n 0, 1) := by decide +kernel
theorem dX3_readEnd_24 : decode cX3_readEnd 24 = .ok (.getfield 18, 3) := by decide +kernel
theorem dX3_readEnd_27 : decode cX3_readEnd 27 = .ok (.aload_n 1, 1) := by decide +kernel
theorem dX3_readEnd_28 : decode cX3_readEnd 28 = .ok (.arraylength, 1) := by decide +kernel
theorem dX3_readEnd_29 : decode cX3_readEnd 29 = .ok (.if_icmp .ge 27, 3) := by decide +kernel
theorem dX3_readEnd_32 : decode cX3_readEnd 32 = .ok (.aload_n 1, 1) := by decide +kernel
theorem dX3_readEnd_33 : decode cX3_readEnd 33 = .ok (.aload_n 0, 1) := by decide +kernel
theorem dX3_readEnd_34 : decode cX3_readEnd 34 = .ok (.getfield 18, 3) := by decide +kernel
theorem dX3_readEnd_37 : decode cX3_readEnd 37 = .ok (.caload, 1) := by decide +kernel
theorem dX3_readEnd_38 : decode cX3_readEnd 38 = .ok (.bipush 59, 2) := by decide +kernel
theorem dX3_readEnd_40 : decode cX3_readEnd 40 = .ok (.if_icmp .ne 16, 3) := by decide +kernel
theorem dX3_readEnd_43 : decode cX3_readEnd 43 = .ok (.aload_n 0, 1) := by decide +kernel
theorem dX3_readEnd_44 : decode cX3_readEnd 44 = .ok (.dup, 1) := by decide +kernel
theorem dX3_readEnd_45 : decode cX3_readEnd 45 = .ok (.getfield 18, 3) := by decide +kernel
theorem dX3_readEnd_48 : decode cX3_readEnd 48 = .ok (.iconst 1, 1) := by decide +kernel
theorem dX3_readEnd_49 : decode cX3_readEnd 49 = .ok (.iadd, 1) := by decide +kernel
theorem dX3_readEnd_50 : decode cX3_readEnd 50 = .ok (.putfield 18, 3) := by decide +kernel
theorem dX3_readEnd_53 : decode cX3_readEnd 53 = .ok (.goto 12, 3) := by decide +kernel
theorem dX3_readEnd_56 : decode cX3_readEnd 56 = .ok (.aload_n 0, 1) := by decide +kernel
theorem dX3_readEnd_57 : decode cX3_readEnd 57 = .ok (.iconst 1, 1) := by decide +kernel
theorem dX3_readEnd_58 : decode cX3_readEnd 58 = .ok (.aload_n 0, 1) := by decide +kernel
theorem dX3_readEnd_59 : decode cX3_readEnd 59 = .ok (.getfield 18, 3) := by decide +kernel
theorem dX3_readEnd_62 : decode cX3_readEnd 62 = .ok (.invokevirtual 51, 3) := by decide +kernel
theorem dX3_readEnd_65 : decode cX3_readEnd 65 = .ok (.return_, 1) := by decide +kernel
theorem dX3_skipBlanks_0 : decode cX3_skipBlanks 0 = .ok (.aload_n 0, 1) := by decide +kernel
theorem dX3_skipBlanks_1 : decode cX3_skipBlanks 1 = .ok (.getfield 18, 3) := by decide +kernel
theorem dX3_skipBlanks_4 : decode cX3_skipBlanks 4 = .ok (.istore_n 2, 1) := by decide +kernel
theorem dX3_skipBlanks_5 : decode cX3_skipBlanks 5 = .ok (.iload_n 2, 1) := by decide +kernel
theorem dX3_skipBlanks_6 : decode cX3_skipBlanks 6 = .ok (.aload_n 0, 1) := by decide +kernel
theorem dX3_skipBlanks_7 : decode cX3_skipBlanks 7 = .ok (.getfield 27, 3) := by decide +kernel
theorem dX3_skipBlanks_10 : decode cX3_skipBlanks 10 = .ok (.if_icmp .ge 37, 3) := by decide +kernel
theorem dX3_skipBlanks_13 : decode cX3_skipBlanks 13 = .ok (.iload_n 2, 1) := by decide +kernel
theorem dX3_skipBlanks_14 : decode cX3_skipBlanks 14 = .ok (.ifCond .lt 33, 3) := by decide +kernel
theorem dX3_skipBlanks_17 : decode cX3_skipBlanks 17 = .ok (.iload_n 2, 1) := by decide +kernel
theorem dX3_skipBlanks_18 : decode cX3_skipBlanks 18 = .ok (.aload_n 1, 1) := by decide +kernel
theorem dX3_skipBlanks_19 : decode cX3_skipBlanks 19 = .ok (.arraylength, 1) := by decide +kernel
theorem dX3_skipBlanks_20 : decode cX3_skipBlanks 20 = .ok (.if_icmp .ge 27, 3) := by decide +kernel
theorem dX3_skipBlanks_23 : decode cX3_skipBlanks 23 = .ok (.aload_n 1, 1) := by decide +kernel
theorem dX3_skipBlanks_24 : decode cX3_skipBlanks 24 = .ok (.iload_n 2, 1) := by decide +kernel
theorem dX3_skipBlanks_25 : decode cX3_skipBlanks 25 = .ok (.caload, 1) := by decide +kernel
theorem dX3_skipBlanks_26 : decode cX3_skipBlanks 26 = .ok (.bipush 32, 2) := by decide +kernel
theorem dX3_skipBlanks_28 : decode cX3_skipBlanks 28 = .ok (.if_icmp .ne 19, 3) := by decide +kernel
theorem dX3_skipBlanks_31 : decode cX3_skipBlanks 31 = .ok (.aload_n 0, 1) := by decide +kernel
theorem dX3_skipBlanks_32 : decode cX3_skipBlanks 32 = .ok (.dup, 1) := by decide +kernel
theorem dX3_skipBlanks_33 : decode cX3_skipBlanks 33 = .ok (.getfield 18, 3) := by decide +kernel
theorem dX3_skipBlanks_36 : decode cX3_skipBlanks 36 = .ok (.iconst 1, 1) := by decide +kernel
theorem dX3_skipBlanks_37 : decode cX3_skipBlanks 37 = .ok (.iadd, 1) := by decide +kernel
theorem dX3_skipBlanks_38 : decode cX3_skipBlanks 38 = .ok (.putfield 18, 3) := by decide +kernel
theorem dX3_skipBlanks_41 : decode cX3_skipBlanks 41 = .ok (.iinc 2 1, 3) := by decide +kernel
theorem dX3_skipBlanks_44 : decode cX3_skipBlanks 44 = .ok (.goto (-39), 3) := by decide +kernel
theorem dX3_skipBlanks_47 : decode cX3_skipBlanks 47 = .ok (.return_, 1) := by decide +kernel
theorem dX3_wordEnd_0 : decode cX3_wordEnd 0 = .ok (.aload_n 0, 1) := by decide +kernel
theorem dX3_wordEnd_1 : decode cX3_wordEnd 1 = .ok (.getfield 18, 3) := by decide +kernel
theorem dX3_wordEnd_4 : decode cX3_wordEnd 4 = .ok (.istore_n 2, 1) := by decide +kernel
theorem dX3_wordEnd_5 : decode cX3_wordEnd 5 = .ok (.aload_n 0, 1) := by decide +kernel
theorem dX3_wordEnd_6 : decode cX3_wordEnd 6 = .ok (.getfield 18, 3) := by decide +kernel
theorem dX3_wordEnd_9 : decode cX3_wordEnd 9 = .ok (.istore_n 3, 1) := by decide +kernel
theorem dX3_wordEnd_10 : decode cX3_wordEnd 10 = .ok (.iload_n 3, 1) := by decide +kernel
theorem dX3_wordEnd_11 : decode cX3_wordEnd 11 = .ok (.aload_n 0, 1) := by decide +kernel
theorem dX3_wordEnd_12 : decode cX3_wordEnd 12 = .ok (.getfield 27, 3) := by decide +kernel
theorem dX3_wordEnd_15 : decode cX3_wordEnd 15 = .ok (.if_icmp .ge 38, 3) := by decide +kernel
theorem dX3_wordEnd_18 : decode cX3_wordEnd 18 = .ok (.iload_n 3, 1) := by decide +kernel
theorem dX3_wordEnd_19 : decode cX3_wordEnd 19 = .ok (.ifCond .lt 34, 3) := by decide +kernel
theorem dX3_wordEnd_22 : decode cX3_wordEnd 22 = .ok (.iload_n 3, 1) := by decide +kernel
theorem dX3_wordEnd_23 : decode cX3_wordEnd 23 = .ok (.aload_n 1, 1) := by decide +kernel
theorem dX3_wordEnd_24 : decode cX3_wordEnd 24 = .ok (.arraylength, 1) := by decide +kernel
theorem dX3_wordEnd_25 : decode cX3_wordEnd 25 = .ok (.if_icmp .ge 28, 3) := by decide +kernel
theorem dX3_wordEnd_28 : decode cX3_wordEnd 28 = .ok (.aload_n 1, 1) := by decide +kernel
theorem dX3_wordEnd_29 : decode cX3_wordEnd 29 = .ok (.iload_n 3, 1) := by decide +kernel
theorem dX3_wordEnd_30 : decode cX3_wordEnd 30 = .ok (.caload, 1) := by decide +kernel
theorem dX3_wordEnd_31 : decode cX3_wordEnd 31 = .ok (.bipush 97, 2) := by decide +kernel
theorem dX3_wordEnd_33 : decode cX3_wordEnd 33 = .ok (.if_icmp .lt 20, 3) := by decide +kernel
theorem dX3_wordEnd_36 : decode cX3_wordEnd 36 = .ok (.aload_n 1, 1) := by decide +kernel
theorem dX3_wordEnd_37 : decode cX3_wordEnd 37 = .ok (.iload_n 3, 1) := by decide +kernel
theorem dX3_wordEnd_38 : decode cX3_wordEnd 38 = .ok (.caload, 1) := by decide +kernel
theorem dX3_wordEnd_39 : decode cX3_wordEnd 39 = .ok (.bipush 122, 2) := by decide +kernel
theorem dX3_wordEnd_41 : decode cX3_wordEnd 41 = .ok (.if_icmp .gt 12, 3) := by decide +kernel
theorem dX3_wordEnd_44 : decode cX3_wordEnd 44 = .ok (.iinc 2 1, 3) := by decide +kernel
theorem dX3_wordEnd_47 : decode cX3_wordEnd 47 = .ok (.iinc 3 1, 3) := by decide +kernel
theorem dX3_wordEnd_50 : decode cX3_wordEnd 50 = .ok (.goto (-40), 3) := by decide +kernel
theorem dX3_wordEnd_53 : decode cX3_wordEnd 53 = .ok (.iload_n 2, 1) := by decide +kernel
theorem dX3_wordEnd_54 : decode cX3_wordEnd 54 = .ok (.ireturn, 1) := by decide +kernel
theorem dX3_setFault_0 : decode cX3_setFault 0 = .ok (.aload_n 0, 1) := by decide +kernel
theorem dX3_setFault_1 : decode cX3_setFault 1 = .ok (.iload_n 1, 1) := by decide +kernel
theorem dX3_setFault_2 : decode cX3_setFault 2 = .ok (.putfield 9, 3) := by decide +kernel
theorem dX3_setFault_5 : decode cX3_setFault 5 = .ok (.aload_n 0, 1) := by decide +kernel
theorem dX3_setFault_6 : decode cX3_setFault 6 = .ok (.iload_n 2, 1) := by decide +kernel
theorem dX3_setFault_7 : decode cX3_setFault 7 = .ok (.putfield 15, 3) := by decide +kernel
theorem dX3_setFault_10 : decode cX3_setFault 10 = .ok (.return_, 1) := by decide +kernel
set_option maxRecDepth 20000 in
theorem ggX3_clauseOf_X3_spells : GoodIn wsX3_clauseOf wsX3_spells := goodIn_r _ [4, 5, 6, 7, 8, 9, 10, 11, 12, 13, 14, 15, 16, 17, 18, 19, 20, 21, 22, 23, 24, 25, 26, 27, 28, 29, 30, 31, 32, 33, 34, 35, 36, 37, 38, 39, 40, 41, 42, 43, 44, 45, 46, 47, 48, 49, 50, 51, 52, 53] (by decide +kernel) (by decide +kernel)
set_option maxRecDepth 20000 in
theorem gX3_clauseOf_X3_spells : GoodIn wsX3_clauseOf (va_wsS RX3 90 yX3_spells wsX3_spells) := goodIn_app (goodIn_of _ (by decide +kernel)) ggX3_clauseOf_X3_spells
theorem dX3_clauseOf_0 : decode cX3_clauseOf 0 = .ok (.aload_n 0, 1) := by decide +kernel
theorem dX3_clauseOf_1 : decode cX3_clauseOf 1 = .ok (.iload_n 1, 1) := by decide +kernel
theorem dX3_clauseOf_2 : decode cX3_clauseOf 2 = .ok (.iload_n 2, 1) := by decide +kernel
theorem dX3_clauseOf_3 : decode cX3_clauseOf 3 = .ok (.ldc 88, 2) := by decide +kernel
theorem dX3_clauseOf_5 : decode cX3_clauseOf 5 = .ok (.invokestatic 90, 3) := by decide +kernel
theorem dX3_clauseOf_8 : decode cX3_clauseOf 8 = .ok (.ifCond .eq 5, 3) := by decide +kernel
theorem dX3_clauseOf_11 : decode cX3_clauseOf 11 = .ok (.iconst 1, 1) := by decide +kernel
theorem dX3_clauseOf_12 : decode cX3_clauseOf 12 = .ok (.ireturn, 1) := by decide +kernel
theorem dX3_clauseOf_13 : decode cX3_clauseOf 13 = .ok (.aload_n 0, 1) := by decide +kernel
theorem dX3_clauseOf_14 : decode cX3_clauseOf 14 = .ok (.iload_n 1, 1) := by decide +kernel
theorem dX3_clauseOf_15 : decode cX3_clauseOf 15 = .ok (.iload_n 2, 1) := by decide +kernel
theorem dX3_clauseOf_16 : decode cX3_clauseOf 16 = .ok (.ldc 94, 2) := by decide +kernel
theorem dX3_clauseOf_18 : decode cX3_clauseOf 18 = .ok (.invokestatic 90, 3) := by decide +kernel
theorem dX3_clauseOf_21 : decode cX3_clauseOf 21 = .ok (.ifCond .eq 5, 3) := by decide +kernel
theorem dX3_clauseOf_24 : decode cX3_clauseOf 24 = .ok (.iconst 2, 1) := by decide +kernel
theorem dX3_clauseOf_25 : decode cX3_clauseOf 25 = .ok (.ireturn, 1) := by decide +kernel
theorem dX3_clauseOf_26 : decode cX3_clauseOf 26 = .ok (.aload_n 0, 1) := by decide +kernel
theorem dX3_clauseOf_27 : decode cX3_clauseOf 27 = .ok (.iload_n 1, 1) := by decide +kernel
theorem dX3_clauseOf_28 : decode cX3_clauseOf 28 = .ok (.iload_n 2, 1) := by decide +kernel
theorem dX3_clauseOf_29 : decode cX3_clauseOf 29 = .ok (.ldc 96, 2) := by decide +kernel
theorem dX3_clauseOf_31 : decode cX3_clauseOf 31 = .ok (.invokestatic 90, 3) := by decide +kernel
theorem dX3_clauseOf_34 : decode cX3_clauseOf 34 = .ok (.ifCond .eq 5, 3) := by decide +kernel
theorem dX3_clauseOf_37 : decode cX3_clauseOf 37 = .ok (.iconst 3, 1) := by decide +kernel
theorem dX3_clauseOf_38 : decode cX3_clauseOf 38 = .ok (.ireturn, 1) := by decide +kernel
theorem dX3_clauseOf_39 : decode cX3_clauseOf 39 = .ok (.aload_n 0, 1) := by decide +kernel
theorem dX3_clauseOf_40 : decode cX3_clauseOf 40 = .ok (.iload_n 1, 1) := by decide +kernel
theorem dX3_clauseOf_41 : decode cX3_clauseOf 41 = .ok (.iload_n 2, 1) := by decide +kernel
theorem dX3_clauseOf_42 : decode cX3_clauseOf 42 = .ok (.ldc 98, 2) := by decide +kernel
theorem dX3_clauseOf_44 : decode cX3_clauseOf 44 = .ok (.invokestatic 90, 3) := by decide +kernel
theorem dX3_clauseOf_47 : decode cX3_clauseOf 47 = .ok (.ifCond .eq 5, 3) := by decide +kernel
theorem dX3_clauseOf_50 : decode cX3_clauseOf 50 = .ok (.iconst 4, 1) := by decide +kernel
theorem dX3_clauseOf_51 : decode cX3_clauseOf 51 = .ok (.ireturn, 1) := by decide +kernel
theorem dX3_clauseOf_52 : decode cX3_clauseOf 52 = .ok (.aload_n 0, 1) := by decide +kernel
theorem dX3_clauseOf_53 : decode cX3_clauseOf 53 = .ok (.iload_n 1, 1) := by decide +kernel
theorem dX3_clauseOf_54 : decode cX3_clauseOf 54 = .ok (.iload_n 2, 1) := by decide +kernel
theorem dX3_clauseOf_55 : decode cX3_clauseOf 55 = .ok (.ldc 100, 2) := by decide +kernel
theorem dX3_clauseOf_57 : decode cX3_clauseOf 57 = .ok (.invokestatic 90, 3) := by decide +kernel
theorem dX3_clauseOf_60 : decode cX3_clauseOf 60 = .ok (.ifCond .eq 5, 3) := by decide +kernel
theorem dX3_clauseOf_63 : decode cX3_clauseOf 63 = .ok (.iconst 5, 1) := by decide +kernel
theorem dX3_clauseOf_64 : decode cX3_clauseOf 64 = .ok (.ireturn, 1) := by decide +kernel
theorem dX3_clauseOf_65 : decode cX3_clauseOf 65 = .ok (.aload_n 0, 1) := by decide +kernel
theorem dX3_clauseOf_66 : decode cX3_clauseOf 66 = .ok (.iload_n 1, 1) := by decide +kernel
theorem dX3_clauseOf_67 : decode cX3_clauseOf 67 = .ok (.iload_n 2, 1) := by decide +kernel
theorem dX3_clauseOf_68 : decode cX3_clauseOf 68 = .ok (.ldc 102, 2) := by decide +kernel
theorem dX3_clauseOf_70 : decode cX3_clauseOf 70 = .ok (.invokestatic 90, 3) := by decide +kernel
theorem dX3_clauseOf_73 : decode cX3_clauseOf 73 = .ok (.ifCond .eq 8, 3) := by decide +kernel
theorem dX3_clauseOf_76 : decode cX3_clauseOf 76 = .ok (.bipush 6, 2) := by decide +kernel
theorem dX3_clauseOf_78 : decode cX3_clauseOf 78 = .ok (.goto 4, 3) := by decide +kernel
theorem dX3_clauseOf_81 : decode cX3_clauseOf 81 = .ok (.iconst 0, 1) := by decide +kernel
theorem dX3_clauseOf_82 : decode cX3_clauseOf 82 = .ok (.ireturn, 1) := by decide +kernel
set_option maxRecDepth 20000 in
theorem ggX3_spells_J0_length_8abf5 : GoodIn wsX3_spells wsJ0_length_8abf5 := goodIn_r _ [5, 6, 7, 8, 9, 4, 10, 11, 12] (by decide +kernel) (by decide +kernel)
set_option maxRecDepth 20000 in
theorem gX3_spells_J0_length_8abf5 : GoodIn wsX3_spells (wsV RX3 104 RJ0 yJ0_length_8abf5 wsJ0_length_8abf5) := goodIn_app (goodIn_of _ (by decide +kernel)) ggX3_spells_J0_length_8abf5
set_option maxRecDepth 20000 in
theorem ggX3_spells_J0_charAt_5068e : GoodIn wsX3_spells wsJ0_charAt_5068e := goodIn_r _ [16, 6, 17, 18, 19, 4, 20, 11, 12, 21, 22, 23, 24, 25, 26, 27, 28, 29, 30, 31, 32, 33, 34, 35, 36, 37, 38, 39, 40, 41, 42, 43, 44, 45, 46, 47, 48, 49] (by decide +kernel) (by decide +kernel)
set_option maxRecDepth 20000 in
theorem gX3_spells_J0_charAt_5068e : GoodIn wsX3_spells (wsV RX3 109 RJ0 yJ0_charAt_5068e wsJ0_charAt_5068e) := goodIn_app (goodIn_of _ (by decide +kernel)) ggX3_spells_J0_charAt_5068e
theorem dX3_spells_0 : decode cX3_spells 0 = .ok (.iload_n 1, 1) := by decide +kernel
theorem dX3_spells_1 : decode cX3_spells 1 = .ok (.ifCond .lt 19, 3) := by decide +kernel
theorem dX3_spells_4 : decode cX3_spells 4 = .ok (.iload_n 2, 1) := by decide +kernel
theorem dX3_spells_5 : decode cX3_spells 5 = .ok (.aload_n 0, 1) := by decide +kernel
theorem dX3_spells_6 : decode cX3_spells 6 = .ok (.arraylength, 1) := by decide +kernel
theorem dX3_spells_7 : decode cX3_spells 7 = .ok (.if_icmp .gt 13, 3) := by decide +kernel
theorem dX3_spells_10 : decode cX3_spells 10 = .ok (.iload_n 2, 1) := by decide +kernel
theorem dX3_spells_11 : decode cX3_spells 11 = .ok (.iload_n 1, 1) := by decide +kernel
theorem dX3_spells_12 : decode cX3_spells 12 = .ok (.isub, 1) := by decide +kernel
theorem dX3_spells_13 : decode cX3_spells 13 = .ok (.aload_n 3, 1) := by decide +kernel
theorem dX3_spells_14 : decode cX3_spells 14 = .ok (.invokevirtual 104, 3) := by decide +kernel
theorem dX3_spells_17 : decode cX3_spells 17 = .ok (.if_icmp .eq 5, 3) := by decide +kernel
theorem dX3_spells_20 : decode cX3_spells 20 = .ok (.iconst 0, 1) := by decide +kernel
theorem dX3_spells_21 : decode cX3_spells 21 = .ok (.ireturn, 1) := by decide +kernel
theorem dX3_spells_22 : decode cX3_spells 22 = .ok (.iconst 0, 1) := by decide +kernel
theorem dX3_spells_23 : decode cX3_spells 23 = .ok (.istore 4, 2) := by decide +kernel
theorem dX3_spells_25 : decode cX3_spells 25 = .ok (.iload 4, 2) := by decide +kernel
theorem dX3_spells_27 : decode cX3_spells 27 = .ok (.aload_n 3, 1) := by decide +kernel
theorem dX3_spells_28 : decode cX3_spells 28 = .ok (.invokevirtual 104, 3) := by decide +kernel
theorem dX3_spells_31 : decode cX3_spells 31 = .ok (.if_icmp .ge 26, 3) := by decide +kernel
theorem dX3_spells_34 : decode cX3_spells 34 = .ok (.aload_n 0, 1) := by decide +kernel
theorem dX3_spells_35 : decode cX3_spells 35 = .ok (.iload_n 1, 1) := by decide +kernel
theorem dX3_spells_36 : decode cX3_spells 36 = .ok (.iload 4, 2) := by decide +kernel
theorem dX3_spells_38 : decode cX3_spells 38 = .ok (.iadd, 1) := by decide +kernel
theorem dX3_spells_39 : decode cX3_spells 39 = .ok (.caload, 1) := by decide +kernel
theorem dX3_spells_40 : decode cX3_spells 40 = .ok (.aload_n 3, 1) := by decide +kernel
theorem dX3_spells_41 : decode cX3_spells 41 = .ok (.iload 4, 2) := by decide +kernel
theorem dX3_spells_43 : decode cX3_spells 43 = .ok (.invokevirtual 109, 3) := by decide +kernel
theorem dX3_spells_46 : decode cX3_spells 46 = .ok (.if_icmp .eq 5, 3) := by decide +kernel
theorem dX3_spells_49 : decode cX3_spells 49 = .ok (.iconst 0, 1) := by decide +kernel
theorem dX3_spells_50 : decode cX3_spells 50 = .ok (.ireturn, 1) := by decide +kernel
theorem dX3_spells_51 : decode cX3_spells 51 = .ok (.iinc 4 1, 3) := by decide +kernel
theorem dX3_spells_54 : decode cX3_spells 54 = .ok (.goto (-29), 3) := by decide +kernel
theorem dX3_spells_57 : decode cX3_spells 57 = .ok (.iconst 1, 1) := by decide +kernel
theorem dX3_spells_58 : decode cX3_spells 58 = .ok (.ireturn, 1) := by decide +kernel
theorem dX3_isFull_0 : decode cX3_isFull 0 = .ok (.iload_n 0, 1) := by decide +kernel
theorem dX3_isFull_1 : decode cX3_isFull 1 = .ok (.tableswitch 103 1 6 #[39, 103, 54, 69, 84, 89], 39) := by decide +kernel
theorem dX3_isFull_40 : decode cX3_isFull 40 = .ok (.aload_n 1, 1) := by decide +kernel
theorem dX3_isFull_41 : decode cX3_isFull 41 = .ok (.getfield 113, 3) := by decide +kernel
theorem dX3_isFull_44 : decode cX3_isFull 44 = .ok (.bipush 7, 2) := by decide +kernel
theorem dX3_isFull_46 : decode cX3_isFull 46 = .ok (.if_icmp .lt 7, 3) := by decide +kernel
theorem dX3_isFull_49 : decode cX3_isFull 49 = .ok (.iconst 1, 1) := by decide +kernel
theorem dX3_isFull_50 : decode cX3_isFull 50 = .ok (.goto 4, 3) := by decide +kernel
theorem dX3_isFull_53 : decode cX3_isFull 53 = .ok (.iconst 0, 1) := by decide +kernel
theorem dX3_isFull_54 : decode cX3_isFull 54 = .ok (.ireturn, 1) := by decide +kernel
theorem dX3_isFull_55 : decode cX3_isFull 55 = .ok (.aload_n 1, 1) := by decide +kernel
theorem dX3_isFull_56 : decode cX3_isFull 56 = .ok (.getfield 116, 3) := by decide +kernel
theorem dX3_isFull_59 : decode cX3_isFull 59 = .ok (.bipush 12, 2) := by decide +kernel
theorem dX3_isFull_61 : decode cX3_isFull 61 = .ok (.if_icmp .lt 7, 3) := by decide +kernel
theorem dX3_isFull_64 : decode cX3_isFull 64 = .ok (.iconst 1, 1) := by decide +kernel
theorem dX3_isFull_65 : decode cX3_isFull 65 = .ok (.goto 4, 3) := by decide +kernel
theorem dX3_isFull_68 : decode cX3_isFull 68 = .ok (.iconst 0, 1) := by decide +kernel
theorem dX3_isFull_69 : decode cX3_isFull 69 = .ok (.ireturn, 1) := by decide +kernel
theorem dX3_isFull_70 : decode cX3_isFull 70 = .ok (.aload_n 1, 1) := by decide +kernel
theorem dX3_isFull_71 : decode cX3_isFull 71 = .ok (.getfield 119, 3) := by decide +kernel
theorem dX3_isFull_74 : decode cX3_isFull 74 = .ok (.bipush 6, 2) := by decide +kernel
theorem dX3_isFull_76 : decode cX3_isFull 76 = .ok (.if_icmp .lt 7, 3) := by decide +kernel
theorem dX3_isFull_79 : decode cX3_isFull 79 = .ok (.iconst 1, 1) := by decide +kernel
theorem dX3_isFull_80 : decode cX3_isFull 80 = .ok (.goto 4, 3) := by decide +kernel
theorem dX3_isFull_83 : decode cX3_isFull 83 = .ok (.iconst 0, 1) := by decide +kernel
theorem dX3_isFull_84 : decode cX3_isFull 84 = .ok (.ireturn, 1) := by decide +kernel
theorem dX3_isFull_85 : decode cX3_isFull 85 = .ok (.aload_n 1, 1) := by decide +kernel
theorem dX3_isFull_86 : decode cX3_isFull 86 = .ok (.getfield 122, 3) := by decide +kernel
theorem dX3_isFull_89 : decode cX3_isFull 89 = .ok (.ireturn, 1) := by decide +kernel
theorem dX3_isFull_90 : decode cX3_isFull 90 = .ok (.aload_n 1, 1) := by decide +kernel
theorem dX3_isFull_91 : decode cX3_isFull 91 = .ok (.getfield 126, 3) := by decide +kernel
theorem dX3_isFull_94 : decode cX3_isFull 94 = .ok (.iconst 5, 1) := by decide +kernel
theorem dX3_isFull_95 : decode cX3_isFull 95 = .ok (.if_icmp .lt 7, 3) := by decide +kernel
theorem dX3_isFull_98 : decode cX3_isFull 98 = .ok (.iconst 1, 1) := by decide +kernel
theorem dX3_isFull_99 : decode cX3_isFull 99 = .ok (.goto 4, 3) := by decide +kernel
theorem dX3_isFull_102 : decode cX3_isFull 102 = .ok (.iconst 0, 1) := by decide +kernel
theorem dX3_isFull_103 : decode cX3_isFull 103 = .ok (.ireturn, 1) := by decide +kernel
theorem dX3_isFull_104 : decode cX3_isFull 104 = .ok (.iconst 0, 1) := by decide +kernel
theorem dX3_isFull_105 : decode cX3_isFull 105 = .ok (.ireturn, 1) := by decide +kernel
theorem dX3_lowest_0 : decode cX3_lowest 0 = .ok (.iload_n 0, 1) := by decide +kernel
theorem dX3_lowest_1 : decode cX3_lowest 1 = .ok (.iconst 1, 1) := by decide +kernel
theorem dX3_lowest_2 : decode cX3_lowest 2 = .ok (.if_icmp .eq 13, 3) := by decide +kernel
theorem dX3_lowest_5 : decode cX3_lowest 5 = .ok (.iload_n 0, 1) := by decide +kernel
theorem dX3_lowest_6 : decode cX3_lowest 6 = .ok (.bipush 6, 2) := by decide +kernel
theorem dX3_lowest_8 : decode cX3_lowest 8 = .ok (.if_icmp .ne 11, 3) := by decide +kernel
theorem dX3_lowest_11 : decode cX3_lowest 11 = .ok (.iload_n 1, 1) := by decide +kernel
theorem dX3_lowest_12 : decode cX3_lowest 12 = .ok (.ifCond .eq 7, 3) := by decide +kernel
theorem dX3_lowest_15 : decode cX3_lowest 15 = .ok (.iconst 1, 1) := by decide +kernel
theorem dX3_lowest_16 : decode cX3_lowest 16 = .ok (.goto 4, 3) := by decide +kernel
theorem dX3_lowest_19 : decode cX3_lowest 19 = .ok (.iconst 0, 1) := by decide +kernel
theorem dX3_lowest_20 : decode cX3_lowest 20 = .ok (.ireturn, 1) := by decide +kernel
theorem dX3_highest_0 : decode cX3_highest 0 = .ok (.iload_n 0, 1) := by decide +kernel
theorem dX3_highest_1 : decode cX3_highest 1 = .ok (.tableswitch 79 1 6 #[39, 79, 79, 51, 64, 67], 39) := by decide +kernel
theorem dX3_highest_40 : decode cX3_highest 40 = .ok (.iload_n 1, 1) := by decide +kernel
theorem dX3_highest_41 : decode cX3_highest 41 = .ok (.ifCond .eq 8, 3) := by decide +kernel
theorem dX3_highest_44 : decode cX3_highest 44 = .ok (.bipush 6, 2) := by decide +kernel
theorem dX3_highest_46 : decode cX3_highest 46 = .ok (.goto 5, 3) := by decide +kernel
theorem dX3_highest_49 : decode cX3_highest 49 = .ok (.bipush 9, 2) := by decide +kernel
theorem dX3_highest_51 : decode cX3_highest 51 = .ok (.ireturn, 1) := by decide +kernel
theorem dX3_highest_52 : decode cX3_highest 52 = .ok (.iload_n 1, 1) := by decide +kernel
theorem dX3_highest_53 : decode cX3_highest 53 = .ok (.ifCond .eq 9, 3) := by decide +kernel
theorem dX3_highest_56 : decode cX3_highest 56 = .ok (.sipush 999, 3) := by decide +kernel
theorem dX3_highest_59 : decode cX3_highest 59 = .ok (.goto 5, 3) := by decide +kernel
theorem dX3_highest_62 : decode cX3_highest 62 = .ok (.bipush 99, 2) := by decide +kernel
theorem dX3_highest_64 : decode cX3_highest 64 = .ok (.ireturn, 1) := by decide +kernel
theorem dX3_highest_65 : decode cX3_highest 65 = .ok (.bipush 50, 2) := by decide +kernel
theorem dX3_highest_67 : decode cX3_highest 67 = .ok (.ireturn, 1) := by decide +kernel
theorem dX3_highest_68 : decode cX3_highest 68 = .ok (.iload_n 1, 1) := by decide +kernel
theorem dX3_highest_69 : decode cX3_highest 69 = .ok (.ifCond .eq 8, 3) := by decide +kernel
theorem dX3_highest_72 : decode cX3_highest 72 = .ok (.bipush 9, 2) := by decide +kernel
theorem dX3_highest_74 : decode cX3_highest 74 = .ok (.goto 5, 3) := by decide +kernel
theorem dX3_highest_77 : decode cX3_highest 77 = .ok (.bipush 90, 2) := by decide +kernel
theorem dX3_highest_79 : decode cX3_highest 79 = .ok (.ireturn, 1) := by decide +kernel
theorem dX3_highest_80 : decode cX3_highest 80 = .ok (.aload_n 2, 1) := by decide +kernel
theorem dX3_highest_81 : decode cX3_highest 81 = .ok (.getfield 113, 3) := by decide +kernel
theorem dX3_highest_84 : decode cX3_highest 84 = .ok (.iconst 1, 1) := by decide +kernel
theorem dX3_highest_85 : decode cX3_highest 85 = .ok (.isub, 1) := by decide +kernel
theorem dX3_highest_86 : decode cX3_highest 86 = .ok (.ireturn, 1) := by decide +kernel
set_option maxRecDepth 20000 in
theorem ggX3_addClause_X0_addPart : GoodIn wsX3_addClause wsX0_addPart := goodIn_r _ [5, 6, 7, 8, 43, 44, 45, 46, 47, 48, 49, 50, 51, 52, 53, 54, 55] (by decide +kernel) (by decide +kernel)
set_option maxRecDepth 20000 in
theorem gX3_addClause_X0_addPart : GoodIn wsX3_addClause (wsV RX3 129 RX0 yX0_addPart wsX0_addPart) := goodIn_app (goodIn_of _ (by decide +kernel)) ggX3_addClause_X0_addPart
set_option maxRecDepth 20000 in
theorem ggX3_addClause_X0_addMouth : GoodIn wsX3_addClause wsX0_addMouth := goodIn_r _ [12, 13, 14, 15, 16, 4, 17, 6, 43, 44, 45, 46, 47, 48, 49, 50, 51, 52, 53, 54, 55] (by decide +kernel) (by decide +kernel)
set_option maxRecDepth 20000 in
theorem gX3_addClause_X0_addMouth : GoodIn wsX3_addClause (wsV RX3 132 RX0 yX0_addMouth wsX0_addMouth) := goodIn_app (goodIn_of _ (by decide +kernel)) ggX3_addClause_X0_addMouth
set_option maxRecDepth 20000 in
theorem ggX3_addClause_X0_addWay : GoodIn wsX3_addClause wsX0_addWay := goodIn_r _ [21, 8, 22, 14, 15, 16, 4, 17, 6, 43, 44, 45, 46, 47, 48, 49, 50, 51, 52, 53, 54, 55] (by decide +kernel) (by decide +kernel)
set_option maxRecDepth 20000 in
theorem gX3_addClause_X0_addWay : GoodIn wsX3_addClause (wsV RX3 136 RX0 yX0_addWay wsX0_addWay) := goodIn_app (goodIn_of _ (by decide +kernel)) ggX3_addClause_X0_addWay
set_option maxRecDepth 20000 in
theorem ggX3_addClause_X0_addPerson : GoodIn wsX3_addClause wsX0_addPerson := goodIn_r _ [26, 27, 28, 29, 43, 44, 45, 46, 47, 48, 49, 50, 51, 52, 53, 54, 55] (by decide +kernel) (by decide +kernel)
set_option maxRecDepth 20000 in
theorem gX3_addClause_X0_addPerson : GoodIn wsX3_addClause (wsV RX3 139 RX0 yX0_addPerson wsX0_addPerson) := goodIn_app (goodIn_of _ (by decide +kernel)) ggX3_addClause_X0_addPerson
set_option maxRecDepth 20000 in
theorem ggX3_addClause_X0_setInterest : GoodIn wsX3_addClause wsX0_setInterest := goodIn_r _ [33, 34, 35, 43, 44, 45, 46, 47, 48, 49, 50, 51, 52, 53, 54, 55] (by decide +kernel) (by decide +kernel)
set_option maxRecDepth 20000 in
theorem gX3_addClause_X0_setInterest : GoodIn wsX3_addClause (wsV RX3 142 RX0 yX0_setInterest wsX0_setInterest) := goodIn_app (goodIn_of _ (by decide +kernel)) ggX3_addClause_X0_setInterest
set_option maxRecDepth 20000 in
theorem ggX3_addClause_X0_addWinter : GoodIn wsX3_addClause wsX0_addWinter := goodIn_r _ [39, 40, 41, 42, 43, 44, 45, 46, 47, 48, 49, 50, 51, 52, 53, 54, 55] (by decide +kernel) (by decide +kernel)
set_option maxRecDepth 20000 in
theorem gX3_addClause_X0_addWinter : GoodIn wsX3_addClause (wsV RX3 145 RX0 yX0_addWinter wsX0_addWinter) := goodIn_app (goodIn_of _ (by decide +kernel)) ggX3_addClause_X0_addWinter
theorem dX3_addClause_0 : decode cX3_addClause 0 = .ok (.iload_n 0, 1) := by decide +kernel
theorem dX3_addClause_1 : decode cX3_addClause 1 = .ok (.tableswitch 78 1 5 #[35, 44, 52, 61, 70], 35) := by decide +kernel
theorem dX3_addClause_36 : decode cX3_addClause 36 = .ok (.aload_n 3, 1) := by decide +kernel
theorem dX3_addClause_37 : decode cX3_addClause 37 = .ok (.iload_n 1, 1) := by decide +kernel
theorem dX3_addClause_38 : decode cX3_addClause 38 = .ok (.iload_n 2, 1) := by decide +kernel
theorem dX3_addClause_39 : decode cX3_addClause 39 = .ok (.invokevirtual 129, 3) := by decide +kernel
theorem dX3_addClause_42 : decode cX3_addClause 42 = .ok (.goto 43, 3) := by decide +kernel
theorem dX3_addClause_45 : decode cX3_addClause 45 = .ok (.aload_n 3, 1) := by decide +kernel
theorem dX3_addClause_46 : decode cX3_addClause 46 = .ok (.iload_n 1, 1) := by decide +kernel
theorem dX3_addClause_47 : decode cX3_addClause 47 = .ok (.invokevirtual 132, 3) := by decide +kernel
theorem dX3_addClause_50 : decode cX3_addClause 50 = .ok (.goto 35, 3) := by decide +kernel
theorem dX3_addClause_53 : decode cX3_addClause 53 = .ok (.aload_n 3, 1) := by decide +kernel
theorem dX3_addClause_54 : decode cX3_addClause 54 = .ok (.iload_n 1, 1) := by decide +kernel
theorem dX3_addClause_55 : decode cX3_addClause 55 = .ok (.iload_n 2, 1) := by decide +kernel
theorem dX3_addClause_56 : decode cX3_addClause 56 = .ok (.invokevirtual 136, 3) := by decide +kernel
theorem dX3_addClause_59 : decode cX3_addClause 59 = .ok (.goto 26, 3) := by decide +kernel
theorem dX3_addClause_62 : decode cX3_addClause 62 = .ok (.aload_n 3, 1) := by decide +kernel
theorem dX3_addClause_63 : decode cX3_addClause 63 = .ok (.iload_n 1, 1) := by decide +kernel
theorem dX3_addClause_64 : decode cX3_addClause 64 = .ok (.iload_n 2, 1) := by decide +kernel
theorem dX3_addClause_65 : decode cX3_addClause 65 = .ok (.invokevirtual 139, 3) := by decide +kernel
theorem dX3_addClause_68 : decode cX3_addClause 68 = .ok (.goto 17, 3) := by decide +kernel
theorem dX3_addClause_71 : decode cX3_addClause 71 = .ok (.aload_n 3, 1) := by decide +kernel
theorem dX3_addClause_72 : decode cX3_addClause 72 = .ok (.iload_n 1, 1) := by decide +kernel
theorem dX3_addClause_73 : decode cX3_addClause 73 = .ok (.invokevirtual 142, 3) := by decide +kernel
theorem dX3_addClause_76 : decode cX3_addClause 76 = .ok (.goto 9, 3) := by decide +kernel
theorem dX3_addClause_79 : decode cX3_addClause 79 = .ok (.aload_n 3, 1) := by decide +kernel
theorem dX3_addClause_80 : decode cX3_addClause 80 = .ok (.iload_n 1, 1) := by decide +kernel
theorem dX3_addClause_81 : decode cX3_addClause 81 = .ok (.iload_n 2, 1) := by decide +kernel
theorem dX3_addClause_82 : decode cX3_addClause 82 = .ok (.invokevirtual 145, 3) := by decide +kernel
theorem dX3_addClause_85 : decode cX3_addClause 85 = .ok (.return_, 1) := by decide +kernel
theorem dX4_init_0 : decode cX4_init 0 = .ok (.aload_n 0, 1) := by decide +kernel
theorem dX4_init_1 : decode cX4_init 1 = .ok (.invokespecial 3, 3) := by decide +kernel
theorem dX4_init_4 : decode cX4_init 4 = .ok (.aload_n 0, 1) := by decide +kernel
theorem dX4_init_5 : decode cX4_init 5 = .ok (.bipush 8, 2) := by decide +kernel
theorem dX4_init_7 : decode cX4_init 7 = .ok (.newarray .int, 2) := by decide +kernel
theorem dX4_init_9 : decode cX4_init 9 = .ok (.putfield 9, 3) := by decide +kernel
theorem dX4_init_12 : decode cX4_init 12 = .ok (.aload_n 0, 1) := by decide +kernel
theorem dX4_init_13 : decode cX4_init 13 = .ok (.bipush 8, 2) := by decide +kernel
theorem dX4_init_15 : decode cX4_init 15 = .ok (.newarray .int, 2) := by decide +kernel
theorem dX4_init_17 : decode cX4_init 17 = .ok (.putfield 15, 3) := by decide +kernel
theorem dX4_init_20 : decode cX4_init 20 = .ok (.aload_n 0, 1) := by decide +kernel
theorem dX4_init_21 : decode cX4_init 21 = .ok (.bipush 8, 2) := by decide +kernel
theorem dX4_init_23 : decode cX4_init 23 = .ok (.newarray .int, 2) := by decide +kernel
theorem dX4_init_25 : decode cX4_init 25 = .ok (.putfield 18, 3) := by decide +kernel
theorem dX4_init_28 : decode cX4_init 28 = .ok (.return_, 1) := by decide +kernel
theorem dX4_has_0 : decode cX4_has 0 = .ok (.iload_n 1, 1) := by decide +kernel
theorem dX4_has_1 : decode cX4_has 1 = .ok (.ifCond .lt 21, 3) := by decide +kernel
theorem dX4_has_4 : decode cX4_has 4 = .ok (.iload_n 1, 1) := by decide +kernel
theorem dX4_has_5 : decode cX4_has 5 = .ok (.aload_n 0, 1) := by decide +kernel
theorem dX4_has_6 : decode cX4_has 6 = .ok (.getfield 21, 3) := by decide +kernel
theorem dX4_has_9 : decode cX4_has 9 = .ok (.if_icmp .ge 13, 3) := by decide +kernel
theorem dX4_has_12 : decode cX4_has 12 = .ok (.iload_n 1, 1) := by decide +kernel
theorem dX4_has_13 : decode cX4_has 13 = .ok (.bipush 8, 2) := by decide +kernel
theorem dX4_has_15 : decode cX4_has 15 = .ok (.if_icmp .ge 7, 3) := by decide +kernel
theorem dX4_has_18 : decode cX4_has 18 = .ok (.iconst 1, 1) := by decide +kernel
theorem dX4_has_19 : decode cX4_has 19 = .ok (.goto 4, 3) := by decide +kernel
theorem dX4_has_22 : decode cX4_has 22 = .ok (.iconst 0, 1) := by decide +kernel
theorem dX4_has_23 : decode cX4_has 23 = .ok (.ireturn, 1) := by decide +kernel
theorem dX4_add_0 : decode cX4_add 0 = .ok (.aload_n 0, 1) := by decide +kernel
theorem dX4_add_1 : decode cX4_add 1 = .ok (.getfield 21, 3) := by decide +kernel
theorem dX4_add_4 : decode cX4_add 4 = .ok (.ifCond .lt 12, 3) := by decide +kernel
theorem dX4_add_7 : decode cX4_add 7 = .ok (.aload_n 0, 1) := by decide +kernel
theorem dX4_add_8 : decode cX4_add 8 = .ok (.getfield 21, 3) := by decide +kernel
theorem dX4_add_11 : decode cX4_add 11 = .ok (.bipush 8, 2) := by decide +kernel
theorem dX4_add_13 : decode cX4_add 13 = .ok (.if_icmp .lt 6, 3) := by decide +kernel
theorem dX4_add_16 : decode cX4_add 16 = .ok (.ldc 25, 2) := by decide +kernel
theorem dX4_add_18 : decode cX4_add 18 = .ok (.ireturn, 1) := by decide +kernel
theorem dX4_add_19 : decode cX4_add 19 = .ok (.aload_n 0, 1) := by decide +kernel
theorem dX4_add_20 : decode cX4_add 20 = .ok (.getfield 15, 3) := by decide +kernel
theorem dX4_add_23 : decode cX4_add 23 = .ok (.aload_n 0, 1) := by decide +kernel
theorem dX4_add_24 : decode cX4_add 24 = .ok (.getfield 21, 3) := by decide +kernel
theorem dX4_add_27 : decode cX4_add 27 = .ok (.iload_n 1, 1) := by decide +kernel
theorem dX4_add_28 : decode cX4_add 28 = .ok (.iastore, 1) := by decide +kernel
theorem dX4_add_29 : decode cX4_add 29 = .ok (.aload_n 0, 1) := by decide +kernel
theorem dX4_add_30 : decode cX4_add 30 = .ok (.getfield 18, 3) := by decide +kernel
theorem dX4_add_33 : decode cX4_add 33 = .ok (.aload_n 0, 1) := by decide +kernel
theorem dX4_add_34 : decode cX4_add 34 = .ok (.getfield 21, 3) := by decide +kernel
theorem dX4_add_37 : decode cX4_add 37 = .ok (.iload_n 2, 1) := by decide +kernel
theorem dX4_add_38 : decode cX4_add 38 = .ok (.iastore, 1) := by decide +kernel
theorem dX4_add_39 : decode cX4_add 39 = .ok (.aload_n 0, 1) := by decide +kernel
theorem dX4_add_40 : decode cX4_add 40 = .ok (.dup, 1) := by decide +kernel
theorem dX4_add_41 : decode cX4_add 41 = .ok (.getfield 21, 3) := by decide +kernel
theorem dX4_add_44 : decode cX4_add 44 = .ok (.iconst 1, 1) := by decide +kernel
theorem dX4_add_45 : decode cX4_add 45 = .ok (.iadd, 1) := by decide +kernel
theorem dX4_add_46 : decode cX4_add 46 = .ok (.putfield 21, 3) := by decide +kernel
theorem dX4_add_49 : decode cX4_add 49 = .ok (.aload_n 0, 1) := by decide +kernel
theorem dX4_add_50 : decode cX4_add 50 = .ok (.getfield 21, 3) := by decide +kernel
theorem dX4_add_53 : decode cX4_add 53 = .ok (.ireturn, 1) := by decide +kernel
set_option maxRecDepth 20000 in
theorem ggX4_agree_X4_has : GoodIn wsX4_agree wsX4_has := goodIn_r _ [7, 8, 9, 10, 11, 12] (by decide +kernel) (by decide +kernel)
set_option maxRecDepth 20000 in
theorem gX4_agree_X4_has : GoodIn wsX4_agree (wsV RX4 26 RX4 yX4_has wsX4_has) := goodIn_app (goodIn_of _ (by decide +kernel)) ggX4_agree_X4_has
theorem dX4_agree_0 : decode cX4_agree 0 = .ok (.aload_n 0, 1) := by decide +kernel
theorem dX4_agree_1 : decode cX4_agree 1 = .ok (.iload_n 1, 1) := by decide +kernel
theorem dX4_agree_2 : decode cX4_agree 2 = .ok (.invokevirtual 26, 3) := by decide +kernel
theorem dX4_agree_5 : decode cX4_agree 5 = .ok (.ifCond .eq 11, 3) := by decide +kernel
theorem dX4_agree_8 : decode cX4_agree 8 = .ok (.aload_n 0, 1) := by decide +kernel
theorem dX4_agree_9 : decode cX4_agree 9 = .ok (.iload_n 2, 1) := by decide +kernel
theorem dX4_agree_10 : decode cX4_agree 10 = .ok (.invokevirtual 26, 3) := by decide +kernel
theorem dX4_agree_13 : decode cX4_agree 13 = .ok (.ifCond .ne 5, 3) := by decide +kernel
theorem dX4_agree_16 : decode cX4_agree 16 = .ok (.iconst 0, 1) := by decide +kernel
theorem dX4_agree_17 : decode cX4_agree 17 = .ok (.ireturn, 1) := by decide +kernel
theorem dX4_agree_18 : decode cX4_agree 18 = .ok (.aload_n 0, 1) := by decide +kernel
theorem dX4_agree_19 : decode cX4_agree 19 = .ok (.getfield 15, 3) := by decide +kernel
theorem dX4_agree_22 : decode cX4_agree 22 = .ok (.iload_n 2, 1) := by decide +kernel
theorem dX4_agree_23 : decode cX4_agree 23 = .ok (.iaload, 1) := by decide +kernel
theorem dX4_agree_24 : decode cX4_agree 24 = .ok (.aload_n 0, 1) := by decide +kernel
theorem dX4_agree_25 : decode cX4_agree 25 = .ok (.getfield 15, 3) := by decide +kernel
theorem dX4_agree_28 : decode cX4_agree 28 = .ok (.iload_n 1, 1) := by decide +kernel
theorem dX4_agree_29 : decode cX4_agree 29 = .ok (.iaload, 1) := by decide +kernel
theorem dX4_agree_30 : decode cX4_agree 30 = .ok (.isub, 1) := by decide +kernel
theorem dX4_agree_31 : decode cX4_agree 31 = .ok (.istore_n 3, 1) := by decide +kernel
theorem dX4_agree_32 : decode cX4_agree 32 = .ok (.aload_n 0, 1) := by decide +kernel
theorem dX4_agree_33 : decode cX4_agree 33 = .ok (.getfield 18, 3) := by decide +kernel
theorem dX4_agree_36 : decode cX4_agree 36 = .ok (.iload_n 2, 1) := by decide +kernel
theorem dX4_agree_37 : decode cX4_agree 37 = .ok (.iaload, 1) := by decide +kernel
theorem dX4_agree_38 : decode cX4_agree 38 = .ok (.aload_n 0, 1) := by decide +kernel
theorem dX4_agree_39 : decode cX4_agree 39 = .ok (.getfield 18, 3) := by decide +kernel
theorem dX4_agree_42 : decode cX4_agree 42 = .ok (.iload_n 1, 1) := by decide +kernel
theorem dX4_agree_43 : decode cX4_agree 43 = .ok (.iaload, 1) := by decide +kernel
theorem dX4_agree_44 : decode cX4_agree 44 = .ok (.isub, 1) := by decide +kernel
theorem dX4_agree_45 : decode cX4_agree 45 = .ok (.istore 4, 2) := by decide +kernel
theorem dX4_agree_47 : decode cX4_agree 47 = .ok (.iload_n 3, 1) := by decide +kernel
theorem dX4_agree_48 : decode cX4_agree 48 = .ok (.ifCond .lt 22, 3) := by decide +kernel
theorem dX4_agree_51 : decode cX4_agree 51 = .ok (.iload 4, 2) := by decide +kernel
theorem dX4_agree_53 : decode cX4_agree 53 = .ok (.ifCond .lt 13, 3) := by decide +kernel
theorem dX4_agree_56 : decode cX4_agree 56 = .ok (.iload 4, 2) := by decide +kernel
theorem dX4_agree_58 : decode cX4_agree 58 = .ok (.iload_n 3, 1) := by decide +kernel
theorem dX4_agree_59 : decode cX4_agree 59 = .ok (.if_icmp .gt 7, 3) := by decide +kernel
theorem dX4_agree_62 : decode cX4_agree 62 = .ok (.iconst 1, 1) := by decide +kernel
theorem dX4_agree_63 : decode cX4_agree 63 = .ok (.goto 23, 3) := by decide +kernel
theorem dX4_agree_66 : decode cX4_agree 66 = .ok (.iconst 0, 1) := by decide +kernel
theorem dX4_agree_67 : decode cX4_agree 67 = .ok (.goto 19, 3) := by decide +kernel
theorem dX4_agree_70 : decode cX4_agree 70 = .ok (.iload 4, 2) := by decide +kernel
theorem dX4_agree_72 : decode cX4_agree 72 = .ok (.ifCond .gt 13, 3) := by decide +kernel
theorem dX4_agree_75 : decode cX4_agree 75 = .ok (.iload 4, 2) := by decide +kernel
theorem dX4_agree_77 : decode cX4_agree 77 = .ok (.iload_n 3, 1) := by decide +kernel
theorem dX4_agree_78 : decode cX4_agree 78 = .ok (.if_icmp .lt 7, 3) := by decide +kernel
theorem dX4_agree_81 : decode cX4_agree 81 = .ok (.iconst 1, 1) := by decide +kernel
theorem dX4_agree_82 : decode cX4_agree 82 = .ok (.goto 4, 3) := by decide +kernel
theorem dX4_agree_85 : decode cX4_agree 85 = .ok (.iconst 0, 1) := by decide +kernel
theorem dX4_agree_86 : decode cX4_agree 86 = .ok (.ireturn, 1) := by decide +kernel
set_option maxRecDepth 20000 in
theorem ggX4_leastMen_X4_placeFrom : GoodIn wsX4_leastMen wsX4_placeFrom := goodIn_r _ [4, 5, 6, 7, 8, 9, 10, 11, 12, 13, 3, 14, 15, 16, 17, 18, 19, 20, 21, 22, 23, 24, 1, 2, 25, 26, 27, 28] (by decide +kernel) (by decide +kernel)
set_option maxRecDepth 20000 in
theorem gX4_leastMen_X4_placeFrom : GoodIn wsX4_leastMen (va_wsS RX4 30 yX4_placeFrom wsX4_placeFrom) := goodIn_app (goodIn_of _ (by decide +kernel)) ggX4_leastMen_X4_placeFrom
theorem dX4_leastMen_0 : decode cX4_leastMen 0 = .ok (.iconst 0, 1) := by decide +kernel
theorem dX4_leastMen_1 : decode cX4_leastMen 1 = .ok (.istore_n 1, 1) := by decide +kernel
theorem dX4_leastMen_2 : decode cX4_leastMen 2 = .ok (.iload_n 1, 1) := by decide +kernel
theorem dX4_leastMen_3 : decode cX4_leastMen 3 = .ok (.bipush 8, 2) := by decide +kernel
theorem dX4_leastMen_5 : decode cX4_leastMen 5 = .ok (.if_icmp .gt 21, 3) := by decide +kernel
theorem dX4_leastMen_8 : decode cX4_leastMen 8 = .ok (.aload_n 0, 1) := by decide +kernel
theorem dX4_leastMen_9 : decode cX4_leastMen 9 = .ok (.iconst 0, 1) := by decide +kernel
theorem dX4_leastMen_10 : decode cX4_leastMen 10 = .ok (.iconst 0, 1) := by decide +kernel
theorem dX4_leastMen_11 : decode cX4_leastMen 11 = .ok (.iload_n 1, 1) := by decide +kernel
theorem dX4_leastMen_12 : decode cX4_leastMen 12 = .ok (.invokestatic 30, 3) := by decide +kernel
theorem dX4_leastMen_15 : decode cX4_leastMen 15 = .ok (.ifCond .eq 5, 3) := by decide +kernel
theorem dX4_leastMen_18 : decode cX4_leastMen 18 = .ok (.iload_n 1, 1) := by decide +kernel
theorem dX4_leastMen_19 : decode cX4_leastMen 19 = .ok (.ireturn, 1) := by decide +kernel
theorem dX4_leastMen_20 : decode cX4_leastMen 20 = .ok (.iinc 1 1, 3) := by decide +kernel
theorem dX4_leastMen_23 : decode cX4_leastMen 23 = .ok (.goto (-21), 3) := by decide +kernel
theorem dX4_leastMen_26 : decode cX4_leastMen 26 = .ok (.iconst (-1), 1) := by decide +kernel
theorem dX4_leastMen_27 : decode cX4_leastMen 27 = .ok (.ireturn, 1) := by decide +kernel
set_option maxRecDepth 20000 in
theorem ggX4_placeFrom_X4_canJoin : GoodIn wsX4_placeFrom wsX4_canJoin := goodIn_r _ [11, 2, 12, 13, 14, 10, 15, 16, 17, 18, 19, 20, 21, 1, 24, 25, 26, 27] (by decide +kernel) (by decide +kernel)
set_option maxRecDepth 20000 in
theorem gX4_placeFrom_X4_canJoin : GoodIn wsX4_placeFrom (wsV RX4 34 RX4 yX4_canJoin wsX4_canJoin) := goodIn_app (goodIn_of _ (by decide +kernel)) ggX4_placeFrom_X4_canJoin
set_option maxRecDepth 20000 in
theorem ggX4_placeFrom_X4_placeFrom : GoodIn wsX4_placeFrom wsX4_placeFrom := goodIn_r _ [0, 1, 2, 3, 4, 5, 6, 7, 8, 9, 10, 11, 12, 13, 14, 15, 16, 17, 18, 19, 20, 21, 22, 23, 24, 25, 26, 27] (by decide +kernel) (by decide +kernel)
set_option maxRecDepth 20000 in
theorem gX4_placeFrom_X4_placeFrom : GoodIn wsX4_placeFrom (va_wsS RX4 30 yX4_placeFrom wsX4_placeFrom) := goodIn_app (goodIn_of _ (by decide +kernel)) ggX4_placeFrom_X4_placeFrom
theorem dX4_placeFrom_0 : decode cX4_placeFrom 0 = .ok (.iload_n 1, 1) := by decide +kernel
theorem dX4_placeFrom_1 : decode cX4_placeFrom 1 = .ok (.aload_n 0, 1) := by decide +kernel
theorem dX4_placeFrom_2 : decode cX4_placeFrom 2 = .ok (.getfield 21, 3) := by decide +kernel
theorem dX4_placeFrom_5 : decode cX4_placeFrom 5 = .ok (.if_icmp .ge 9, 3) := by decide +kernel
theorem dX4_placeFrom_8 : decode cX4_placeFrom 8 = .ok (.iload_n 1, 1) := by decide +kernel
theorem dX4_placeFrom_9 : decode cX4_placeFrom 9 = .ok (.bipush 8, 2) := by decide +kernel
theorem dX4_placeFrom_11 : decode cX4_placeFrom 11 = .ok (.if_icmp .lt 5, 3) := by decide +kernel
theorem dX4_placeFrom_14 : decode cX4_placeFrom 14 = .ok (.iconst 1, 1) := by decide +kernel
theorem dX4_placeFrom_15 : decode cX4_placeFrom 15 = .ok (.ireturn, 1) := by decide +kernel
theorem dX4_placeFrom_16 : decode cX4_placeFrom 16 = .ok (.iconst 0, 1) := by decide +kernel
theorem dX4_placeFrom_17 : decode cX4_placeFrom 17 = .ok (.istore 4, 2) := by decide +kernel
theorem dX4_placeFrom_19 : decode cX4_placeFrom 19 = .ok (.iload 4, 2) := by decide +kernel
theorem dX4_placeFrom_21 : decode cX4_placeFrom 21 = .ok (.iload_n 2, 1) := by decide +kernel
theorem dX4_placeFrom_22 : decode cX4_placeFrom 22 = .ok (.if_icmp .gt 54, 3) := by decide +kernel
theorem dX4_placeFrom_25 : decode cX4_placeFrom 25 = .ok (.iload 4, 2) := by decide +kernel
theorem dX4_placeFrom_27 : decode cX4_placeFrom 27 = .ok (.iload_n 3, 1) := by decide +kernel
theorem dX4_placeFrom_28 : decode cX4_placeFrom 28 = .ok (.if_icmp .ge 48, 3) := by decide +kernel
theorem dX4_placeFrom_31 : decode cX4_placeFrom 31 = .ok (.aload_n 0, 1) := by decide +kernel
theorem dX4_placeFrom_32 : decode cX4_placeFrom 32 = .ok (.iload_n 1, 1) := by decide +kernel
theorem dX4_placeFrom_33 : decode cX4_placeFrom 33 = .ok (.iload 4, 2) := by decide +kernel
theorem dX4_placeFrom_35 : decode cX4_placeFrom 35 = .ok (.invokevirtual 34, 3) := by decide +kernel
theorem dX4_placeFrom_38 : decode cX4_placeFrom 38 = .ok (.ifCond .eq 32, 3) := by decide +kernel
theorem dX4_placeFrom_41 : decode cX4_placeFrom 41 = .ok (.aload_n 0, 1) := by decide +kernel
theorem dX4_placeFrom_42 : decode cX4_placeFrom 42 = .ok (.getfield 9, 3) := by decide +kernel
theorem dX4_placeFrom_45 : decode cX4_placeFrom 45 = .ok (.iload_n 1, 1) := by decide +kernel
theorem dX4_placeFrom_46 : decode cX4_placeFrom 46 = .ok (.iload 4, 2) := by decide +kernel
theorem dX4_placeFrom_48 : decode cX4_placeFrom 48 = .ok (.iastore, 1) := by decide +kernel
theorem dX4_placeFrom_49 : decode cX4_placeFrom 49 = .ok (.aload_n 0, 1) := by decide +kernel
theorem dX4_placeFrom_50 : decode cX4_placeFrom 50 = .ok (.iload_n 1, 1) := by decide +kernel
theorem dX4_placeFrom_51 : decode cX4_placeFrom 51 = .ok (.iconst 1, 1) := by decide +kernel
theorem dX4_placeFrom_52 : decode cX4_placeFrom 52 = .ok (.iadd, 1) := by decide +kernel
theorem dX4_placeFrom_53 : decode cX4_placeFrom 53 = .ok (.iload_n 2, 1) := by decide +kernel
theorem dX4_placeFrom_54 : decode cX4_placeFrom 54 = .ok (.iload 4, 2) := by decide +kernel
theorem dX4_placeFrom_56 : decode cX4_placeFrom 56 = .ok (.iconst 1, 1) := by decide +kernel
theorem dX4_placeFrom_57 : decode cX4_placeFrom 57 = .ok (.iadd, 1) := by decide +kernel
theorem dX4_placeFrom_58 : decode cX4_placeFrom 58 = .ok (.invokestatic 38, 3) := by decide +kernel
theorem dX4_placeFrom_61 : decode cX4_placeFrom 61 = .ok (.iload_n 3, 1) := by decide +kernel
theorem dX4_placeFrom_62 : decode cX4_placeFrom 62 = .ok (.invokestatic 30, 3) := by decide +kernel
theorem dX4_placeFrom_65 : decode cX4_placeFrom 65 = .ok (.ifCond .eq 5, 3) := by decide +kernel
theorem dX4_placeFrom_68 : decode cX4_placeFrom 68 = .ok (.iconst 1, 1) := by decide +kernel
theorem dX4_placeFrom_69 : decode cX4_placeFrom 69 = .ok (.ireturn, 1) := by decide +kernel
theorem dX4_placeFrom_70 : decode cX4_placeFrom 70 = .ok (.iinc 4 1, 3) := by decide +kernel
theorem dX4_placeFrom_73 : decode cX4_placeFrom 73 = .ok (.goto (-54), 3) := by decide +kernel
theorem dX4_placeFrom_76 : decode cX4_placeFrom 76 = .ok (.iconst 0, 1) := by decide +kernel
theorem dX4_placeFrom_77 : decode cX4_placeFrom 77 = .ok (.ireturn, 1) := by decide +kernel
set_option maxRecDepth 20000 in
theorem ggX4_canJoin_X4_agree : GoodIn wsX4_canJoin wsX4_agree := goodIn_r _ [6, 7, 8, 9, 10, 11, 5, 12, 13, 14, 15, 16, 17] (by decide +kernel) (by decide +kernel)
set_option maxRecDepth 20000 in
theorem gX4_canJoin_X4_agree : GoodIn wsX4_canJoin (wsV RX4 44 RX4 yX4_agree wsX4_agree) := goodIn_app (goodIn_of _ (by decide +kernel)) ggX4_canJoin_X4_agree
theorem dX4_canJoin_0 : decode cX4_canJoin 0 = .ok (.iconst 0, 1) := by decide +kernel
theorem dX4_canJoin_1 : decode cX4_canJoin 1 = .ok (.istore_n 3, 1) := by decide +kernel
theorem dX4_canJoin_2 : decode cX4_canJoin 2 = .ok (.iload_n 3, 1) := by decide +kernel
theorem dX4_canJoin_3 : decode cX4_canJoin 3 = .ok (.iload_n 1, 1) := by decide +kernel
theorem dX4_canJoin_4 : decode cX4_canJoin 4 = .ok (.if_icmp .ge 36, 3) := by decide +kernel
theorem dX4_canJoin_7 : decode cX4_canJoin 7 = .ok (.iload_n 3, 1) := by decide +kernel
theorem dX4_canJoin_8 : decode cX4_canJoin 8 = .ok (.bipush 8, 2) := by decide +kernel
theorem dX4_canJoin_10 : decode cX4_canJoin 10 = .ok (.if_icmp .ge 30, 3) := by decide +kernel
theorem dX4_canJoin_13 : decode cX4_canJoin 13 = .ok (.aload_n 0, 1) := by decide +kernel
theorem dX4_canJoin_14 : decode cX4_canJoin 14 = .ok (.getfield 9, 3) := by decide +kernel
theorem dX4_canJoin_17 : decode cX4_canJoin 17 = .ok (.iload_n 3, 1) := by decide +kernel
theorem dX4_canJoin_18 : decode cX4_canJoin 18 = .ok (.iaload, 1) := by decide +kernel
theorem dX4_canJoin_19 : decode cX4_canJoin 19 = .ok (.iload_n 2, 1) := by decide +kernel
theorem dX4_canJoin_20 : decode cX4_canJoin 20 = .ok (.if_icmp .ne 14, 3) := by decide +kernel
theorem dX4_canJoin_23 : decode cX4_canJoin 23 = .ok (.aload_n 0, 1) := by decide +kernel
theorem dX4_canJoin_24 : decode cX4_canJoin 24 = .ok (.iload_n 3, 1) := by decide +kernel
theorem dX4_canJoin_25 : decode cX4_canJoin 25 = .ok (.iload_n 1, 1) := by decide +kernel
theorem dX4_canJoin_26 : decode cX4_canJoin 26 = .ok (.invokevirtual 44, 3) := by decide +kernel
theorem dX4_canJoin_29 : decode cX4_canJoin 29 = .ok (.ifCond .ne 5, 3) := by decide +kernel
theorem dX4_canJoin_32 : decode cX4_canJoin 32 = .ok (.iconst 0, 1) := by decide +kernel
theorem dX4_canJoin_33 : decode cX4_canJoin 33 = .ok (.ireturn, 1) := by decide +kernel
theorem dX4_canJoin_34 : decode cX4_canJoin 34 = .ok (.iinc 3 1, 3) := by decide +kernel
theorem dX4_canJoin_37 : decode cX4_canJoin 37 = .ok (.goto (-35), 3) := by decide +kernel
theorem dX4_canJoin_40 : decode cX4_canJoin 40 = .ok (.iconst 1, 1) := by decide +kernel
theorem dX4_canJoin_41 : decode cX4_canJoin 41 = .ok (.ireturn, 1) := by decide +kernel
theorem dX5_init_0 : decode cX5_init 0 = .ok (.aload_n 0, 1) := by decide +kernel
theorem dX5_init_1 : decode cX5_init 1 = .ok (.invokespecial 3, 3) := by decide +kernel
theorem dX5_init_4 : decode cX5_init 4 = .ok (.aload_n 0, 1) := by decide +kernel
theorem dX5_init_5 : decode cX5_init 5 = .ok (.bipush 41, 2) := by decide +kernel
theorem dX5_init_7 : decode cX5_init 7 = .ok (.bipush 7, 2) := by decide +kernel
theorem dX5_init_9 : decode cX5_init 9 = .ok (.multianewarray 9 2, 4) := by decide +kernel
theorem dX5_init_13 : decode cX5_init 13 = .ok (.putfield 11, 3) := by decide +kernel
theorem dX5_init_16 : decode cX5_init 16 = .ok (.aload_n 0, 1) := by decide +kernel
theorem dX5_init_17 : decode cX5_init 17 = .ok (.bipush 41, 2) := by decide +kernel
theorem dX5_init_19 : decode cX5_init 19 = .ok (.bipush 7, 2) := by decide +kernel
theorem dX5_init_21 : decode cX5_init 21 = .ok (.multianewarray 9 2, 4) := by decide +kernel
theorem dX5_init_25 : decode cX5_init 25 = .ok (.putfield 16, 3) := by decide +kernel
theorem dX5_init_28 : decode cX5_init 28 = .ok (.return_, 1) := by decide +kernel
set_option maxRecDepth 20000 in
theorem ggX5_leastTime_X5_isCell : GoodIn wsX5_leastTime wsX5_isCell := goodIn_r _ [5] (by decide +kernel) (by decide +kernel)
set_option maxRecDepth 20000 in
theorem gX5_leastTime_X5_isCell : GoodIn wsX5_leastTime (va_wsS RX5 19 yX5_isCell wsX5_isCell) := goodIn_app (goodIn_of _ (by decide +kernel)) ggX5_leastTime_X5_isCell
theorem dX5_leastTime_0 : decode cX5_leastTime 0 = .ok (.iload_n 1, 1) := by decide +kernel
theorem dX5_leastTime_1 : decode cX5_leastTime 1 = .ok (.iload_n 2, 1) := by decide +kernel
theorem dX5_leastTime_2 : decode cX5_leastTime 2 = .ok (.invokestatic 19, 3) := by decide +kernel
theorem dX5_leastTime_5 : decode cX5_leastTime 5 = .ok (.ifCond .eq 14, 3) := by decide +kernel
theorem dX5_leastTime_8 : decode cX5_leastTime 8 = .ok (.aload_n 0, 1) := by decide +kernel
theorem dX5_leastTime_9 : decode cX5_leastTime 9 = .ok (.getfield 11, 3) := by decide +kernel
theorem dX5_leastTime_12 : decode cX5_leastTime 12 = .ok (.iload_n 1, 1) := by decide +kernel
theorem dX5_leastTime_13 : decode cX5_leastTime 13 = .ok (.aaload, 1) := by decide +kernel
theorem dX5_leastTime_14 : decode cX5_leastTime 14 = .ok (.iload_n 2, 1) := by decide +kernel
theorem dX5_leastTime_15 : decode cX5_leastTime 15 = .ok (.iaload, 1) := by decide +kernel
theorem dX5_leastTime_16 : decode cX5_leastTime 16 = .ok (.goto 4, 3) := by decide +kernel
theorem dX5_leastTime_19 : decode cX5_leastTime 19 = .ok (.iconst (-1), 1) := by decide +kernel
theorem dX5_leastTime_20 : decode cX5_leastTime 20 = .ok (.ireturn, 1) := by decide +kernel
set_option maxRecDepth 20000 in
theorem ggX5_mostTime_X5_isCell : GoodIn wsX5_mostTime wsX5_isCell := goodIn_r _ [5] (by decide +kernel) (by decide +kernel)
set_option maxRecDepth 20000 in
theorem gX5_mostTime_X5_isCell : GoodIn wsX5_mostTime (va_wsS RX5 19 yX5_isCell wsX5_isCell) := goodIn_app (goodIn_of _ (by decide +kernel)) ggX5_mostTime_X5_isCell
theorem dX5_mostTime_0 : decode cX5_mostTime 0 = .ok (.iload_n 1, 1) := by decide +kernel
theorem dX5_mostTime_1 : decode cX5_mostTime 1 = .ok (.iload_n 2, 1) := by decide +kernel
theorem dX5_mostTime_2 : decode cX5_mostTime 2 = .ok (.invokestatic 19, 3) := by decide +kernel
theorem dX5_mostTime_5 : decode cX5_mostTime 5 = .ok (.ifCond .eq 14, 3) := by decide +kernel
theorem dX5_mostTime_8 : decode cX5_mostTime 8 = .ok (.aload_n 0, 1) := by decide +kernel
theorem dX5_mostTime_9 : decode cX5_mostTime 9 = .ok (.getfield 16, 3) := by decide +kernel
theorem dX5_mostTime_12 : decode cX5_mostTime 12 = .ok (.iload_n 1, 1) := by decide +kernel
theorem dX5_mostTime_13 : decode cX5_mostTime 13 = .ok (.aaload, 1) := by decide +kernel
theorem dX5_mostTime_14 : decode cX5_mostTime 14 = .ok (.iload_n 2, 1) := by decide +kernel
theorem dX5_mostTime_15 : decode cX5_mostTime 15 = .ok (.iaload, 1) := by decide +kernel
theorem dX5_mostTime_16 : decode cX5_mostTime 16 = .ok (.goto 4, 3) := by decide +kernel
theorem dX5_mostTime_19 : decode cX5_mostTime 19 = .ok (.iconst (-1), 1) := by decide +kernel
theorem dX5_mostTime_20 : decode cX5_mostTime 20 = .ok (.ireturn, 1) := by decide +kernel
set_option maxRecDepth 20000 in
theorem ggX5_layDays_X5_layDay : GoodIn wsX5_layDays wsX5_layDay := goodIn_r _ [5, 6, 7, 8, 9, 10, 11, 12, 13, 4, 14, 15, 16, 17, 18, 19, 20, 21, 22, 23, 24, 25, 26, 27, 28, 29, 30, 31, 32, 33, 34, 35, 36, 37, 38, 39, 40, 41, 42, 43, 44, 45, 46, 47, 48, 49, 50, 51, 52, 53, 54, 55, 56, 57, 58, 59, 60, 61, 62, 63, 64, 65] (by decide +kernel) (by decide +kernel)
set_option maxRecDepth 20000 in
theorem gX5_layDays_X5_layDay : GoodIn wsX5_layDays (wsV RX5 23 RX5 yX5_layDay wsX5_layDay) := goodIn_app (goodIn_of _ (by decide +kernel)) ggX5_layDays_X5_layDay
theorem dX5_layDays_0 : decode cX5_layDays 0 = .ok (.iconst 1, 1) := by decide +kernel
theorem dX5_layDays_1 : decode cX5_layDays 1 = .ok (.istore 4, 2) := by decide +kernel
theorem dX5_layDays_3 : decode cX5_layDays 3 = .ok (.iload 4, 2) := by decide +kernel
theorem dX5_layDays_5 : decode cX5_layDays 5 = .ok (.iload_n 3, 1) := by decide +kernel
theorem dX5_layDays_6 : decode cX5_layDays 6 = .ok (.if_icmp .gt 24, 3) := by decide +kernel
theorem dX5_layDays_9 : decode cX5_layDays 9 = .ok (.iload 4, 2) := by decide +kernel
theorem dX5_layDays_11 : decode cX5_layDays 11 = .ok (.bipush 40, 2) := by decide +kernel
theorem dX5_layDays_13 : decode cX5_layDays 13 = .ok (.if_icmp .gt 17, 3) := by decide +kernel
theorem dX5_layDays_16 : decode cX5_layDays 16 = .ok (.aload_n 0, 1) := by decide +kernel
theorem dX5_layDays_17 : decode cX5_layDays 17 = .ok (.aload_n 1, 1) := by decide +kernel
theorem dX5_layDays_18 : decode cX5_layDays 18 = .ok (.iload_n 2, 1) := by decide +kernel
theorem dX5_layDays_19 : decode cX5_layDays 19 = .ok (.iload 4, 2) := by decide +kernel
theorem dX5_layDays_21 : decode cX5_layDays 21 = .ok (.invokevirtual 23, 3) := by decide +kernel
theorem dX5_layDays_24 : decode cX5_layDays 24 = .ok (.iinc 4 1, 3) := by decide +kernel
theorem dX5_layDays_27 : decode cX5_layDays 27 = .ok (.goto (-24), 3) := by decide +kernel
theorem dX5_layDays_30 : decode cX5_layDays 30 = .ok (.return_, 1) := by decide +kernel
set_option maxRecDepth 20000 in
theorem ggX5_daysReaching_X5_layDay : GoodIn wsX5_daysReaching wsX5_layDay := goodIn_r _ [9, 10, 11, 12, 13, 14, 15, 16, 17, 8, 18, 19, 20, 21, 22, 23, 24, 3, 25, 1, 2, 4, 26, 27, 28, 29, 30, 31, 32, 33, 34, 35, 36, 37, 38, 39, 40, 41, 42, 43, 44, 45, 46, 47, 48, 49, 50, 51, 52, 53, 54, 55, 56, 57, 58, 59, 60, 61, 62, 63, 64, 65] (by decide +kernel) (by decide +kernel)
set_option maxRecDepth 20000 in
theorem gX5_daysReaching_X5_layDay : GoodIn wsX5_daysReaching (wsV RX5 23 RX5 yX5_layDay wsX5_layDay) := goodIn_app (goodIn_of _ (by decide +kernel)) ggX5_daysReaching_X5_layDay
set_option maxRecDepth 20000 in
theorem ggX5_daysReaching_X5_mostTime : GoodIn wsX5_daysReaching wsX5_mostTime := goodIn_r _ [41, 27, 16, 17, 8, 18, 64, 65] (by decide +kernel) (by decide +kernel)
set_option maxRecDepth 20000 in
theorem gX5_daysReaching_X5_mostTime : GoodIn wsX5_daysReaching (wsV RX5 27 RX5 yX5_mostTime wsX5_mostTime) := goodIn_app (goodIn_of _ (by decide +kernel)) ggX5_daysReaching_X5_mostTime
theorem dX5_daysReaching_0 : decode cX5_daysReaching 0 = .ok (.iconst 1, 1) := by decide +kernel
theorem dX5_daysReaching_1 : decode cX5_daysReaching 1 = .ok (.istore 5, 2) := by decide +kernel
theorem dX5_daysReaching_3 : decode cX5_daysReaching 3 = .ok (.iload 5, 2) := by decide +kernel
theorem dX5_daysReaching_5 : decode cX5_daysReaching 5 = .ok (.bipush 40, 2) := by decide +kernel
theorem dX5_daysReaching_7 : decode cX5_daysReaching 7 = .ok (.if_icmp .gt 36, 3) := by decide +kernel
theorem dX5_daysReaching_10 : decode cX5_daysReaching 10 = .ok (.aload_n 0, 1) := by decide +kernel
theorem dX5_daysReaching_11 : decode cX5_daysReaching 11 = .ok (.aload_n 1, 1) := by decide +kernel
theorem dX5_daysReaching_12 : decode cX5_daysReaching 12 = .ok (.iload_n 3, 1) := by decide +kernel
theorem dX5_daysReaching_13 : decode cX5_daysReaching 13 = .ok (.iload 5, 2) := by decide +kernel
theorem dX5_daysReaching_15 : decode cX5_daysReaching 15 = .ok (.invokevirtual 23, 3) := by decide +kernel
theorem dX5_daysReaching_18 : decode cX5_daysReaching 18 = .ok (.aload_n 0, 1) := by decide +kernel
theorem dX5_daysReaching_19 : decode cX5_daysReaching 19 = .ok (.iload 5, 2) := by decide +kernel
theorem dX5_daysReaching_21 : decode cX5_daysReaching 21 = .ok (.iload_n 2, 1) := by decide +kernel
theorem dX5_daysReaching_22 : decode cX5_daysReaching 22 = .ok (.invokevirtual 27, 3) := by decide +kernel
theorem dX5_daysReaching_25 : decode cX5_daysReaching 25 = .ok (.iconst 0, 1) := by decide +kernel
theorem dX5_daysReaching_26 : decode cX5_daysReaching 26 = .ok (.iload 4, 2) := by decide +kernel
theorem dX5_daysReaching_28 : decode cX5_daysReaching 28 = .ok (.invokestatic 31, 3) := by decide +kernel
theorem dX5_daysReaching_31 : decode cX5_daysReaching 31 = .ok (.if_icmp .lt 6, 3) := by decide +kernel
theorem dX5_daysReaching_34 : decode cX5_daysReaching 34 = .ok (.iload 5, 2) := by decide +kernel
theorem dX5_daysReaching_36 : decode cX5_daysReaching 36 = .ok (.ireturn, 1) := by decide +kernel
theorem dX5_daysReaching_37 : decode cX5_daysReaching 37 = .ok (.iinc 5 1, 3) := by decide +kernel
theorem dX5_daysReaching_40 : decode cX5_daysReaching 40 = .ok (.goto (-37), 3) := by decide +kernel
theorem dX5_daysReaching_43 : decode cX5_daysReaching 43 = .ok (.iconst (-1), 1) := by decide +kernel
theorem dX5_daysReaching_44 : decode cX5_daysReaching 44 = .ok (.ireturn, 1) := by decide +kernel
set_option maxRecDepth 20000 in
theorem ggX5_partOfDay_X0_rateOf : GoodIn wsX5_partOfDay wsX0_rateOf := goodIn_r _ [5, 6, 7, 8, 9, 4, 10, 11, 38, 39, 40, 41, 42, 43, 44, 45, 46, 47, 48, 49, 50] (by decide +kernel) (by decide +kernel)
set_option maxRecDepth 20000 in
theorem gX5_partOfDay_X0_rateOf : GoodIn wsX5_partOfDay (wsV RX5 36 RX0 yX0_rateOf wsX0_rateOf) := goodIn_app (goodIn_of _ (by decide +kernel)) ggX5_partOfDay_X0_rateOf
set_option maxRecDepth 20000 in
theorem ggX5_partOfDay_X5_firstReaching : GoodIn wsX5_partOfDay wsX5_firstReaching := goodIn_r _ [16, 17, 18, 19, 20, 21, 22, 23, 4, 24, 7, 8, 9, 10, 11, 25, 26, 27, 28, 29, 30, 31, 32, 15, 33, 34, 35, 36, 37, 38, 39, 40, 41, 42, 43, 44, 45, 46, 47, 48, 49, 50, 51, 52] (by decide +kernel) (by decide +kernel)
set_option maxRecDepth 20000 in
theorem gX5_partOfDay_X5_firstReaching : GoodIn wsX5_partOfDay (wsV RX5 42 RX5 yX5_firstReaching wsX5_firstReaching) := goodIn_app (goodIn_of _ (by decide +kernel)) ggX5_partOfDay_X5_firstReaching
theorem dX5_partOfDay_0 : decode cX5_partOfDay 0 = .ok (.iload_n 2, 1) := by decide +kernel
theorem dX5_partOfDay_1 : decode cX5_partOfDay 1 = .ok (.istore 6, 2) := by decide +kernel
theorem dX5_partOfDay_3 : decode cX5_partOfDay 3 = .ok (.iload_n 3, 1) := by decide +kernel
theorem dX5_partOfDay_4 : decode cX5_partOfDay 4 = .ok (.istore 7, 2) := by decide +kernel
theorem dX5_partOfDay_6 : decode cX5_partOfDay 6 = .ok (.iconst 0, 1) := by decide +kernel
theorem dX5_partOfDay_7 : decode cX5_partOfDay 7 = .ok (.istore 8, 2) := by decide +kernel
theorem dX5_partOfDay_9 : decode cX5_partOfDay 9 = .ok (.iload 8, 2) := by decide +kernel
theorem dX5_partOfDay_11 : decode cX5_partOfDay 11 = .ok (.iload 5, 2) := by decide +kernel
theorem dX5_partOfDay_13 : decode cX5_partOfDay 13 = .ok (.if_icmp .ge 45, 3) := by decide +kernel
theorem dX5_partOfDay_16 : decode cX5_partOfDay 16 = .ok (.iload 8, 2) := by decide +kernel
theorem dX5_partOfDay_18 : decode cX5_partOfDay 18 = .ok (.bipush 40, 2) := by decide +kernel
theorem dX5_partOfDay_20 : decode cX5_partOfDay 20 = .ok (.if_icmp .ge 38, 3) := by decide +kernel
theorem dX5_partOfDay_23 : decode cX5_partOfDay 23 = .ok (.iload 7, 2) := by decide +kernel
theorem dX5_partOfDay_25 : decode cX5_partOfDay 25 = .ok (.aload_n 1, 1) := by decide +kernel
theorem dX5_partOfDay_26 : decode cX5_partOfDay 26 = .ok (.iload 6, 2) := by decide +kernel
theorem dX5_partOfDay_28 : decode cX5_partOfDay 28 = .ok (.invokevirtual 36, 3) := by decide +kernel
theorem dX5_partOfDay_31 : decode cX5_partOfDay 31 = .ok (.isub, 1) := by decide +kernel
theorem dX5_partOfDay_32 : decode cX5_partOfDay 32 = .ok (.istore 7, 2) := by decide +kernel
theorem dX5_partOfDay_34 : decode cX5_partOfDay 34 = .ok (.aload_n 0, 1) := by decide +kernel
theorem dX5_partOfDay_35 : decode cX5_partOfDay 35 = .ok (.aload_n 1, 1) := by decide +kernel
theorem dX5_partOfDay_36 : decode cX5_partOfDay 36 = .ok (.iload 6, 2) := by decide +kernel
theorem dX5_partOfDay_38 : decode cX5_partOfDay 38 = .ok (.iload 4, 2) := by decide +kernel
theorem dX5_partOfDay_40 : decode cX5_partOfDay 40 = .ok (.iconst 1, 1) := by decide +kernel
theorem dX5_partOfDay_41 : decode cX5_partOfDay 41 = .ok (.isub, 1) := by decide +kernel
theorem dX5_partOfDay_42 : decode cX5_partOfDay 42 = .ok (.iload 8, 2) := by decide +kernel
theorem dX5_partOfDay_44 : decode cX5_partOfDay 44 = .ok (.isub, 1) := by decide +kernel
theorem dX5_partOfDay_45 : decode cX5_partOfDay 45 = .ok (.iload 7, 2) := by decide +kernel
theorem dX5_partOfDay_47 : decode cX5_partOfDay 47 = .ok (.invokevirtual 42, 3) := by decide +kernel
theorem dX5_partOfDay_50 : decode cX5_partOfDay 50 = .ok (.istore 6, 2) := by decide +kernel
theorem dX5_partOfDay_52 : decode cX5_partOfDay 52 = .ok (.iinc 8 1, 3) := by decide +kernel
theorem dX5_partOfDay_55 : decode cX5_partOfDay 55 = .ok (.goto (-46), 3) := by decide +kernel
theorem dX5_partOfDay_58 : decode cX5_partOfDay 58 = .ok (.iload 6, 2) := by decide +kernel
theorem dX5_partOfDay_60 : decode cX5_partOfDay 60 = .ok (.ireturn, 1) := by decide +kernel
set_option maxRecDepth 20000 in
theorem ggX5_firstReaching_X0_mayFollow : GoodIn wsX5_firstReaching wsX0_mayFollow := goodIn_r _ [9, 10, 11, 12, 8, 13, 14, 15, 16, 17, 18, 19, 29, 30, 31, 32, 33, 34, 35, 36, 37, 38, 39, 40, 41] (by decide +kernel) (by decide +kernel)
set_option maxRecDepth 20000 in
theorem gX5_firstReaching_X0_mayFollow : GoodIn wsX5_firstReaching (wsV RX5 46 RX0 yX0_mayFollow wsX0_mayFollow) := goodIn_app (goodIn_of _ (by decide +kernel)) ggX5_firstReaching_X0_mayFollow
set_option maxRecDepth 20000 in
theorem ggX5_firstReaching_X5_mostTime : GoodIn wsX5_firstReaching wsX5_mostTime := goodIn_r _ [24, 25, 26, 27, 23, 28, 42, 43] (by decide +kernel) (by decide +kernel)
set_option maxRecDepth 20000 in
theorem gX5_firstReaching_X5_mostTime : GoodIn wsX5_firstReaching (wsV RX5 27 RX5 yX5_mostTime wsX5_mostTime) := goodIn_app (goodIn_of _ (by decide +kernel)) ggX5_firstReaching_X5_mostTime
theorem dX5_firstReaching_0 : decode cX5_firstReaching 0 = .ok (.iconst 0, 1) := by decide +kernel
theorem dX5_firstReaching_1 : decode cX5_firstReaching 1 = .ok (.istore 5, 2) := by decide +kernel
theorem dX5_firstReaching_3 : decode cX5_firstReaching 3 = .ok (.iload 5, 2) := by decide +kernel
theorem dX5_firstReaching_5 : decode cX5_firstReaching 5 = .ok (.bipush 7, 2) := by decide +kernel
theorem dX5_firstReaching_7 : decode cX5_firstReaching 7 = .ok (.if_icmp .ge 38, 3) := by decide +kernel
theorem dX5_firstReaching_10 : decode cX5_firstReaching 10 = .ok (.aload_n 1, 1) := by decide +kernel
theorem dX5_firstReaching_11 : decode cX5_firstReaching 11 = .ok (.iload_n 2, 1) := by decide +kernel
theorem dX5_firstReaching_12 : decode cX5_firstReaching 12 = .ok (.iload 5, 2) := by decide +kernel
theorem dX5_firstReaching_14 : decode cX5_firstReaching 14 = .ok (.invokevirtual 46, 3) := by decide +kernel
theorem dX5_firstReaching_17 : decode cX5_firstReaching 17 = .ok (.ifCond .eq 22, 3) := by decide +kernel
theorem dX5_firstReaching_20 : decode cX5_firstReaching 20 = .ok (.aload_n 0, 1) := by decide +kernel
theorem dX5_firstReaching_21 : decode cX5_firstReaching 21 = .ok (.iload_n 3, 1) := by decide +kernel
theorem dX5_firstReaching_22 : decode cX5_firstReaching 22 = .ok (.iload 5, 2) := by decide +kernel
theorem dX5_firstReaching_24 : decode cX5_firstReaching 24 = .ok (.invokevirtual 27, 3) := by decide +kernel
theorem dX5_firstReaching_27 : decode cX5_firstReaching 27 = .ok (.iconst 0, 1) := by decide +kernel
theorem dX5_firstReaching_28 : decode cX5_firstReaching 28 = .ok (.iload 4, 2) := by decide +kernel
theorem dX5_firstReaching_30 : decode cX5_firstReaching 30 = .ok (.invokestatic 31, 3) := by decide +kernel
theorem dX5_firstReaching_33 : decode cX5_firstReaching 33 = .ok (.if_icmp .lt 6, 3) := by decide +kernel
theorem dX5_firstReaching_36 : decode cX5_firstReaching 36 = .ok (.iload 5, 2) := by decide +kernel
theorem dX5_firstReaching_38 : decode cX5_firstReaching 38 = .ok (.ireturn, 1) := by decide +kernel
theorem dX5_firstReaching_39 : decode cX5_firstReaching 39 = .ok (.iinc 5 1, 3) := by decide +kernel
theorem dX5_firstReaching_42 : decode cX5_firstReaching 42 = .ok (.goto (-39), 3) := by decide +kernel
theorem dX5_firstReaching_45 : decode cX5_firstReaching 45 = .ok (.iconst (-1), 1) := by decide +kernel
theorem dX5_firstReaching_46 : decode cX5_firstReaching 46 = .ok (.ireturn, 1) := by decide +kernel
set_option maxRecDepth 20000 in
theorem ggX5_layDay_X0_hasPart : GoodIn wsX5_layDay wsX0_hasPart := goodIn_r _ [5, 6, 47, 48, 49, 50, 51, 52, 53, 54, 55, 56, 57, 58, 59] (by decide +kernel) (by decide +kernel)
set_option maxRecDepth 20000 in
theorem gX5_layDay_X0_hasPart : GoodIn wsX5_layDay (wsV RX5 49 RX0 yX0_hasPart wsX0_hasPart) := goodIn_app (goodIn_of _ (by decide +kernel)) ggX5_layDay_X0_hasPart
set_option maxRecDepth 20000 in
theorem ggX5_layDay_X5_isCell : GoodIn wsX5_layDay wsX5_isCell := goodIn_r _ [10] (by decide +kernel) (by decide +kernel)
set_option maxRecDepth 20000 in
theorem gX5_layDay_X5_isCell : GoodIn wsX5_layDay (va_wsS RX5 19 yX5_isCell wsX5_isCell) := goodIn_app (goodIn_of _ (by decide +kernel)) ggX5_layDay_X5_isCell
set_option maxRecDepth 20000 in
theorem ggX5_layDay_X5_layCell : GoodIn wsX5_layDay wsX5_layCell := goodIn_r _ [14, 15, 16, 17, 18, 19, 20, 21, 22, 23, 24, 25, 26, 4, 27, 28, 2, 3, 5, 6, 29, 30, 31, 32, 33, 34, 35, 36, 9, 37, 7, 8, 10, 38, 39, 40, 41, 42, 43, 44, 45, 46, 60, 61, 47, 48, 49, 50, 51, 52, 53, 54, 55, 56, 57, 58, 59] (by decide +kernel) (by decide +kernel)
set_option maxRecDepth 20000 in
theorem gX5_layDay_X5_layCell : GoodIn wsX5_layDay (wsV RX5 53 RX5 yX5_layCell wsX5_layCell) := goodIn_app (goodIn_of _ (by decide +kernel)) ggX5_layDay_X5_layCell
theorem dX5_layDay_0 : decode cX5_layDay 0 = .ok (.iconst 0, 1) := by decide +kernel
theorem dX5_layDay_1 : decode cX5_layDay 1 = .ok (.istore 4, 2) := by decide +kernel
theorem dX5_layDay_3 : decode cX5_layDay 3 = .ok (.iload 4, 2) := by decide +kernel
theorem dX5_layDay_5 : decode cX5_layDay 5 = .ok (.bipush 7, 2) := by decide +kernel
theorem dX5_layDay_7 : decode cX5_layDay 7 = .ok (.if_icmp .ge 36, 3) := by decide +kernel
theorem dX5_layDay_10 : decode cX5_layDay 10 = .ok (.aload_n 1, 1) := by decide +kernel
theorem dX5_layDay_11 : decode cX5_layDay 11 = .ok (.iload 4, 2) := by decide +kernel
theorem dX5_layDay_13 : decode cX5_layDay 13 = .ok (.invokevirtual 49, 3) := by decide +kernel
theorem dX5_layDay_16 : decode cX5_layDay 16 = .ok (.ifCond .eq 21, 3) := by decide +kernel
theorem dX5_layDay_19 : decode cX5_layDay 19 = .ok (.iload_n 3, 1) := by decide +kernel
theorem dX5_layDay_20 : decode cX5_layDay 20 = .ok (.iload 4, 2) := by decide +kernel
theorem dX5_layDay_22 : decode cX5_layDay 22 = .ok (.invokestatic 19, 3) := by decide +kernel
theorem dX5_layDay_25 : decode cX5_layDay 25 = .ok (.ifCond .eq 12, 3) := by decide +kernel
theorem dX5_layDay_28 : decode cX5_layDay 28 = .ok (.aload_n 0, 1) := by decide +kernel
theorem dX5_layDay_29 : decode cX5_layDay 29 = .ok (.aload_n 1, 1) := by decide +kernel
theorem dX5_layDay_30 : decode cX5_layDay 30 = .ok (.iload_n 2, 1) := by decide +kernel
theorem dX5_layDay_31 : decode cX5_layDay 31 = .ok (.iload_n 3, 1) := by decide +kernel
theorem dX5_layDay_32 : decode cX5_layDay 32 = .ok (.iload 4, 2) := by decide +kernel
theorem dX5_layDay_34 : decode cX5_layDay 34 = .ok (.invokevirtual 53, 3) := by decide +kernel
theorem dX5_layDay_37 : decode cX5_layDay 37 = .ok (.iinc 4 1, 3) := by decide +kernel
theorem dX5_layDay_40 : decode cX5_layDay 40 = .ok (.goto (-37), 3) := by decide +kernel
theorem dX5_layDay_43 : decode cX5_layDay 43 = .ok (.return_, 1) := by decide +kernel
set_option maxRecDepth 20000 in
theorem ggX5_layCell_X0_mayFollow : GoodIn wsX5_layCell wsX0_mayFollow := goodIn_r _ [14, 15, 16, 17, 13, 18, 19, 20, 21, 22, 23, 24, 44, 45, 46, 47, 48, 49, 50, 51, 52, 53, 54, 55, 56] (by decide +kernel) (by decide +kernel)
set_option maxRecDepth 20000 in
theorem gX5_layCell_X0_mayFollow : GoodIn wsX5_layCell (wsV RX5 46 RX0 yX0_mayFollow wsX0_mayFollow) := goodIn_app (goodIn_of _ (by decide +kernel)) ggX5_layCell_X0_mayFollow
set_option maxRecDepth 20000 in
theorem ggX5_layCell_X5_mostTime : GoodIn wsX5_layCell wsX5_mostTime := goodIn_r _ [29, 9, 30, 31, 28, 32, 42, 43] (by decide +kernel) (by decide +kernel)
set_option maxRecDepth 20000 in
theorem gX5_layCell_X5_mostTime : GoodIn wsX5_layCell (wsV RX5 27 RX5 yX5_mostTime wsX5_mostTime) := goodIn_app (goodIn_of _ (by decide +kernel)) ggX5_layCell_X5_mostTime
set_option maxRecDepth 20000 in
theorem ggX5_layCell_X5_leastTime : GoodIn wsX5_layCell wsX5_leastTime := goodIn_r _ [36, 8, 30, 31, 28, 32, 42, 43] (by decide +kernel) (by decide +kernel)
set_option maxRecDepth 20000 in
theorem gX5_layCell_X5_leastTime : GoodIn wsX5_layCell (wsV RX5 57 RX5 yX5_leastTime wsX5_leastTime) := goodIn_app (goodIn_of _ (by decide +kernel)) ggX5_layCell_X5_leastTime
set_option maxRecDepth 20000 in
theorem ggX5_layCell_X0_rateOf : GoodIn wsX5_layCell wsX0_rateOf := goodIn_r _ [40, 41, 15, 16, 17, 13, 18, 19, 44, 45, 46, 47, 48, 49, 50, 51, 52, 53, 54, 55, 56] (by decide +kernel) (by decide +kernel)
set_option maxRecDepth 20000 in
theorem gX5_layCell_X0_rateOf : GoodIn wsX5_layCell (wsV RX5 36 RX0 yX0_rateOf wsX0_rateOf) := goodIn_app (goodIn_of _ (by decide +kernel)) ggX5_layCell_X0_rateOf
theorem dX5_layCell_0 : decode cX5_layCell 0 = .ok (.iload_n 3, 1) := by decide +kernel
theorem dX5_layCell_1 : decode cX5_layCell 1 = .ok (.iconst 1, 1) := by decide +kernel
theorem dX5_layCell_2 : decode cX5_layCell 2 = .ok (.if_icmp .ne 13, 3) := by decide +kernel
theorem dX5_layCell_5 : decode cX5_layCell 5 = .ok (.iload 4, 2) := by decide +kernel
theorem dX5_layCell_7 : decode cX5_layCell 7 = .ok (.iload_n 2, 1) := by decide +kernel
theorem dX5_layCell_8 : decode cX5_layCell 8 = .ok (.if_icmp .ne 7, 3) := by decide +kernel
theorem dX5_layCell_11 : decode cX5_layCell 11 = .ok (.iconst 0, 1) := by decide +kernel
theorem dX5_layCell_12 : decode cX5_layCell 12 = .ok (.goto 4, 3) := by decide +kernel
theorem dX5_layCell_15 : decode cX5_layCell 15 = .ok (.iconst (-1), 1) := by decide +kernel
theorem dX5_layCell_16 : decode cX5_layCell 16 = .ok (.istore 5, 2) := by decide +kernel
theorem dX5_layCell_18 : decode cX5_layCell 18 = .ok (.iload 5, 2) := by decide +kernel
theorem dX5_layCell_20 : decode cX5_layCell 20 = .ok (.istore 6, 2) := by decide +kernel
theorem dX5_layCell_22 : decode cX5_layCell 22 = .ok (.iconst 0, 1) := by decide +kernel
theorem dX5_layCell_23 : decode cX5_layCell 23 = .ok (.istore 7, 2) := by decide +kernel
theorem dX5_layCell_25 : decode cX5_layCell 25 = .ok (.iload 7, 2) := by decide +kernel
theorem dX5_layCell_27 : decode cX5_layCell 27 = .ok (.bipush 7, 2) := by decide +kernel
theorem dX5_layCell_29 : decode cX5_layCell 29 = .ok (.if_icmp .ge 88, 3) := by decide +kernel
theorem dX5_layCell_32 : decode cX5_layCell 32 = .ok (.iload_n 3, 1) := by decide +kernel
theorem dX5_layCell_33 : decode cX5_layCell 33 = .ok (.iconst 1, 1) := by decide +kernel
theorem dX5_layCell_34 : decode cX5_layCell 34 = .ok (.if_icmp .le 77, 3) := by decide +kernel
theorem dX5_layCell_37 : decode cX5_layCell 37 = .ok (.aload_n 1, 1) := by decide +kernel
theorem dX5_layCell_38 : decode cX5_layCell 38 = .ok (.iload 4, 2) := by decide +kernel
theorem dX5_layCell_40 : decode cX5_layCell 40 = .ok (.iload 7, 2) := by decide +kernel
theorem dX5_layCell_42 : decode cX5_layCell 42 = .ok (.invokevirtual 46, 3) := by decide +kernel
theorem dX5_layCell_45 : decode cX5_layCell 45 = .ok (.ifCond .eq 66, 3) := by decide +kernel
theorem dX5_layCell_48 : decode cX5_layCell 48 = .ok (.aload_n 0, 1) := by decide +kernel
theorem dX5_layCell_49 : decode cX5_layCell 49 = .ok (.iload_n 3, 1) := by decide +kernel
theorem dX5_layCell_50 : decode cX5_layCell 50 = .ok (.iconst 1, 1) := by decide +kernel
theorem dX5_layCell_51 : decode cX5_layCell 51 = .ok (.isub, 1) := by decide +kernel
theorem dX5_layCell_52 : decode cX5_layCell 52 = .ok (.iload 7, 2) := by decide +kernel
theorem dX5_layCell_54 : decode cX5_layCell 54 = .ok (.invokevirtual 27, 3) := by decide +kernel
theorem dX5_layCell_57 : decode cX5_layCell 57 = .ok (.iconst (-1), 1) := by decide +kernel
theorem dX5_layCell_58 : decode cX5_layCell 58 = .ok (.if_icmp .eq 53, 3) := by decide +kernel
theorem dX5_layCell_61 : decode cX5_layCell 61 = .ok (.iload 5, 2) := by decide +kernel
theorem dX5_layCell_63 : decode cX5_layCell 63 = .ok (.iconst (-1), 1) := by decide +kernel
theorem dX5_layCell_64 : decode cX5_layCell 64 = .ok (.if_icmp .ne 15, 3) := by decide +kernel
theorem dX5_layCell_67 : decode cX5_layCell 67 = .ok (.aload_n 0, 1) := by decide +kernel
theorem dX5_layCell_68 : decode cX5_layCell 68 = .ok (.iload_n 3, 1) := by decide +kernel
theorem dX5_layCell_69 : decode cX5_layCell 69 = .ok (.iconst 1, 1) := by decide +kernel
theorem dX5_layCell_70 : decode cX5_layCell 70 = .ok (.isub, 1) := by decide +kernel
theorem dX5_layCell_71 : decode cX5_layCell 71 = .ok (.iload 7, 2) := by decide +kernel
theorem dX5_layCell_73 : decode cX5_layCell 73 = .ok (.invokevirtual 57, 3) := by decide +kernel
theorem dX5_layCell_76 : decode cX5_layCell 76 = .ok (.goto 17, 3) := by decide +kernel
theorem dX5_layCell_79 : decode cX5_layCell 79 = .ok (.iload 5, 2) := by decide +kernel
theorem dX5_layCell_81 : decode cX5_layCell 81 = .ok (.aload_n 0, 1) := by decide +kernel
theorem dX5_layCell_82 : decode cX5_layCell 82 = .ok (.iload_n 3, 1) := by decide +kernel
theorem dX5_layCell_83 : decode cX5_layCell 83 = .ok (.iconst 1, 1) := by decide +kernel
theorem dX5_layCell_84 : decode cX5_layCell 84 = .ok (.isub, 1) := by decide +kernel
theorem dX5_layCell_85 : decode cX5_layCell 85 = .ok (.iload 7, 2) := by decide +kernel
theorem dX5_layCell_87 : decode cX5_layCell 87 = .ok (.invokevirtual 57, 3) := by decide +kernel
theorem dX5_layCell_90 : decode cX5_layCell 90 = .ok (.invokestatic 60, 3) := by decide +kernel
theorem dX5_layCell_93 : decode cX5_layCell 93 = .ok (.istore 5, 2) := by decide +kernel
theorem dX5_layCell_95 : decode cX5_layCell 95 = .ok (.iload 6, 2) := by decide +kernel
theorem dX5_layCell_97 : decode cX5_layCell 97 = .ok (.aload_n 0, 1) := by decide +kernel
theorem dX5_layCell_98 : decode cX5_layCell 98 = .ok (.iload_n 3, 1) := by decide +kernel
theorem dX5_layCell_99 : decode cX5_layCell 99 = .ok (.iconst 1, 1) := by decide +kernel
theorem dX5_layCell_100 : decode cX5_layCell 100 = .ok (.isub, 1) := by decide +kernel
theorem dX5_layCell_101 : decode cX5_layCell 101 = .ok (.iload 7, 2) := by decide +kernel
theorem dX5_layCell_103 : decode cX5_layCell 103 = .ok (.invokevirtual 27, 3) := by decide +kernel
theorem dX5_layCell_106 : decode cX5_layCell 106 = .ok (.invokestatic 31, 3) := by decide +kernel
theorem dX5_layCell_109 : decode cX5_layCell 109 = .ok (.istore 6, 2) := by decide +kernel
theorem dX5_layCell_111 : decode cX5_layCell 111 = .ok (.iinc 7 1, 3) := by decide +kernel
theorem dX5_layCell_114 : decode cX5_layCell 114 = .ok (.goto (-89), 3) := by decide +kernel
theorem dX5_layCell_117 : decode cX5_layCell 117 = .ok (.aload_n 0, 1) := by decide +kernel
theorem dX5_layCell_118 : decode cX5_layCell 118 = .ok (.getfield 11, 3) := by decide +kernel
theorem dX5_layCell_121 : decode cX5_layCell 121 = .ok (.iload_n 3, 1) := by decide +kernel
theorem dX5_layCell_122 : decode cX5_layCell 122 = .ok (.aaload, 1) := by decide +kernel
theorem dX5_layCell_123 : decode cX5_layCell 123 = .ok (.iload 4, 2) := by decide +kernel
theorem dX5_layCell_125 : decode cX5_layCell 125 = .ok (.iload 5, 2) := by decide +kernel
theorem dX5_layCell_127 : decode cX5_layCell 127 = .ok (.iconst (-1), 1) := by decide +kernel
theorem dX5_layCell_128 : decode cX5_layCell 128 = .ok (.if_icmp .ne 7, 3) := by decide +kernel
theorem dX5_layCell_131 : decode cX5_layCell 131 = .ok (.iconst (-1), 1) := by decide +kernel
theorem dX5_layCell_132 : decode cX5_layCell 132 = .ok (.goto 12, 3) := by decide +kernel
theorem dX5_layCell_135 : decode cX5_layCell 135 = .ok (.iload 5, 2) := by decide +kernel
theorem dX5_layCell_137 : decode cX5_layCell 137 = .ok (.aload_n 1, 1) := by decide +kernel
theorem dX5_layCell_138 : decode cX5_layCell 138 = .ok (.iload 4, 2) := by decide +kernel
theorem dX5_layCell_140 : decode cX5_layCell 140 = .ok (.invokevirtual 36, 3) := by decide +kernel
theorem dX5_layCell_143 : decode cX5_layCell 143 = .ok (.iadd, 1) := by decide +kernel
theorem dX5_layCell_144 : decode cX5_layCell 144 = .ok (.iastore, 1) := by decide +kernel
theorem dX5_layCell_145 : decode cX5_layCell 145 = .ok (.aload_n 0, 1) := by decide +kernel
theorem dX5_layCell_146 : decode cX5_layCell 146 = .ok (.getfield 16, 3) := by decide +kernel
theorem dX5_layCell_149 : decode cX5_layCell 149 = .ok (.iload_n 3, 1) := by decide +kernel
theorem dX5_layCell_150 : decode cX5_layCell 150 = .ok (.aaload, 1) := by decide +kernel
theorem dX5_layCell_151 : decode cX5_layCell 151 = .ok (.iload 4, 2) := by decide +kernel
theorem dX5_layCell_153 : decode cX5_layCell 153 = .ok (.iload 6, 2) := by decide +kernel
theorem dX5_layCell_155 : decode cX5_layCell 155 = .ok (.iconst (-1), 1) := by decide +kernel
theorem dX5_layCell_156 : decode cX5_layCell 156 = .ok (.if_icmp .ne 7, 3) := by decide +kernel
theorem dX5_layCell_159 : decode cX5_layCell 159 = .ok (.iconst (-1), 1) := by decide +kernel
theorem dX5_layCell_160 : decode cX5_layCell 160 = .ok (.goto 12, 3) := by decide +kernel
theorem dX5_layCell_163 : decode cX5_layCell 163 = .ok (.iload 6, 2) := by decide +kernel
theorem dX5_layCell_165 : decode cX5_layCell 165 = .ok (.aload_n 1, 1) := by decide +kernel
theorem dX5_layCell_166 : decode cX5_layCell 166 = .ok (.iload 4, 2) := by decide +kernel
theorem dX5_layCell_168 : decode cX5_layCell 168 = .ok (.invokevirtual 36, 3) := by decide +kernel
theorem dX5_layCell_171 : decode cX5_layCell 171 = .ok (.iadd, 1) := by decide +kernel
theorem dX5_layCell_172 : decode cX5_layCell 172 = .ok (.iastore, 1) := by decide +kernel
theorem dX5_layCell_173 : decode cX5_layCell 173 = .ok (.return_, 1) := by decide +kernel
theorem dX5_isCell_0 : decode cX5_isCell 0 = .ok (.iload_n 0, 1) := by decide +kernel
theorem dX5_isCell_1 : decode cX5_isCell 1 = .ok (.iconst 1, 1) := by decide +kernel
theorem dX5_isCell_2 : decode cX5_isCell 2 = .ok (.if_icmp .lt 23, 3) := by decide +kernel
theorem dX5_isCell_5 : decode cX5_isCell 5 = .ok (.iload_n 0, 1) := by decide +kernel
theorem dX5_isCell_6 : decode cX5_isCell 6 = .ok (.bipush 40, 2) := by decide +kernel
theorem dX5_isCell_8 : decode cX5_isCell 8 = .ok (.if_icmp .gt 17, 3) := by decide +kernel
theorem dX5_isCell_11 : decode cX5_isCell 11 = .ok (.iload_n 1, 1) := by decide +kernel
theorem dX5_isCell_12 : decode cX5_isCell 12 = .ok (.ifCond .lt 13, 3) := by decide +kernel
theorem dX5_isCell_15 : decode cX5_isCell 15 = .ok (.iload_n 1, 1) := by decide +kernel
theorem dX5_isCell_16 : decode cX5_isCell 16 = .ok (.bipush 7, 2) := by decide +kernel
theorem dX5_isCell_18 : decode cX5_isCell 18 = .ok (.if_icmp .ge 7, 3) := by decide +kernel
theorem dX5_isCell_21 : decode cX5_isCell 21 = .ok (.iconst 1, 1) := by decide +kernel
theorem dX5_isCell_22 : decode cX5_isCell 22 = .ok (.goto 4, 3) := by decide +kernel
theorem dX5_isCell_25 : decode cX5_isCell 25 = .ok (.iconst 0, 1) := by decide +kernel
theorem dX5_isCell_26 : decode cX5_isCell 26 = .ok (.ireturn, 1) := by decide +kernel
theorem dX6_init_0 : decode cX6_init 0 = .ok (.aload_n 0, 1) := by decide +kernel
theorem dX6_init_1 : decode cX6_init 1 = .ok (.invokespecial 3, 3) := by decide +kernel
theorem dX6_init_4 : decode cX6_init 4 = .ok (.aload_n 0, 1) := by decide +kernel
theorem dX6_init_5 : decode cX6_init 5 = .ok (.bipush 40, 2) := by decide +kernel
theorem dX6_init_7 : decode cX6_init 7 = .ok (.newarray .int, 2) := by decide +kernel
theorem dX6_init_9 : decode cX6_init 9 = .ok (.putfield 9, 3) := by decide +kernel
theorem dX6_init_12 : decode cX6_init 12 = .ok (.return_, 1) := by decide +kernel
theorem dX6_addDay_0 : decode cX6_addDay 0 = .ok (.aload_n 0, 1) := by decide +kernel
theorem dX6_addDay_1 : decode cX6_addDay 1 = .ok (.getfield 15, 3) := by decide +kernel
theorem dX6_addDay_4 : decode cX6_addDay 4 = .ok (.ifCond .lt 12, 3) := by decide +kernel
theorem dX6_addDay_7 : decode cX6_addDay 7 = .ok (.aload_n 0, 1) := by decide +kernel
theorem dX6_addDay_8 : decode cX6_addDay 8 = .ok (.getfield 15, 3) := by decide +kernel
theorem dX6_addDay_11 : decode cX6_addDay 11 = .ok (.bipush 40, 2) := by decide +kernel
theorem dX6_addDay_13 : decode cX6_addDay 13 = .ok (.if_icmp .lt 6, 3) := by decide +kernel
theorem dX6_addDay_16 : decode cX6_addDay 16 = .ok (.ldc 19, 2) := by decide +kernel
theorem dX6_addDay_18 : decode cX6_addDay 18 = .ok (.ireturn, 1) := by decide +kernel
theorem dX6_addDay_19 : decode cX6_addDay 19 = .ok (.aload_n 0, 1) := by decide +kernel
theorem dX6_addDay_20 : decode cX6_addDay 20 = .ok (.getfield 9, 3) := by decide +kernel
theorem dX6_addDay_23 : decode cX6_addDay 23 = .ok (.aload_n 0, 1) := by decide +kernel
theorem dX6_addDay_24 : decode cX6_addDay 24 = .ok (.getfield 15, 3) := by decide +kernel
theorem dX6_addDay_27 : decode cX6_addDay 27 = .ok (.iload_n 1, 1) := by decide +kernel
theorem dX6_addDay_28 : decode cX6_addDay 28 = .ok (.iastore, 1) := by decide +kernel
theorem dX6_addDay_29 : decode cX6_addDay 29 = .ok (.aload_n 0, 1) := by decide +kernel
theorem dX6_addDay_30 : decode cX6_addDay 30 = .ok (.dup, 1) := by decide +kernel
theorem dX6_addDay_31 : decode cX6_addDay 31 = .ok (.getfield 15, 3) := by decide +kernel
theorem dX6_addDay_34 : decode cX6_addDay 34 = .ok (.iconst 1, 1) := by decide +kernel
theorem dX6_addDay_35 : decode cX6_addDay 35 = .ok (.iadd, 1) := by decide +kernel
theorem dX6_addDay_36 : decode cX6_addDay 36 = .ok (.putfield 15, 3) := by decide +kernel
theorem dX6_addDay_39 : decode cX6_addDay 39 = .ok (.aload_n 0, 1) := by decide +kernel
theorem dX6_addDay_40 : decode cX6_addDay 40 = .ok (.getfield 15, 3) := by decide +kernel
theorem dX6_addDay_43 : decode cX6_addDay 43 = .ok (.ireturn, 1) := by decide +kernel
set_option maxRecDepth 20000 in
theorem ggX6_time_X0_rateOf : GoodIn wsX6_time wsX0_rateOf := goodIn_r _ [7, 8, 9, 10, 11, 6, 12, 13, 16, 17, 18, 19, 20, 21, 22, 23, 24, 25, 26, 27, 28] (by decide +kernel) (by decide +kernel)
set_option maxRecDepth 20000 in
theorem gX6_time_X0_rateOf : GoodIn wsX6_time (wsV RX6 20 RX0 yX0_rateOf wsX0_rateOf) := goodIn_app (goodIn_of _ (by decide +kernel)) ggX6_time_X0_rateOf
theorem dX6_time_0 : decode cX6_time 0 = .ok (.iconst 0, 1) := by decide +kernel
theorem dX6_time_1 : decode cX6_time 1 = .ok (.istore_n 2, 1) := by decide +kernel
theorem dX6_time_2 : decode cX6_time 2 = .ok (.iconst 0, 1) := by decide +kernel
theorem dX6_time_3 : decode cX6_time 3 = .ok (.istore_n 3, 1) := by decide +kernel
theorem dX6_time_4 : decode cX6_time 4 = .ok (.iload_n 3, 1) := by decide +kernel
theorem dX6_time_5 : decode cX6_time 5 = .ok (.aload_n 0, 1) := by decide +kernel
theorem dX6_time_6 : decode cX6_time 6 = .ok (.getfield 15, 3) := by decide +kernel
theorem dX6_time_9 : decode cX6_time 9 = .ok (.if_icmp .ge 28, 3) := by decide +kernel
theorem dX6_time_12 : decode cX6_time 12 = .ok (.iload_n 3, 1) := by decide +kernel
theorem dX6_time_13 : decode cX6_time 13 = .ok (.bipush 40, 2) := by decide +kernel
theorem dX6_time_15 : decode cX6_time 15 = .ok (.if_icmp .ge 22, 3) := by decide +kernel
theorem dX6_time_18 : decode cX6_time 18 = .ok (.iload_n 2, 1) := by decide +kernel
theorem dX6_time_19 : decode cX6_time 19 = .ok (.aload_n 1, 1) := by decide +kernel
theorem dX6_time_20 : decode cX6_time 20 = .ok (.aload_n 0, 1) := by decide +kernel
theorem dX6_time_21 : decode cX6_time 21 = .ok (.getfield 9, 3) := by decide +kernel
theorem dX6_time_24 : decode cX6_time 24 = .ok (.iload_n 3, 1) := by decide +kernel
theorem dX6_time_25 : decode cX6_time 25 = .ok (.iaload, 1) := by decide +kernel
theorem dX6_time_26 : decode cX6_time 26 = .ok (.invokevirtual 20, 3) := by decide +kernel
theorem dX6_time_29 : decode cX6_time 29 = .ok (.iadd, 1) := by decide +kernel
theorem dX6_time_30 : decode cX6_time 30 = .ok (.istore_n 2, 1) := by decide +kernel
theorem dX6_time_31 : decode cX6_time 31 = .ok (.iinc 3 1, 3) := by decide +kernel
theorem dX6_time_34 : decode cX6_time 34 = .ok (.goto (-30), 3) := by decide +kernel
theorem dX6_time_37 : decode cX6_time 37 = .ok (.iload_n 2, 1) := by decide +kernel
theorem dX6_time_38 : decode cX6_time 38 = .ok (.ireturn, 1) := by decide +kernel
set_option maxRecDepth 20000 in
theorem ggX6_wrongDay_X0_hasMouth : GoodIn wsX6_wrongDay wsX0_hasMouth := goodIn_r _ [7, 8, 9, 10, 11, 6, 12, 13, 25, 26, 27, 28, 29, 30, 31, 32, 33, 34, 35, 36, 37] (by decide +kernel) (by decide +kernel)
set_option maxRecDepth 20000 in
theorem gX6_wrongDay_X0_hasMouth : GoodIn wsX6_wrongDay (wsV RX6 26 RX0 yX0_hasMouth wsX0_hasMouth) := goodIn_app (goodIn_of _ (by decide +kernel)) ggX6_wrongDay_X0_hasMouth
set_option maxRecDepth 20000 in
theorem ggX6_wrongDay_X0_mayFollow : GoodIn wsX6_wrongDay wsX0_mayFollow := goodIn_r _ [17, 9, 10, 11, 6, 12, 13, 18, 19, 20, 21, 22, 25, 26, 27, 28, 29, 30, 31, 32, 33, 34, 35, 36, 37] (by decide +kernel) (by decide +kernel)
set_option maxRecDepth 20000 in
theorem gX6_wrongDay_X0_mayFollow : GoodIn wsX6_wrongDay (wsV RX6 30 RX0 yX0_mayFollow wsX0_mayFollow) := goodIn_app (goodIn_of _ (by decide +kernel)) ggX6_wrongDay_X0_mayFollow
theorem dX6_wrongDay_0 : decode cX6_wrongDay 0 = .ok (.aload_n 0, 1) := by decide +kernel
theorem dX6_wrongDay_1 : decode cX6_wrongDay 1 = .ok (.getfield 15, 3) := by decide +kernel
theorem dX6_wrongDay_4 : decode cX6_wrongDay 4 = .ok (.iconst 1, 1) := by decide +kernel
theorem dX6_wrongDay_5 : decode cX6_wrongDay 5 = .ok (.if_icmp .lt 12, 3) := by decide +kernel
theorem dX6_wrongDay_8 : decode cX6_wrongDay 8 = .ok (.aload_n 0, 1) := by decide +kernel
theorem dX6_wrongDay_9 : decode cX6_wrongDay 9 = .ok (.getfield 15, 3) := by decide +kernel
theorem dX6_wrongDay_12 : decode cX6_wrongDay 12 = .ok (.bipush 40, 2) := by decide +kernel
theorem dX6_wrongDay_14 : decode cX6_wrongDay 14 = .ok (.if_icmp .le 5, 3) := by decide +kernel
theorem dX6_wrongDay_17 : decode cX6_wrongDay 17 = .ok (.iconst (-1), 1) := by decide +kernel
theorem dX6_wrongDay_18 : decode cX6_wrongDay 18 = .ok (.ireturn, 1) := by decide +kernel
theorem dX6_wrongDay_19 : decode cX6_wrongDay 19 = .ok (.aload_n 1, 1) := by decide +kernel
theorem dX6_wrongDay_20 : decode cX6_wrongDay 20 = .ok (.aload_n 0, 1) := by decide +kernel
theorem dX6_wrongDay_21 : decode cX6_wrongDay 21 = .ok (.getfield 9, 3) := by decide +kernel
theorem dX6_wrongDay_24 : decode cX6_wrongDay 24 = .ok (.iconst 0, 1) := by decide +kernel
theorem dX6_wrongDay_25 : decode cX6_wrongDay 25 = .ok (.iaload, 1) := by decide +kernel
theorem dX6_wrongDay_26 : decode cX6_wrongDay 26 = .ok (.invokevirtual 26, 3) := by decide +kernel
theorem dX6_wrongDay_29 : decode cX6_wrongDay 29 = .ok (.ifCond .ne 5, 3) := by decide +kernel
theorem dX6_wrongDay_32 : decode cX6_wrongDay 32 = .ok (.iconst 0, 1) := by decide +kernel
theorem dX6_wrongDay_33 : decode cX6_wrongDay 33 = .ok (.ireturn, 1) := by decide +kernel
theorem dX6_wrongDay_34 : decode cX6_wrongDay 34 = .ok (.iconst 1, 1) := by decide +kernel
theorem dX6_wrongDay_35 : decode cX6_wrongDay 35 = .ok (.istore_n 2, 1) := by decide +kernel
theorem dX6_wrongDay_36 : decode cX6_wrongDay 36 = .ok (.iload_n 2, 1) := by decide +kernel
theorem dX6_wrongDay_37 : decode cX6_wrongDay 37 = .ok (.aload_n 0, 1) := by decide +kernel
theorem dX6_wrongDay_38 : decode cX6_wrongDay 38 = .ok (.getfield 15, 3) := by decide +kernel
theorem dX6_wrongDay_41 : decode cX6_wrongDay 41 = .ok (.if_icmp .ge 32, 3) := by decide +kernel
theorem dX6_wrongDay_44 : decode cX6_wrongDay 44 = .ok (.aload_n 1, 1) := by decide +kernel
theorem dX6_wrongDay_45 : decode cX6_wrongDay 45 = .ok (.aload_n 0, 1) := by decide +kernel
theorem dX6_wrongDay_46 : decode cX6_wrongDay 46 = .ok (.getfield 9, 3) := by decide +kernel
theorem dX6_wrongDay_49 : decode cX6_wrongDay 49 = .ok (.iload_n 2, 1) := by decide +kernel
theorem dX6_wrongDay_50 : decode cX6_wrongDay 50 = .ok (.iconst 1, 1) := by decide +kernel
theorem dX6_wrongDay_51 : decode cX6_wrongDay 51 = .ok (.isub, 1) := by decide +kernel
theorem dX6_wrongDay_52 : decode cX6_wrongDay 52 = .ok (.iaload, 1) := by decide +kernel
theorem dX6_wrongDay_53 : decode cX6_wrongDay 53 = .ok (.aload_n 0, 1) := by decide +kernel
theorem dX6_wrongDay_54 : decode cX6_wrongDay 54 = .ok (.getfield 9, 3) := by decide +kernel
theorem dX6_wrongDay_57 : decode cX6_wrongDay 57 = .ok (.iload_n 2, 1) := by decide +kernel
theorem dX6_wrongDay_58 : decode cX6_wrongDay 58 = .ok (.iaload, 1) := by decide +kernel
theorem dX6_wrongDay_59 : decode cX6_wrongDay 59 = .ok (.invokevirtual 30, 3) := by decide +kernel
theorem dX6_wrongDay_62 : decode cX6_wrongDay 62 = .ok (.ifCond .ne 5, 3) := by decide +kernel
theorem dX6_wrongDay_65 : decode cX6_wrongDay 65 = .ok (.iload_n 2, 1) := by decide +kernel
theorem dX6_wrongDay_66 : decode cX6_wrongDay 66 = .ok (.ireturn, 1) := by decide +kernel
theorem dX6_wrongDay_67 : decode cX6_wrongDay 67 = .ok (.iinc 2 1, 3) := by decide +kernel
theorem dX6_wrongDay_70 : decode cX6_wrongDay 70 = .ok (.goto (-34), 3) := by decide +kernel
theorem dX6_wrongDay_73 : decode cX6_wrongDay 73 = .ok (.aload_n 1, 1) := by decide +kernel
theorem dX6_wrongDay_74 : decode cX6_wrongDay 74 = .ok (.aload_n 0, 1) := by decide +kernel
theorem dX6_wrongDay_75 : decode cX6_wrongDay 75 = .ok (.getfield 9, 3) := by decide +kernel
theorem dX6_wrongDay_78 : decode cX6_wrongDay 78 = .ok (.aload_n 0, 1) := by decide +kernel
theorem dX6_wrongDay_79 : decode cX6_wrongDay 79 = .ok (.getfield 15, 3) := by decide +kernel
theorem dX6_wrongDay_82 : decode cX6_wrongDay 82 = .ok (.iconst 1, 1) := by decide +kernel
theorem dX6_wrongDay_83 : decode cX6_wrongDay 83 = .ok (.isub, 1) := by decide +kernel
theorem dX6_wrongDay_84 : decode cX6_wrongDay 84 = .ok (.iaload, 1) := by decide +kernel
theorem dX6_wrongDay_85 : decode cX6_wrongDay 85 = .ok (.invokevirtual 26, 3) := by decide +kernel
theorem dX6_wrongDay_88 : decode cX6_wrongDay 88 = .ok (.ifCond .eq 7, 3) := by decide +kernel
theorem dX6_wrongDay_91 : decode cX6_wrongDay 91 = .ok (.iconst (-1), 1) := by decide +kernel
theorem dX6_wrongDay_92 : decode cX6_wrongDay 92 = .ok (.goto 7, 3) := by decide +kernel
theorem dX6_wrongDay_95 : decode cX6_wrongDay 95 = .ok (.aload_n 0, 1) := by decide +kernel
theorem dX6_wrongDay_96 : decode cX6_wrongDay 96 = .ok (.getfield 15, 3) := by decide +kernel
theorem dX6_wrongDay_99 : decode cX6_wrongDay 99 = .ok (.ireturn, 1) := by decide +kernel
theorem dX7_init_0 : decode cX7_init 0 = .ok (.aload_n 0, 1) := by decide +kernel
theorem dX7_init_1 : decode cX7_init 1 = .ok (.invokespecial 3, 3) := by decide +kernel
theorem dX7_init_4 : decode cX7_init 4 = .ok (.aload_n 0, 1) := by decide +kernel
theorem dX7_init_5 : decode cX7_init 5 = .ok (.bipush 10, 2) := by decide +kernel
theorem dX7_init_7 : decode cX7_init 7 = .ok (.newarray .int, 2) := by decide +kernel
theorem dX7_init_9 : decode cX7_init 9 = .ok (.putfield 9, 3) := by decide +kernel
theorem dX7_init_12 : decode cX7_init 12 = .ok (.aload_n 0, 1) := by decide +kernel
theorem dX7_init_13 : decode cX7_init 13 = .ok (.bipush 10, 2) := by decide +kernel
theorem dX7_init_15 : decode cX7_init 15 = .ok (.newarray .int, 2) := by decide +kernel
theorem dX7_init_17 : decode cX7_init 17 = .ok (.putfield 15, 3) := by decide +kernel
theorem dX7_init_20 : decode cX7_init 20 = .ok (.return_, 1) := by decide +kernel
theorem dX7_add_0 : decode cX7_add 0 = .ok (.aload_n 0, 1) := by decide +kernel
theorem dX7_add_1 : decode cX7_add 1 = .ok (.getfield 18, 3) := by decide +kernel
theorem dX7_add_4 : decode cX7_add 4 = .ok (.ifCond .lt 12, 3) := by decide +kernel
theorem dX7_add_7 : decode cX7_add 7 = .ok (.aload_n 0, 1) := by decide +kernel
theorem dX7_add_8 : decode cX7_add 8 = .ok (.getfield 18, 3) := by decide +kernel
theorem dX7_add_11 : decode cX7_add 11 = .ok (.bipush 10, 2) := by decide +kernel
theorem dX7_add_13 : decode cX7_add 13 = .ok (.if_icmp .lt 6, 3) := by decide +kernel
theorem dX7_add_16 : decode cX7_add 16 = .ok (.ldc 22, 2) := by decide +kernel
theorem dX7_add_18 : decode cX7_add 18 = .ok (.ireturn, 1) := by decide +kernel
theorem dX7_add_19 : decode cX7_add 19 = .ok (.aload_n 0, 1) := by decide +kernel
theorem dX7_add_20 : decode cX7_add 20 = .ok (.getfield 9, 3) := by decide +kernel
theorem dX7_add_23 : decode cX7_add 23 = .ok (.aload_n 0, 1) := by decide +kernel
theorem dX7_add_24 : decode cX7_add 24 = .ok (.getfield 18, 3) := by decide +kernel
theorem dX7_add_27 : decode cX7_add 27 = .ok (.iload_n 1, 1) := by decide +kernel
theorem dX7_add_28 : decode cX7_add 28 = .ok (.iastore, 1) := by decide +kernel
theorem dX7_add_29 : decode cX7_add 29 = .ok (.aload_n 0, 1) := by decide +kernel
theorem dX7_add_30 : decode cX7_add 30 = .ok (.getfield 15, 3) := by decide +kernel
theorem dX7_add_33 : decode cX7_add 33 = .ok (.aload_n 0, 1) := by decide +kernel
theorem dX7_add_34 : decode cX7_add 34 = .ok (.getfield 18, 3) := by decide +kernel
theorem dX7_add_37 : decode cX7_add 37 = .ok (.iload_n 2, 1) := by decide +kernel
theorem dX7_add_38 : decode cX7_add 38 = .ok (.iastore, 1) := by decide +kernel
theorem dX7_add_39 : decode cX7_add 39 = .ok (.aload_n 0, 1) := by decide +kernel
theorem dX7_add_40 : decode cX7_add 40 = .ok (.dup, 1) := by decide +kernel
theorem dX7_add_41 : decode cX7_add 41 = .ok (.getfield 18, 3) := by decide +kernel
theorem dX7_add_44 : decode cX7_add 44 = .ok (.iconst 1, 1) := by decide +kernel
theorem dX7_add_45 : decode cX7_add 45 = .ok (.iadd, 1) := by decide +kernel
theorem dX7_add_46 : decode cX7_add 46 = .ok (.putfield 18, 3) := by decide +kernel
theorem dX7_add_49 : decode cX7_add 49 = .ok (.aload_n 0, 1) := by decide +kernel
theorem dX7_add_50 : decode cX7_add 50 = .ok (.getfield 18, 3) := by decide +kernel
theorem dX7_add_53 : decode cX7_add 53 = .ok (.ireturn, 1) := by decide +kernel
set_option maxRecDepth 20000 in
theorem ggX7_fittingSet_X0_hasPart : GoodIn wsX7_fittingSet wsX0_hasPart := goodIn_r _ [5, 6, 21, 22, 23, 24, 25, 26, 27, 28, 29, 30, 31, 32, 33] (by decide +kernel) (by decide +kernel)
set_option maxRecDepth 20000 in
theorem gX7_fittingSet_X0_hasPart : GoodIn wsX7_fittingSet (wsV RX7 23 RX0 yX0_hasPart wsX0_hasPart) := goodIn_app (goodIn_of _ (by decide +kernel)) ggX7_fittingSet_X0_hasPart
set_option maxRecDepth 20000 in
theorem ggX7_fittingSet_X0_rateOf : GoodIn wsX7_fittingSet wsX0_rateOf := goodIn_r _ [10, 11, 12, 2, 3, 4, 5, 6, 21, 22, 23, 24, 25, 26, 27, 28, 29, 30, 31, 32, 33] (by decide +kernel) (by decide +kernel)
set_option maxRecDepth 20000 in
theorem gX7_fittingSet_X0_rateOf : GoodIn wsX7_fittingSet (wsV RX7 29 RX0 yX0_rateOf wsX0_rateOf) := goodIn_app (goodIn_of _ (by decide +kernel)) ggX7_fittingSet_X0_rateOf
set_option maxRecDepth 20000 in
theorem ggX7_fittingSet_X7_fitAll : GoodIn wsX7_fittingSet wsX7_fitAll := goodIn_r _ [17, 18, 19, 20, 34, 35, 36] (by decide +kernel) (by decide +kernel)
set_option maxRecDepth 20000 in
theorem gX7_fittingSet_X7_fitAll : GoodIn wsX7_fittingSet (wsV RX7 33 RX7 yX7_fitAll wsX7_fitAll) := goodIn_app (goodIn_of _ (by decide +kernel)) ggX7_fittingSet_X7_fitAll
theorem dX7_fittingSet_0 : decode cX7_fittingSet 0 = .ok (.iconst 0, 1) := by decide +kernel
theorem dX7_fittingSet_1 : decode cX7_fittingSet 1 = .ok (.istore_n 2, 1) := by decide +kernel
theorem dX7_fittingSet_2 : decode cX7_fittingSet 2 = .ok (.iconst 0, 1) := by decide +kernel
theorem dX7_fittingSet_3 : decode cX7_fittingSet 3 = .ok (.istore_n 3, 1) := by decide +kernel
theorem dX7_fittingSet_4 : decode cX7_fittingSet 4 = .ok (.iload_n 3, 1) := by decide +kernel
theorem dX7_fittingSet_5 : decode cX7_fittingSet 5 = .ok (.bipush 7, 2) := by decide +kernel
theorem dX7_fittingSet_7 : decode cX7_fittingSet 7 = .ok (.if_icmp .ge 35, 3) := by decide +kernel
theorem dX7_fittingSet_10 : decode cX7_fittingSet 10 = .ok (.aload_n 1, 1) := by decide +kernel
theorem dX7_fittingSet_11 : decode cX7_fittingSet 11 = .ok (.iload_n 3, 1) := by decide +kernel
theorem dX7_fittingSet_12 : decode cX7_fittingSet 12 = .ok (.invokevirtual 23, 3) := by decide +kernel
theorem dX7_fittingSet_15 : decode cX7_fittingSet 15 = .ok (.ifCond .eq 21, 3) := by decide +kernel
theorem dX7_fittingSet_18 : decode cX7_fittingSet 18 = .ok (.aload_n 0, 1) := by decide +kernel
theorem dX7_fittingSet_19 : decode cX7_fittingSet 19 = .ok (.aload_n 1, 1) := by decide +kernel
theorem dX7_fittingSet_20 : decode cX7_fittingSet 20 = .ok (.iload_n 3, 1) := by decide +kernel
theorem dX7_fittingSet_21 : decode cX7_fittingSet 21 = .ok (.invokevirtual 29, 3) := by decide +kernel
theorem dX7_fittingSet_24 : decode cX7_fittingSet 24 = .ok (.invokevirtual 33, 3) := by decide +kernel
theorem dX7_fittingSet_27 : decode cX7_fittingSet 27 = .ok (.ifCond .eq 9, 3) := by decide +kernel
theorem dX7_fittingSet_30 : decode cX7_fittingSet 30 = .ok (.iload_n 2, 1) := by decide +kernel
theorem dX7_fittingSet_31 : decode cX7_fittingSet 31 = .ok (.iconst 1, 1) := by decide +kernel
theorem dX7_fittingSet_32 : decode cX7_fittingSet 32 = .ok (.iload_n 3, 1) := by decide +kernel
theorem dX7_fittingSet_33 : decode cX7_fittingSet 33 = .ok (.ishl, 1) := by decide +kernel
theorem dX7_fittingSet_34 : decode cX7_fittingSet 34 = .ok (.ior, 1) := by decide +kernel
theorem dX7_fittingSet_35 : decode cX7_fittingSet 35 = .ok (.istore_n 2, 1) := by decide +kernel
theorem dX7_fittingSet_36 : decode cX7_fittingSet 36 = .ok (.iinc 3 1, 3) := by decide +kernel
theorem dX7_fittingSet_39 : decode cX7_fittingSet 39 = .ok (.goto (-35), 3) := by decide +kernel
theorem dX7_fittingSet_42 : decode cX7_fittingSet 42 = .ok (.iload_n 2, 1) := by decide +kernel
theorem dX7_fittingSet_43 : decode cX7_fittingSet 43 = .ok (.ireturn, 1) := by decide +kernel
theorem dX7_fitAll_0 : decode cX7_fitAll 0 = .ok (.iconst 0, 1) := by decide +kernel
theorem dX7_fitAll_1 : decode cX7_fitAll 1 = .ok (.istore_n 2, 1) := by decide +kernel
theorem dX7_fitAll_2 : decode cX7_fitAll 2 = .ok (.iload_n 2, 1) := by decide +kernel
theorem dX7_fitAll_3 : decode cX7_fitAll 3 = .ok (.aload_n 0, 1) := by decide +kernel
theorem dX7_fitAll_4 : decode cX7_fitAll 4 = .ok (.getfield 18, 3) := by decide +kernel
theorem dX7_fitAll_7 : decode cX7_fitAll 7 = .ok (.if_icmp .ge 34, 3) := by decide +kernel
theorem dX7_fitAll_10 : decode cX7_fitAll 10 = .ok (.iload_n 2, 1) := by decide +kernel
theorem dX7_fitAll_11 : decode cX7_fitAll 11 = .ok (.bipush 10, 2) := by decide +kernel
theorem dX7_fitAll_13 : decode cX7_fitAll 13 = .ok (.if_icmp .ge 28, 3) := by decide +kernel
theorem dX7_fitAll_16 : decode cX7_fitAll 16 = .ok (.aload_n 0, 1) := by decide +kernel
theorem dX7_fitAll_17 : decode cX7_fitAll 17 = .ok (.getfield 9, 3) := by decide +kernel
theorem dX7_fitAll_20 : decode cX7_fitAll 20 = .ok (.iload_n 2, 1) := by decide +kernel
theorem dX7_fitAll_21 : decode cX7_fitAll 21 = .ok (.iaload, 1) := by decide +kernel
theorem dX7_fitAll_22 : decode cX7_fitAll 22 = .ok (.iload_n 1, 1) := by decide +kernel
theorem dX7_fitAll_23 : decode cX7_fitAll 23 = .ok (.imul, 1) := by decide +kernel
theorem dX7_fitAll_24 : decode cX7_fitAll 24 = .ok (.aload_n 0, 1) := by decide +kernel
theorem dX7_fitAll_25 : decode cX7_fitAll 25 = .ok (.getfield 15, 3) := by decide +kernel
theorem dX7_fitAll_28 : decode cX7_fitAll 28 = .ok (.iload_n 2, 1) := by decide +kernel
theorem dX7_fitAll_29 : decode cX7_fitAll 29 = .ok (.iaload, 1) := by decide +kernel
theorem dX7_fitAll_30 : decode cX7_fitAll 30 = .ok (.if_icmp .eq 5, 3) := by decide +kernel
theorem dX7_fitAll_33 : decode cX7_fitAll 33 = .ok (.iconst 0, 1) := by decide +kernel
theorem dX7_fitAll_34 : decode cX7_fitAll 34 = .ok (.ireturn, 1) := by decide +kernel
theorem dX7_fitAll_35 : decode cX7_fitAll 35 = .ok (.iinc 2 1, 3) := by decide +kernel
theorem dX7_fitAll_38 : decode cX7_fitAll 38 = .ok (.goto (-36), 3) := by decide +kernel
theorem dX7_fitAll_41 : decode cX7_fitAll 41 = .ok (.iconst 1, 1) := by decide +kernel
theorem dX7_fitAll_42 : decode cX7_fitAll 42 = .ok (.ireturn, 1) := by decide +kernel
set_option maxRecDepth 20000 in
theorem ggX8_init_X0_init : GoodIn wsX8_init wsX0_init := goodIn_r _ [44, 45, 2, 3, 46, 47, 48, 49, 50, 51, 52, 104, 105, 106, 107, 108, 109, 110, 111, 112, 113, 114, 115, 116] (by decide +kernel) (by decide +kernel)
set_option maxRecDepth 20000 in
theorem gX8_init_X0_init_n22 : GoodIn wsX8_init (wsX0_init) := ggX8_init_X0_init
set_option maxRecDepth 20000 in
theorem ggX8_init_X3_init : GoodIn wsX8_init wsX3_init := goodIn_r _ [54, 55, 2, 3] (by decide +kernel) (by decide +kernel)
set_option maxRecDepth 20000 in
theorem gX8_init_X3_init_n32 : GoodIn wsX8_init (wsX3_init) := ggX8_init_X3_init
set_option maxRecDepth 20000 in
theorem ggX8_init_X6_init : GoodIn wsX8_init wsX6_init := goodIn_r _ [57, 58, 2, 3, 46, 59, 122, 123] (by decide +kernel) (by decide +kernel)
set_option maxRecDepth 20000 in
theorem gX8_init_X6_init_n39 : GoodIn wsX8_init (wsX6_init) := ggX8_init_X6_init
set_option maxRecDepth 20000 in
theorem ggX8_init_X2_init : GoodIn wsX8_init wsX2_init := goodIn_r _ [61, 62, 2, 3, 46, 63, 64, 65, 124, 125, 126, 127, 128, 129] (by decide +kernel) (by decide +kernel)
set_option maxRecDepth 20000 in
theorem gX8_init_X2_init_n46 : GoodIn wsX8_init (wsX2_init) := ggX8_init_X2_init
set_option maxRecDepth 20000 in
theorem ggX8_init_X5_init : GoodIn wsX8_init wsX5_init := goodIn_r _ [67, 68, 2, 3, 69, 46, 70, 71, 130, 131] (by decide +kernel) (by decide +kernel)
set_option maxRecDepth 20000 in
theorem gX8_init_X5_init_n59 : GoodIn wsX8_init (wsX5_init) := ggX8_init_X5_init
set_option maxRecDepth 20000 in
theorem ggX8_init_X1_init : GoodIn wsX8_init wsX1_init := goodIn_r _ [73, 74, 2, 3, 75, 76, 77, 78, 132, 133] (by decide +kernel) (by decide +kernel)
set_option maxRecDepth 20000 in
theorem gX8_init_X1_init_n66 : GoodIn wsX8_init (wsX1_init) := ggX8_init_X1_init
set_option maxRecDepth 20000 in
theorem ggX8_init_X7_init : GoodIn wsX8_init wsX7_init := goodIn_r _ [80, 81, 2, 3, 46, 82, 83, 134, 135, 136] (by decide +kernel) (by decide +kernel)
set_option maxRecDepth 20000 in
theorem gX8_init_X7_init_n73 : GoodIn wsX8_init (wsX7_init) := ggX8_init_X7_init
set_option maxRecDepth 20000 in
theorem ggX8_init_X4_init : GoodIn wsX8_init wsX4_init := goodIn_r _ [85, 86, 2, 3, 46, 87, 88, 89, 137, 138, 139, 140] (by decide +kernel) (by decide +kernel)
set_option maxRecDepth 20000 in
theorem gX8_init_X4_init_n80 : GoodIn wsX8_init (wsX4_init) := ggX8_init_X4_init
