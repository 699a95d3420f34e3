set_option maxRecDepth 20000 in
theorem ggX0_init_X2_init : GoodIn wsX0_init wsX2_init := goodIn_r _ [11, 12, 2, 3, 13, 14, 15, 16, 17, 18, 19, 20, 21, 22, 23, 24, 25, 26] (by decide +kernel) (by decide +kernel)
set_option maxRecDepth 20000 in
theorem gX0_init_X2_init : GoodIn wsX0_init (wsX2_init) := ggX0_init_X2_init
theorem dX0_init_0 : decode cX0_init 0 = .ok (.aload_n 0, 1) := by decide +kernel
theorem dX0_init_1 : decode cX0_init 1 = .ok (.invokespecial 3, 3) := by decide +kernel
theorem dX0_init_4 : decode cX0_init 4 = .ok (.aload_n 0, 1) := by decide +kernel
theorem dX0_init_5 : decode cX0_init 5 = .ok (.new 9, 3) := by decide +kernel
theorem dX0_init_8 : decode cX0_init 8 = .ok (.dup, 1) := by decide +kernel
theorem dX0_init_9 : decode cX0_init 9 = .ok (.bipush 9, 2) := by decide +kernel
theorem dX0_init_11 : decode cX0_init 11 = .ok (.bipush 9, 2) := by decide +kernel
theorem dX0_init_13 : decode cX0_init 13 = .ok (.invokespecial 11, 3) := by decide +kernel
theorem dX0_init_16 : decode cX0_init 16 = .ok (.putfield 14, 3) := by decide +kernel
theorem dX0_init_19 : decode cX0_init 19 = .ok (.aload_n 0, 1) := by decide +kernel
theorem dX0_init_20 : decode cX0_init 20 = .ok (.new 9, 3) := by decide +kernel
theorem dX0_init_23 : decode cX0_init 23 = .ok (.dup, 1) := by decide +kernel
theorem dX0_init_24 : decode cX0_init 24 = .ok (.bipush 9, 2) := by decide +kernel
theorem dX0_init_26 : decode cX0_init 26 = .ok (.bipush 9, 2) := by decide +kernel
theorem dX0_init_28 : decode cX0_init 28 = .ok (.invokespecial 11, 3) := by decide +kernel
theorem dX0_init_31 : decode cX0_init 31 = .ok (.putfield 20, 3) := by decide +kernel
theorem dX0_init_34 : decode cX0_init 34 = .ok (.return_, 1) := by decide +kernel
set_option maxRecDepth 20000 in
theorem ggX0_owed_X2_get : GoodIn wsX0_owed wsX2_get := goodIn_r _ [6, 7, 8, 9, 10, 5, 11, 12, 13, 16, 17, 18] (by decide +kernel) (by decide +kernel)
set_option maxRecDepth 20000 in
theorem gX0_owed_X2_get : GoodIn wsX0_owed (wsV RX0 23 RX2 yX2_get wsX2_get) := goodIn_app (goodIn_of _ (by decide +kernel)) ggX0_owed_X2_get
theorem dX0_owed_0 : decode cX0_owed 0 = .ok (.aload_n 0, 1) := by decide +kernel
theorem dX0_owed_1 : decode cX0_owed 1 = .ok (.getfield 14, 3) := by decide +kernel
theorem dX0_owed_4 : decode cX0_owed 4 = .ok (.iload_n 1, 1) := by decide +kernel
theorem dX0_owed_5 : decode cX0_owed 5 = .ok (.iload_n 2, 1) := by decide +kernel
theorem dX0_owed_6 : decode cX0_owed 6 = .ok (.invokevirtual 23, 3) := by decide +kernel
theorem dX0_owed_9 : decode cX0_owed 9 = .ok (.ireturn, 1) := by decide +kernel
set_option maxRecDepth 20000 in
theorem ggX0_frozenPart_X2_get : GoodIn wsX0_frozenPart wsX2_get := goodIn_r _ [6, 7, 8, 9, 10, 5, 11, 12, 13, 16, 17, 18] (by decide +kernel) (by decide +kernel)
set_option maxRecDepth 20000 in
theorem gX0_frozenPart_X2_get : GoodIn wsX0_frozenPart (wsV RX0 23 RX2 yX2_get wsX2_get) := goodIn_app (goodIn_of _ (by decide +kernel)) ggX0_frozenPart_X2_get
theorem dX0_frozenPart_0 : decode cX0_frozenPart 0 = .ok (.aload_n 0, 1) := by decide +kernel
theorem dX0_frozenPart_1 : decode cX0_frozenPart 1 = .ok (.getfield 20, 3) := by decide +kernel
theorem dX0_frozenPart_4 : decode cX0_frozenPart 4 = .ok (.iload_n 1, 1) := by decide +kernel
theorem dX0_frozenPart_5 : decode cX0_frozenPart 5 = .ok (.iload_n 2, 1) := by decide +kernel
theorem dX0_frozenPart_6 : decode cX0_frozenPart 6 = .ok (.invokevirtual 23, 3) := by decide +kernel
theorem dX0_frozenPart_9 : decode cX0_frozenPart 9 = .ok (.ireturn, 1) := by decide +kernel
set_option maxRecDepth 20000 in
theorem ggX0_open_X2_get : GoodIn wsX0_open wsX2_get := goodIn_r _ [7, 8, 9, 10, 11, 6, 12, 13, 14, 17, 18, 19] (by decide +kernel) (by decide +kernel)
set_option maxRecDepth 20000 in
theorem gX0_open_X2_get : GoodIn wsX0_open (wsV RX0 23 RX2 yX2_get wsX2_get) := goodIn_app (goodIn_of _ (by decide +kernel)) ggX0_open_X2_get
theorem dX0_open_0 : decode cX0_open 0 = .ok (.aload_n 0, 1) := by decide +kernel
theorem dX0_open_1 : decode cX0_open 1 = .ok (.getfield 14, 3) := by decide +kernel
theorem dX0_open_4 : decode cX0_open 4 = .ok (.iload_n 1, 1) := by decide +kernel
theorem dX0_open_5 : decode cX0_open 5 = .ok (.iload_n 2, 1) := by decide +kernel
theorem dX0_open_6 : decode cX0_open 6 = .ok (.invokevirtual 23, 3) := by decide +kernel
theorem dX0_open_9 : decode cX0_open 9 = .ok (.aload_n 0, 1) := by decide +kernel
theorem dX0_open_10 : decode cX0_open 10 = .ok (.getfield 20, 3) := by decide +kernel
theorem dX0_open_13 : decode cX0_open 13 = .ok (.iload_n 1, 1) := by decide +kernel
theorem dX0_open_14 : decode cX0_open 14 = .ok (.iload_n 2, 1) := by decide +kernel
theorem dX0_open_15 : decode cX0_open 15 = .ok (.invokevirtual 23, 3) := by decide +kernel
theorem dX0_open_18 : decode cX0_open 18 = .ok (.isub, 1) := by decide +kernel
theorem dX0_open_19 : decode cX0_open 19 = .ok (.ireturn, 1) := by decide +kernel
set_option maxRecDepth 20000 in
theorem ggX0_openTo_X2_columnSum : GoodIn wsX0_openTo wsX2_columnSum := goodIn_r _ [7, 8, 9, 10, 11, 6, 12, 13, 14, 15, 16, 17, 18, 21, 22, 23] (by decide +kernel) (by decide +kernel)
set_option maxRecDepth 20000 in
theorem gX0_openTo_X2_columnSum : GoodIn wsX0_openTo (wsV RX0 27 RX2 yX2_columnSum wsX2_columnSum) := goodIn_app (goodIn_of _ (by decide +kernel)) ggX0_openTo_X2_columnSum
theorem dX0_openTo_0 : decode cX0_openTo 0 = .ok (.aload_n 0, 1) := by decide +kernel
theorem dX0_openTo_1 : decode cX0_openTo 1 = .ok (.getfield 14, 3) := by decide +kernel
theorem dX0_openTo_4 : decode cX0_openTo 4 = .ok (.iload_n 1, 1) := by decide +kernel
theorem dX0_openTo_5 : decode cX0_openTo 5 = .ok (.invokevirtual 27, 3) := by decide +kernel
theorem dX0_openTo_8 : decode cX0_openTo 8 = .ok (.aload_n 0, 1) := by decide +kernel
theorem dX0_openTo_9 : decode cX0_openTo 9 = .ok (.getfield 20, 3) := by decide +kernel
theorem dX0_openTo_12 : decode cX0_openTo 12 = .ok (.iload_n 1, 1) := by decide +kernel
theorem dX0_openTo_13 : decode cX0_openTo 13 = .ok (.invokevirtual 27, 3) := by decide +kernel
theorem dX0_openTo_16 : decode cX0_openTo 16 = .ok (.isub, 1) := by decide +kernel
theorem dX0_openTo_17 : decode cX0_openTo 17 = .ok (.ireturn, 1) := by decide +kernel
set_option maxRecDepth 20000 in
theorem ggX0_more_X2_add : GoodIn wsX0_more wsX2_add := goodIn_r _ [6, 7, 8, 9, 5, 10, 11, 12, 13, 14, 15, 16, 17, 18, 19, 20, 21, 24, 25, 26] (by decide +kernel) (by decide +kernel)
set_option maxRecDepth 20000 in
theorem gX0_more_X2_add : GoodIn wsX0_more (wsV RX0 31 RX2 yX2_add wsX2_add) := goodIn_app (goodIn_of _ (by decide +kernel)) ggX0_more_X2_add
theorem dX0_more_0 : decode cX0_more 0 = .ok (.aload_n 0, 1) := by decide +kernel
theorem dX0_more_1 : decode cX0_more 1 = .ok (.getfield 14, 3) := by decide +kernel
theorem dX0_more_4 : decode cX0_more 4 = .ok (.iload_n 1, 1) := by decide +kernel
theorem dX0_more_5 : decode cX0_more 5 = .ok (.iload_n 2, 1) := by decide +kernel
theorem dX0_more_6 : decode cX0_more 6 = .ok (.iload_n 3, 1) := by decide +kernel
theorem dX0_more_7 : decode cX0_more 7 = .ok (.invokevirtual 31, 3) := by decide +kernel
theorem dX0_more_10 : decode cX0_more 10 = .ok (.return_, 1) := by decide +kernel
set_option maxRecDepth 20000 in
theorem ggX0_freeze_X2_add : GoodIn wsX0_freeze wsX2_add := goodIn_r _ [6, 7, 8, 9, 5, 10, 11, 12, 13, 14, 15, 16, 17, 18, 19, 20, 21, 24, 25, 26] (by decide +kernel) (by decide +kernel)
set_option maxRecDepth 20000 in
theorem gX0_freeze_X2_add : GoodIn wsX0_freeze (wsV RX0 31 RX2 yX2_add wsX2_add) := goodIn_app (goodIn_of _ (by decide +kernel)) ggX0_freeze_X2_add
theorem dX0_freeze_0 : decode cX0_freeze 0 = .ok (.aload_n 0, 1) := by decide +kernel
theorem dX0_freeze_1 : decode cX0_freeze 1 = .ok (.getfield 20, 3) := by decide +kernel
theorem dX0_freeze_4 : decode cX0_freeze 4 = .ok (.iload_n 1, 1) := by decide +kernel
theorem dX0_freeze_5 : decode cX0_freeze 5 = .ok (.iload_n 2, 1) := by decide +kernel
theorem dX0_freeze_6 : decode cX0_freeze 6 = .ok (.iload_n 3, 1) := by decide +kernel
theorem dX0_freeze_7 : decode cX0_freeze 7 = .ok (.invokevirtual 31, 3) := by decide +kernel
theorem dX0_freeze_10 : decode cX0_freeze 10 = .ok (.return_, 1) := by decide +kernel
set_option maxRecDepth 20000 in
theorem ggX0_balanceOf_X2_columnSum : GoodIn wsX0_balanceOf wsX2_columnSum := goodIn_r _ [6, 7, 8, 9, 10, 5, 11, 12, 13, 14, 15, 16, 17, 24, 25, 26] (by decide +kernel) (by decide +kernel)
set_option maxRecDepth 20000 in
theorem gX0_balanceOf_X2_columnSum : GoodIn wsX0_balanceOf (wsV RX0 27 RX2 yX2_columnSum wsX2_columnSum) := goodIn_app (goodIn_of _ (by decide +kernel)) ggX0_balanceOf_X2_columnSum
set_option maxRecDepth 20000 in
theorem ggX0_balanceOf_X2_rowSum : GoodIn wsX0_balanceOf wsX2_rowSum := goodIn_r _ [21, 17, 8, 9, 10, 5, 11, 12, 13, 14, 15, 16, 7, 24, 25, 26] (by decide +kernel) (by decide +kernel)
set_option maxRecDepth 20000 in
theorem gX0_balanceOf_X2_rowSum : GoodIn wsX0_balanceOf (wsV RX0 35 RX2 yX2_rowSum wsX2_rowSum) := goodIn_app (goodIn_of _ (by decide +kernel)) ggX0_balanceOf_X2_rowSum
theorem dX0_balanceOf_0 : decode cX0_balanceOf 0 = .ok (.aload_n 0, 1) := by decide +kernel
theorem dX0_balanceOf_1 : decode cX0_balanceOf 1 = .ok (.getfield 14, 3) := by decide +kernel
theorem dX0_balanceOf_4 : decode cX0_balanceOf 4 = .ok (.iload_n 1, 1) := by decide +kernel
theorem dX0_balanceOf_5 : decode cX0_balanceOf 5 = .ok (.invokevirtual 27, 3) := by decide +kernel
theorem dX0_balanceOf_8 : decode cX0_balanceOf 8 = .ok (.aload_n 0, 1) := by decide +kernel
theorem dX0_balanceOf_9 : decode cX0_balanceOf 9 = .ok (.getfield 14, 3) := by decide +kernel
theorem dX0_balanceOf_12 : decode cX0_balanceOf 12 = .ok (.iload_n 1, 1) := by decide +kernel
theorem dX0_balanceOf_13 : decode cX0_balanceOf 13 = .ok (.invokevirtual 35, 3) := by decide +kernel
theorem dX0_balanceOf_16 : decode cX0_balanceOf 16 = .ok (.isub, 1) := by decide +kernel
theorem dX0_balanceOf_17 : decode cX0_balanceOf 17 = .ok (.ireturn, 1) := by decide +kernel
set_option maxRecDepth 20000 in
theorem ggX0_greatestOpenDebtorOf_X0_open : GoodIn wsX0_greatestOpenDebtorOf wsX0_open := goodIn_r _ [5, 6, 7, 8, 9, 10, 11, 12, 13, 14, 15, 16, 17, 18, 19, 20, 21, 22, 23, 24] (by decide +kernel) (by decide +kernel)
set_option maxRecDepth 20000 in
theorem gX0_greatestOpenDebtorOf_X0_open : GoodIn wsX0_greatestOpenDebtorOf (wsV RX0 38 RX0 yX0_open wsX0_open) := goodIn_app (goodIn_of _ (by decide +kernel)) ggX0_greatestOpenDebtorOf_X0_open
theorem dX0_greatestOpenDebtorOf_0 : decode cX0_greatestOpenDebtorOf 0 = .ok (.iconst 0, 1) := by decide +kernel
theorem dX0_greatestOpenDebtorOf_1 : decode cX0_greatestOpenDebtorOf 1 = .ok (.istore_n 2, 1) := by decide +kernel
theorem dX0_greatestOpenDebtorOf_2 : decode cX0_greatestOpenDebtorOf 2 = .ok (.iconst 1, 1) := by decide +kernel
theorem dX0_greatestOpenDebtorOf_3 : decode cX0_greatestOpenDebtorOf 3 = .ok (.istore_n 3, 1) := by decide +kernel
theorem dX0_greatestOpenDebtorOf_4 : decode cX0_greatestOpenDebtorOf 4 = .ok (.iload_n 3, 1) := by decide +kernel
theorem dX0_greatestOpenDebtorOf_5 : decode cX0_greatestOpenDebtorOf 5 = .ok (.bipush 8, 2) := by decide +kernel
theorem dX0_greatestOpenDebtorOf_7 : decode cX0_greatestOpenDebtorOf 7 = .ok (.if_icmp .ge 26, 3) := by decide +kernel
theorem dX0_greatestOpenDebtorOf_10 : decode cX0_greatestOpenDebtorOf 10 = .ok (.aload_n 0, 1) := by decide +kernel
theorem dX0_greatestOpenDebtorOf_11 : decode cX0_greatestOpenDebtorOf 11 = .ok (.iload_n 3, 1) := by decide +kernel
theorem dX0_greatestOpenDebtorOf_12 : decode cX0_greatestOpenDebtorOf 12 = .ok (.iload_n 1, 1) := by decide +kernel
theorem dX0_greatestOpenDebtorOf_13 : decode cX0_greatestOpenDebtorOf 13 = .ok (.invokevirtual 38, 3) := by decide +kernel
theorem dX0_greatestOpenDebtorOf_16 : decode cX0_greatestOpenDebtorOf 16 = .ok (.aload_n 0, 1) := by decide +kernel
theorem dX0_greatestOpenDebtorOf_17 : decode cX0_greatestOpenDebtorOf 17 = .ok (.iload_n 2, 1) := by decide +kernel
theorem dX0_greatestOpenDebtorOf_18 : decode cX0_greatestOpenDebtorOf 18 = .ok (.iload_n 1, 1) := by decide +kernel
theorem dX0_greatestOpenDebtorOf_19 : decode cX0_greatestOpenDebtorOf 19 = .ok (.invokevirtual 38, 3) := by decide +kernel
theorem dX0_greatestOpenDebtorOf_22 : decode cX0_greatestOpenDebtorOf 22 = .ok (.if_icmp .le 5, 3) := by decide +kernel
theorem dX0_greatestOpenDebtorOf_25 : decode cX0_greatestOpenDebtorOf 25 = .ok (.iload_n 3, 1) := by decide +kernel
theorem dX0_greatestOpenDebtorOf_26 : decode cX0_greatestOpenDebtorOf 26 = .ok (.istore_n 2, 1) := by decide +kernel
theorem dX0_greatestOpenDebtorOf_27 : decode cX0_greatestOpenDebtorOf 27 = .ok (.iinc 3 1, 3) := by decide +kernel
theorem dX0_greatestOpenDebtorOf_30 : decode cX0_greatestOpenDebtorOf 30 = .ok (.goto (-26), 3) := by decide +kernel
theorem dX0_greatestOpenDebtorOf_33 : decode cX0_greatestOpenDebtorOf 33 = .ok (.iload_n 2, 1) := by decide +kernel
theorem dX0_greatestOpenDebtorOf_34 : decode cX0_greatestOpenDebtorOf 34 = .ok (.ireturn, 1) := by decide +kernel
