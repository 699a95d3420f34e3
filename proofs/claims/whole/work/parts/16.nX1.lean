set_option maxRecDepth 20000 in
theorem ggX1_init_X2_init : GoodIn wsX1_init wsX2_init := goodIn_r _ [11, 12, 2, 3, 13, 14, 15, 16, 17, 18, 19, 20, 21, 22, 23, 24, 25, 26] (by decide +kernel) (by decide +kernel)
set_option maxRecDepth 20000 in
theorem gX1_init_X2_init : GoodIn wsX1_init (wsX2_init) := ggX1_init_X2_init
theorem dX1_init_0 : decode cX1_init 0 = .ok (.aload_n 0, 1) := by decide +kernel
theorem dX1_init_1 : decode cX1_init 1 = .ok (.invokespecial 3, 3) := by decide +kernel
theorem dX1_init_4 : decode cX1_init 4 = .ok (.aload_n 0, 1) := by decide +kernel
theorem dX1_init_5 : decode cX1_init 5 = .ok (.new 9, 3) := by decide +kernel
theorem dX1_init_8 : decode cX1_init 8 = .ok (.dup, 1) := by decide +kernel
theorem dX1_init_9 : decode cX1_init 9 = .ok (.bipush 57, 2) := by decide +kernel
theorem dX1_init_11 : decode cX1_init 11 = .ok (.bipush 7, 2) := by decide +kernel
theorem dX1_init_13 : decode cX1_init 13 = .ok (.invokespecial 13, 3) := by decide +kernel
theorem dX1_init_16 : decode cX1_init 16 = .ok (.putfield 16, 3) := by decide +kernel
theorem dX1_init_19 : decode cX1_init 19 = .ok (.aload_n 0, 1) := by decide +kernel
theorem dX1_init_20 : decode cX1_init 20 = .ok (.iconst 0, 1) := by decide +kernel
theorem dX1_init_21 : decode cX1_init 21 = .ok (.putfield 20, 3) := by decide +kernel
theorem dX1_init_24 : decode cX1_init 24 = .ok (.return_, 1) := by decide +kernel
theorem dX1_size_0 : decode cX1_size 0 = .ok (.aload_n 0, 1) := by decide +kernel
theorem dX1_size_1 : decode cX1_size 1 = .ok (.getfield 20, 3) := by decide +kernel
theorem dX1_size_4 : decode cX1_size 4 = .ok (.ireturn, 1) := by decide +kernel
set_option maxRecDepth 20000 in
theorem ggX1_of_X2_get : GoodIn wsX1_of wsX2_get := goodIn_r _ [6, 7, 8, 9, 10, 5, 11, 12, 13, 16, 17, 18] (by decide +kernel) (by decide +kernel)
set_option maxRecDepth 20000 in
theorem gX1_of_X2_get : GoodIn wsX1_of (wsV RX1 24 RX2 yX2_get wsX2_get) := goodIn_app (goodIn_of _ (by decide +kernel)) ggX1_of_X2_get
theorem dX1_of_0 : decode cX1_of 0 = .ok (.aload_n 0, 1) := by decide +kernel
theorem dX1_of_1 : decode cX1_of 1 = .ok (.getfield 16, 3) := by decide +kernel
theorem dX1_of_4 : decode cX1_of 4 = .ok (.iload_n 1, 1) := by decide +kernel
theorem dX1_of_5 : decode cX1_of 5 = .ok (.iload_n 2, 1) := by decide +kernel
theorem dX1_of_6 : decode cX1_of 6 = .ok (.invokevirtual 24, 3) := by decide +kernel
theorem dX1_of_9 : decode cX1_of 9 = .ok (.ireturn, 1) := by decide +kernel
set_option maxRecDepth 20000 in
theorem ggX1_netAll_X1_find : GoodIn wsX1_netAll wsX1_find := goodIn_r _ [6, 7, 1, 8, 9, 10, 11, 12, 13, 14, 15, 16, 17, 18, 19, 20, 21, 22, 5, 23, 24, 25, 26, 27, 28, 29, 30, 31, 32, 33, 34, 35, 36, 37, 38, 39, 40, 41, 42, 43, 44, 45, 46, 65, 66, 67, 68, 69, 70, 71] (by decide +kernel) (by decide +kernel)
set_option maxRecDepth 20000 in
theorem gX1_netAll_X1_find : GoodIn wsX1_netAll (wsV RX1 28 RX1 yX1_find wsX1_find) := goodIn_app (goodIn_of _ (by decide +kernel)) ggX1_netAll_X1_find
set_option maxRecDepth 20000 in
theorem ggX1_netAll_X1_net : GoodIn wsX1_netAll wsX1_net := goodIn_r _ [50, 7, 1, 51, 52, 53, 54, 31, 32, 33, 11, 34, 13, 14, 15, 16, 17, 18, 19, 27, 28, 29, 5, 30, 35, 36, 37, 38, 39, 40, 41, 42, 55, 56, 57, 58, 59, 60, 61, 62, 63, 64, 9, 10, 12, 8, 20, 21, 22, 23, 65, 66, 67, 68, 69, 70, 71] (by decide +kernel) (by decide +kernel)
set_option maxRecDepth 20000 in
theorem gX1_netAll_X1_net : GoodIn wsX1_netAll (wsV RX1 32 RX1 yX1_net wsX1_net) := goodIn_app (goodIn_of _ (by decide +kernel)) ggX1_netAll_X1_net
theorem dX1_netAll_0 : decode cX1_netAll 0 = .ok (.aload_n 0, 1) := by decide +kernel
theorem dX1_netAll_1 : decode cX1_netAll 1 = .ok (.iconst 0, 1) := by decide +kernel
theorem dX1_netAll_2 : decode cX1_netAll 2 = .ok (.putfield 20, 3) := by decide +kernel
theorem dX1_netAll_5 : decode cX1_netAll 5 = .ok (.iconst 0, 1) := by decide +kernel
theorem dX1_netAll_6 : decode cX1_netAll 6 = .ok (.istore_n 2, 1) := by decide +kernel
theorem dX1_netAll_7 : decode cX1_netAll 7 = .ok (.iload_n 2, 1) := by decide +kernel
theorem dX1_netAll_8 : decode cX1_netAll 8 = .ok (.bipush 56, 2) := by decide +kernel
theorem dX1_netAll_10 : decode cX1_netAll 10 = .ok (.if_icmp .ge 32, 3) := by decide +kernel
theorem dX1_netAll_13 : decode cX1_netAll 13 = .ok (.aload_n 0, 1) := by decide +kernel
theorem dX1_netAll_14 : decode cX1_netAll 14 = .ok (.aload_n 1, 1) := by decide +kernel
theorem dX1_netAll_15 : decode cX1_netAll 15 = .ok (.invokevirtual 28, 3) := by decide +kernel
theorem dX1_netAll_18 : decode cX1_netAll 18 = .ok (.ifCond .eq 24, 3) := by decide +kernel
theorem dX1_netAll_21 : decode cX1_netAll 21 = .ok (.aload_n 0, 1) := by decide +kernel
theorem dX1_netAll_22 : decode cX1_netAll 22 = .ok (.aload_n 1, 1) := by decide +kernel
theorem dX1_netAll_23 : decode cX1_netAll 23 = .ok (.invokevirtual 32, 3) := by decide +kernel
theorem dX1_netAll_26 : decode cX1_netAll 26 = .ok (.aload_n 0, 1) := by decide +kernel
theorem dX1_netAll_27 : decode cX1_netAll 27 = .ok (.dup, 1) := by decide +kernel
theorem dX1_netAll_28 : decode cX1_netAll 28 = .ok (.getfield 20, 3) := by decide +kernel
theorem dX1_netAll_31 : decode cX1_netAll 31 = .ok (.iconst 1, 1) := by decide +kernel
theorem dX1_netAll_32 : decode cX1_netAll 32 = .ok (.iadd, 1) := by decide +kernel
theorem dX1_netAll_33 : decode cX1_netAll 33 = .ok (.putfield 20, 3) := by decide +kernel
theorem dX1_netAll_36 : decode cX1_netAll 36 = .ok (.iinc 2 1, 3) := by decide +kernel
theorem dX1_netAll_39 : decode cX1_netAll 39 = .ok (.goto (-32), 3) := by decide +kernel
theorem dX1_netAll_42 : decode cX1_netAll 42 = .ok (.return_, 1) := by decide +kernel
set_option maxRecDepth 20000 in
theorem ggX1_shopAt_X2_get : GoodIn wsX1_shopAt wsX2_get := goodIn_r _ [7, 8, 9, 10, 11, 6, 12, 13, 14, 17, 18, 19] (by decide +kernel) (by decide +kernel)
set_option maxRecDepth 20000 in
theorem gX1_shopAt_X2_get : GoodIn wsX1_shopAt (wsV RX1 24 RX2 yX2_get wsX2_get) := goodIn_app (goodIn_of _ (by decide +kernel)) ggX1_shopAt_X2_get
theorem dX1_shopAt_0 : decode cX1_shopAt 0 = .ok (.aload_n 0, 1) := by decide +kernel
theorem dX1_shopAt_1 : decode cX1_shopAt 1 = .ok (.getfield 16, 3) := by decide +kernel
theorem dX1_shopAt_4 : decode cX1_shopAt 4 = .ok (.aload_n 0, 1) := by decide +kernel
theorem dX1_shopAt_5 : decode cX1_shopAt 5 = .ok (.getfield 20, 3) := by decide +kernel
theorem dX1_shopAt_8 : decode cX1_shopAt 8 = .ok (.iconst 2, 1) := by decide +kernel
theorem dX1_shopAt_9 : decode cX1_shopAt 9 = .ok (.iload_n 1, 1) := by decide +kernel
theorem dX1_shopAt_10 : decode cX1_shopAt 10 = .ok (.iadd, 1) := by decide +kernel
theorem dX1_shopAt_11 : decode cX1_shopAt 11 = .ok (.invokevirtual 24, 3) := by decide +kernel
theorem dX1_shopAt_14 : decode cX1_shopAt 14 = .ok (.ireturn, 1) := by decide +kernel
set_option maxRecDepth 20000 in
theorem ggX1_setShopAt_X2_set : GoodIn wsX1_setShopAt wsX2_set := goodIn_r _ [7, 8, 9, 10, 11, 6, 12, 13, 14, 17, 18, 19] (by decide +kernel) (by decide +kernel)
set_option maxRecDepth 20000 in
theorem gX1_setShopAt_X2_set : GoodIn wsX1_setShopAt (wsV RX1 36 RX2 yX2_set wsX2_set) := goodIn_app (goodIn_of _ (by decide +kernel)) ggX1_setShopAt_X2_set
theorem dX1_setShopAt_0 : decode cX1_setShopAt 0 = .ok (.aload_n 0, 1) := by decide +kernel
theorem dX1_setShopAt_1 : decode cX1_setShopAt 1 = .ok (.getfield 16, 3) := by decide +kernel
theorem dX1_setShopAt_4 : decode cX1_setShopAt 4 = .ok (.aload_n 0, 1) := by decide +kernel
theorem dX1_setShopAt_5 : decode cX1_setShopAt 5 = .ok (.getfield 20, 3) := by decide +kernel
theorem dX1_setShopAt_8 : decode cX1_setShopAt 8 = .ok (.iconst 2, 1) := by decide +kernel
theorem dX1_setShopAt_9 : decode cX1_setShopAt 9 = .ok (.iload_n 1, 1) := by decide +kernel
theorem dX1_setShopAt_10 : decode cX1_setShopAt 10 = .ok (.iadd, 1) := by decide +kernel
theorem dX1_setShopAt_11 : decode cX1_setShopAt 11 = .ok (.iload_n 2, 1) := by decide +kernel
theorem dX1_setShopAt_12 : decode cX1_setShopAt 12 = .ok (.invokevirtual 36, 3) := by decide +kernel
theorem dX1_setShopAt_15 : decode cX1_setShopAt 15 = .ok (.return_, 1) := by decide +kernel
set_option maxRecDepth 20000 in
theorem ggX1_find_X2_set : GoodIn wsX1_find wsX2_set := goodIn_r _ [7, 8, 9, 10, 11, 6, 12, 13, 14, 45, 46, 47] (by decide +kernel) (by decide +kernel)
set_option maxRecDepth 20000 in
theorem gX1_find_X2_set : GoodIn wsX1_find (wsV RX1 36 RX2 yX2_set wsX2_set) := goodIn_app (goodIn_of _ (by decide +kernel)) ggX1_find_X2_set
set_option maxRecDepth 20000 in
theorem ggX1_find_X1_setShopAt : GoodIn wsX1_find wsX1_setShopAt := goodIn_r _ [19, 1, 2, 3, 4, 5, 6, 7, 8, 9, 10, 11, 12, 13, 14, 43, 44, 45, 46, 47] (by decide +kernel) (by decide +kernel)
set_option maxRecDepth 20000 in
theorem gX1_find_X1_setShopAt : GoodIn wsX1_find (wsV RX1 40 RX1 yX1_setShopAt wsX1_setShopAt) := goodIn_app (goodIn_of _ (by decide +kernel)) ggX1_find_X1_setShopAt
set_option maxRecDepth 20000 in
theorem ggX1_find_X1_closes : GoodIn wsX1_find wsX1_closes := goodIn_r _ [22, 23, 24, 25, 18, 26, 1, 2, 27, 28, 29, 6, 30, 8, 9, 10, 11, 12, 13, 14, 31, 32, 33, 34, 35, 36, 37, 38, 39, 40, 41, 42, 15, 16, 17, 19, 3, 4, 5, 7, 20, 21, 43, 44, 45, 46, 47, 48, 49] (by decide +kernel) (by decide +kernel)
set_option maxRecDepth 20000 in
theorem gX1_find_X1_closes : GoodIn wsX1_find (va_wsS RX1 43 yX1_closes wsX1_closes) := goodIn_app (goodIn_of _ (by decide +kernel)) ggX1_find_X1_closes
theorem dX1_find_0 : decode cX1_find 0 = .ok (.iconst 2, 1) := by decide +kernel
theorem dX1_find_1 : decode cX1_find 1 = .ok (.istore_n 2, 1) := by decide +kernel
theorem dX1_find_2 : decode cX1_find 2 = .ok (.iload_n 2, 1) := by decide +kernel
theorem dX1_find_3 : decode cX1_find 3 = .ok (.iconst 5, 1) := by decide +kernel
theorem dX1_find_4 : decode cX1_find 4 = .ok (.if_icmp .gt 54, 3) := by decide +kernel
theorem dX1_find_7 : decode cX1_find 7 = .ok (.aload_n 0, 1) := by decide +kernel
theorem dX1_find_8 : decode cX1_find 8 = .ok (.getfield 16, 3) := by decide +kernel
theorem dX1_find_11 : decode cX1_find 11 = .ok (.aload_n 0, 1) := by decide +kernel
theorem dX1_find_12 : decode cX1_find 12 = .ok (.getfield 20, 3) := by decide +kernel
theorem dX1_find_15 : decode cX1_find 15 = .ok (.iconst 0, 1) := by decide +kernel
theorem dX1_find_16 : decode cX1_find 16 = .ok (.iload_n 2, 1) := by decide +kernel
theorem dX1_find_17 : decode cX1_find 17 = .ok (.invokevirtual 36, 3) := by decide +kernel
theorem dX1_find_20 : decode cX1_find 20 = .ok (.iconst 0, 1) := by decide +kernel
theorem dX1_find_21 : decode cX1_find 21 = .ok (.istore_n 3, 1) := by decide +kernel
theorem dX1_find_22 : decode cX1_find 22 = .ok (.iload_n 3, 1) := by decide +kernel
theorem dX1_find_23 : decode cX1_find 23 = .ok (.bipush 8, 2) := by decide +kernel
theorem dX1_find_25 : decode cX1_find 25 = .ok (.if_icmp .ge 27, 3) := by decide +kernel
theorem dX1_find_28 : decode cX1_find 28 = .ok (.aload_n 0, 1) := by decide +kernel
theorem dX1_find_29 : decode cX1_find 29 = .ok (.iconst 0, 1) := by decide +kernel
theorem dX1_find_30 : decode cX1_find 30 = .ok (.iload_n 3, 1) := by decide +kernel
theorem dX1_find_31 : decode cX1_find 31 = .ok (.invokevirtual 40, 3) := by decide +kernel
theorem dX1_find_34 : decode cX1_find 34 = .ok (.aload_n 0, 1) := by decide +kernel
theorem dX1_find_35 : decode cX1_find 35 = .ok (.aload_n 1, 1) := by decide +kernel
theorem dX1_find_36 : decode cX1_find 36 = .ok (.iload_n 2, 1) := by decide +kernel
theorem dX1_find_37 : decode cX1_find 37 = .ok (.iconst 1, 1) := by decide +kernel
theorem dX1_find_38 : decode cX1_find 38 = .ok (.invokestatic 43, 3) := by decide +kernel
theorem dX1_find_41 : decode cX1_find 41 = .ok (.ifCond .eq 5, 3) := by decide +kernel
theorem dX1_find_44 : decode cX1_find 44 = .ok (.iconst 1, 1) := by decide +kernel
theorem dX1_find_45 : decode cX1_find 45 = .ok (.ireturn, 1) := by decide +kernel
theorem dX1_find_46 : decode cX1_find 46 = .ok (.iinc 3 1, 3) := by decide +kernel
theorem dX1_find_49 : decode cX1_find 49 = .ok (.goto (-27), 3) := by decide +kernel
theorem dX1_find_52 : decode cX1_find 52 = .ok (.iinc 2 1, 3) := by decide +kernel
theorem dX1_find_55 : decode cX1_find 55 = .ok (.goto (-53), 3) := by decide +kernel
theorem dX1_find_58 : decode cX1_find 58 = .ok (.iconst 0, 1) := by decide +kernel
theorem dX1_find_59 : decode cX1_find 59 = .ok (.ireturn, 1) := by decide +kernel
set_option maxRecDepth 20000 in
theorem ggX1_closes_X1_shopAt : GoodIn wsX1_closes wsX1_shopAt := goodIn_r _ [5, 6, 7, 8, 9, 10, 11, 12, 13, 14, 15, 16, 17, 18, 19, 42, 43, 44, 45, 46] (by decide +kernel) (by decide +kernel)
set_option maxRecDepth 20000 in
theorem gX1_closes_X1_shopAt : GoodIn wsX1_closes (wsV RX1 47 RX1 yX1_shopAt wsX1_shopAt) := goodIn_app (goodIn_of _ (by decide +kernel)) ggX1_closes_X1_shopAt
set_option maxRecDepth 20000 in
theorem ggX1_closes_X0_open : GoodIn wsX1_closes wsX0_open := goodIn_r _ [24, 25, 26, 27, 9, 10, 11, 12, 13, 14, 15, 16, 17, 18, 19, 47, 48, 44, 45, 46] (by decide +kernel) (by decide +kernel)
set_option maxRecDepth 20000 in
theorem gX1_closes_X0_open : GoodIn wsX1_closes (wsV RX1 51 RX0 yX0_open wsX0_open) := goodIn_app (goodIn_of _ (by decide +kernel)) ggX1_closes_X0_open
set_option maxRecDepth 20000 in
theorem ggX1_closes_X1_isSet : GoodIn wsX1_closes wsX1_isSet := goodIn_r _ [31, 6, 7, 8, 9, 10, 11, 12, 13, 14, 15, 16, 17, 18, 19, 42, 43, 44, 45, 46] (by decide +kernel) (by decide +kernel)
set_option maxRecDepth 20000 in
theorem gX1_closes_X1_isSet : GoodIn wsX1_closes (wsV RX1 56 RX1 yX1_isSet wsX1_isSet) := goodIn_app (goodIn_of _ (by decide +kernel)) ggX1_closes_X1_isSet
set_option maxRecDepth 20000 in
theorem ggX1_closes_X1_setShopAt : GoodIn wsX1_closes wsX1_setShopAt := goodIn_r _ [35, 6, 7, 36, 37, 38, 11, 39, 13, 14, 15, 16, 17, 18, 19, 42, 43, 44, 45, 46] (by decide +kernel) (by decide +kernel)
set_option maxRecDepth 20000 in
theorem gX1_closes_X1_setShopAt : GoodIn wsX1_closes (wsV RX1 40 RX1 yX1_setShopAt wsX1_setShopAt) := goodIn_app (goodIn_of _ (by decide +kernel)) ggX1_closes_X1_setShopAt
set_option maxRecDepth 20000 in
theorem ggX1_closes_X1_closes : GoodIn wsX1_closes wsX1_closes := goodIn_r _ [0, 1, 2, 3, 4, 5, 6, 7, 8, 9, 10, 11, 12, 13, 14, 15, 16, 17, 18, 19, 20, 21, 22, 23, 24, 25, 26, 27, 28, 29, 30, 31, 32, 33, 34, 35, 36, 37, 38, 39, 40, 41, 42, 43, 44, 45, 46, 47, 48] (by decide +kernel) (by decide +kernel)
set_option maxRecDepth 20000 in
theorem gX1_closes_X1_closes : GoodIn wsX1_closes (va_wsS RX1 43 yX1_closes wsX1_closes) := goodIn_app (goodIn_of _ (by decide +kernel)) ggX1_closes_X1_closes
theorem dX1_closes_0 : decode cX1_closes 0 = .ok (.aload_n 0, 1) := by decide +kernel
theorem dX1_closes_1 : decode cX1_closes 1 = .ok (.iconst 0, 1) := by decide +kernel
theorem dX1_closes_2 : decode cX1_closes 2 = .ok (.invokevirtual 47, 3) := by decide +kernel
theorem dX1_closes_5 : decode cX1_closes 5 = .ok (.istore 4, 2) := by decide +kernel
theorem dX1_closes_7 : decode cX1_closes 7 = .ok (.aload_n 0, 1) := by decide +kernel
theorem dX1_closes_8 : decode cX1_closes 8 = .ok (.iload_n 3, 1) := by decide +kernel
theorem dX1_closes_9 : decode cX1_closes 9 = .ok (.iconst 1, 1) := by decide +kernel
theorem dX1_closes_10 : decode cX1_closes 10 = .ok (.isub, 1) := by decide +kernel
theorem dX1_closes_11 : decode cX1_closes 11 = .ok (.invokevirtual 47, 3) := by decide +kernel
theorem dX1_closes_14 : decode cX1_closes 14 = .ok (.istore 5, 2) := by decide +kernel
theorem dX1_closes_16 : decode cX1_closes 16 = .ok (.iload_n 3, 1) := by decide +kernel
theorem dX1_closes_17 : decode cX1_closes 17 = .ok (.iload_n 2, 1) := by decide +kernel
theorem dX1_closes_18 : decode cX1_closes 18 = .ok (.if_icmp .ge 8, 3) := by decide +kernel
theorem dX1_closes_21 : decode cX1_closes 21 = .ok (.iload_n 3, 1) := by decide +kernel
theorem dX1_closes_22 : decode cX1_closes 22 = .ok (.iconst 5, 1) := by decide +kernel
theorem dX1_closes_23 : decode cX1_closes 23 = .ok (.if_icmp .lt 20, 3) := by decide +kernel
theorem dX1_closes_26 : decode cX1_closes 26 = .ok (.aload_n 1, 1) := by decide +kernel
theorem dX1_closes_27 : decode cX1_closes 27 = .ok (.iload 5, 2) := by decide +kernel
theorem dX1_closes_29 : decode cX1_closes 29 = .ok (.iload 4, 2) := by decide +kernel
theorem dX1_closes_31 : decode cX1_closes 31 = .ok (.invokevirtual 51, 3) := by decide +kernel
theorem dX1_closes_34 : decode cX1_closes 34 = .ok (.ifCond .le 7, 3) := by decide +kernel
theorem dX1_closes_37 : decode cX1_closes 37 = .ok (.iconst 1, 1) := by decide +kernel
theorem dX1_closes_38 : decode cX1_closes 38 = .ok (.goto 4, 3) := by decide +kernel
theorem dX1_closes_41 : decode cX1_closes 41 = .ok (.iconst 0, 1) := by decide +kernel
theorem dX1_closes_42 : decode cX1_closes 42 = .ok (.ireturn, 1) := by decide +kernel
theorem dX1_closes_43 : decode cX1_closes 43 = .ok (.iload 4, 2) := by decide +kernel
theorem dX1_closes_45 : decode cX1_closes 45 = .ok (.iconst 1, 1) := by decide +kernel
theorem dX1_closes_46 : decode cX1_closes 46 = .ok (.iadd, 1) := by decide +kernel
theorem dX1_closes_47 : decode cX1_closes 47 = .ok (.istore 6, 2) := by decide +kernel
theorem dX1_closes_49 : decode cX1_closes 49 = .ok (.iload 6, 2) := by decide +kernel
theorem dX1_closes_51 : decode cX1_closes 51 = .ok (.bipush 8, 2) := by decide +kernel
theorem dX1_closes_53 : decode cX1_closes 53 = .ok (.if_icmp .ge 51, 3) := by decide +kernel
theorem dX1_closes_56 : decode cX1_closes 56 = .ok (.aload_n 1, 1) := by decide +kernel
theorem dX1_closes_57 : decode cX1_closes 57 = .ok (.iload 5, 2) := by decide +kernel
theorem dX1_closes_59 : decode cX1_closes 59 = .ok (.iload 6, 2) := by decide +kernel
theorem dX1_closes_61 : decode cX1_closes 61 = .ok (.invokevirtual 51, 3) := by decide +kernel
theorem dX1_closes_64 : decode cX1_closes 64 = .ok (.ifCond .le 34, 3) := by decide +kernel
theorem dX1_closes_67 : decode cX1_closes 67 = .ok (.aload_n 0, 1) := by decide +kernel
theorem dX1_closes_68 : decode cX1_closes 68 = .ok (.iload 6, 2) := by decide +kernel
theorem dX1_closes_70 : decode cX1_closes 70 = .ok (.iload_n 3, 1) := by decide +kernel
theorem dX1_closes_71 : decode cX1_closes 71 = .ok (.invokevirtual 56, 3) := by decide +kernel
theorem dX1_closes_74 : decode cX1_closes 74 = .ok (.ifCond .ne 24, 3) := by decide +kernel
theorem dX1_closes_77 : decode cX1_closes 77 = .ok (.aload_n 0, 1) := by decide +kernel
theorem dX1_closes_78 : decode cX1_closes 78 = .ok (.iload_n 3, 1) := by decide +kernel
theorem dX1_closes_79 : decode cX1_closes 79 = .ok (.iload 6, 2) := by decide +kernel
theorem dX1_closes_81 : decode cX1_closes 81 = .ok (.invokevirtual 40, 3) := by decide +kernel
theorem dX1_closes_84 : decode cX1_closes 84 = .ok (.aload_n 0, 1) := by decide +kernel
theorem dX1_closes_85 : decode cX1_closes 85 = .ok (.aload_n 1, 1) := by decide +kernel
theorem dX1_closes_86 : decode cX1_closes 86 = .ok (.iload_n 2, 1) := by decide +kernel
theorem dX1_closes_87 : decode cX1_closes 87 = .ok (.iload_n 3, 1) := by decide +kernel
theorem dX1_closes_88 : decode cX1_closes 88 = .ok (.iconst 1, 1) := by decide +kernel
theorem dX1_closes_89 : decode cX1_closes 89 = .ok (.iadd, 1) := by decide +kernel
theorem dX1_closes_90 : decode cX1_closes 90 = .ok (.invokestatic 43, 3) := by decide +kernel
theorem dX1_closes_93 : decode cX1_closes 93 = .ok (.ifCond .eq 5, 3) := by decide +kernel
theorem dX1_closes_96 : decode cX1_closes 96 = .ok (.iconst 1, 1) := by decide +kernel
theorem dX1_closes_97 : decode cX1_closes 97 = .ok (.ireturn, 1) := by decide +kernel
theorem dX1_closes_98 : decode cX1_closes 98 = .ok (.iinc 6 1, 3) := by decide +kernel
theorem dX1_closes_101 : decode cX1_closes 101 = .ok (.goto (-52), 3) := by decide +kernel
theorem dX1_closes_104 : decode cX1_closes 104 = .ok (.iconst 0, 1) := by decide +kernel
theorem dX1_closes_105 : decode cX1_closes 105 = .ok (.ireturn, 1) := by decide +kernel
set_option maxRecDepth 20000 in
theorem ggX1_isSet_X2_get : GoodIn wsX1_isSet wsX2_get := goodIn_r _ [7, 8, 9, 10, 11, 6, 12, 13, 14, 17, 18, 19] (by decide +kernel) (by decide +kernel)
set_option maxRecDepth 20000 in
theorem gX1_isSet_X2_get : GoodIn wsX1_isSet (wsV RX1 24 RX2 yX2_get wsX2_get) := goodIn_app (goodIn_of _ (by decide +kernel)) ggX1_isSet_X2_get
theorem dX1_isSet_0 : decode cX1_isSet 0 = .ok (.iconst 0, 1) := by decide +kernel
theorem dX1_isSet_1 : decode cX1_isSet 1 = .ok (.istore_n 3, 1) := by decide +kernel
theorem dX1_isSet_2 : decode cX1_isSet 2 = .ok (.iload_n 3, 1) := by decide +kernel
theorem dX1_isSet_3 : decode cX1_isSet 3 = .ok (.iload_n 2, 1) := by decide +kernel
theorem dX1_isSet_4 : decode cX1_isSet 4 = .ok (.if_icmp .ge 29, 3) := by decide +kernel
theorem dX1_isSet_7 : decode cX1_isSet 7 = .ok (.aload_n 0, 1) := by decide +kernel
theorem dX1_isSet_8 : decode cX1_isSet 8 = .ok (.getfield 16, 3) := by decide +kernel
theorem dX1_isSet_11 : decode cX1_isSet 11 = .ok (.aload_n 0, 1) := by decide +kernel
theorem dX1_isSet_12 : decode cX1_isSet 12 = .ok (.getfield 20, 3) := by decide +kernel
theorem dX1_isSet_15 : decode cX1_isSet 15 = .ok (.iconst 2, 1) := by decide +kernel
theorem dX1_isSet_16 : decode cX1_isSet 16 = .ok (.iload_n 3, 1) := by decide +kernel
theorem dX1_isSet_17 : decode cX1_isSet 17 = .ok (.iadd, 1) := by decide +kernel
theorem dX1_isSet_18 : decode cX1_isSet 18 = .ok (.invokevirtual 24, 3) := by decide +kernel
theorem dX1_isSet_21 : decode cX1_isSet 21 = .ok (.iload_n 1, 1) := by decide +kernel
theorem dX1_isSet_22 : decode cX1_isSet 22 = .ok (.if_icmp .ne 5, 3) := by decide +kernel
theorem dX1_isSet_25 : decode cX1_isSet 25 = .ok (.iconst 1, 1) := by decide +kernel
theorem dX1_isSet_26 : decode cX1_isSet 26 = .ok (.ireturn, 1) := by decide +kernel
theorem dX1_isSet_27 : decode cX1_isSet 27 = .ok (.iinc 3 1, 3) := by decide +kernel
theorem dX1_isSet_30 : decode cX1_isSet 30 = .ok (.goto (-28), 3) := by decide +kernel
theorem dX1_isSet_33 : decode cX1_isSet 33 = .ok (.iconst 0, 1) := by decide +kernel
theorem dX1_isSet_34 : decode cX1_isSet 34 = .ok (.ireturn, 1) := by decide +kernel
set_option maxRecDepth 20000 in
theorem ggX1_net_X2_get : GoodIn wsX1_net wsX2_get := goodIn_r _ [11, 12, 13, 14, 15, 10, 16, 17, 18, 52, 53, 54] (by decide +kernel) (by decide +kernel)
set_option maxRecDepth 20000 in
theorem gX1_net_X2_get : GoodIn wsX1_net (wsV RX1 24 RX2 yX2_get wsX2_get) := goodIn_app (goodIn_of _ (by decide +kernel)) ggX1_net_X2_get
set_option maxRecDepth 20000 in
theorem ggX1_net_X1_shopAt : GoodIn wsX1_net wsX1_shopAt := goodIn_r _ [23, 1, 2, 7, 8, 9, 10, 11, 12, 13, 14, 15, 16, 17, 18, 50, 51, 52, 53, 54] (by decide +kernel) (by decide +kernel)
set_option maxRecDepth 20000 in
theorem gX1_net_X1_shopAt : GoodIn wsX1_net (wsV RX1 47 RX1 yX1_shopAt wsX1_shopAt) := goodIn_app (goodIn_of _ (by decide +kernel)) ggX1_net_X1_shopAt
set_option maxRecDepth 20000 in
theorem ggX1_net_X0_open : GoodIn wsX1_net wsX0_open := goodIn_r _ [28, 29, 30, 31, 8, 9, 10, 11, 12, 13, 14, 15, 16, 17, 18, 55, 56, 52, 53, 54] (by decide +kernel) (by decide +kernel)
set_option maxRecDepth 20000 in
theorem gX1_net_X0_open : GoodIn wsX1_net (wsV RX1 51 RX0 yX0_open wsX0_open) := goodIn_app (goodIn_of _ (by decide +kernel)) ggX1_net_X0_open
set_option maxRecDepth 20000 in
theorem ggX1_net_X0_more : GoodIn wsX1_net wsX0_more := goodIn_r _ [35, 29, 36, 37, 38, 10, 39, 40, 8, 9, 11, 12, 13, 14, 15, 16, 17, 18, 41, 42, 43, 44, 55, 56, 52, 53, 54] (by decide +kernel) (by decide +kernel)
set_option maxRecDepth 20000 in
theorem gX1_net_X0_more : GoodIn wsX1_net (wsV RX1 65 RX0 yX0_more wsX0_more) := goodIn_app (goodIn_of _ (by decide +kernel)) ggX1_net_X0_more
set_option maxRecDepth 20000 in
theorem ggX1_net_X2_set : GoodIn wsX1_net wsX2_set := goodIn_r _ [44, 12, 13, 14, 15, 10, 16, 17, 18, 52, 53, 54] (by decide +kernel) (by decide +kernel)
set_option maxRecDepth 20000 in
theorem gX1_net_X2_set : GoodIn wsX1_net (wsV RX1 36 RX2 yX2_set wsX2_set) := goodIn_app (goodIn_of _ (by decide +kernel)) ggX1_net_X2_set
set_option maxRecDepth 20000 in
theorem ggX1_net_X1_setShopAt : GoodIn wsX1_net wsX1_setShopAt := goodIn_r _ [49, 1, 2, 45, 42, 43, 10, 44, 12, 13, 14, 15, 16, 17, 18, 50, 51, 52, 53, 54] (by decide +kernel) (by decide +kernel)
set_option maxRecDepth 20000 in
theorem gX1_net_X1_setShopAt : GoodIn wsX1_net (wsV RX1 40 RX1 yX1_setShopAt wsX1_setShopAt) := goodIn_app (goodIn_of _ (by decide +kernel)) ggX1_net_X1_setShopAt
theorem dX1_net_0 : decode cX1_net 0 = .ok (.aload_n 0, 1) := by decide +kernel
theorem dX1_net_1 : decode cX1_net 1 = .ok (.getfield 16, 3) := by decide +kernel
theorem dX1_net_4 : decode cX1_net 4 = .ok (.aload_n 0, 1) := by decide +kernel
theorem dX1_net_5 : decode cX1_net 5 = .ok (.getfield 20, 3) := by decide +kernel
theorem dX1_net_8 : decode cX1_net 8 = .ok (.iconst 0, 1) := by decide +kernel
theorem dX1_net_9 : decode cX1_net 9 = .ok (.invokevirtual 24, 3) := by decide +kernel
theorem dX1_net_12 : decode cX1_net 12 = .ok (.istore_n 2, 1) := by decide +kernel
theorem dX1_net_13 : decode cX1_net 13 = .ok (.aload_n 1, 1) := by decide +kernel
theorem dX1_net_14 : decode cX1_net 14 = .ok (.aload_n 0, 1) := by decide +kernel
theorem dX1_net_15 : decode cX1_net 15 = .ok (.iload_n 2, 1) := by decide +kernel
theorem dX1_net_16 : decode cX1_net 16 = .ok (.iconst 1, 1) := by decide +kernel
theorem dX1_net_17 : decode cX1_net 17 = .ok (.isub, 1) := by decide +kernel
theorem dX1_net_18 : decode cX1_net 18 = .ok (.invokevirtual 47, 3) := by decide +kernel
theorem dX1_net_21 : decode cX1_net 21 = .ok (.aload_n 0, 1) := by decide +kernel
theorem dX1_net_22 : decode cX1_net 22 = .ok (.iconst 0, 1) := by decide +kernel
theorem dX1_net_23 : decode cX1_net 23 = .ok (.invokevirtual 47, 3) := by decide +kernel
theorem dX1_net_26 : decode cX1_net 26 = .ok (.invokevirtual 51, 3) := by decide +kernel
theorem dX1_net_29 : decode cX1_net 29 = .ok (.istore_n 3, 1) := by decide +kernel
theorem dX1_net_30 : decode cX1_net 30 = .ok (.iconst 1, 1) := by decide +kernel
theorem dX1_net_31 : decode cX1_net 31 = .ok (.istore 4, 2) := by decide +kernel
theorem dX1_net_33 : decode cX1_net 33 = .ok (.iload 4, 2) := by decide +kernel
theorem dX1_net_35 : decode cX1_net 35 = .ok (.iload_n 2, 1) := by decide +kernel
theorem dX1_net_36 : decode cX1_net 36 = .ok (.if_icmp .ge 32, 3) := by decide +kernel
theorem dX1_net_39 : decode cX1_net 39 = .ok (.iload_n 3, 1) := by decide +kernel
theorem dX1_net_40 : decode cX1_net 40 = .ok (.aload_n 1, 1) := by decide +kernel
theorem dX1_net_41 : decode cX1_net 41 = .ok (.aload_n 0, 1) := by decide +kernel
theorem dX1_net_42 : decode cX1_net 42 = .ok (.iload 4, 2) := by decide +kernel
theorem dX1_net_44 : decode cX1_net 44 = .ok (.iconst 1, 1) := by decide +kernel
theorem dX1_net_45 : decode cX1_net 45 = .ok (.isub, 1) := by decide +kernel
theorem dX1_net_46 : decode cX1_net 46 = .ok (.invokevirtual 47, 3) := by decide +kernel
theorem dX1_net_49 : decode cX1_net 49 = .ok (.aload_n 0, 1) := by decide +kernel
theorem dX1_net_50 : decode cX1_net 50 = .ok (.iload 4, 2) := by decide +kernel
theorem dX1_net_52 : decode cX1_net 52 = .ok (.invokevirtual 47, 3) := by decide +kernel
theorem dX1_net_55 : decode cX1_net 55 = .ok (.invokevirtual 51, 3) := by decide +kernel
theorem dX1_net_58 : decode cX1_net 58 = .ok (.invokestatic 60, 3) := by decide +kernel
theorem dX1_net_61 : decode cX1_net 61 = .ok (.istore_n 3, 1) := by decide +kernel
theorem dX1_net_62 : decode cX1_net 62 = .ok (.iinc 4 1, 3) := by decide +kernel
theorem dX1_net_65 : decode cX1_net 65 = .ok (.goto (-32), 3) := by decide +kernel
theorem dX1_net_68 : decode cX1_net 68 = .ok (.aload_n 1, 1) := by decide +kernel
theorem dX1_net_69 : decode cX1_net 69 = .ok (.aload_n 0, 1) := by decide +kernel
theorem dX1_net_70 : decode cX1_net 70 = .ok (.iload_n 2, 1) := by decide +kernel
theorem dX1_net_71 : decode cX1_net 71 = .ok (.iconst 1, 1) := by decide +kernel
theorem dX1_net_72 : decode cX1_net 72 = .ok (.isub, 1) := by decide +kernel
theorem dX1_net_73 : decode cX1_net 73 = .ok (.invokevirtual 47, 3) := by decide +kernel
theorem dX1_net_76 : decode cX1_net 76 = .ok (.aload_n 0, 1) := by decide +kernel
theorem dX1_net_77 : decode cX1_net 77 = .ok (.iconst 0, 1) := by decide +kernel
theorem dX1_net_78 : decode cX1_net 78 = .ok (.invokevirtual 47, 3) := by decide +kernel
theorem dX1_net_81 : decode cX1_net 81 = .ok (.iload_n 3, 1) := by decide +kernel
theorem dX1_net_82 : decode cX1_net 82 = .ok (.ineg, 1) := by decide +kernel
theorem dX1_net_83 : decode cX1_net 83 = .ok (.invokevirtual 65, 3) := by decide +kernel
theorem dX1_net_86 : decode cX1_net 86 = .ok (.iconst 1, 1) := by decide +kernel
theorem dX1_net_87 : decode cX1_net 87 = .ok (.istore 4, 2) := by decide +kernel
theorem dX1_net_89 : decode cX1_net 89 = .ok (.iload 4, 2) := by decide +kernel
theorem dX1_net_91 : decode cX1_net 91 = .ok (.iload_n 2, 1) := by decide +kernel
theorem dX1_net_92 : decode cX1_net 92 = .ok (.if_icmp .ge 29, 3) := by decide +kernel
theorem dX1_net_95 : decode cX1_net 95 = .ok (.aload_n 1, 1) := by decide +kernel
theorem dX1_net_96 : decode cX1_net 96 = .ok (.aload_n 0, 1) := by decide +kernel
theorem dX1_net_97 : decode cX1_net 97 = .ok (.iload 4, 2) := by decide +kernel
theorem dX1_net_99 : decode cX1_net 99 = .ok (.iconst 1, 1) := by decide +kernel
theorem dX1_net_100 : decode cX1_net 100 = .ok (.isub, 1) := by decide +kernel
theorem dX1_net_101 : decode cX1_net 101 = .ok (.invokevirtual 47, 3) := by decide +kernel
theorem dX1_net_104 : decode cX1_net 104 = .ok (.aload_n 0, 1) := by decide +kernel
theorem dX1_net_105 : decode cX1_net 105 = .ok (.iload 4, 2) := by decide +kernel
theorem dX1_net_107 : decode cX1_net 107 = .ok (.invokevirtual 47, 3) := by decide +kernel
theorem dX1_net_110 : decode cX1_net 110 = .ok (.iload_n 3, 1) := by decide +kernel
theorem dX1_net_111 : decode cX1_net 111 = .ok (.ineg, 1) := by decide +kernel
theorem dX1_net_112 : decode cX1_net 112 = .ok (.invokevirtual 65, 3) := by decide +kernel
theorem dX1_net_115 : decode cX1_net 115 = .ok (.iinc 4 1, 3) := by decide +kernel
theorem dX1_net_118 : decode cX1_net 118 = .ok (.goto (-29), 3) := by decide +kernel
theorem dX1_net_121 : decode cX1_net 121 = .ok (.aload_n 0, 1) := by decide +kernel
theorem dX1_net_122 : decode cX1_net 122 = .ok (.getfield 16, 3) := by decide +kernel
theorem dX1_net_125 : decode cX1_net 125 = .ok (.aload_n 0, 1) := by decide +kernel
theorem dX1_net_126 : decode cX1_net 126 = .ok (.getfield 20, 3) := by decide +kernel
theorem dX1_net_129 : decode cX1_net 129 = .ok (.iconst 1, 1) := by decide +kernel
theorem dX1_net_130 : decode cX1_net 130 = .ok (.iload_n 3, 1) := by decide +kernel
theorem dX1_net_131 : decode cX1_net 131 = .ok (.invokevirtual 36, 3) := by decide +kernel
theorem dX1_net_134 : decode cX1_net 134 = .ok (.iload_n 2, 1) := by decide +kernel
theorem dX1_net_135 : decode cX1_net 135 = .ok (.istore 4, 2) := by decide +kernel
theorem dX1_net_137 : decode cX1_net 137 = .ok (.iload 4, 2) := by decide +kernel
theorem dX1_net_139 : decode cX1_net 139 = .ok (.iconst 5, 1) := by decide +kernel
theorem dX1_net_140 : decode cX1_net 140 = .ok (.if_icmp .ge 16, 3) := by decide +kernel
theorem dX1_net_143 : decode cX1_net 143 = .ok (.aload_n 0, 1) := by decide +kernel
theorem dX1_net_144 : decode cX1_net 144 = .ok (.iload 4, 2) := by decide +kernel
theorem dX1_net_146 : decode cX1_net 146 = .ok (.iconst (-1), 1) := by decide +kernel
theorem dX1_net_147 : decode cX1_net 147 = .ok (.invokevirtual 40, 3) := by decide +kernel
theorem dX1_net_150 : decode cX1_net 150 = .ok (.iinc 4 1, 3) := by decide +kernel
theorem dX1_net_153 : decode cX1_net 153 = .ok (.goto (-16), 3) := by decide +kernel
theorem dX1_net_156 : decode cX1_net 156 = .ok (.return_, 1) := by decide +kernel
