theorem dX4_ring_12 : decode cX4_ring 12 = .ok (.if_icmp .lt 13, 3) := by decide +kernel
theorem dX4_ring_15 : decode cX4_ring 15 = .ok (.new 194, 3) := by decide +kernel
theorem dX4_ring_18 : decode cX4_ring 18 = .ok (.dup, 1) := by decide +kernel
theorem dX4_ring_19 : decode cX4_ring 19 = .ok (.ldc 196, 2) := by decide +kernel
theorem dX4_ring_21 : decode cX4_ring 21 = .ok (.invokespecial 198, 3) := by decide +kernel
theorem dX4_ring_24 : decode cX4_ring 24 = .ok (.athrow, 1) := by decide +kernel
theorem dX4_ring_25 : decode cX4_ring 25 = .ok (.iload_n 2, 1) := by decide +kernel
theorem dX4_ring_26 : decode cX4_ring 26 = .ok (.iconst 0, 1) := by decide +kernel
theorem dX4_ring_27 : decode cX4_ring 27 = .ok (.bipush 6, 2) := by decide +kernel
theorem dX4_ring_29 : decode cX4_ring 29 = .ok (.invokestatic 92, 3) := by decide +kernel
theorem dX4_ring_32 : decode cX4_ring 32 = .ok (.aload_n 0, 1) := by decide +kernel
theorem dX4_ring_33 : decode cX4_ring 33 = .ok (.getfield 41, 3) := by decide +kernel
theorem dX4_ring_36 : decode cX4_ring 36 = .ok (.iload_n 1, 1) := by decide +kernel
theorem dX4_ring_37 : decode cX4_ring 37 = .ok (.iload_n 2, 1) := by decide +kernel
theorem dX4_ring_38 : decode cX4_ring 38 = .ok (.invokevirtual 199, 3) := by decide +kernel
theorem dX4_ring_41 : decode cX4_ring 41 = .ok (.ireturn, 1) := by decide +kernel
theorem dX4_wasShop_0 : decode cX4_wasShop 0 = .ok (.iload_n 1, 1) := by decide +kernel
theorem dX4_wasShop_1 : decode cX4_wasShop 1 = .ok (.ifCond .lt 15, 3) := by decide +kernel
theorem dX4_wasShop_4 : decode cX4_wasShop 4 = .ok (.iload_n 1, 1) := by decide +kernel
theorem dX4_wasShop_5 : decode cX4_wasShop 5 = .ok (.aload_n 0, 1) := by decide +kernel
theorem dX4_wasShop_6 : decode cX4_wasShop 6 = .ok (.getfield 45, 3) := by decide +kernel
theorem dX4_wasShop_9 : decode cX4_wasShop 9 = .ok (.if_icmp .ge 7, 3) := by decide +kernel
theorem dX4_wasShop_12 : decode cX4_wasShop 12 = .ok (.iconst 1, 1) := by decide +kernel
theorem dX4_wasShop_13 : decode cX4_wasShop 13 = .ok (.goto 4, 3) := by decide +kernel
theorem dX4_wasShop_16 : decode cX4_wasShop 16 = .ok (.iconst 0, 1) := by decide +kernel
theorem dX4_wasShop_17 : decode cX4_wasShop 17 = .ok (.ireturn, 1) := by decide +kernel
set_option maxRecDepth 20000 in
theorem ggX4_isShop_X4_wasShop : GoodIn wsX4_isShop wsX4_wasShop := goodIn_r _ [6, 7, 20, 21, 22, 23, 24, 25, 26, 27, 28] (by decide +kernel) (by decide +kernel)
set_option maxRecDepth 20000 in
theorem gX4_isShop_X4_wasShop : GoodIn wsX4_isShop (wsV RX4 200 RX4 yX4_wasShop wsX4_wasShop) := goodIn_app (goodIn_of _ (by decide +kernel)) ggX4_isShop_X4_wasShop
set_option maxRecDepth 20000 in
theorem ggX4_isShop_X2_get : GoodIn wsX4_isShop wsX2_get := goodIn_r _ [12, 13, 14, 15, 16, 11, 17, 18, 19, 29, 30, 31] (by decide +kernel) (by decide +kernel)
set_option maxRecDepth 20000 in
theorem gX4_isShop_X2_get : GoodIn wsX4_isShop (wsV RX4 145 RX2 yX2_get wsX2_get) := goodIn_app (goodIn_of _ (by decide +kernel)) ggX4_isShop_X2_get
theorem dX4_isShop_0 : decode cX4_isShop 0 = .ok (.aload_n 0, 1) := by decide +kernel
theorem dX4_isShop_1 : decode cX4_isShop 1 = .ok (.iload_n 1, 1) := by decide +kernel
theorem dX4_isShop_2 : decode cX4_isShop 2 = .ok (.invokevirtual 200, 3) := by decide +kernel
theorem dX4_isShop_5 : decode cX4_isShop 5 = .ok (.ifCond .eq 19, 3) := by decide +kernel
theorem dX4_isShop_8 : decode cX4_isShop 8 = .ok (.aload_n 0, 1) := by decide +kernel
theorem dX4_isShop_9 : decode cX4_isShop 9 = .ok (.getfield 14, 3) := by decide +kernel
theorem dX4_isShop_12 : decode cX4_isShop 12 = .ok (.iload_n 1, 1) := by decide +kernel
theorem dX4_isShop_13 : decode cX4_isShop 13 = .ok (.iconst 0, 1) := by decide +kernel
theorem dX4_isShop_14 : decode cX4_isShop 14 = .ok (.invokevirtual 145, 3) := by decide +kernel
theorem dX4_isShop_17 : decode cX4_isShop 17 = .ok (.ifCond .ne 7, 3) := by decide +kernel
theorem dX4_isShop_20 : decode cX4_isShop 20 = .ok (.iconst 1, 1) := by decide +kernel
theorem dX4_isShop_21 : decode cX4_isShop 21 = .ok (.goto 4, 3) := by decide +kernel
theorem dX4_isShop_24 : decode cX4_isShop 24 = .ok (.iconst 0, 1) := by decide +kernel
theorem dX4_isShop_25 : decode cX4_isShop 25 = .ok (.ireturn, 1) := by decide +kernel
set_option maxRecDepth 20000 in
theorem ggX4_needShop_X4_isShop : GoodIn wsX4_needShop wsX4_isShop := goodIn_r _ [7, 8, 9, 10, 11, 6, 12, 13, 14, 15, 16, 17, 18, 19, 20, 21, 22, 23, 24, 25, 26, 27, 28, 29, 30, 31, 32, 33, 34, 35, 36, 37] (by decide +kernel) (by decide +kernel)
set_option maxRecDepth 20000 in
theorem gX4_needShop_X4_isShop : GoodIn wsX4_needShop (wsV RX4 121 RX4 yX4_isShop wsX4_isShop) := goodIn_app (goodIn_of _ (by decide +kernel)) ggX4_needShop_X4_isShop
theorem dX4_needShop_0 : decode cX4_needShop 0 = .ok (.aload_n 0, 1) := by decide +kernel
theorem dX4_needShop_1 : decode cX4_needShop 1 = .ok (.iload_n 1, 1) := by decide +kernel
theorem dX4_needShop_2 : decode cX4_needShop 2 = .ok (.invokevirtual 121, 3) := by decide +kernel
theorem dX4_needShop_5 : decode cX4_needShop 5 = .ok (.ifCond .ne 13, 3) := by decide +kernel
theorem dX4_needShop_8 : decode cX4_needShop 8 = .ok (.new 194, 3) := by decide +kernel
theorem dX4_needShop_11 : decode cX4_needShop 11 = .ok (.dup, 1) := by decide +kernel
theorem dX4_needShop_12 : decode cX4_needShop 12 = .ok (.ldc 203, 2) := by decide +kernel
theorem dX4_needShop_14 : decode cX4_needShop 14 = .ok (.invokespecial 198, 3) := by decide +kernel
theorem dX4_needShop_17 : decode cX4_needShop 17 = .ok (.athrow, 1) := by decide +kernel
theorem dX4_needShop_18 : decode cX4_needShop 18 = .ok (.return_, 1) := by decide +kernel
set_option maxRecDepth 20000 in
theorem ggX4_needShopEver_X4_wasShop : GoodIn wsX4_needShopEver wsX4_wasShop := goodIn_r _ [7, 8, 9, 10, 11, 12, 13, 14, 15, 16, 17] (by decide +kernel) (by decide +kernel)
set_option maxRecDepth 20000 in
theorem gX4_needShopEver_X4_wasShop : GoodIn wsX4_needShopEver (wsV RX4 200 RX4 yX4_wasShop wsX4_wasShop) := goodIn_app (goodIn_of _ (by decide +kernel)) ggX4_needShopEver_X4_wasShop
theorem dX4_needShopEver_0 : decode cX4_needShopEver 0 = .ok (.aload_n 0, 1) := by decide +kernel
theorem dX4_needShopEver_1 : decode cX4_needShopEver 1 = .ok (.iload_n 1, 1) := by decide +kernel
theorem dX4_needShopEver_2 : decode cX4_needShopEver 2 = .ok (.invokevirtual 200, 3) := by decide +kernel
theorem dX4_needShopEver_5 : decode cX4_needShopEver 5 = .ok (.ifCond .ne 13, 3) := by decide +kernel
theorem dX4_needShopEver_8 : decode cX4_needShopEver 8 = .ok (.new 194, 3) := by decide +kernel
theorem dX4_needShopEver_11 : decode cX4_needShopEver 11 = .ok (.dup, 1) := by decide +kernel
theorem dX4_needShopEver_12 : decode cX4_needShopEver 12 = .ok (.ldc 205, 2) := by decide +kernel
theorem dX4_needShopEver_14 : decode cX4_needShopEver 14 = .ok (.invokespecial 198, 3) := by decide +kernel
theorem dX4_needShopEver_17 : decode cX4_needShopEver 17 = .ok (.athrow, 1) := by decide +kernel
theorem dX4_needShopEver_18 : decode cX4_needShopEver 18 = .ok (.return_, 1) := by decide +kernel
set_option maxRecDepth 20000 in
theorem ggX4_needShopEverOrHouse_X4_needShopEver : GoodIn wsX4_needShopEverOrHouse wsX4_needShopEver := goodIn_ca (goodIn_r _ [5, 6, 7, 8, 9, 10, 4, 11, 12, 13, 14, 15, 16, 17, 18, 19, 20, 21] (by decide +kernel) (by decide +kernel)) (goodIn_sub (fun _ h => List.mem_cons_of_mem _ (List.mem_append_right _ h)) (by decide +kernel))
set_option maxRecDepth 20000 in
theorem gX4_needShopEverOrHouse_X4_needShopEver : GoodIn wsX4_needShopEverOrHouse (wsV RX4 178 RX4 yX4_needShopEver wsX4_needShopEver) := goodIn_app (goodIn_of _ (by decide +kernel)) ggX4_needShopEverOrHouse_X4_needShopEver
theorem dX4_needShopEverOrHouse_0 : decode cX4_needShopEverOrHouse 0 = .ok (.iload_n 1, 1) := by decide +kernel
theorem dX4_needShopEverOrHouse_1 : decode cX4_needShopEverOrHouse 1 = .ok (.bipush 8, 2) := by decide +kernel
theorem dX4_needShopEverOrHouse_3 : decode cX4_needShopEverOrHouse 3 = .ok (.if_icmp .eq 8, 3) := by decide +kernel
theorem dX4_needShopEverOrHouse_6 : decode cX4_needShopEverOrHouse 6 = .ok (.aload_n 0, 1) := by decide +kernel
theorem dX4_needShopEverOrHouse_7 : decode cX4_needShopEverOrHouse 7 = .ok (.iload_n 1, 1) := by decide +kernel
theorem dX4_needShopEverOrHouse_8 : decode cX4_needShopEverOrHouse 8 = .ok (.invokevirtual 178, 3) := by decide +kernel
theorem dX4_needShopEverOrHouse_11 : decode cX4_needShopEverOrHouse 11 = .ok (.return_, 1) := by decide +kernel
set_option maxRecDepth 20000 in
theorem ggX4_needTrade_X3_has : GoodIn wsX4_needTrade wsX3_has := goodIn_r _ [8, 9, 19, 20] (by decide +kernel) (by decide +kernel)
set_option maxRecDepth 20000 in
theorem gX4_needTrade_X3_has : GoodIn wsX4_needTrade (wsV RX4 207 RX3 yX3_has wsX3_has) := goodIn_app (goodIn_of _ (by decide +kernel)) ggX4_needTrade_X3_has
theorem dX4_needTrade_0 : decode cX4_needTrade 0 = .ok (.aload_n 0, 1) := by decide +kernel
theorem dX4_needTrade_1 : decode cX4_needTrade 1 = .ok (.getfield 21, 3) := by decide +kernel
theorem dX4_needTrade_4 : decode cX4_needTrade 4 = .ok (.iload_n 1, 1) := by decide +kernel
theorem dX4_needTrade_5 : decode cX4_needTrade 5 = .ok (.invokevirtual 207, 3) := by decide +kernel
theorem dX4_needTrade_8 : decode cX4_needTrade 8 = .ok (.ifCond .ne 13, 3) := by decide +kernel
theorem dX4_needTrade_11 : decode cX4_needTrade 11 = .ok (.new 194, 3) := by decide +kernel
theorem dX4_needTrade_14 : decode cX4_needTrade 14 = .ok (.dup, 1) := by decide +kernel
theorem dX4_needTrade_15 : decode cX4_needTrade 15 = .ok (.ldc 210, 2) := by decide +kernel
theorem dX4_needTrade_17 : decode cX4_needTrade 17 = .ok (.invokespecial 198, 3) := by decide +kernel
theorem dX4_needTrade_20 : decode cX4_needTrade 20 = .ok (.athrow, 1) := by decide +kernel
theorem dX4_needTrade_21 : decode cX4_needTrade 21 = .ok (.return_, 1) := by decide +kernel
theorem dX4_needRange_0 : decode cX4_needRange 0 = .ok (.iload_n 0, 1) := by decide +kernel
theorem dX4_needRange_1 : decode cX4_needRange 1 = .ok (.iload_n 1, 1) := by decide +kernel
theorem dX4_needRange_2 : decode cX4_needRange 2 = .ok (.if_icmp .lt 8, 3) := by decide +kernel
theorem dX4_needRange_5 : decode cX4_needRange 5 = .ok (.iload_n 0, 1) := by decide +kernel
theorem dX4_needRange_6 : decode cX4_needRange 6 = .ok (.iload_n 2, 1) := by decide +kernel
theorem dX4_needRange_7 : decode cX4_needRange 7 = .ok (.if_icmp .le 13, 3) := by decide +kernel
theorem dX4_needRange_10 : decode cX4_needRange 10 = .ok (.new 212, 3) := by decide +kernel
theorem dX4_needRange_13 : decode cX4_needRange 13 = .ok (.dup, 1) := by decide +kernel
theorem dX4_needRange_14 : decode cX4_needRange 14 = .ok (.ldc 214, 2) := by decide +kernel
theorem dX4_needRange_16 : decode cX4_needRange 16 = .ok (.invokespecial 216, 3) := by decide +kernel
theorem dX4_needRange_19 : decode cX4_needRange 19 = .ok (.athrow, 1) := by decide +kernel
theorem dX4_needRange_20 : decode cX4_needRange 20 = .ok (.return_, 1) := by decide +kernel
theorem dX4_needUnlike_0 : decode cX4_needUnlike 0 = .ok (.iload_n 0, 1) := by decide +kernel
theorem dX4_needUnlike_1 : decode cX4_needUnlike 1 = .ok (.iload_n 1, 1) := by decide +kernel
theorem dX4_needUnlike_2 : decode cX4_needUnlike 2 = .ok (.if_icmp .ne 13, 3) := by decide +kernel
theorem dX4_needUnlike_5 : decode cX4_needUnlike 5 = .ok (.new 212, 3) := by decide +kernel
theorem dX4_needUnlike_8 : decode cX4_needUnlike 8 = .ok (.dup, 1) := by decide +kernel
theorem dX4_needUnlike_9 : decode cX4_needUnlike 9 = .ok (.ldc 217, 2) := by decide +kernel
theorem dX4_needUnlike_11 : decode cX4_needUnlike 11 = .ok (.invokespecial 216, 3) := by decide +kernel
theorem dX4_needUnlike_14 : decode cX4_needUnlike 14 = .ok (.athrow, 1) := by decide +kernel
theorem dX4_needUnlike_15 : decode cX4_needUnlike 15 = .ok (.return_, 1) := by decide +kernel
set_option maxRecDepth 20000 in
theorem ggX4_needGuaranteeArguments_X4_needShop : GoodIn wsX4_needGuaranteeArguments wsX4_needShop := goodIn_ca (goodIn_r _ [5, 6, 7, 8, 9, 10, 4, 11, 12, 13, 14, 15, 16, 17, 18, 19, 20, 21, 22, 23, 24, 25, 26, 27, 28, 29, 38, 39, 40, 41, 42, 43, 44, 45, 46, 47, 48, 49] (by decide +kernel) (by decide +kernel)) (goodIn_sub (fun _ h => List.mem_cons_of_mem _ (List.mem_append_left _ (List.mem_append_right _ h))) (by decide +kernel))
set_option maxRecDepth 20000 in
theorem gX4_needGuaranteeArguments_X4_needShop : GoodIn wsX4_needGuaranteeArguments (wsV RX4 62 RX4 yX4_needShop wsX4_needShop) := goodIn_app (goodIn_of _ (by decide +kernel)) ggX4_needGuaranteeArguments_X4_needShop
set_option maxRecDepth 20000 in
theorem ggX4_needGuaranteeArguments_X4_needRange : GoodIn wsX4_needGuaranteeArguments wsX4_needRange := goodIn_ca (goodIn_r _ [32, 33, 34] (by decide +kernel) (by decide +kernel)) (goodIn_sub (fun _ h => List.mem_cons_of_mem _ (List.mem_append_right _ h)) (by decide +kernel))
set_option maxRecDepth 20000 in
theorem gX4_needGuaranteeArguments_X4_needRange : GoodIn wsX4_needGuaranteeArguments (va_wsS RX4 92 yX4_needRange wsX4_needRange) := goodIn_app (goodIn_of _ (by decide +kernel)) ggX4_needGuaranteeArguments_X4_needRange
set_option maxRecDepth 20000 in
theorem ggX4_needGuaranteeArguments_X4_needUnlike : GoodIn wsX4_needGuaranteeArguments wsX4_needUnlike := goodIn_ca (goodIn_r _ [37, 33, 34] (by decide +kernel) (by decide +kernel)) (goodIn_sub (fun _ h => List.mem_cons_of_mem _ (List.mem_append_right _ h)) (by decide +kernel))
set_option maxRecDepth 20000 in
theorem gX4_needGuaranteeArguments_X4_needUnlike : GoodIn wsX4_needGuaranteeArguments (va_wsS RX4 95 yX4_needUnlike wsX4_needUnlike) := goodIn_app (goodIn_of _ (by decide +kernel)) ggX4_needGuaranteeArguments_X4_needUnlike
theorem dX4_needGuaranteeArguments_0 : decode cX4_needGuaranteeArguments 0 = .ok (.aload_n 0, 1) := by decide +kernel
theorem dX4_needGuaranteeArguments_1 : decode cX4_needGuaranteeArguments 1 = .ok (.iload_n 1, 1) := by decide +kernel
theorem dX4_needGuaranteeArguments_2 : decode cX4_needGuaranteeArguments 2 = .ok (.invokevirtual 62, 3) := by decide +kernel
theorem dX4_needGuaranteeArguments_5 : decode cX4_needGuaranteeArguments 5 = .ok (.aload_n 0, 1) := by decide +kernel
theorem dX4_needGuaranteeArguments_6 : decode cX4_needGuaranteeArguments 6 = .ok (.iload_n 2, 1) := by decide +kernel
theorem dX4_needGuaranteeArguments_7 : decode cX4_needGuaranteeArguments 7 = .ok (.invokevirtual 62, 3) := by decide +kernel
theorem dX4_needGuaranteeArguments_10 : decode cX4_needGuaranteeArguments 10 = .ok (.iload_n 3, 1) := by decide +kernel
theorem dX4_needGuaranteeArguments_11 : decode cX4_needGuaranteeArguments 11 = .ok (.iconst 1, 1) := by decide +kernel
theorem dX4_needGuaranteeArguments_12 : decode cX4_needGuaranteeArguments 12 = .ok (.sipush 500, 3) := by decide +kernel
theorem dX4_needGuaranteeArguments_15 : decode cX4_needGuaranteeArguments 15 = .ok (.invokestatic 92, 3) := by decide +kernel
theorem dX4_needGuaranteeArguments_18 : decode cX4_needGuaranteeArguments 18 = .ok (.iload_n 1, 1) := by decide +kernel
theorem dX4_needGuaranteeArguments_19 : decode cX4_needGuaranteeArguments 19 = .ok (.iload_n 2, 1) := by decide +kernel
theorem dX4_needGuaranteeArguments_20 : decode cX4_needGuaranteeArguments 20 = .ok (.invokestatic 95, 3) := by decide +kernel
theorem dX4_needGuaranteeArguments_23 : decode cX4_needGuaranteeArguments 23 = .ok (.return_, 1) := by decide +kernel
set_option maxRecDepth 20000 in
theorem ggX4_needBearable_X0_balanceOf : GoodIn wsX4_needBearable wsX0_balanceOf := goodIn_r _ [8, 9, 10, 11, 12, 13, 14, 15, 16, 17, 18, 19, 20, 21, 22, 23, 24, 25, 26, 27, 28, 29, 65, 66, 67, 68, 69] (by decide +kernel) (by decide +kernel)
set_option maxRecDepth 20000 in
theorem gX4_needBearable_X0_balanceOf : GoodIn wsX4_needBearable (wsV RX4 165 RX0 yX0_balanceOf wsX0_balanceOf) := goodIn_app (goodIn_of _ (by decide +kernel)) ggX4_needBearable_X0_balanceOf
set_option maxRecDepth 20000 in
theorem ggX4_needBearable_X4_limitOf : GoodIn wsX4_needBearable wsX4_limitOf := goodIn_r _ [34, 35, 36, 37, 38, 39, 40, 41, 42, 43, 44, 45, 46, 47, 48, 49, 50, 51, 52, 53, 17, 18, 13, 19, 20, 21, 22, 23, 24, 15, 25, 54, 11, 12, 14, 16, 55, 27, 28, 29, 56, 57, 58, 59, 60, 61, 62, 63, 64, 70, 71, 67, 68, 69] (by decide +kernel) (by decide +kernel)
set_option maxRecDepth 20000 in
theorem gX4_needBearable_X4_limitOf : GoodIn wsX4_needBearable (wsV RX4 175 RX4 yX4_limitOf wsX4_limitOf) := goodIn_app (goodIn_of _ (by decide +kernel)) ggX4_needBearable_X4_limitOf
theorem dX4_needBearable_0 : decode cX4_needBearable 0 = .ok (.aload_n 0, 1) := by decide +kernel
theorem dX4_needBearable_1 : decode cX4_needBearable 1 = .ok (.getfield 28, 3) := by decide +kernel
theorem dX4_needBearable_4 : decode cX4_needBearable 4 = .ok (.iload_n 1, 1) := by decide +kernel
theorem dX4_needBearable_5 : decode cX4_needBearable 5 = .ok (.invokevirtual 165, 3) := by decide +kernel
theorem dX4_needBearable_8 : decode cX4_needBearable 8 = .ok (.aload_n 0, 1) := by decide +kernel
theorem dX4_needBearable_9 : decode cX4_needBearable 9 = .ok (.iload_n 1, 1) := by decide +kernel
theorem dX4_needBearable_10 : decode cX4_needBearable 10 = .ok (.invokevirtual 175, 3) := by decide +kernel
theorem dX4_needBearable_13 : decode cX4_needBearable 13 = .ok (.iadd, 1) := by decide +kernel
theorem dX4_needBearable_14 : decode cX4_needBearable 14 = .ok (.iload_n 2, 1) := by decide +kernel
theorem dX4_needBearable_15 : decode cX4_needBearable 15 = .ok (.isub, 1) := by decide +kernel
theorem dX4_needBearable_16 : decode cX4_needBearable 16 = .ok (.ifCond .ge 13, 3) := by decide +kernel
theorem dX4_needBearable_19 : decode cX4_needBearable 19 = .ok (.new 55, 3) := by decide +kernel
theorem dX4_needBearable_22 : decode cX4_needBearable 22 = .ok (.dup, 1) := by decide +kernel
theorem dX4_needBearable_23 : decode cX4_needBearable 23 = .ok (.ldc 219, 2) := by decide +kernel
theorem dX4_needBearable_25 : decode cX4_needBearable 25 = .ok (.invokespecial 59, 3) := by decide +kernel
theorem dX4_needBearable_28 : decode cX4_needBearable 28 = .ok (.athrow, 1) := by decide +kernel
theorem dX4_needBearable_29 : decode cX4_needBearable 29 = .ok (.return_, 1) := by decide +kernel
set_option maxRecDepth 20000 in
theorem ggX4_limitOf_X3_amountsSince : GoodIn wsX4_limitOf wsX3_amountsSince := goodIn_r _ [8, 9, 10, 11, 12, 7, 13, 14, 15, 16, 17, 18, 19, 20, 21, 22, 23, 24, 25, 26, 27, 28, 29, 30, 49, 50, 51, 52, 53] (by decide +kernel) (by decide +kernel)
set_option maxRecDepth 20000 in
theorem gX4_limitOf_X3_amountsSince : GoodIn wsX4_limitOf (wsV RX4 221 RX3 yX3_amountsSince wsX3_amountsSince) := goodIn_app (goodIn_of _ (by decide +kernel)) ggX4_limitOf_X3_amountsSince
set_option maxRecDepth 20000 in
theorem ggX4_limitOf_X2_columnSum : GoodIn wsX4_limitOf wsX2_columnSum := goodIn_r _ [34, 29, 35, 20, 21, 22, 23, 24, 25, 26, 27, 28, 30, 51, 52, 53] (by decide +kernel) (by decide +kernel)
set_option maxRecDepth 20000 in
theorem gX4_limitOf_X2_columnSum : GoodIn wsX4_limitOf (wsV RX4 169 RX2 yX2_columnSum wsX2_columnSum) := goodIn_app (goodIn_of _ (by decide +kernel)) ggX4_limitOf_X2_columnSum
set_option maxRecDepth 20000 in
theorem ggX4_limitOf_X2_rowSum : GoodIn wsX4_limitOf wsX2_rowSum := goodIn_r _ [39, 30, 35, 20, 21, 22, 23, 24, 25, 26, 27, 28, 29, 51, 52, 53] (by decide +kernel) (by decide +kernel)
set_option maxRecDepth 20000 in
theorem gX4_limitOf_X2_rowSum : GoodIn wsX4_limitOf (wsV RX4 172 RX2 yX2_rowSum wsX2_rowSum) := goodIn_app (goodIn_of _ (by decide +kernel)) ggX4_limitOf_X2_rowSum
theorem dX4_limitOf_0 : decode cX4_limitOf 0 = .ok (.aload_n 0, 1) := by decide +kernel
theorem dX4_limitOf_1 : decode cX4_limitOf 1 = .ok (.getfield 21, 3) := by decide +kernel
theorem dX4_limitOf_4 : decode cX4_limitOf 4 = .ok (.iload_n 1, 1) := by decide +kernel
theorem dX4_limitOf_5 : decode cX4_limitOf 5 = .ok (.aload_n 0, 1) := by decide +kernel
theorem dX4_limitOf_6 : decode cX4_limitOf 6 = .ok (.getfield 49, 3) := by decide +kernel
theorem dX4_limitOf_9 : decode cX4_limitOf 9 = .ok (.bipush 10, 2) := by decide +kernel
theorem dX4_limitOf_11 : decode cX4_limitOf 11 = .ok (.isub, 1) := by decide +kernel
theorem dX4_limitOf_12 : decode cX4_limitOf 12 = .ok (.iconst 1, 1) := by decide +kernel
theorem dX4_limitOf_13 : decode cX4_limitOf 13 = .ok (.iadd, 1) := by decide +kernel
theorem dX4_limitOf_14 : decode cX4_limitOf 14 = .ok (.invokevirtual 221, 3) := by decide +kernel
theorem dX4_limitOf_17 : decode cX4_limitOf 17 = .ok (.istore_n 2, 1) := by decide +kernel
theorem dX4_limitOf_18 : decode cX4_limitOf 18 = .ok (.sipush 500, 3) := by decide +kernel
theorem dX4_limitOf_21 : decode cX4_limitOf 21 = .ok (.aload_n 0, 1) := by decide +kernel
theorem dX4_limitOf_22 : decode cX4_limitOf 22 = .ok (.getfield 32, 3) := by decide +kernel
theorem dX4_limitOf_25 : decode cX4_limitOf 25 = .ok (.iload_n 1, 1) := by decide +kernel
theorem dX4_limitOf_26 : decode cX4_limitOf 26 = .ok (.invokevirtual 169, 3) := by decide +kernel
theorem dX4_limitOf_29 : decode cX4_limitOf 29 = .ok (.iadd, 1) := by decide +kernel
theorem dX4_limitOf_30 : decode cX4_limitOf 30 = .ok (.aload_n 0, 1) := by decide +kernel
theorem dX4_limitOf_31 : decode cX4_limitOf 31 = .ok (.getfield 32, 3) := by decide +kernel
theorem dX4_limitOf_34 : decode cX4_limitOf 34 = .ok (.iload_n 1, 1) := by decide +kernel
theorem dX4_limitOf_35 : decode cX4_limitOf 35 = .ok (.invokevirtual 172, 3) := by decide +kernel
theorem dX4_limitOf_38 : decode cX4_limitOf 38 = .ok (.isub, 1) := by decide +kernel
theorem dX4_limitOf_39 : decode cX4_limitOf 39 = .ok (.iload_n 2, 1) := by decide +kernel
theorem dX4_limitOf_40 : decode cX4_limitOf 40 = .ok (.bipush 10, 2) := by decide +kernel
theorem dX4_limitOf_42 : decode cX4_limitOf 42 = .ok (.idiv, 1) := by decide +kernel
theorem dX4_limitOf_43 : decode cX4_limitOf 43 = .ok (.iadd, 1) := by decide +kernel
theorem dX4_limitOf_44 : decode cX4_limitOf 44 = .ok (.ireturn, 1) := by decide +kernel
set_option maxRecDepth 20000 in
theorem ggX4_isIdleShop_X0_balanceOf : GoodIn wsX4_isIdleShop wsX0_balanceOf := goodIn_r _ [8, 9, 10, 11, 12, 13, 14, 15, 16, 17, 18, 19, 20, 21, 22, 23, 24, 25, 26, 27, 28, 29, 55, 56, 57, 58, 59] (by decide +kernel) (by decide +kernel)
set_option maxRecDepth 20000 in
theorem gX4_isIdleShop_X0_balanceOf : GoodIn wsX4_isIdleShop (wsV RX4 165 RX0 yX0_balanceOf wsX0_balanceOf) := goodIn_app (goodIn_of _ (by decide +kernel)) ggX4_isIdleShop_X0_balanceOf
set_option maxRecDepth 20000 in
theorem ggX4_isIdleShop_X3_hasSince : GoodIn wsX4_isIdleShop wsX3_hasSince := goodIn_r _ [34, 35, 36, 37, 38, 33, 39, 40, 41, 42, 43, 44, 45, 17, 18, 13, 19, 20, 21, 22, 23, 24, 15, 25, 60, 61, 57, 58, 59] (by decide +kernel) (by decide +kernel)
set_option maxRecDepth 20000 in
theorem gX4_isIdleShop_X3_hasSince : GoodIn wsX4_isIdleShop (wsV RX4 224 RX3 yX3_hasSince wsX3_hasSince) := goodIn_app (goodIn_of _ (by decide +kernel)) ggX4_isIdleShop_X3_hasSince
theorem dX4_isIdleShop_0 : decode cX4_isIdleShop 0 = .ok (.aload_n 0, 1) := by decide +kernel
theorem dX4_isIdleShop_1 : decode cX4_isIdleShop 1 = .ok (.getfield 28, 3) := by decide +kernel
theorem dX4_isIdleShop_4 : decode cX4_isIdleShop 4 = .ok (.iload_n 1, 1) := by decide +kernel
theorem dX4_isIdleShop_5 : decode cX4_isIdleShop 5 = .ok (.invokevirtual 165, 3) := by decide +kernel
theorem dX4_isIdleShop_8 : decode cX4_isIdleShop 8 = .ok (.ifCond .le 26, 3) := by decide +kernel
theorem dX4_isIdleShop_11 : decode cX4_isIdleShop 11 = .ok (.aload_n 0, 1) := by decide +kernel
theorem dX4_isIdleShop_12 : decode cX4_isIdleShop 12 = .ok (.getfield 21, 3) := by decide +kernel
theorem dX4_isIdleShop_15 : decode cX4_isIdleShop 15 = .ok (.iload_n 1, 1) := by decide +kernel
theorem dX4_isIdleShop_16 : decode cX4_isIdleShop 16 = .ok (.aload_n 0, 1) := by decide +kernel
theorem dX4_isIdleShop_17 : decode cX4_isIdleShop 17 = .ok (.getfield 49, 3) := by decide +kernel
theorem dX4_isIdleShop_20 : decode cX4_isIdleShop 20 = .ok (.iconst 5, 1) := by decide +kernel
theorem dX4_isIdleShop_21 : decode cX4_isIdleShop 21 = .ok (.isub, 1) := by decide +kernel
theorem dX4_isIdleShop_22 : decode cX4_isIdleShop 22 = .ok (.iconst 1, 1) := by decide +kernel
theorem dX4_isIdleShop_23 : decode cX4_isIdleShop 23 = .ok (.iadd, 1) := by decide +kernel
theorem dX4_isIdleShop_24 : decode cX4_isIdleShop 24 = .ok (.invokevirtual 224, 3) := by decide +kernel
theorem dX4_isIdleShop_27 : decode cX4_isIdleShop 27 = .ok (.ifCond .ne 7, 3) := by decide +kernel
theorem dX4_isIdleShop_30 : decode cX4_isIdleShop 30 = .ok (.iconst 1, 1) := by decide +kernel
theorem dX4_isIdleShop_31 : decode cX4_isIdleShop 31 = .ok (.goto 4, 3) := by decide +kernel
theorem dX4_isIdleShop_34 : decode cX4_isIdleShop 34 = .ok (.iconst 0, 1) := by decide +kernel
theorem dX4_isIdleShop_35 : decode cX4_isIdleShop 35 = .ok (.ireturn, 1) := by decide +kernel
set_option maxRecDepth 20000 in
theorem ggX4_payFees_X4_isIdleShop : GoodIn wsX4_payFees wsX4_isIdleShop := goodIn_r _ [5, 6, 7, 8, 9, 10, 11, 12, 13, 14, 15, 16, 17, 18, 19, 20, 21, 22, 23, 24, 25, 26, 27, 28, 29, 30, 31, 32, 33, 34, 35, 36, 37, 38, 39, 40, 41, 42, 43, 44, 45, 46, 47, 48, 49, 50, 89, 90, 91, 92, 93, 94, 95, 96, 97, 98, 99, 100, 101, 102, 103, 104] (by decide +kernel) (by decide +kernel)
set_option maxRecDepth 20000 in
theorem gX4_payFees_X4_isIdleShop : GoodIn wsX4_payFees (wsV RX4 187 RX4 yX4_isIdleShop wsX4_isIdleShop) := goodIn_app (goodIn_of _ (by decide +kernel)) ggX4_payFees_X4_isIdleShop
set_option maxRecDepth 20000 in
theorem ggX4_payFees_X4_payFee : GoodIn wsX4_payFees wsX4_payFee := goodIn_r _ [54, 6, 55, 56, 57, 58, 59, 60, 9, 10, 11, 12, 13, 14, 15, 16, 17, 18, 19, 20, 21, 22, 23, 24, 25, 26, 27, 28, 29, 30, 31, 32, 33, 34, 61, 62, 63, 64, 65, 66, 67, 68, 69, 70, 71, 72, 73, 74, 75, 76, 77, 78, 79, 80, 81, 82, 83, 84, 85, 86, 87, 88, 89, 90, 91, 92, 93, 94, 95, 96, 97, 98, 99, 100, 101, 102] (by decide +kernel) (by decide +kernel)
set_option maxRecDepth 20000 in
theorem gX4_payFees_X4_payFee : GoodIn wsX4_payFees (wsV RX4 228 RX4 yX4_payFee wsX4_payFee) := goodIn_app (goodIn_of _ (by decide +kernel)) ggX4_payFees_X4_payFee
theorem dX4_payFees_0 : decode cX4_payFees 0 = .ok (.iconst 0, 1) := by decide +kernel
theorem dX4_payFees_1 : decode cX4_payFees 1 = .ok (.istore_n 1, 1) := by decide +kernel
theorem dX4_payFees_2 : decode cX4_payFees 2 = .ok (.iload_n 1, 1) := by decide +kernel
theorem dX4_payFees_3 : decode cX4_payFees 3 = .ok (.bipush 8, 2) := by decide +kernel
theorem dX4_payFees_5 : decode cX4_payFees 5 = .ok (.if_icmp .ge 22, 3) := by decide +kernel
theorem dX4_payFees_8 : decode cX4_payFees 8 = .ok (.aload_n 0, 1) := by decide +kernel
theorem dX4_payFees_9 : decode cX4_payFees 9 = .ok (.iload_n 1, 1) := by decide +kernel
theorem dX4_payFees_10 : decode cX4_payFees 10 = .ok (.invokevirtual 187, 3) := by decide +kernel
theorem dX4_payFees_13 : decode cX4_payFees 13 = .ok (.ifCond .eq 8, 3) := by decide +kernel
theorem dX4_payFees_16 : decode cX4_payFees 16 = .ok (.aload_n 0, 1) := by decide +kernel
theorem dX4_payFees_17 : decode cX4_payFees 17 = .ok (.iload_n 1, 1) := by decide +kernel
theorem dX4_payFees_18 : decode cX4_payFees 18 = .ok (.invokevirtual 228, 3) := by decide +kernel
theorem dX4_payFees_21 : decode cX4_payFees 21 = .ok (.iinc 1 1, 3) := by decide +kernel
theorem dX4_payFees_24 : decode cX4_payFees 24 = .ok (.goto (-22), 3) := by decide +kernel
theorem dX4_payFees_27 : decode cX4_payFees 27 = .ok (.return_, 1) := by decide +kernel
set_option maxRecDepth 20000 in
theorem ggX4_payFee_X0_balanceOf : GoodIn wsX4_payFee wsX0_balanceOf := goodIn_r _ [12, 13, 14, 15, 16, 17, 18, 19, 20, 21, 22, 23, 24, 25, 26, 27, 28, 29, 30, 31, 32, 33, 71, 72, 73, 74, 75] (by decide +kernel) (by decide +kernel)
set_option maxRecDepth 20000 in
theorem gX4_payFee_X0_balanceOf : GoodIn wsX4_payFee (wsV RX4 165 RX0 yX0_balanceOf wsX0_balanceOf) := goodIn_app (goodIn_of _ (by decide +kernel)) ggX4_payFee_X0_balanceOf
set_option maxRecDepth 20000 in
theorem ggX4_payFee_X0_openTo : GoodIn wsX4_payFee wsX0_openTo := goodIn_r _ [37, 13, 38, 14, 15, 16, 17, 18, 19, 20, 21, 22, 23, 24, 25, 26, 27, 28, 29, 71, 72, 73, 74, 75] (by decide +kernel) (by decide +kernel)
set_option maxRecDepth 20000 in
theorem gX4_payFee_X0_openTo : GoodIn wsX4_payFee (wsV RX4 231 RX0 yX0_openTo wsX0_openTo) := goodIn_app (goodIn_of _ (by decide +kernel)) ggX4_payFee_X0_openTo
set_option maxRecDepth 20000 in
theorem ggX4_payFee_X0_greatestOpenDebtorOf : GoodIn wsX4_payFee wsX0_greatestOpenDebtorOf := goodIn_r _ [42, 43, 44, 45, 11, 46, 13, 38, 47, 21, 22, 17, 23, 24, 25, 26, 27, 28, 19, 29, 71, 72, 73, 74, 75] (by decide +kernel) (by decide +kernel)
set_option maxRecDepth 20000 in
theorem gX4_payFee_X0_greatestOpenDebtorOf : GoodIn wsX4_payFee (wsV RX4 234 RX0 yX0_greatestOpenDebtorOf wsX0_greatestOpenDebtorOf) := goodIn_app (goodIn_of _ (by decide +kernel)) ggX4_payFee_X0_greatestOpenDebtorOf
set_option maxRecDepth 20000 in
theorem ggX4_payFee_X0_open : GoodIn wsX4_payFee wsX0_open := goodIn_r _ [46, 13, 38, 47, 21, 22, 17, 23, 24, 25, 26, 27, 28, 19, 29, 71, 72, 73, 74, 75] (by decide +kernel) (by decide +kernel)
set_option maxRecDepth 20000 in
theorem gX4_payFee_X0_open : GoodIn wsX4_payFee (wsV RX4 126 RX0 yX0_open wsX0_open) := goodIn_app (goodIn_of _ (by decide +kernel)) ggX4_payFee_X0_open
set_option maxRecDepth 20000 in
theorem ggX4_payFee_X0_more : GoodIn wsX4_payFee wsX0_more := goodIn_r _ [52, 13, 53, 54, 55, 17, 56, 20, 21, 22, 23, 24, 25, 26, 27, 28, 19, 29, 57, 58, 59, 60, 71, 72, 73, 74, 75] (by decide +kernel) (by decide +kernel)
set_option maxRecDepth 20000 in
theorem gX4_payFee_X0_more : GoodIn wsX4_payFee (wsV RX4 107 RX0 yX0_more wsX0_more) := goodIn_app (goodIn_of _ (by decide +kernel)) ggX4_payFee_X0_more
set_option maxRecDepth 20000 in
theorem ggX4_payFee_X2_add : GoodIn wsX4_payFee wsX2_add := goodIn_r _ [56, 20, 21, 22, 17, 23, 24, 25, 26, 27, 28, 19, 29, 57, 58, 59, 60, 73, 74, 75] (by decide +kernel) (by decide +kernel)
set_option maxRecDepth 20000 in
theorem gX4_payFee_X2_add : GoodIn wsX4_payFee (wsV RX4 150 RX2 yX2_add wsX2_add) := goodIn_app (goodIn_of _ (by decide +kernel)) ggX4_payFee_X2_add
theorem dX4_payFee_0 : decode cX4_payFee 0 = .ok (.aload_n 0, 1) := by decide +kernel
theorem dX4_payFee_1 : decode cX4_payFee 1 = .ok (.getfield 28, 3) := by decide +kernel
theorem dX4_payFee_4 : decode cX4_payFee 4 = .ok (.iload_n 1, 1) := by decide +kernel
theorem dX4_payFee_5 : decode cX4_payFee 5 = .ok (.invokevirtual 165, 3) := by decide +kernel
theorem dX4_payFee_8 : decode cX4_payFee 8 = .ok (.aload_n 0, 1) := by decide +kernel
theorem dX4_payFee_9 : decode cX4_payFee 9 = .ok (.getfield 52, 3) := by decide +kernel
theorem dX4_payFee_12 : decode cX4_payFee 12 = .ok (.imul, 1) := by decide +kernel
theorem dX4_payFee_13 : decode cX4_payFee 13 = .ok (.sipush 1000, 3) := by decide +kernel
theorem dX4_payFee_16 : decode cX4_payFee 16 = .ok (.idiv, 1) := by decide +kernel
theorem dX4_payFee_17 : decode cX4_payFee 17 = .ok (.istore_n 2, 1) := by decide +kernel
theorem dX4_payFee_18 : decode cX4_payFee 18 = .ok (.iload_n 2, 1) := by decide +kernel
theorem dX4_payFee_19 : decode cX4_payFee 19 = .ok (.aload_n 0, 1) := by decide +kernel
theorem dX4_payFee_20 : decode cX4_payFee 20 = .ok (.getfield 28, 3) := by decide +kernel
theorem dX4_payFee_23 : decode cX4_payFee 23 = .ok (.iload_n 1, 1) := by decide +kernel
theorem dX4_payFee_24 : decode cX4_payFee 24 = .ok (.invokevirtual 231, 3) := by decide +kernel
theorem dX4_payFee_27 : decode cX4_payFee 27 = .ok (.invokestatic 129, 3) := by decide +kernel
theorem dX4_payFee_30 : decode cX4_payFee 30 = .ok (.istore_n 3, 1) := by decide +kernel
theorem dX4_payFee_31 : decode cX4_payFee 31 = .ok (.iconst 0, 1) := by decide +kernel
theorem dX4_payFee_32 : decode cX4_payFee 32 = .ok (.istore 4, 2) := by decide +kernel
theorem dX4_payFee_34 : decode cX4_payFee 34 = .ok (.iload 4, 2) := by decide +kernel
theorem dX4_payFee_36 : decode cX4_payFee 36 = .ok (.bipush 8, 2) := by decide +kernel
theorem dX4_payFee_38 : decode cX4_payFee 38 = .ok (.if_icmp .ge 82, 3) := by decide +kernel
theorem dX4_payFee_41 : decode cX4_payFee 41 = .ok (.iload_n 3, 1) := by decide +kernel
theorem dX4_payFee_42 : decode cX4_payFee 42 = .ok (.ifCond .le 78, 3) := by decide +kernel
theorem dX4_payFee_45 : decode cX4_payFee 45 = .ok (.aload_n 0, 1) := by decide +kernel
theorem dX4_payFee_46 : decode cX4_payFee 46 = .ok (.getfield 28, 3) := by decide +kernel
theorem dX4_payFee_49 : decode cX4_payFee 49 = .ok (.iload_n 1, 1) := by decide +kernel
theorem dX4_payFee_50 : decode cX4_payFee 50 = .ok (.invokevirtual 234, 3) := by decide +kernel
theorem dX4_payFee_53 : decode cX4_payFee 53 = .ok (.istore 5, 2) := by decide +kernel
theorem dX4_payFee_55 : decode cX4_payFee 55 = .ok (.iload_n 3, 1) := by decide +kernel
theorem dX4_payFee_56 : decode cX4_payFee 56 = .ok (.aload_n 0, 1) := by decide +kernel
theorem dX4_payFee_57 : decode cX4_payFee 57 = .ok (.getfield 28, 3) := by decide +kernel
theorem dX4_payFee_60 : decode cX4_payFee 60 = .ok (.iload 5, 2) := by decide +kernel
theorem dX4_payFee_62 : decode cX4_payFee 62 = .ok (.iload_n 1, 1) := by decide +kernel
theorem dX4_payFee_63 : decode cX4_payFee 63 = .ok (.invokevirtual 126, 3) := by decide +kernel
theorem dX4_payFee_66 : decode cX4_payFee 66 = .ok (.invokestatic 129, 3) := by decide +kernel
theorem dX4_payFee_69 : decode cX4_payFee 69 = .ok (.istore 6, 2) := by decide +kernel
theorem dX4_payFee_71 : decode cX4_payFee 71 = .ok (.aload_n 0, 1) := by decide +kernel
theorem dX4_payFee_72 : decode cX4_payFee 72 = .ok (.getfield 28, 3) := by decide +kernel
theorem dX4_payFee_75 : decode cX4_payFee 75 = .ok (.iload 5, 2) := by decide +kernel
theorem dX4_payFee_77 : decode cX4_payFee 77 = .ok (.iload_n 1, 1) := by decide +kernel
theorem dX4_payFee_78 : decode cX4_payFee 78 = .ok (.iload 6, 2) := by decide +kernel
theorem dX4_payFee_80 : decode cX4_payFee 80 = .ok (.ineg, 1) := by decide +kernel
theorem dX4_payFee_81 : decode cX4_payFee 81 = .ok (.invokevirtual 107, 3) := by decide +kernel
theorem dX4_payFee_84 : decode cX4_payFee 84 = .ok (.aload_n 0, 1) := by decide +kernel
theorem dX4_payFee_85 : decode cX4_payFee 85 = .ok (.getfield 28, 3) := by decide +kernel
theorem dX4_payFee_88 : decode cX4_payFee 88 = .ok (.iload 5, 2) := by decide +kernel
theorem dX4_payFee_90 : decode cX4_payFee 90 = .ok (.bipush 8, 2) := by decide +kernel
theorem dX4_payFee_92 : decode cX4_payFee 92 = .ok (.iload 6, 2) := by decide +kernel
theorem dX4_payFee_94 : decode cX4_payFee 94 = .ok (.invokevirtual 107, 3) := by decide +kernel
theorem dX4_payFee_97 : decode cX4_payFee 97 = .ok (.aload_n 0, 1) := by decide +kernel
theorem dX4_payFee_98 : decode cX4_payFee 98 = .ok (.getfield 35, 3) := by decide +kernel
theorem dX4_payFee_101 : decode cX4_payFee 101 = .ok (.iload_n 1, 1) := by decide +kernel
theorem dX4_payFee_102 : decode cX4_payFee 102 = .ok (.bipush 8, 2) := by decide +kernel
theorem dX4_payFee_104 : decode cX4_payFee 104 = .ok (.iload 6, 2) := by decide +kernel
theorem dX4_payFee_106 : decode cX4_payFee 106 = .ok (.invokevirtual 150, 3) := by decide +kernel
theorem dX4_payFee_109 : decode cX4_payFee 109 = .ok (.iload_n 3, 1) := by decide +kernel
theorem dX4_payFee_110 : decode cX4_payFee 110 = .ok (.iload 6, 2) := by decide +kernel
theorem dX4_payFee_112 : decode cX4_payFee 112 = .ok (.isub, 1) := by decide +kernel
theorem dX4_payFee_113 : decode cX4_payFee 113 = .ok (.istore_n 3, 1) := by decide +kernel
theorem dX4_payFee_114 : decode cX4_payFee 114 = .ok (.iinc 4 1, 3) := by decide +kernel
theorem dX4_payFee_117 : decode cX4_payFee 117 = .ok (.goto (-83), 3) := by decide +kernel
theorem dX4_payFee_120 : decode cX4_payFee 120 = .ok (.return_, 1) := by decide +kernel
set_option maxRecDepth 20000 in
theorem ggX4_passDebtsThrough_X0_owed : GoodIn wsX4_passDebtsThrough wsX0_owed := goodIn_r _ [10, 11, 12, 13, 14, 15, 16, 17, 18, 19, 20, 21, 22, 23, 51, 52, 53, 54, 55] (by decide +kernel) (by decide +kernel)
set_option maxRecDepth 20000 in
theorem gX4_passDebtsThrough_X0_owed : GoodIn wsX4_passDebtsThrough (wsV RX4 181 RX0 yX0_owed wsX0_owed) := goodIn_app (goodIn_of _ (by decide +kernel)) ggX4_passDebtsThrough_X0_owed
set_option maxRecDepth 20000 in
theorem ggX4_passDebtsThrough_X0_more : GoodIn wsX4_passDebtsThrough wsX0_more := goodIn_r _ [27, 11, 28, 29, 30, 15, 31, 32, 13, 14, 16, 17, 18, 19, 20, 21, 22, 23, 33, 34, 35, 36, 51, 52, 53, 54, 55] (by decide +kernel) (by decide +kernel)
set_option maxRecDepth 20000 in
theorem gX4_passDebtsThrough_X0_more : GoodIn wsX4_passDebtsThrough (wsV RX4 107 RX0 yX0_more wsX0_more) := goodIn_app (goodIn_of _ (by decide +kernel)) ggX4_passDebtsThrough_X0_more
set_option maxRecDepth 20000 in
theorem ggX4_passDebtsThrough_X4_takeOver : GoodIn wsX4_passDebtsThrough wsX4_takeOver := goodIn_r _ [41, 1, 24, 25, 26, 9, 27, 11, 28, 29, 30, 15, 31, 32, 13, 14, 16, 17, 18, 19, 20, 21, 22, 23, 33, 34, 35, 36, 42, 43, 44, 45, 46, 47, 48, 49, 50, 51, 52, 53, 54, 55] (by decide +kernel) (by decide +kernel)
set_option maxRecDepth 20000 in
theorem gX4_passDebtsThrough_X4_takeOver : GoodIn wsX4_passDebtsThrough (wsV RX4 237 RX4 yX4_takeOver wsX4_takeOver) := goodIn_app (goodIn_of _ (by decide +kernel)) ggX4_passDebtsThrough_X4_takeOver
theorem dX4_passDebtsThrough_0 : decode cX4_passDebtsThrough 0 = .ok (.iconst 0, 1) := by decide +kernel
theorem dX4_passDebtsThrough_1 : decode cX4_passDebtsThrough 1 = .ok (.istore_n 2, 1) := by decide +kernel
theorem dX4_passDebtsThrough_2 : decode cX4_passDebtsThrough 2 = .ok (.iload_n 2, 1) := by decide +kernel
theorem dX4_passDebtsThrough_3 : decode cX4_passDebtsThrough 3 = .ok (.bipush 8, 2) := by decide +kernel
theorem dX4_passDebtsThrough_5 : decode cX4_passDebtsThrough 5 = .ok (.if_icmp .ge 67, 3) := by decide +kernel
theorem dX4_passDebtsThrough_8 : decode cX4_passDebtsThrough 8 = .ok (.iconst 0, 1) := by decide +kernel
theorem dX4_passDebtsThrough_9 : decode cX4_passDebtsThrough 9 = .ok (.istore_n 3, 1) := by decide +kernel
theorem dX4_passDebtsThrough_10 : decode cX4_passDebtsThrough 10 = .ok (.iload_n 3, 1) := by decide +kernel
theorem dX4_passDebtsThrough_11 : decode cX4_passDebtsThrough 11 = .ok (.bipush 9, 2) := by decide +kernel
theorem dX4_passDebtsThrough_13 : decode cX4_passDebtsThrough 13 = .ok (.if_icmp .ge 53, 3) := by decide +kernel
theorem dX4_passDebtsThrough_16 : decode cX4_passDebtsThrough 16 = .ok (.aload_n 0, 1) := by decide +kernel
theorem dX4_passDebtsThrough_17 : decode cX4_passDebtsThrough 17 = .ok (.getfield 28, 3) := by decide +kernel
theorem dX4_passDebtsThrough_20 : decode cX4_passDebtsThrough 20 = .ok (.iload_n 2, 1) := by decide +kernel
theorem dX4_passDebtsThrough_21 : decode cX4_passDebtsThrough 21 = .ok (.iload_n 1, 1) := by decide +kernel
theorem dX4_passDebtsThrough_22 : decode cX4_passDebtsThrough 22 = .ok (.invokevirtual 181, 3) := by decide +kernel
theorem dX4_passDebtsThrough_25 : decode cX4_passDebtsThrough 25 = .ok (.aload_n 0, 1) := by decide +kernel
theorem dX4_passDebtsThrough_26 : decode cX4_passDebtsThrough 26 = .ok (.getfield 28, 3) := by decide +kernel
theorem dX4_passDebtsThrough_29 : decode cX4_passDebtsThrough 29 = .ok (.iload_n 1, 1) := by decide +kernel
theorem dX4_passDebtsThrough_30 : decode cX4_passDebtsThrough 30 = .ok (.iload_n 3, 1) := by decide +kernel
theorem dX4_passDebtsThrough_31 : decode cX4_passDebtsThrough 31 = .ok (.invokevirtual 181, 3) := by decide +kernel
theorem dX4_passDebtsThrough_34 : decode cX4_passDebtsThrough 34 = .ok (.invokestatic 129, 3) := by decide +kernel
theorem dX4_passDebtsThrough_37 : decode cX4_passDebtsThrough 37 = .ok (.istore 4, 2) := by decide +kernel
theorem dX4_passDebtsThrough_39 : decode cX4_passDebtsThrough 39 = .ok (.aload_n 0, 1) := by decide +kernel
theorem dX4_passDebtsThrough_40 : decode cX4_passDebtsThrough 40 = .ok (.getfield 28, 3) := by decide +kernel
theorem dX4_passDebtsThrough_43 : decode cX4_passDebtsThrough 43 = .ok (.iload_n 2, 1) := by decide +kernel
theorem dX4_passDebtsThrough_44 : decode cX4_passDebtsThrough 44 = .ok (.iload_n 1, 1) := by decide +kernel
theorem dX4_passDebtsThrough_45 : decode cX4_passDebtsThrough 45 = .ok (.iload 4, 2) := by decide +kernel
theorem dX4_passDebtsThrough_47 : decode cX4_passDebtsThrough 47 = .ok (.ineg, 1) := by decide +kernel
theorem dX4_passDebtsThrough_48 : decode cX4_passDebtsThrough 48 = .ok (.invokevirtual 107, 3) := by decide +kernel
theorem dX4_passDebtsThrough_51 : decode cX4_passDebtsThrough 51 = .ok (.aload_n 0, 1) := by decide +kernel
theorem dX4_passDebtsThrough_52 : decode cX4_passDebtsThrough 52 = .ok (.iload_n 2, 1) := by decide +kernel
theorem dX4_passDebtsThrough_53 : decode cX4_passDebtsThrough 53 = .ok (.iload_n 1, 1) := by decide +kernel
theorem dX4_passDebtsThrough_54 : decode cX4_passDebtsThrough 54 = .ok (.iload_n 3, 1) := by decide +kernel
theorem dX4_passDebtsThrough_55 : decode cX4_passDebtsThrough 55 = .ok (.iload 4, 2) := by decide +kernel
theorem dX4_passDebtsThrough_57 : decode cX4_passDebtsThrough 57 = .ok (.invokevirtual 237, 3) := by decide +kernel
theorem dX4_passDebtsThrough_60 : decode cX4_passDebtsThrough 60 = .ok (.iinc 3 1, 3) := by decide +kernel
theorem dX4_passDebtsThrough_63 : decode cX4_passDebtsThrough 63 = .ok (.goto (-53), 3) := by decide +kernel
theorem dX4_passDebtsThrough_66 : decode cX4_passDebtsThrough 66 = .ok (.iinc 2 1, 3) := by decide +kernel
theorem dX4_passDebtsThrough_69 : decode cX4_passDebtsThrough 69 = .ok (.goto (-67), 3) := by decide +kernel
theorem dX4_passDebtsThrough_72 : decode cX4_passDebtsThrough 72 = .ok (.return_, 1) := by decide +kernel
set_option maxRecDepth 20000 in
theorem ggX4_letGuarantorsPay_X0_owed : GoodIn wsX4_letGuarantorsPay wsX0_owed := goodIn_r _ [12, 13, 14, 15, 16, 17, 18, 19, 20, 21, 22, 23, 24, 25, 55, 56, 57, 58, 59] (by decide +kernel) (by decide +kernel)
set_option maxRecDepth 20000 in
theorem gX4_letGuarantorsPay_X0_owed : GoodIn wsX4_letGuarantorsPay (wsV RX4 181 RX0 yX0_owed wsX0_owed) := goodIn_app (goodIn_of _ (by decide +kernel)) ggX4_letGuarantorsPay_X0_owed
set_option maxRecDepth 20000 in
theorem ggX4_letGuarantorsPay_X2_get : GoodIn wsX4_letGuarantorsPay wsX2_get := goodIn_r _ [18, 19, 20, 21, 22, 17, 23, 24, 25, 57, 58, 59] (by decide +kernel) (by decide +kernel)
set_option maxRecDepth 20000 in
theorem gX4_letGuarantorsPay_X2_get : GoodIn wsX4_letGuarantorsPay (wsV RX4 145 RX2 yX2_get wsX2_get) := goodIn_app (goodIn_of _ (by decide +kernel)) ggX4_letGuarantorsPay_X2_get
set_option maxRecDepth 20000 in
theorem ggX4_letGuarantorsPay_X2_add : GoodIn wsX4_letGuarantorsPay wsX2_add := goodIn_r _ [30, 31, 15, 16, 17, 18, 19, 20, 21, 22, 23, 24, 25, 32, 33, 34, 35, 57, 58, 59] (by decide +kernel) (by decide +kernel)
set_option maxRecDepth 20000 in
theorem gX4_letGuarantorsPay_X2_add : GoodIn wsX4_letGuarantorsPay (wsV RX4 150 RX2 yX2_add wsX2_add) := goodIn_app (goodIn_of _ (by decide +kernel)) ggX4_letGuarantorsPay_X2_add
set_option maxRecDepth 20000 in
theorem ggX4_letGuarantorsPay_X4_takeOver : GoodIn wsX4_letGuarantorsPay wsX4_takeOver := goodIn_r _ [40, 1, 41, 42, 43, 11, 44, 13, 45, 28, 29, 17, 30, 31, 15, 16, 18, 19, 20, 21, 22, 23, 24, 25, 32, 33, 34, 35, 46, 47, 48, 49, 50, 51, 52, 53, 54, 55, 56, 57, 58, 59] (by decide +kernel) (by decide +kernel)
set_option maxRecDepth 20000 in
theorem gX4_letGuarantorsPay_X4_takeOver : GoodIn wsX4_letGuarantorsPay (wsV RX4 237 RX4 yX4_takeOver wsX4_takeOver) := goodIn_app (goodIn_of _ (by decide +kernel)) ggX4_letGuarantorsPay_X4_takeOver
theorem dX4_letGuarantorsPay_0 : decode cX4_letGuarantorsPay 0 = .ok (.iconst 0, 1) := by decide +kernel
theorem dX4_letGuarantorsPay_1 : decode cX4_letGuarantorsPay 1 = .ok (.istore_n 2, 1) := by decide +kernel
theorem dX4_letGuarantorsPay_2 : decode cX4_letGuarantorsPay 2 = .ok (.iload_n 2, 1) := by decide +kernel
theorem dX4_letGuarantorsPay_3 : decode cX4_letGuarantorsPay 3 = .ok (.bipush 9, 2) := by decide +kernel
theorem dX4_letGuarantorsPay_5 : decode cX4_letGuarantorsPay 5 = .ok (.if_icmp .ge 78, 3) := by decide +kernel
theorem dX4_letGuarantorsPay_8 : decode cX4_letGuarantorsPay 8 = .ok (.iconst 0, 1) := by decide +kernel
theorem dX4_letGuarantorsPay_9 : decode cX4_letGuarantorsPay 9 = .ok (.istore_n 3, 1) := by decide +kernel
theorem dX4_letGuarantorsPay_10 : decode cX4_letGuarantorsPay 10 = .ok (.iload_n 3, 1) := by decide +kernel
theorem dX4_letGuarantorsPay_11 : decode cX4_letGuarantorsPay 11 = .ok (.bipush 8, 2) := by decide +kernel
theorem dX4_letGuarantorsPay_13 : decode cX4_letGuarantorsPay 13 = .ok (.if_icmp .ge 64, 3) := by decide +kernel
theorem dX4_letGuarantorsPay_16 : decode cX4_letGuarantorsPay 16 = .ok (.aload_n 0, 1) := by decide +kernel
theorem dX4_letGuarantorsPay_17 : decode cX4_letGuarantorsPay 17 = .ok (.getfield 28, 3) := by decide +kernel
theorem dX4_letGuarantorsPay_20 : decode cX4_letGuarantorsPay 20 = .ok (.iload_n 1, 1) := by decide +kernel
theorem dX4_letGuarantorsPay_21 : decode cX4_letGuarantorsPay 21 = .ok (.iload_n 2, 1) := by decide +kernel
theorem dX4_letGuarantorsPay_22 : decode cX4_letGuarantorsPay 22 = .ok (.invokevirtual 181, 3) := by decide +kernel
theorem dX4_letGuarantorsPay_25 : decode cX4_letGuarantorsPay 25 = .ok (.aload_n 0, 1) := by decide +kernel
theorem dX4_letGuarantorsPay_26 : decode cX4_letGuarantorsPay 26 = .ok (.getfield 32, 3) := by decide +kernel
theorem dX4_letGuarantorsPay_29 : decode cX4_letGuarantorsPay 29 = .ok (.iload_n 3, 1) := by decide +kernel
theorem dX4_letGuarantorsPay_30 : decode cX4_letGuarantorsPay 30 = .ok (.iload_n 1, 1) := by decide +kernel
theorem dX4_letGuarantorsPay_31 : decode cX4_letGuarantorsPay 31 = .ok (.invokevirtual 145, 3) := by decide +kernel
theorem dX4_letGuarantorsPay_34 : decode cX4_letGuarantorsPay 34 = .ok (.invokestatic 129, 3) := by decide +kernel
theorem dX4_letGuarantorsPay_37 : decode cX4_letGuarantorsPay 37 = .ok (.istore 4, 2) := by decide +kernel
theorem dX4_letGuarantorsPay_39 : decode cX4_letGuarantorsPay 39 = .ok (.aload_n 0, 1) := by decide +kernel
theorem dX4_letGuarantorsPay_40 : decode cX4_letGuarantorsPay 40 = .ok (.getfield 32, 3) := by decide +kernel
theorem dX4_letGuarantorsPay_43 : decode cX4_letGuarantorsPay 43 = .ok (.iload_n 3, 1) := by decide +kernel
theorem dX4_letGuarantorsPay_44 : decode cX4_letGuarantorsPay 44 = .ok (.iload_n 1, 1) := by decide +kernel
theorem dX4_letGuarantorsPay_45 : decode cX4_letGuarantorsPay 45 = .ok (.iload 4, 2) := by decide +kernel
theorem dX4_letGuarantorsPay_47 : decode cX4_letGuarantorsPay 47 = .ok (.ineg, 1) := by decide +kernel
theorem dX4_letGuarantorsPay_48 : decode cX4_letGuarantorsPay 48 = .ok (.invokevirtual 150, 3) := by decide +kernel
theorem dX4_letGuarantorsPay_51 : decode cX4_letGuarantorsPay 51 = .ok (.aload_n 0, 1) := by decide +kernel
theorem dX4_letGuarantorsPay_52 : decode cX4_letGuarantorsPay 52 = .ok (.getfield 35, 3) := by decide +kernel
theorem dX4_letGuarantorsPay_55 : decode cX4_letGuarantorsPay 55 = .ok (.iload_n 3, 1) := by decide +kernel
theorem dX4_letGuarantorsPay_56 : decode cX4_letGuarantorsPay 56 = .ok (.iload_n 1, 1) := by decide +kernel
theorem dX4_letGuarantorsPay_57 : decode cX4_letGuarantorsPay 57 = .ok (.iload 4, 2) := by decide +kernel
theorem dX4_letGuarantorsPay_59 : decode cX4_letGuarantorsPay 59 = .ok (.invokevirtual 150, 3) := by decide +kernel
theorem dX4_letGuarantorsPay_62 : decode cX4_letGuarantorsPay 62 = .ok (.aload_n 0, 1) := by decide +kernel
theorem dX4_letGuarantorsPay_63 : decode cX4_letGuarantorsPay 63 = .ok (.iload_n 3, 1) := by decide +kernel
theorem dX4_letGuarantorsPay_64 : decode cX4_letGuarantorsPay 64 = .ok (.iload_n 1, 1) := by decide +kernel
theorem dX4_letGuarantorsPay_65 : decode cX4_letGuarantorsPay 65 = .ok (.iload_n 2, 1) := by decide +kernel
theorem dX4_letGuarantorsPay_66 : decode cX4_letGuarantorsPay 66 = .ok (.iload 4, 2) := by decide +kernel
theorem dX4_letGuarantorsPay_68 : decode cX4_letGuarantorsPay 68 = .ok (.invokevirtual 237, 3) := by decide +kernel
theorem dX4_letGuarantorsPay_71 : decode cX4_letGuarantorsPay 71 = .ok (.iinc 3 1, 3) := by decide +kernel
theorem dX4_letGuarantorsPay_74 : decode cX4_letGuarantorsPay 74 = .ok (.goto (-64), 3) := by decide +kernel
theorem dX4_letGuarantorsPay_77 : decode cX4_letGuarantorsPay 77 = .ok (.iinc 2 1, 3) := by decide +kernel
theorem dX4_letGuarantorsPay_80 : decode cX4_letGuarantorsPay 80 = .ok (.goto (-78), 3) := by decide +kernel
theorem dX4_letGuarantorsPay_83 : decode cX4_letGuarantorsPay 83 = .ok (.return_, 1) := by decide +kernel
set_option maxRecDepth 20000 in
theorem ggX4_takeOver_X0_more : GoodIn wsX4_takeOver wsX0_more := goodIn_r _ [6, 7, 8, 9, 10, 11, 12, 13, 14, 15, 16, 17, 18, 19, 20, 21, 22, 23, 24, 25, 26, 27, 37, 38, 39, 40, 41] (by decide +kernel) (by decide +kernel)
set_option maxRecDepth 20000 in
theorem gX4_takeOver_X0_more : GoodIn wsX4_takeOver (wsV RX4 107 RX0 yX0_more wsX0_more) := goodIn_app (goodIn_of _ (by decide +kernel)) ggX4_takeOver_X0_more
theorem dX4_takeOver_0 : decode cX4_takeOver 0 = .ok (.aload_n 0, 1) := by decide +kernel
theorem dX4_takeOver_1 : decode cX4_takeOver 1 = .ok (.getfield 28, 3) := by decide +kernel
theorem dX4_takeOver_4 : decode cX4_takeOver 4 = .ok (.iload_n 2, 1) := by decide +kernel
theorem dX4_takeOver_5 : decode cX4_takeOver 5 = .ok (.iload_n 3, 1) := by decide +kernel
theorem dX4_takeOver_6 : decode cX4_takeOver 6 = .ok (.iload 4, 2) := by decide +kernel
theorem dX4_takeOver_8 : decode cX4_takeOver 8 = .ok (.ineg, 1) := by decide +kernel
theorem dX4_takeOver_9 : decode cX4_takeOver 9 = .ok (.invokevirtual 107, 3) := by decide +kernel
theorem dX4_takeOver_12 : decode cX4_takeOver 12 = .ok (.iload_n 1, 1) := by decide +kernel
theorem dX4_takeOver_13 : decode cX4_takeOver 13 = .ok (.iload_n 3, 1) := by decide +kernel
theorem dX4_takeOver_14 : decode cX4_takeOver 14 = .ok (.if_icmp .eq 14, 3) := by decide +kernel
theorem dX4_takeOver_17 : decode cX4_takeOver 17 = .ok (.aload_n 0, 1) := by decide +kernel
theorem dX4_takeOver_18 : decode cX4_takeOver 18 = .ok (.getfield 28, 3) := by decide +kernel
theorem dX4_takeOver_21 : decode cX4_takeOver 21 = .ok (.iload_n 1, 1) := by decide +kernel
theorem dX4_takeOver_22 : decode cX4_takeOver 22 = .ok (.iload_n 3, 1) := by decide +kernel
theorem dX4_takeOver_23 : decode cX4_takeOver 23 = .ok (.iload 4, 2) := by decide +kernel
theorem dX4_takeOver_25 : decode cX4_takeOver 25 = .ok (.invokevirtual 107, 3) := by decide +kernel
theorem dX4_takeOver_28 : decode cX4_takeOver 28 = .ok (.return_, 1) := by decide +kernel
set_option maxRecDepth 20000 in
theorem ggX4_oweInGoodsBy_X0_owed : GoodIn wsX4_oweInGoodsBy wsX0_owed := goodIn_r _ [7, 8, 9, 10, 11, 12, 13, 14, 15, 16, 17, 18, 19, 20, 44, 45, 46, 47, 48] (by decide +kernel) (by decide +kernel)
set_option maxRecDepth 20000 in
theorem gX4_oweInGoodsBy_X0_owed : GoodIn wsX4_oweInGoodsBy (wsV RX4 181 RX0 yX0_owed wsX0_owed) := goodIn_app (goodIn_of _ (by decide +kernel)) ggX4_oweInGoodsBy_X0_owed
set_option maxRecDepth 20000 in
theorem ggX4_oweInGoodsBy_X0_more : GoodIn wsX4_oweInGoodsBy wsX0_more := goodIn_r _ [24, 8, 25, 26, 27, 12, 28, 29, 10, 11, 13, 14, 15, 16, 17, 18, 19, 20, 30, 31, 32, 33, 44, 45, 46, 47, 48] (by decide +kernel) (by decide +kernel)
set_option maxRecDepth 20000 in
theorem gX4_oweInGoodsBy_X0_more : GoodIn wsX4_oweInGoodsBy (wsV RX4 107 RX0 yX0_more wsX0_more) := goodIn_app (goodIn_of _ (by decide +kernel)) ggX4_oweInGoodsBy_X0_more
set_option maxRecDepth 20000 in
theorem ggX4_oweInGoodsBy_X2_add : GoodIn wsX4_oweInGoodsBy wsX2_add := goodIn_r _ [28, 29, 10, 11, 12, 13, 14, 15, 16, 17, 18, 19, 20, 30, 31, 32, 33, 46, 47, 48] (by decide +kernel) (by decide +kernel)
set_option maxRecDepth 20000 in
theorem gX4_oweInGoodsBy_X2_add : GoodIn wsX4_oweInGoodsBy (wsV RX4 150 RX2 yX2_add wsX2_add) := goodIn_app (goodIn_of _ (by decide +kernel)) ggX4_oweInGoodsBy_X2_add
theorem dX4_oweInGoodsBy_0 : decode cX4_oweInGoodsBy 0 = .ok (.iconst 0, 1) := by decide +kernel
theorem dX4_oweInGoodsBy_1 : decode cX4_oweInGoodsBy 1 = .ok (.istore_n 2, 1) := by decide +kernel
theorem dX4_oweInGoodsBy_2 : decode cX4_oweInGoodsBy 2 = .ok (.iconst 0, 1) := by decide +kernel
theorem dX4_oweInGoodsBy_3 : decode cX4_oweInGoodsBy 3 = .ok (.istore_n 3, 1) := by decide +kernel
theorem dX4_oweInGoodsBy_4 : decode cX4_oweInGoodsBy 4 = .ok (.iload_n 3, 1) := by decide +kernel
theorem dX4_oweInGoodsBy_5 : decode cX4_oweInGoodsBy 5 = .ok (.bipush 9, 2) := by decide +kernel
theorem dX4_oweInGoodsBy_7 : decode cX4_oweInGoodsBy 7 = .ok (.if_icmp .ge 48, 3) := by decide +kernel
theorem dX4_oweInGoodsBy_10 : decode cX4_oweInGoodsBy 10 = .ok (.aload_n 0, 1) := by decide +kernel
theorem dX4_oweInGoodsBy_11 : decode cX4_oweInGoodsBy 11 = .ok (.getfield 28, 3) := by decide +kernel
theorem dX4_oweInGoodsBy_14 : decode cX4_oweInGoodsBy 14 = .ok (.iload_n 1, 1) := by decide +kernel
theorem dX4_oweInGoodsBy_15 : decode cX4_oweInGoodsBy 15 = .ok (.iload_n 3, 1) := by decide +kernel
theorem dX4_oweInGoodsBy_16 : decode cX4_oweInGoodsBy 16 = .ok (.invokevirtual 181, 3) := by decide +kernel
theorem dX4_oweInGoodsBy_19 : decode cX4_oweInGoodsBy 19 = .ok (.istore 4, 2) := by decide +kernel
theorem dX4_oweInGoodsBy_21 : decode cX4_oweInGoodsBy 21 = .ok (.aload_n 0, 1) := by decide +kernel
theorem dX4_oweInGoodsBy_22 : decode cX4_oweInGoodsBy 22 = .ok (.getfield 28, 3) := by decide +kernel
theorem dX4_oweInGoodsBy_25 : decode cX4_oweInGoodsBy 25 = .ok (.iload_n 1, 1) := by decide +kernel
theorem dX4_oweInGoodsBy_26 : decode cX4_oweInGoodsBy 26 = .ok (.iload_n 3, 1) := by decide +kernel
theorem dX4_oweInGoodsBy_27 : decode cX4_oweInGoodsBy 27 = .ok (.iload 4, 2) := by decide +kernel
theorem dX4_oweInGoodsBy_29 : decode cX4_oweInGoodsBy 29 = .ok (.ineg, 1) := by decide +kernel
theorem dX4_oweInGoodsBy_30 : decode cX4_oweInGoodsBy 30 = .ok (.invokevirtual 107, 3) := by decide +kernel
theorem dX4_oweInGoodsBy_33 : decode cX4_oweInGoodsBy 33 = .ok (.aload_n 0, 1) := by decide +kernel
theorem dX4_oweInGoodsBy_34 : decode cX4_oweInGoodsBy 34 = .ok (.getfield 35, 3) := by decide +kernel
theorem dX4_oweInGoodsBy_37 : decode cX4_oweInGoodsBy 37 = .ok (.iload_n 3, 1) := by decide +kernel
theorem dX4_oweInGoodsBy_38 : decode cX4_oweInGoodsBy 38 = .ok (.iload_n 1, 1) := by decide +kernel
theorem dX4_oweInGoodsBy_39 : decode cX4_oweInGoodsBy 39 = .ok (.iload 4, 2) := by decide +kernel
theorem dX4_oweInGoodsBy_41 : decode cX4_oweInGoodsBy 41 = .ok (.invokevirtual 150, 3) := by decide +kernel
theorem dX4_oweInGoodsBy_44 : decode cX4_oweInGoodsBy 44 = .ok (.iload_n 2, 1) := by decide +kernel
theorem dX4_oweInGoodsBy_45 : decode cX4_oweInGoodsBy 45 = .ok (.iload 4, 2) := by decide +kernel
theorem dX4_oweInGoodsBy_47 : decode cX4_oweInGoodsBy 47 = .ok (.iadd, 1) := by decide +kernel
theorem dX4_oweInGoodsBy_48 : decode cX4_oweInGoodsBy 48 = .ok (.istore_n 2, 1) := by decide +kernel
theorem dX4_oweInGoodsBy_49 : decode cX4_oweInGoodsBy 49 = .ok (.iinc 3 1, 3) := by decide +kernel
theorem dX4_oweInGoodsBy_52 : decode cX4_oweInGoodsBy 52 = .ok (.goto (-48), 3) := by decide +kernel
theorem dX4_oweInGoodsBy_55 : decode cX4_oweInGoodsBy 55 = .ok (.iload_n 2, 1) := by decide +kernel
theorem dX4_oweInGoodsBy_56 : decode cX4_oweInGoodsBy 56 = .ok (.ireturn, 1) := by decide +kernel
set_option maxRecDepth 20000 in
theorem ggX4_oweInGoodsTo_X0_owed : GoodIn wsX4_oweInGoodsTo wsX0_owed := goodIn_r _ [7, 8, 9, 10, 11, 12, 13, 14, 15, 16, 17, 18, 19, 20, 44, 45, 46, 47, 48] (by decide +kernel) (by decide +kernel)
set_option maxRecDepth 20000 in
theorem gX4_oweInGoodsTo_X0_owed : GoodIn wsX4_oweInGoodsTo (wsV RX4 181 RX0 yX0_owed wsX0_owed) := goodIn_app (goodIn_of _ (by decide +kernel)) ggX4_oweInGoodsTo_X0_owed
set_option maxRecDepth 20000 in
theorem ggX4_oweInGoodsTo_X0_more : GoodIn wsX4_oweInGoodsTo wsX0_more := goodIn_r _ [24, 8, 25, 26, 27, 12, 28, 29, 10, 11, 13, 14, 15, 16, 17, 18, 19, 20, 30, 31, 32, 33, 44, 45, 46, 47, 48] (by decide +kernel) (by decide +kernel)
set_option maxRecDepth 20000 in
theorem gX4_oweInGoodsTo_X0_more : GoodIn wsX4_oweInGoodsTo (wsV RX4 107 RX0 yX0_more wsX0_more) := goodIn_app (goodIn_of _ (by decide +kernel)) ggX4_oweInGoodsTo_X0_more
set_option maxRecDepth 20000 in
theorem ggX4_oweInGoodsTo_X2_add : GoodIn wsX4_oweInGoodsTo wsX2_add := goodIn_r _ [28, 29, 10, 11, 12, 13, 14, 15, 16, 17, 18, 19, 20, 30, 31, 32, 33, 46, 47, 48] (by decide +kernel) (by decide +kernel)
set_option maxRecDepth 20000 in
theorem gX4_oweInGoodsTo_X2_add : GoodIn wsX4_oweInGoodsTo (wsV RX4 150 RX2 yX2_add wsX2_add) := goodIn_app (goodIn_of _ (by decide +kernel)) ggX4_oweInGoodsTo_X2_add
theorem dX4_oweInGoodsTo_0 : decode cX4_oweInGoodsTo 0 = .ok (.iconst 0, 1) := by decide +kernel
theorem dX4_oweInGoodsTo_1 : decode cX4_oweInGoodsTo 1 = .ok (.istore_n 2, 1) := by decide +kernel
theorem dX4_oweInGoodsTo_2 : decode cX4_oweInGoodsTo 2 = .ok (.iconst 0, 1) := by decide +kernel
theorem dX4_oweInGoodsTo_3 : decode cX4_oweInGoodsTo 3 = .ok (.istore_n 3, 1) := by decide +kernel
theorem dX4_oweInGoodsTo_4 : decode cX4_oweInGoodsTo 4 = .ok (.iload_n 3, 1) := by decide +kernel
theorem dX4_oweInGoodsTo_5 : decode cX4_oweInGoodsTo 5 = .ok (.bipush 8, 2) := by decide +kernel
theorem dX4_oweInGoodsTo_7 : decode cX4_oweInGoodsTo 7 = .ok (.if_icmp .ge 48, 3) := by decide +kernel
theorem dX4_oweInGoodsTo_10 : decode cX4_oweInGoodsTo 10 = .ok (.aload_n 0, 1) := by decide +kernel
theorem dX4_oweInGoodsTo_11 : decode cX4_oweInGoodsTo 11 = .ok (.getfield 28, 3) := by decide +kernel
theorem dX4_oweInGoodsTo_14 : decode cX4_oweInGoodsTo 14 = .ok (.iload_n 3, 1) := by decide +kernel
theorem dX4_oweInGoodsTo_15 : decode cX4_oweInGoodsTo 15 = .ok (.iload_n 1, 1) := by decide +kernel
theorem dX4_oweInGoodsTo_16 : decode cX4_oweInGoodsTo 16 = .ok (.invokevirtual 181, 3) := by decide +kernel
theorem dX4_oweInGoodsTo_19 : decode cX4_oweInGoodsTo 19 = .ok (.istore 4, 2) := by decide +kernel
theorem dX4_oweInGoodsTo_21 : decode cX4_oweInGoodsTo 21 = .ok (.aload_n 0, 1) := by decide +kernel
theorem dX4_oweInGoodsTo_22 : decode cX4_oweInGoodsTo 22 = .ok (.getfield 28, 3) := by decide +kernel
theorem dX4_oweInGoodsTo_25 : decode cX4_oweInGoodsTo 25 = .ok (.iload_n 3, 1) := by decide +kernel
theorem dX4_oweInGoodsTo_26 : decode cX4_oweInGoodsTo 26 = .ok (.iload_n 1, 1) := by decide +kernel
theorem dX4_oweInGoodsTo_27 : decode cX4_oweInGoodsTo 27 = .ok (.iload 4, 2) := by decide +kernel
theorem dX4_oweInGoodsTo_29 : decode cX4_oweInGoodsTo 29 = .ok (.ineg, 1) := by decide +kernel
theorem dX4_oweInGoodsTo_30 : decode cX4_oweInGoodsTo 30 = .ok (.invokevirtual 107, 3) := by decide +kernel
theorem dX4_oweInGoodsTo_33 : decode cX4_oweInGoodsTo 33 = .ok (.aload_n 0, 1) := by decide +kernel
theorem dX4_oweInGoodsTo_34 : decode cX4_oweInGoodsTo 34 = .ok (.getfield 35, 3) := by decide +kernel
theorem dX4_oweInGoodsTo_37 : decode cX4_oweInGoodsTo 37 = .ok (.iload_n 1, 1) := by decide +kernel
theorem dX4_oweInGoodsTo_38 : decode cX4_oweInGoodsTo 38 = .ok (.iload_n 3, 1) := by decide +kernel
theorem dX4_oweInGoodsTo_39 : decode cX4_oweInGoodsTo 39 = .ok (.iload 4, 2) := by decide +kernel
theorem dX4_oweInGoodsTo_41 : decode cX4_oweInGoodsTo 41 = .ok (.invokevirtual 150, 3) := by decide +kernel
theorem dX4_oweInGoodsTo_44 : decode cX4_oweInGoodsTo 44 = .ok (.iload_n 2, 1) := by decide +kernel
theorem dX4_oweInGoodsTo_45 : decode cX4_oweInGoodsTo 45 = .ok (.iload 4, 2) := by decide +kernel
theorem dX4_oweInGoodsTo_47 : decode cX4_oweInGoodsTo 47 = .ok (.iadd, 1) := by decide +kernel
theorem dX4_oweInGoodsTo_48 : decode cX4_oweInGoodsTo 48 = .ok (.istore_n 2, 1) := by decide +kernel
theorem dX4_oweInGoodsTo_49 : decode cX4_oweInGoodsTo 49 = .ok (.iinc 3 1, 3) := by decide +kernel
theorem dX4_oweInGoodsTo_52 : decode cX4_oweInGoodsTo 52 = .ok (.goto (-48), 3) := by decide +kernel
theorem dX4_oweInGoodsTo_55 : decode cX4_oweInGoodsTo 55 = .ok (.iload_n 2, 1) := by decide +kernel
theorem dX4_oweInGoodsTo_56 : decode cX4_oweInGoodsTo 56 = .ok (.ireturn, 1) := by decide +kernel
