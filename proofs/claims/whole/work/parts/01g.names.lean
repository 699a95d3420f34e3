theorem dX4_settle_136 : decode cX4_settle 136 = .ok (.iload 6, 2) := by decide +kernel
theorem dX4_settle_138 : decode cX4_settle 138 = .ok (.ireturn, 1) := by decide +kernel
set_option maxRecDepth 20000 in
theorem ggX4_guarantee_X4_needGuaranteeArguments : GoodIn wsX4_guarantee wsX4_needGuaranteeArguments := goodIn_ca (goodIn_ca (goodIn_r _ [8, 9, 10, 11, 7, 12, 13, 14, 15, 16, 17, 18, 19, 20, 21, 22, 23, 24, 25, 26, 27, 28, 29, 30, 31, 32, 33, 34, 35, 36, 37, 38, 39, 40, 41, 42, 43, 44, 97, 98, 99, 100, 101, 102, 103, 104, 105, 106, 107, 108] (by decide +kernel) (by decide +kernel)) (goodIn_sub (fun _ h => List.mem_cons_of_mem _ (List.mem_append_left _ (List.mem_append_right _ h))) (by decide +kernel))) (goodIn_sub (fun _ h => List.mem_cons_of_mem _ (List.mem_append_right _ h)) (by decide +kernel))
set_option maxRecDepth 20000 in
theorem gX4_guarantee_X4_needGuaranteeArguments : GoodIn wsX4_guarantee (wsV RX4 142 RX4 yX4_needGuaranteeArguments wsX4_needGuaranteeArguments) := goodIn_app (goodIn_of _ (by decide +kernel)) ggX4_guarantee_X4_needGuaranteeArguments
set_option maxRecDepth 20000 in
theorem ggX4_guarantee_X2_get : GoodIn wsX4_guarantee wsX2_get := goodIn_r _ [29, 30, 31, 32, 33, 28, 34, 35, 36, 106, 107, 108] (by decide +kernel) (by decide +kernel)
set_option maxRecDepth 20000 in
theorem gX4_guarantee_X2_get : GoodIn wsX4_guarantee (wsV RX4 145 RX2 yX2_get wsX2_get) := goodIn_app (goodIn_of _ (by decide +kernel)) ggX4_guarantee_X2_get
set_option maxRecDepth 20000 in
theorem ggX4_guarantee_X4_needBearable : GoodIn wsX4_guarantee wsX4_needBearable := goodIn_ca (goodIn_r _ [48, 1, 2, 49, 50, 51, 52, 53, 54, 55, 56, 57, 58, 28, 59, 35, 60, 26, 27, 29, 30, 31, 32, 33, 34, 36, 61, 62, 63, 64, 65, 66, 67, 7, 68, 69, 70, 3, 71, 72, 73, 74, 75, 76, 77, 78, 79, 80, 81, 82, 83, 84, 85, 86, 87, 88, 97, 98, 99, 100, 101, 102, 103, 104, 105, 109, 110, 106, 107, 108, 111, 112] (by decide +kernel) (by decide +kernel)) (goodIn_sub (fun _ h => List.mem_cons_of_mem _ (List.mem_append_left _ (List.mem_append_left _ (List.mem_append_right _ h)))) (by decide +kernel))
set_option maxRecDepth 20000 in
theorem gX4_guarantee_X4_needBearable : GoodIn wsX4_guarantee (wsV RX4 104 RX4 yX4_needBearable wsX4_needBearable) := goodIn_app (goodIn_of _ (by decide +kernel)) ggX4_guarantee_X4_needBearable
set_option maxRecDepth 20000 in
theorem ggX4_guarantee_X2_add : GoodIn wsX4_guarantee wsX2_add := goodIn_r _ [92, 60, 26, 27, 28, 29, 30, 31, 32, 33, 34, 35, 36, 93, 94, 95, 96, 106, 107, 108] (by decide +kernel) (by decide +kernel)
set_option maxRecDepth 20000 in
theorem gX4_guarantee_X2_add : GoodIn wsX4_guarantee (wsV RX4 150 RX2 yX2_add wsX2_add) := goodIn_app (goodIn_of _ (by decide +kernel)) ggX4_guarantee_X2_add
theorem dX4_guarantee_0 : decode cX4_guarantee 0 = .ok (.aload_n 0, 1) := by decide +kernel
theorem dX4_guarantee_1 : decode cX4_guarantee 1 = .ok (.iload_n 1, 1) := by decide +kernel
theorem dX4_guarantee_2 : decode cX4_guarantee 2 = .ok (.iload_n 2, 1) := by decide +kernel
theorem dX4_guarantee_3 : decode cX4_guarantee 3 = .ok (.iload_n 3, 1) := by decide +kernel
theorem dX4_guarantee_4 : decode cX4_guarantee 4 = .ok (.invokevirtual 142, 3) := by decide +kernel
theorem dX4_guarantee_7 : decode cX4_guarantee 7 = .ok (.aload_n 0, 1) := by decide +kernel
theorem dX4_guarantee_8 : decode cX4_guarantee 8 = .ok (.getfield 32, 3) := by decide +kernel
theorem dX4_guarantee_11 : decode cX4_guarantee 11 = .ok (.iload_n 1, 1) := by decide +kernel
theorem dX4_guarantee_12 : decode cX4_guarantee 12 = .ok (.iload_n 2, 1) := by decide +kernel
theorem dX4_guarantee_13 : decode cX4_guarantee 13 = .ok (.invokevirtual 145, 3) := by decide +kernel
theorem dX4_guarantee_16 : decode cX4_guarantee 16 = .ok (.iload_n 3, 1) := by decide +kernel
theorem dX4_guarantee_17 : decode cX4_guarantee 17 = .ok (.iadd, 1) := by decide +kernel
theorem dX4_guarantee_18 : decode cX4_guarantee 18 = .ok (.sipush 1000, 3) := by decide +kernel
theorem dX4_guarantee_21 : decode cX4_guarantee 21 = .ok (.if_icmp .le 13, 3) := by decide +kernel
theorem dX4_guarantee_24 : decode cX4_guarantee 24 = .ok (.new 55, 3) := by decide +kernel
theorem dX4_guarantee_27 : decode cX4_guarantee 27 = .ok (.dup, 1) := by decide +kernel
theorem dX4_guarantee_28 : decode cX4_guarantee 28 = .ok (.ldc 148, 2) := by decide +kernel
theorem dX4_guarantee_30 : decode cX4_guarantee 30 = .ok (.invokespecial 59, 3) := by decide +kernel
theorem dX4_guarantee_33 : decode cX4_guarantee 33 = .ok (.athrow, 1) := by decide +kernel
theorem dX4_guarantee_34 : decode cX4_guarantee 34 = .ok (.aload_n 0, 1) := by decide +kernel
theorem dX4_guarantee_35 : decode cX4_guarantee 35 = .ok (.iload_n 1, 1) := by decide +kernel
theorem dX4_guarantee_36 : decode cX4_guarantee 36 = .ok (.iload_n 3, 1) := by decide +kernel
theorem dX4_guarantee_37 : decode cX4_guarantee 37 = .ok (.invokevirtual 104, 3) := by decide +kernel
theorem dX4_guarantee_40 : decode cX4_guarantee 40 = .ok (.aload_n 0, 1) := by decide +kernel
theorem dX4_guarantee_41 : decode cX4_guarantee 41 = .ok (.getfield 32, 3) := by decide +kernel
theorem dX4_guarantee_44 : decode cX4_guarantee 44 = .ok (.iload_n 1, 1) := by decide +kernel
theorem dX4_guarantee_45 : decode cX4_guarantee 45 = .ok (.iload_n 2, 1) := by decide +kernel
theorem dX4_guarantee_46 : decode cX4_guarantee 46 = .ok (.iload_n 3, 1) := by decide +kernel
theorem dX4_guarantee_47 : decode cX4_guarantee 47 = .ok (.invokevirtual 150, 3) := by decide +kernel
theorem dX4_guarantee_50 : decode cX4_guarantee 50 = .ok (.aload_n 0, 1) := by decide +kernel
theorem dX4_guarantee_51 : decode cX4_guarantee 51 = .ok (.getfield 32, 3) := by decide +kernel
theorem dX4_guarantee_54 : decode cX4_guarantee 54 = .ok (.iload_n 1, 1) := by decide +kernel
theorem dX4_guarantee_55 : decode cX4_guarantee 55 = .ok (.iload_n 2, 1) := by decide +kernel
theorem dX4_guarantee_56 : decode cX4_guarantee 56 = .ok (.invokevirtual 145, 3) := by decide +kernel
theorem dX4_guarantee_59 : decode cX4_guarantee 59 = .ok (.ireturn, 1) := by decide +kernel
set_option maxRecDepth 20000 in
theorem ggX4_revoke_X4_needGuaranteeArguments : GoodIn wsX4_revoke wsX4_needGuaranteeArguments := goodIn_ca (goodIn_ca (goodIn_r _ [8, 9, 10, 11, 7, 12, 13, 14, 15, 16, 17, 18, 19, 20, 21, 22, 23, 24, 25, 26, 27, 28, 29, 30, 31, 32, 33, 34, 35, 36, 37, 38, 39, 40, 41, 42, 43, 44, 97, 98, 99, 100, 101, 102, 103, 104, 105, 106, 107, 108] (by decide +kernel) (by decide +kernel)) (goodIn_sub (fun _ h => List.mem_cons_of_mem _ (List.mem_append_left _ (List.mem_append_right _ h))) (by decide +kernel))) (goodIn_sub (fun _ h => List.mem_cons_of_mem _ (List.mem_append_right _ h)) (by decide +kernel))
set_option maxRecDepth 20000 in
theorem gX4_revoke_X4_needGuaranteeArguments : GoodIn wsX4_revoke (wsV RX4 142 RX4 yX4_needGuaranteeArguments wsX4_needGuaranteeArguments) := goodIn_app (goodIn_of _ (by decide +kernel)) ggX4_revoke_X4_needGuaranteeArguments
set_option maxRecDepth 20000 in
theorem ggX4_revoke_X2_get : GoodIn wsX4_revoke wsX2_get := goodIn_r _ [29, 30, 31, 32, 33, 28, 34, 35, 36, 106, 107, 108] (by decide +kernel) (by decide +kernel)
set_option maxRecDepth 20000 in
theorem gX4_revoke_X2_get : GoodIn wsX4_revoke (wsV RX4 145 RX2 yX2_get wsX2_get) := goodIn_app (goodIn_of _ (by decide +kernel)) ggX4_revoke_X2_get
set_option maxRecDepth 20000 in
theorem ggX4_revoke_X4_needBearable : GoodIn wsX4_revoke wsX4_needBearable := goodIn_ca (goodIn_r _ [48, 1, 2, 49, 50, 51, 52, 53, 54, 55, 56, 57, 58, 28, 59, 35, 60, 26, 27, 29, 30, 31, 32, 33, 34, 36, 61, 62, 63, 64, 65, 66, 67, 7, 68, 69, 70, 3, 71, 72, 73, 74, 75, 76, 77, 78, 79, 80, 81, 82, 83, 84, 85, 86, 87, 88, 97, 98, 99, 100, 101, 102, 103, 104, 105, 109, 110, 106, 107, 108, 111, 112] (by decide +kernel) (by decide +kernel)) (goodIn_sub (fun _ h => List.mem_cons_of_mem _ (List.mem_append_left _ (List.mem_append_left _ (List.mem_append_right _ h)))) (by decide +kernel))
set_option maxRecDepth 20000 in
theorem gX4_revoke_X4_needBearable : GoodIn wsX4_revoke (wsV RX4 104 RX4 yX4_needBearable wsX4_needBearable) := goodIn_app (goodIn_of _ (by decide +kernel)) ggX4_revoke_X4_needBearable
set_option maxRecDepth 20000 in
theorem ggX4_revoke_X2_add : GoodIn wsX4_revoke wsX2_add := goodIn_r _ [92, 60, 26, 27, 28, 29, 30, 31, 32, 33, 34, 35, 36, 93, 94, 95, 96, 106, 107, 108] (by decide +kernel) (by decide +kernel)
set_option maxRecDepth 20000 in
theorem gX4_revoke_X2_add : GoodIn wsX4_revoke (wsV RX4 150 RX2 yX2_add wsX2_add) := goodIn_app (goodIn_of _ (by decide +kernel)) ggX4_revoke_X2_add
theorem dX4_revoke_0 : decode cX4_revoke 0 = .ok (.aload_n 0, 1) := by decide +kernel
theorem dX4_revoke_1 : decode cX4_revoke 1 = .ok (.iload_n 1, 1) := by decide +kernel
theorem dX4_revoke_2 : decode cX4_revoke 2 = .ok (.iload_n 2, 1) := by decide +kernel
theorem dX4_revoke_3 : decode cX4_revoke 3 = .ok (.iload_n 3, 1) := by decide +kernel
theorem dX4_revoke_4 : decode cX4_revoke 4 = .ok (.invokevirtual 142, 3) := by decide +kernel
theorem dX4_revoke_7 : decode cX4_revoke 7 = .ok (.aload_n 0, 1) := by decide +kernel
theorem dX4_revoke_8 : decode cX4_revoke 8 = .ok (.getfield 32, 3) := by decide +kernel
theorem dX4_revoke_11 : decode cX4_revoke 11 = .ok (.iload_n 1, 1) := by decide +kernel
theorem dX4_revoke_12 : decode cX4_revoke 12 = .ok (.iload_n 2, 1) := by decide +kernel
theorem dX4_revoke_13 : decode cX4_revoke 13 = .ok (.invokevirtual 145, 3) := by decide +kernel
theorem dX4_revoke_16 : decode cX4_revoke 16 = .ok (.iload_n 3, 1) := by decide +kernel
theorem dX4_revoke_17 : decode cX4_revoke 17 = .ok (.if_icmp .ge 13, 3) := by decide +kernel
theorem dX4_revoke_20 : decode cX4_revoke 20 = .ok (.new 55, 3) := by decide +kernel
theorem dX4_revoke_23 : decode cX4_revoke 23 = .ok (.dup, 1) := by decide +kernel
theorem dX4_revoke_24 : decode cX4_revoke 24 = .ok (.ldc 153, 2) := by decide +kernel
theorem dX4_revoke_26 : decode cX4_revoke 26 = .ok (.invokespecial 59, 3) := by decide +kernel
theorem dX4_revoke_29 : decode cX4_revoke 29 = .ok (.athrow, 1) := by decide +kernel
theorem dX4_revoke_30 : decode cX4_revoke 30 = .ok (.aload_n 0, 1) := by decide +kernel
theorem dX4_revoke_31 : decode cX4_revoke 31 = .ok (.iload_n 2, 1) := by decide +kernel
theorem dX4_revoke_32 : decode cX4_revoke 32 = .ok (.iload_n 3, 1) := by decide +kernel
theorem dX4_revoke_33 : decode cX4_revoke 33 = .ok (.invokevirtual 104, 3) := by decide +kernel
theorem dX4_revoke_36 : decode cX4_revoke 36 = .ok (.aload_n 0, 1) := by decide +kernel
theorem dX4_revoke_37 : decode cX4_revoke 37 = .ok (.getfield 32, 3) := by decide +kernel
theorem dX4_revoke_40 : decode cX4_revoke 40 = .ok (.iload_n 1, 1) := by decide +kernel
theorem dX4_revoke_41 : decode cX4_revoke 41 = .ok (.iload_n 2, 1) := by decide +kernel
theorem dX4_revoke_42 : decode cX4_revoke 42 = .ok (.iload_n 3, 1) := by decide +kernel
theorem dX4_revoke_43 : decode cX4_revoke 43 = .ok (.ineg, 1) := by decide +kernel
theorem dX4_revoke_44 : decode cX4_revoke 44 = .ok (.invokevirtual 150, 3) := by decide +kernel
theorem dX4_revoke_47 : decode cX4_revoke 47 = .ok (.aload_n 0, 1) := by decide +kernel
theorem dX4_revoke_48 : decode cX4_revoke 48 = .ok (.getfield 32, 3) := by decide +kernel
theorem dX4_revoke_51 : decode cX4_revoke 51 = .ok (.iload_n 1, 1) := by decide +kernel
theorem dX4_revoke_52 : decode cX4_revoke 52 = .ok (.iload_n 2, 1) := by decide +kernel
theorem dX4_revoke_53 : decode cX4_revoke 53 = .ok (.invokevirtual 145, 3) := by decide +kernel
theorem dX4_revoke_56 : decode cX4_revoke 56 = .ok (.ireturn, 1) := by decide +kernel
set_option maxRecDepth 20000 in
theorem ggX4_fee_X4_needRange : GoodIn wsX4_fee wsX4_needRange := goodIn_ca (goodIn_r _ [5, 6, 7] (by decide +kernel) (by decide +kernel)) (goodIn_sub (fun _ h => List.mem_cons_of_mem _ (List.mem_append_right _ h)) (by decide +kernel))
set_option maxRecDepth 20000 in
theorem gX4_fee_X4_needRange : GoodIn wsX4_fee (va_wsS RX4 92 yX4_needRange wsX4_needRange) := goodIn_app (goodIn_of _ (by decide +kernel)) ggX4_fee_X4_needRange
theorem dX4_fee_0 : decode cX4_fee 0 = .ok (.iload_n 1, 1) := by decide +kernel
theorem dX4_fee_1 : decode cX4_fee 1 = .ok (.iconst 0, 1) := by decide +kernel
theorem dX4_fee_2 : decode cX4_fee 2 = .ok (.sipush 500, 3) := by decide +kernel
theorem dX4_fee_5 : decode cX4_fee 5 = .ok (.invokestatic 92, 3) := by decide +kernel
theorem dX4_fee_8 : decode cX4_fee 8 = .ok (.aload_n 0, 1) := by decide +kernel
theorem dX4_fee_9 : decode cX4_fee 9 = .ok (.getfield 52, 3) := by decide +kernel
theorem dX4_fee_12 : decode cX4_fee 12 = .ok (.istore_n 2, 1) := by decide +kernel
theorem dX4_fee_13 : decode cX4_fee 13 = .ok (.aload_n 0, 1) := by decide +kernel
theorem dX4_fee_14 : decode cX4_fee 14 = .ok (.iload_n 1, 1) := by decide +kernel
theorem dX4_fee_15 : decode cX4_fee 15 = .ok (.putfield 52, 3) := by decide +kernel
theorem dX4_fee_18 : decode cX4_fee 18 = .ok (.iload_n 2, 1) := by decide +kernel
theorem dX4_fee_19 : decode cX4_fee 19 = .ok (.ireturn, 1) := by decide +kernel
set_option maxRecDepth 20000 in
theorem ggX4_night_X4_needRange : GoodIn wsX4_night wsX4_needRange := goodIn_ca (goodIn_r _ [7, 8, 9] (by decide +kernel) (by decide +kernel)) (goodIn_sub (fun _ h => List.mem_cons_of_mem _ (List.mem_append_right _ h)) (by decide +kernel))
set_option maxRecDepth 20000 in
theorem gX4_night_X4_needRange : GoodIn wsX4_night (va_wsS RX4 92 yX4_needRange wsX4_needRange) := goodIn_app (goodIn_of _ (by decide +kernel)) ggX4_night_X4_needRange
set_option maxRecDepth 20000 in
theorem ggX4_night_X1_netAll : GoodIn wsX4_night wsX1_netAll := goodIn_r _ [14, 15, 16, 17, 18, 13, 19, 20, 21, 22, 23, 24, 25, 26, 27, 28, 29, 30, 31, 32, 33, 34, 35, 36, 37, 38, 39, 40, 41, 42, 43, 44, 45, 46, 47, 48, 49, 50, 51, 52, 53, 54, 55, 56, 57, 58, 59, 60, 61, 62, 63, 64, 65, 66, 67, 68, 69, 70, 71, 72, 73, 74, 75, 76, 77, 143, 144, 145, 146, 147, 148, 149] (by decide +kernel) (by decide +kernel)
set_option maxRecDepth 20000 in
theorem gX4_night_X1_netAll : GoodIn wsX4_night (wsV RX4 155 RX1 yX1_netAll wsX1_netAll) := goodIn_app (goodIn_of _ (by decide +kernel)) ggX4_night_X1_netAll
set_option maxRecDepth 20000 in
theorem ggX4_night_X4_payFees : GoodIn wsX4_night wsX4_payFees := goodIn_r _ [81, 82, 83, 84, 6, 85, 2, 86, 3, 87, 88, 89, 51, 90, 53, 91, 92, 93, 24, 94, 31, 76, 45, 46, 47, 26, 27, 28, 29, 30, 32, 95, 96, 97, 98, 99, 100, 101, 102, 103, 104, 105, 106, 107, 108, 109, 110, 111, 112, 113, 114, 115, 116, 117, 118, 119, 120, 65, 66, 67, 121, 122, 123, 124, 125, 54, 126, 127, 128, 129, 130, 49, 50, 52, 55, 131, 132, 69, 70, 71, 72, 73, 74, 75, 77, 22, 23, 25, 133, 134, 135, 136, 137, 138, 139, 140, 141, 142, 148, 149, 145, 146, 147, 150, 151] (by decide +kernel) (by decide +kernel)
set_option maxRecDepth 20000 in
theorem gX4_night_X4_payFees : GoodIn wsX4_night (wsV RX4 159 RX4 yX4_payFees wsX4_payFees) := goodIn_app (goodIn_of _ (by decide +kernel)) ggX4_night_X4_payFees
theorem dX4_night_0 : decode cX4_night 0 = .ok (.iload_n 1, 1) := by decide +kernel
theorem dX4_night_1 : decode cX4_night 1 = .ok (.iconst 1, 1) := by decide +kernel
theorem dX4_night_2 : decode cX4_night 2 = .ok (.bipush 20, 2) := by decide +kernel
theorem dX4_night_4 : decode cX4_night 4 = .ok (.invokestatic 92, 3) := by decide +kernel
theorem dX4_night_7 : decode cX4_night 7 = .ok (.iconst 0, 1) := by decide +kernel
theorem dX4_night_8 : decode cX4_night 8 = .ok (.istore_n 2, 1) := by decide +kernel
theorem dX4_night_9 : decode cX4_night 9 = .ok (.iload_n 2, 1) := by decide +kernel
theorem dX4_night_10 : decode cX4_night 10 = .ok (.iload_n 1, 1) := by decide +kernel
theorem dX4_night_11 : decode cX4_night 11 = .ok (.if_icmp .ge 40, 3) := by decide +kernel
theorem dX4_night_14 : decode cX4_night 14 = .ok (.iload_n 2, 1) := by decide +kernel
theorem dX4_night_15 : decode cX4_night 15 = .ok (.bipush 20, 2) := by decide +kernel
theorem dX4_night_17 : decode cX4_night 17 = .ok (.if_icmp .ge 34, 3) := by decide +kernel
theorem dX4_night_20 : decode cX4_night 20 = .ok (.aload_n 0, 1) := by decide +kernel
theorem dX4_night_21 : decode cX4_night 21 = .ok (.getfield 41, 3) := by decide +kernel
theorem dX4_night_24 : decode cX4_night 24 = .ok (.aload_n 0, 1) := by decide +kernel
theorem dX4_night_25 : decode cX4_night 25 = .ok (.getfield 28, 3) := by decide +kernel
theorem dX4_night_28 : decode cX4_night 28 = .ok (.invokevirtual 155, 3) := by decide +kernel
theorem dX4_night_31 : decode cX4_night 31 = .ok (.aload_n 0, 1) := by decide +kernel
theorem dX4_night_32 : decode cX4_night 32 = .ok (.invokevirtual 159, 3) := by decide +kernel
theorem dX4_night_35 : decode cX4_night 35 = .ok (.aload_n 0, 1) := by decide +kernel
theorem dX4_night_36 : decode cX4_night 36 = .ok (.dup, 1) := by decide +kernel
theorem dX4_night_37 : decode cX4_night 37 = .ok (.getfield 49, 3) := by decide +kernel
theorem dX4_night_40 : decode cX4_night 40 = .ok (.iconst 1, 1) := by decide +kernel
theorem dX4_night_41 : decode cX4_night 41 = .ok (.iadd, 1) := by decide +kernel
theorem dX4_night_42 : decode cX4_night 42 = .ok (.putfield 49, 3) := by decide +kernel
theorem dX4_night_45 : decode cX4_night 45 = .ok (.iinc 2 1, 3) := by decide +kernel
theorem dX4_night_48 : decode cX4_night 48 = .ok (.goto (-39), 3) := by decide +kernel
theorem dX4_night_51 : decode cX4_night 51 = .ok (.aload_n 0, 1) := by decide +kernel
theorem dX4_night_52 : decode cX4_night 52 = .ok (.getfield 49, 3) := by decide +kernel
theorem dX4_night_55 : decode cX4_night 55 = .ok (.ireturn, 1) := by decide +kernel
set_option maxRecDepth 20000 in
theorem ggX4_balance_X4_needShopEverOrHouse : GoodIn wsX4_balance wsX4_needShopEverOrHouse := goodIn_ca (goodIn_r _ [6, 7, 8, 9, 5, 10, 11, 12, 13, 14, 15, 16, 17, 44, 45, 46, 47, 48, 49, 50, 51, 52] (by decide +kernel) (by decide +kernel)) (goodIn_sub (fun _ h => List.mem_cons_of_mem _ (List.mem_append_right _ h)) (by decide +kernel))
set_option maxRecDepth 20000 in
theorem gX4_balance_X4_needShopEverOrHouse : GoodIn wsX4_balance (wsV RX4 162 RX4 yX4_needShopEverOrHouse wsX4_needShopEverOrHouse) := goodIn_app (goodIn_of _ (by decide +kernel)) ggX4_balance_X4_needShopEverOrHouse
set_option maxRecDepth 20000 in
theorem ggX4_balance_X0_balanceOf : GoodIn wsX4_balance wsX0_balanceOf := goodIn_r _ [22, 23, 24, 25, 26, 27, 28, 29, 30, 31, 32, 33, 34, 35, 36, 37, 38, 39, 40, 41, 42, 43, 53, 54, 55, 56, 57] (by decide +kernel) (by decide +kernel)
set_option maxRecDepth 20000 in
theorem gX4_balance_X0_balanceOf : GoodIn wsX4_balance (wsV RX4 165 RX0 yX0_balanceOf wsX0_balanceOf) := goodIn_app (goodIn_of _ (by decide +kernel)) ggX4_balance_X0_balanceOf
theorem dX4_balance_0 : decode cX4_balance 0 = .ok (.aload_n 0, 1) := by decide +kernel
theorem dX4_balance_1 : decode cX4_balance 1 = .ok (.iload_n 1, 1) := by decide +kernel
theorem dX4_balance_2 : decode cX4_balance 2 = .ok (.invokevirtual 162, 3) := by decide +kernel
theorem dX4_balance_5 : decode cX4_balance 5 = .ok (.aload_n 0, 1) := by decide +kernel
theorem dX4_balance_6 : decode cX4_balance 6 = .ok (.getfield 28, 3) := by decide +kernel
theorem dX4_balance_9 : decode cX4_balance 9 = .ok (.iload_n 1, 1) := by decide +kernel
theorem dX4_balance_10 : decode cX4_balance 10 = .ok (.invokevirtual 165, 3) := by decide +kernel
theorem dX4_balance_13 : decode cX4_balance 13 = .ok (.ireturn, 1) := by decide +kernel
set_option maxRecDepth 20000 in
theorem ggX4_balanceAnew_X4_needShopEverOrHouse : GoodIn wsX4_balanceAnew wsX4_needShopEverOrHouse := goodIn_ca (goodIn_r _ [7, 8, 9, 10, 6, 11, 12, 13, 14, 15, 16, 17, 18, 51, 52, 53, 54, 55, 56, 57, 58, 59] (by decide +kernel) (by decide +kernel)) (goodIn_sub (fun _ h => List.mem_cons_of_mem _ (List.mem_append_right _ h)) (by decide +kernel))
set_option maxRecDepth 20000 in
theorem gX4_balanceAnew_X4_needShopEverOrHouse : GoodIn wsX4_balanceAnew (wsV RX4 162 RX4 yX4_needShopEverOrHouse wsX4_needShopEverOrHouse) := goodIn_app (goodIn_of _ (by decide +kernel)) ggX4_balanceAnew_X4_needShopEverOrHouse
set_option maxRecDepth 20000 in
theorem ggX4_balanceAnew_X3_balanceOf : GoodIn wsX4_balanceAnew wsX3_balanceOf := goodIn_r _ [23, 24, 25, 26, 27, 22, 28, 29, 30, 31, 32, 33, 34, 35, 36, 37, 38, 39, 40, 41, 60, 61, 62, 63, 64] (by decide +kernel) (by decide +kernel)
set_option maxRecDepth 20000 in
theorem gX4_balanceAnew_X3_balanceOf : GoodIn wsX4_balanceAnew (wsV RX4 168 RX3 yX3_balanceOf wsX3_balanceOf) := goodIn_app (goodIn_of _ (by decide +kernel)) ggX4_balanceAnew_X3_balanceOf
set_option maxRecDepth 20000 in
theorem ggX4_balanceAnew_X2_columnSum : GoodIn wsX4_balanceAnew wsX2_columnSum := goodIn_r _ [45, 40, 46, 31, 32, 33, 34, 35, 36, 37, 38, 39, 41, 62, 63, 64] (by decide +kernel) (by decide +kernel)
set_option maxRecDepth 20000 in
theorem gX4_balanceAnew_X2_columnSum : GoodIn wsX4_balanceAnew (wsV RX4 169 RX2 yX2_columnSum wsX2_columnSum) := goodIn_app (goodIn_of _ (by decide +kernel)) ggX4_balanceAnew_X2_columnSum
set_option maxRecDepth 20000 in
theorem ggX4_balanceAnew_X2_rowSum : GoodIn wsX4_balanceAnew wsX2_rowSum := goodIn_r _ [50, 41, 46, 31, 32, 33, 34, 35, 36, 37, 38, 39, 40, 62, 63, 64] (by decide +kernel) (by decide +kernel)
set_option maxRecDepth 20000 in
theorem gX4_balanceAnew_X2_rowSum : GoodIn wsX4_balanceAnew (wsV RX4 172 RX2 yX2_rowSum wsX2_rowSum) := goodIn_app (goodIn_of _ (by decide +kernel)) ggX4_balanceAnew_X2_rowSum
theorem dX4_balanceAnew_0 : decode cX4_balanceAnew 0 = .ok (.aload_n 0, 1) := by decide +kernel
theorem dX4_balanceAnew_1 : decode cX4_balanceAnew 1 = .ok (.iload_n 1, 1) := by decide +kernel
theorem dX4_balanceAnew_2 : decode cX4_balanceAnew 2 = .ok (.invokevirtual 162, 3) := by decide +kernel
theorem dX4_balanceAnew_5 : decode cX4_balanceAnew 5 = .ok (.aload_n 0, 1) := by decide +kernel
theorem dX4_balanceAnew_6 : decode cX4_balanceAnew 6 = .ok (.getfield 21, 3) := by decide +kernel
theorem dX4_balanceAnew_9 : decode cX4_balanceAnew 9 = .ok (.iload_n 1, 1) := by decide +kernel
theorem dX4_balanceAnew_10 : decode cX4_balanceAnew 10 = .ok (.invokevirtual 168, 3) := by decide +kernel
theorem dX4_balanceAnew_13 : decode cX4_balanceAnew 13 = .ok (.aload_n 0, 1) := by decide +kernel
theorem dX4_balanceAnew_14 : decode cX4_balanceAnew 14 = .ok (.getfield 35, 3) := by decide +kernel
theorem dX4_balanceAnew_17 : decode cX4_balanceAnew 17 = .ok (.iload_n 1, 1) := by decide +kernel
theorem dX4_balanceAnew_18 : decode cX4_balanceAnew 18 = .ok (.invokevirtual 169, 3) := by decide +kernel
theorem dX4_balanceAnew_21 : decode cX4_balanceAnew 21 = .ok (.iadd, 1) := by decide +kernel
theorem dX4_balanceAnew_22 : decode cX4_balanceAnew 22 = .ok (.aload_n 0, 1) := by decide +kernel
theorem dX4_balanceAnew_23 : decode cX4_balanceAnew 23 = .ok (.getfield 35, 3) := by decide +kernel
theorem dX4_balanceAnew_26 : decode cX4_balanceAnew 26 = .ok (.iload_n 1, 1) := by decide +kernel
theorem dX4_balanceAnew_27 : decode cX4_balanceAnew 27 = .ok (.invokevirtual 172, 3) := by decide +kernel
theorem dX4_balanceAnew_30 : decode cX4_balanceAnew 30 = .ok (.isub, 1) := by decide +kernel
theorem dX4_balanceAnew_31 : decode cX4_balanceAnew 31 = .ok (.ireturn, 1) := by decide +kernel
set_option maxRecDepth 20000 in
theorem ggX4_limit_X4_needShop : GoodIn wsX4_limit wsX4_needShop := goodIn_ca (goodIn_r _ [5, 6, 7, 8, 9, 10, 4, 11, 12, 13, 14, 15, 16, 17, 18, 19, 20, 21, 22, 23, 24, 25, 26, 27, 28, 29, 62, 63, 64, 65, 66, 67, 68, 69, 70, 71, 72, 73] (by decide +kernel) (by decide +kernel)) (goodIn_sub (fun _ h => List.mem_cons_of_mem _ (List.mem_append_right _ h)) (by decide +kernel))
set_option maxRecDepth 20000 in
theorem gX4_limit_X4_needShop : GoodIn wsX4_limit (wsV RX4 62 RX4 yX4_needShop wsX4_needShop) := goodIn_app (goodIn_of _ (by decide +kernel)) ggX4_limit_X4_needShop
set_option maxRecDepth 20000 in
theorem ggX4_limit_X4_limitOf : GoodIn wsX4_limit wsX4_limitOf := goodIn_r _ [33, 34, 35, 36, 37, 38, 39, 40, 41, 42, 43, 44, 45, 46, 47, 48, 49, 50, 51, 52, 19, 20, 21, 22, 23, 24, 25, 26, 27, 28, 29, 53, 54, 55, 56, 57, 58, 59, 60, 61, 62, 63, 64, 65, 66, 67, 68, 69, 70, 74, 75, 71, 72, 73] (by decide +kernel) (by decide +kernel)
set_option maxRecDepth 20000 in
theorem gX4_limit_X4_limitOf : GoodIn wsX4_limit (wsV RX4 175 RX4 yX4_limitOf wsX4_limitOf) := goodIn_app (goodIn_of _ (by decide +kernel)) ggX4_limit_X4_limitOf
theorem dX4_limit_0 : decode cX4_limit 0 = .ok (.aload_n 0, 1) := by decide +kernel
theorem dX4_limit_1 : decode cX4_limit 1 = .ok (.iload_n 1, 1) := by decide +kernel
theorem dX4_limit_2 : decode cX4_limit 2 = .ok (.invokevirtual 62, 3) := by decide +kernel
theorem dX4_limit_5 : decode cX4_limit 5 = .ok (.aload_n 0, 1) := by decide +kernel
theorem dX4_limit_6 : decode cX4_limit 6 = .ok (.iload_n 1, 1) := by decide +kernel
theorem dX4_limit_7 : decode cX4_limit 7 = .ok (.invokevirtual 175, 3) := by decide +kernel
theorem dX4_limit_10 : decode cX4_limit 10 = .ok (.ireturn, 1) := by decide +kernel
set_option maxRecDepth 20000 in
theorem ggX4_owes_X4_needShopEver : GoodIn wsX4_owes wsX4_needShopEver := goodIn_ca (goodIn_r _ [6, 7, 8, 9, 10, 11, 5, 12, 13, 36, 37, 38, 39, 40, 41, 42, 43, 44] (by decide +kernel) (by decide +kernel)) (goodIn_sub (fun _ h => List.mem_cons_of_mem _ (List.mem_append_right _ h)) (by decide +kernel))
set_option maxRecDepth 20000 in
theorem gX4_owes_X4_needShopEver : GoodIn wsX4_owes (wsV RX4 178 RX4 yX4_needShopEver wsX4_needShopEver) := goodIn_app (goodIn_of _ (by decide +kernel)) ggX4_owes_X4_needShopEver
set_option maxRecDepth 20000 in
theorem ggX4_owes_X4_needShopEverOrHouse : GoodIn wsX4_owes wsX4_needShopEverOrHouse := goodIn_ca (goodIn_r _ [17, 2, 3, 4, 5, 6, 7, 8, 9, 10, 11, 12, 13, 36, 37, 38, 39, 40, 41, 42, 43, 44] (by decide +kernel) (by decide +kernel)) (goodIn_sub (fun _ h => List.mem_cons_of_mem _ (List.mem_append_right _ h)) (by decide +kernel))
set_option maxRecDepth 20000 in
theorem gX4_owes_X4_needShopEverOrHouse : GoodIn wsX4_owes (wsV RX4 162 RX4 yX4_needShopEverOrHouse wsX4_needShopEverOrHouse) := goodIn_app (goodIn_of _ (by decide +kernel)) ggX4_owes_X4_needShopEverOrHouse
set_option maxRecDepth 20000 in
theorem ggX4_owes_X0_owed : GoodIn wsX4_owes wsX0_owed := goodIn_r _ [22, 23, 24, 25, 26, 27, 28, 29, 30, 31, 32, 33, 34, 35, 45, 46, 47, 48, 49] (by decide +kernel) (by decide +kernel)
set_option maxRecDepth 20000 in
theorem gX4_owes_X0_owed : GoodIn wsX4_owes (wsV RX4 181 RX0 yX0_owed wsX0_owed) := goodIn_app (goodIn_of _ (by decide +kernel)) ggX4_owes_X0_owed
theorem dX4_owes_0 : decode cX4_owes 0 = .ok (.aload_n 0, 1) := by decide +kernel
theorem dX4_owes_1 : decode cX4_owes 1 = .ok (.iload_n 1, 1) := by decide +kernel
theorem dX4_owes_2 : decode cX4_owes 2 = .ok (.invokevirtual 178, 3) := by decide +kernel
theorem dX4_owes_5 : decode cX4_owes 5 = .ok (.aload_n 0, 1) := by decide +kernel
theorem dX4_owes_6 : decode cX4_owes 6 = .ok (.iload_n 2, 1) := by decide +kernel
theorem dX4_owes_7 : decode cX4_owes 7 = .ok (.invokevirtual 162, 3) := by decide +kernel
theorem dX4_owes_10 : decode cX4_owes 10 = .ok (.aload_n 0, 1) := by decide +kernel
theorem dX4_owes_11 : decode cX4_owes 11 = .ok (.getfield 28, 3) := by decide +kernel
theorem dX4_owes_14 : decode cX4_owes 14 = .ok (.iload_n 1, 1) := by decide +kernel
theorem dX4_owes_15 : decode cX4_owes 15 = .ok (.iload_n 2, 1) := by decide +kernel
theorem dX4_owes_16 : decode cX4_owes 16 = .ok (.invokevirtual 181, 3) := by decide +kernel
theorem dX4_owes_19 : decode cX4_owes 19 = .ok (.ireturn, 1) := by decide +kernel
set_option maxRecDepth 20000 in
theorem ggX4_frozen_X4_needShopEver : GoodIn wsX4_frozen wsX4_needShopEver := goodIn_ca (goodIn_r _ [6, 7, 8, 9, 10, 11, 5, 12, 13, 32, 33, 34, 35, 36, 37, 38, 39, 40] (by decide +kernel) (by decide +kernel)) (goodIn_sub (fun _ h => List.mem_cons_of_mem _ (List.mem_append_right _ h)) (by decide +kernel))
set_option maxRecDepth 20000 in
theorem gX4_frozen_X4_needShopEver : GoodIn wsX4_frozen (wsV RX4 178 RX4 yX4_needShopEver wsX4_needShopEver) := goodIn_app (goodIn_of _ (by decide +kernel)) ggX4_frozen_X4_needShopEver
set_option maxRecDepth 20000 in
theorem ggX4_frozen_X0_frozenPart : GoodIn wsX4_frozen wsX0_frozenPart := goodIn_r _ [18, 19, 20, 21, 22, 23, 24, 25, 26, 27, 28, 29, 30, 31, 41, 42, 43, 44, 45] (by decide +kernel) (by decide +kernel)
set_option maxRecDepth 20000 in
theorem gX4_frozen_X0_frozenPart : GoodIn wsX4_frozen (wsV RX4 184 RX0 yX0_frozenPart wsX0_frozenPart) := goodIn_app (goodIn_of _ (by decide +kernel)) ggX4_frozen_X0_frozenPart
theorem dX4_frozen_0 : decode cX4_frozen 0 = .ok (.aload_n 0, 1) := by decide +kernel
theorem dX4_frozen_1 : decode cX4_frozen 1 = .ok (.iload_n 1, 1) := by decide +kernel
theorem dX4_frozen_2 : decode cX4_frozen 2 = .ok (.invokevirtual 178, 3) := by decide +kernel
theorem dX4_frozen_5 : decode cX4_frozen 5 = .ok (.aload_n 0, 1) := by decide +kernel
theorem dX4_frozen_6 : decode cX4_frozen 6 = .ok (.iload_n 2, 1) := by decide +kernel
theorem dX4_frozen_7 : decode cX4_frozen 7 = .ok (.invokevirtual 178, 3) := by decide +kernel
theorem dX4_frozen_10 : decode cX4_frozen 10 = .ok (.aload_n 0, 1) := by decide +kernel
theorem dX4_frozen_11 : decode cX4_frozen 11 = .ok (.getfield 28, 3) := by decide +kernel
theorem dX4_frozen_14 : decode cX4_frozen 14 = .ok (.iload_n 1, 1) := by decide +kernel
theorem dX4_frozen_15 : decode cX4_frozen 15 = .ok (.iload_n 2, 1) := by decide +kernel
theorem dX4_frozen_16 : decode cX4_frozen 16 = .ok (.invokevirtual 184, 3) := by decide +kernel
theorem dX4_frozen_19 : decode cX4_frozen 19 = .ok (.ireturn, 1) := by decide +kernel
set_option maxRecDepth 20000 in
theorem ggX4_ofTrade_X4_needTrade : GoodIn wsX4_ofTrade wsX4_needTrade := goodIn_ca (goodIn_r _ [6, 7, 8, 1, 9, 10, 11, 12, 13, 14, 37, 38, 39, 40, 41, 42, 43, 44, 45, 46, 47] (by decide +kernel) (by decide +kernel)) (goodIn_sub (fun _ h => List.mem_cons_of_mem _ (List.mem_append_left _ (List.mem_append_right _ h))) (by decide +kernel))
set_option maxRecDepth 20000 in
theorem gX4_ofTrade_X4_needTrade : GoodIn wsX4_ofTrade (wsV RX4 114 RX4 yX4_needTrade wsX4_needTrade) := goodIn_app (goodIn_of _ (by decide +kernel)) ggX4_ofTrade_X4_needTrade
set_option maxRecDepth 20000 in
theorem ggX4_ofTrade_X4_needRange : GoodIn wsX4_ofTrade wsX4_needRange := goodIn_ca (goodIn_r _ [17, 18, 19] (by decide +kernel) (by decide +kernel)) (goodIn_sub (fun _ h => List.mem_cons_of_mem _ (List.mem_append_right _ h)) (by decide +kernel))
set_option maxRecDepth 20000 in
theorem gX4_ofTrade_X4_needRange : GoodIn wsX4_ofTrade (va_wsS RX4 92 yX4_needRange wsX4_needRange) := goodIn_app (goodIn_of _ (by decide +kernel)) ggX4_ofTrade_X4_needRange
set_option maxRecDepth 20000 in
theorem ggX4_ofTrade_X3_of : GoodIn wsX4_ofTrade wsX3_of := goodIn_r _ [23, 24, 25, 26, 27, 28, 29, 30, 31, 32, 33, 34, 35, 36, 46, 47, 48, 49, 50] (by decide +kernel) (by decide +kernel)
set_option maxRecDepth 20000 in
theorem gX4_ofTrade_X3_of : GoodIn wsX4_ofTrade (wsV RX4 117 RX3 yX3_of wsX3_of) := goodIn_app (goodIn_of _ (by decide +kernel)) ggX4_ofTrade_X3_of
theorem dX4_ofTrade_0 : decode cX4_ofTrade 0 = .ok (.aload_n 0, 1) := by decide +kernel
theorem dX4_ofTrade_1 : decode cX4_ofTrade 1 = .ok (.iload_n 1, 1) := by decide +kernel
theorem dX4_ofTrade_2 : decode cX4_ofTrade 2 = .ok (.invokevirtual 114, 3) := by decide +kernel
theorem dX4_ofTrade_5 : decode cX4_ofTrade 5 = .ok (.iload_n 2, 1) := by decide +kernel
theorem dX4_ofTrade_6 : decode cX4_ofTrade 6 = .ok (.iconst 0, 1) := by decide +kernel
theorem dX4_ofTrade_7 : decode cX4_ofTrade 7 = .ok (.iconst 5, 1) := by decide +kernel
theorem dX4_ofTrade_8 : decode cX4_ofTrade 8 = .ok (.invokestatic 92, 3) := by decide +kernel
theorem dX4_ofTrade_11 : decode cX4_ofTrade 11 = .ok (.aload_n 0, 1) := by decide +kernel
theorem dX4_ofTrade_12 : decode cX4_ofTrade 12 = .ok (.getfield 21, 3) := by decide +kernel
theorem dX4_ofTrade_15 : decode cX4_ofTrade 15 = .ok (.iload_n 1, 1) := by decide +kernel
theorem dX4_ofTrade_16 : decode cX4_ofTrade 16 = .ok (.iload_n 2, 1) := by decide +kernel
theorem dX4_ofTrade_17 : decode cX4_ofTrade 17 = .ok (.invokevirtual 117, 3) := by decide +kernel
theorem dX4_ofTrade_20 : decode cX4_ofTrade 20 = .ok (.ireturn, 1) := by decide +kernel
set_option maxRecDepth 20000 in
theorem ggX4_guaranteed_X4_needShopEver : GoodIn wsX4_guaranteed wsX4_needShopEver := goodIn_ca (goodIn_r _ [6, 7, 8, 9, 10, 11, 5, 12, 13, 26, 27, 28, 29, 30, 31, 32, 33, 34] (by decide +kernel) (by decide +kernel)) (goodIn_sub (fun _ h => List.mem_cons_of_mem _ (List.mem_append_right _ h)) (by decide +kernel))
set_option maxRecDepth 20000 in
theorem gX4_guaranteed_X4_needShopEver : GoodIn wsX4_guaranteed (wsV RX4 178 RX4 yX4_needShopEver wsX4_needShopEver) := goodIn_app (goodIn_of _ (by decide +kernel)) ggX4_guaranteed_X4_needShopEver
set_option maxRecDepth 20000 in
theorem ggX4_guaranteed_X2_get : GoodIn wsX4_guaranteed wsX2_get := goodIn_r _ [18, 19, 20, 21, 22, 17, 23, 24, 25, 35, 36, 37] (by decide +kernel) (by decide +kernel)
set_option maxRecDepth 20000 in
theorem gX4_guaranteed_X2_get : GoodIn wsX4_guaranteed (wsV RX4 145 RX2 yX2_get wsX2_get) := goodIn_app (goodIn_of _ (by decide +kernel)) ggX4_guaranteed_X2_get
theorem dX4_guaranteed_0 : decode cX4_guaranteed 0 = .ok (.aload_n 0, 1) := by decide +kernel
theorem dX4_guaranteed_1 : decode cX4_guaranteed 1 = .ok (.iload_n 1, 1) := by decide +kernel
theorem dX4_guaranteed_2 : decode cX4_guaranteed 2 = .ok (.invokevirtual 178, 3) := by decide +kernel
theorem dX4_guaranteed_5 : decode cX4_guaranteed 5 = .ok (.aload_n 0, 1) := by decide +kernel
theorem dX4_guaranteed_6 : decode cX4_guaranteed 6 = .ok (.iload_n 2, 1) := by decide +kernel
theorem dX4_guaranteed_7 : decode cX4_guaranteed 7 = .ok (.invokevirtual 178, 3) := by decide +kernel
theorem dX4_guaranteed_10 : decode cX4_guaranteed 10 = .ok (.aload_n 0, 1) := by decide +kernel
theorem dX4_guaranteed_11 : decode cX4_guaranteed 11 = .ok (.getfield 32, 3) := by decide +kernel
theorem dX4_guaranteed_14 : decode cX4_guaranteed 14 = .ok (.iload_n 1, 1) := by decide +kernel
theorem dX4_guaranteed_15 : decode cX4_guaranteed 15 = .ok (.iload_n 2, 1) := by decide +kernel
theorem dX4_guaranteed_16 : decode cX4_guaranteed 16 = .ok (.invokevirtual 145, 3) := by decide +kernel
theorem dX4_guaranteed_19 : decode cX4_guaranteed 19 = .ok (.ireturn, 1) := by decide +kernel
set_option maxRecDepth 20000 in
theorem ggX4_goods_X4_needShopEver : GoodIn wsX4_goods wsX4_needShopEver := goodIn_ca (goodIn_r _ [6, 7, 8, 9, 10, 11, 5, 12, 13, 26, 27, 28, 29, 30, 31, 32, 33, 34] (by decide +kernel) (by decide +kernel)) (goodIn_sub (fun _ h => List.mem_cons_of_mem _ (List.mem_append_right _ h)) (by decide +kernel))
set_option maxRecDepth 20000 in
theorem gX4_goods_X4_needShopEver : GoodIn wsX4_goods (wsV RX4 178 RX4 yX4_needShopEver wsX4_needShopEver) := goodIn_app (goodIn_of _ (by decide +kernel)) ggX4_goods_X4_needShopEver
set_option maxRecDepth 20000 in
theorem ggX4_goods_X2_get : GoodIn wsX4_goods wsX2_get := goodIn_r _ [18, 19, 20, 21, 22, 17, 23, 24, 25, 35, 36, 37] (by decide +kernel) (by decide +kernel)
set_option maxRecDepth 20000 in
theorem gX4_goods_X2_get : GoodIn wsX4_goods (wsV RX4 145 RX2 yX2_get wsX2_get) := goodIn_app (goodIn_of _ (by decide +kernel)) ggX4_goods_X2_get
theorem dX4_goods_0 : decode cX4_goods 0 = .ok (.aload_n 0, 1) := by decide +kernel
theorem dX4_goods_1 : decode cX4_goods 1 = .ok (.iload_n 1, 1) := by decide +kernel
theorem dX4_goods_2 : decode cX4_goods 2 = .ok (.invokevirtual 178, 3) := by decide +kernel
theorem dX4_goods_5 : decode cX4_goods 5 = .ok (.aload_n 0, 1) := by decide +kernel
theorem dX4_goods_6 : decode cX4_goods 6 = .ok (.getfield 14, 3) := by decide +kernel
theorem dX4_goods_9 : decode cX4_goods 9 = .ok (.iload_n 1, 1) := by decide +kernel
theorem dX4_goods_10 : decode cX4_goods 10 = .ok (.iconst 1, 1) := by decide +kernel
theorem dX4_goods_11 : decode cX4_goods 11 = .ok (.invokevirtual 145, 3) := by decide +kernel
theorem dX4_goods_14 : decode cX4_goods 14 = .ok (.ireturn, 1) := by decide +kernel
set_option maxRecDepth 20000 in
theorem ggX4_isIdle_X4_needShop : GoodIn wsX4_isIdle wsX4_needShop := goodIn_ca (goodIn_r _ [5, 6, 7, 8, 9, 10, 4, 11, 12, 13, 14, 15, 16, 17, 18, 19, 20, 21, 22, 23, 24, 25, 26, 27, 28, 29, 68, 69, 70, 71, 72, 73, 74, 75, 76, 77, 78, 79] (by decide +kernel) (by decide +kernel)) (goodIn_sub (fun _ h => List.mem_cons_of_mem _ (List.mem_append_right _ h)) (by decide +kernel))
set_option maxRecDepth 20000 in
theorem gX4_isIdle_X4_needShop : GoodIn wsX4_isIdle (wsV RX4 62 RX4 yX4_needShop wsX4_needShop) := goodIn_app (goodIn_of _ (by decide +kernel)) ggX4_isIdle_X4_needShop
set_option maxRecDepth 20000 in
theorem ggX4_isIdle_X4_isIdleShop : GoodIn wsX4_isIdle wsX4_isIdleShop := goodIn_r _ [33, 34, 35, 36, 37, 38, 39, 40, 41, 42, 43, 44, 45, 21, 46, 28, 47, 19, 20, 22, 23, 24, 25, 26, 27, 29, 48, 49, 50, 51, 52, 53, 54, 55, 56, 57, 58, 59, 60, 61, 62, 63, 64, 65, 66, 67, 68, 69, 70, 71, 72, 73, 74, 75, 76, 80, 81, 77, 78, 79, 82, 83] (by decide +kernel) (by decide +kernel)
set_option maxRecDepth 20000 in
theorem gX4_isIdle_X4_isIdleShop : GoodIn wsX4_isIdle (wsV RX4 187 RX4 yX4_isIdleShop wsX4_isIdleShop) := goodIn_app (goodIn_of _ (by decide +kernel)) ggX4_isIdle_X4_isIdleShop
theorem dX4_isIdle_0 : decode cX4_isIdle 0 = .ok (.aload_n 0, 1) := by decide +kernel
theorem dX4_isIdle_1 : decode cX4_isIdle 1 = .ok (.iload_n 1, 1) := by decide +kernel
theorem dX4_isIdle_2 : decode cX4_isIdle 2 = .ok (.invokevirtual 62, 3) := by decide +kernel
theorem dX4_isIdle_5 : decode cX4_isIdle 5 = .ok (.aload_n 0, 1) := by decide +kernel
theorem dX4_isIdle_6 : decode cX4_isIdle 6 = .ok (.iload_n 1, 1) := by decide +kernel
theorem dX4_isIdle_7 : decode cX4_isIdle 7 = .ok (.invokevirtual 187, 3) := by decide +kernel
theorem dX4_isIdle_10 : decode cX4_isIdle 10 = .ok (.ireturn, 1) := by decide +kernel
set_option maxRecDepth 20000 in
theorem ggX4_rings_X1_size : GoodIn wsX4_rings wsX1_size := goodIn_r _ [6, 7, 17, 18] (by decide +kernel) (by decide +kernel)
set_option maxRecDepth 20000 in
theorem gX4_rings_X1_size : GoodIn wsX4_rings (wsV RX4 190 RX1 yX1_size wsX1_size) := goodIn_app (goodIn_of _ (by decide +kernel)) ggX4_rings_X1_size
theorem dX4_rings_0 : decode cX4_rings 0 = .ok (.aload_n 0, 1) := by decide +kernel
theorem dX4_rings_1 : decode cX4_rings 1 = .ok (.getfield 41, 3) := by decide +kernel
theorem dX4_rings_4 : decode cX4_rings 4 = .ok (.invokevirtual 190, 3) := by decide +kernel
theorem dX4_rings_7 : decode cX4_rings 7 = .ok (.ireturn, 1) := by decide +kernel
set_option maxRecDepth 20000 in
theorem ggX4_ring_X1_size : GoodIn wsX4_ring wsX1_size := goodIn_r _ [8, 9, 42, 43] (by decide +kernel) (by decide +kernel)
set_option maxRecDepth 20000 in
theorem gX4_ring_X1_size : GoodIn wsX4_ring (wsV RX4 190 RX1 yX1_size wsX1_size) := goodIn_app (goodIn_of _ (by decide +kernel)) ggX4_ring_X1_size
set_option maxRecDepth 20000 in
theorem ggX4_ring_X4_needRange : GoodIn wsX4_ring wsX4_needRange := goodIn_ca (goodIn_r _ [13, 14, 15] (by decide +kernel) (by decide +kernel)) (goodIn_sub (fun _ h => List.mem_cons_of_mem _ (List.mem_append_right _ h)) (by decide +kernel))
set_option maxRecDepth 20000 in
theorem gX4_ring_X4_needRange : GoodIn wsX4_ring (va_wsS RX4 92 yX4_needRange wsX4_needRange) := goodIn_app (goodIn_of _ (by decide +kernel)) ggX4_ring_X4_needRange
set_option maxRecDepth 20000 in
theorem ggX4_ring_X1_of : GoodIn wsX4_ring wsX1_of := goodIn_r _ [19, 20, 21, 22, 23, 24, 25, 26, 27, 28, 29, 30, 31, 32, 42, 43, 44, 45, 46] (by decide +kernel) (by decide +kernel)
set_option maxRecDepth 20000 in
theorem gX4_ring_X1_of : GoodIn wsX4_ring (wsV RX4 199 RX1 yX1_of wsX1_of) := goodIn_app (goodIn_of _ (by decide +kernel)) ggX4_ring_X1_of
theorem dX4_ring_0 : decode cX4_ring 0 = .ok (.iload_n 1, 1) := by decide +kernel
theorem dX4_ring_1 : decode cX4_ring 1 = .ok (.ifCond .lt 14, 3) := by decide +kernel
theorem dX4_ring_4 : decode cX4_ring 4 = .ok (.iload_n 1, 1) := by decide +kernel
theorem dX4_ring_5 : decode cX4_ring 5 = .ok (.aload_n 0, 1) := by decide +kernel
theorem dX4_ring_6 : decode cX4_ring 6 = .ok (.getfield 41, 3) := by decide +kernel
theorem dX4_ring_9 : decode cX4_ring 9 = .ok (.invokevirtual 190, 3) := by decide +kernel
theorem dX4_ring_12 : decode cX4_ring 12 = .ok (.if_icmp .lt 13, 3) := by decide +kernel
theorem dX4_ring_15 : decode cX4_ring 15 = .ok (.new 194, 3) := by decide +kernel
theorem dX4_ring_18 : decode cX4_ring 18 = .ok (.dup, 1) := by decide +kernel
theorem dX4_ring_19 : decode cX4_ring 19 = .ok (.ldc 196, 2) := by decide +kernel
theorem dX4_ring_21 : decode cX4_ring 21 = .ok (.invokespecial 198, 3) := by decide +kernel
theorem dX4_ring_24 : decode cX4_ring 24 = .ok (.athrow, 1) := by decide +kernel
theorem dX4_ring_25 : decode cX4_ring 25 = .ok (.iload_n 2, 1) := by decide +kernel
theorem dX4_ring_26 : decode cX4_ring 26 = .ok (.iconst 0, 1) := by decide +kernel
theorem dX4_ring_27 : decode cX4_ring 27 = .ok (.bipush 6, 2) := by decide +kernel
theorem dX4_ring_29 : decode cX4_ring 29 = .ok (.invokestatic 92, 3) := by decide +kernel
theorem dX4_ring_32 : decode cX4_ring 32 = .ok (.aload_n 0, 1) := by decide +kernel
theorem dX4_ring_33 : decode cX4_ring 33 = .ok (.getfield 41, 3) := by decide +kernel
theorem dX4_ring_36 : decode cX4_ring 36 = .ok (.iload_n 1, 1) := by decide +kernel
theorem dX4_ring_37 : decode cX4_ring 37 = .ok (.iload_n 2, 1) := by decide +kernel
theorem dX4_ring_38 : decode cX4_ring 38 = .ok (.invokevirtual 199, 3) := by decide +kernel
theorem dX4_ring_41 : decode cX4_ring 41 = .ok (.ireturn, 1) := by decide +kernel
theorem dX4_wasShop_0 : decode cX4_wasShop 0 = .ok (.iload_n 1, 1) := by decide +kernel
theorem dX4_wasShop_1 : decode cX4_wasShop 1 = .ok (.ifCond .lt 15, 3) := by decide +kernel
theorem dX4_wasShop_4 : decode cX4_wasShop 4 = .ok (.iload_n 1, 1) := by decide +kernel
theorem dX4_wasShop_5 : decode cX4_wasShop 5 = .ok (.aload_n 0, 1) := by decide +kernel
theorem dX4_wasShop_6 : decode cX4_wasShop 6 = .ok (.getfield 45, 3) := by decide +kernel
theorem dX4_wasShop_9 : decode cX4_wasShop 9 = .ok (.if_icmp .ge 7, 3) := by decide +kernel
theorem dX4_wasShop_12 : decode cX4_wasShop 12 = .ok (.iconst 1, 1) := by decide +kernel
theorem dX4_wasShop_13 : decode cX4_wasShop 13 = .ok (.goto 4, 3) := by decide +kernel
theorem dX4_wasShop_16 : decode cX4_wasShop 16 = .ok (.iconst 0, 1) := by decide +kernel
theorem dX4_wasShop_17 : decode cX4_wasShop 17 = .ok (.ireturn, 1) := by decide +kernel
set_option maxRecDepth 20000 in
theorem ggX4_isShop_X4_wasShop : GoodIn wsX4_isShop wsX4_wasShop := goodIn_r _ [6, 7, 20, 21, 22, 23, 24, 25, 26, 27, 28] (by decide +kernel) (by decide +kernel)
set_option maxRecDepth 20000 in
theorem gX4_isShop_X4_wasShop : GoodIn wsX4_isShop (wsV RX4 200 RX4 yX4_wasShop wsX4_wasShop) := goodIn_app (goodIn_of _ (by decide +kernel)) ggX4_isShop_X4_wasShop
set_option maxRecDepth 20000 in
theorem ggX4_isShop_X2_get : GoodIn wsX4_isShop wsX2_get := goodIn_r _ [12, 13, 14, 15, 16, 11, 17, 18, 19, 29, 30, 31] (by decide +kernel) (by decide +kernel)
set_option maxRecDepth 20000 in
theorem gX4_isShop_X2_get : GoodIn wsX4_isShop (wsV RX4 145 RX2 yX2_get wsX2_get) := goodIn_app (goodIn_of _ (by decide +kernel)) ggX4_isShop_X2_get
theorem dX4_isShop_0 : decode cX4_isShop 0 = .ok (.aload_n 0, 1) := by decide +kernel
theorem dX4_isShop_1 : decode cX4_isShop 1 = .ok (.iload_n 1, 1) := by decide +kernel
theorem dX4_isShop_2 : decode cX4_isShop 2 = .ok (.invokevirtual 200, 3) := by decide +kernel
theorem dX4_isShop_5 : decode cX4_isShop 5 = .ok (.ifCond .eq 19, 3) := by decide +kernel
theorem dX4_isShop_8 : decode cX4_isShop 8 = .ok (.aload_n 0, 1) := by decide +kernel
theorem dX4_isShop_9 : decode cX4_isShop 9 = .ok (.getfield 14, 3) := by decide +kernel
theorem dX4_isShop_12 : decode cX4_isShop 12 = .ok (.iload_n 1, 1) := by decide +kernel
theorem dX4_isShop_13 : decode cX4_isShop 13 = .ok (.iconst 0, 1) := by decide +kernel
theorem dX4_isShop_14 : decode cX4_isShop 14 = .ok (.invokevirtual 145, 3) := by decide +kernel
theorem dX4_isShop_17 : decode cX4_isShop 17 = .ok (.ifCond .ne 7, 3) := by decide +kernel
theorem dX4_isShop_20 : decode cX4_isShop 20 = .ok (.iconst 1, 1) := by decide +kernel
theorem dX4_isShop_21 : decode cX4_isShop 21 = .ok (.goto 4, 3) := by decide +kernel
theorem dX4_isShop_24 : decode cX4_isShop 24 = .ok (.iconst 0, 1) := by decide +kernel
theorem dX4_isShop_25 : decode cX4_isShop 25 = .ok (.ireturn, 1) := by decide +kernel
set_option maxRecDepth 20000 in
theorem ggX4_needShop_X4_isShop : GoodIn wsX4_needShop wsX4_isShop := goodIn_r _ [7, 8, 9, 10, 11, 6, 12, 13, 14, 15, 16, 17, 18, 19, 20, 21, 22, 23, 24, 25, 26, 27, 28, 29, 30, 31, 32, 33, 34, 35, 36, 37] (by decide +kernel) (by decide +kernel)
set_option maxRecDepth 20000 in
theorem gX4_needShop_X4_isShop : GoodIn wsX4_needShop (wsV RX4 121 RX4 yX4_isShop wsX4_isShop) := goodIn_app (goodIn_of _ (by decide +kernel)) ggX4_needShop_X4_isShop
theorem dX4_needShop_0 : decode cX4_needShop 0 = .ok (.aload_n 0, 1) := by decide +kernel
theorem dX4_needShop_1 : decode cX4_needShop 1 = .ok (.iload_n 1, 1) := by decide +kernel
theorem dX4_needShop_2 : decode cX4_needShop 2 = .ok (.invokevirtual 121, 3) := by decide +kernel
theorem dX4_needShop_5 : decode cX4_needShop 5 = .ok (.ifCond .ne 13, 3) := by decide +kernel
theorem dX4_needShop_8 : decode cX4_needShop 8 = .ok (.new 194, 3) := by decide +kernel
theorem dX4_needShop_11 : decode cX4_needShop 11 = .ok (.dup, 1) := by decide +kernel
theorem dX4_needShop_12 : decode cX4_needShop 12 = .ok (.ldc 203, 2) := by decide +kernel
theorem dX4_needShop_14 : decode cX4_needShop 14 = .ok (.invokespecial 198, 3) := by decide +kernel
theorem dX4_needShop_17 : decode cX4_needShop 17 = .ok (.athrow, 1) := by decide +kernel
theorem dX4_needShop_18 : decode cX4_needShop 18 = .ok (.return_, 1) := by decide +kernel
set_option maxRecDepth 20000 in
theorem ggX4_needShopEver_X4_wasShop : GoodIn wsX4_needShopEver wsX4_wasShop := goodIn_r _ [7, 8, 9, 10, 11, 12, 13, 14, 15, 16, 17] (by decide +kernel) (by decide +kernel)
set_option maxRecDepth 20000 in
theorem gX4_needShopEver_X4_wasShop : GoodIn wsX4_needShopEver (wsV RX4 200 RX4 yX4_wasShop wsX4_wasShop) := goodIn_app (goodIn_of _ (by decide +kernel)) ggX4_needShopEver_X4_wasShop
theorem dX4_needShopEver_0 : decode cX4_needShopEver 0 = .ok (.aload_n 0, 1) := by decide +kernel
theorem dX4_needShopEver_1 : decode cX4_needShopEver 1 = .ok (.iload_n 1, 1) := by decide +kernel
theorem dX4_needShopEver_2 : decode cX4_needShopEver 2 = .ok (.invokevirtual 200, 3) := by decide +kernel
theorem dX4_needShopEver_5 : decode cX4_needShopEver 5 = .ok (.ifCond .ne 13, 3) := by decide +kernel
theorem dX4_needShopEver_8 : decode cX4_needShopEver 8 = .ok (.new 194, 3) := by decide +kernel
theorem dX4_needShopEver_11 : decode cX4_needShopEver 11 = .ok (.dup, 1) := by decide +kernel
theorem dX4_needShopEver_12 : decode cX4_needShopEver 12 = .ok (.ldc 205, 2) := by decide +kernel
theorem dX4_needShopEver_14 : decode cX4_needShopEver 14 = .ok (.invokespecial 198, 3) := by decide +kernel
theorem dX4_needShopEver_17 : decode cX4_needShopEver 17 = .ok (.athrow, 1) := by decide +kernel
theorem dX4_needShopEver_18 : decode cX4_needShopEver 18 = .ok (.return_, 1) := by decide +kernel
set_option maxRecDepth 20000 in
theorem ggX4_needShopEverOrHouse_X4_needShopEver : GoodIn wsX4_needShopEverOrHouse wsX4_needShopEver := goodIn_ca (goodIn_r _ [5, 6, 7, 8, 9, 10, 4, 11, 12, 13, 14, 15, 16, 17, 18, 19, 20, 21] (by decide +kernel) (by decide +kernel)) (goodIn_sub (fun _ h => List.mem_cons_of_mem _ (List.mem_append_right _ h)) (by decide +kernel))
set_option maxRecDepth 20000 in
theorem gX4_needShopEverOrHouse_X4_needShopEver : GoodIn wsX4_needShopEverOrHouse (wsV RX4 178 RX4 yX4_needShopEver wsX4_needShopEver) := goodIn_app (goodIn_of _ (by decide +kernel)) ggX4_needShopEverOrHouse_X4_needShopEver
theorem dX4_needShopEverOrHouse_0 : decode cX4_needShopEverOrHouse 0 = .ok (.iload_n 1, 1) := by decide +kernel
theorem dX4_needShopEverOrHouse_1 : decode cX4_needShopEverOrHouse 1 = .ok (.bipush 8, 2) := by decide +kernel
theorem dX4_needShopEverOrHouse_3 : decode cX4_needShopEverOrHouse 3 = .ok (.if_icmp .eq 8, 3) := by decide +kernel
theorem dX4_needShopEverOrHouse_6 : decode cX4_needShopEverOrHouse 6 = .ok (.aload_n 0, 1) := by decide +kernel
theorem dX4_needShopEverOrHouse_7 : decode cX4_needShopEverOrHouse 7 = .ok (.iload_n 1, 1) := by decide +kernel
theorem dX4_needShopEverOrHouse_8 : decode cX4_needShopEverOrHouse 8 = .ok (.invokevirtual 178, 3) := by decide +kernel
theorem dX4_needShopEverOrHouse_11 : decode cX4_needShopEverOrHouse 11 = .ok (.return_, 1) := by decide +kernel
set_option maxRecDepth 20000 in
theorem ggX4_needTrade_X3_has : GoodIn wsX4_needTrade wsX3_has := goodIn_r _ [8, 9, 19, 20] (by decide +kernel) (by decide +kernel)
set_option maxRecDepth 20000 in
theorem gX4_needTrade_X3_has : GoodIn wsX4_needTrade (wsV RX4 207 RX3 yX3_has wsX3_has) := goodIn_app (goodIn_of _ (by decide +kernel)) ggX4_needTrade_X3_has
theorem dX4_needTrade_0 : decode cX4_needTrade 0 = .ok (.aload_n 0, 1) := by decide +kernel
theorem dX4_needTrade_1 : decode cX4_needTrade 1 = .ok (.getfield 21, 3) := by decide +kernel
theorem dX4_needTrade_4 : decode cX4_needTrade 4 = .ok (.iload_n 1, 1) := by decide +kernel
theorem dX4_needTrade_5 : decode cX4_needTrade 5 = .ok (.invokevirtual 207, 3) := by decide +kernel
theorem dX4_needTrade_8 : decode cX4_needTrade 8 = .ok (.ifCond .ne 13, 3) := by decide +kernel
theorem dX4_needTrade_11 : decode cX4_needTrade 11 = .ok (.new 194, 3) := by decide +kernel
theorem dX4_needTrade_14 : decode cX4_needTrade 14 = .ok (.dup, 1) := by decide +kernel
theorem dX4_needTrade_15 : decode cX4_needTrade 15 = .ok (.ldc 210, 2) := by decide +kernel
theorem dX4_needTrade_17 : decode cX4_needTrade 17 = .ok (.invokespecial 198, 3) := by decide +kernel
theorem dX4_needTrade_20 : decode cX4_needTrade 20 = .ok (.athrow, 1) := by decide +kernel
theorem dX4_needTrade_21 : decode cX4_needTrade 21 = .ok (.return_, 1) := by decide +kernel
theorem dX4_needRange_0 : decode cX4_needRange 0 = .ok (.iload_n 0, 1) := by decide +kernel
theorem dX4_needRange_1 : decode cX4_needRange 1 = .ok (.iload_n 1, 1) := by decide +kernel
theorem dX4_needRange_2 : decode cX4_needRange 2 = .ok (.if_icmp .lt 8, 3) := by decide +kernel
theorem dX4_needRange_5 : decode cX4_needRange 5 = .ok (.iload_n 0, 1) := by decide +kernel
theorem dX4_needRange_6 : decode cX4_needRange 6 = .ok (.iload_n 2, 1) := by decide +kernel
theorem dX4_needRange_7 : decode cX4_needRange 7 = .ok (.if_icmp .le 13, 3) := by decide +kernel
theorem dX4_needRange_10 : decode cX4_needRange 10 = .ok (.new 212, 3) := by decide +kernel
theorem dX4_needRange_13 : decode cX4_needRange 13 = .ok (.dup, 1) := by decide +kernel
theorem dX4_needRange_14 : decode cX4_needRange 14 = .ok (.ldc 214, 2) := by decide +kernel
theorem dX4_needRange_16 : decode cX4_needRange 16 = .ok (.invokespecial 216, 3) := by decide +kernel
theorem dX4_needRange_19 : decode cX4_needRange 19 = .ok (.athrow, 1) := by decide +kernel
theorem dX4_needRange_20 : decode cX4_needRange 20 = .ok (.return_, 1) := by decide +kernel
theorem dX4_needUnlike_0 : decode cX4_needUnlike 0 = .ok (.iload_n 0, 1) := by decide +kernel
theorem dX4_needUnlike_1 : decode cX4_needUnlike 1 = .ok (.iload_n 1, 1) := by decide +kernel
theorem dX4_needUnlike_2 : decode cX4_needUnlike 2 = .ok (.if_icmp .ne 13, 3) := by decide +kernel
theorem dX4_needUnlike_5 : decode cX4_needUnlike 5 = .ok (.new 212, 3) := by decide +kernel
theorem dX4_needUnlike_8 : decode cX4_needUnlike 8 = .ok (.dup, 1) := by decide +kernel
theorem dX4_needUnlike_9 : decode cX4_needUnlike 9 = .ok (.ldc 217, 2) := by decide +kernel
theorem dX4_needUnlike_11 : decode cX4_needUnlike 11 = .ok (.invokespecial 216, 3) := by decide +kernel
theorem dX4_needUnlike_14 : decode cX4_needUnlike 14 = .ok (.athrow, 1) := by decide +kernel
theorem dX4_needUnlike_15 : decode cX4_needUnlike 15 = .ok (.return_, 1) := by decide +kernel
set_option maxRecDepth 20000 in
theorem ggX4_needGuaranteeArguments_X4_needShop : GoodIn wsX4_needGuaranteeArguments wsX4_needShop := goodIn_ca (goodIn_r _ [5, 6, 7, 8, 9, 10, 4, 11, 12, 13, 14, 15, 16, 17, 18, 19, 20, 21, 22, 23, 24, 25, 26, 27, 28, 29, 38, 39, 40, 41, 42, 43, 44, 45, 46, 47, 48, 49] (by decide +kernel) (by decide +kernel)) (goodIn_sub (fun _ h => List.mem_cons_of_mem _ (List.mem_append_left _ (List.mem_append_right _ h))) (by decide +kernel))
set_option maxRecDepth 20000 in
theorem gX4_needGuaranteeArguments_X4_needShop : GoodIn wsX4_needGuaranteeArguments (wsV RX4 62 RX4 yX4_needShop wsX4_needShop) := goodIn_app (goodIn_of _ (by decide +kernel)) ggX4_needGuaranteeArguments_X4_needShop
set_option maxRecDepth 20000 in
theorem ggX4_needGuaranteeArguments_X4_needRange : GoodIn wsX4_needGuaranteeArguments wsX4_needRange := goodIn_ca (goodIn_r _ [32, 33, 34] (by decide +kernel) (by decide +kernel)) (goodIn_sub (fun _ h => List.mem_cons_of_mem _ (List.mem_append_right _ h)) (by decide +kernel))
set_option maxRecDepth 20000 in
theorem gX4_needGuaranteeArguments_X4_needRange : GoodIn wsX4_needGuaranteeArguments (va_wsS RX4 92 yX4_needRange wsX4_needRange) := goodIn_app (goodIn_of _ (by decide +kernel)) ggX4_needGuaranteeArguments_X4_needRange
set_option maxRecDepth 20000 in
theorem ggX4_needGuaranteeArguments_X4_needUnlike : GoodIn wsX4_needGuaranteeArguments wsX4_needUnlike := goodIn_ca (goodIn_r _ [37, 33, 34] (by decide +kernel) (by decide +kernel)) (goodIn_sub (fun _ h => List.mem_cons_of_mem _ (List.mem_append_right _ h)) (by decide +kernel))
set_option maxRecDepth 20000 in
theorem gX4_needGuaranteeArguments_X4_needUnlike : GoodIn wsX4_needGuaranteeArguments (va_wsS RX4 95 yX4_needUnlike wsX4_needUnlike) := goodIn_app (goodIn_of _ (by decide +kernel)) ggX4_needGuaranteeArguments_X4_needUnlike
theorem dX4_needGuaranteeArguments_0 : decode cX4_needGuaranteeArguments 0 = .ok (.aload_n 0, 1) := by decide +kernel
theorem dX4_needGuaranteeArguments_1 : decode cX4_needGuaranteeArguments 1 = .ok (.iload_n 1, 1) := by decide +kernel
theorem dX4_needGuaranteeArguments_2 : decode cX4_needGuaranteeArguments 2 = .ok (.invokevirtual 62, 3) := by decide +kernel
theorem dX4_needGuaranteeArguments_5 : decode cX4_needGuaranteeArguments 5 = .ok (.aload_n 0, 1) := by decide +kernel
theorem dX4_needGuaranteeArguments_6 : decode cX4_needGuaranteeArguments 6 = .ok (.iload_n 2, 1) := by decide +kernel
theorem dX4_needGuaranteeArguments_7 : decode cX4_needGuaranteeArguments 7 = .ok (.invokevirtual 62, 3) := by decide +kernel
theorem dX4_needGuaranteeArguments_10 : decode cX4_needGuaranteeArguments 10 = .ok (.iload_n 3, 1) := by decide +kernel
theorem dX4_needGuaranteeArguments_11 : decode cX4_needGuaranteeArguments 11 = .ok (.iconst 1, 1) := by decide +kernel
theorem dX4_needGuaranteeArguments_12 : decode cX4_needGuaranteeArguments 12 = .ok (.sipush 500, 3) := by decide +kernel
theorem dX4_needGuaranteeArguments_15 : decode cX4_needGuaranteeArguments 15 = .ok (.invokestatic 92, 3) := by decide +kernel
theorem dX4_needGuaranteeArguments_18 : decode cX4_needGuaranteeArguments 18 = .ok (.iload_n 1, 1) := by decide +kernel
theorem dX4_needGuaranteeArguments_19 : decode cX4_needGuaranteeArguments 19 = .ok (.iload_n 2, 1) := by decide +kernel
theorem dX4_needGuaranteeArguments_20 : decode cX4_needGuaranteeArguments 20 = .ok (.invokestatic 95, 3) := by decide +kernel
theorem dX4_needGuaranteeArguments_23 : decode cX4_needGuaranteeArguments 23 = .ok (.return_, 1) := by decide +kernel
set_option maxRecDepth 20000 in
theorem ggX4_needBearable_X0_balanceOf : GoodIn wsX4_needBearable wsX0_balanceOf := goodIn_r _ [8, 9, 10, 11, 12, 13, 14, 15, 16, 17, 18, 19, 20, 21, 22, 23, 24, 25, 26, 27, 28, 29, 65, 66, 67, 68, 69] (by decide +kernel) (by decide +kernel)
set_option maxRecDepth 20000 in
theorem gX4_needBearable_X0_balanceOf : GoodIn wsX4_needBearable (wsV RX4 165 RX0 yX0_balanceOf wsX0_balanceOf) := goodIn_app (goodIn_of _ (by decide +kernel)) ggX4_needBearable_X0_balanceOf
set_option maxRecDepth 20000 in
theorem ggX4_needBearable_X4_limitOf : GoodIn wsX4_needBearable wsX4_limitOf := goodIn_r _ [34, 35, 36, 37, 38, 39, 40, 41, 42, 43, 44, 45, 46, 47, 48, 49, 50, 51, 52, 53, 17, 18, 13, 19, 20, 21, 22, 23, 24, 15, 25, 54, 11, 12, 14, 16, 55, 27, 28, 29, 56, 57, 58, 59, 60, 61, 62, 63, 64, 70, 71, 67, 68, 69] (by decide +kernel) (by decide +kernel)
set_option maxRecDepth 20000 in
theorem gX4_needBearable_X4_limitOf : GoodIn wsX4_needBearable (wsV RX4 175 RX4 yX4_limitOf wsX4_limitOf) := goodIn_app (goodIn_of _ (by decide +kernel)) ggX4_needBearable_X4_limitOf
theorem dX4_needBearable_0 : decode cX4_needBearable 0 = .ok (.aload_n 0, 1) := by decide +kernel
theorem dX4_needBearable_1 : decode cX4_needBearable 1 = .ok (.getfield 28, 3) := by decide +kernel
theorem dX4_needBearable_4 : decode cX4_needBearable 4 = .ok (.iload_n 1, 1) := by decide +kernel
theorem dX4_needBearable_5 : decode cX4_needBearable 5 = .ok (.invokevirtual 165, 3) := by decide +kernel
theorem dX4_needBearable_8 : decode cX4_needBearable 8 = .ok (.aload_n 0, 1) := by decide +kernel
theorem dX4_needBearable_9 : decode cX4_needBearable 9 = .ok (.iload_n 1, 1) := by decide +kernel
theorem dX4_needBearable_10 : decode cX4_needBearable 10 = .ok (.invokevirtual 175, 3) := by decide +kernel
theorem dX4_needBearable_13 : decode cX4_needBearable 13 = .ok (.iadd, 1) := by decide +kernel
theorem dX4_needBearable_14 : decode cX4_needBearable 14 = .ok (.iload_n 2, 1) := by decide +kernel
theorem dX4_needBearable_15 : decode cX4_needBearable 15 = .ok (.isub, 1) := by decide +kernel
theorem dX4_needBearable_16 : decode cX4_needBearable 16 = .ok (.ifCond .ge 13, 3) := by decide +kernel
theorem dX4_needBearable_19 : decode cX4_needBearable 19 = .ok (.new 55, 3) := by decide +kernel
theorem dX4_needBearable_22 : decode cX4_needBearable 22 = .ok (.dup, 1) := by decide +kernel
theorem dX4_needBearable_23 : decode cX4_needBearable 23 = .ok (.ldc 219, 2) := by decide +kernel
theorem dX4_needBearable_25 : decode cX4_needBearable 25 = .ok (.invokespecial 59, 3) := by decide +kernel
theorem dX4_needBearable_28 : decode cX4_needBearable 28 = .ok (.athrow, 1) := by decide +kernel
theorem dX4_needBearable_29 : decode cX4_needBearable 29 = .ok (.return_, 1) := by decide +kernel
set_option maxRecDepth 20000 in
theorem ggX4_limitOf_X3_amountsSince : GoodIn wsX4_limitOf wsX3_amountsSince := goodIn_r _ [8, 9, 10, 11, 12, 7, 13, 14, 15, 16, 17, 18, 19, 20, 21, 22, 23, 24, 25, 26, 27, 28, 29, 30, 49, 50, 51, 52, 53] (by decide +kernel) (by decide +kernel)
set_option maxRecDepth 20000 in
theorem gX4_limitOf_X3_amountsSince : GoodIn wsX4_limitOf (wsV RX4 221 RX3 yX3_amountsSince wsX3_amountsSince) := goodIn_app (goodIn_of _ (by decide +kernel)) ggX4_limitOf_X3_amountsSince
set_option maxRecDepth 20000 in
theorem ggX4_limitOf_X2_columnSum : GoodIn wsX4_limitOf wsX2_columnSum := goodIn_r _ [34, 29, 35, 20, 21, 22, 23, 24, 25, 26, 27, 28, 30, 51, 52, 53] (by decide +kernel) (by decide +kernel)
set_option maxRecDepth 20000 in
theorem gX4_limitOf_X2_columnSum : GoodIn wsX4_limitOf (wsV RX4 169 RX2 yX2_columnSum wsX2_columnSum) := goodIn_app (goodIn_of _ (by decide +kernel)) ggX4_limitOf_X2_columnSum
set_option maxRecDepth 20000 in
theorem ggX4_limitOf_X2_rowSum : GoodIn wsX4_limitOf wsX2_rowSum := goodIn_r _ [39, 30, 35, 20, 21, 22, 23, 24, 25, 26, 27, 28, 29, 51, 52, 53] (by decide +kernel) (by decide +kernel)
set_option maxRecDepth 20000 in
theorem gX4_limitOf_X2_rowSum : GoodIn wsX4_limitOf (wsV RX4 172 RX2 yX2_rowSum wsX2_rowSum) := goodIn_app (goodIn_of _ (by decide +kernel)) ggX4_limitOf_X2_rowSum
theorem dX4_limitOf_0 : decode cX4_limitOf 0 = .ok (.aload_n 0, 1) := by decide +kernel
theorem dX4_limitOf_1 : decode cX4_limitOf 1 = .ok (.getfield 21, 3) := by decide +kernel
theorem dX4_limitOf_4 : decode cX4_limitOf 4 = .ok (.iload_n 1, 1) := by decide +kernel
theorem dX4_limitOf_5 : decode cX4_limitOf 5 = .ok (.aload_n 0, 1) := by decide +kernel
theorem dX4_limitOf_6 : decode cX4_limitOf 6 = .ok (.getfield 49, 3) := by decide +kernel
theorem dX4_limitOf_9 : decode cX4_limitOf 9 = .ok (.bipush 10, 2) := by decide +kernel
theorem dX4_limitOf_11 : decode cX4_limitOf 11 = .ok (.isub, 1) := by decide +kernel
theorem dX4_limitOf_12 : decode cX4_limitOf 12 = .ok (.iconst 1, 1) := by decide +kernel
theorem dX4_limitOf_13 : decode cX4_limitOf 13 = .ok (.iadd, 1) := by decide +kernel
theorem dX4_limitOf_14 : decode cX4_limitOf 14 = .ok (.invokevirtual 221, 3) := by decide +kernel
theorem dX4_limitOf_17 : decode cX4_limitOf 17 = .ok (.istore_n 2, 1) := by decide +kernel
theorem dX4_limitOf_18 : decode cX4_limitOf 18 = .ok (.sipush 500, 3) := by decide +kernel
theorem dX4_limitOf_21 : decode cX4_limitOf 21 = .ok (.aload_n 0, 1) := by decide +kernel
theorem dX4_limitOf_22 : decode cX4_limitOf 22 = .ok (.getfield 32, 3) := by decide +kernel
theorem dX4_limitOf_25 : decode cX4_limitOf 25 = .ok (.iload_n 1, 1) := by decide +kernel
theorem dX4_limitOf_26 : decode cX4_limitOf 26 = .ok (.invokevirtual 169, 3) := by decide +kernel
theorem dX4_limitOf_29 : decode cX4_limitOf 29 = .ok (.iadd, 1) := by decide +kernel
theorem dX4_limitOf_30 : decode cX4_limitOf 30 = .ok (.aload_n 0, 1) := by decide +kernel
theorem dX4_limitOf_31 : decode cX4_limitOf 31 = .ok (.getfield 32, 3) := by decide +kernel
theorem dX4_limitOf_34 : decode cX4_limitOf 34 = .ok (.iload_n 1, 1) := by decide +kernel
theorem dX4_limitOf_35 : decode cX4_limitOf 35 = .ok (.invokevirtual 172, 3) := by decide +kernel
theorem dX4_limitOf_38 : decode cX4_limitOf 38 = .ok (.isub, 1) := by decide +kernel
theorem dX4_limitOf_39 : decode cX4_limitOf 39 = .ok (.iload_n 2, 1) := by decide +kernel
theorem dX4_limitOf_40 : decode cX4_limitOf 40 = .ok (.bipush 10, 2) := by decide +kernel
theorem dX4_limitOf_42 : decode cX4_limitOf 42 = .ok (.idiv, 1) := by decide +kernel
theorem dX4_limitOf_43 : decode cX4_limitOf 43 = .ok (.iadd, 1) := by decide +kernel
theorem dX4_limitOf_44 : decode cX4_limitOf 44 = .ok (.ireturn, 1) := by decide +kernel
set_option maxRecDepth 20000 in
theorem ggX4_isIdleShop_X0_balanceOf : GoodIn wsX4_isIdleShop wsX0_balanceOf := goodIn_r _ [8, 9, 10, 11, 12, 13, 14, 15, 16, 17, 18, 19, 20, 21, 22, 23, 24, 25, 26, 27, 28, 29, 55, 56, 57, 58, 59] (by decide +kernel) (by decide +kernel)
set_option maxRecDepth 20000 in
theorem gX4_isIdleShop_X0_balanceOf : GoodIn wsX4_isIdleShop (wsV RX4 165 RX0 yX0_balanceOf wsX0_balanceOf) := goodIn_app (goodIn_of _ (by decide +kernel)) ggX4_isIdleShop_X0_balanceOf
set_option maxRecDepth 20000 in
theorem ggX4_isIdleShop_X3_hasSince : GoodIn wsX4_isIdleShop wsX3_hasSince := goodIn_r _ [34, 35, 36, 37, 38, 33, 39, 40, 41, 42, 43, 44, 45, 17, 18, 13, 19, 20, 21, 22, 23, 24, 15, 25, 60, 61, 57, 58, 59] (by decide +kernel) (by decide +kernel)
set_option maxRecDepth 20000 in
theorem gX4_isIdleShop_X3_hasSince : GoodIn wsX4_isIdleShop (wsV RX4 224 RX3 yX3_hasSince wsX3_hasSince) := goodIn_app (goodIn_of _ (by decide +kernel)) ggX4_isIdleShop_X3_hasSince
theorem dX4_isIdleShop_0 : decode cX4_isIdleShop 0 = .ok (.aload_n 0, 1) := by decide +kernel
theorem dX4_isIdleShop_1 : decode cX4_isIdleShop 1 = .ok (.getfield 28, 3) := by decide +kernel
theorem dX4_isIdleShop_4 : decode cX4_isIdleShop 4 = .ok (.iload_n 1, 1) := by decide +kernel
theorem dX4_isIdleShop_5 : decode cX4_isIdleShop 5 = .ok (.invokevirtual 165, 3) := by decide +kernel
theorem dX4_isIdleShop_8 : decode cX4_isIdleShop 8 = .ok (.ifCond .le 26, 3) := by decide +kernel
theorem dX4_isIdleShop_11 : decode cX4_isIdleShop 11 = .ok (.aload_n 0, 1) := by decide +kernel
theorem dX4_isIdleShop_12 : decode cX4_isIdleShop 12 = .ok (.getfield 21, 3) := by decide +kernel
theorem dX4_isIdleShop_15 : decode cX4_isIdleShop 15 = .ok (.iload_n 1, 1) := by decide +kernel
theorem dX4_isIdleShop_16 : decode cX4_isIdleShop 16 = .ok (.aload_n 0, 1) := by decide +kernel
theorem dX4_isIdleShop_17 : decode cX4_isIdleShop 17 = .ok (.getfield 49, 3) := by decide +kernel
theorem dX4_isIdleShop_20 : decode cX4_isIdleShop 20 = .ok (.iconst 5, 1) := by decide +kernel
theorem dX4_isIdleShop_21 : decode cX4_isIdleShop 21 = .ok (.isub, 1) := by decide +kernel
theorem dX4_isIdleShop_22 : decode cX4_isIdleShop 22 = .ok (.iconst 1, 1) := by decide +kernel
theorem dX4_isIdleShop_23 : decode cX4_isIdleShop 23 = .ok (.iadd, 1) := by decide +kernel
theorem dX4_isIdleShop_24 : decode cX4_isIdleShop 24 = .ok (.invokevirtual 224, 3) := by decide +kernel
theorem dX4_isIdleShop_27 : decode cX4_isIdleShop 27 = .ok (.ifCond .ne 7, 3) := by decide +kernel
theorem dX4_isIdleShop_30 : decode cX4_isIdleShop 30 = .ok (.iconst 1, 1) := by decide +kernel
theorem dX4_isIdleShop_31 : decode cX4_isIdleShop 31 = .ok (.goto 4, 3) := by decide +kernel
theorem dX4_isIdleShop_34 : decode cX4_isIdleShop 34 = .ok (.iconst 0, 1) := by decide +kernel
theorem dX4_isIdleShop_35 : decode cX4_isIdleShop 35 = .ok (.ireturn, 1) := by decide +kernel
set_option maxRecDepth 20000 in
theorem ggX4_payFees_X4_isIdleShop : GoodIn wsX4_payFees wsX4_isIdleShop := goodIn_r _ [5, 6, 7, 8, 9, 10, 11, 12, 13, 14, 15, 16, 17, 18, 19, 20, 21, 22, 23, 24, 25, 26, 27, 28, 29, 30, 31, 32, 33, 34, 35, 36, 37, 38, 39, 40, 41, 42, 43, 44, 45, 46, 47, 48, 49, 50, 89, 90, 91, 92, 93, 94, 95, 96, 97, 98, 99, 100, 101, 102, 103, 104] (by decide +kernel) (by decide +kernel)
set_option maxRecDepth 20000 in
theorem gX4_payFees_X4_isIdleShop : GoodIn wsX4_payFees (wsV RX4 187 RX4 yX4_isIdleShop wsX4_isIdleShop) := goodIn_app (goodIn_of _ (by decide +kernel)) ggX4_payFees_X4_isIdleShop
set_option maxRecDepth 20000 in
theorem ggX4_payFees_X4_payFee : GoodIn wsX4_payFees wsX4_payFee := goodIn_r _ [54, 6, 55, 56, 57, 58, 59, 60, 9, 10, 11, 12, 13, 14, 15, 16, 17, 18, 19, 20, 21, 22, 23, 24, 25, 26, 27, 28, 29, 30, 31, 32, 33, 34, 61, 62, 63, 64, 65, 66, 67, 68, 69, 70, 71, 72, 73, 74, 75, 76, 77, 78, 79, 80, 81, 82, 83, 84, 85, 86, 87, 88, 89, 90, 91, 92, 93, 94, 95, 96, 97, 98, 99, 100, 101, 102] (by decide +kernel) (by decide +kernel)
set_option maxRecDepth 20000 in
theorem gX4_payFees_X4_payFee : GoodIn wsX4_payFees (wsV RX4 228 RX4 yX4_payFee wsX4_payFee) := goodIn_app (goodIn_of _ (by decide +kernel)) ggX4_payFees_X4_payFee
theorem dX4_payFees_0 : decode cX4_payFees 0 = .ok (.iconst 0, 1) := by decide +kernel
theorem dX4_payFees_1 : decode cX4_payFees 1 = .ok (.istore_n 1, 1) := by decide +kernel
theorem dX4_payFees_2 : decode cX4_payFees 2 = .ok (.iload_n 1, 1) := by decide +kernel
theorem dX4_payFees_3 : decode cX4_payFees 3 = .ok (.bipush 8, 2) := by decide +kernel
theorem dX4_payFees_5 : decode cX4_payFees 5 = .ok (.if_icmp .ge 22, 3) := by decide +kernel
theorem dX4_payFees_8 : decode cX4_payFees 8 = .ok (.aload_n 0, 1) := by decide +kernel
theorem dX4_payFees_9 : decode cX4_payFees 9 = .ok (.iload_n 1, 1) := by decide +kernel
theorem dX4_payFees_10 : decode cX4_payFees 10 = .ok (.invokevirtual 187, 3) := by decide +kernel
theorem dX4_payFees_13 : decode cX4_payFees 13 = .ok (.ifCond .eq 8, 3) := by decide +kernel
theorem dX4_payFees_16 : decode cX4_payFees 16 = .ok (.aload_n 0, 1) := by decide +kernel
theorem dX4_payFees_17 : decode cX4_payFees 17 = .ok (.iload_n 1, 1) := by decide +kernel
theorem dX4_payFees_18 : decode cX4_payFees 18 = .ok (.invokevirtual 228, 3) := by decide +kernel
theorem dX4_payFees_21 : decode cX4_payFees 21 = .ok (.iinc 1 1, 3) := by decide +kernel
theorem dX4_payFees_24 : decode cX4_payFees 24 = .ok (.goto (-22), 3) := by decide +kernel
theorem dX4_payFees_27 : decode cX4_payFees 27 = .ok (.return_, 1) := by decide +kernel
set_option maxRecDepth 20000 in
theorem ggX4_payFee_X0_balanceOf : GoodIn wsX4_payFee wsX0_balanceOf := goodIn_r _ [12, 13, 14, 15, 16, 17, 18, 19, 20, 21, 22, 23, 24, 25, 26, 27, 28, 29, 30, 31, 32, 33, 71, 72, 73, 74, 75] (by decide +kernel) (by decide +kernel)
set_option maxRecDepth 20000 in
theorem gX4_payFee_X0_balanceOf : GoodIn wsX4_payFee (wsV RX4 165 RX0 yX0_balanceOf wsX0_balanceOf) := goodIn_app (goodIn_of _ (by decide +kernel)) ggX4_payFee_X0_balanceOf
set_option maxRecDepth 20000 in
theorem ggX4_payFee_X0_openTo : GoodIn wsX4_payFee wsX0_openTo := goodIn_r _ [37, 13, 38, 14, 15, 16, 17, 18, 19, 20, 21, 22, 23, 24, 25, 26, 27, 28, 29, 71, 72, 73, 74, 75] (by decide +kernel) (by decide +kernel)
set_option maxRecDepth 20000 in
theorem gX4_payFee_X0_openTo : GoodIn wsX4_payFee (wsV RX4 231 RX0 yX0_openTo wsX0_openTo) := goodIn_app (goodIn_of _ (by decide +kernel)) ggX4_payFee_X0_openTo
set_option maxRecDepth 20000 in
theorem ggX4_payFee_X0_greatestOpenDebtorOf : GoodIn wsX4_payFee wsX0_greatestOpenDebtorOf := goodIn_r _ [42, 43, 44, 45, 11, 46, 13, 38, 47, 21, 22, 17, 23, 24, 25, 26, 27, 28, 19, 29, 71, 72, 73, 74, 75] (by decide +kernel) (by decide +kernel)
set_option maxRecDepth 20000 in
theorem gX4_payFee_X0_greatestOpenDebtorOf : GoodIn wsX4_payFee (wsV RX4 234 RX0 yX0_greatestOpenDebtorOf wsX0_greatestOpenDebtorOf) := goodIn_app (goodIn_of _ (by decide +kernel)) ggX4_payFee_X0_greatestOpenDebtorOf
set_option maxRecDepth 20000 in
theorem ggX4_payFee_X0_open : GoodIn wsX4_payFee wsX0_open := goodIn_r _ [46, 13, 38, 47, 21, 22, 17, 23, 24, 25, 26, 27, 28, 19, 29, 71, 72, 73, 74, 75] (by decide +kernel) (by decide +kernel)
