set_option maxRecDepth 20000 in
theorem ggX4_init_X2_init : GoodIn wsX4_init wsX2_init := goodIn_r _ [27, 28, 2, 3, 29, 30, 31, 32, 33, 34, 35, 36, 37, 38, 39, 61, 62, 63] (by decide +kernel) (by decide +kernel)
set_option maxRecDepth 20000 in
theorem gX4_init_X2_init : GoodIn wsX4_init (wsX2_init) := ggX4_init_X2_init
set_option maxRecDepth 20000 in
theorem ggX4_init_X3_init : GoodIn wsX4_init wsX3_init := goodIn_r _ [41, 42, 2, 3, 43, 5, 6, 44, 45, 46, 26, 27, 28, 29, 30, 31, 32, 33, 34, 35, 36, 37, 38, 39, 61, 62, 63, 73, 74] (by decide +kernel) (by decide +kernel)
set_option maxRecDepth 20000 in
theorem gX4_init_X3_init_n20 : GoodIn wsX4_init (wsX3_init) := ggX4_init_X3_init
set_option maxRecDepth 20000 in
theorem ggX4_init_X0_init : GoodIn wsX4_init wsX0_init := goodIn_r _ [48, 49, 2, 3, 50, 5, 6, 51, 52, 53, 26, 27, 28, 29, 30, 31, 32, 33, 34, 35, 36, 37, 38, 39, 61, 62, 63, 75, 76] (by decide +kernel) (by decide +kernel)
set_option maxRecDepth 20000 in
theorem gX4_init_X0_init_n27 : GoodIn wsX4_init (wsX0_init) := ggX4_init_X0_init
set_option maxRecDepth 20000 in
theorem ggX4_init_X1_init : GoodIn wsX4_init wsX1_init := goodIn_r _ [55, 56, 2, 3, 57, 5, 6, 58, 59, 60, 26, 27, 28, 29, 30, 31, 32, 33, 34, 35, 36, 37, 38, 39, 61, 62, 63, 77, 78] (by decide +kernel) (by decide +kernel)
set_option maxRecDepth 20000 in
theorem gX4_init_X1_init_n40 : GoodIn wsX4_init (wsX1_init) := ggX4_init_X1_init
theorem dX4_init_0 : decode cX4_init 0 = .ok (.aload_n 0, 1) := by decide +kernel
theorem dX4_init_1 : decode cX4_init 1 = .ok (.invokespecial 1, 3) := by decide +kernel
theorem dX4_init_4 : decode cX4_init 4 = .ok (.aload_n 0, 1) := by decide +kernel
theorem dX4_init_5 : decode cX4_init 5 = .ok (.new 7, 3) := by decide +kernel
theorem dX4_init_8 : decode cX4_init 8 = .ok (.dup, 1) := by decide +kernel
theorem dX4_init_9 : decode cX4_init 9 = .ok (.bipush 8, 2) := by decide +kernel
theorem dX4_init_11 : decode cX4_init 11 = .ok (.iconst 2, 1) := by decide +kernel
theorem dX4_init_12 : decode cX4_init 12 = .ok (.invokespecial 11, 3) := by decide +kernel
theorem dX4_init_15 : decode cX4_init 15 = .ok (.putfield 14, 3) := by decide +kernel
theorem dX4_init_18 : decode cX4_init 18 = .ok (.aload_n 0, 1) := by decide +kernel
theorem dX4_init_19 : decode cX4_init 19 = .ok (.new 18, 3) := by decide +kernel
theorem dX4_init_22 : decode cX4_init 22 = .ok (.dup, 1) := by decide +kernel
theorem dX4_init_23 : decode cX4_init 23 = .ok (.invokespecial 20, 3) := by decide +kernel
theorem dX4_init_26 : decode cX4_init 26 = .ok (.putfield 21, 3) := by decide +kernel
theorem dX4_init_29 : decode cX4_init 29 = .ok (.aload_n 0, 1) := by decide +kernel
theorem dX4_init_30 : decode cX4_init 30 = .ok (.new 25, 3) := by decide +kernel
theorem dX4_init_33 : decode cX4_init 33 = .ok (.dup, 1) := by decide +kernel
theorem dX4_init_34 : decode cX4_init 34 = .ok (.invokespecial 27, 3) := by decide +kernel
theorem dX4_init_37 : decode cX4_init 37 = .ok (.putfield 28, 3) := by decide +kernel
theorem dX4_init_40 : decode cX4_init 40 = .ok (.aload_n 0, 1) := by decide +kernel
theorem dX4_init_41 : decode cX4_init 41 = .ok (.new 7, 3) := by decide +kernel
theorem dX4_init_44 : decode cX4_init 44 = .ok (.dup, 1) := by decide +kernel
theorem dX4_init_45 : decode cX4_init 45 = .ok (.bipush 9, 2) := by decide +kernel
theorem dX4_init_47 : decode cX4_init 47 = .ok (.bipush 9, 2) := by decide +kernel
theorem dX4_init_49 : decode cX4_init 49 = .ok (.invokespecial 11, 3) := by decide +kernel
theorem dX4_init_52 : decode cX4_init 52 = .ok (.putfield 32, 3) := by decide +kernel
theorem dX4_init_55 : decode cX4_init 55 = .ok (.aload_n 0, 1) := by decide +kernel
theorem dX4_init_56 : decode cX4_init 56 = .ok (.new 7, 3) := by decide +kernel
theorem dX4_init_59 : decode cX4_init 59 = .ok (.dup, 1) := by decide +kernel
theorem dX4_init_60 : decode cX4_init 60 = .ok (.bipush 9, 2) := by decide +kernel
theorem dX4_init_62 : decode cX4_init 62 = .ok (.bipush 9, 2) := by decide +kernel
theorem dX4_init_64 : decode cX4_init 64 = .ok (.invokespecial 11, 3) := by decide +kernel
theorem dX4_init_67 : decode cX4_init 67 = .ok (.putfield 35, 3) := by decide +kernel
theorem dX4_init_70 : decode cX4_init 70 = .ok (.aload_n 0, 1) := by decide +kernel
theorem dX4_init_71 : decode cX4_init 71 = .ok (.new 38, 3) := by decide +kernel
theorem dX4_init_74 : decode cX4_init 74 = .ok (.dup, 1) := by decide +kernel
theorem dX4_init_75 : decode cX4_init 75 = .ok (.invokespecial 40, 3) := by decide +kernel
theorem dX4_init_78 : decode cX4_init 78 = .ok (.putfield 41, 3) := by decide +kernel
theorem dX4_init_81 : decode cX4_init 81 = .ok (.aload_n 0, 1) := by decide +kernel
theorem dX4_init_82 : decode cX4_init 82 = .ok (.iconst 0, 1) := by decide +kernel
theorem dX4_init_83 : decode cX4_init 83 = .ok (.putfield 45, 3) := by decide +kernel
theorem dX4_init_86 : decode cX4_init 86 = .ok (.aload_n 0, 1) := by decide +kernel
theorem dX4_init_87 : decode cX4_init 87 = .ok (.iconst 0, 1) := by decide +kernel
theorem dX4_init_88 : decode cX4_init 88 = .ok (.putfield 49, 3) := by decide +kernel
theorem dX4_init_91 : decode cX4_init 91 = .ok (.aload_n 0, 1) := by decide +kernel
theorem dX4_init_92 : decode cX4_init 92 = .ok (.bipush 10, 2) := by decide +kernel
theorem dX4_init_94 : decode cX4_init 94 = .ok (.putfield 52, 3) := by decide +kernel
theorem dX4_init_97 : decode cX4_init 97 = .ok (.return_, 1) := by decide +kernel
theorem dX4_join_0 : decode cX4_join 0 = .ok (.aload_n 0, 1) := by decide +kernel
theorem dX4_join_1 : decode cX4_join 1 = .ok (.getfield 45, 3) := by decide +kernel
theorem dX4_join_4 : decode cX4_join 4 = .ok (.bipush 8, 2) := by decide +kernel
theorem dX4_join_6 : decode cX4_join 6 = .ok (.if_icmp .lt 13, 3) := by decide +kernel
theorem dX4_join_9 : decode cX4_join 9 = .ok (.new 55, 3) := by decide +kernel
theorem dX4_join_12 : decode cX4_join 12 = .ok (.dup, 1) := by decide +kernel
theorem dX4_join_13 : decode cX4_join 13 = .ok (.ldc 57, 2) := by decide +kernel
theorem dX4_join_15 : decode cX4_join 15 = .ok (.invokespecial 59, 3) := by decide +kernel
theorem dX4_join_18 : decode cX4_join 18 = .ok (.athrow, 1) := by decide +kernel
theorem dX4_join_19 : decode cX4_join 19 = .ok (.aload_n 0, 1) := by decide +kernel
theorem dX4_join_20 : decode cX4_join 20 = .ok (.dup, 1) := by decide +kernel
theorem dX4_join_21 : decode cX4_join 21 = .ok (.getfield 45, 3) := by decide +kernel
theorem dX4_join_24 : decode cX4_join 24 = .ok (.iconst 1, 1) := by decide +kernel
theorem dX4_join_25 : decode cX4_join 25 = .ok (.iadd, 1) := by decide +kernel
theorem dX4_join_26 : decode cX4_join 26 = .ok (.putfield 45, 3) := by decide +kernel
theorem dX4_join_29 : decode cX4_join 29 = .ok (.aload_n 0, 1) := by decide +kernel
theorem dX4_join_30 : decode cX4_join 30 = .ok (.getfield 45, 3) := by decide +kernel
theorem dX4_join_33 : decode cX4_join 33 = .ok (.iconst 1, 1) := by decide +kernel
theorem dX4_join_34 : decode cX4_join 34 = .ok (.isub, 1) := by decide +kernel
theorem dX4_join_35 : decode cX4_join 35 = .ok (.ireturn, 1) := by decide +kernel
set_option maxRecDepth 20000 in
theorem ggX4_leave_X4_needShop : GoodIn wsX4_leave wsX4_needShop := goodIn_ca (goodIn_r _ [10, 11, 12, 13, 14, 15, 9, 16, 5, 17, 18, 19, 20, 21, 22, 23, 24, 25, 26, 27, 28, 29, 30, 31, 32, 33, 102, 103, 104, 105, 106, 107, 108, 109, 110, 111, 112, 113] (by decide +kernel) (by decide +kernel)) (goodIn_sub (fun _ h => List.mem_cons_of_mem _ (List.mem_append_right _ h)) (by decide +kernel))
set_option maxRecDepth 20000 in
theorem gX4_leave_X4_needShop : GoodIn wsX4_leave (wsV RX4 62 RX4 yX4_needShop wsX4_needShop) := goodIn_app (goodIn_of _ (by decide +kernel)) ggX4_leave_X4_needShop
set_option maxRecDepth 20000 in
theorem ggX4_leave_X3_hasDisputedOf : GoodIn wsX4_leave wsX3_hasDisputedOf := goodIn_r _ [38, 39, 40, 41, 42, 37, 43, 44, 45, 46, 47, 48, 49, 23, 24, 25, 26, 27, 28, 29, 30, 31, 32, 33, 114, 115, 111, 112, 113] (by decide +kernel) (by decide +kernel)
set_option maxRecDepth 20000 in
theorem gX4_leave_X3_hasDisputedOf : GoodIn wsX4_leave (wsV RX4 66 RX3 yX3_hasDisputedOf wsX3_hasDisputedOf) := goodIn_app (goodIn_of _ (by decide +kernel)) ggX4_leave_X3_hasDisputedOf
set_option maxRecDepth 20000 in
theorem ggX4_leave_X4_passDebtsThrough : GoodIn wsX4_leave wsX4_passDebtsThrough := goodIn_r _ [53, 54, 55, 56, 57, 58, 59, 60, 61, 62, 63, 64, 65, 23, 24, 25, 26, 27, 28, 29, 30, 31, 32, 33, 66, 67, 68, 69, 70, 71, 72, 73, 74, 75, 76, 77, 78, 79, 80, 81, 9, 82, 102, 103, 104, 105, 106, 107, 108, 109, 110, 116, 117, 111, 112, 113] (by decide +kernel) (by decide +kernel)
set_option maxRecDepth 20000 in
theorem gX4_leave_X4_passDebtsThrough : GoodIn wsX4_leave (wsV RX4 72 RX4 yX4_passDebtsThrough wsX4_passDebtsThrough) := goodIn_app (goodIn_of _ (by decide +kernel)) ggX4_leave_X4_passDebtsThrough
set_option maxRecDepth 20000 in
theorem ggX4_leave_X4_letGuarantorsPay : GoodIn wsX4_leave wsX4_letGuarantorsPay := goodIn_r _ [86, 54, 4, 55, 56, 57, 58, 87, 59, 60, 61, 62, 63, 64, 65, 23, 24, 25, 26, 27, 28, 29, 30, 31, 32, 33, 22, 88, 71, 72, 73, 74, 75, 76, 77, 78, 79, 80, 81, 9, 82, 66, 67, 68, 69, 70, 102, 103, 104, 105, 106, 107, 108, 109, 110, 116, 117, 111, 112, 113] (by decide +kernel) (by decide +kernel)
set_option maxRecDepth 20000 in
theorem gX4_leave_X4_letGuarantorsPay : GoodIn wsX4_leave (wsV RX4 75 RX4 yX4_letGuarantorsPay wsX4_letGuarantorsPay) := goodIn_app (goodIn_of _ (by decide +kernel)) ggX4_leave_X4_letGuarantorsPay
set_option maxRecDepth 20000 in
theorem ggX4_leave_X4_oweInGoodsBy : GoodIn wsX4_leave wsX4_oweInGoodsBy := goodIn_r _ [92, 54, 87, 59, 60, 61, 62, 63, 64, 65, 23, 24, 25, 26, 27, 28, 29, 30, 31, 32, 33, 66, 67, 68, 69, 70, 71, 72, 73, 74, 75, 76, 77, 78, 88, 102, 103, 104, 105, 106, 107, 108, 109, 110, 116, 117, 111, 112, 113] (by decide +kernel) (by decide +kernel)
set_option maxRecDepth 20000 in
theorem gX4_leave_X4_oweInGoodsBy : GoodIn wsX4_leave (wsV RX4 78 RX4 yX4_oweInGoodsBy wsX4_oweInGoodsBy) := goodIn_app (goodIn_of _ (by decide +kernel)) ggX4_leave_X4_oweInGoodsBy
set_option maxRecDepth 20000 in
theorem ggX4_leave_X4_oweInGoodsTo : GoodIn wsX4_leave wsX4_oweInGoodsTo := goodIn_r _ [96, 54, 87, 59, 60, 61, 62, 63, 64, 65, 23, 24, 25, 26, 27, 28, 29, 30, 31, 32, 33, 66, 67, 68, 69, 70, 71, 72, 73, 74, 75, 76, 77, 78, 88, 102, 103, 104, 105, 106, 107, 108, 109, 110, 116, 117, 111, 112, 113] (by decide +kernel) (by decide +kernel)
set_option maxRecDepth 20000 in
theorem gX4_leave_X4_oweInGoodsTo : GoodIn wsX4_leave (wsV RX4 82 RX4 yX4_oweInGoodsTo wsX4_oweInGoodsTo) := goodIn_app (goodIn_of _ (by decide +kernel)) ggX4_leave_X4_oweInGoodsTo
set_option maxRecDepth 20000 in
theorem ggX4_leave_X2_clearAllOf : GoodIn wsX4_leave wsX2_clearAllOf := goodIn_r _ [100, 75, 76, 77, 25, 78, 27, 28, 29, 30, 31, 32, 33, 111, 112, 113] (by decide +kernel) (by decide +kernel)
set_option maxRecDepth 20000 in
theorem gX4_leave_X2_clearAllOf : GoodIn wsX4_leave (wsV RX4 85 RX2 yX2_clearAllOf wsX2_clearAllOf) := goodIn_app (goodIn_of _ (by decide +kernel)) ggX4_leave_X2_clearAllOf
set_option maxRecDepth 20000 in
theorem ggX4_leave_X2_set : GoodIn wsX4_leave wsX2_set := goodIn_r _ [78, 27, 28, 29, 30, 25, 31, 32, 33, 111, 112, 113] (by decide +kernel) (by decide +kernel)
set_option maxRecDepth 20000 in
theorem gX4_leave_X2_set : GoodIn wsX4_leave (wsV RX4 88 RX2 yX2_set wsX2_set) := goodIn_app (goodIn_of _ (by decide +kernel)) ggX4_leave_X2_set
theorem dX4_leave_0 : decode cX4_leave 0 = .ok (.aload_n 0, 1) := by decide +kernel
theorem dX4_leave_1 : decode cX4_leave 1 = .ok (.iload_n 1, 1) := by decide +kernel
theorem dX4_leave_2 : decode cX4_leave 2 = .ok (.invokevirtual 62, 3) := by decide +kernel
theorem dX4_leave_5 : decode cX4_leave 5 = .ok (.aload_n 0, 1) := by decide +kernel
theorem dX4_leave_6 : decode cX4_leave 6 = .ok (.getfield 21, 3) := by decide +kernel
theorem dX4_leave_9 : decode cX4_leave 9 = .ok (.iload_n 1, 1) := by decide +kernel
theorem dX4_leave_10 : decode cX4_leave 10 = .ok (.invokevirtual 66, 3) := by decide +kernel
theorem dX4_leave_13 : decode cX4_leave 13 = .ok (.ifCond .eq 13, 3) := by decide +kernel
theorem dX4_leave_16 : decode cX4_leave 16 = .ok (.new 55, 3) := by decide +kernel
theorem dX4_leave_19 : decode cX4_leave 19 = .ok (.dup, 1) := by decide +kernel
theorem dX4_leave_20 : decode cX4_leave 20 = .ok (.ldc 70, 2) := by decide +kernel
theorem dX4_leave_22 : decode cX4_leave 22 = .ok (.invokespecial 59, 3) := by decide +kernel
theorem dX4_leave_25 : decode cX4_leave 25 = .ok (.athrow, 1) := by decide +kernel
theorem dX4_leave_26 : decode cX4_leave 26 = .ok (.aload_n 0, 1) := by decide +kernel
theorem dX4_leave_27 : decode cX4_leave 27 = .ok (.iload_n 1, 1) := by decide +kernel
theorem dX4_leave_28 : decode cX4_leave 28 = .ok (.invokevirtual 72, 3) := by decide +kernel
theorem dX4_leave_31 : decode cX4_leave 31 = .ok (.aload_n 0, 1) := by decide +kernel
theorem dX4_leave_32 : decode cX4_leave 32 = .ok (.iload_n 1, 1) := by decide +kernel
theorem dX4_leave_33 : decode cX4_leave 33 = .ok (.invokevirtual 75, 3) := by decide +kernel
theorem dX4_leave_36 : decode cX4_leave 36 = .ok (.aload_n 0, 1) := by decide +kernel
theorem dX4_leave_37 : decode cX4_leave 37 = .ok (.iload_n 1, 1) := by decide +kernel
theorem dX4_leave_38 : decode cX4_leave 38 = .ok (.invokevirtual 78, 3) := by decide +kernel
theorem dX4_leave_41 : decode cX4_leave 41 = .ok (.istore_n 2, 1) := by decide +kernel
theorem dX4_leave_42 : decode cX4_leave 42 = .ok (.aload_n 0, 1) := by decide +kernel
theorem dX4_leave_43 : decode cX4_leave 43 = .ok (.iload_n 1, 1) := by decide +kernel
theorem dX4_leave_44 : decode cX4_leave 44 = .ok (.invokevirtual 82, 3) := by decide +kernel
theorem dX4_leave_47 : decode cX4_leave 47 = .ok (.istore_n 3, 1) := by decide +kernel
theorem dX4_leave_48 : decode cX4_leave 48 = .ok (.aload_n 0, 1) := by decide +kernel
theorem dX4_leave_49 : decode cX4_leave 49 = .ok (.getfield 32, 3) := by decide +kernel
theorem dX4_leave_52 : decode cX4_leave 52 = .ok (.iload_n 1, 1) := by decide +kernel
theorem dX4_leave_53 : decode cX4_leave 53 = .ok (.invokevirtual 85, 3) := by decide +kernel
theorem dX4_leave_56 : decode cX4_leave 56 = .ok (.aload_n 0, 1) := by decide +kernel
theorem dX4_leave_57 : decode cX4_leave 57 = .ok (.getfield 14, 3) := by decide +kernel
theorem dX4_leave_60 : decode cX4_leave 60 = .ok (.iload_n 1, 1) := by decide +kernel
theorem dX4_leave_61 : decode cX4_leave 61 = .ok (.iconst 0, 1) := by decide +kernel
theorem dX4_leave_62 : decode cX4_leave 62 = .ok (.iconst 1, 1) := by decide +kernel
theorem dX4_leave_63 : decode cX4_leave 63 = .ok (.invokevirtual 88, 3) := by decide +kernel
theorem dX4_leave_66 : decode cX4_leave 66 = .ok (.aload_n 0, 1) := by decide +kernel
theorem dX4_leave_67 : decode cX4_leave 67 = .ok (.getfield 14, 3) := by decide +kernel
theorem dX4_leave_70 : decode cX4_leave 70 = .ok (.iload_n 1, 1) := by decide +kernel
theorem dX4_leave_71 : decode cX4_leave 71 = .ok (.iconst 1, 1) := by decide +kernel
theorem dX4_leave_72 : decode cX4_leave 72 = .ok (.iload_n 2, 1) := by decide +kernel
theorem dX4_leave_73 : decode cX4_leave 73 = .ok (.iload_n 3, 1) := by decide +kernel
theorem dX4_leave_74 : decode cX4_leave 74 = .ok (.isub, 1) := by decide +kernel
theorem dX4_leave_75 : decode cX4_leave 75 = .ok (.invokevirtual 88, 3) := by decide +kernel
theorem dX4_leave_78 : decode cX4_leave 78 = .ok (.iload_n 2, 1) := by decide +kernel
theorem dX4_leave_79 : decode cX4_leave 79 = .ok (.iload_n 3, 1) := by decide +kernel
theorem dX4_leave_80 : decode cX4_leave 80 = .ok (.iadd, 1) := by decide +kernel
theorem dX4_leave_81 : decode cX4_leave 81 = .ok (.ireturn, 1) := by decide +kernel
set_option maxRecDepth 20000 in
theorem ggX4_trade_X4_needShop : GoodIn wsX4_trade wsX4_needShop := goodIn_ca (goodIn_r _ [10, 11, 12, 13, 14, 15, 9, 16, 17, 18, 19, 20, 21, 22, 23, 24, 25, 26, 27, 28, 29, 30, 31, 32, 33, 34, 106, 107, 108, 109, 110, 111, 112, 113, 114, 115, 116, 117] (by decide +kernel) (by decide +kernel)) (goodIn_sub (fun _ h => List.mem_cons_of_mem _ (List.mem_append_left _ (List.mem_append_right _ h))) (by decide +kernel))
set_option maxRecDepth 20000 in
theorem gX4_trade_X4_needShop : GoodIn wsX4_trade (wsV RX4 62 RX4 yX4_needShop wsX4_needShop) := goodIn_app (goodIn_of _ (by decide +kernel)) ggX4_trade_X4_needShop
set_option maxRecDepth 20000 in
theorem ggX4_trade_X4_needRange : GoodIn wsX4_trade wsX4_needRange := goodIn_ca (goodIn_r _ [37, 38, 39] (by decide +kernel) (by decide +kernel)) (goodIn_sub (fun _ h => List.mem_cons_of_mem _ (List.mem_append_right _ h)) (by decide +kernel))
set_option maxRecDepth 20000 in
theorem gX4_trade_X4_needRange : GoodIn wsX4_trade (va_wsS RX4 92 yX4_needRange wsX4_needRange) := goodIn_app (goodIn_of _ (by decide +kernel)) ggX4_trade_X4_needRange
set_option maxRecDepth 20000 in
theorem ggX4_trade_X4_needUnlike : GoodIn wsX4_trade wsX4_needUnlike := goodIn_ca (goodIn_r _ [42, 38, 39] (by decide +kernel) (by decide +kernel)) (goodIn_sub (fun _ h => List.mem_cons_of_mem _ (List.mem_append_right _ h)) (by decide +kernel))
set_option maxRecDepth 20000 in
theorem gX4_trade_X4_needUnlike : GoodIn wsX4_trade (va_wsS RX4 95 yX4_needUnlike wsX4_needUnlike) := goodIn_app (goodIn_of _ (by decide +kernel)) ggX4_trade_X4_needUnlike
set_option maxRecDepth 20000 in
theorem ggX4_trade_X3_isFull : GoodIn wsX4_trade wsX3_isFull := goodIn_r _ [47, 48, 118, 119] (by decide +kernel) (by decide +kernel)
set_option maxRecDepth 20000 in
theorem gX4_trade_X3_isFull : GoodIn wsX4_trade (wsV RX4 98 RX3 yX3_isFull wsX3_isFull) := goodIn_app (goodIn_of _ (by decide +kernel)) ggX4_trade_X3_isFull
set_option maxRecDepth 20000 in
theorem ggX4_trade_X4_needBearable : GoodIn wsX4_trade wsX4_needBearable := goodIn_ca (goodIn_r _ [52, 1, 2, 4, 53, 54, 55, 56, 57, 58, 59, 60, 61, 26, 62, 33, 63, 24, 25, 27, 28, 29, 30, 31, 32, 34, 64, 65, 66, 67, 68, 69, 70, 9, 71, 3, 5, 72, 73, 74, 75, 46, 76, 48, 77, 78, 79, 80, 81, 82, 83, 84, 85, 86, 87, 88, 106, 107, 108, 109, 110, 111, 112, 113, 114, 120, 121, 115, 116, 117, 118, 119] (by decide +kernel) (by decide +kernel)) (goodIn_sub (fun _ h => List.mem_cons_of_mem _ (List.mem_append_left _ (List.mem_append_left _ (List.mem_append_right _ h)))) (by decide +kernel))
set_option maxRecDepth 20000 in
theorem gX4_trade_X4_needBearable : GoodIn wsX4_trade (wsV RX4 104 RX4 yX4_needBearable wsX4_needBearable) := goodIn_app (goodIn_of _ (by decide +kernel)) ggX4_trade_X4_needBearable
set_option maxRecDepth 20000 in
theorem ggX4_trade_X0_more : GoodIn wsX4_trade wsX0_more := goodIn_r _ [92, 58, 93, 94, 95, 26, 96, 63, 24, 25, 27, 28, 29, 30, 31, 32, 33, 34, 97, 98, 99, 100, 120, 121, 115, 116, 117] (by decide +kernel) (by decide +kernel)
set_option maxRecDepth 20000 in
theorem gX4_trade_X0_more : GoodIn wsX4_trade (wsV RX4 107 RX0 yX0_more wsX0_more) := goodIn_app (goodIn_of _ (by decide +kernel)) ggX4_trade_X0_more
set_option maxRecDepth 20000 in
theorem ggX4_trade_X3_put : GoodIn wsX4_trade wsX3_put := goodIn_r _ [104, 48, 85, 105, 98, 99, 26, 100, 28, 29, 30, 31, 32, 33, 34, 118, 119, 115, 116, 117] (by decide +kernel) (by decide +kernel)
set_option maxRecDepth 20000 in
theorem gX4_trade_X3_put : GoodIn wsX4_trade (wsV RX4 110 RX3 yX3_put wsX3_put) := goodIn_app (goodIn_of _ (by decide +kernel)) ggX4_trade_X3_put
theorem dX4_trade_0 : decode cX4_trade 0 = .ok (.aload_n 0, 1) := by decide +kernel
theorem dX4_trade_1 : decode cX4_trade 1 = .ok (.iload_n 1, 1) := by decide +kernel
theorem dX4_trade_2 : decode cX4_trade 2 = .ok (.invokevirtual 62, 3) := by decide +kernel
theorem dX4_trade_5 : decode cX4_trade 5 = .ok (.aload_n 0, 1) := by decide +kernel
theorem dX4_trade_6 : decode cX4_trade 6 = .ok (.iload_n 2, 1) := by decide +kernel
theorem dX4_trade_7 : decode cX4_trade 7 = .ok (.invokevirtual 62, 3) := by decide +kernel
theorem dX4_trade_10 : decode cX4_trade 10 = .ok (.iload_n 3, 1) := by decide +kernel
theorem dX4_trade_11 : decode cX4_trade 11 = .ok (.iconst 1, 1) := by decide +kernel
theorem dX4_trade_12 : decode cX4_trade 12 = .ok (.sipush 1000, 3) := by decide +kernel
theorem dX4_trade_15 : decode cX4_trade 15 = .ok (.invokestatic 92, 3) := by decide +kernel
theorem dX4_trade_18 : decode cX4_trade 18 = .ok (.iload_n 1, 1) := by decide +kernel
theorem dX4_trade_19 : decode cX4_trade 19 = .ok (.iload_n 2, 1) := by decide +kernel
theorem dX4_trade_20 : decode cX4_trade 20 = .ok (.invokestatic 95, 3) := by decide +kernel
theorem dX4_trade_23 : decode cX4_trade 23 = .ok (.aload_n 0, 1) := by decide +kernel
theorem dX4_trade_24 : decode cX4_trade 24 = .ok (.getfield 21, 3) := by decide +kernel
theorem dX4_trade_27 : decode cX4_trade 27 = .ok (.invokevirtual 98, 3) := by decide +kernel
theorem dX4_trade_30 : decode cX4_trade 30 = .ok (.ifCond .eq 13, 3) := by decide +kernel
theorem dX4_trade_33 : decode cX4_trade 33 = .ok (.new 55, 3) := by decide +kernel
theorem dX4_trade_36 : decode cX4_trade 36 = .ok (.dup, 1) := by decide +kernel
theorem dX4_trade_37 : decode cX4_trade 37 = .ok (.ldc 102, 2) := by decide +kernel
theorem dX4_trade_39 : decode cX4_trade 39 = .ok (.invokespecial 59, 3) := by decide +kernel
theorem dX4_trade_42 : decode cX4_trade 42 = .ok (.athrow, 1) := by decide +kernel
theorem dX4_trade_43 : decode cX4_trade 43 = .ok (.aload_n 0, 1) := by decide +kernel
theorem dX4_trade_44 : decode cX4_trade 44 = .ok (.iload_n 1, 1) := by decide +kernel
theorem dX4_trade_45 : decode cX4_trade 45 = .ok (.iload_n 3, 1) := by decide +kernel
theorem dX4_trade_46 : decode cX4_trade 46 = .ok (.invokevirtual 104, 3) := by decide +kernel
theorem dX4_trade_49 : decode cX4_trade 49 = .ok (.aload_n 0, 1) := by decide +kernel
theorem dX4_trade_50 : decode cX4_trade 50 = .ok (.getfield 28, 3) := by decide +kernel
theorem dX4_trade_53 : decode cX4_trade 53 = .ok (.iload_n 1, 1) := by decide +kernel
theorem dX4_trade_54 : decode cX4_trade 54 = .ok (.iload_n 2, 1) := by decide +kernel
theorem dX4_trade_55 : decode cX4_trade 55 = .ok (.iload_n 3, 1) := by decide +kernel
theorem dX4_trade_56 : decode cX4_trade 56 = .ok (.invokevirtual 107, 3) := by decide +kernel
theorem dX4_trade_59 : decode cX4_trade 59 = .ok (.aload_n 0, 1) := by decide +kernel
theorem dX4_trade_60 : decode cX4_trade 60 = .ok (.getfield 21, 3) := by decide +kernel
theorem dX4_trade_63 : decode cX4_trade 63 = .ok (.iload_n 1, 1) := by decide +kernel
theorem dX4_trade_64 : decode cX4_trade 64 = .ok (.iload_n 2, 1) := by decide +kernel
theorem dX4_trade_65 : decode cX4_trade 65 = .ok (.iload_n 3, 1) := by decide +kernel
theorem dX4_trade_66 : decode cX4_trade 66 = .ok (.aload_n 0, 1) := by decide +kernel
theorem dX4_trade_67 : decode cX4_trade 67 = .ok (.getfield 49, 3) := by decide +kernel
theorem dX4_trade_70 : decode cX4_trade 70 = .ok (.invokevirtual 110, 3) := by decide +kernel
theorem dX4_trade_73 : decode cX4_trade 73 = .ok (.ireturn, 1) := by decide +kernel
set_option maxRecDepth 20000 in
theorem ggX4_dispute_X4_needTrade : GoodIn wsX4_dispute wsX4_needTrade := goodIn_ca (goodIn_r _ [13, 14, 15, 3, 16, 17, 18, 19, 20, 21, 76, 77, 78, 79, 80, 81, 82, 83, 84, 85, 86] (by decide +kernel) (by decide +kernel)) (goodIn_sub (fun _ h => List.mem_cons_of_mem _ (List.mem_append_right _ h)) (by decide +kernel))
set_option maxRecDepth 20000 in
theorem gX4_dispute_X4_needTrade : GoodIn wsX4_dispute (wsV RX4 114 RX4 yX4_needTrade wsX4_needTrade) := goodIn_app (goodIn_of _ (by decide +kernel)) ggX4_dispute_X4_needTrade
set_option maxRecDepth 20000 in
theorem ggX4_dispute_X3_of : GoodIn wsX4_dispute wsX3_of := goodIn_r _ [25, 26, 27, 28, 29, 30, 31, 32, 33, 34, 35, 36, 37, 38, 85, 86, 87, 88, 89] (by decide +kernel) (by decide +kernel)
set_option maxRecDepth 20000 in
theorem gX4_dispute_X3_of : GoodIn wsX4_dispute (wsV RX4 117 RX3 yX3_of wsX3_of) := goodIn_app (goodIn_of _ (by decide +kernel)) ggX4_dispute_X3_of
set_option maxRecDepth 20000 in
theorem ggX4_dispute_X4_isShop : GoodIn wsX4_dispute wsX4_isShop := goodIn_r _ [42, 43, 44, 45, 46, 12, 47, 48, 49, 28, 29, 30, 31, 32, 33, 34, 35, 36, 37, 38, 76, 77, 78, 79, 80, 81, 82, 83, 84, 87, 88, 89] (by decide +kernel) (by decide +kernel)
set_option maxRecDepth 20000 in
theorem gX4_dispute_X4_isShop : GoodIn wsX4_dispute (wsV RX4 121 RX4 yX4_isShop wsX4_isShop) := goodIn_app (goodIn_of _ (by decide +kernel)) ggX4_dispute_X4_isShop
set_option maxRecDepth 20000 in
theorem ggX4_dispute_X0_open : GoodIn wsX4_dispute wsX0_open := goodIn_r _ [54, 55, 56, 57, 28, 29, 30, 31, 32, 33, 34, 35, 36, 37, 38, 90, 91, 87, 88, 89] (by decide +kernel) (by decide +kernel)
set_option maxRecDepth 20000 in
theorem gX4_dispute_X0_open : GoodIn wsX4_dispute (wsV RX4 126 RX0 yX0_open wsX0_open) := goodIn_app (goodIn_of _ (by decide +kernel)) ggX4_dispute_X0_open
set_option maxRecDepth 20000 in
theorem ggX4_dispute_X0_freeze : GoodIn wsX4_dispute wsX0_freeze := goodIn_r _ [61, 56, 62, 63, 64, 30, 65, 66, 28, 29, 31, 32, 33, 34, 35, 36, 37, 38, 67, 68, 69, 70, 90, 91, 87, 88, 89] (by decide +kernel) (by decide +kernel)
set_option maxRecDepth 20000 in
theorem gX4_dispute_X0_freeze : GoodIn wsX4_dispute (wsV RX4 134 RX0 yX0_freeze wsX0_freeze) := goodIn_app (goodIn_of _ (by decide +kernel)) ggX4_dispute_X0_freeze
set_option maxRecDepth 20000 in
theorem ggX4_dispute_X3_turn : GoodIn wsX4_dispute wsX3_turn := goodIn_r _ [74, 26, 75, 68, 69, 30, 70, 32, 33, 34, 35, 36, 37, 38, 85, 86, 87, 88, 89] (by decide +kernel) (by decide +kernel)
set_option maxRecDepth 20000 in
theorem gX4_dispute_X3_turn : GoodIn wsX4_dispute (wsV RX4 137 RX3 yX3_turn wsX3_turn) := goodIn_app (goodIn_of _ (by decide +kernel)) ggX4_dispute_X3_turn
theorem dX4_dispute_0 : decode cX4_dispute 0 = .ok (.aload_n 0, 1) := by decide +kernel
theorem dX4_dispute_1 : decode cX4_dispute 1 = .ok (.iload_n 1, 1) := by decide +kernel
theorem dX4_dispute_2 : decode cX4_dispute 2 = .ok (.invokevirtual 114, 3) := by decide +kernel
theorem dX4_dispute_5 : decode cX4_dispute 5 = .ok (.aload_n 0, 1) := by decide +kernel
theorem dX4_dispute_6 : decode cX4_dispute 6 = .ok (.getfield 21, 3) := by decide +kernel
theorem dX4_dispute_9 : decode cX4_dispute 9 = .ok (.iload_n 1, 1) := by decide +kernel
theorem dX4_dispute_10 : decode cX4_dispute 10 = .ok (.iconst 1, 1) := by decide +kernel
theorem dX4_dispute_11 : decode cX4_dispute 11 = .ok (.invokevirtual 117, 3) := by decide +kernel
theorem dX4_dispute_14 : decode cX4_dispute 14 = .ok (.istore_n 2, 1) := by decide +kernel
theorem dX4_dispute_15 : decode cX4_dispute 15 = .ok (.aload_n 0, 1) := by decide +kernel
theorem dX4_dispute_16 : decode cX4_dispute 16 = .ok (.getfield 21, 3) := by decide +kernel
theorem dX4_dispute_19 : decode cX4_dispute 19 = .ok (.iload_n 1, 1) := by decide +kernel
theorem dX4_dispute_20 : decode cX4_dispute 20 = .ok (.iconst 2, 1) := by decide +kernel
theorem dX4_dispute_21 : decode cX4_dispute 21 = .ok (.invokevirtual 117, 3) := by decide +kernel
theorem dX4_dispute_24 : decode cX4_dispute 24 = .ok (.istore_n 3, 1) := by decide +kernel
theorem dX4_dispute_25 : decode cX4_dispute 25 = .ok (.aload_n 0, 1) := by decide +kernel
theorem dX4_dispute_26 : decode cX4_dispute 26 = .ok (.getfield 21, 3) := by decide +kernel
theorem dX4_dispute_29 : decode cX4_dispute 29 = .ok (.iload_n 1, 1) := by decide +kernel
theorem dX4_dispute_30 : decode cX4_dispute 30 = .ok (.iconst 0, 1) := by decide +kernel
theorem dX4_dispute_31 : decode cX4_dispute 31 = .ok (.invokevirtual 117, 3) := by decide +kernel
theorem dX4_dispute_34 : decode cX4_dispute 34 = .ok (.ifCond .ne 19, 3) := by decide +kernel
theorem dX4_dispute_37 : decode cX4_dispute 37 = .ok (.aload_n 0, 1) := by decide +kernel
theorem dX4_dispute_38 : decode cX4_dispute 38 = .ok (.iload_n 2, 1) := by decide +kernel
theorem dX4_dispute_39 : decode cX4_dispute 39 = .ok (.invokevirtual 121, 3) := by decide +kernel
theorem dX4_dispute_42 : decode cX4_dispute 42 = .ok (.ifCond .eq 11, 3) := by decide +kernel
theorem dX4_dispute_45 : decode cX4_dispute 45 = .ok (.aload_n 0, 1) := by decide +kernel
theorem dX4_dispute_46 : decode cX4_dispute 46 = .ok (.iload_n 3, 1) := by decide +kernel
theorem dX4_dispute_47 : decode cX4_dispute 47 = .ok (.invokevirtual 121, 3) := by decide +kernel
theorem dX4_dispute_50 : decode cX4_dispute 50 = .ok (.ifCond .ne 13, 3) := by decide +kernel
theorem dX4_dispute_53 : decode cX4_dispute 53 = .ok (.new 55, 3) := by decide +kernel
theorem dX4_dispute_56 : decode cX4_dispute 56 = .ok (.dup, 1) := by decide +kernel
theorem dX4_dispute_57 : decode cX4_dispute 57 = .ok (.ldc 124, 2) := by decide +kernel
theorem dX4_dispute_59 : decode cX4_dispute 59 = .ok (.invokespecial 59, 3) := by decide +kernel
theorem dX4_dispute_62 : decode cX4_dispute 62 = .ok (.athrow, 1) := by decide +kernel
theorem dX4_dispute_63 : decode cX4_dispute 63 = .ok (.aload_n 0, 1) := by decide +kernel
theorem dX4_dispute_64 : decode cX4_dispute 64 = .ok (.getfield 21, 3) := by decide +kernel
theorem dX4_dispute_67 : decode cX4_dispute 67 = .ok (.iload_n 1, 1) := by decide +kernel
theorem dX4_dispute_68 : decode cX4_dispute 68 = .ok (.iconst 3, 1) := by decide +kernel
theorem dX4_dispute_69 : decode cX4_dispute 69 = .ok (.invokevirtual 117, 3) := by decide +kernel
theorem dX4_dispute_72 : decode cX4_dispute 72 = .ok (.aload_n 0, 1) := by decide +kernel
theorem dX4_dispute_73 : decode cX4_dispute 73 = .ok (.getfield 28, 3) := by decide +kernel
theorem dX4_dispute_76 : decode cX4_dispute 76 = .ok (.iload_n 2, 1) := by decide +kernel
theorem dX4_dispute_77 : decode cX4_dispute 77 = .ok (.iload_n 3, 1) := by decide +kernel
theorem dX4_dispute_78 : decode cX4_dispute 78 = .ok (.invokevirtual 126, 3) := by decide +kernel
theorem dX4_dispute_81 : decode cX4_dispute 81 = .ok (.invokestatic 129, 3) := by decide +kernel
theorem dX4_dispute_84 : decode cX4_dispute 84 = .ok (.istore 4, 2) := by decide +kernel
theorem dX4_dispute_86 : decode cX4_dispute 86 = .ok (.aload_n 0, 1) := by decide +kernel
theorem dX4_dispute_87 : decode cX4_dispute 87 = .ok (.getfield 28, 3) := by decide +kernel
theorem dX4_dispute_90 : decode cX4_dispute 90 = .ok (.iload_n 2, 1) := by decide +kernel
theorem dX4_dispute_91 : decode cX4_dispute 91 = .ok (.iload_n 3, 1) := by decide +kernel
theorem dX4_dispute_92 : decode cX4_dispute 92 = .ok (.iload 4, 2) := by decide +kernel
theorem dX4_dispute_94 : decode cX4_dispute 94 = .ok (.invokevirtual 134, 3) := by decide +kernel
theorem dX4_dispute_97 : decode cX4_dispute 97 = .ok (.aload_n 0, 1) := by decide +kernel
theorem dX4_dispute_98 : decode cX4_dispute 98 = .ok (.getfield 21, 3) := by decide +kernel
theorem dX4_dispute_101 : decode cX4_dispute 101 = .ok (.iload_n 1, 1) := by decide +kernel
theorem dX4_dispute_102 : decode cX4_dispute 102 = .ok (.iconst 1, 1) := by decide +kernel
theorem dX4_dispute_103 : decode cX4_dispute 103 = .ok (.iload 4, 2) := by decide +kernel
theorem dX4_dispute_105 : decode cX4_dispute 105 = .ok (.invokevirtual 137, 3) := by decide +kernel
theorem dX4_dispute_108 : decode cX4_dispute 108 = .ok (.iload 4, 2) := by decide +kernel
theorem dX4_dispute_110 : decode cX4_dispute 110 = .ok (.ireturn, 1) := by decide +kernel
set_option maxRecDepth 20000 in
theorem ggX4_settle_X4_needTrade : GoodIn wsX4_settle wsX4_needTrade := goodIn_ca (goodIn_r _ [9, 10, 11, 3, 12, 13, 14, 15, 16, 17, 60, 61, 62, 63, 64, 65, 66, 67, 68, 69, 70] (by decide +kernel) (by decide +kernel)) (goodIn_sub (fun _ h => List.mem_cons_of_mem _ (List.mem_append_right _ h)) (by decide +kernel))
set_option maxRecDepth 20000 in
theorem gX4_settle_X4_needTrade : GoodIn wsX4_settle (wsV RX4 114 RX4 yX4_needTrade wsX4_needTrade) := goodIn_app (goodIn_of _ (by decide +kernel)) ggX4_settle_X4_needTrade
set_option maxRecDepth 20000 in
theorem ggX4_settle_X3_of : GoodIn wsX4_settle wsX3_of := goodIn_r _ [21, 22, 23, 24, 25, 26, 27, 28, 29, 30, 31, 32, 33, 34, 69, 70, 71, 72, 73] (by decide +kernel) (by decide +kernel)
set_option maxRecDepth 20000 in
theorem gX4_settle_X3_of : GoodIn wsX4_settle (wsV RX4 117 RX3 yX3_of wsX3_of) := goodIn_app (goodIn_of _ (by decide +kernel)) ggX4_settle_X3_of
set_option maxRecDepth 20000 in
theorem ggX4_settle_X0_freeze : GoodIn wsX4_settle wsX0_freeze := goodIn_r _ [39, 40, 41, 42, 43, 26, 44, 45, 24, 25, 27, 28, 29, 30, 31, 32, 33, 34, 46, 47, 48, 49, 74, 75, 71, 72, 73] (by decide +kernel) (by decide +kernel)
set_option maxRecDepth 20000 in
theorem gX4_settle_X0_freeze : GoodIn wsX4_settle (wsV RX4 134 RX0 yX0_freeze wsX0_freeze) := goodIn_app (goodIn_of _ (by decide +kernel)) ggX4_settle_X0_freeze
set_option maxRecDepth 20000 in
theorem ggX4_settle_X3_turn : GoodIn wsX4_settle wsX3_turn := goodIn_r _ [53, 22, 54, 47, 48, 26, 49, 28, 29, 30, 31, 32, 33, 34, 69, 70, 71, 72, 73] (by decide +kernel) (by decide +kernel)
set_option maxRecDepth 20000 in
theorem gX4_settle_X3_turn : GoodIn wsX4_settle (wsV RX4 137 RX3 yX3_turn wsX3_turn) := goodIn_app (goodIn_of _ (by decide +kernel)) ggX4_settle_X3_turn
set_option maxRecDepth 20000 in
theorem ggX4_settle_X0_more : GoodIn wsX4_settle wsX0_more := goodIn_r _ [58, 59, 41, 42, 43, 26, 44, 45, 24, 25, 27, 28, 29, 30, 31, 32, 33, 34, 46, 47, 48, 49, 74, 75, 71, 72, 73] (by decide +kernel) (by decide +kernel)
set_option maxRecDepth 20000 in
theorem gX4_settle_X0_more : GoodIn wsX4_settle (wsV RX4 107 RX0 yX0_more wsX0_more) := goodIn_app (goodIn_of _ (by decide +kernel)) ggX4_settle_X0_more
theorem dX4_settle_0 : decode cX4_settle 0 = .ok (.aload_n 0, 1) := by decide +kernel
theorem dX4_settle_1 : decode cX4_settle 1 = .ok (.iload_n 1, 1) := by decide +kernel
theorem dX4_settle_2 : decode cX4_settle 2 = .ok (.invokevirtual 114, 3) := by decide +kernel
theorem dX4_settle_5 : decode cX4_settle 5 = .ok (.aload_n 0, 1) := by decide +kernel
theorem dX4_settle_6 : decode cX4_settle 6 = .ok (.getfield 21, 3) := by decide +kernel
theorem dX4_settle_9 : decode cX4_settle 9 = .ok (.iload_n 1, 1) := by decide +kernel
theorem dX4_settle_10 : decode cX4_settle 10 = .ok (.iconst 0, 1) := by decide +kernel
theorem dX4_settle_11 : decode cX4_settle 11 = .ok (.invokevirtual 117, 3) := by decide +kernel
theorem dX4_settle_14 : decode cX4_settle 14 = .ok (.iconst 1, 1) := by decide +kernel
theorem dX4_settle_15 : decode cX4_settle 15 = .ok (.if_icmp .eq 13, 3) := by decide +kernel
theorem dX4_settle_18 : decode cX4_settle 18 = .ok (.new 55, 3) := by decide +kernel
theorem dX4_settle_21 : decode cX4_settle 21 = .ok (.dup, 1) := by decide +kernel
theorem dX4_settle_22 : decode cX4_settle 22 = .ok (.ldc 140, 2) := by decide +kernel
theorem dX4_settle_24 : decode cX4_settle 24 = .ok (.invokespecial 59, 3) := by decide +kernel
theorem dX4_settle_27 : decode cX4_settle 27 = .ok (.athrow, 1) := by decide +kernel
theorem dX4_settle_28 : decode cX4_settle 28 = .ok (.aload_n 0, 1) := by decide +kernel
theorem dX4_settle_29 : decode cX4_settle 29 = .ok (.getfield 21, 3) := by decide +kernel
theorem dX4_settle_32 : decode cX4_settle 32 = .ok (.iload_n 1, 1) := by decide +kernel
theorem dX4_settle_33 : decode cX4_settle 33 = .ok (.iconst 1, 1) := by decide +kernel
theorem dX4_settle_34 : decode cX4_settle 34 = .ok (.invokevirtual 117, 3) := by decide +kernel
theorem dX4_settle_37 : decode cX4_settle 37 = .ok (.istore_n 3, 1) := by decide +kernel
theorem dX4_settle_38 : decode cX4_settle 38 = .ok (.aload_n 0, 1) := by decide +kernel
theorem dX4_settle_39 : decode cX4_settle 39 = .ok (.getfield 21, 3) := by decide +kernel
theorem dX4_settle_42 : decode cX4_settle 42 = .ok (.iload_n 1, 1) := by decide +kernel
theorem dX4_settle_43 : decode cX4_settle 43 = .ok (.iconst 2, 1) := by decide +kernel
theorem dX4_settle_44 : decode cX4_settle 44 = .ok (.invokevirtual 117, 3) := by decide +kernel
theorem dX4_settle_47 : decode cX4_settle 47 = .ok (.istore 4, 2) := by decide +kernel
theorem dX4_settle_49 : decode cX4_settle 49 = .ok (.aload_n 0, 1) := by decide +kernel
theorem dX4_settle_50 : decode cX4_settle 50 = .ok (.getfield 21, 3) := by decide +kernel
theorem dX4_settle_53 : decode cX4_settle 53 = .ok (.iload_n 1, 1) := by decide +kernel
theorem dX4_settle_54 : decode cX4_settle 54 = .ok (.iconst 5, 1) := by decide +kernel
theorem dX4_settle_55 : decode cX4_settle 55 = .ok (.invokevirtual 117, 3) := by decide +kernel
theorem dX4_settle_58 : decode cX4_settle 58 = .ok (.istore 5, 2) := by decide +kernel
theorem dX4_settle_60 : decode cX4_settle 60 = .ok (.aload_n 0, 1) := by decide +kernel
theorem dX4_settle_61 : decode cX4_settle 61 = .ok (.getfield 28, 3) := by decide +kernel
theorem dX4_settle_64 : decode cX4_settle 64 = .ok (.iload_n 3, 1) := by decide +kernel
theorem dX4_settle_65 : decode cX4_settle 65 = .ok (.iload 4, 2) := by decide +kernel
theorem dX4_settle_67 : decode cX4_settle 67 = .ok (.iload 5, 2) := by decide +kernel
theorem dX4_settle_69 : decode cX4_settle 69 = .ok (.ineg, 1) := by decide +kernel
theorem dX4_settle_70 : decode cX4_settle 70 = .ok (.invokevirtual 134, 3) := by decide +kernel
theorem dX4_settle_73 : decode cX4_settle 73 = .ok (.aload_n 0, 1) := by decide +kernel
theorem dX4_settle_74 : decode cX4_settle 74 = .ok (.getfield 21, 3) := by decide +kernel
theorem dX4_settle_77 : decode cX4_settle 77 = .ok (.iload_n 1, 1) := by decide +kernel
theorem dX4_settle_78 : decode cX4_settle 78 = .ok (.iload_n 2, 1) := by decide +kernel
theorem dX4_settle_79 : decode cX4_settle 79 = .ok (.ifCond .eq 7, 3) := by decide +kernel
theorem dX4_settle_82 : decode cX4_settle 82 = .ok (.iconst 2, 1) := by decide +kernel
theorem dX4_settle_83 : decode cX4_settle 83 = .ok (.goto 4, 3) := by decide +kernel
theorem dX4_settle_86 : decode cX4_settle 86 = .ok (.iconst 0, 1) := by decide +kernel
theorem dX4_settle_87 : decode cX4_settle 87 = .ok (.iconst 0, 1) := by decide +kernel
theorem dX4_settle_88 : decode cX4_settle 88 = .ok (.invokevirtual 137, 3) := by decide +kernel
theorem dX4_settle_91 : decode cX4_settle 91 = .ok (.iload_n 2, 1) := by decide +kernel
theorem dX4_settle_92 : decode cX4_settle 92 = .ok (.ifCond .ne 5, 3) := by decide +kernel
theorem dX4_settle_95 : decode cX4_settle 95 = .ok (.iconst 0, 1) := by decide +kernel
theorem dX4_settle_96 : decode cX4_settle 96 = .ok (.ireturn, 1) := by decide +kernel
theorem dX4_settle_97 : decode cX4_settle 97 = .ok (.aload_n 0, 1) := by decide +kernel
theorem dX4_settle_98 : decode cX4_settle 98 = .ok (.getfield 21, 3) := by decide +kernel
theorem dX4_settle_101 : decode cX4_settle 101 = .ok (.iload_n 1, 1) := by decide +kernel
theorem dX4_settle_102 : decode cX4_settle 102 = .ok (.iconst 3, 1) := by decide +kernel
theorem dX4_settle_103 : decode cX4_settle 103 = .ok (.invokevirtual 117, 3) := by decide +kernel
theorem dX4_settle_106 : decode cX4_settle 106 = .ok (.iload 5, 2) := by decide +kernel
theorem dX4_settle_108 : decode cX4_settle 108 = .ok (.isub, 1) := by decide +kernel
theorem dX4_settle_109 : decode cX4_settle 109 = .ok (.istore 6, 2) := by decide +kernel
theorem dX4_settle_111 : decode cX4_settle 111 = .ok (.aload_n 0, 1) := by decide +kernel
theorem dX4_settle_112 : decode cX4_settle 112 = .ok (.getfield 28, 3) := by decide +kernel
theorem dX4_settle_115 : decode cX4_settle 115 = .ok (.iload_n 3, 1) := by decide +kernel
theorem dX4_settle_116 : decode cX4_settle 116 = .ok (.iload 4, 2) := by decide +kernel
theorem dX4_settle_118 : decode cX4_settle 118 = .ok (.iload 5, 2) := by decide +kernel
theorem dX4_settle_120 : decode cX4_settle 120 = .ok (.ineg, 1) := by decide +kernel
theorem dX4_settle_121 : decode cX4_settle 121 = .ok (.invokevirtual 107, 3) := by decide +kernel
theorem dX4_settle_124 : decode cX4_settle 124 = .ok (.aload_n 0, 1) := by decide +kernel
theorem dX4_settle_125 : decode cX4_settle 125 = .ok (.getfield 28, 3) := by decide +kernel
theorem dX4_settle_128 : decode cX4_settle 128 = .ok (.iload 4, 2) := by decide +kernel
theorem dX4_settle_130 : decode cX4_settle 130 = .ok (.iload_n 3, 1) := by decide +kernel
theorem dX4_settle_131 : decode cX4_settle 131 = .ok (.iload 6, 2) := by decide +kernel
theorem dX4_settle_133 : decode cX4_settle 133 = .ok (.invokevirtual 107, 3) := by decide +kernel
theorem dX4_settle_136 : decode cX4_settle 136 = .ok (.iload 6, 2) := by decide +kernel
theorem dX4_settle_138 : decode cX4_settle 138 = .ok (.ireturn, 1) := by decide +kernel
set_option maxRecDepth 20000 in
theorem ggX4_guarantee_X4_needGuaranteeArguments : GoodIn wsX4_guarantee wsX4_needGuaranteeArguments := goodIn_ca (goodIn_ca (goodIn_r _ [8, 9, 10, 11, 7, 12, 13, 14, 15, 16, 17, 18, 19, 20, 21, 22, 23, 24, 25, 26, 27, 28, 29, 30, 31, 32, 33, 34, 35, 36, 37, 38, 39, 40, 41, 42, 43, 44, 97, 98, 99, 100, 101, 102, 103, 104, 105, 106, 107, 108] (by decide +kernel) (by decide +kernel)) (goodIn_sub (fun _ h => List.mem_cons_of_mem _ (List.mem_append_left _ (List.mem_append_right _ h))) (by decide +kernel))) (goodIn_sub (fun _ h => List.mem_cons_of_mem _ (List.mem_append_right _ h)) (by decide +kernel))
set_option maxRecDepth 20000 in
theorem gX4_guarantee_X4_needGuaranteeArguments : GoodIn wsX4_guarantee (wsV RX4 142 RX4 yX4_needGuaranteeArguments wsX4_needGuaranteeArguments) := goodIn_app (goodIn_of _ (by decide +kernel)) ggX4_guarantee_X4_needGuaranteeArguments
set_option maxRecDepth 20000 in
theorem ggX4_guarantee_X2_get : GoodIn wsX4_guarantee wsX2_get := goodIn_r _ [29, 30, 31, 32, 33, 28, 34, 35, 36, 106, 107, 108] (by decide +kernel) (by decide +kernel)
set_option maxRecDepth 20000 in
theorem gX4_guarantee_X2_get : GoodIn wsX4_guarantee (wsV RX4 145 RX2 yX2_get wsX2_get) := goodIn_app (goodIn_of _ (by decide +kernel)) ggX4_guarantee_X2_get
set_option maxRecDepth 20000 in
theorem ggX4_guarantee_X4_needBearable : GoodIn wsX4_guarantee wsX4_needBearable := goodIn_ca (goodIn_r _ [48, 1, 2, 49, 50, 51, 52, 53, 54, 55, 56, 57, 58, 28, 59, 35, 60, 26, 27, 29, 30, 31, 32, 33, 34, 36, 61, 62, 63, 64, 65, 66, 67, 7, 68, 69, 70, 3, 71, 72, 73, 74, 75, 76, 77, 78, 79, 80, 81, 82, 83, 84, 85, 86, 87, 88, 97, 98, 99, 100, 101, 102, 103, 104, 105, 109, 110, 106, 107, 108, 111, 112] (by decide +kernel) (by decide +kernel)) (goodIn_sub (fun _ h => List.mem_cons_of_mem _ (List.mem_append_left _ (List.mem_append_left _ (List.mem_append_right _ h)))) (by decide +kernel))
set_option maxRecDepth 20000 in
theorem gX4_guarantee_X4_needBearable : GoodIn wsX4_guarantee (wsV RX4 104 RX4 yX4_needBearable wsX4_needBearable) := goodIn_app (goodIn_of _ (by decide +kernel)) ggX4_guarantee_X4_needBearable
set_option maxRecDepth 20000 in
theorem ggX4_guarantee_X2_add : GoodIn wsX4_guarantee wsX2_add := goodIn_r _ [92, 60, 26, 27, 28, 29, 30, 31, 32, 33, 34, 35, 36, 93, 94, 95, 96, 106, 107, 108] (by decide +kernel) (by decide +kernel)
set_option maxRecDepth 20000 in
theorem gX4_guarantee_X2_add : GoodIn wsX4_guarantee (wsV RX4 150 RX2 yX2_add wsX2_add) := goodIn_app (goodIn_of _ (by decide +kernel)) ggX4_guarantee_X2_add
theorem dX4_guarantee_0 : decode cX4_guarantee 0 = .ok (.aload_n 0, 1) := by decide +kernel
theorem dX4_guarantee_1 : decode cX4_guarantee 1 = .ok (.iload_n 1, 1) := by decide +kernel
theorem dX4_guarantee_2 : decode cX4_guarantee 2 = .ok (.iload_n 2, 1) := by decide +kernel
theorem dX4_guarantee_3 : decode cX4_guarantee 3 = .ok (.iload_n 3, 1) := by decide +kernel
theorem dX4_guarantee_4 : decode cX4_guarantee 4 = .ok (.invokevirtual 142, 3) := by decide +kernel
theorem dX4_guarantee_7 : decode cX4_guarantee 7 = .ok (.aload_n 0, 1) := by decide +kernel
theorem dX4_guarantee_8 : decode cX4_guarantee 8 = .ok (.getfield 32, 3) := by decide +kernel
theorem dX4_guarantee_11 : decode cX4_guarantee 11 = .ok (.iload_n 1, 1) := by decide +kernel
theorem dX4_guarantee_12 : decode cX4_guarantee 12 = .ok (.iload_n 2, 1) := by decide +kernel
theorem dX4_guarantee_13 : decode cX4_guarantee 13 = .ok (.invokevirtual 145, 3) := by decide +kernel
theorem dX4_guarantee_16 : decode cX4_guarantee 16 = .ok (.iload_n 3, 1) := by decide +kernel
theorem dX4_guarantee_17 : decode cX4_guarantee 17 = .ok (.iadd, 1) := by decide +kernel
theorem dX4_guarantee_18 : decode cX4_guarantee 18 = .ok (.sipush 1000, 3) := by decide +kernel
theorem dX4_guarantee_21 : decode cX4_guarantee 21 = .ok (.if_icmp .le 13, 3) := by decide +kernel
theorem dX4_guarantee_24 : decode cX4_guarantee 24 = .ok (.new 55, 3) := by decide +kernel
theorem dX4_guarantee_27 : decode cX4_guarantee 27 = .ok (.dup, 1) := by decide +kernel
theorem dX4_guarantee_28 : decode cX4_guarantee 28 = .ok (.ldc 148, 2) := by decide +kernel
theorem dX4_guarantee_30 : decode cX4_guarantee 30 = .ok (.invokespecial 59, 3) := by decide +kernel
theorem dX4_guarantee_33 : decode cX4_guarantee 33 = .ok (.athrow, 1) := by decide +kernel
theorem dX4_guarantee_34 : decode cX4_guarantee 34 = .ok (.aload_n 0, 1) := by decide +kernel
theorem dX4_guarantee_35 : decode cX4_guarantee 35 = .ok (.iload_n 1, 1) := by decide +kernel
theorem dX4_guarantee_36 : decode cX4_guarantee 36 = .ok (.iload_n 3, 1) := by decide +kernel
theorem dX4_guarantee_37 : decode cX4_guarantee 37 = .ok (.invokevirtual 104, 3) := by decide +kernel
theorem dX4_guarantee_40 : decode cX4_guarantee 40 = .ok (.aload_n 0, 1) := by decide +kernel
theorem dX4_guarantee_41 : decode cX4_guarantee 41 = .ok (.getfield 32, 3) := by decide +kernel
theorem dX4_guarantee_44 : decode cX4_guarantee 44 = .ok (.iload_n 1, 1) := by decide +kernel
theorem dX4_guarantee_45 : decode cX4_guarantee 45 = .ok (.iload_n 2, 1) := by decide +kernel
theorem dX4_guarantee_46 : decode cX4_guarantee 46 = .ok (.iload_n 3, 1) := by decide +kernel
theorem dX4_guarantee_47 : decode cX4_guarantee 47 = .ok (.invokevirtual 150, 3) := by decide +kernel
theorem dX4_guarantee_50 : decode cX4_guarantee 50 = .ok (.aload_n 0, 1) := by decide +kernel
theorem dX4_guarantee_51 : decode cX4_guarantee 51 = .ok (.getfield 32, 3) := by decide +kernel
theorem dX4_guarantee_54 : decode cX4_guarantee 54 = .ok (.iload_n 1, 1) := by decide +kernel
theorem dX4_guarantee_55 : decode cX4_guarantee 55 = .ok (.iload_n 2, 1) := by decide +kernel
theorem dX4_guarantee_56 : decode cX4_guarantee 56 = .ok (.invokevirtual 145, 3) := by decide +kernel
theorem dX4_guarantee_59 : decode cX4_guarantee 59 = .ok (.ireturn, 1) := by decide +kernel
set_option maxRecDepth 20000 in
theorem ggX4_revoke_X4_needGuaranteeArguments : GoodIn wsX4_revoke wsX4_needGuaranteeArguments := goodIn_ca (goodIn_ca (goodIn_r _ [8, 9, 10, 11, 7, 12, 13, 14, 15, 16, 17, 18, 19, 20, 21, 22, 23, 24, 25, 26, 27, 28, 29, 30, 31, 32, 33, 34, 35, 36, 37, 38, 39, 40, 41, 42, 43, 44, 97, 98, 99, 100, 101, 102, 103, 104, 105, 106, 107, 108] (by decide +kernel) (by decide +kernel)) (goodIn_sub (fun _ h => List.mem_cons_of_mem _ (List.mem_append_left _ (List.mem_append_right _ h))) (by decide +kernel))) (goodIn_sub (fun _ h => List.mem_cons_of_mem _ (List.mem_append_right _ h)) (by decide +kernel))
set_option maxRecDepth 20000 in
theorem gX4_revoke_X4_needGuaranteeArguments : GoodIn wsX4_revoke (wsV RX4 142 RX4 yX4_needGuaranteeArguments wsX4_needGuaranteeArguments) := goodIn_app (goodIn_of _ (by decide +kernel)) ggX4_revoke_X4_needGuaranteeArguments
set_option maxRecDepth 20000 in
theorem ggX4_revoke_X2_get : GoodIn wsX4_revoke wsX2_get := goodIn_r _ [29, 30, 31, 32, 33, 28, 34, 35, 36, 106, 107, 108] (by decide +kernel) (by decide +kernel)
set_option maxRecDepth 20000 in
theorem gX4_revoke_X2_get : GoodIn wsX4_revoke (wsV RX4 145 RX2 yX2_get wsX2_get) := goodIn_app (goodIn_of _ (by decide +kernel)) ggX4_revoke_X2_get
set_option maxRecDepth 20000 in
theorem ggX4_revoke_X4_needBearable : GoodIn wsX4_revoke wsX4_needBearable := goodIn_ca (goodIn_r _ [48, 1, 2, 49, 50, 51, 52, 53, 54, 55, 56, 57, 58, 28, 59, 35, 60, 26, 27, 29, 30, 31, 32, 33, 34, 36, 61, 62, 63, 64, 65, 66, 67, 7, 68, 69, 70, 3, 71, 72, 73, 74, 75, 76, 77, 78, 79, 80, 81, 82, 83, 84, 85, 86, 87, 88, 97, 98, 99, 100, 101, 102, 103, 104, 105, 109, 110, 106, 107, 108, 111, 112] (by decide +kernel) (by decide +kernel)) (goodIn_sub (fun _ h => List.mem_cons_of_mem _ (List.mem_append_left _ (List.mem_append_left _ (List.mem_append_right _ h)))) (by decide +kernel))
set_option maxRecDepth 20000 in
theorem gX4_revoke_X4_needBearable : GoodIn wsX4_revoke (wsV RX4 104 RX4 yX4_needBearable wsX4_needBearable) := goodIn_app (goodIn_of _ (by decide +kernel)) ggX4_revoke_X4_needBearable
set_option maxRecDepth 20000 in
theorem ggX4_revoke_X2_add : GoodIn wsX4_revoke wsX2_add := goodIn_r _ [92, 60, 26, 27, 28, 29, 30, 31, 32, 33, 34, 35, 36, 93, 94, 95, 96, 106, 107, 108] (by decide +kernel) (by decide +kernel)
set_option maxRecDepth 20000 in
theorem gX4_revoke_X2_add : GoodIn wsX4_revoke (wsV RX4 150 RX2 yX2_add wsX2_add) := goodIn_app (goodIn_of _ (by decide +kernel)) ggX4_revoke_X2_add
theorem dX4_revoke_0 : decode cX4_revoke 0 = .ok (.aload_n 0, 1) := by decide +kernel
theorem dX4_revoke_1 : decode cX4_revoke 1 = .ok (.iload_n 1, 1) := by decide +kernel
theorem dX4_revoke_2 : decode cX4_revoke 2 = .ok (.iload_n 2, 1) := by decide +kernel
theorem dX4_revoke_3 : decode cX4_revoke 3 = .ok (.iload_n 3, 1) := by decide +kernel
theorem dX4_revoke_4 : decode cX4_revoke 4 = .ok (.invokevirtual 142, 3) := by decide +kernel
theorem dX4_revoke_7 : decode cX4_revoke 7 = .ok (.aload_n 0, 1) := by decide +kernel
theorem dX4_revoke_8 : decode cX4_revoke 8 = .ok (.getfield 32, 3) := by decide +kernel
theorem dX4_revoke_11 : decode cX4_revoke 11 = .ok (.iload_n 1, 1) := by decide +kernel
theorem dX4_revoke_12 : decode cX4_revoke 12 = .ok (.iload_n 2, 1) := by decide +kernel
theorem dX4_revoke_13 : decode cX4_revoke 13 = .ok (.invokevirtual 145, 3) := by decide +kernel
theorem dX4_revoke_16 : decode cX4_revoke 16 = .ok (.iload_n 3, 1) := by decide +kernel
theorem dX4_revoke_17 : decode cX4_revoke 17 = .ok (.if_icmp .ge 13, 3) := by decide +kernel
theorem dX4_revoke_20 : decode cX4_revoke 20 = .ok (.new 55, 3) := by decide +kernel
theorem dX4_revoke_23 : decode cX4_revoke 23 = .ok (.dup, 1) := by decide +kernel
theorem dX4_revoke_24 : decode cX4_revoke 24 = .ok (.ldc 153, 2) := by decide +kernel
theorem dX4_revoke_26 : decode cX4_revoke 26 = .ok (.invokespecial 59, 3) := by decide +kernel
theorem dX4_revoke_29 : decode cX4_revoke 29 = .ok (.athrow, 1) := by decide +kernel
theorem dX4_revoke_30 : decode cX4_revoke 30 = .ok (.aload_n 0, 1) := by decide +kernel
theorem dX4_revoke_31 : decode cX4_revoke 31 = .ok (.iload_n 2, 1) := by decide +kernel
theorem dX4_revoke_32 : decode cX4_revoke 32 = .ok (.iload_n 3, 1) := by decide +kernel
theorem dX4_revoke_33 : decode cX4_revoke 33 = .ok (.invokevirtual 104, 3) := by decide +kernel
theorem dX4_revoke_36 : decode cX4_revoke 36 = .ok (.aload_n 0, 1) := by decide +kernel
theorem dX4_revoke_37 : decode cX4_revoke 37 = .ok (.getfield 32, 3) := by decide +kernel
theorem dX4_revoke_40 : decode cX4_revoke 40 = .ok (.iload_n 1, 1) := by decide +kernel
theorem dX4_revoke_41 : decode cX4_revoke 41 = .ok (.iload_n 2, 1) := by decide +kernel
theorem dX4_revoke_42 : decode cX4_revoke 42 = .ok (.iload_n 3, 1) := by decide +kernel
theorem dX4_revoke_43 : decode cX4_revoke 43 = .ok (.ineg, 1) := by decide +kernel
theorem dX4_revoke_44 : decode cX4_revoke 44 = .ok (.invokevirtual 150, 3) := by decide +kernel
theorem dX4_revoke_47 : decode cX4_revoke 47 = .ok (.aload_n 0, 1) := by decide +kernel
theorem dX4_revoke_48 : decode cX4_revoke 48 = .ok (.getfield 32, 3) := by decide +kernel
theorem dX4_revoke_51 : decode cX4_revoke 51 = .ok (.iload_n 1, 1) := by decide +kernel
theorem dX4_revoke_52 : decode cX4_revoke 52 = .ok (.iload_n 2, 1) := by decide +kernel
theorem dX4_revoke_53 : decode cX4_revoke 53 = .ok (.invokevirtual 145, 3) := by decide +kernel
theorem dX4_revoke_56 : decode cX4_revoke 56 = .ok (.ireturn, 1) := by decide +kernel
set_option maxRecDepth 20000 in
theorem ggX4_fee_X4_needRange : GoodIn wsX4_fee wsX4_needRange := goodIn_ca (goodIn_r _ [5, 6, 7] (by decide +kernel) (by decide +kernel)) (goodIn_sub (fun _ h => List.mem_cons_of_mem _ (List.mem_append_right _ h)) (by decide +kernel))
set_option maxRecDepth 20000 in
theorem gX4_fee_X4_needRange : GoodIn wsX4_fee (va_wsS RX4 92 yX4_needRange wsX4_needRange) := goodIn_app (goodIn_of _ (by decide +kernel)) ggX4_fee_X4_needRange
theorem dX4_fee_0 : decode cX4_fee 0 = .ok (.iload_n 1, 1) := by decide +kernel
theorem dX4_fee_1 : decode cX4_fee 1 = .ok (.iconst 0, 1) := by decide +kernel
theorem dX4_fee_2 : decode cX4_fee 2 = .ok (.sipush 500, 3) := by decide +kernel
theorem dX4_fee_5 : decode cX4_fee 5 = .ok (.invokestatic 92, 3) := by decide +kernel
theorem dX4_fee_8 : decode cX4_fee 8 = .ok (.aload_n 0, 1) := by decide +kernel
theorem dX4_fee_9 : decode cX4_fee 9 = .ok (.getfield 52, 3) := by decide +kernel
theorem dX4_fee_12 : decode cX4_fee 12 = .ok (.istore_n 2, 1) := by decide +kernel
theorem dX4_fee_13 : decode cX4_fee 13 = .ok (.aload_n 0, 1) := by decide +kernel
theorem dX4_fee_14 : decode cX4_fee 14 = .ok (.iload_n 1, 1) := by decide +kernel
theorem dX4_fee_15 : decode cX4_fee 15 = .ok (.putfield 52, 3) := by decide +kernel
theorem dX4_fee_18 : decode cX4_fee 18 = .ok (.iload_n 2, 1) := by decide +kernel
theorem dX4_fee_19 : decode cX4_fee 19 = .ok (.ireturn, 1) := by decide +kernel
set_option maxRecDepth 20000 in
theorem ggX4_night_X4_needRange : GoodIn wsX4_night wsX4_needRange := goodIn_ca (goodIn_r _ [7, 8, 9] (by decide +kernel) (by decide +kernel)) (goodIn_sub (fun _ h => List.mem_cons_of_mem _ (List.mem_append_right _ h)) (by decide +kernel))
set_option maxRecDepth 20000 in
theorem gX4_night_X4_needRange : GoodIn wsX4_night (va_wsS RX4 92 yX4_needRange wsX4_needRange) := goodIn_app (goodIn_of _ (by decide +kernel)) ggX4_night_X4_needRange
set_option maxRecDepth 20000 in
theorem ggX4_night_X1_netAll : GoodIn wsX4_night wsX1_netAll := goodIn_r _ [14, 15, 16, 17, 18, 13, 19, 20, 21, 22, 23, 24, 25, 26, 27, 28, 29, 30, 31, 32, 33, 34, 35, 36, 37, 38, 39, 40, 41, 42, 43, 44, 45, 46, 47, 48, 49, 50, 51, 52, 53, 54, 55, 56, 57, 58, 59, 60, 61, 62, 63, 64, 65, 66, 67, 68, 69, 70, 71, 72, 73, 74, 75, 76, 77, 143, 144, 145, 146, 147, 148, 149] (by decide +kernel) (by decide +kernel)
set_option maxRecDepth 20000 in
theorem gX4_night_X1_netAll : GoodIn wsX4_night (wsV RX4 155 RX1 yX1_netAll wsX1_netAll) := goodIn_app (goodIn_of _ (by decide +kernel)) ggX4_night_X1_netAll
set_option maxRecDepth 20000 in
theorem ggX4_night_X4_payFees : GoodIn wsX4_night wsX4_payFees := goodIn_r _ [81, 82, 83, 84, 6, 85, 2, 86, 3, 87, 88, 89, 51, 90, 53, 91, 92, 93, 24, 94, 31, 76, 45, 46, 47, 26, 27, 28, 29, 30, 32, 95, 96, 97, 98, 99, 100, 101, 102, 103, 104, 105, 106, 107, 108, 109, 110, 111, 112, 113, 114, 115, 116, 117, 118, 119, 120, 65, 66, 67, 121, 122, 123, 124, 125, 54, 126, 127, 128, 129, 130, 49, 50, 52, 55, 131, 132, 69, 70, 71, 72, 73, 74, 75, 77, 22, 23, 25, 133, 134, 135, 136, 137, 138, 139, 140, 141, 142, 148, 149, 145, 146, 147, 150, 151] (by decide +kernel) (by decide +kernel)
set_option maxRecDepth 20000 in
theorem gX4_night_X4_payFees : GoodIn wsX4_night (wsV RX4 159 RX4 yX4_payFees wsX4_payFees) := goodIn_app (goodIn_of _ (by decide +kernel)) ggX4_night_X4_payFees
theorem dX4_night_0 : decode cX4_night 0 = .ok (.iload_n 1, 1) := by decide +kernel
theorem dX4_night_1 : decode cX4_night 1 = .ok (.iconst 1, 1) := by decide +kernel
theorem dX4_night_2 : decode cX4_night 2 = .ok (.bipush 20, 2) := by decide +kernel
theorem dX4_night_4 : decode cX4_night 4 = .ok (.invokestatic 92, 3) := by decide +kernel
theorem dX4_night_7 : decode cX4_night 7 = .ok (.iconst 0, 1) := by decide +kernel
theorem dX4_night_8 : decode cX4_night 8 = .ok (.istore_n 2, 1) := by decide +kernel
theorem dX4_night_9 : decode cX4_night 9 = .ok (.iload_n 2, 1) := by decide +kernel
theorem dX4_night_10 : decode cX4_night 10 = .ok (.iload_n 1, 1) := by decide +kernel
theorem dX4_night_11 : decode cX4_night 11 = .ok (.if_icmp .ge 40, 3) := by decide +kernel
theorem dX4_night_14 : decode cX4_night 14 = .ok (.iload_n 2, 1) := by decide +kernel
theorem dX4_night_15 : decode cX4_night 15 = .ok (.bipush 20, 2) := by decide +kernel
theorem dX4_night_17 : decode cX4_night 17 = .ok (.if_icmp .ge 34, 3) := by decide +kernel
theorem dX4_night_20 : decode cX4_night 20 = .ok (.aload_n 0, 1) := by decide +kernel
theorem dX4_night_21 : decode cX4_night 21 = .ok (.getfield 41, 3) := by decide +kernel
theorem dX4_night_24 : decode cX4_night 24 = .ok (.aload_n 0, 1) := by decide +kernel
theorem dX4_night_25 : decode cX4_night 25 = .ok (.getfield 28, 3) := by decide +kernel
theorem dX4_night_28 : decode cX4_night 28 = .ok (.invokevirtual 155, 3) := by decide +kernel
theorem dX4_night_31 : decode cX4_night 31 = .ok (.aload_n 0, 1) := by decide +kernel
theorem dX4_night_32 : decode cX4_night 32 = .ok (.invokevirtual 159, 3) := by decide +kernel
theorem dX4_night_35 : decode cX4_night 35 = .ok (.aload_n 0, 1) := by decide +kernel
theorem dX4_night_36 : decode cX4_night 36 = .ok (.dup, 1) := by decide +kernel
theorem dX4_night_37 : decode cX4_night 37 = .ok (.getfield 49, 3) := by decide +kernel
theorem dX4_night_40 : decode cX4_night 40 = .ok (.iconst 1, 1) := by decide +kernel
theorem dX4_night_41 : decode cX4_night 41 = .ok (.iadd, 1) := by decide +kernel
theorem dX4_night_42 : decode cX4_night 42 = .ok (.putfield 49, 3) := by decide +kernel
theorem dX4_night_45 : decode cX4_night 45 = .ok (.iinc 2 1, 3) := by decide +kernel
theorem dX4_night_48 : decode cX4_night 48 = .ok (.goto (-39), 3) := by decide +kernel
theorem dX4_night_51 : decode cX4_night 51 = .ok (.aload_n 0, 1) := by decide +kernel
theorem dX4_night_52 : decode cX4_night 52 = .ok (.getfield 49, 3) := by decide +kernel
theorem dX4_night_55 : decode cX4_night 55 = .ok (.ireturn, 1) := by decide +kernel
set_option maxRecDepth 20000 in
theorem ggX4_balance_X4_needShopEverOrHouse : GoodIn wsX4_balance wsX4_needShopEverOrHouse := goodIn_ca (goodIn_r _ [6, 7, 8, 9, 5, 10, 11, 12, 13, 14, 15, 16, 17, 44, 45, 46, 47, 48, 49, 50, 51, 52] (by decide +kernel) (by decide +kernel)) (goodIn_sub (fun _ h => List.mem_cons_of_mem _ (List.mem_append_right _ h)) (by decide +kernel))
set_option maxRecDepth 20000 in
theorem gX4_balance_X4_needShopEverOrHouse : GoodIn wsX4_balance (wsV RX4 162 RX4 yX4_needShopEverOrHouse wsX4_needShopEverOrHouse) := goodIn_app (goodIn_of _ (by decide +kernel)) ggX4_balance_X4_needShopEverOrHouse
set_option maxRecDepth 20000 in
theorem ggX4_balance_X0_balanceOf : GoodIn wsX4_balance wsX0_balanceOf := goodIn_r _ [22, 23, 24, 25, 26, 27, 28, 29, 30, 31, 32, 33, 34, 35, 36, 37, 38, 39, 40, 41, 42, 43, 53, 54, 55, 56, 57] (by decide +kernel) (by decide +kernel)
set_option maxRecDepth 20000 in
theorem gX4_balance_X0_balanceOf : GoodIn wsX4_balance (wsV RX4 165 RX0 yX0_balanceOf wsX0_balanceOf) := goodIn_app (goodIn_of _ (by decide +kernel)) ggX4_balance_X0_balanceOf
theorem dX4_balance_0 : decode cX4_balance 0 = .ok (.aload_n 0, 1) := by decide +kernel
theorem dX4_balance_1 : decode cX4_balance 1 = .ok (.iload_n 1, 1) := by decide +kernel
theorem dX4_balance_2 : decode cX4_balance 2 = .ok (.invokevirtual 162, 3) := by decide +kernel
theorem dX4_balance_5 : decode cX4_balance 5 = .ok (.aload_n 0, 1) := by decide +kernel
theorem dX4_balance_6 : decode cX4_balance 6 = .ok (.getfield 28, 3) := by decide +kernel
theorem dX4_balance_9 : decode cX4_balance 9 = .ok (.iload_n 1, 1) := by decide +kernel
theorem dX4_balance_10 : decode cX4_balance 10 = .ok (.invokevirtual 165, 3) := by decide +kernel
theorem dX4_balance_13 : decode cX4_balance 13 = .ok (.ireturn, 1) := by decide +kernel
set_option maxRecDepth 20000 in
theorem ggX4_balanceAnew_X4_needShopEverOrHouse : GoodIn wsX4_balanceAnew wsX4_needShopEverOrHouse := goodIn_ca (goodIn_r _ [7, 8, 9, 10, 6, 11, 12, 13, 14, 15, 16, 17, 18, 51, 52, 53, 54, 55, 56, 57, 58, 59] (by decide +kernel) (by decide +kernel)) (goodIn_sub (fun _ h => List.mem_cons_of_mem _ (List.mem_append_right _ h)) (by decide +kernel))
set_option maxRecDepth 20000 in
theorem gX4_balanceAnew_X4_needShopEverOrHouse : GoodIn wsX4_balanceAnew (wsV RX4 162 RX4 yX4_needShopEverOrHouse wsX4_needShopEverOrHouse) := goodIn_app (goodIn_of _ (by decide +kernel)) ggX4_balanceAnew_X4_needShopEverOrHouse
set_option maxRecDepth 20000 in
theorem ggX4_balanceAnew_X3_balanceOf : GoodIn wsX4_balanceAnew wsX3_balanceOf := goodIn_r _ [23, 24, 25, 26, 27, 22, 28, 29, 30, 31, 32, 33, 34, 35, 36, 37, 38, 39, 40, 41, 60, 61, 62, 63, 64] (by decide +kernel) (by decide +kernel)
set_option maxRecDepth 20000 in
theorem gX4_balanceAnew_X3_balanceOf : GoodIn wsX4_balanceAnew (wsV RX4 168 RX3 yX3_balanceOf wsX3_balanceOf) := goodIn_app (goodIn_of _ (by decide +kernel)) ggX4_balanceAnew_X3_balanceOf
set_option maxRecDepth 20000 in
theorem ggX4_balanceAnew_X2_columnSum : GoodIn wsX4_balanceAnew wsX2_columnSum := goodIn_r _ [45, 40, 46, 31, 32, 33, 34, 35, 36, 37, 38, 39, 41, 62, 63, 64] (by decide +kernel) (by decide +kernel)
set_option maxRecDepth 20000 in
theorem gX4_balanceAnew_X2_columnSum : GoodIn wsX4_balanceAnew (wsV RX4 169 RX2 yX2_columnSum wsX2_columnSum) := goodIn_app (goodIn_of _ (by decide +kernel)) ggX4_balanceAnew_X2_columnSum
set_option maxRecDepth 20000 in
theorem ggX4_balanceAnew_X2_rowSum : GoodIn wsX4_balanceAnew wsX2_rowSum := goodIn_r _ [50, 41, 46, 31, 32, 33, 34, 35, 36, 37, 38, 39, 40, 62, 63, 64] (by decide +kernel) (by decide +kernel)
set_option maxRecDepth 20000 in
theorem gX4_balanceAnew_X2_rowSum : GoodIn wsX4_balanceAnew (wsV RX4 172 RX2 yX2_rowSum wsX2_rowSum) := goodIn_app (goodIn_of _ (by decide +kernel)) ggX4_balanceAnew_X2_rowSum
theorem dX4_balanceAnew_0 : decode cX4_balanceAnew 0 = .ok (.aload_n 0, 1) := by decide +kernel
theorem dX4_balanceAnew_1 : decode cX4_balanceAnew 1 = .ok (.iload_n 1, 1) := by decide +kernel
theorem dX4_balanceAnew_2 : decode cX4_balanceAnew 2 = .ok (.invokevirtual 162, 3) := by decide +kernel
theorem dX4_balanceAnew_5 : decode cX4_balanceAnew 5 = .ok (.aload_n 0, 1) := by decide +kernel
theorem dX4_balanceAnew_6 : decode cX4_balanceAnew 6 = .ok (.getfield 21, 3) := by decide +kernel
theorem dX4_balanceAnew_9 : decode cX4_balanceAnew 9 = .ok (.iload_n 1, 1) := by decide +kernel
theorem dX4_balanceAnew_10 : decode cX4_balanceAnew 10 = .ok (.invokevirtual 168, 3) := by decide +kernel
theorem dX4_balanceAnew_13 : decode cX4_balanceAnew 13 = .ok (.aload_n 0, 1) := by decide +kernel
theorem dX4_balanceAnew_14 : decode cX4_balanceAnew 14 = .ok (.getfield 35, 3) := by decide +kernel
theorem dX4_balanceAnew_17 : decode cX4_balanceAnew 17 = .ok (.iload_n 1, 1) := by decide +kernel
theorem dX4_balanceAnew_18 : decode cX4_balanceAnew 18 = .ok (.invokevirtual 169, 3) := by decide +kernel
theorem dX4_balanceAnew_21 : decode cX4_balanceAnew 21 = .ok (.iadd, 1) := by decide +kernel
theorem dX4_balanceAnew_22 : decode cX4_balanceAnew 22 = .ok (.aload_n 0, 1) := by decide +kernel
theorem dX4_balanceAnew_23 : decode cX4_balanceAnew 23 = .ok (.getfield 35, 3) := by decide +kernel
theorem dX4_balanceAnew_26 : decode cX4_balanceAnew 26 = .ok (.iload_n 1, 1) := by decide +kernel
theorem dX4_balanceAnew_27 : decode cX4_balanceAnew 27 = .ok (.invokevirtual 172, 3) := by decide +kernel
theorem dX4_balanceAnew_30 : decode cX4_balanceAnew 30 = .ok (.isub, 1) := by decide +kernel
theorem dX4_balanceAnew_31 : decode cX4_balanceAnew 31 = .ok (.ireturn, 1) := by decide +kernel
set_option maxRecDepth 20000 in
theorem ggX4_limit_X4_needShop : GoodIn wsX4_limit wsX4_needShop := goodIn_ca (goodIn_r _ [5, 6, 7, 8, 9, 10, 4, 11, 12, 13, 14, 15, 16, 17, 18, 19, 20, 21, 22, 23, 24, 25, 26, 27, 28, 29, 62, 63, 64, 65, 66, 67, 68, 69, 70, 71, 72, 73] (by decide +kernel) (by decide +kernel)) (goodIn_sub (fun _ h => List.mem_cons_of_mem _ (List.mem_append_right _ h)) (by decide +kernel))
set_option maxRecDepth 20000 in
theorem gX4_limit_X4_needShop : GoodIn wsX4_limit (wsV RX4 62 RX4 yX4_needShop wsX4_needShop) := goodIn_app (goodIn_of _ (by decide +kernel)) ggX4_limit_X4_needShop
set_option maxRecDepth 20000 in
theorem ggX4_limit_X4_limitOf : GoodIn wsX4_limit wsX4_limitOf := goodIn_r _ [33, 34, 35, 36, 37, 38, 39, 40, 41, 42, 43, 44, 45, 46, 47, 48, 49, 50, 51, 52, 19, 20, 21, 22, 23, 24, 25, 26, 27, 28, 29, 53, 54, 55, 56, 57, 58, 59, 60, 61, 62, 63, 64, 65, 66, 67, 68, 69, 70, 74, 75, 71, 72, 73] (by decide +kernel) (by decide +kernel)
set_option maxRecDepth 20000 in
theorem gX4_limit_X4_limitOf : GoodIn wsX4_limit (wsV RX4 175 RX4 yX4_limitOf wsX4_limitOf) := goodIn_app (goodIn_of _ (by decide +kernel)) ggX4_limit_X4_limitOf
theorem dX4_limit_0 : decode cX4_limit 0 = .ok (.aload_n 0, 1) := by decide +kernel
theorem dX4_limit_1 : decode cX4_limit 1 = .ok (.iload_n 1, 1) := by decide +kernel
theorem dX4_limit_2 : decode cX4_limit 2 = .ok (.invokevirtual 62, 3) := by decide +kernel
theorem dX4_limit_5 : decode cX4_limit 5 = .ok (.aload_n 0, 1) := by decide +kernel
theorem dX4_limit_6 : decode cX4_limit 6 = .ok (.iload_n 1, 1) := by decide +kernel
theorem dX4_limit_7 : decode cX4_limit 7 = .ok (.invokevirtual 175, 3) := by decide +kernel
theorem dX4_limit_10 : decode cX4_limit 10 = .ok (.ireturn, 1) := by decide +kernel
set_option maxRecDepth 20000 in
theorem ggX4_owes_X4_needShopEver : GoodIn wsX4_owes wsX4_needShopEver := goodIn_ca (goodIn_r _ [6, 7, 8, 9, 10, 11, 5, 12, 13, 36, 37, 38, 39, 40, 41, 42, 43, 44] (by decide +kernel) (by decide +kernel)) (goodIn_sub (fun _ h => List.mem_cons_of_mem _ (List.mem_append_right _ h)) (by decide +kernel))
set_option maxRecDepth 20000 in
theorem gX4_owes_X4_needShopEver : GoodIn wsX4_owes (wsV RX4 178 RX4 yX4_needShopEver wsX4_needShopEver) := goodIn_app (goodIn_of _ (by decide +kernel)) ggX4_owes_X4_needShopEver
set_option maxRecDepth 20000 in
theorem ggX4_owes_X4_needShopEverOrHouse : GoodIn wsX4_owes wsX4_needShopEverOrHouse := goodIn_ca (goodIn_r _ [17, 2, 3, 4, 5, 6, 7, 8, 9, 10, 11, 12, 13, 36, 37, 38, 39, 40, 41, 42, 43, 44] (by decide +kernel) (by decide +kernel)) (goodIn_sub (fun _ h => List.mem_cons_of_mem _ (List.mem_append_right _ h)) (by decide +kernel))
set_option maxRecDepth 20000 in
theorem gX4_owes_X4_needShopEverOrHouse : GoodIn wsX4_owes (wsV RX4 162 RX4 yX4_needShopEverOrHouse wsX4_needShopEverOrHouse) := goodIn_app (goodIn_of _ (by decide +kernel)) ggX4_owes_X4_needShopEverOrHouse
set_option maxRecDepth 20000 in
theorem ggX4_owes_X0_owed : GoodIn wsX4_owes wsX0_owed := goodIn_r _ [22, 23, 24, 25, 26, 27, 28, 29, 30, 31, 32, 33, 34, 35, 45, 46, 47, 48, 49] (by decide +kernel) (by decide +kernel)
set_option maxRecDepth 20000 in
theorem gX4_owes_X0_owed : GoodIn wsX4_owes (wsV RX4 181 RX0 yX0_owed wsX0_owed) := goodIn_app (goodIn_of _ (by decide +kernel)) ggX4_owes_X0_owed
theorem dX4_owes_0 : decode cX4_owes 0 = .ok (.aload_n 0, 1) := by decide +kernel
theorem dX4_owes_1 : decode cX4_owes 1 = .ok (.iload_n 1, 1) := by decide +kernel
theorem dX4_owes_2 : decode cX4_owes 2 = .ok (.invokevirtual 178, 3) := by decide +kernel
theorem dX4_owes_5 : decode cX4_owes 5 = .ok (.aload_n 0, 1) := by decide +kernel
theorem dX4_owes_6 : decode cX4_owes 6 = .ok (.iload_n 2, 1) := by decide +kernel
theorem dX4_owes_7 : decode cX4_owes 7 = .ok (.invokevirtual 162, 3) := by decide +kernel
theorem dX4_owes_10 : decode cX4_owes 10 = .ok (.aload_n 0, 1) := by decide +kernel
theorem dX4_owes_11 : decode cX4_owes 11 = .ok (.getfield 28, 3) := by decide +kernel
theorem dX4_owes_14 : decode cX4_owes 14 = .ok (.iload_n 1, 1) := by decide +kernel
theorem dX4_owes_15 : decode cX4_owes 15 = .ok (.iload_n 2, 1) := by decide +kernel
theorem dX4_owes_16 : decode cX4_owes 16 = .ok (.invokevirtual 181, 3) := by decide +kernel
theorem dX4_owes_19 : decode cX4_owes 19 = .ok (.ireturn, 1) := by decide +kernel
set_option maxRecDepth 20000 in
theorem ggX4_frozen_X4_needShopEver : GoodIn wsX4_frozen wsX4_needShopEver := goodIn_ca (goodIn_r _ [6, 7, 8, 9, 10, 11, 5, 12, 13, 32, 33, 34, 35, 36, 37, 38, 39, 40] (by decide +kernel) (by decide +kernel)) (goodIn_sub (fun _ h => List.mem_cons_of_mem _ (List.mem_append_right _ h)) (by decide +kernel))
set_option maxRecDepth 20000 in
theorem gX4_frozen_X4_needShopEver : GoodIn wsX4_frozen (wsV RX4 178 RX4 yX4_needShopEver wsX4_needShopEver) := goodIn_app (goodIn_of _ (by decide +kernel)) ggX4_frozen_X4_needShopEver
set_option maxRecDepth 20000 in
theorem ggX4_frozen_X0_frozenPart : GoodIn wsX4_frozen wsX0_frozenPart := goodIn_r _ [18, 19, 20, 21, 22, 23, 24, 25, 26, 27, 28, 29, 30, 31, 41, 42, 43, 44, 45] (by decide +kernel) (by decide +kernel)
set_option maxRecDepth 20000 in
theorem gX4_frozen_X0_frozenPart : GoodIn wsX4_frozen (wsV RX4 184 RX0 yX0_frozenPart wsX0_frozenPart) := goodIn_app (goodIn_of _ (by decide +kernel)) ggX4_frozen_X0_frozenPart
theorem dX4_frozen_0 : decode cX4_frozen 0 = .ok (.aload_n 0, 1) := by decide +kernel
theorem dX4_frozen_1 : decode cX4_frozen 1 = .ok (.iload_n 1, 1) := by decide +kernel
theorem dX4_frozen_2 : decode cX4_frozen 2 = .ok (.invokevirtual 178, 3) := by decide +kernel
theorem dX4_frozen_5 : decode cX4_frozen 5 = .ok (.aload_n 0, 1) := by decide +kernel
theorem dX4_frozen_6 : decode cX4_frozen 6 = .ok (.iload_n 2, 1) := by decide +kernel
theorem dX4_frozen_7 : decode cX4_frozen 7 = .ok (.invokevirtual 178, 3) := by decide +kernel
theorem dX4_frozen_10 : decode cX4_frozen 10 = .ok (.aload_n 0, 1) := by decide +kernel
theorem dX4_frozen_11 : decode cX4_frozen 11 = .ok (.getfield 28, 3) := by decide +kernel
theorem dX4_frozen_14 : decode cX4_frozen 14 = .ok (.iload_n 1, 1) := by decide +kernel
theorem dX4_frozen_15 : decode cX4_frozen 15 = .ok (.iload_n 2, 1) := by decide +kernel
theorem dX4_frozen_16 : decode cX4_frozen 16 = .ok (.invokevirtual 184, 3) := by decide +kernel
theorem dX4_frozen_19 : decode cX4_frozen 19 = .ok (.ireturn, 1) := by decide +kernel
set_option maxRecDepth 20000 in
theorem ggX4_ofTrade_X4_needTrade : GoodIn wsX4_ofTrade wsX4_needTrade := goodIn_ca (goodIn_r _ [6, 7, 8, 1, 9, 10, 11, 12, 13, 14, 37, 38, 39, 40, 41, 42, 43, 44, 45, 46, 47] (by decide +kernel) (by decide +kernel)) (goodIn_sub (fun _ h => List.mem_cons_of_mem _ (List.mem_append_left _ (List.mem_append_right _ h))) (by decide +kernel))
set_option maxRecDepth 20000 in
theorem gX4_ofTrade_X4_needTrade : GoodIn wsX4_ofTrade (wsV RX4 114 RX4 yX4_needTrade wsX4_needTrade) := goodIn_app (goodIn_of _ (by decide +kernel)) ggX4_ofTrade_X4_needTrade
set_option maxRecDepth 20000 in
theorem ggX4_ofTrade_X4_needRange : GoodIn wsX4_ofTrade wsX4_needRange := goodIn_ca (goodIn_r _ [17, 18, 19] (by decide +kernel) (by decide +kernel)) (goodIn_sub (fun _ h => List.mem_cons_of_mem _ (List.mem_append_right _ h)) (by decide +kernel))
set_option maxRecDepth 20000 in
theorem gX4_ofTrade_X4_needRange : GoodIn wsX4_ofTrade (va_wsS RX4 92 yX4_needRange wsX4_needRange) := goodIn_app (goodIn_of _ (by decide +kernel)) ggX4_ofTrade_X4_needRange
set_option maxRecDepth 20000 in
theorem ggX4_ofTrade_X3_of : GoodIn wsX4_ofTrade wsX3_of := goodIn_r _ [23, 24, 25, 26, 27, 28, 29, 30, 31, 32, 33, 34, 35, 36, 46, 47, 48, 49, 50] (by decide +kernel) (by decide +kernel)
set_option maxRecDepth 20000 in
theorem gX4_ofTrade_X3_of : GoodIn wsX4_ofTrade (wsV RX4 117 RX3 yX3_of wsX3_of) := goodIn_app (goodIn_of _ (by decide +kernel)) ggX4_ofTrade_X3_of
theorem dX4_ofTrade_0 : decode cX4_ofTrade 0 = .ok (.aload_n 0, 1) := by decide +kernel
theorem dX4_ofTrade_1 : decode cX4_ofTrade 1 = .ok (.iload_n 1, 1) := by decide +kernel
theorem dX4_ofTrade_2 : decode cX4_ofTrade 2 = .ok (.invokevirtual 114, 3) := by decide +kernel
theorem dX4_ofTrade_5 : decode cX4_ofTrade 5 = .ok (.iload_n 2, 1) := by decide +kernel
theorem dX4_ofTrade_6 : decode cX4_ofTrade 6 = .ok (.iconst 0, 1) := by decide +kernel
theorem dX4_ofTrade_7 : decode cX4_ofTrade 7 = .ok (.iconst 5, 1) := by decide +kernel
theorem dX4_ofTrade_8 : decode cX4_ofTrade 8 = .ok (.invokestatic 92, 3) := by decide +kernel
theorem dX4_ofTrade_11 : decode cX4_ofTrade 11 = .ok (.aload_n 0, 1) := by decide +kernel
theorem dX4_ofTrade_12 : decode cX4_ofTrade 12 = .ok (.getfield 21, 3) := by decide +kernel
theorem dX4_ofTrade_15 : decode cX4_ofTrade 15 = .ok (.iload_n 1, 1) := by decide +kernel
theorem dX4_ofTrade_16 : decode cX4_ofTrade 16 = .ok (.iload_n 2, 1) := by decide +kernel
theorem dX4_ofTrade_17 : decode cX4_ofTrade 17 = .ok (.invokevirtual 117, 3) := by decide +kernel
theorem dX4_ofTrade_20 : decode cX4_ofTrade 20 = .ok (.ireturn, 1) := by decide +kernel
set_option maxRecDepth 20000 in
theorem ggX4_guaranteed_X4_needShopEver : GoodIn wsX4_guaranteed wsX4_needShopEver := goodIn_ca (goodIn_r _ [6, 7, 8, 9, 10, 11, 5, 12, 13, 26, 27, 28, 29, 30, 31, 32, 33, 34] (by decide +kernel) (by decide +kernel)) (goodIn_sub (fun _ h => List.mem_cons_of_mem _ (List.mem_append_right _ h)) (by decide +kernel))
set_option maxRecDepth 20000 in
theorem gX4_guaranteed_X4_needShopEver : GoodIn wsX4_guaranteed (wsV RX4 178 RX4 yX4_needShopEver wsX4_needShopEver) := goodIn_app (goodIn_of _ (by decide +kernel)) ggX4_guaranteed_X4_needShopEver
set_option maxRecDepth 20000 in
theorem ggX4_guaranteed_X2_get : GoodIn wsX4_guaranteed wsX2_get := goodIn_r _ [18, 19, 20, 21, 22, 17, 23, 24, 25, 35, 36, 37] (by decide +kernel) (by decide +kernel)
set_option maxRecDepth 20000 in
theorem gX4_guaranteed_X2_get : GoodIn wsX4_guaranteed (wsV RX4 145 RX2 yX2_get wsX2_get) := goodIn_app (goodIn_of _ (by decide +kernel)) ggX4_guaranteed_X2_get
theorem dX4_guaranteed_0 : decode cX4_guaranteed 0 = .ok (.aload_n 0, 1) := by decide +kernel
theorem dX4_guaranteed_1 : decode cX4_guaranteed 1 = .ok (.iload_n 1, 1) := by decide +kernel
theorem dX4_guaranteed_2 : decode cX4_guaranteed 2 = .ok (.invokevirtual 178, 3) := by decide +kernel
theorem dX4_guaranteed_5 : decode cX4_guaranteed 5 = .ok (.aload_n 0, 1) := by decide +kernel
theorem dX4_guaranteed_6 : decode cX4_guaranteed 6 = .ok (.iload_n 2, 1) := by decide +kernel
theorem dX4_guaranteed_7 : decode cX4_guaranteed 7 = .ok (.invokevirtual 178, 3) := by decide +kernel
theorem dX4_guaranteed_10 : decode cX4_guaranteed 10 = .ok (.aload_n 0, 1) := by decide +kernel
theorem dX4_guaranteed_11 : decode cX4_guaranteed 11 = .ok (.getfield 32, 3) := by decide +kernel
theorem dX4_guaranteed_14 : decode cX4_guaranteed 14 = .ok (.iload_n 1, 1) := by decide +kernel
theorem dX4_guaranteed_15 : decode cX4_guaranteed 15 = .ok (.iload_n 2, 1) := by decide +kernel
theorem dX4_guaranteed_16 : decode cX4_guaranteed 16 = .ok (.invokevirtual 145, 3) := by decide +kernel
theorem dX4_guaranteed_19 : decode cX4_guaranteed 19 = .ok (.ireturn, 1) := by decide +kernel
set_option maxRecDepth 20000 in
theorem ggX4_goods_X4_needShopEver : GoodIn wsX4_goods wsX4_needShopEver := goodIn_ca (goodIn_r _ [6, 7, 8, 9, 10, 11, 5, 12, 13, 26, 27, 28, 29, 30, 31, 32, 33, 34] (by decide +kernel) (by decide +kernel)) (goodIn_sub (fun _ h => List.mem_cons_of_mem _ (List.mem_append_right _ h)) (by decide +kernel))
set_option maxRecDepth 20000 in
theorem gX4_goods_X4_needShopEver : GoodIn wsX4_goods (wsV RX4 178 RX4 yX4_needShopEver wsX4_needShopEver) := goodIn_app (goodIn_of _ (by decide +kernel)) ggX4_goods_X4_needShopEver
set_option maxRecDepth 20000 in
theorem ggX4_goods_X2_get : GoodIn wsX4_goods wsX2_get := goodIn_r _ [18, 19, 20, 21, 22, 17, 23, 24, 25, 35, 36, 37] (by decide +kernel) (by decide +kernel)
set_option maxRecDepth 20000 in
theorem gX4_goods_X2_get : GoodIn wsX4_goods (wsV RX4 145 RX2 yX2_get wsX2_get) := goodIn_app (goodIn_of _ (by decide +kernel)) ggX4_goods_X2_get
theorem dX4_goods_0 : decode cX4_goods 0 = .ok (.aload_n 0, 1) := by decide +kernel
theorem dX4_goods_1 : decode cX4_goods 1 = .ok (.iload_n 1, 1) := by decide +kernel
theorem dX4_goods_2 : decode cX4_goods 2 = .ok (.invokevirtual 178, 3) := by decide +kernel
theorem dX4_goods_5 : decode cX4_goods 5 = .ok (.aload_n 0, 1) := by decide +kernel
theorem dX4_goods_6 : decode cX4_goods 6 = .ok (.getfield 14, 3) := by decide +kernel
theorem dX4_goods_9 : decode cX4_goods 9 = .ok (.iload_n 1, 1) := by decide +kernel
theorem dX4_goods_10 : decode cX4_goods 10 = .ok (.iconst 1, 1) := by decide +kernel
theorem dX4_goods_11 : decode cX4_goods 11 = .ok (.invokevirtual 145, 3) := by decide +kernel
theorem dX4_goods_14 : decode cX4_goods 14 = .ok (.ireturn, 1) := by decide +kernel
set_option maxRecDepth 20000 in
theorem ggX4_isIdle_X4_needShop : GoodIn wsX4_isIdle wsX4_needShop := goodIn_ca (goodIn_r _ [5, 6, 7, 8, 9, 10, 4, 11, 12, 13, 14, 15, 16, 17, 18, 19, 20, 21, 22, 23, 24, 25, 26, 27, 28, 29, 68, 69, 70, 71, 72, 73, 74, 75, 76, 77, 78, 79] (by decide +kernel) (by decide +kernel)) (goodIn_sub (fun _ h => List.mem_cons_of_mem _ (List.mem_append_right _ h)) (by decide +kernel))
set_option maxRecDepth 20000 in
theorem gX4_isIdle_X4_needShop : GoodIn wsX4_isIdle (wsV RX4 62 RX4 yX4_needShop wsX4_needShop) := goodIn_app (goodIn_of _ (by decide +kernel)) ggX4_isIdle_X4_needShop
set_option maxRecDepth 20000 in
theorem ggX4_isIdle_X4_isIdleShop : GoodIn wsX4_isIdle wsX4_isIdleShop := goodIn_r _ [33, 34, 35, 36, 37, 38, 39, 40, 41, 42, 43, 44, 45, 21, 46, 28, 47, 19, 20, 22, 23, 24, 25, 26, 27, 29, 48, 49, 50, 51, 52, 53, 54, 55, 56, 57, 58, 59, 60, 61, 62, 63, 64, 65, 66, 67, 68, 69, 70, 71, 72, 73, 74, 75, 76, 80, 81, 77, 78, 79, 82, 83] (by decide +kernel) (by decide +kernel)
set_option maxRecDepth 20000 in
theorem gX4_isIdle_X4_isIdleShop : GoodIn wsX4_isIdle (wsV RX4 187 RX4 yX4_isIdleShop wsX4_isIdleShop) := goodIn_app (goodIn_of _ (by decide +kernel)) ggX4_isIdle_X4_isIdleShop
theorem dX4_isIdle_0 : decode cX4_isIdle 0 = .ok (.aload_n 0, 1) := by decide +kernel
theorem dX4_isIdle_1 : decode cX4_isIdle 1 = .ok (.iload_n 1, 1) := by decide +kernel
theorem dX4_isIdle_2 : decode cX4_isIdle 2 = .ok (.invokevirtual 62, 3) := by decide +kernel
theorem dX4_isIdle_5 : decode cX4_isIdle 5 = .ok (.aload_n 0, 1) := by decide +kernel
theorem dX4_isIdle_6 : decode cX4_isIdle 6 = .ok (.iload_n 1, 1) := by decide +kernel
theorem dX4_isIdle_7 : decode cX4_isIdle 7 = .ok (.invokevirtual 187, 3) := by decide +kernel
theorem dX4_isIdle_10 : decode cX4_isIdle 10 = .ok (.ireturn, 1) := by decide +kernel
set_option maxRecDepth 20000 in
theorem ggX4_rings_X1_size : GoodIn wsX4_rings wsX1_size := goodIn_r _ [6, 7, 17, 18] (by decide +kernel) (by decide +kernel)
set_option maxRecDepth 20000 in
theorem gX4_rings_X1_size : GoodIn wsX4_rings (wsV RX4 190 RX1 yX1_size wsX1_size) := goodIn_app (goodIn_of _ (by decide +kernel)) ggX4_rings_X1_size
theorem dX4_rings_0 : decode cX4_rings 0 = .ok (.aload_n 0, 1) := by decide +kernel
theorem dX4_rings_1 : decode cX4_rings 1 = .ok (.getfield 41, 3) := by decide +kernel
theorem dX4_rings_4 : decode cX4_rings 4 = .ok (.invokevirtual 190, 3) := by decide +kernel
theorem dX4_rings_7 : decode cX4_rings 7 = .ok (.ireturn, 1) := by decide +kernel
set_option maxRecDepth 20000 in
theorem ggX4_ring_X1_size : GoodIn wsX4_ring wsX1_size := goodIn_r _ [8, 9, 42, 43] (by decide +kernel) (by decide +kernel)
set_option maxRecDepth 20000 in
theorem gX4_ring_X1_size : GoodIn wsX4_ring (wsV RX4 190 RX1 yX1_size wsX1_size) := goodIn_app (goodIn_of _ (by decide +kernel)) ggX4_ring_X1_size
set_option maxRecDepth 20000 in
theorem ggX4_ring_X4_needRange : GoodIn wsX4_ring wsX4_needRange := goodIn_ca (goodIn_r _ [13, 14, 15] (by decide +kernel) (by decide +kernel)) (goodIn_sub (fun _ h => List.mem_cons_of_mem _ (List.mem_append_right _ h)) (by decide +kernel))
set_option maxRecDepth 20000 in
theorem gX4_ring_X4_needRange : GoodIn wsX4_ring (va_wsS RX4 92 yX4_needRange wsX4_needRange) := goodIn_app (goodIn_of _ (by decide +kernel)) ggX4_ring_X4_needRange
set_option maxRecDepth 20000 in
theorem ggX4_ring_X1_of : GoodIn wsX4_ring wsX1_of := goodIn_r _ [19, 20, 21, 22, 23, 24, 25, 26, 27, 28, 29, 30, 31, 32, 42, 43, 44, 45, 46] (by decide +kernel) (by decide +kernel)
set_option maxRecDepth 20000 in
theorem gX4_ring_X1_of : GoodIn wsX4_ring (wsV RX4 199 RX1 yX1_of wsX1_of) := goodIn_app (goodIn_of _ (by decide +kernel)) ggX4_ring_X1_of
theorem dX4_ring_0 : decode cX4_ring 0 = .ok (.iload_n 1, 1) := by decide +kernel
theorem dX4_ring_1 : decode cX4_ring 1 = .ok (.ifCond .lt 14, 3) := by decide +kernel
theorem dX4_ring_4 : decode cX4_ring 4 = .ok (.iload_n 1, 1) := by decide +kernel
theorem dX4_ring_5 : decode cX4_ring 5 = .ok (.aload_n 0, 1) := by decide +kernel
theorem dX4_ring_6 : decode cX4_ring 6 = .ok (.getfield 41, 3) := by decide +kernel
theorem dX4_ring_9 : decode cX4_ring 9 = .ok (.invokevirtual 190, 3) := by decide +kernel
