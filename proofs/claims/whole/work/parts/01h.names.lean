set_option maxRecDepth 20000 in
theorem gX4_payFee_X0_open : GoodIn wsX4_payFee (wsV RX4 126 RX0 yX0_open wsX0_open) := goodIn_app (goodIn_of _ (by decide +kernel)) ggX4_payFee_X0_open
set_option maxRecDepth 20000 in
theorem ggX4_payFee_X0_more : GoodIn wsX4_payFee wsX0_more := goodIn_r _ [52, 13, 53, 54, 55, 17, 56, 20, 21, 22, 23, 24, 25, 26, 27, 28, 19, 29, 57, 58, 59, 60, 71, 72, 73, 74, 75] (by decide +kernel) (by decide +kernel)
set_option maxRecDepth 20000 in
theorem gX4_payFee_X0_more : GoodIn wsX4_payFee (wsV RX4 107 RX0 yX0_more wsX0_more) := goodIn_app (goodIn_of _ (by decide +kernel)) ggX4_payFee_X0_more
set_option maxRecDepth 20000 in
theorem ggX4_payFee_X2_add : GoodIn wsX4_payFee wsX2_add := goodIn_r _ [56, 20, 21, 22, 17, 23, 24, 25, 26, 27, 28, 19, 29, 57, 58, 59, 60, 73, 74, 75] (by decide +kernel) (by decide +kernel)
set_option maxRecDepth 20000 in
theorem gX4_payFee_X2_add : GoodIn wsX4_payFee (wsV RX4 150 RX2 yX2_add wsX2_add) := goodIn_app (goodIn_of _ (by decide +kernel)) ggX4_payFee_X2_add
theorem dX4_payFee_0 : decode cX4_payFee 0 = .ok (.aload_n 0, 1) := by decide +kernel
theorem dX4_payFee_1 : decode cX4_payFee 1 = .ok (.getfield 28, 3) := by decide +kernel
theorem dX4_payFee_4 : decode cX4_payFee 4 = .ok (.iload_n 1, 1) := by decide +kernel
theorem dX4_payFee_5 : decode cX4_payFee 5 = .ok (.invokevirtual 165, 3) := by decide +kernel
theorem dX4_payFee_8 : decode cX4_payFee 8 = .ok (.aload_n 0, 1) := by decide +kernel
theorem dX4_payFee_9 : decode cX4_payFee 9 = .ok (.getfield 52, 3) := by decide +kernel
theorem dX4_payFee_12 : decode cX4_payFee 12 = .ok (.imul, 1) := by decide +kernel
theorem dX4_payFee_13 : decode cX4_payFee 13 = .ok (.sipush 1000, 3) := by decide +kernel
theorem dX4_payFee_16 : decode cX4_payFee 16 = .ok (.idiv, 1) := by decide +kernel
theorem dX4_payFee_17 : decode cX4_payFee 17 = .ok (.istore_n 2, 1) := by decide +kernel
theorem dX4_payFee_18 : decode cX4_payFee 18 = .ok (.iload_n 2, 1) := by decide +kernel
theorem dX4_payFee_19 : decode cX4_payFee 19 = .ok (.aload_n 0, 1) := by decide +kernel
theorem dX4_payFee_20 : decode cX4_payFee 20 = .ok (.getfield 28, 3) := by decide +kernel
theorem dX4_payFee_23 : decode cX4_payFee 23 = .ok (.iload_n 1, 1) := by decide +kernel
theorem dX4_payFee_24 : decode cX4_payFee 24 = .ok (.invokevirtual 231, 3) := by decide +kernel
theorem dX4_payFee_27 : decode cX4_payFee 27 = .ok (.invokestatic 129, 3) := by decide +kernel
theorem dX4_payFee_30 : decode cX4_payFee 30 = .ok (.istore_n 3, 1) := by decide +kernel
theorem dX4_payFee_31 : decode cX4_payFee 31 = .ok (.iconst 0, 1) := by decide +kernel
theorem dX4_payFee_32 : decode cX4_payFee 32 = .ok (.istore 4, 2) := by decide +kernel
theorem dX4_payFee_34 : decode cX4_payFee 34 = .ok (.iload 4, 2) := by decide +kernel
theorem dX4_payFee_36 : decode cX4_payFee 36 = .ok (.bipush 8, 2) := by decide +kernel
theorem dX4_payFee_38 : decode cX4_payFee 38 = .ok (.if_icmp .ge 82, 3) := by decide +kernel
theorem dX4_payFee_41 : decode cX4_payFee 41 = .ok (.iload_n 3, 1) := by decide +kernel
theorem dX4_payFee_42 : decode cX4_payFee 42 = .ok (.ifCond .le 78, 3) := by decide +kernel
theorem dX4_payFee_45 : decode cX4_payFee 45 = .ok (.aload_n 0, 1) := by decide +kernel
theorem dX4_payFee_46 : decode cX4_payFee 46 = .ok (.getfield 28, 3) := by decide +kernel
theorem dX4_payFee_49 : decode cX4_payFee 49 = .ok (.iload_n 1, 1) := by decide +kernel
theorem dX4_payFee_50 : decode cX4_payFee 50 = .ok (.invokevirtual 234, 3) := by decide +kernel
theorem dX4_payFee_53 : decode cX4_payFee 53 = .ok (.istore 5, 2) := by decide +kernel
theorem dX4_payFee_55 : decode cX4_payFee 55 = .ok (.iload_n 3, 1) := by decide +kernel
theorem dX4_payFee_56 : decode cX4_payFee 56 = .ok (.aload_n 0, 1) := by decide +kernel
theorem dX4_payFee_57 : decode cX4_payFee 57 = .ok (.getfield 28, 3) := by decide +kernel
theorem dX4_payFee_60 : decode cX4_payFee 60 = .ok (.iload 5, 2) := by decide +kernel
theorem dX4_payFee_62 : decode cX4_payFee 62 = .ok (.iload_n 1, 1) := by decide +kernel
theorem dX4_payFee_63 : decode cX4_payFee 63 = .ok (.invokevirtual 126, 3) := by decide +kernel
theorem dX4_payFee_66 : decode cX4_payFee 66 = .ok (.invokestatic 129, 3) := by decide +kernel
theorem dX4_payFee_69 : decode cX4_payFee 69 = .ok (.istore 6, 2) := by decide +kernel
theorem dX4_payFee_71 : decode cX4_payFee 71 = .ok (.aload_n 0, 1) := by decide +kernel
theorem dX4_payFee_72 : decode cX4_payFee 72 = .ok (.getfield 28, 3) := by decide +kernel
theorem dX4_payFee_75 : decode cX4_payFee 75 = .ok (.iload 5, 2) := by decide +kernel
theorem dX4_payFee_77 : decode cX4_payFee 77 = .ok (.iload_n 1, 1) := by decide +kernel
theorem dX4_payFee_78 : decode cX4_payFee 78 = .ok (.iload 6, 2) := by decide +kernel
theorem dX4_payFee_80 : decode cX4_payFee 80 = .ok (.ineg, 1) := by decide +kernel
theorem dX4_payFee_81 : decode cX4_payFee 81 = .ok (.invokevirtual 107, 3) := by decide +kernel
theorem dX4_payFee_84 : decode cX4_payFee 84 = .ok (.aload_n 0, 1) := by decide +kernel
theorem dX4_payFee_85 : decode cX4_payFee 85 = .ok (.getfield 28, 3) := by decide +kernel
theorem dX4_payFee_88 : decode cX4_payFee 88 = .ok (.iload 5, 2) := by decide +kernel
theorem dX4_payFee_90 : decode cX4_payFee 90 = .ok (.bipush 8, 2) := by decide +kernel
theorem dX4_payFee_92 : decode cX4_payFee 92 = .ok (.iload 6, 2) := by decide +kernel
theorem dX4_payFee_94 : decode cX4_payFee 94 = .ok (.invokevirtual 107, 3) := by decide +kernel
theorem dX4_payFee_97 : decode cX4_payFee 97 = .ok (.aload_n 0, 1) := by decide +kernel
theorem dX4_payFee_98 : decode cX4_payFee 98 = .ok (.getfield 35, 3) := by decide +kernel
theorem dX4_payFee_101 : decode cX4_payFee 101 = .ok (.iload_n 1, 1) := by decide +kernel
theorem dX4_payFee_102 : decode cX4_payFee 102 = .ok (.bipush 8, 2) := by decide +kernel
theorem dX4_payFee_104 : decode cX4_payFee 104 = .ok (.iload 6, 2) := by decide +kernel
theorem dX4_payFee_106 : decode cX4_payFee 106 = .ok (.invokevirtual 150, 3) := by decide +kernel
theorem dX4_payFee_109 : decode cX4_payFee 109 = .ok (.iload_n 3, 1) := by decide +kernel
theorem dX4_payFee_110 : decode cX4_payFee 110 = .ok (.iload 6, 2) := by decide +kernel
theorem dX4_payFee_112 : decode cX4_payFee 112 = .ok (.isub, 1) := by decide +kernel
theorem dX4_payFee_113 : decode cX4_payFee 113 = .ok (.istore_n 3, 1) := by decide +kernel
theorem dX4_payFee_114 : decode cX4_payFee 114 = .ok (.iinc 4 1, 3) := by decide +kernel
theorem dX4_payFee_117 : decode cX4_payFee 117 = .ok (.goto (-83), 3) := by decide +kernel
theorem dX4_payFee_120 : decode cX4_payFee 120 = .ok (.return_, 1) := by decide +kernel
set_option maxRecDepth 20000 in
theorem ggX4_passDebtsThrough_X0_owed : GoodIn wsX4_passDebtsThrough wsX0_owed := goodIn_r _ [10, 11, 12, 13, 14, 15, 16, 17, 18, 19, 20, 21, 22, 23, 51, 52, 53, 54, 55] (by decide +kernel) (by decide +kernel)
set_option maxRecDepth 20000 in
theorem gX4_passDebtsThrough_X0_owed : GoodIn wsX4_passDebtsThrough (wsV RX4 181 RX0 yX0_owed wsX0_owed) := goodIn_app (goodIn_of _ (by decide +kernel)) ggX4_passDebtsThrough_X0_owed
set_option maxRecDepth 20000 in
theorem ggX4_passDebtsThrough_X0_more : GoodIn wsX4_passDebtsThrough wsX0_more := goodIn_r _ [27, 11, 28, 29, 30, 15, 31, 32, 13, 14, 16, 17, 18, 19, 20, 21, 22, 23, 33, 34, 35, 36, 51, 52, 53, 54, 55] (by decide +kernel) (by decide +kernel)
set_option maxRecDepth 20000 in
theorem gX4_passDebtsThrough_X0_more : GoodIn wsX4_passDebtsThrough (wsV RX4 107 RX0 yX0_more wsX0_more) := goodIn_app (goodIn_of _ (by decide +kernel)) ggX4_passDebtsThrough_X0_more
set_option maxRecDepth 20000 in
theorem ggX4_passDebtsThrough_X4_takeOver : GoodIn wsX4_passDebtsThrough wsX4_takeOver := goodIn_r _ [41, 1, 24, 25, 26, 9, 27, 11, 28, 29, 30, 15, 31, 32, 13, 14, 16, 17, 18, 19, 20, 21, 22, 23, 33, 34, 35, 36, 42, 43, 44, 45, 46, 47, 48, 49, 50, 51, 52, 53, 54, 55] (by decide +kernel) (by decide +kernel)
set_option maxRecDepth 20000 in
theorem gX4_passDebtsThrough_X4_takeOver : GoodIn wsX4_passDebtsThrough (wsV RX4 237 RX4 yX4_takeOver wsX4_takeOver) := goodIn_app (goodIn_of _ (by decide +kernel)) ggX4_passDebtsThrough_X4_takeOver
theorem dX4_passDebtsThrough_0 : decode cX4_passDebtsThrough 0 = .ok (.iconst 0, 1) := by decide +kernel
theorem dX4_passDebtsThrough_1 : decode cX4_passDebtsThrough 1 = .ok (.istore_n 2, 1) := by decide +kernel
theorem dX4_passDebtsThrough_2 : decode cX4_passDebtsThrough 2 = .ok (.iload_n 2, 1) := by decide +kernel
theorem dX4_passDebtsThrough_3 : decode cX4_passDebtsThrough 3 = .ok (.bipush 8, 2) := by decide +kernel
theorem dX4_passDebtsThrough_5 : decode cX4_passDebtsThrough 5 = .ok (.if_icmp .ge 67, 3) := by decide +kernel
theorem dX4_passDebtsThrough_8 : decode cX4_passDebtsThrough 8 = .ok (.iconst 0, 1) := by decide +kernel
theorem dX4_passDebtsThrough_9 : decode cX4_passDebtsThrough 9 = .ok (.istore_n 3, 1) := by decide +kernel
theorem dX4_passDebtsThrough_10 : decode cX4_passDebtsThrough 10 = .ok (.iload_n 3, 1) := by decide +kernel
theorem dX4_passDebtsThrough_11 : decode cX4_passDebtsThrough 11 = .ok (.bipush 9, 2) := by decide +kernel
theorem dX4_passDebtsThrough_13 : decode cX4_passDebtsThrough 13 = .ok (.if_icmp .ge 53, 3) := by decide +kernel
theorem dX4_passDebtsThrough_16 : decode cX4_passDebtsThrough 16 = .ok (.aload_n 0, 1) := by decide +kernel
theorem dX4_passDebtsThrough_17 : decode cX4_passDebtsThrough 17 = .ok (.getfield 28, 3) := by decide +kernel
theorem dX4_passDebtsThrough_20 : decode cX4_passDebtsThrough 20 = .ok (.iload_n 2, 1) := by decide +kernel
theorem dX4_passDebtsThrough_21 : decode cX4_passDebtsThrough 21 = .ok (.iload_n 1, 1) := by decide +kernel
theorem dX4_passDebtsThrough_22 : decode cX4_passDebtsThrough 22 = .ok (.invokevirtual 181, 3) := by decide +kernel
theorem dX4_passDebtsThrough_25 : decode cX4_passDebtsThrough 25 = .ok (.aload_n 0, 1) := by decide +kernel
theorem dX4_passDebtsThrough_26 : decode cX4_passDebtsThrough 26 = .ok (.getfield 28, 3) := by decide +kernel
theorem dX4_passDebtsThrough_29 : decode cX4_passDebtsThrough 29 = .ok (.iload_n 1, 1) := by decide +kernel
theorem dX4_passDebtsThrough_30 : decode cX4_passDebtsThrough 30 = .ok (.iload_n 3, 1) := by decide +kernel
theorem dX4_passDebtsThrough_31 : decode cX4_passDebtsThrough 31 = .ok (.invokevirtual 181, 3) := by decide +kernel
theorem dX4_passDebtsThrough_34 : decode cX4_passDebtsThrough 34 = .ok (.invokestatic 129, 3) := by decide +kernel
theorem dX4_passDebtsThrough_37 : decode cX4_passDebtsThrough 37 = .ok (.istore 4, 2) := by decide +kernel
theorem dX4_passDebtsThrough_39 : decode cX4_passDebtsThrough 39 = .ok (.aload_n 0, 1) := by decide +kernel
theorem dX4_passDebtsThrough_40 : decode cX4_passDebtsThrough 40 = .ok (.getfield 28, 3) := by decide +kernel
theorem dX4_passDebtsThrough_43 : decode cX4_passDebtsThrough 43 = .ok (.iload_n 2, 1) := by decide +kernel
theorem dX4_passDebtsThrough_44 : decode cX4_passDebtsThrough 44 = .ok (.iload_n 1, 1) := by decide +kernel
theorem dX4_passDebtsThrough_45 : decode cX4_passDebtsThrough 45 = .ok (.iload 4, 2) := by decide +kernel
theorem dX4_passDebtsThrough_47 : decode cX4_passDebtsThrough 47 = .ok (.ineg, 1) := by decide +kernel
theorem dX4_passDebtsThrough_48 : decode cX4_passDebtsThrough 48 = .ok (.invokevirtual 107, 3) := by decide +kernel
theorem dX4_passDebtsThrough_51 : decode cX4_passDebtsThrough 51 = .ok (.aload_n 0, 1) := by decide +kernel
theorem dX4_passDebtsThrough_52 : decode cX4_passDebtsThrough 52 = .ok (.iload_n 2, 1) := by decide +kernel
theorem dX4_passDebtsThrough_53 : decode cX4_passDebtsThrough 53 = .ok (.iload_n 1, 1) := by decide +kernel
theorem dX4_passDebtsThrough_54 : decode cX4_passDebtsThrough 54 = .ok (.iload_n 3, 1) := by decide +kernel
theorem dX4_passDebtsThrough_55 : decode cX4_passDebtsThrough 55 = .ok (.iload 4, 2) := by decide +kernel
theorem dX4_passDebtsThrough_57 : decode cX4_passDebtsThrough 57 = .ok (.invokevirtual 237, 3) := by decide +kernel
theorem dX4_passDebtsThrough_60 : decode cX4_passDebtsThrough 60 = .ok (.iinc 3 1, 3) := by decide +kernel
theorem dX4_passDebtsThrough_63 : decode cX4_passDebtsThrough 63 = .ok (.goto (-53), 3) := by decide +kernel
theorem dX4_passDebtsThrough_66 : decode cX4_passDebtsThrough 66 = .ok (.iinc 2 1, 3) := by decide +kernel
theorem dX4_passDebtsThrough_69 : decode cX4_passDebtsThrough 69 = .ok (.goto (-67), 3) := by decide +kernel
theorem dX4_passDebtsThrough_72 : decode cX4_passDebtsThrough 72 = .ok (.return_, 1) := by decide +kernel
set_option maxRecDepth 20000 in
theorem ggX4_letGuarantorsPay_X0_owed : GoodIn wsX4_letGuarantorsPay wsX0_owed := goodIn_r _ [12, 13, 14, 15, 16, 17, 18, 19, 20, 21, 22, 23, 24, 25, 55, 56, 57, 58, 59] (by decide +kernel) (by decide +kernel)
set_option maxRecDepth 20000 in
theorem gX4_letGuarantorsPay_X0_owed : GoodIn wsX4_letGuarantorsPay (wsV RX4 181 RX0 yX0_owed wsX0_owed) := goodIn_app (goodIn_of _ (by decide +kernel)) ggX4_letGuarantorsPay_X0_owed
set_option maxRecDepth 20000 in
theorem ggX4_letGuarantorsPay_X2_get : GoodIn wsX4_letGuarantorsPay wsX2_get := goodIn_r _ [18, 19, 20, 21, 22, 17, 23, 24, 25, 57, 58, 59] (by decide +kernel) (by decide +kernel)
set_option maxRecDepth 20000 in
theorem gX4_letGuarantorsPay_X2_get : GoodIn wsX4_letGuarantorsPay (wsV RX4 145 RX2 yX2_get wsX2_get) := goodIn_app (goodIn_of _ (by decide +kernel)) ggX4_letGuarantorsPay_X2_get
set_option maxRecDepth 20000 in
theorem ggX4_letGuarantorsPay_X2_add : GoodIn wsX4_letGuarantorsPay wsX2_add := goodIn_r _ [30, 31, 15, 16, 17, 18, 19, 20, 21, 22, 23, 24, 25, 32, 33, 34, 35, 57, 58, 59] (by decide +kernel) (by decide +kernel)
set_option maxRecDepth 20000 in
theorem gX4_letGuarantorsPay_X2_add : GoodIn wsX4_letGuarantorsPay (wsV RX4 150 RX2 yX2_add wsX2_add) := goodIn_app (goodIn_of _ (by decide +kernel)) ggX4_letGuarantorsPay_X2_add
set_option maxRecDepth 20000 in
theorem ggX4_letGuarantorsPay_X4_takeOver : GoodIn wsX4_letGuarantorsPay wsX4_takeOver := goodIn_r _ [40, 1, 41, 42, 43, 11, 44, 13, 45, 28, 29, 17, 30, 31, 15, 16, 18, 19, 20, 21, 22, 23, 24, 25, 32, 33, 34, 35, 46, 47, 48, 49, 50, 51, 52, 53, 54, 55, 56, 57, 58, 59] (by decide +kernel) (by decide +kernel)
set_option maxRecDepth 20000 in
theorem gX4_letGuarantorsPay_X4_takeOver : GoodIn wsX4_letGuarantorsPay (wsV RX4 237 RX4 yX4_takeOver wsX4_takeOver) := goodIn_app (goodIn_of _ (by decide +kernel)) ggX4_letGuarantorsPay_X4_takeOver
theorem dX4_letGuarantorsPay_0 : decode cX4_letGuarantorsPay 0 = .ok (.iconst 0, 1) := by decide +kernel
theorem dX4_letGuarantorsPay_1 : decode cX4_letGuarantorsPay 1 = .ok (.istore_n 2, 1) := by decide +kernel
theorem dX4_letGuarantorsPay_2 : decode cX4_letGuarantorsPay 2 = .ok (.iload_n 2, 1) := by decide +kernel
theorem dX4_letGuarantorsPay_3 : decode cX4_letGuarantorsPay 3 = .ok (.bipush 9, 2) := by decide +kernel
theorem dX4_letGuarantorsPay_5 : decode cX4_letGuarantorsPay 5 = .ok (.if_icmp .ge 78, 3) := by decide +kernel
theorem dX4_letGuarantorsPay_8 : decode cX4_letGuarantorsPay 8 = .ok (.iconst 0, 1) := by decide +kernel
theorem dX4_letGuarantorsPay_9 : decode cX4_letGuarantorsPay 9 = .ok (.istore_n 3, 1) := by decide +kernel
theorem dX4_letGuarantorsPay_10 : decode cX4_letGuarantorsPay 10 = .ok (.iload_n 3, 1) := by decide +kernel
theorem dX4_letGuarantorsPay_11 : decode cX4_letGuarantorsPay 11 = .ok (.bipush 8, 2) := by decide +kernel
theorem dX4_letGuarantorsPay_13 : decode cX4_letGuarantorsPay 13 = .ok (.if_icmp .ge 64, 3) := by decide +kernel
theorem dX4_letGuarantorsPay_16 : decode cX4_letGuarantorsPay 16 = .ok (.aload_n 0, 1) := by decide +kernel
theorem dX4_letGuarantorsPay_17 : decode cX4_letGuarantorsPay 17 = .ok (.getfield 28, 3) := by decide +kernel
theorem dX4_letGuarantorsPay_20 : decode cX4_letGuarantorsPay 20 = .ok (.iload_n 1, 1) := by decide +kernel
theorem dX4_letGuarantorsPay_21 : decode cX4_letGuarantorsPay 21 = .ok (.iload_n 2, 1) := by decide +kernel
theorem dX4_letGuarantorsPay_22 : decode cX4_letGuarantorsPay 22 = .ok (.invokevirtual 181, 3) := by decide +kernel
theorem dX4_letGuarantorsPay_25 : decode cX4_letGuarantorsPay 25 = .ok (.aload_n 0, 1) := by decide +kernel
theorem dX4_letGuarantorsPay_26 : decode cX4_letGuarantorsPay 26 = .ok (.getfield 32, 3) := by decide +kernel
theorem dX4_letGuarantorsPay_29 : decode cX4_letGuarantorsPay 29 = .ok (.iload_n 3, 1) := by decide +kernel
theorem dX4_letGuarantorsPay_30 : decode cX4_letGuarantorsPay 30 = .ok (.iload_n 1, 1) := by decide +kernel
theorem dX4_letGuarantorsPay_31 : decode cX4_letGuarantorsPay 31 = .ok (.invokevirtual 145, 3) := by decide +kernel
theorem dX4_letGuarantorsPay_34 : decode cX4_letGuarantorsPay 34 = .ok (.invokestatic 129, 3) := by decide +kernel
theorem dX4_letGuarantorsPay_37 : decode cX4_letGuarantorsPay 37 = .ok (.istore 4, 2) := by decide +kernel
theorem dX4_letGuarantorsPay_39 : decode cX4_letGuarantorsPay 39 = .ok (.aload_n 0, 1) := by decide +kernel
theorem dX4_letGuarantorsPay_40 : decode cX4_letGuarantorsPay 40 = .ok (.getfield 32, 3) := by decide +kernel
theorem dX4_letGuarantorsPay_43 : decode cX4_letGuarantorsPay 43 = .ok (.iload_n 3, 1) := by decide +kernel
theorem dX4_letGuarantorsPay_44 : decode cX4_letGuarantorsPay 44 = .ok (.iload_n 1, 1) := by decide +kernel
theorem dX4_letGuarantorsPay_45 : decode cX4_letGuarantorsPay 45 = .ok (.iload 4, 2) := by decide +kernel
theorem dX4_letGuarantorsPay_47 : decode cX4_letGuarantorsPay 47 = .ok (.ineg, 1) := by decide +kernel
theorem dX4_letGuarantorsPay_48 : decode cX4_letGuarantorsPay 48 = .ok (.invokevirtual 150, 3) := by decide +kernel
theorem dX4_letGuarantorsPay_51 : decode cX4_letGuarantorsPay 51 = .ok (.aload_n 0, 1) := by decide +kernel
theorem dX4_letGuarantorsPay_52 : decode cX4_letGuarantorsPay 52 = .ok (.getfield 35, 3) := by decide +kernel
theorem dX4_letGuarantorsPay_55 : decode cX4_letGuarantorsPay 55 = .ok (.iload_n 3, 1) := by decide +kernel
theorem dX4_letGuarantorsPay_56 : decode cX4_letGuarantorsPay 56 = .ok (.iload_n 1, 1) := by decide +kernel
theorem dX4_letGuarantorsPay_57 : decode cX4_letGuarantorsPay 57 = .ok (.iload 4, 2) := by decide +kernel
theorem dX4_letGuarantorsPay_59 : decode cX4_letGuarantorsPay 59 = .ok (.invokevirtual 150, 3) := by decide +kernel
theorem dX4_letGuarantorsPay_62 : decode cX4_letGuarantorsPay 62 = .ok (.aload_n 0, 1) := by decide +kernel
theorem dX4_letGuarantorsPay_63 : decode cX4_letGuarantorsPay 63 = .ok (.iload_n 3, 1) := by decide +kernel
theorem dX4_letGuarantorsPay_64 : decode cX4_letGuarantorsPay 64 = .ok (.iload_n 1, 1) := by decide +kernel
theorem dX4_letGuarantorsPay_65 : decode cX4_letGuarantorsPay 65 = .ok (.iload_n 2, 1) := by decide +kernel
theorem dX4_letGuarantorsPay_66 : decode cX4_letGuarantorsPay 66 = .ok (.iload 4, 2) := by decide +kernel
theorem dX4_letGuarantorsPay_68 : decode cX4_letGuarantorsPay 68 = .ok (.invokevirtual 237, 3) := by decide +kernel
theorem dX4_letGuarantorsPay_71 : decode cX4_letGuarantorsPay 71 = .ok (.iinc 3 1, 3) := by decide +kernel
theorem dX4_letGuarantorsPay_74 : decode cX4_letGuarantorsPay 74 = .ok (.goto (-64), 3) := by decide +kernel
theorem dX4_letGuarantorsPay_77 : decode cX4_letGuarantorsPay 77 = .ok (.iinc 2 1, 3) := by decide +kernel
theorem dX4_letGuarantorsPay_80 : decode cX4_letGuarantorsPay 80 = .ok (.goto (-78), 3) := by decide +kernel
theorem dX4_letGuarantorsPay_83 : decode cX4_letGuarantorsPay 83 = .ok (.return_, 1) := by decide +kernel
set_option maxRecDepth 20000 in
theorem ggX4_takeOver_X0_more : GoodIn wsX4_takeOver wsX0_more := goodIn_r _ [6, 7, 8, 9, 10, 11, 12, 13, 14, 15, 16, 17, 18, 19, 20, 21, 22, 23, 24, 25, 26, 27, 37, 38, 39, 40, 41] (by decide +kernel) (by decide +kernel)
set_option maxRecDepth 20000 in
theorem gX4_takeOver_X0_more : GoodIn wsX4_takeOver (wsV RX4 107 RX0 yX0_more wsX0_more) := goodIn_app (goodIn_of _ (by decide +kernel)) ggX4_takeOver_X0_more
theorem dX4_takeOver_0 : decode cX4_takeOver 0 = .ok (.aload_n 0, 1) := by decide +kernel
theorem dX4_takeOver_1 : decode cX4_takeOver 1 = .ok (.getfield 28, 3) := by decide +kernel
theorem dX4_takeOver_4 : decode cX4_takeOver 4 = .ok (.iload_n 2, 1) := by decide +kernel
theorem dX4_takeOver_5 : decode cX4_takeOver 5 = .ok (.iload_n 3, 1) := by decide +kernel
theorem dX4_takeOver_6 : decode cX4_takeOver 6 = .ok (.iload 4, 2) := by decide +kernel
theorem dX4_takeOver_8 : decode cX4_takeOver 8 = .ok (.ineg, 1) := by decide +kernel
theorem dX4_takeOver_9 : decode cX4_takeOver 9 = .ok (.invokevirtual 107, 3) := by decide +kernel
theorem dX4_takeOver_12 : decode cX4_takeOver 12 = .ok (.iload_n 1, 1) := by decide +kernel
theorem dX4_takeOver_13 : decode cX4_takeOver 13 = .ok (.iload_n 3, 1) := by decide +kernel
theorem dX4_takeOver_14 : decode cX4_takeOver 14 = .ok (.if_icmp .eq 14, 3) := by decide +kernel
theorem dX4_takeOver_17 : decode cX4_takeOver 17 = .ok (.aload_n 0, 1) := by decide +kernel
theorem dX4_takeOver_18 : decode cX4_takeOver 18 = .ok (.getfield 28, 3) := by decide +kernel
theorem dX4_takeOver_21 : decode cX4_takeOver 21 = .ok (.iload_n 1, 1) := by decide +kernel
theorem dX4_takeOver_22 : decode cX4_takeOver 22 = .ok (.iload_n 3, 1) := by decide +kernel
theorem dX4_takeOver_23 : decode cX4_takeOver 23 = .ok (.iload 4, 2) := by decide +kernel
theorem dX4_takeOver_25 : decode cX4_takeOver 25 = .ok (.invokevirtual 107, 3) := by decide +kernel
theorem dX4_takeOver_28 : decode cX4_takeOver 28 = .ok (.return_, 1) := by decide +kernel
set_option maxRecDepth 20000 in
theorem ggX4_oweInGoodsBy_X0_owed : GoodIn wsX4_oweInGoodsBy wsX0_owed := goodIn_r _ [7, 8, 9, 10, 11, 12, 13, 14, 15, 16, 17, 18, 19, 20, 44, 45, 46, 47, 48] (by decide +kernel) (by decide +kernel)
set_option maxRecDepth 20000 in
theorem gX4_oweInGoodsBy_X0_owed : GoodIn wsX4_oweInGoodsBy (wsV RX4 181 RX0 yX0_owed wsX0_owed) := goodIn_app (goodIn_of _ (by decide +kernel)) ggX4_oweInGoodsBy_X0_owed
set_option maxRecDepth 20000 in
theorem ggX4_oweInGoodsBy_X0_more : GoodIn wsX4_oweInGoodsBy wsX0_more := goodIn_r _ [24, 8, 25, 26, 27, 12, 28, 29, 10, 11, 13, 14, 15, 16, 17, 18, 19, 20, 30, 31, 32, 33, 44, 45, 46, 47, 48] (by decide +kernel) (by decide +kernel)
set_option maxRecDepth 20000 in
theorem gX4_oweInGoodsBy_X0_more : GoodIn wsX4_oweInGoodsBy (wsV RX4 107 RX0 yX0_more wsX0_more) := goodIn_app (goodIn_of _ (by decide +kernel)) ggX4_oweInGoodsBy_X0_more
set_option maxRecDepth 20000 in
theorem ggX4_oweInGoodsBy_X2_add : GoodIn wsX4_oweInGoodsBy wsX2_add := goodIn_r _ [28, 29, 10, 11, 12, 13, 14, 15, 16, 17, 18, 19, 20, 30, 31, 32, 33, 46, 47, 48] (by decide +kernel) (by decide +kernel)
set_option maxRecDepth 20000 in
theorem gX4_oweInGoodsBy_X2_add : GoodIn wsX4_oweInGoodsBy (wsV RX4 150 RX2 yX2_add wsX2_add) := goodIn_app (goodIn_of _ (by decide +kernel)) ggX4_oweInGoodsBy_X2_add
theorem dX4_oweInGoodsBy_0 : decode cX4_oweInGoodsBy 0 = .ok (.iconst 0, 1) := by decide +kernel
theorem dX4_oweInGoodsBy_1 : decode cX4_oweInGoodsBy 1 = .ok (.istore_n 2, 1) := by decide +kernel
theorem dX4_oweInGoodsBy_2 : decode cX4_oweInGoodsBy 2 = .ok (.iconst 0, 1) := by decide +kernel
theorem dX4_oweInGoodsBy_3 : decode cX4_oweInGoodsBy 3 = .ok (.istore_n 3, 1) := by decide +kernel
theorem dX4_oweInGoodsBy_4 : decode cX4_oweInGoodsBy 4 = .ok (.iload_n 3, 1) := by decide +kernel
theorem dX4_oweInGoodsBy_5 : decode cX4_oweInGoodsBy 5 = .ok (.bipush 9, 2) := by decide +kernel
theorem dX4_oweInGoodsBy_7 : decode cX4_oweInGoodsBy 7 = .ok (.if_icmp .ge 48, 3) := by decide +kernel
theorem dX4_oweInGoodsBy_10 : decode cX4_oweInGoodsBy 10 = .ok (.aload_n 0, 1) := by decide +kernel
theorem dX4_oweInGoodsBy_11 : decode cX4_oweInGoodsBy 11 = .ok (.getfield 28, 3) := by decide +kernel
theorem dX4_oweInGoodsBy_14 : decode cX4_oweInGoodsBy 14 = .ok (.iload_n 1, 1) := by decide +kernel
theorem dX4_oweInGoodsBy_15 : decode cX4_oweInGoodsBy 15 = .ok (.iload_n 3, 1) := by decide +kernel
theorem dX4_oweInGoodsBy_16 : decode cX4_oweInGoodsBy 16 = .ok (.invokevirtual 181, 3) := by decide +kernel
theorem dX4_oweInGoodsBy_19 : decode cX4_oweInGoodsBy 19 = .ok (.istore 4, 2) := by decide +kernel
theorem dX4_oweInGoodsBy_21 : decode cX4_oweInGoodsBy 21 = .ok (.aload_n 0, 1) := by decide +kernel
theorem dX4_oweInGoodsBy_22 : decode cX4_oweInGoodsBy 22 = .ok (.getfield 28, 3) := by decide +kernel
theorem dX4_oweInGoodsBy_25 : decode cX4_oweInGoodsBy 25 = .ok (.iload_n 1, 1) := by decide +kernel
theorem dX4_oweInGoodsBy_26 : decode cX4_oweInGoodsBy 26 = .ok (.iload_n 3, 1) := by decide +kernel
theorem dX4_oweInGoodsBy_27 : decode cX4_oweInGoodsBy 27 = .ok (.iload 4, 2) := by decide +kernel
theorem dX4_oweInGoodsBy_29 : decode cX4_oweInGoodsBy 29 = .ok (.ineg, 1) := by decide +kernel
theorem dX4_oweInGoodsBy_30 : decode cX4_oweInGoodsBy 30 = .ok (.invokevirtual 107, 3) := by decide +kernel
theorem dX4_oweInGoodsBy_33 : decode cX4_oweInGoodsBy 33 = .ok (.aload_n 0, 1) := by decide +kernel
theorem dX4_oweInGoodsBy_34 : decode cX4_oweInGoodsBy 34 = .ok (.getfield 35, 3) := by decide +kernel
theorem dX4_oweInGoodsBy_37 : decode cX4_oweInGoodsBy 37 = .ok (.iload_n 3, 1) := by decide +kernel
theorem dX4_oweInGoodsBy_38 : decode cX4_oweInGoodsBy 38 = .ok (.iload_n 1, 1) := by decide +kernel
theorem dX4_oweInGoodsBy_39 : decode cX4_oweInGoodsBy 39 = .ok (.iload 4, 2) := by decide +kernel
theorem dX4_oweInGoodsBy_41 : decode cX4_oweInGoodsBy 41 = .ok (.invokevirtual 150, 3) := by decide +kernel
theorem dX4_oweInGoodsBy_44 : decode cX4_oweInGoodsBy 44 = .ok (.iload_n 2, 1) := by decide +kernel
theorem dX4_oweInGoodsBy_45 : decode cX4_oweInGoodsBy 45 = .ok (.iload 4, 2) := by decide +kernel
theorem dX4_oweInGoodsBy_47 : decode cX4_oweInGoodsBy 47 = .ok (.iadd, 1) := by decide +kernel
theorem dX4_oweInGoodsBy_48 : decode cX4_oweInGoodsBy 48 = .ok (.istore_n 2, 1) := by decide +kernel
theorem dX4_oweInGoodsBy_49 : decode cX4_oweInGoodsBy 49 = .ok (.iinc 3 1, 3) := by decide +kernel
theorem dX4_oweInGoodsBy_52 : decode cX4_oweInGoodsBy 52 = .ok (.goto (-48), 3) := by decide +kernel
theorem dX4_oweInGoodsBy_55 : decode cX4_oweInGoodsBy 55 = .ok (.iload_n 2, 1) := by decide +kernel
theorem dX4_oweInGoodsBy_56 : decode cX4_oweInGoodsBy 56 = .ok (.ireturn, 1) := by decide +kernel
set_option maxRecDepth 20000 in
theorem ggX4_oweInGoodsTo_X0_owed : GoodIn wsX4_oweInGoodsTo wsX0_owed := goodIn_r _ [7, 8, 9, 10, 11, 12, 13, 14, 15, 16, 17, 18, 19, 20, 44, 45, 46, 47, 48] (by decide +kernel) (by decide +kernel)
set_option maxRecDepth 20000 in
theorem gX4_oweInGoodsTo_X0_owed : GoodIn wsX4_oweInGoodsTo (wsV RX4 181 RX0 yX0_owed wsX0_owed) := goodIn_app (goodIn_of _ (by decide +kernel)) ggX4_oweInGoodsTo_X0_owed
set_option maxRecDepth 20000 in
theorem ggX4_oweInGoodsTo_X0_more : GoodIn wsX4_oweInGoodsTo wsX0_more := goodIn_r _ [24, 8, 25, 26, 27, 12, 28, 29, 10, 11, 13, 14, 15, 16, 17, 18, 19, 20, 30, 31, 32, 33, 44, 45, 46, 47, 48] (by decide +kernel) (by decide +kernel)
set_option maxRecDepth 20000 in
theorem gX4_oweInGoodsTo_X0_more : GoodIn wsX4_oweInGoodsTo (wsV RX4 107 RX0 yX0_more wsX0_more) := goodIn_app (goodIn_of _ (by decide +kernel)) ggX4_oweInGoodsTo_X0_more
set_option maxRecDepth 20000 in
theorem ggX4_oweInGoodsTo_X2_add : GoodIn wsX4_oweInGoodsTo wsX2_add := goodIn_r _ [28, 29, 10, 11, 12, 13, 14, 15, 16, 17, 18, 19, 20, 30, 31, 32, 33, 46, 47, 48] (by decide +kernel) (by decide +kernel)
set_option maxRecDepth 20000 in
theorem gX4_oweInGoodsTo_X2_add : GoodIn wsX4_oweInGoodsTo (wsV RX4 150 RX2 yX2_add wsX2_add) := goodIn_app (goodIn_of _ (by decide +kernel)) ggX4_oweInGoodsTo_X2_add
theorem dX4_oweInGoodsTo_0 : decode cX4_oweInGoodsTo 0 = .ok (.iconst 0, 1) := by decide +kernel
theorem dX4_oweInGoodsTo_1 : decode cX4_oweInGoodsTo 1 = .ok (.istore_n 2, 1) := by decide +kernel
theorem dX4_oweInGoodsTo_2 : decode cX4_oweInGoodsTo 2 = .ok (.iconst 0, 1) := by decide +kernel
theorem dX4_oweInGoodsTo_3 : decode cX4_oweInGoodsTo 3 = .ok (.istore_n 3, 1) := by decide +kernel
theorem dX4_oweInGoodsTo_4 : decode cX4_oweInGoodsTo 4 = .ok (.iload_n 3, 1) := by decide +kernel
theorem dX4_oweInGoodsTo_5 : decode cX4_oweInGoodsTo 5 = .ok (.bipush 8, 2) := by decide +kernel
theorem dX4_oweInGoodsTo_7 : decode cX4_oweInGoodsTo 7 = .ok (.if_icmp .ge 48, 3) := by decide +kernel
theorem dX4_oweInGoodsTo_10 : decode cX4_oweInGoodsTo 10 = .ok (.aload_n 0, 1) := by decide +kernel
theorem dX4_oweInGoodsTo_11 : decode cX4_oweInGoodsTo 11 = .ok (.getfield 28, 3) := by decide +kernel
theorem dX4_oweInGoodsTo_14 : decode cX4_oweInGoodsTo 14 = .ok (.iload_n 3, 1) := by decide +kernel
theorem dX4_oweInGoodsTo_15 : decode cX4_oweInGoodsTo 15 = .ok (.iload_n 1, 1) := by decide +kernel
theorem dX4_oweInGoodsTo_16 : decode cX4_oweInGoodsTo 16 = .ok (.invokevirtual 181, 3) := by decide +kernel
theorem dX4_oweInGoodsTo_19 : decode cX4_oweInGoodsTo 19 = .ok (.istore 4, 2) := by decide +kernel
theorem dX4_oweInGoodsTo_21 : decode cX4_oweInGoodsTo 21 = .ok (.aload_n 0, 1) := by decide +kernel
theorem dX4_oweInGoodsTo_22 : decode cX4_oweInGoodsTo 22 = .ok (.getfield 28, 3) := by decide +kernel
theorem dX4_oweInGoodsTo_25 : decode cX4_oweInGoodsTo 25 = .ok (.iload_n 3, 1) := by decide +kernel
theorem dX4_oweInGoodsTo_26 : decode cX4_oweInGoodsTo 26 = .ok (.iload_n 1, 1) := by decide +kernel
theorem dX4_oweInGoodsTo_27 : decode cX4_oweInGoodsTo 27 = .ok (.iload 4, 2) := by decide +kernel
theorem dX4_oweInGoodsTo_29 : decode cX4_oweInGoodsTo 29 = .ok (.ineg, 1) := by decide +kernel
theorem dX4_oweInGoodsTo_30 : decode cX4_oweInGoodsTo 30 = .ok (.invokevirtual 107, 3) := by decide +kernel
theorem dX4_oweInGoodsTo_33 : decode cX4_oweInGoodsTo 33 = .ok (.aload_n 0, 1) := by decide +kernel
theorem dX4_oweInGoodsTo_34 : decode cX4_oweInGoodsTo 34 = .ok (.getfield 35, 3) := by decide +kernel
theorem dX4_oweInGoodsTo_37 : decode cX4_oweInGoodsTo 37 = .ok (.iload_n 1, 1) := by decide +kernel
theorem dX4_oweInGoodsTo_38 : decode cX4_oweInGoodsTo 38 = .ok (.iload_n 3, 1) := by decide +kernel
theorem dX4_oweInGoodsTo_39 : decode cX4_oweInGoodsTo 39 = .ok (.iload 4, 2) := by decide +kernel
theorem dX4_oweInGoodsTo_41 : decode cX4_oweInGoodsTo 41 = .ok (.invokevirtual 150, 3) := by decide +kernel
theorem dX4_oweInGoodsTo_44 : decode cX4_oweInGoodsTo 44 = .ok (.iload_n 2, 1) := by decide +kernel
theorem dX4_oweInGoodsTo_45 : decode cX4_oweInGoodsTo 45 = .ok (.iload 4, 2) := by decide +kernel
theorem dX4_oweInGoodsTo_47 : decode cX4_oweInGoodsTo 47 = .ok (.iadd, 1) := by decide +kernel
theorem dX4_oweInGoodsTo_48 : decode cX4_oweInGoodsTo 48 = .ok (.istore_n 2, 1) := by decide +kernel
theorem dX4_oweInGoodsTo_49 : decode cX4_oweInGoodsTo 49 = .ok (.iinc 3 1, 3) := by decide +kernel
theorem dX4_oweInGoodsTo_52 : decode cX4_oweInGoodsTo 52 = .ok (.goto (-48), 3) := by decide +kernel
theorem dX4_oweInGoodsTo_55 : decode cX4_oweInGoodsTo 55 = .ok (.iload_n 2, 1) := by decide +kernel
theorem dX4_oweInGoodsTo_56 : decode cX4_oweInGoodsTo 56 = .ok (.ireturn, 1) := by decide +kernel
theorem dX5_init_0 : decode cX5_init 0 = .ok (.aload_n 0, 1) := by decide +kernel
theorem dX5_init_1 : decode cX5_init 1 = .ok (.invokespecial 1, 3) := by decide +kernel
theorem dX5_init_4 : decode cX5_init 4 = .ok (.aload_n 0, 1) := by decide +kernel
theorem dX5_init_5 : decode cX5_init 5 = .ok (.bipush 8, 2) := by decide +kernel
theorem dX5_init_7 : decode cX5_init 7 = .ok (.newarray .boolean, 2) := by decide +kernel
theorem dX5_init_9 : decode cX5_init 9 = .ok (.putfield 7, 3) := by decide +kernel
theorem dX5_init_12 : decode cX5_init 12 = .ok (.aload_n 0, 1) := by decide +kernel
theorem dX5_init_13 : decode cX5_init 13 = .ok (.bipush 81, 2) := by decide +kernel
theorem dX5_init_15 : decode cX5_init 15 = .ok (.newarray .int, 2) := by decide +kernel
theorem dX5_init_17 : decode cX5_init 17 = .ok (.putfield 13, 3) := by decide +kernel
theorem dX5_init_20 : decode cX5_init 20 = .ok (.aload_n 0, 1) := by decide +kernel
theorem dX5_init_21 : decode cX5_init 21 = .ok (.bipush 81, 2) := by decide +kernel
theorem dX5_init_23 : decode cX5_init 23 = .ok (.newarray .int, 2) := by decide +kernel
theorem dX5_init_25 : decode cX5_init 25 = .ok (.putfield 17, 3) := by decide +kernel
theorem dX5_init_28 : decode cX5_init 28 = .ok (.aload_n 0, 1) := by decide +kernel
theorem dX5_init_29 : decode cX5_init 29 = .ok (.bipush 81, 2) := by decide +kernel
theorem dX5_init_31 : decode cX5_init 31 = .ok (.newarray .int, 2) := by decide +kernel
theorem dX5_init_33 : decode cX5_init 33 = .ok (.putfield 20, 3) := by decide +kernel
theorem dX5_init_36 : decode cX5_init 36 = .ok (.aload_n 0, 1) := by decide +kernel
theorem dX5_init_37 : decode cX5_init 37 = .ok (.bipush 8, 2) := by decide +kernel
theorem dX5_init_39 : decode cX5_init 39 = .ok (.newarray .int, 2) := by decide +kernel
theorem dX5_init_41 : decode cX5_init 41 = .ok (.putfield 23, 3) := by decide +kernel
theorem dX5_init_44 : decode cX5_init 44 = .ok (.aload_n 0, 1) := by decide +kernel
theorem dX5_init_45 : decode cX5_init 45 = .ok (.bipush 100, 2) := by decide +kernel
theorem dX5_init_47 : decode cX5_init 47 = .ok (.newarray .int, 2) := by decide +kernel
theorem dX5_init_49 : decode cX5_init 49 = .ok (.putfield 26, 3) := by decide +kernel
theorem dX5_init_52 : decode cX5_init 52 = .ok (.aload_n 0, 1) := by decide +kernel
theorem dX5_init_53 : decode cX5_init 53 = .ok (.bipush 100, 2) := by decide +kernel
theorem dX5_init_55 : decode cX5_init 55 = .ok (.newarray .int, 2) := by decide +kernel
theorem dX5_init_57 : decode cX5_init 57 = .ok (.putfield 29, 3) := by decide +kernel
theorem dX5_init_60 : decode cX5_init 60 = .ok (.aload_n 0, 1) := by decide +kernel
theorem dX5_init_61 : decode cX5_init 61 = .ok (.bipush 100, 2) := by decide +kernel
theorem dX5_init_63 : decode cX5_init 63 = .ok (.newarray .int, 2) := by decide +kernel
theorem dX5_init_65 : decode cX5_init 65 = .ok (.putfield 32, 3) := by decide +kernel
theorem dX5_init_68 : decode cX5_init 68 = .ok (.aload_n 0, 1) := by decide +kernel
theorem dX5_init_69 : decode cX5_init 69 = .ok (.bipush 100, 2) := by decide +kernel
theorem dX5_init_71 : decode cX5_init 71 = .ok (.newarray .int, 2) := by decide +kernel
theorem dX5_init_73 : decode cX5_init 73 = .ok (.putfield 35, 3) := by decide +kernel
theorem dX5_init_76 : decode cX5_init 76 = .ok (.aload_n 0, 1) := by decide +kernel
theorem dX5_init_77 : decode cX5_init 77 = .ok (.bipush 100, 2) := by decide +kernel
theorem dX5_init_79 : decode cX5_init 79 = .ok (.newarray .int, 2) := by decide +kernel
theorem dX5_init_81 : decode cX5_init 81 = .ok (.putfield 38, 3) := by decide +kernel
theorem dX5_init_84 : decode cX5_init 84 = .ok (.aload_n 0, 1) := by decide +kernel
theorem dX5_init_85 : decode cX5_init 85 = .ok (.bipush 100, 2) := by decide +kernel
theorem dX5_init_87 : decode cX5_init 87 = .ok (.newarray .int, 2) := by decide +kernel
theorem dX5_init_89 : decode cX5_init 89 = .ok (.putfield 41, 3) := by decide +kernel
theorem dX5_init_92 : decode cX5_init 92 = .ok (.aload_n 0, 1) := by decide +kernel
theorem dX5_init_93 : decode cX5_init 93 = .ok (.bipush 10, 2) := by decide +kernel
theorem dX5_init_95 : decode cX5_init 95 = .ok (.putfield 44, 3) := by decide +kernel
theorem dX5_init_98 : decode cX5_init 98 = .ok (.aload_n 0, 1) := by decide +kernel
theorem dX5_init_99 : decode cX5_init 99 = .ok (.sipush 700, 3) := by decide +kernel
theorem dX5_init_102 : decode cX5_init 102 = .ok (.newarray .int, 2) := by decide +kernel
theorem dX5_init_104 : decode cX5_init 104 = .ok (.putfield 48, 3) := by decide +kernel
theorem dX5_init_107 : decode cX5_init 107 = .ok (.aload_n 0, 1) := by decide +kernel
theorem dX5_init_108 : decode cX5_init 108 = .ok (.iconst 5, 1) := by decide +kernel
theorem dX5_init_109 : decode cX5_init 109 = .ok (.newarray .int, 2) := by decide +kernel
theorem dX5_init_111 : decode cX5_init 111 = .ok (.putfield 51, 3) := by decide +kernel
theorem dX5_init_114 : decode cX5_init 114 = .ok (.return_, 1) := by decide +kernel
theorem dX5_thrown_0 : decode cX5_thrown 0 = .ok (.aload_n 0, 1) := by decide +kernel
theorem dX5_thrown_1 : decode cX5_thrown 1 = .ok (.getfield 54, 3) := by decide +kernel
theorem dX5_thrown_4 : decode cX5_thrown 4 = .ok (.ireturn, 1) := by decide +kernel
theorem dX5_in_0 : decode cX5_in 0 = .ok (.iload_n 0, 1) := by decide +kernel
theorem dX5_in_1 : decode cX5_in 1 = .ok (.iload_n 1, 1) := by decide +kernel
theorem dX5_in_2 : decode cX5_in 2 = .ok (.if_icmp .lt 12, 3) := by decide +kernel
theorem dX5_in_5 : decode cX5_in 5 = .ok (.iload_n 0, 1) := by decide +kernel
theorem dX5_in_6 : decode cX5_in 6 = .ok (.iload_n 2, 1) := by decide +kernel
theorem dX5_in_7 : decode cX5_in 7 = .ok (.if_icmp .gt 7, 3) := by decide +kernel
theorem dX5_in_10 : decode cX5_in 10 = .ok (.iconst 1, 1) := by decide +kernel
theorem dX5_in_11 : decode cX5_in 11 = .ok (.goto 4, 3) := by decide +kernel
theorem dX5_in_14 : decode cX5_in 14 = .ok (.iconst 0, 1) := by decide +kernel
theorem dX5_in_15 : decode cX5_in 15 = .ok (.ireturn, 1) := by decide +kernel
set_option maxRecDepth 20000 in
theorem ggX5_isShop_X5_in : GoodIn wsX5_isShop wsX5_in := goodIn_r _ [6] (by decide +kernel) (by decide +kernel)
set_option maxRecDepth 20000 in
theorem gX5_isShop_X5_in : GoodIn wsX5_isShop (va_wsS RX5 60 yX5_in wsX5_in) := goodIn_app (goodIn_of _ (by decide +kernel)) ggX5_isShop_X5_in
theorem dX5_isShop_0 : decode cX5_isShop 0 = .ok (.iload_n 1, 1) := by decide +kernel
theorem dX5_isShop_1 : decode cX5_isShop 1 = .ok (.iconst 0, 1) := by decide +kernel
theorem dX5_isShop_2 : decode cX5_isShop 2 = .ok (.aload_n 0, 1) := by decide +kernel
theorem dX5_isShop_3 : decode cX5_isShop 3 = .ok (.getfield 57, 3) := by decide +kernel
theorem dX5_isShop_6 : decode cX5_isShop 6 = .ok (.iconst 1, 1) := by decide +kernel
theorem dX5_isShop_7 : decode cX5_isShop 7 = .ok (.isub, 1) := by decide +kernel
theorem dX5_isShop_8 : decode cX5_isShop 8 = .ok (.invokestatic 60, 3) := by decide +kernel
theorem dX5_isShop_11 : decode cX5_isShop 11 = .ok (.ifCond .eq 16, 3) := by decide +kernel
theorem dX5_isShop_14 : decode cX5_isShop 14 = .ok (.aload_n 0, 1) := by decide +kernel
theorem dX5_isShop_15 : decode cX5_isShop 15 = .ok (.getfield 7, 3) := by decide +kernel
theorem dX5_isShop_18 : decode cX5_isShop 18 = .ok (.iload_n 1, 1) := by decide +kernel
theorem dX5_isShop_19 : decode cX5_isShop 19 = .ok (.baload, 1) := by decide +kernel
theorem dX5_isShop_20 : decode cX5_isShop 20 = .ok (.ifCond .eq 7, 3) := by decide +kernel
theorem dX5_isShop_23 : decode cX5_isShop 23 = .ok (.iconst 1, 1) := by decide +kernel
theorem dX5_isShop_24 : decode cX5_isShop 24 = .ok (.goto 4, 3) := by decide +kernel
theorem dX5_isShop_27 : decode cX5_isShop 27 = .ok (.iconst 0, 1) := by decide +kernel
theorem dX5_isShop_28 : decode cX5_isShop 28 = .ok (.ireturn, 1) := by decide +kernel
set_option maxRecDepth 20000 in
theorem ggX5_was_X5_in : GoodIn wsX5_was wsX5_in := goodIn_r _ [5] (by decide +kernel) (by decide +kernel)
set_option maxRecDepth 20000 in
theorem gX5_was_X5_in : GoodIn wsX5_was (va_wsS RX5 60 yX5_in wsX5_in) := goodIn_app (goodIn_of _ (by decide +kernel)) ggX5_was_X5_in
theorem dX5_was_0 : decode cX5_was 0 = .ok (.iload_n 1, 1) := by decide +kernel
theorem dX5_was_1 : decode cX5_was 1 = .ok (.iconst 0, 1) := by decide +kernel
theorem dX5_was_2 : decode cX5_was 2 = .ok (.aload_n 0, 1) := by decide +kernel
theorem dX5_was_3 : decode cX5_was 3 = .ok (.getfield 57, 3) := by decide +kernel
theorem dX5_was_6 : decode cX5_was 6 = .ok (.iconst 1, 1) := by decide +kernel
theorem dX5_was_7 : decode cX5_was 7 = .ok (.isub, 1) := by decide +kernel
theorem dX5_was_8 : decode cX5_was 8 = .ok (.invokestatic 60, 3) := by decide +kernel
theorem dX5_was_11 : decode cX5_was 11 = .ok (.ireturn, 1) := by decide +kernel
theorem dX5_at_0 : decode cX5_at 0 = .ok (.bipush 9, 2) := by decide +kernel
theorem dX5_at_2 : decode cX5_at 2 = .ok (.iload_n 0, 1) := by decide +kernel
theorem dX5_at_3 : decode cX5_at 3 = .ok (.imul, 1) := by decide +kernel
theorem dX5_at_4 : decode cX5_at 4 = .ok (.iload_n 1, 1) := by decide +kernel
theorem dX5_at_5 : decode cX5_at 5 = .ok (.iadd, 1) := by decide +kernel
theorem dX5_at_6 : decode cX5_at 6 = .ok (.ireturn, 1) := by decide +kernel
theorem dX5_least_0 : decode cX5_least 0 = .ok (.iload_n 0, 1) := by decide +kernel
theorem dX5_least_1 : decode cX5_least 1 = .ok (.iload_n 1, 1) := by decide +kernel
theorem dX5_least_2 : decode cX5_least 2 = .ok (.if_icmp .ge 7, 3) := by decide +kernel
theorem dX5_least_5 : decode cX5_least 5 = .ok (.iload_n 0, 1) := by decide +kernel
theorem dX5_least_6 : decode cX5_least 6 = .ok (.goto 4, 3) := by decide +kernel
theorem dX5_least_9 : decode cX5_least 9 = .ok (.iload_n 1, 1) := by decide +kernel
theorem dX5_least_10 : decode cX5_least 10 = .ok (.ireturn, 1) := by decide +kernel
set_option maxRecDepth 20000 in
theorem ggX5_free_X5_at : GoodIn wsX5_free wsX5_at := goodIn_r _ [6] (by decide +kernel) (by decide +kernel)
set_option maxRecDepth 20000 in
theorem gX5_free_X5_at : GoodIn wsX5_free (va_wsS RX5 64 yX5_at wsX5_at) := goodIn_app (goodIn_of _ (by decide +kernel)) ggX5_free_X5_at
theorem dX5_free_0 : decode cX5_free 0 = .ok (.aload_n 0, 1) := by decide +kernel
theorem dX5_free_1 : decode cX5_free 1 = .ok (.getfield 13, 3) := by decide +kernel
theorem dX5_free_4 : decode cX5_free 4 = .ok (.iload_n 1, 1) := by decide +kernel
theorem dX5_free_5 : decode cX5_free 5 = .ok (.iload_n 2, 1) := by decide +kernel
theorem dX5_free_6 : decode cX5_free 6 = .ok (.invokestatic 64, 3) := by decide +kernel
theorem dX5_free_9 : decode cX5_free 9 = .ok (.iaload, 1) := by decide +kernel
theorem dX5_free_10 : decode cX5_free 10 = .ok (.aload_n 0, 1) := by decide +kernel
theorem dX5_free_11 : decode cX5_free 11 = .ok (.getfield 17, 3) := by decide +kernel
theorem dX5_free_14 : decode cX5_free 14 = .ok (.iload_n 1, 1) := by decide +kernel
theorem dX5_free_15 : decode cX5_free 15 = .ok (.iload_n 2, 1) := by decide +kernel
theorem dX5_free_16 : decode cX5_free 16 = .ok (.invokestatic 64, 3) := by decide +kernel
theorem dX5_free_19 : decode cX5_free 19 = .ok (.iaload, 1) := by decide +kernel
theorem dX5_free_20 : decode cX5_free 20 = .ok (.isub, 1) := by decide +kernel
theorem dX5_free_21 : decode cX5_free 21 = .ok (.ireturn, 1) := by decide +kernel
set_option maxRecDepth 20000 in
theorem ggX5_balanceOf_X5_at : GoodIn wsX5_balanceOf wsX5_at := goodIn_r _ [5] (by decide +kernel) (by decide +kernel)
set_option maxRecDepth 20000 in
theorem gX5_balanceOf_X5_at : GoodIn wsX5_balanceOf (va_wsS RX5 64 yX5_at wsX5_at) := goodIn_app (goodIn_of _ (by decide +kernel)) ggX5_balanceOf_X5_at
theorem dX5_balanceOf_0 : decode cX5_balanceOf 0 = .ok (.iconst 0, 1) := by decide +kernel
theorem dX5_balanceOf_1 : decode cX5_balanceOf 1 = .ok (.istore_n 2, 1) := by decide +kernel
theorem dX5_balanceOf_2 : decode cX5_balanceOf 2 = .ok (.iconst 0, 1) := by decide +kernel
theorem dX5_balanceOf_3 : decode cX5_balanceOf 3 = .ok (.istore_n 3, 1) := by decide +kernel
theorem dX5_balanceOf_4 : decode cX5_balanceOf 4 = .ok (.iload_n 3, 1) := by decide +kernel
theorem dX5_balanceOf_5 : decode cX5_balanceOf 5 = .ok (.bipush 9, 2) := by decide +kernel
theorem dX5_balanceOf_7 : decode cX5_balanceOf 7 = .ok (.if_icmp .ge 33, 3) := by decide +kernel
theorem dX5_balanceOf_10 : decode cX5_balanceOf 10 = .ok (.iload_n 2, 1) := by decide +kernel
theorem dX5_balanceOf_11 : decode cX5_balanceOf 11 = .ok (.aload_n 0, 1) := by decide +kernel
theorem dX5_balanceOf_12 : decode cX5_balanceOf 12 = .ok (.getfield 13, 3) := by decide +kernel
theorem dX5_balanceOf_15 : decode cX5_balanceOf 15 = .ok (.iload_n 3, 1) := by decide +kernel
theorem dX5_balanceOf_16 : decode cX5_balanceOf 16 = .ok (.iload_n 1, 1) := by decide +kernel
theorem dX5_balanceOf_17 : decode cX5_balanceOf 17 = .ok (.invokestatic 64, 3) := by decide +kernel
theorem dX5_balanceOf_20 : decode cX5_balanceOf 20 = .ok (.iaload, 1) := by decide +kernel
theorem dX5_balanceOf_21 : decode cX5_balanceOf 21 = .ok (.aload_n 0, 1) := by decide +kernel
theorem dX5_balanceOf_22 : decode cX5_balanceOf 22 = .ok (.getfield 13, 3) := by decide +kernel
theorem dX5_balanceOf_25 : decode cX5_balanceOf 25 = .ok (.iload_n 1, 1) := by decide +kernel
theorem dX5_balanceOf_26 : decode cX5_balanceOf 26 = .ok (.iload_n 3, 1) := by decide +kernel
theorem dX5_balanceOf_27 : decode cX5_balanceOf 27 = .ok (.invokestatic 64, 3) := by decide +kernel
theorem dX5_balanceOf_30 : decode cX5_balanceOf 30 = .ok (.iaload, 1) := by decide +kernel
theorem dX5_balanceOf_31 : decode cX5_balanceOf 31 = .ok (.isub, 1) := by decide +kernel
theorem dX5_balanceOf_32 : decode cX5_balanceOf 32 = .ok (.iadd, 1) := by decide +kernel
theorem dX5_balanceOf_33 : decode cX5_balanceOf 33 = .ok (.istore_n 2, 1) := by decide +kernel
theorem dX5_balanceOf_34 : decode cX5_balanceOf 34 = .ok (.iinc 3 1, 3) := by decide +kernel
theorem dX5_balanceOf_37 : decode cX5_balanceOf 37 = .ok (.goto (-33), 3) := by decide +kernel
theorem dX5_balanceOf_40 : decode cX5_balanceOf 40 = .ok (.iload_n 2, 1) := by decide +kernel
theorem dX5_balanceOf_41 : decode cX5_balanceOf 41 = .ok (.ireturn, 1) := by decide +kernel
theorem dX5_isOf_0 : decode cX5_isOf 0 = .ok (.aload_n 0, 1) := by decide +kernel
theorem dX5_isOf_1 : decode cX5_isOf 1 = .ok (.getfield 26, 3) := by decide +kernel
theorem dX5_isOf_4 : decode cX5_isOf 4 = .ok (.iload_n 1, 1) := by decide +kernel
theorem dX5_isOf_5 : decode cX5_isOf 5 = .ok (.iaload, 1) := by decide +kernel
theorem dX5_isOf_6 : decode cX5_isOf 6 = .ok (.iload_n 2, 1) := by decide +kernel
theorem dX5_isOf_7 : decode cX5_isOf 7 = .ok (.if_icmp .eq 13, 3) := by decide +kernel
theorem dX5_isOf_10 : decode cX5_isOf 10 = .ok (.aload_n 0, 1) := by decide +kernel
theorem dX5_isOf_11 : decode cX5_isOf 11 = .ok (.getfield 29, 3) := by decide +kernel
theorem dX5_isOf_14 : decode cX5_isOf 14 = .ok (.iload_n 1, 1) := by decide +kernel
theorem dX5_isOf_15 : decode cX5_isOf 15 = .ok (.iaload, 1) := by decide +kernel
theorem dX5_isOf_16 : decode cX5_isOf 16 = .ok (.iload_n 2, 1) := by decide +kernel
theorem dX5_isOf_17 : decode cX5_isOf 17 = .ok (.if_icmp .ne 7, 3) := by decide +kernel
theorem dX5_isOf_20 : decode cX5_isOf 20 = .ok (.iconst 1, 1) := by decide +kernel
theorem dX5_isOf_21 : decode cX5_isOf 21 = .ok (.goto 4, 3) := by decide +kernel
theorem dX5_isOf_24 : decode cX5_isOf 24 = .ok (.iconst 0, 1) := by decide +kernel
theorem dX5_isOf_25 : decode cX5_isOf 25 = .ok (.ireturn, 1) := by decide +kernel
set_option maxRecDepth 20000 in
theorem ggX5_limitOf_X5_isOf : GoodIn wsX5_limitOf wsX5_isOf := goodIn_r _ [11, 12, 13, 17, 18, 19, 20, 21, 22, 23, 24, 25, 26, 27, 28, 29, 30, 31, 32, 33, 34, 35] (by decide +kernel) (by decide +kernel)
set_option maxRecDepth 20000 in
theorem gX5_limitOf_X5_isOf : GoodIn wsX5_limitOf (wsV RX5 71 RX5 yX5_isOf wsX5_isOf) := goodIn_app (goodIn_of _ (by decide +kernel)) ggX5_limitOf_X5_isOf
set_option maxRecDepth 20000 in
theorem ggX5_limitOf_X5_at : GoodIn wsX5_limitOf wsX5_at := goodIn_r _ [16] (by decide +kernel) (by decide +kernel)
set_option maxRecDepth 20000 in
theorem gX5_limitOf_X5_at : GoodIn wsX5_limitOf (va_wsS RX5 64 yX5_at wsX5_at) := goodIn_app (goodIn_of _ (by decide +kernel)) ggX5_limitOf_X5_at
theorem dX5_limitOf_0 : decode cX5_limitOf 0 = .ok (.iconst 0, 1) := by decide +kernel
theorem dX5_limitOf_1 : decode cX5_limitOf 1 = .ok (.istore_n 2, 1) := by decide +kernel
theorem dX5_limitOf_2 : decode cX5_limitOf 2 = .ok (.iconst 0, 1) := by decide +kernel
theorem dX5_limitOf_3 : decode cX5_limitOf 3 = .ok (.istore_n 3, 1) := by decide +kernel
theorem dX5_limitOf_4 : decode cX5_limitOf 4 = .ok (.iload_n 3, 1) := by decide +kernel
theorem dX5_limitOf_5 : decode cX5_limitOf 5 = .ok (.aload_n 0, 1) := by decide +kernel
theorem dX5_limitOf_6 : decode cX5_limitOf 6 = .ok (.getfield 68, 3) := by decide +kernel
theorem dX5_limitOf_9 : decode cX5_limitOf 9 = .ok (.if_icmp .ge 57, 3) := by decide +kernel
theorem dX5_limitOf_12 : decode cX5_limitOf 12 = .ok (.iload_n 2, 1) := by decide +kernel
theorem dX5_limitOf_13 : decode cX5_limitOf 13 = .ok (.aload_n 0, 1) := by decide +kernel
theorem dX5_limitOf_14 : decode cX5_limitOf 14 = .ok (.iload_n 3, 1) := by decide +kernel
theorem dX5_limitOf_15 : decode cX5_limitOf 15 = .ok (.iload_n 1, 1) := by decide +kernel
theorem dX5_limitOf_16 : decode cX5_limitOf 16 = .ok (.invokevirtual 71, 3) := by decide +kernel
theorem dX5_limitOf_19 : decode cX5_limitOf 19 = .ok (.ifCond .eq 38, 3) := by decide +kernel
theorem dX5_limitOf_22 : decode cX5_limitOf 22 = .ok (.aload_n 0, 1) := by decide +kernel
theorem dX5_limitOf_23 : decode cX5_limitOf 23 = .ok (.getfield 38, 3) := by decide +kernel
theorem dX5_limitOf_26 : decode cX5_limitOf 26 = .ok (.iload_n 3, 1) := by decide +kernel
theorem dX5_limitOf_27 : decode cX5_limitOf 27 = .ok (.iaload, 1) := by decide +kernel
theorem dX5_limitOf_28 : decode cX5_limitOf 28 = .ok (.iconst 2, 1) := by decide +kernel
theorem dX5_limitOf_29 : decode cX5_limitOf 29 = .ok (.if_icmp .eq 28, 3) := by decide +kernel
theorem dX5_limitOf_32 : decode cX5_limitOf 32 = .ok (.aload_n 0, 1) := by decide +kernel
theorem dX5_limitOf_33 : decode cX5_limitOf 33 = .ok (.getfield 35, 3) := by decide +kernel
theorem dX5_limitOf_36 : decode cX5_limitOf 36 = .ok (.iload_n 3, 1) := by decide +kernel
theorem dX5_limitOf_37 : decode cX5_limitOf 37 = .ok (.iaload, 1) := by decide +kernel
theorem dX5_limitOf_38 : decode cX5_limitOf 38 = .ok (.aload_n 0, 1) := by decide +kernel
theorem dX5_limitOf_39 : decode cX5_limitOf 39 = .ok (.getfield 75, 3) := by decide +kernel
theorem dX5_limitOf_42 : decode cX5_limitOf 42 = .ok (.bipush 9, 2) := by decide +kernel
theorem dX5_limitOf_44 : decode cX5_limitOf 44 = .ok (.isub, 1) := by decide +kernel
theorem dX5_limitOf_45 : decode cX5_limitOf 45 = .ok (.if_icmp .lt 12, 3) := by decide +kernel
theorem dX5_limitOf_48 : decode cX5_limitOf 48 = .ok (.aload_n 0, 1) := by decide +kernel
theorem dX5_limitOf_49 : decode cX5_limitOf 49 = .ok (.getfield 32, 3) := by decide +kernel
theorem dX5_limitOf_52 : decode cX5_limitOf 52 = .ok (.iload_n 3, 1) := by decide +kernel
theorem dX5_limitOf_53 : decode cX5_limitOf 53 = .ok (.iaload, 1) := by decide +kernel
theorem dX5_limitOf_54 : decode cX5_limitOf 54 = .ok (.goto 4, 3) := by decide +kernel
theorem dX5_limitOf_57 : decode cX5_limitOf 57 = .ok (.iconst 0, 1) := by decide +kernel
theorem dX5_limitOf_58 : decode cX5_limitOf 58 = .ok (.iadd, 1) := by decide +kernel
theorem dX5_limitOf_59 : decode cX5_limitOf 59 = .ok (.istore_n 2, 1) := by decide +kernel
theorem dX5_limitOf_60 : decode cX5_limitOf 60 = .ok (.iinc 3 1, 3) := by decide +kernel
theorem dX5_limitOf_63 : decode cX5_limitOf 63 = .ok (.goto (-59), 3) := by decide +kernel
theorem dX5_limitOf_66 : decode cX5_limitOf 66 = .ok (.sipush 500, 3) := by decide +kernel
theorem dX5_limitOf_69 : decode cX5_limitOf 69 = .ok (.iload_n 2, 1) := by decide +kernel
theorem dX5_limitOf_70 : decode cX5_limitOf 70 = .ok (.bipush 10, 2) := by decide +kernel
theorem dX5_limitOf_72 : decode cX5_limitOf 72 = .ok (.idiv, 1) := by decide +kernel
theorem dX5_limitOf_73 : decode cX5_limitOf 73 = .ok (.iadd, 1) := by decide +kernel
theorem dX5_limitOf_74 : decode cX5_limitOf 74 = .ok (.istore_n 3, 1) := by decide +kernel
theorem dX5_limitOf_75 : decode cX5_limitOf 75 = .ok (.iconst 0, 1) := by decide +kernel
theorem dX5_limitOf_76 : decode cX5_limitOf 76 = .ok (.istore 4, 2) := by decide +kernel
theorem dX5_limitOf_78 : decode cX5_limitOf 78 = .ok (.iload 4, 2) := by decide +kernel
theorem dX5_limitOf_80 : decode cX5_limitOf 80 = .ok (.bipush 8, 2) := by decide +kernel
theorem dX5_limitOf_82 : decode cX5_limitOf 82 = .ok (.if_icmp .ge 35, 3) := by decide +kernel
theorem dX5_limitOf_85 : decode cX5_limitOf 85 = .ok (.iload_n 3, 1) := by decide +kernel
theorem dX5_limitOf_86 : decode cX5_limitOf 86 = .ok (.aload_n 0, 1) := by decide +kernel
theorem dX5_limitOf_87 : decode cX5_limitOf 87 = .ok (.getfield 20, 3) := by decide +kernel
theorem dX5_limitOf_90 : decode cX5_limitOf 90 = .ok (.iload 4, 2) := by decide +kernel
theorem dX5_limitOf_92 : decode cX5_limitOf 92 = .ok (.iload_n 1, 1) := by decide +kernel
theorem dX5_limitOf_93 : decode cX5_limitOf 93 = .ok (.invokestatic 64, 3) := by decide +kernel
theorem dX5_limitOf_96 : decode cX5_limitOf 96 = .ok (.iaload, 1) := by decide +kernel
theorem dX5_limitOf_97 : decode cX5_limitOf 97 = .ok (.aload_n 0, 1) := by decide +kernel
theorem dX5_limitOf_98 : decode cX5_limitOf 98 = .ok (.getfield 20, 3) := by decide +kernel
theorem dX5_limitOf_101 : decode cX5_limitOf 101 = .ok (.iload_n 1, 1) := by decide +kernel
theorem dX5_limitOf_102 : decode cX5_limitOf 102 = .ok (.iload 4, 2) := by decide +kernel
theorem dX5_limitOf_104 : decode cX5_limitOf 104 = .ok (.invokestatic 64, 3) := by decide +kernel
theorem dX5_limitOf_107 : decode cX5_limitOf 107 = .ok (.iaload, 1) := by decide +kernel
theorem dX5_limitOf_108 : decode cX5_limitOf 108 = .ok (.isub, 1) := by decide +kernel
theorem dX5_limitOf_109 : decode cX5_limitOf 109 = .ok (.iadd, 1) := by decide +kernel
theorem dX5_limitOf_110 : decode cX5_limitOf 110 = .ok (.istore_n 3, 1) := by decide +kernel
theorem dX5_limitOf_111 : decode cX5_limitOf 111 = .ok (.iinc 4 1, 3) := by decide +kernel
theorem dX5_limitOf_114 : decode cX5_limitOf 114 = .ok (.goto (-36), 3) := by decide +kernel
theorem dX5_limitOf_117 : decode cX5_limitOf 117 = .ok (.iload_n 3, 1) := by decide +kernel
theorem dX5_limitOf_118 : decode cX5_limitOf 118 = .ok (.ireturn, 1) := by decide +kernel
theorem dX5_isBelow_0 : decode cX5_isBelow 0 = .ok (.iload_n 0, 1) := by decide +kernel
theorem dX5_isBelow_1 : decode cX5_isBelow 1 = .ok (.iload_n 1, 1) := by decide +kernel
theorem dX5_isBelow_2 : decode cX5_isBelow 2 = .ok (.iadd, 1) := by decide +kernel
theorem dX5_isBelow_3 : decode cX5_isBelow 3 = .ok (.ifCond .ge 7, 3) := by decide +kernel
theorem dX5_isBelow_6 : decode cX5_isBelow 6 = .ok (.iconst 1, 1) := by decide +kernel
theorem dX5_isBelow_7 : decode cX5_isBelow 7 = .ok (.goto 4, 3) := by decide +kernel
theorem dX5_isBelow_10 : decode cX5_isBelow 10 = .ok (.iconst 0, 1) := by decide +kernel
theorem dX5_isBelow_11 : decode cX5_isBelow 11 = .ok (.ireturn, 1) := by decide +kernel
theorem dX5_join_0 : decode cX5_join 0 = .ok (.aload_n 0, 1) := by decide +kernel
theorem dX5_join_1 : decode cX5_join 1 = .ok (.aload_n 0, 1) := by decide +kernel
theorem dX5_join_2 : decode cX5_join 2 = .ok (.getfield 57, 3) := by decide +kernel
theorem dX5_join_5 : decode cX5_join 5 = .ok (.bipush 8, 2) := by decide +kernel
theorem dX5_join_7 : decode cX5_join 7 = .ok (.if_icmp .ne 7, 3) := by decide +kernel
theorem dX5_join_10 : decode cX5_join 10 = .ok (.iconst 1, 1) := by decide +kernel
theorem dX5_join_11 : decode cX5_join 11 = .ok (.goto 4, 3) := by decide +kernel
theorem dX5_join_14 : decode cX5_join 14 = .ok (.iconst 0, 1) := by decide +kernel
theorem dX5_join_15 : decode cX5_join 15 = .ok (.putfield 54, 3) := by decide +kernel
theorem dX5_join_18 : decode cX5_join 18 = .ok (.aload_n 0, 1) := by decide +kernel
theorem dX5_join_19 : decode cX5_join 19 = .ok (.getfield 54, 3) := by decide +kernel
theorem dX5_join_22 : decode cX5_join 22 = .ok (.ifCond .le 5, 3) := by decide +kernel
theorem dX5_join_25 : decode cX5_join 25 = .ok (.iconst 0, 1) := by decide +kernel
theorem dX5_join_26 : decode cX5_join 26 = .ok (.ireturn, 1) := by decide +kernel
theorem dX5_join_27 : decode cX5_join 27 = .ok (.aload_n 0, 1) := by decide +kernel
theorem dX5_join_28 : decode cX5_join 28 = .ok (.getfield 7, 3) := by decide +kernel
theorem dX5_join_31 : decode cX5_join 31 = .ok (.aload_n 0, 1) := by decide +kernel
theorem dX5_join_32 : decode cX5_join 32 = .ok (.getfield 57, 3) := by decide +kernel
theorem dX5_join_35 : decode cX5_join 35 = .ok (.iconst 1, 1) := by decide +kernel
theorem dX5_join_36 : decode cX5_join 36 = .ok (.bastore, 1) := by decide +kernel
theorem dX5_join_37 : decode cX5_join 37 = .ok (.aload_n 0, 1) := by decide +kernel
theorem dX5_join_38 : decode cX5_join 38 = .ok (.dup, 1) := by decide +kernel
theorem dX5_join_39 : decode cX5_join 39 = .ok (.getfield 57, 3) := by decide +kernel
theorem dX5_join_42 : decode cX5_join 42 = .ok (.iconst 1, 1) := by decide +kernel
theorem dX5_join_43 : decode cX5_join 43 = .ok (.iadd, 1) := by decide +kernel
theorem dX5_join_44 : decode cX5_join 44 = .ok (.putfield 57, 3) := by decide +kernel
theorem dX5_join_47 : decode cX5_join 47 = .ok (.aload_n 0, 1) := by decide +kernel
theorem dX5_join_48 : decode cX5_join 48 = .ok (.getfield 57, 3) := by decide +kernel
theorem dX5_join_51 : decode cX5_join 51 = .ok (.iconst 1, 1) := by decide +kernel
theorem dX5_join_52 : decode cX5_join 52 = .ok (.isub, 1) := by decide +kernel
theorem dX5_join_53 : decode cX5_join 53 = .ok (.ireturn, 1) := by decide +kernel
set_option maxRecDepth 20000 in
theorem ggX5_lowestTo_X5_at : GoodIn wsX5_lowestTo wsX5_at := goodIn_r _ [5] (by decide +kernel) (by decide +kernel)
set_option maxRecDepth 20000 in
theorem gX5_lowestTo_X5_at : GoodIn wsX5_lowestTo (va_wsS RX5 64 yX5_at wsX5_at) := goodIn_app (goodIn_of _ (by decide +kernel)) ggX5_lowestTo_X5_at
theorem dX5_lowestTo_0 : decode cX5_lowestTo 0 = .ok (.iconst (-1), 1) := by decide +kernel
theorem dX5_lowestTo_1 : decode cX5_lowestTo 1 = .ok (.istore_n 2, 1) := by decide +kernel
theorem dX5_lowestTo_2 : decode cX5_lowestTo 2 = .ok (.bipush 7, 2) := by decide +kernel
theorem dX5_lowestTo_4 : decode cX5_lowestTo 4 = .ok (.istore_n 3, 1) := by decide +kernel
theorem dX5_lowestTo_5 : decode cX5_lowestTo 5 = .ok (.iload_n 3, 1) := by decide +kernel
theorem dX5_lowestTo_6 : decode cX5_lowestTo 6 = .ok (.ifCond .lt 28, 3) := by decide +kernel
theorem dX5_lowestTo_9 : decode cX5_lowestTo 9 = .ok (.aload_n 0, 1) := by decide +kernel
theorem dX5_lowestTo_10 : decode cX5_lowestTo 10 = .ok (.getfield 13, 3) := by decide +kernel
theorem dX5_lowestTo_13 : decode cX5_lowestTo 13 = .ok (.iload_n 3, 1) := by decide +kernel
theorem dX5_lowestTo_14 : decode cX5_lowestTo 14 = .ok (.iload_n 1, 1) := by decide +kernel
theorem dX5_lowestTo_15 : decode cX5_lowestTo 15 = .ok (.invokestatic 64, 3) := by decide +kernel
theorem dX5_lowestTo_18 : decode cX5_lowestTo 18 = .ok (.iaload, 1) := by decide +kernel
theorem dX5_lowestTo_19 : decode cX5_lowestTo 19 = .ok (.ifCond .le 7, 3) := by decide +kernel
theorem dX5_lowestTo_22 : decode cX5_lowestTo 22 = .ok (.iload_n 3, 1) := by decide +kernel
theorem dX5_lowestTo_23 : decode cX5_lowestTo 23 = .ok (.goto 4, 3) := by decide +kernel
theorem dX5_lowestTo_26 : decode cX5_lowestTo 26 = .ok (.iload_n 2, 1) := by decide +kernel
theorem dX5_lowestTo_27 : decode cX5_lowestTo 27 = .ok (.istore_n 2, 1) := by decide +kernel
theorem dX5_lowestTo_28 : decode cX5_lowestTo 28 = .ok (.iinc 3 (-1), 3) := by decide +kernel
theorem dX5_lowestTo_31 : decode cX5_lowestTo 31 = .ok (.goto (-26), 3) := by decide +kernel
theorem dX5_lowestTo_34 : decode cX5_lowestTo 34 = .ok (.iload_n 2, 1) := by decide +kernel
theorem dX5_lowestTo_35 : decode cX5_lowestTo 35 = .ok (.ireturn, 1) := by decide +kernel
set_option maxRecDepth 20000 in
theorem ggX5_lowestOf_X5_at : GoodIn wsX5_lowestOf wsX5_at := goodIn_r _ [5] (by decide +kernel) (by decide +kernel)
set_option maxRecDepth 20000 in
theorem gX5_lowestOf_X5_at : GoodIn wsX5_lowestOf (va_wsS RX5 64 yX5_at wsX5_at) := goodIn_app (goodIn_of _ (by decide +kernel)) ggX5_lowestOf_X5_at
theorem dX5_lowestOf_0 : decode cX5_lowestOf 0 = .ok (.iconst (-1), 1) := by decide +kernel
theorem dX5_lowestOf_1 : decode cX5_lowestOf 1 = .ok (.istore_n 2, 1) := by decide +kernel
theorem dX5_lowestOf_2 : decode cX5_lowestOf 2 = .ok (.bipush 8, 2) := by decide +kernel
theorem dX5_lowestOf_4 : decode cX5_lowestOf 4 = .ok (.istore_n 3, 1) := by decide +kernel
theorem dX5_lowestOf_5 : decode cX5_lowestOf 5 = .ok (.iload_n 3, 1) := by decide +kernel
theorem dX5_lowestOf_6 : decode cX5_lowestOf 6 = .ok (.ifCond .lt 28, 3) := by decide +kernel
theorem dX5_lowestOf_9 : decode cX5_lowestOf 9 = .ok (.aload_n 0, 1) := by decide +kernel
theorem dX5_lowestOf_10 : decode cX5_lowestOf 10 = .ok (.getfield 13, 3) := by decide +kernel
theorem dX5_lowestOf_13 : decode cX5_lowestOf 13 = .ok (.iload_n 1, 1) := by decide +kernel
theorem dX5_lowestOf_14 : decode cX5_lowestOf 14 = .ok (.iload_n 3, 1) := by decide +kernel
theorem dX5_lowestOf_15 : decode cX5_lowestOf 15 = .ok (.invokestatic 64, 3) := by decide +kernel
theorem dX5_lowestOf_18 : decode cX5_lowestOf 18 = .ok (.iaload, 1) := by decide +kernel
theorem dX5_lowestOf_19 : decode cX5_lowestOf 19 = .ok (.ifCond .le 7, 3) := by decide +kernel
theorem dX5_lowestOf_22 : decode cX5_lowestOf 22 = .ok (.iload_n 3, 1) := by decide +kernel
theorem dX5_lowestOf_23 : decode cX5_lowestOf 23 = .ok (.goto 4, 3) := by decide +kernel
theorem dX5_lowestOf_26 : decode cX5_lowestOf 26 = .ok (.iload_n 2, 1) := by decide +kernel
theorem dX5_lowestOf_27 : decode cX5_lowestOf 27 = .ok (.istore_n 2, 1) := by decide +kernel
theorem dX5_lowestOf_28 : decode cX5_lowestOf 28 = .ok (.iinc 3 (-1), 3) := by decide +kernel
theorem dX5_lowestOf_31 : decode cX5_lowestOf 31 = .ok (.goto (-26), 3) := by decide +kernel
theorem dX5_lowestOf_34 : decode cX5_lowestOf 34 = .ok (.iload_n 2, 1) := by decide +kernel
theorem dX5_lowestOf_35 : decode cX5_lowestOf 35 = .ok (.ireturn, 1) := by decide +kernel
set_option maxRecDepth 20000 in
theorem ggX5_takesOver_X5_at : GoodIn wsX5_takesOver wsX5_at := goodIn_r _ [5] (by decide +kernel) (by decide +kernel)
