theorem dX5_pays_31 : decode cX5_pays 31 = .ok (.if_icmp .ge 47, 3) := by decide +kernel
theorem dX5_pays_34 : decode cX5_pays 34 = .ok (.aload_n 0, 1) := by decide +kernel
theorem dX5_pays_35 : decode cX5_pays 35 = .ok (.iload 4, 2) := by decide +kernel
theorem dX5_pays_37 : decode cX5_pays 37 = .ok (.iload_n 1, 1) := by decide +kernel
theorem dX5_pays_38 : decode cX5_pays 38 = .ok (.invokevirtual 115, 3) := by decide +kernel
theorem dX5_pays_41 : decode cX5_pays 41 = .ok (.ifCond .le 29, 3) := by decide +kernel
theorem dX5_pays_44 : decode cX5_pays 44 = .ok (.iload_n 3, 1) := by decide +kernel
theorem dX5_pays_45 : decode cX5_pays 45 = .ok (.iconst (-1), 1) := by decide +kernel
theorem dX5_pays_46 : decode cX5_pays 46 = .ok (.if_icmp .eq 19, 3) := by decide +kernel
theorem dX5_pays_49 : decode cX5_pays 49 = .ok (.aload_n 0, 1) := by decide +kernel
theorem dX5_pays_50 : decode cX5_pays 50 = .ok (.iload 4, 2) := by decide +kernel
theorem dX5_pays_52 : decode cX5_pays 52 = .ok (.iload_n 1, 1) := by decide +kernel
theorem dX5_pays_53 : decode cX5_pays 53 = .ok (.invokevirtual 115, 3) := by decide +kernel
theorem dX5_pays_56 : decode cX5_pays 56 = .ok (.aload_n 0, 1) := by decide +kernel
theorem dX5_pays_57 : decode cX5_pays 57 = .ok (.iload_n 3, 1) := by decide +kernel
theorem dX5_pays_58 : decode cX5_pays 58 = .ok (.iload_n 1, 1) := by decide +kernel
theorem dX5_pays_59 : decode cX5_pays 59 = .ok (.invokevirtual 115, 3) := by decide +kernel
theorem dX5_pays_62 : decode cX5_pays 62 = .ok (.if_icmp .le 8, 3) := by decide +kernel
theorem dX5_pays_65 : decode cX5_pays 65 = .ok (.iload 4, 2) := by decide +kernel
theorem dX5_pays_67 : decode cX5_pays 67 = .ok (.goto 4, 3) := by decide +kernel
theorem dX5_pays_70 : decode cX5_pays 70 = .ok (.iload_n 3, 1) := by decide +kernel
theorem dX5_pays_71 : decode cX5_pays 71 = .ok (.istore_n 3, 1) := by decide +kernel
theorem dX5_pays_72 : decode cX5_pays 72 = .ok (.iinc 4 1, 3) := by decide +kernel
theorem dX5_pays_75 : decode cX5_pays 75 = .ok (.goto (-48), 3) := by decide +kernel
theorem dX5_pays_78 : decode cX5_pays 78 = .ok (.iload_n 3, 1) := by decide +kernel
theorem dX5_pays_79 : decode cX5_pays 79 = .ok (.iconst (-1), 1) := by decide +kernel
theorem dX5_pays_80 : decode cX5_pays 80 = .ok (.if_icmp .ne 4, 3) := by decide +kernel
theorem dX5_pays_83 : decode cX5_pays 83 = .ok (.return_, 1) := by decide +kernel
theorem dX5_pays_84 : decode cX5_pays 84 = .ok (.iload_n 2, 1) := by decide +kernel
theorem dX5_pays_85 : decode cX5_pays 85 = .ok (.aload_n 0, 1) := by decide +kernel
theorem dX5_pays_86 : decode cX5_pays 86 = .ok (.iload_n 3, 1) := by decide +kernel
theorem dX5_pays_87 : decode cX5_pays 87 = .ok (.iload_n 1, 1) := by decide +kernel
theorem dX5_pays_88 : decode cX5_pays 88 = .ok (.invokevirtual 115, 3) := by decide +kernel
theorem dX5_pays_91 : decode cX5_pays 91 = .ok (.invokestatic 85, 3) := by decide +kernel
theorem dX5_pays_94 : decode cX5_pays 94 = .ok (.istore 4, 2) := by decide +kernel
theorem dX5_pays_96 : decode cX5_pays 96 = .ok (.aload_n 0, 1) := by decide +kernel
theorem dX5_pays_97 : decode cX5_pays 97 = .ok (.getfield 13, 3) := by decide +kernel
theorem dX5_pays_100 : decode cX5_pays 100 = .ok (.iload_n 3, 1) := by decide +kernel
theorem dX5_pays_101 : decode cX5_pays 101 = .ok (.iload_n 1, 1) := by decide +kernel
theorem dX5_pays_102 : decode cX5_pays 102 = .ok (.invokestatic 64, 3) := by decide +kernel
theorem dX5_pays_105 : decode cX5_pays 105 = .ok (.dup2, 1) := by decide +kernel
theorem dX5_pays_106 : decode cX5_pays 106 = .ok (.iaload, 1) := by decide +kernel
theorem dX5_pays_107 : decode cX5_pays 107 = .ok (.iload 4, 2) := by decide +kernel
theorem dX5_pays_109 : decode cX5_pays 109 = .ok (.isub, 1) := by decide +kernel
theorem dX5_pays_110 : decode cX5_pays 110 = .ok (.iastore, 1) := by decide +kernel
theorem dX5_pays_111 : decode cX5_pays 111 = .ok (.aload_n 0, 1) := by decide +kernel
theorem dX5_pays_112 : decode cX5_pays 112 = .ok (.getfield 13, 3) := by decide +kernel
theorem dX5_pays_115 : decode cX5_pays 115 = .ok (.iload_n 3, 1) := by decide +kernel
theorem dX5_pays_116 : decode cX5_pays 116 = .ok (.bipush 8, 2) := by decide +kernel
theorem dX5_pays_118 : decode cX5_pays 118 = .ok (.invokestatic 64, 3) := by decide +kernel
theorem dX5_pays_121 : decode cX5_pays 121 = .ok (.dup2, 1) := by decide +kernel
theorem dX5_pays_122 : decode cX5_pays 122 = .ok (.iaload, 1) := by decide +kernel
theorem dX5_pays_123 : decode cX5_pays 123 = .ok (.iload 4, 2) := by decide +kernel
theorem dX5_pays_125 : decode cX5_pays 125 = .ok (.iadd, 1) := by decide +kernel
theorem dX5_pays_126 : decode cX5_pays 126 = .ok (.iastore, 1) := by decide +kernel
theorem dX5_pays_127 : decode cX5_pays 127 = .ok (.iload_n 2, 1) := by decide +kernel
theorem dX5_pays_128 : decode cX5_pays 128 = .ok (.iload 4, 2) := by decide +kernel
theorem dX5_pays_130 : decode cX5_pays 130 = .ok (.isub, 1) := by decide +kernel
theorem dX5_pays_131 : decode cX5_pays 131 = .ok (.istore_n 2, 1) := by decide +kernel
theorem dX5_pays_132 : decode cX5_pays 132 = .ok (.goto (-114), 3) := by decide +kernel
theorem dX5_pays_135 : decode cX5_pays 135 = .ok (.return_, 1) := by decide +kernel
set_option maxRecDepth 20000 in
theorem ggX5_night_X5_in : GoodIn wsX5_night wsX5_in := goodIn_r _ [9] (by decide +kernel) (by decide +kernel)
set_option maxRecDepth 20000 in
theorem gX5_night_X5_in : GoodIn wsX5_night (va_wsS RX5 60 yX5_in wsX5_in) := goodIn_app (goodIn_of _ (by decide +kernel)) ggX5_night_X5_in
set_option maxRecDepth 20000 in
theorem ggX5_night_X5_nets : GoodIn wsX5_night wsX5_nets := goodIn_r _ [13, 14, 15, 2, 16, 17, 18, 19, 8, 20, 3, 21, 22, 23, 24, 25, 26, 27, 28, 29, 30, 31, 32, 33, 34, 35, 36, 37, 38, 39, 62, 63, 64, 65, 66, 67, 68, 69, 70, 71, 72, 73, 74, 75, 76, 77, 78, 79, 80] (by decide +kernel) (by decide +kernel)
set_option maxRecDepth 20000 in
theorem gX5_night_X5_nets : GoodIn wsX5_night (wsV RX5 132 RX5 yX5_nets wsX5_nets) := goodIn_app (goodIn_of _ (by decide +kernel)) ggX5_night_X5_nets
set_option maxRecDepth 20000 in
theorem ggX5_night_X5_isLazy : GoodIn wsX5_night wsX5_isLazy := goodIn_r _ [43, 44, 45, 5, 46, 47, 48, 8, 49, 16, 30, 31, 32, 50, 51, 52, 53, 54, 55, 62, 63, 64, 65, 66, 67, 68, 69, 70, 71, 72, 73, 74, 75, 76, 77, 78, 79, 80] (by decide +kernel) (by decide +kernel)
set_option maxRecDepth 20000 in
theorem gX5_night_X5_isLazy : GoodIn wsX5_night (wsV RX5 136 RX5 yX5_isLazy wsX5_isLazy) := goodIn_app (goodIn_of _ (by decide +kernel)) ggX5_night_X5_isLazy
set_option maxRecDepth 20000 in
theorem ggX5_night_X5_pays : GoodIn wsX5_night wsX5_pays := goodIn_r _ [59, 60, 61, 16, 46, 47, 48, 8, 49, 30, 31, 32, 25, 26, 27, 28, 29, 37, 38, 39, 62, 63, 64, 65, 66, 67, 68, 69, 70, 71, 72, 73, 74, 75, 76, 77, 78, 79, 80] (by decide +kernel) (by decide +kernel)
set_option maxRecDepth 20000 in
theorem gX5_night_X5_pays : GoodIn wsX5_night (wsV RX5 139 RX5 yX5_pays wsX5_pays) := goodIn_app (goodIn_of _ (by decide +kernel)) ggX5_night_X5_pays
theorem dX5_night_0 : decode cX5_night 0 = .ok (.aload_n 0, 1) := by decide +kernel
theorem dX5_night_1 : decode cX5_night 1 = .ok (.iload_n 1, 1) := by decide +kernel
theorem dX5_night_2 : decode cX5_night 2 = .ok (.iconst 1, 1) := by decide +kernel
theorem dX5_night_3 : decode cX5_night 3 = .ok (.bipush 20, 2) := by decide +kernel
theorem dX5_night_5 : decode cX5_night 5 = .ok (.invokestatic 60, 3) := by decide +kernel
theorem dX5_night_8 : decode cX5_night 8 = .ok (.ifCond .eq 7, 3) := by decide +kernel
theorem dX5_night_11 : decode cX5_night 11 = .ok (.iconst 0, 1) := by decide +kernel
theorem dX5_night_12 : decode cX5_night 12 = .ok (.goto 4, 3) := by decide +kernel
theorem dX5_night_15 : decode cX5_night 15 = .ok (.iconst 1, 1) := by decide +kernel
theorem dX5_night_16 : decode cX5_night 16 = .ok (.putfield 54, 3) := by decide +kernel
theorem dX5_night_19 : decode cX5_night 19 = .ok (.iconst 0, 1) := by decide +kernel
theorem dX5_night_20 : decode cX5_night 20 = .ok (.istore_n 2, 1) := by decide +kernel
theorem dX5_night_21 : decode cX5_night 21 = .ok (.iload_n 2, 1) := by decide +kernel
theorem dX5_night_22 : decode cX5_night 22 = .ok (.iload_n 1, 1) := by decide +kernel
theorem dX5_night_23 : decode cX5_night 23 = .ok (.if_icmp .ge 88, 3) := by decide +kernel
theorem dX5_night_26 : decode cX5_night 26 = .ok (.aload_n 0, 1) := by decide +kernel
theorem dX5_night_27 : decode cX5_night 27 = .ok (.getfield 54, 3) := by decide +kernel
theorem dX5_night_30 : decode cX5_night 30 = .ok (.ifCond .ne 81, 3) := by decide +kernel
theorem dX5_night_33 : decode cX5_night 33 = .ok (.aload_n 0, 1) := by decide +kernel
theorem dX5_night_34 : decode cX5_night 34 = .ok (.iconst 0, 1) := by decide +kernel
theorem dX5_night_35 : decode cX5_night 35 = .ok (.putfield 127, 3) := by decide +kernel
theorem dX5_night_38 : decode cX5_night 38 = .ok (.iconst 1, 1) := by decide +kernel
theorem dX5_night_39 : decode cX5_night 39 = .ok (.istore_n 3, 1) := by decide +kernel
theorem dX5_night_40 : decode cX5_night 40 = .ok (.iload_n 3, 1) := by decide +kernel
theorem dX5_night_41 : decode cX5_night 41 = .ok (.ifCond .eq 11, 3) := by decide +kernel
theorem dX5_night_44 : decode cX5_night 44 = .ok (.aload_n 0, 1) := by decide +kernel
theorem dX5_night_45 : decode cX5_night 45 = .ok (.invokevirtual 132, 3) := by decide +kernel
theorem dX5_night_48 : decode cX5_night 48 = .ok (.istore_n 3, 1) := by decide +kernel
theorem dX5_night_49 : decode cX5_night 49 = .ok (.goto (-9), 3) := by decide +kernel
theorem dX5_night_52 : decode cX5_night 52 = .ok (.iconst 0, 1) := by decide +kernel
theorem dX5_night_53 : decode cX5_night 53 = .ok (.istore 4, 2) := by decide +kernel
theorem dX5_night_55 : decode cX5_night 55 = .ok (.iload 4, 2) := by decide +kernel
theorem dX5_night_57 : decode cX5_night 57 = .ok (.aload_n 0, 1) := by decide +kernel
theorem dX5_night_58 : decode cX5_night 58 = .ok (.getfield 57, 3) := by decide +kernel
theorem dX5_night_61 : decode cX5_night 61 = .ok (.if_icmp .ge 34, 3) := by decide +kernel
theorem dX5_night_64 : decode cX5_night 64 = .ok (.aload_n 0, 1) := by decide +kernel
theorem dX5_night_65 : decode cX5_night 65 = .ok (.getfield 7, 3) := by decide +kernel
theorem dX5_night_68 : decode cX5_night 68 = .ok (.iload 4, 2) := by decide +kernel
theorem dX5_night_70 : decode cX5_night 70 = .ok (.baload, 1) := by decide +kernel
theorem dX5_night_71 : decode cX5_night 71 = .ok (.ifCond .eq 18, 3) := by decide +kernel
theorem dX5_night_74 : decode cX5_night 74 = .ok (.aload_n 0, 1) := by decide +kernel
theorem dX5_night_75 : decode cX5_night 75 = .ok (.iload 4, 2) := by decide +kernel
theorem dX5_night_77 : decode cX5_night 77 = .ok (.invokevirtual 136, 3) := by decide +kernel
theorem dX5_night_80 : decode cX5_night 80 = .ok (.ifCond .eq 9, 3) := by decide +kernel
theorem dX5_night_83 : decode cX5_night 83 = .ok (.aload_n 0, 1) := by decide +kernel
theorem dX5_night_84 : decode cX5_night 84 = .ok (.iload 4, 2) := by decide +kernel
theorem dX5_night_86 : decode cX5_night 86 = .ok (.invokevirtual 139, 3) := by decide +kernel
theorem dX5_night_89 : decode cX5_night 89 = .ok (.iinc 4 1, 3) := by decide +kernel
theorem dX5_night_92 : decode cX5_night 92 = .ok (.goto (-37), 3) := by decide +kernel
theorem dX5_night_95 : decode cX5_night 95 = .ok (.aload_n 0, 1) := by decide +kernel
theorem dX5_night_96 : decode cX5_night 96 = .ok (.dup, 1) := by decide +kernel
theorem dX5_night_97 : decode cX5_night 97 = .ok (.getfield 75, 3) := by decide +kernel
theorem dX5_night_100 : decode cX5_night 100 = .ok (.iconst 1, 1) := by decide +kernel
theorem dX5_night_101 : decode cX5_night 101 = .ok (.iadd, 1) := by decide +kernel
theorem dX5_night_102 : decode cX5_night 102 = .ok (.putfield 75, 3) := by decide +kernel
theorem dX5_night_105 : decode cX5_night 105 = .ok (.iinc 2 1, 3) := by decide +kernel
theorem dX5_night_108 : decode cX5_night 108 = .ok (.goto (-87), 3) := by decide +kernel
theorem dX5_night_111 : decode cX5_night 111 = .ok (.aload_n 0, 1) := by decide +kernel
theorem dX5_night_112 : decode cX5_night 112 = .ok (.getfield 54, 3) := by decide +kernel
theorem dX5_night_115 : decode cX5_night 115 = .ok (.ifCond .le 7, 3) := by decide +kernel
theorem dX5_night_118 : decode cX5_night 118 = .ok (.iconst 0, 1) := by decide +kernel
theorem dX5_night_119 : decode cX5_night 119 = .ok (.goto 7, 3) := by decide +kernel
theorem dX5_night_122 : decode cX5_night 122 = .ok (.aload_n 0, 1) := by decide +kernel
theorem dX5_night_123 : decode cX5_night 123 = .ok (.getfield 75, 3) := by decide +kernel
theorem dX5_night_126 : decode cX5_night 126 = .ok (.ireturn, 1) := by decide +kernel
set_option maxRecDepth 20000 in
theorem ggX5_balance_X5_was : GoodIn wsX5_balance wsX5_was := goodIn_r _ [6, 7, 8, 9, 5, 10, 19, 20, 21, 22, 23, 24, 25, 26, 27, 28, 29, 30, 31, 32, 33, 34, 35, 36, 37] (by decide +kernel) (by decide +kernel)
set_option maxRecDepth 20000 in
theorem gX5_balance_X5_was : GoodIn wsX5_balance (wsV RX5 142 RX5 yX5_was wsX5_was) := goodIn_app (goodIn_of _ (by decide +kernel)) ggX5_balance_X5_was
set_option maxRecDepth 20000 in
theorem ggX5_balance_X5_balanceOf : GoodIn wsX5_balance wsX5_balanceOf := goodIn_r _ [14, 15, 16, 17, 5, 18, 19, 20, 21, 22, 23, 24, 25, 26, 27, 28, 29, 30, 31, 32, 33, 34, 35, 36, 37] (by decide +kernel) (by decide +kernel)
set_option maxRecDepth 20000 in
theorem gX5_balance_X5_balanceOf : GoodIn wsX5_balance (wsV RX5 103 RX5 yX5_balanceOf wsX5_balanceOf) := goodIn_app (goodIn_of _ (by decide +kernel)) ggX5_balance_X5_balanceOf
theorem dX5_balance_0 : decode cX5_balance 0 = .ok (.aload_n 0, 1) := by decide +kernel
theorem dX5_balance_1 : decode cX5_balance 1 = .ok (.aload_n 0, 1) := by decide +kernel
theorem dX5_balance_2 : decode cX5_balance 2 = .ok (.iload_n 1, 1) := by decide +kernel
theorem dX5_balance_3 : decode cX5_balance 3 = .ok (.invokevirtual 142, 3) := by decide +kernel
theorem dX5_balance_6 : decode cX5_balance 6 = .ok (.ifCond .ne 9, 3) := by decide +kernel
theorem dX5_balance_9 : decode cX5_balance 9 = .ok (.iload_n 1, 1) := by decide +kernel
theorem dX5_balance_10 : decode cX5_balance 10 = .ok (.bipush 8, 2) := by decide +kernel
theorem dX5_balance_12 : decode cX5_balance 12 = .ok (.if_icmp .ne 7, 3) := by decide +kernel
theorem dX5_balance_15 : decode cX5_balance 15 = .ok (.iconst 0, 1) := by decide +kernel
theorem dX5_balance_16 : decode cX5_balance 16 = .ok (.goto 4, 3) := by decide +kernel
theorem dX5_balance_19 : decode cX5_balance 19 = .ok (.iconst 1, 1) := by decide +kernel
theorem dX5_balance_20 : decode cX5_balance 20 = .ok (.putfield 54, 3) := by decide +kernel
theorem dX5_balance_23 : decode cX5_balance 23 = .ok (.aload_n 0, 1) := by decide +kernel
theorem dX5_balance_24 : decode cX5_balance 24 = .ok (.getfield 54, 3) := by decide +kernel
theorem dX5_balance_27 : decode cX5_balance 27 = .ok (.ifCond .le 7, 3) := by decide +kernel
theorem dX5_balance_30 : decode cX5_balance 30 = .ok (.iconst 0, 1) := by decide +kernel
theorem dX5_balance_31 : decode cX5_balance 31 = .ok (.goto 8, 3) := by decide +kernel
theorem dX5_balance_34 : decode cX5_balance 34 = .ok (.aload_n 0, 1) := by decide +kernel
theorem dX5_balance_35 : decode cX5_balance 35 = .ok (.iload_n 1, 1) := by decide +kernel
theorem dX5_balance_36 : decode cX5_balance 36 = .ok (.invokevirtual 103, 3) := by decide +kernel
theorem dX5_balance_39 : decode cX5_balance 39 = .ok (.ireturn, 1) := by decide +kernel
set_option maxRecDepth 20000 in
theorem ggX5_balanceAnew_X5_balance : GoodIn wsX5_balanceAnew wsX5_balance := goodIn_r _ [5, 6, 7, 8, 9, 4, 10, 11, 12, 13, 14, 15, 16, 17, 18, 19, 20, 21, 22, 23, 24, 25, 26, 27, 28, 29, 30, 31, 32, 33, 34, 35, 36, 37, 38, 39, 40, 41] (by decide +kernel) (by decide +kernel)
set_option maxRecDepth 20000 in
theorem gX5_balanceAnew_X5_balance : GoodIn wsX5_balanceAnew (wsV RX5 145 RX5 yX5_balance wsX5_balance) := goodIn_app (goodIn_of _ (by decide +kernel)) ggX5_balanceAnew_X5_balance
theorem dX5_balanceAnew_0 : decode cX5_balanceAnew 0 = .ok (.aload_n 0, 1) := by decide +kernel
theorem dX5_balanceAnew_1 : decode cX5_balanceAnew 1 = .ok (.iload_n 1, 1) := by decide +kernel
theorem dX5_balanceAnew_2 : decode cX5_balanceAnew 2 = .ok (.invokevirtual 145, 3) := by decide +kernel
theorem dX5_balanceAnew_5 : decode cX5_balanceAnew 5 = .ok (.ireturn, 1) := by decide +kernel
set_option maxRecDepth 20000 in
theorem ggX5_limit_X5_isShop : GoodIn wsX5_limit wsX5_isShop := goodIn_r _ [6, 7, 8, 9, 10, 5, 11, 31, 32, 33, 34, 35, 36, 37, 38, 39, 40, 41, 42, 43, 44, 45, 46, 47, 48, 49] (by decide +kernel) (by decide +kernel)
set_option maxRecDepth 20000 in
theorem gX5_limit_X5_isShop : GoodIn wsX5_limit (wsV RX5 92 RX5 yX5_isShop wsX5_isShop) := goodIn_app (goodIn_of _ (by decide +kernel)) ggX5_limit_X5_isShop
set_option maxRecDepth 20000 in
theorem ggX5_limit_X5_limitOf : GoodIn wsX5_limit wsX5_limitOf := goodIn_r _ [15, 16, 17, 18, 19, 20, 21, 22, 23, 24, 5, 25, 26, 27, 28, 29, 30, 31, 32, 33, 34, 35, 36, 37, 38, 39, 40, 41, 42, 43, 44, 45, 46, 47, 48, 49] (by decide +kernel) (by decide +kernel)
set_option maxRecDepth 20000 in
theorem gX5_limit_X5_limitOf : GoodIn wsX5_limit (wsV RX5 106 RX5 yX5_limitOf wsX5_limitOf) := goodIn_app (goodIn_of _ (by decide +kernel)) ggX5_limit_X5_limitOf
theorem dX5_limit_0 : decode cX5_limit 0 = .ok (.aload_n 0, 1) := by decide +kernel
theorem dX5_limit_1 : decode cX5_limit 1 = .ok (.aload_n 0, 1) := by decide +kernel
theorem dX5_limit_2 : decode cX5_limit 2 = .ok (.iload_n 1, 1) := by decide +kernel
theorem dX5_limit_3 : decode cX5_limit 3 = .ok (.invokevirtual 92, 3) := by decide +kernel
theorem dX5_limit_6 : decode cX5_limit 6 = .ok (.ifCond .eq 7, 3) := by decide +kernel
theorem dX5_limit_9 : decode cX5_limit 9 = .ok (.iconst 0, 1) := by decide +kernel
theorem dX5_limit_10 : decode cX5_limit 10 = .ok (.goto 4, 3) := by decide +kernel
theorem dX5_limit_13 : decode cX5_limit 13 = .ok (.iconst 1, 1) := by decide +kernel
theorem dX5_limit_14 : decode cX5_limit 14 = .ok (.putfield 54, 3) := by decide +kernel
theorem dX5_limit_17 : decode cX5_limit 17 = .ok (.aload_n 0, 1) := by decide +kernel
theorem dX5_limit_18 : decode cX5_limit 18 = .ok (.getfield 54, 3) := by decide +kernel
theorem dX5_limit_21 : decode cX5_limit 21 = .ok (.ifCond .le 7, 3) := by decide +kernel
theorem dX5_limit_24 : decode cX5_limit 24 = .ok (.iconst 0, 1) := by decide +kernel
theorem dX5_limit_25 : decode cX5_limit 25 = .ok (.goto 8, 3) := by decide +kernel
theorem dX5_limit_28 : decode cX5_limit 28 = .ok (.aload_n 0, 1) := by decide +kernel
theorem dX5_limit_29 : decode cX5_limit 29 = .ok (.iload_n 1, 1) := by decide +kernel
theorem dX5_limit_30 : decode cX5_limit 30 = .ok (.invokevirtual 106, 3) := by decide +kernel
theorem dX5_limit_33 : decode cX5_limit 33 = .ok (.ireturn, 1) := by decide +kernel
set_option maxRecDepth 20000 in
theorem ggX5_owes_X5_was : GoodIn wsX5_owes wsX5_was := goodIn_r _ [7, 8, 9, 10, 6, 11, 15, 16, 17, 18, 19, 20, 21, 22, 23, 24, 25, 26, 27, 28, 29, 30, 31, 32, 33] (by decide +kernel) (by decide +kernel)
set_option maxRecDepth 20000 in
theorem gX5_owes_X5_was : GoodIn wsX5_owes (wsV RX5 142 RX5 yX5_was wsX5_was) := goodIn_app (goodIn_of _ (by decide +kernel)) ggX5_owes_X5_was
set_option maxRecDepth 20000 in
theorem ggX5_owes_X5_at : GoodIn wsX5_owes wsX5_at := goodIn_r _ [14] (by decide +kernel) (by decide +kernel)
set_option maxRecDepth 20000 in
theorem gX5_owes_X5_at : GoodIn wsX5_owes (va_wsS RX5 64 yX5_at wsX5_at) := goodIn_app (goodIn_of _ (by decide +kernel)) ggX5_owes_X5_at
theorem dX5_owes_0 : decode cX5_owes 0 = .ok (.aload_n 0, 1) := by decide +kernel
theorem dX5_owes_1 : decode cX5_owes 1 = .ok (.aload_n 0, 1) := by decide +kernel
theorem dX5_owes_2 : decode cX5_owes 2 = .ok (.iload_n 1, 1) := by decide +kernel
theorem dX5_owes_3 : decode cX5_owes 3 = .ok (.invokevirtual 142, 3) := by decide +kernel
theorem dX5_owes_6 : decode cX5_owes 6 = .ok (.ifCond .eq 21, 3) := by decide +kernel
theorem dX5_owes_9 : decode cX5_owes 9 = .ok (.aload_n 0, 1) := by decide +kernel
theorem dX5_owes_10 : decode cX5_owes 10 = .ok (.iload_n 2, 1) := by decide +kernel
theorem dX5_owes_11 : decode cX5_owes 11 = .ok (.invokevirtual 142, 3) := by decide +kernel
theorem dX5_owes_14 : decode cX5_owes 14 = .ok (.ifCond .ne 9, 3) := by decide +kernel
theorem dX5_owes_17 : decode cX5_owes 17 = .ok (.iload_n 2, 1) := by decide +kernel
theorem dX5_owes_18 : decode cX5_owes 18 = .ok (.bipush 8, 2) := by decide +kernel
theorem dX5_owes_20 : decode cX5_owes 20 = .ok (.if_icmp .ne 7, 3) := by decide +kernel
theorem dX5_owes_23 : decode cX5_owes 23 = .ok (.iconst 0, 1) := by decide +kernel
theorem dX5_owes_24 : decode cX5_owes 24 = .ok (.goto 4, 3) := by decide +kernel
theorem dX5_owes_27 : decode cX5_owes 27 = .ok (.iconst 1, 1) := by decide +kernel
theorem dX5_owes_28 : decode cX5_owes 28 = .ok (.putfield 54, 3) := by decide +kernel
theorem dX5_owes_31 : decode cX5_owes 31 = .ok (.aload_n 0, 1) := by decide +kernel
theorem dX5_owes_32 : decode cX5_owes 32 = .ok (.getfield 54, 3) := by decide +kernel
theorem dX5_owes_35 : decode cX5_owes 35 = .ok (.ifCond .le 7, 3) := by decide +kernel
theorem dX5_owes_38 : decode cX5_owes 38 = .ok (.iconst 0, 1) := by decide +kernel
theorem dX5_owes_39 : decode cX5_owes 39 = .ok (.goto 13, 3) := by decide +kernel
theorem dX5_owes_42 : decode cX5_owes 42 = .ok (.aload_n 0, 1) := by decide +kernel
theorem dX5_owes_43 : decode cX5_owes 43 = .ok (.getfield 13, 3) := by decide +kernel
theorem dX5_owes_46 : decode cX5_owes 46 = .ok (.iload_n 1, 1) := by decide +kernel
theorem dX5_owes_47 : decode cX5_owes 47 = .ok (.iload_n 2, 1) := by decide +kernel
theorem dX5_owes_48 : decode cX5_owes 48 = .ok (.invokestatic 64, 3) := by decide +kernel
theorem dX5_owes_51 : decode cX5_owes 51 = .ok (.iaload, 1) := by decide +kernel
theorem dX5_owes_52 : decode cX5_owes 52 = .ok (.ireturn, 1) := by decide +kernel
set_option maxRecDepth 20000 in
theorem ggX5_frozen_X5_was : GoodIn wsX5_frozen wsX5_was := goodIn_r _ [7, 8, 9, 10, 6, 11, 15, 16, 17, 18, 19, 20, 21, 22, 23, 24, 25, 26, 27, 28, 29, 30, 31, 32, 33] (by decide +kernel) (by decide +kernel)
set_option maxRecDepth 20000 in
theorem gX5_frozen_X5_was : GoodIn wsX5_frozen (wsV RX5 142 RX5 yX5_was wsX5_was) := goodIn_app (goodIn_of _ (by decide +kernel)) ggX5_frozen_X5_was
set_option maxRecDepth 20000 in
theorem ggX5_frozen_X5_at : GoodIn wsX5_frozen wsX5_at := goodIn_r _ [14] (by decide +kernel) (by decide +kernel)
set_option maxRecDepth 20000 in
theorem gX5_frozen_X5_at : GoodIn wsX5_frozen (va_wsS RX5 64 yX5_at wsX5_at) := goodIn_app (goodIn_of _ (by decide +kernel)) ggX5_frozen_X5_at
theorem dX5_frozen_0 : decode cX5_frozen 0 = .ok (.aload_n 0, 1) := by decide +kernel
theorem dX5_frozen_1 : decode cX5_frozen 1 = .ok (.aload_n 0, 1) := by decide +kernel
theorem dX5_frozen_2 : decode cX5_frozen 2 = .ok (.iload_n 1, 1) := by decide +kernel
theorem dX5_frozen_3 : decode cX5_frozen 3 = .ok (.invokevirtual 142, 3) := by decide +kernel
theorem dX5_frozen_6 : decode cX5_frozen 6 = .ok (.ifCond .eq 15, 3) := by decide +kernel
theorem dX5_frozen_9 : decode cX5_frozen 9 = .ok (.aload_n 0, 1) := by decide +kernel
theorem dX5_frozen_10 : decode cX5_frozen 10 = .ok (.iload_n 2, 1) := by decide +kernel
theorem dX5_frozen_11 : decode cX5_frozen 11 = .ok (.invokevirtual 142, 3) := by decide +kernel
theorem dX5_frozen_14 : decode cX5_frozen 14 = .ok (.ifCond .eq 7, 3) := by decide +kernel
theorem dX5_frozen_17 : decode cX5_frozen 17 = .ok (.iconst 0, 1) := by decide +kernel
theorem dX5_frozen_18 : decode cX5_frozen 18 = .ok (.goto 4, 3) := by decide +kernel
theorem dX5_frozen_21 : decode cX5_frozen 21 = .ok (.iconst 1, 1) := by decide +kernel
theorem dX5_frozen_22 : decode cX5_frozen 22 = .ok (.putfield 54, 3) := by decide +kernel
theorem dX5_frozen_25 : decode cX5_frozen 25 = .ok (.aload_n 0, 1) := by decide +kernel
theorem dX5_frozen_26 : decode cX5_frozen 26 = .ok (.getfield 54, 3) := by decide +kernel
theorem dX5_frozen_29 : decode cX5_frozen 29 = .ok (.ifCond .le 7, 3) := by decide +kernel
theorem dX5_frozen_32 : decode cX5_frozen 32 = .ok (.iconst 0, 1) := by decide +kernel
theorem dX5_frozen_33 : decode cX5_frozen 33 = .ok (.goto 13, 3) := by decide +kernel
theorem dX5_frozen_36 : decode cX5_frozen 36 = .ok (.aload_n 0, 1) := by decide +kernel
theorem dX5_frozen_37 : decode cX5_frozen 37 = .ok (.getfield 17, 3) := by decide +kernel
theorem dX5_frozen_40 : decode cX5_frozen 40 = .ok (.iload_n 1, 1) := by decide +kernel
theorem dX5_frozen_41 : decode cX5_frozen 41 = .ok (.iload_n 2, 1) := by decide +kernel
theorem dX5_frozen_42 : decode cX5_frozen 42 = .ok (.invokestatic 64, 3) := by decide +kernel
theorem dX5_frozen_45 : decode cX5_frozen 45 = .ok (.iaload, 1) := by decide +kernel
theorem dX5_frozen_46 : decode cX5_frozen 46 = .ok (.ireturn, 1) := by decide +kernel
set_option maxRecDepth 20000 in
theorem ggX5_ofTrade_X5_isTrade : GoodIn wsX5_ofTrade wsX5_isTrade := goodIn_r _ [12, 13, 14, 15, 11, 16, 17, 18, 19, 20, 21, 22, 23, 24, 25, 26, 27, 28, 29, 30, 31, 32, 33, 34, 35] (by decide +kernel) (by decide +kernel)
set_option maxRecDepth 20000 in
theorem gX5_ofTrade_X5_isTrade : GoodIn wsX5_ofTrade (wsV RX5 112 RX5 yX5_isTrade wsX5_isTrade) := goodIn_app (goodIn_of _ (by decide +kernel)) ggX5_ofTrade_X5_isTrade
set_option maxRecDepth 20000 in
theorem ggX5_ofTrade_X5_in : GoodIn wsX5_ofTrade wsX5_in := goodIn_r _ [16] (by decide +kernel) (by decide +kernel)
set_option maxRecDepth 20000 in
theorem gX5_ofTrade_X5_in : GoodIn wsX5_ofTrade (va_wsS RX5 60 yX5_in wsX5_in) := goodIn_app (goodIn_of _ (by decide +kernel)) ggX5_ofTrade_X5_in
theorem dX5_ofTrade_0 : decode cX5_ofTrade 0 = .ok (.aload_n 0, 1) := by decide +kernel
theorem dX5_ofTrade_1 : decode cX5_ofTrade 1 = .ok (.aload_n 0, 1) := by decide +kernel
theorem dX5_ofTrade_2 : decode cX5_ofTrade 2 = .ok (.iload_n 1, 1) := by decide +kernel
theorem dX5_ofTrade_3 : decode cX5_ofTrade 3 = .ok (.invokevirtual 112, 3) := by decide +kernel
theorem dX5_ofTrade_6 : decode cX5_ofTrade 6 = .ok (.ifCond .ne 7, 3) := by decide +kernel
theorem dX5_ofTrade_9 : decode cX5_ofTrade 9 = .ok (.iconst 1, 1) := by decide +kernel
theorem dX5_ofTrade_10 : decode cX5_ofTrade 10 = .ok (.goto 17, 3) := by decide +kernel
theorem dX5_ofTrade_13 : decode cX5_ofTrade 13 = .ok (.iload_n 2, 1) := by decide +kernel
theorem dX5_ofTrade_14 : decode cX5_ofTrade 14 = .ok (.iconst 0, 1) := by decide +kernel
theorem dX5_ofTrade_15 : decode cX5_ofTrade 15 = .ok (.iconst 5, 1) := by decide +kernel
theorem dX5_ofTrade_16 : decode cX5_ofTrade 16 = .ok (.invokestatic 60, 3) := by decide +kernel
theorem dX5_ofTrade_19 : decode cX5_ofTrade 19 = .ok (.ifCond .eq 7, 3) := by decide +kernel
theorem dX5_ofTrade_22 : decode cX5_ofTrade 22 = .ok (.iconst 0, 1) := by decide +kernel
theorem dX5_ofTrade_23 : decode cX5_ofTrade 23 = .ok (.goto 4, 3) := by decide +kernel
theorem dX5_ofTrade_26 : decode cX5_ofTrade 26 = .ok (.iconst 2, 1) := by decide +kernel
theorem dX5_ofTrade_27 : decode cX5_ofTrade 27 = .ok (.putfield 54, 3) := by decide +kernel
theorem dX5_ofTrade_30 : decode cX5_ofTrade 30 = .ok (.aload_n 0, 1) := by decide +kernel
theorem dX5_ofTrade_31 : decode cX5_ofTrade 31 = .ok (.getfield 54, 3) := by decide +kernel
theorem dX5_ofTrade_34 : decode cX5_ofTrade 34 = .ok (.ifCond .le 5, 3) := by decide +kernel
theorem dX5_ofTrade_37 : decode cX5_ofTrade 37 = .ok (.iconst 0, 1) := by decide +kernel
theorem dX5_ofTrade_38 : decode cX5_ofTrade 38 = .ok (.ireturn, 1) := by decide +kernel
theorem dX5_ofTrade_39 : decode cX5_ofTrade 39 = .ok (.iload_n 2, 1) := by decide +kernel
theorem dX5_ofTrade_40 : decode cX5_ofTrade 40 = .ok (.tableswitch 71 0 4 #[36, 43, 50, 57, 64], 36) := by decide +kernel
theorem dX5_ofTrade_76 : decode cX5_ofTrade 76 = .ok (.aload_n 0, 1) := by decide +kernel
theorem dX5_ofTrade_77 : decode cX5_ofTrade 77 = .ok (.getfield 38, 3) := by decide +kernel
theorem dX5_ofTrade_80 : decode cX5_ofTrade 80 = .ok (.iload_n 1, 1) := by decide +kernel
theorem dX5_ofTrade_81 : decode cX5_ofTrade 81 = .ok (.iaload, 1) := by decide +kernel
theorem dX5_ofTrade_82 : decode cX5_ofTrade 82 = .ok (.ireturn, 1) := by decide +kernel
theorem dX5_ofTrade_83 : decode cX5_ofTrade 83 = .ok (.aload_n 0, 1) := by decide +kernel
theorem dX5_ofTrade_84 : decode cX5_ofTrade 84 = .ok (.getfield 26, 3) := by decide +kernel
theorem dX5_ofTrade_87 : decode cX5_ofTrade 87 = .ok (.iload_n 1, 1) := by decide +kernel
theorem dX5_ofTrade_88 : decode cX5_ofTrade 88 = .ok (.iaload, 1) := by decide +kernel
theorem dX5_ofTrade_89 : decode cX5_ofTrade 89 = .ok (.ireturn, 1) := by decide +kernel
theorem dX5_ofTrade_90 : decode cX5_ofTrade 90 = .ok (.aload_n 0, 1) := by decide +kernel
theorem dX5_ofTrade_91 : decode cX5_ofTrade 91 = .ok (.getfield 29, 3) := by decide +kernel
theorem dX5_ofTrade_94 : decode cX5_ofTrade 94 = .ok (.iload_n 1, 1) := by decide +kernel
theorem dX5_ofTrade_95 : decode cX5_ofTrade 95 = .ok (.iaload, 1) := by decide +kernel
theorem dX5_ofTrade_96 : decode cX5_ofTrade 96 = .ok (.ireturn, 1) := by decide +kernel
theorem dX5_ofTrade_97 : decode cX5_ofTrade 97 = .ok (.aload_n 0, 1) := by decide +kernel
theorem dX5_ofTrade_98 : decode cX5_ofTrade 98 = .ok (.getfield 32, 3) := by decide +kernel
theorem dX5_ofTrade_101 : decode cX5_ofTrade 101 = .ok (.iload_n 1, 1) := by decide +kernel
theorem dX5_ofTrade_102 : decode cX5_ofTrade 102 = .ok (.iaload, 1) := by decide +kernel
theorem dX5_ofTrade_103 : decode cX5_ofTrade 103 = .ok (.ireturn, 1) := by decide +kernel
theorem dX5_ofTrade_104 : decode cX5_ofTrade 104 = .ok (.aload_n 0, 1) := by decide +kernel
theorem dX5_ofTrade_105 : decode cX5_ofTrade 105 = .ok (.getfield 35, 3) := by decide +kernel
theorem dX5_ofTrade_108 : decode cX5_ofTrade 108 = .ok (.iload_n 1, 1) := by decide +kernel
theorem dX5_ofTrade_109 : decode cX5_ofTrade 109 = .ok (.iaload, 1) := by decide +kernel
theorem dX5_ofTrade_110 : decode cX5_ofTrade 110 = .ok (.ireturn, 1) := by decide +kernel
theorem dX5_ofTrade_111 : decode cX5_ofTrade 111 = .ok (.aload_n 0, 1) := by decide +kernel
theorem dX5_ofTrade_112 : decode cX5_ofTrade 112 = .ok (.getfield 41, 3) := by decide +kernel
theorem dX5_ofTrade_115 : decode cX5_ofTrade 115 = .ok (.iload_n 1, 1) := by decide +kernel
theorem dX5_ofTrade_116 : decode cX5_ofTrade 116 = .ok (.iaload, 1) := by decide +kernel
theorem dX5_ofTrade_117 : decode cX5_ofTrade 117 = .ok (.ireturn, 1) := by decide +kernel
set_option maxRecDepth 20000 in
theorem ggX5_guaranteed_X5_was : GoodIn wsX5_guaranteed wsX5_was := goodIn_r _ [7, 8, 9, 10, 6, 11, 15, 16, 17, 18, 19, 20, 21, 22, 23, 24, 25, 26, 27, 28, 29, 30, 31, 32, 33] (by decide +kernel) (by decide +kernel)
set_option maxRecDepth 20000 in
theorem gX5_guaranteed_X5_was : GoodIn wsX5_guaranteed (wsV RX5 142 RX5 yX5_was wsX5_was) := goodIn_app (goodIn_of _ (by decide +kernel)) ggX5_guaranteed_X5_was
set_option maxRecDepth 20000 in
theorem ggX5_guaranteed_X5_at : GoodIn wsX5_guaranteed wsX5_at := goodIn_r _ [14] (by decide +kernel) (by decide +kernel)
set_option maxRecDepth 20000 in
theorem gX5_guaranteed_X5_at : GoodIn wsX5_guaranteed (va_wsS RX5 64 yX5_at wsX5_at) := goodIn_app (goodIn_of _ (by decide +kernel)) ggX5_guaranteed_X5_at
theorem dX5_guaranteed_0 : decode cX5_guaranteed 0 = .ok (.aload_n 0, 1) := by decide +kernel
theorem dX5_guaranteed_1 : decode cX5_guaranteed 1 = .ok (.aload_n 0, 1) := by decide +kernel
theorem dX5_guaranteed_2 : decode cX5_guaranteed 2 = .ok (.iload_n 1, 1) := by decide +kernel
theorem dX5_guaranteed_3 : decode cX5_guaranteed 3 = .ok (.invokevirtual 142, 3) := by decide +kernel
theorem dX5_guaranteed_6 : decode cX5_guaranteed 6 = .ok (.ifCond .eq 15, 3) := by decide +kernel
theorem dX5_guaranteed_9 : decode cX5_guaranteed 9 = .ok (.aload_n 0, 1) := by decide +kernel
theorem dX5_guaranteed_10 : decode cX5_guaranteed 10 = .ok (.iload_n 2, 1) := by decide +kernel
theorem dX5_guaranteed_11 : decode cX5_guaranteed 11 = .ok (.invokevirtual 142, 3) := by decide +kernel
theorem dX5_guaranteed_14 : decode cX5_guaranteed 14 = .ok (.ifCond .eq 7, 3) := by decide +kernel
theorem dX5_guaranteed_17 : decode cX5_guaranteed 17 = .ok (.iconst 0, 1) := by decide +kernel
theorem dX5_guaranteed_18 : decode cX5_guaranteed 18 = .ok (.goto 4, 3) := by decide +kernel
theorem dX5_guaranteed_21 : decode cX5_guaranteed 21 = .ok (.iconst 1, 1) := by decide +kernel
theorem dX5_guaranteed_22 : decode cX5_guaranteed 22 = .ok (.putfield 54, 3) := by decide +kernel
theorem dX5_guaranteed_25 : decode cX5_guaranteed 25 = .ok (.aload_n 0, 1) := by decide +kernel
theorem dX5_guaranteed_26 : decode cX5_guaranteed 26 = .ok (.getfield 54, 3) := by decide +kernel
theorem dX5_guaranteed_29 : decode cX5_guaranteed 29 = .ok (.ifCond .le 7, 3) := by decide +kernel
theorem dX5_guaranteed_32 : decode cX5_guaranteed 32 = .ok (.iconst 0, 1) := by decide +kernel
theorem dX5_guaranteed_33 : decode cX5_guaranteed 33 = .ok (.goto 13, 3) := by decide +kernel
theorem dX5_guaranteed_36 : decode cX5_guaranteed 36 = .ok (.aload_n 0, 1) := by decide +kernel
theorem dX5_guaranteed_37 : decode cX5_guaranteed 37 = .ok (.getfield 20, 3) := by decide +kernel
theorem dX5_guaranteed_40 : decode cX5_guaranteed 40 = .ok (.iload_n 1, 1) := by decide +kernel
theorem dX5_guaranteed_41 : decode cX5_guaranteed 41 = .ok (.iload_n 2, 1) := by decide +kernel
theorem dX5_guaranteed_42 : decode cX5_guaranteed 42 = .ok (.invokestatic 64, 3) := by decide +kernel
theorem dX5_guaranteed_45 : decode cX5_guaranteed 45 = .ok (.iaload, 1) := by decide +kernel
theorem dX5_guaranteed_46 : decode cX5_guaranteed 46 = .ok (.ireturn, 1) := by decide +kernel
set_option maxRecDepth 20000 in
theorem ggX5_goods_X5_was : GoodIn wsX5_goods wsX5_was := goodIn_r _ [7, 8, 9, 10, 6, 11, 12, 13, 14, 15, 16, 17, 18, 19, 20, 21, 22, 23, 24, 25, 26, 27, 28, 29, 30] (by decide +kernel) (by decide +kernel)
set_option maxRecDepth 20000 in
theorem gX5_goods_X5_was : GoodIn wsX5_goods (wsV RX5 142 RX5 yX5_was wsX5_was) := goodIn_app (goodIn_of _ (by decide +kernel)) ggX5_goods_X5_was
theorem dX5_goods_0 : decode cX5_goods 0 = .ok (.aload_n 0, 1) := by decide +kernel
theorem dX5_goods_1 : decode cX5_goods 1 = .ok (.aload_n 0, 1) := by decide +kernel
theorem dX5_goods_2 : decode cX5_goods 2 = .ok (.iload_n 1, 1) := by decide +kernel
theorem dX5_goods_3 : decode cX5_goods 3 = .ok (.invokevirtual 142, 3) := by decide +kernel
theorem dX5_goods_6 : decode cX5_goods 6 = .ok (.ifCond .eq 7, 3) := by decide +kernel
theorem dX5_goods_9 : decode cX5_goods 9 = .ok (.iconst 0, 1) := by decide +kernel
theorem dX5_goods_10 : decode cX5_goods 10 = .ok (.goto 4, 3) := by decide +kernel
theorem dX5_goods_13 : decode cX5_goods 13 = .ok (.iconst 1, 1) := by decide +kernel
theorem dX5_goods_14 : decode cX5_goods 14 = .ok (.putfield 54, 3) := by decide +kernel
theorem dX5_goods_17 : decode cX5_goods 17 = .ok (.aload_n 0, 1) := by decide +kernel
theorem dX5_goods_18 : decode cX5_goods 18 = .ok (.getfield 54, 3) := by decide +kernel
theorem dX5_goods_21 : decode cX5_goods 21 = .ok (.ifCond .le 7, 3) := by decide +kernel
theorem dX5_goods_24 : decode cX5_goods 24 = .ok (.iconst 0, 1) := by decide +kernel
theorem dX5_goods_25 : decode cX5_goods 25 = .ok (.goto 9, 3) := by decide +kernel
theorem dX5_goods_28 : decode cX5_goods 28 = .ok (.aload_n 0, 1) := by decide +kernel
theorem dX5_goods_29 : decode cX5_goods 29 = .ok (.getfield 23, 3) := by decide +kernel
theorem dX5_goods_32 : decode cX5_goods 32 = .ok (.iload_n 1, 1) := by decide +kernel
theorem dX5_goods_33 : decode cX5_goods 33 = .ok (.iaload, 1) := by decide +kernel
theorem dX5_goods_34 : decode cX5_goods 34 = .ok (.ireturn, 1) := by decide +kernel
set_option maxRecDepth 20000 in
theorem ggX5_isIdle_X5_isShop : GoodIn wsX5_isIdle wsX5_isShop := goodIn_r _ [6, 7, 8, 9, 10, 5, 11, 33, 34, 35, 36, 37, 38, 39, 40, 41, 42, 43, 44, 45, 46, 47, 48, 49, 50, 51] (by decide +kernel) (by decide +kernel)
set_option maxRecDepth 20000 in
theorem gX5_isIdle_X5_isShop : GoodIn wsX5_isIdle (wsV RX5 92 RX5 yX5_isShop wsX5_isShop) := goodIn_app (goodIn_of _ (by decide +kernel)) ggX5_isIdle_X5_isShop
set_option maxRecDepth 20000 in
theorem ggX5_isIdle_X5_isLazy : GoodIn wsX5_isIdle wsX5_isLazy := goodIn_r _ [15, 16, 17, 18, 19, 20, 21, 5, 22, 23, 24, 25, 26, 27, 28, 29, 30, 31, 32, 33, 34, 35, 36, 37, 38, 39, 40, 41, 42, 43, 44, 45, 46, 47, 48, 49, 50, 51] (by decide +kernel) (by decide +kernel)
set_option maxRecDepth 20000 in
theorem gX5_isIdle_X5_isLazy : GoodIn wsX5_isIdle (wsV RX5 136 RX5 yX5_isLazy wsX5_isLazy) := goodIn_app (goodIn_of _ (by decide +kernel)) ggX5_isIdle_X5_isLazy
theorem dX5_isIdle_0 : decode cX5_isIdle 0 = .ok (.aload_n 0, 1) := by decide +kernel
theorem dX5_isIdle_1 : decode cX5_isIdle 1 = .ok (.aload_n 0, 1) := by decide +kernel
theorem dX5_isIdle_2 : decode cX5_isIdle 2 = .ok (.iload_n 1, 1) := by decide +kernel
theorem dX5_isIdle_3 : decode cX5_isIdle 3 = .ok (.invokevirtual 92, 3) := by decide +kernel
theorem dX5_isIdle_6 : decode cX5_isIdle 6 = .ok (.ifCond .eq 7, 3) := by decide +kernel
theorem dX5_isIdle_9 : decode cX5_isIdle 9 = .ok (.iconst 0, 1) := by decide +kernel
theorem dX5_isIdle_10 : decode cX5_isIdle 10 = .ok (.goto 4, 3) := by decide +kernel
theorem dX5_isIdle_13 : decode cX5_isIdle 13 = .ok (.iconst 1, 1) := by decide +kernel
theorem dX5_isIdle_14 : decode cX5_isIdle 14 = .ok (.putfield 54, 3) := by decide +kernel
theorem dX5_isIdle_17 : decode cX5_isIdle 17 = .ok (.aload_n 0, 1) := by decide +kernel
theorem dX5_isIdle_18 : decode cX5_isIdle 18 = .ok (.getfield 54, 3) := by decide +kernel
theorem dX5_isIdle_21 : decode cX5_isIdle 21 = .ok (.ifCond .ne 15, 3) := by decide +kernel
theorem dX5_isIdle_24 : decode cX5_isIdle 24 = .ok (.aload_n 0, 1) := by decide +kernel
theorem dX5_isIdle_25 : decode cX5_isIdle 25 = .ok (.iload_n 1, 1) := by decide +kernel
theorem dX5_isIdle_26 : decode cX5_isIdle 26 = .ok (.invokevirtual 136, 3) := by decide +kernel
theorem dX5_isIdle_29 : decode cX5_isIdle 29 = .ok (.ifCond .eq 7, 3) := by decide +kernel
theorem dX5_isIdle_32 : decode cX5_isIdle 32 = .ok (.iconst 1, 1) := by decide +kernel
theorem dX5_isIdle_33 : decode cX5_isIdle 33 = .ok (.goto 4, 3) := by decide +kernel
theorem dX5_isIdle_36 : decode cX5_isIdle 36 = .ok (.iconst 0, 1) := by decide +kernel
theorem dX5_isIdle_37 : decode cX5_isIdle 37 = .ok (.ireturn, 1) := by decide +kernel
theorem dX5_rings_0 : decode cX5_rings 0 = .ok (.aload_n 0, 1) := by decide +kernel
theorem dX5_rings_1 : decode cX5_rings 1 = .ok (.iconst 0, 1) := by decide +kernel
theorem dX5_rings_2 : decode cX5_rings 2 = .ok (.putfield 54, 3) := by decide +kernel
theorem dX5_rings_5 : decode cX5_rings 5 = .ok (.aload_n 0, 1) := by decide +kernel
theorem dX5_rings_6 : decode cX5_rings 6 = .ok (.getfield 127, 3) := by decide +kernel
theorem dX5_rings_9 : decode cX5_rings 9 = .ok (.ireturn, 1) := by decide +kernel
set_option maxRecDepth 20000 in
theorem ggX5_ring_X5_in : GoodIn wsX5_ring wsX5_in := goodIn_r _ [7] (by decide +kernel) (by decide +kernel)
set_option maxRecDepth 20000 in
theorem gX5_ring_X5_in : GoodIn wsX5_ring (va_wsS RX5 60 yX5_in wsX5_in) := goodIn_app (goodIn_of _ (by decide +kernel)) ggX5_ring_X5_in
theorem dX5_ring_0 : decode cX5_ring 0 = .ok (.aload_n 0, 1) := by decide +kernel
theorem dX5_ring_1 : decode cX5_ring 1 = .ok (.iload_n 1, 1) := by decide +kernel
theorem dX5_ring_2 : decode cX5_ring 2 = .ok (.iconst 0, 1) := by decide +kernel
theorem dX5_ring_3 : decode cX5_ring 3 = .ok (.aload_n 0, 1) := by decide +kernel
theorem dX5_ring_4 : decode cX5_ring 4 = .ok (.getfield 127, 3) := by decide +kernel
theorem dX5_ring_7 : decode cX5_ring 7 = .ok (.iconst 1, 1) := by decide +kernel
theorem dX5_ring_8 : decode cX5_ring 8 = .ok (.isub, 1) := by decide +kernel
theorem dX5_ring_9 : decode cX5_ring 9 = .ok (.invokestatic 60, 3) := by decide +kernel
theorem dX5_ring_12 : decode cX5_ring 12 = .ok (.ifCond .ne 7, 3) := by decide +kernel
theorem dX5_ring_15 : decode cX5_ring 15 = .ok (.iconst 1, 1) := by decide +kernel
theorem dX5_ring_16 : decode cX5_ring 16 = .ok (.goto 18, 3) := by decide +kernel
theorem dX5_ring_19 : decode cX5_ring 19 = .ok (.iload_n 2, 1) := by decide +kernel
theorem dX5_ring_20 : decode cX5_ring 20 = .ok (.iconst 0, 1) := by decide +kernel
theorem dX5_ring_21 : decode cX5_ring 21 = .ok (.bipush 6, 2) := by decide +kernel
theorem dX5_ring_23 : decode cX5_ring 23 = .ok (.invokestatic 60, 3) := by decide +kernel
theorem dX5_ring_26 : decode cX5_ring 26 = .ok (.ifCond .eq 7, 3) := by decide +kernel
theorem dX5_ring_29 : decode cX5_ring 29 = .ok (.iconst 0, 1) := by decide +kernel
theorem dX5_ring_30 : decode cX5_ring 30 = .ok (.goto 4, 3) := by decide +kernel
theorem dX5_ring_33 : decode cX5_ring 33 = .ok (.iconst 2, 1) := by decide +kernel
theorem dX5_ring_34 : decode cX5_ring 34 = .ok (.putfield 54, 3) := by decide +kernel
theorem dX5_ring_37 : decode cX5_ring 37 = .ok (.aload_n 0, 1) := by decide +kernel
theorem dX5_ring_38 : decode cX5_ring 38 = .ok (.getfield 54, 3) := by decide +kernel
theorem dX5_ring_41 : decode cX5_ring 41 = .ok (.ifCond .le 7, 3) := by decide +kernel
theorem dX5_ring_44 : decode cX5_ring 44 = .ok (.iconst 0, 1) := by decide +kernel
theorem dX5_ring_45 : decode cX5_ring 45 = .ok (.goto 14, 3) := by decide +kernel
theorem dX5_ring_48 : decode cX5_ring 48 = .ok (.aload_n 0, 1) := by decide +kernel
theorem dX5_ring_49 : decode cX5_ring 49 = .ok (.getfield 48, 3) := by decide +kernel
theorem dX5_ring_52 : decode cX5_ring 52 = .ok (.bipush 7, 2) := by decide +kernel
theorem dX5_ring_54 : decode cX5_ring 54 = .ok (.iload_n 1, 1) := by decide +kernel
theorem dX5_ring_55 : decode cX5_ring 55 = .ok (.imul, 1) := by decide +kernel
theorem dX5_ring_56 : decode cX5_ring 56 = .ok (.iload_n 2, 1) := by decide +kernel
theorem dX5_ring_57 : decode cX5_ring 57 = .ok (.iadd, 1) := by decide +kernel
theorem dX5_ring_58 : decode cX5_ring 58 = .ok (.iaload, 1) := by decide +kernel
theorem dX5_ring_59 : decode cX5_ring 59 = .ok (.ireturn, 1) := by decide +kernel
theorem dJ9_max_7cf53_0 : decode cJ9_max_7cf53 0 = .ok (.iload_n 0, 1) := by decide +kernel
theorem dJ9_max_7cf53_1 : decode cJ9_max_7cf53 1 = .ok (.iload_n 1, 1) := by decide +kernel
theorem dJ9_max_7cf53_2 : decode cJ9_max_7cf53 2 = .ok (.if_icmp .lt 7, 3) := by decide +kernel
theorem dJ9_max_7cf53_5 : decode cJ9_max_7cf53 5 = .ok (.iload_n 0, 1) := by decide +kernel
theorem dJ9_max_7cf53_6 : decode cJ9_max_7cf53 6 = .ok (.goto 4, 3) := by decide +kernel
theorem dJ9_max_7cf53_9 : decode cJ9_max_7cf53 9 = .ok (.iload_n 1, 1) := by decide +kernel
theorem dJ9_max_7cf53_10 : decode cJ9_max_7cf53 10 = .ok (.ireturn, 1) := by decide +kernel
theorem dJ9_min_7cf53_0 : decode cJ9_min_7cf53 0 = .ok (.iload_n 0, 1) := by decide +kernel
theorem dJ9_min_7cf53_1 : decode cJ9_min_7cf53 1 = .ok (.iload_n 1, 1) := by decide +kernel
theorem dJ9_min_7cf53_2 : decode cJ9_min_7cf53 2 = .ok (.if_icmp .gt 7, 3) := by decide +kernel
theorem dJ9_min_7cf53_5 : decode cJ9_min_7cf53 5 = .ok (.iload_n 0, 1) := by decide +kernel
theorem dJ9_min_7cf53_6 : decode cJ9_min_7cf53 6 = .ok (.goto 4, 3) := by decide +kernel
theorem dJ9_min_7cf53_9 : decode cJ9_min_7cf53 9 = .ok (.iload_n 1, 1) := by decide +kernel
theorem dJ9_min_7cf53_10 : decode cJ9_min_7cf53 10 = .ok (.ireturn, 1) := by decide +kernel
set_option maxRecDepth 20000 in
theorem ggL_join_X4_join : GoodIn wsL_join wsX4_join := goodIn_ca (goodIn_r _ [6, 7, 8, 9, 10, 11, 12, 13, 14, 15, 16, 17, 18] (by decide +kernel) (by decide +kernel)) (goodIn_sub (fun _ h => List.mem_cons_of_mem _ (List.mem_append_right _ h)) (by decide +kernel))
set_option maxRecDepth 20000 in
theorem gL_join_X4_join : GoodIn wsL_join (wsV RL 7 RX4 yX4_join wsX4_join) := goodIn_app (goodIn_of _ (by decide +kernel)) ggL_join_X4_join
theorem dL_join_0 : decode cL_join 0 = .ok (.aload_n 1, 1) := by decide +kernel
theorem dL_join_1 : decode cL_join 1 = .ok (.iconst 0, 1) := by decide +kernel
theorem dL_join_2 : decode cL_join 2 = .ok (.aload_n 0, 1) := by decide +kernel
theorem dL_join_3 : decode cL_join 3 = .ok (.invokevirtual 7, 3) := by decide +kernel
theorem dL_join_6 : decode cL_join 6 = .ok (.i2l, 1) := by decide +kernel
theorem dL_join_7 : decode cL_join 7 = .ok (.lastore, 1) := by decide +kernel
theorem dL_join_8 : decode cL_join 8 = .ok (.goto 6, 3) := by decide +kernel
theorem dL_join_11 : decode cL_join 11 = .ok (.astore_n 2, 1) := by decide +kernel
theorem dL_join_12 : decode cL_join 12 = .ok (.iconst 1, 1) := by decide +kernel
theorem dL_join_13 : decode cL_join 13 = .ok (.ireturn, 1) := by decide +kernel
theorem dL_join_14 : decode cL_join 14 = .ok (.iconst 0, 1) := by decide +kernel
theorem dL_join_15 : decode cL_join 15 = .ok (.ireturn, 1) := by decide +kernel
set_option maxRecDepth 20000 in
theorem ggL_leave_X4_leave : GoodIn wsL_leave wsX4_leave := goodIn_ca (goodIn_ca (goodIn_r _ [7, 8, 9, 10, 11, 12, 13, 14, 15, 6, 16, 17, 18, 19, 20, 21, 22, 23, 24, 25, 26, 27, 28, 29, 30, 31, 32, 33, 34, 35, 36, 37, 38, 39, 40, 41, 42, 43, 44, 45, 46, 47, 48, 49, 50, 51, 52, 53, 54, 55, 56, 57, 58, 59, 60, 61, 62, 63, 64, 65, 66, 67, 68, 69, 70, 71, 72, 73, 74, 75, 76, 77, 78, 79, 80, 81, 82, 83, 84, 85, 86, 87, 88, 89, 90, 91, 92, 93, 94, 95, 96, 97, 98, 99, 100, 101, 102, 103, 104, 105, 106, 107, 108, 109, 110, 111, 112, 113, 114, 115, 116, 117, 118, 119, 120, 121, 122, 123] (by decide +kernel) (by decide +kernel)) (goodIn_sub (fun _ h => List.mem_cons_of_mem _ (List.mem_append_left _ (List.mem_append_right _ h))) (by decide +kernel))) (goodIn_sub (fun _ h => List.mem_cons_of_mem _ (List.mem_append_right _ h)) (by decide +kernel))
set_option maxRecDepth 20000 in
theorem gL_leave_X4_leave : GoodIn wsL_leave (wsV RL 15 RX4 yX4_leave wsX4_leave) := goodIn_app (goodIn_of _ (by decide +kernel)) ggL_leave_X4_leave
theorem dL_leave_0 : decode cL_leave 0 = .ok (.aload_n 2, 1) := by decide +kernel
theorem dL_leave_1 : decode cL_leave 1 = .ok (.iconst 0, 1) := by decide +kernel
theorem dL_leave_2 : decode cL_leave 2 = .ok (.aload_n 0, 1) := by decide +kernel
theorem dL_leave_3 : decode cL_leave 3 = .ok (.iload_n 1, 1) := by decide +kernel
theorem dL_leave_4 : decode cL_leave 4 = .ok (.invokevirtual 15, 3) := by decide +kernel
theorem dL_leave_7 : decode cL_leave 7 = .ok (.i2l, 1) := by decide +kernel
theorem dL_leave_8 : decode cL_leave 8 = .ok (.lastore, 1) := by decide +kernel
theorem dL_leave_9 : decode cL_leave 9 = .ok (.goto 9, 3) := by decide +kernel
theorem dL_leave_12 : decode cL_leave 12 = .ok (.astore_n 3, 1) := by decide +kernel
theorem dL_leave_13 : decode cL_leave 13 = .ok (.iconst 1, 1) := by decide +kernel
theorem dL_leave_14 : decode cL_leave 14 = .ok (.ireturn, 1) := by decide +kernel
theorem dL_leave_15 : decode cL_leave 15 = .ok (.astore_n 3, 1) := by decide +kernel
theorem dL_leave_16 : decode cL_leave 16 = .ok (.iconst 2, 1) := by decide +kernel
theorem dL_leave_17 : decode cL_leave 17 = .ok (.ireturn, 1) := by decide +kernel
theorem dL_leave_18 : decode cL_leave 18 = .ok (.iconst 0, 1) := by decide +kernel
theorem dL_leave_19 : decode cL_leave 19 = .ok (.ireturn, 1) := by decide +kernel
set_option maxRecDepth 20000 in
theorem ggL_trade_X4_trade : GoodIn wsL_trade wsX4_trade := goodIn_ca (goodIn_ca (goodIn_ca (goodIn_r _ [8, 9, 10, 11, 12, 13, 14, 15, 16, 7, 17, 18, 19, 20, 21, 22, 23, 24, 25, 26, 27, 28, 29, 30, 31, 32, 33, 34, 35, 36, 37, 38, 39, 40, 41, 42, 43, 44, 45, 46, 47, 48, 49, 50, 51, 52, 53, 54, 55, 56, 57, 58, 59, 60, 61, 62, 63, 64, 65, 66, 67, 68, 69, 70, 71, 72, 73, 74, 75, 76, 77, 78, 79, 80, 81, 82, 83, 84, 85, 86, 87, 88, 89, 90, 91, 92, 93, 94, 95, 96, 97, 98, 99, 100, 101, 102, 103, 104, 105, 106, 107, 108, 109, 110, 111, 112, 113, 114, 115, 116, 117, 118, 119, 120, 121, 122, 123, 124, 125, 126, 127, 128] (by decide +kernel) (by decide +kernel)) (goodIn_sub (fun _ h => List.mem_cons_of_mem _ (List.mem_append_left _ (List.mem_append_left _ (List.mem_append_right _ h)))) (by decide +kernel))) (goodIn_sub (fun _ h => List.mem_cons_of_mem _ (List.mem_append_left _ (List.mem_append_right _ h))) (by decide +kernel))) (goodIn_sub (fun _ h => List.mem_cons_of_mem _ (List.mem_append_right _ h)) (by decide +kernel))
set_option maxRecDepth 20000 in
theorem gL_trade_X4_trade : GoodIn wsL_trade (wsV RL 21 RX4 yX4_trade wsX4_trade) := goodIn_app (goodIn_of _ (by decide +kernel)) ggL_trade_X4_trade
theorem dL_trade_0 : decode cL_trade 0 = .ok (.aload 4, 2) := by decide +kernel
theorem dL_trade_2 : decode cL_trade 2 = .ok (.iconst 0, 1) := by decide +kernel
theorem dL_trade_3 : decode cL_trade 3 = .ok (.aload_n 0, 1) := by decide +kernel
theorem dL_trade_4 : decode cL_trade 4 = .ok (.iload_n 1, 1) := by decide +kernel
theorem dL_trade_5 : decode cL_trade 5 = .ok (.iload_n 2, 1) := by decide +kernel
theorem dL_trade_6 : decode cL_trade 6 = .ok (.iload_n 3, 1) := by decide +kernel
theorem dL_trade_7 : decode cL_trade 7 = .ok (.invokevirtual 21, 3) := by decide +kernel
theorem dL_trade_10 : decode cL_trade 10 = .ok (.i2l, 1) := by decide +kernel
theorem dL_trade_11 : decode cL_trade 11 = .ok (.lastore, 1) := by decide +kernel
theorem dL_trade_12 : decode cL_trade 12 = .ok (.goto 15, 3) := by decide +kernel
theorem dL_trade_15 : decode cL_trade 15 = .ok (.astore 5, 2) := by decide +kernel
theorem dL_trade_17 : decode cL_trade 17 = .ok (.iconst 1, 1) := by decide +kernel
theorem dL_trade_18 : decode cL_trade 18 = .ok (.ireturn, 1) := by decide +kernel
theorem dL_trade_19 : decode cL_trade 19 = .ok (.astore 5, 2) := by decide +kernel
theorem dL_trade_21 : decode cL_trade 21 = .ok (.iconst 2, 1) := by decide +kernel
theorem dL_trade_22 : decode cL_trade 22 = .ok (.ireturn, 1) := by decide +kernel
theorem dL_trade_23 : decode cL_trade 23 = .ok (.astore 5, 2) := by decide +kernel
theorem dL_trade_25 : decode cL_trade 25 = .ok (.iconst 3, 1) := by decide +kernel
theorem dL_trade_26 : decode cL_trade 26 = .ok (.ireturn, 1) := by decide +kernel
theorem dL_trade_27 : decode cL_trade 27 = .ok (.iconst 0, 1) := by decide +kernel
theorem dL_trade_28 : decode cL_trade 28 = .ok (.ireturn, 1) := by decide +kernel
set_option maxRecDepth 20000 in
theorem ggL_dispute_X4_dispute : GoodIn wsL_dispute wsX4_dispute := goodIn_ca (goodIn_ca (goodIn_r _ [7, 8, 9, 10, 11, 12, 13, 14, 15, 16, 17, 18, 6, 19, 20, 21, 22, 23, 24, 25, 26, 27, 28, 29, 30, 31, 32, 33, 34, 35, 36, 37, 38, 39, 40, 41, 42, 43, 44, 45, 46, 47, 48, 49, 50, 51, 52, 53, 54, 55, 56, 57, 58, 59, 60, 61, 62, 63, 64, 65, 66, 67, 68, 69, 70, 71, 72, 73, 74, 75, 76, 77, 78, 79, 80, 81, 82, 83, 84, 85, 86, 87, 88, 89, 90, 91, 92, 93, 94, 95, 96, 97] (by decide +kernel) (by decide +kernel)) (goodIn_sub (fun _ h => List.mem_cons_of_mem _ (List.mem_append_left _ (List.mem_append_right _ h))) (by decide +kernel))) (goodIn_sub (fun _ h => List.mem_cons_of_mem _ (List.mem_append_right _ h)) (by decide +kernel))
set_option maxRecDepth 20000 in
theorem gL_dispute_X4_dispute : GoodIn wsL_dispute (wsV RL 27 RX4 yX4_dispute wsX4_dispute) := goodIn_app (goodIn_of _ (by decide +kernel)) ggL_dispute_X4_dispute
theorem dL_dispute_0 : decode cL_dispute 0 = .ok (.aload_n 2, 1) := by decide +kernel
theorem dL_dispute_1 : decode cL_dispute 1 = .ok (.iconst 0, 1) := by decide +kernel
theorem dL_dispute_2 : decode cL_dispute 2 = .ok (.aload_n 0, 1) := by decide +kernel
theorem dL_dispute_3 : decode cL_dispute 3 = .ok (.iload_n 1, 1) := by decide +kernel
theorem dL_dispute_4 : decode cL_dispute 4 = .ok (.invokevirtual 27, 3) := by decide +kernel
theorem dL_dispute_7 : decode cL_dispute 7 = .ok (.i2l, 1) := by decide +kernel
theorem dL_dispute_8 : decode cL_dispute 8 = .ok (.lastore, 1) := by decide +kernel
theorem dL_dispute_9 : decode cL_dispute 9 = .ok (.goto 9, 3) := by decide +kernel
theorem dL_dispute_12 : decode cL_dispute 12 = .ok (.astore_n 3, 1) := by decide +kernel
theorem dL_dispute_13 : decode cL_dispute 13 = .ok (.iconst 1, 1) := by decide +kernel
theorem dL_dispute_14 : decode cL_dispute 14 = .ok (.ireturn, 1) := by decide +kernel
theorem dL_dispute_15 : decode cL_dispute 15 = .ok (.astore_n 3, 1) := by decide +kernel
theorem dL_dispute_16 : decode cL_dispute 16 = .ok (.iconst 2, 1) := by decide +kernel
theorem dL_dispute_17 : decode cL_dispute 17 = .ok (.ireturn, 1) := by decide +kernel
theorem dL_dispute_18 : decode cL_dispute 18 = .ok (.iconst 0, 1) := by decide +kernel
theorem dL_dispute_19 : decode cL_dispute 19 = .ok (.ireturn, 1) := by decide +kernel
set_option maxRecDepth 20000 in
theorem ggL_settle_X4_settle : GoodIn wsL_settle wsX4_settle := goodIn_ca (goodIn_ca (goodIn_r _ [7, 8, 9, 10, 11, 12, 13, 14, 6, 15, 16, 17, 18, 19, 20, 21, 22, 23, 24, 25, 26, 27, 28, 29, 30, 31, 32, 33, 34, 35, 36, 37, 38, 39, 40, 41, 42, 43, 44, 45, 46, 47, 48, 49, 50, 51, 52, 53, 54, 55, 56, 57, 58, 59, 60, 61, 62, 63, 64, 65, 66, 67, 68, 69, 70, 71, 72, 73, 74, 75, 76, 77, 78, 79, 80, 81] (by decide +kernel) (by decide +kernel)) (goodIn_sub (fun _ h => List.mem_cons_of_mem _ (List.mem_append_left _ (List.mem_append_right _ h))) (by decide +kernel))) (goodIn_sub (fun _ h => List.mem_cons_of_mem _ (List.mem_append_right _ h)) (by decide +kernel))
set_option maxRecDepth 20000 in
theorem gL_settle_X4_settle : GoodIn wsL_settle (wsV RL 30 RX4 yX4_settle wsX4_settle) := goodIn_app (goodIn_of _ (by decide +kernel)) ggL_settle_X4_settle
theorem dL_settle_0 : decode cL_settle 0 = .ok (.aload_n 3, 1) := by decide +kernel
theorem dL_settle_1 : decode cL_settle 1 = .ok (.iconst 0, 1) := by decide +kernel
theorem dL_settle_2 : decode cL_settle 2 = .ok (.aload_n 0, 1) := by decide +kernel
theorem dL_settle_3 : decode cL_settle 3 = .ok (.iload_n 1, 1) := by decide +kernel
theorem dL_settle_4 : decode cL_settle 4 = .ok (.iload_n 2, 1) := by decide +kernel
theorem dL_settle_5 : decode cL_settle 5 = .ok (.invokevirtual 30, 3) := by decide +kernel
theorem dL_settle_8 : decode cL_settle 8 = .ok (.i2l, 1) := by decide +kernel
theorem dL_settle_9 : decode cL_settle 9 = .ok (.lastore, 1) := by decide +kernel
theorem dL_settle_10 : decode cL_settle 10 = .ok (.goto 11, 3) := by decide +kernel
theorem dL_settle_13 : decode cL_settle 13 = .ok (.astore 4, 2) := by decide +kernel
theorem dL_settle_15 : decode cL_settle 15 = .ok (.iconst 1, 1) := by decide +kernel
theorem dL_settle_16 : decode cL_settle 16 = .ok (.ireturn, 1) := by decide +kernel
theorem dL_settle_17 : decode cL_settle 17 = .ok (.astore 4, 2) := by decide +kernel
theorem dL_settle_19 : decode cL_settle 19 = .ok (.iconst 2, 1) := by decide +kernel
theorem dL_settle_20 : decode cL_settle 20 = .ok (.ireturn, 1) := by decide +kernel
theorem dL_settle_21 : decode cL_settle 21 = .ok (.iconst 0, 1) := by decide +kernel
theorem dL_settle_22 : decode cL_settle 22 = .ok (.ireturn, 1) := by decide +kernel
set_option maxRecDepth 20000 in
theorem ggL_guarantee_X4_guarantee : GoodIn wsL_guarantee wsX4_guarantee := goodIn_ca (goodIn_ca (goodIn_ca (goodIn_r _ [8, 9, 10, 11, 12, 13, 14, 7, 15, 16, 17, 18, 19, 20, 21, 22, 23, 24, 25, 26, 27, 28, 29, 30, 31, 32, 33, 34, 35, 36, 37, 38, 39, 40, 41, 42, 43, 44, 45, 46, 47, 48, 49, 50, 51, 52, 53, 54, 55, 56, 57, 58, 59, 60, 61, 62, 63, 64, 65, 66, 67, 68, 69, 70, 71, 72, 73, 74, 75, 76, 77, 78, 79, 80, 81, 82, 83, 84, 85, 86, 87, 88, 89, 90, 91, 92, 93, 94, 95, 96, 97, 98, 99, 100, 101, 102, 103, 104, 105, 106, 107, 108, 109, 110, 111, 112, 113, 114, 115, 116, 117, 118, 119] (by decide +kernel) (by decide +kernel)) (goodIn_sub (fun _ h => List.mem_cons_of_mem _ (List.mem_append_left _ (List.mem_append_left _ (List.mem_append_right _ h)))) (by decide +kernel))) (goodIn_sub (fun _ h => List.mem_cons_of_mem _ (List.mem_append_left _ (List.mem_append_right _ h))) (by decide +kernel))) (goodIn_sub (fun _ h => List.mem_cons_of_mem _ (List.mem_append_right _ h)) (by decide +kernel))
set_option maxRecDepth 20000 in
theorem gL_guarantee_X4_guarantee : GoodIn wsL_guarantee (wsV RL 34 RX4 yX4_guarantee wsX4_guarantee) := goodIn_app (goodIn_of _ (by decide +kernel)) ggL_guarantee_X4_guarantee
theorem dL_guarantee_0 : decode cL_guarantee 0 = .ok (.aload 4, 2) := by decide +kernel
theorem dL_guarantee_2 : decode cL_guarantee 2 = .ok (.iconst 0, 1) := by decide +kernel
theorem dL_guarantee_3 : decode cL_guarantee 3 = .ok (.aload_n 0, 1) := by decide +kernel
theorem dL_guarantee_4 : decode cL_guarantee 4 = .ok (.iload_n 1, 1) := by decide +kernel
theorem dL_guarantee_5 : decode cL_guarantee 5 = .ok (.iload_n 2, 1) := by decide +kernel
theorem dL_guarantee_6 : decode cL_guarantee 6 = .ok (.iload_n 3, 1) := by decide +kernel
theorem dL_guarantee_7 : decode cL_guarantee 7 = .ok (.invokevirtual 34, 3) := by decide +kernel
theorem dL_guarantee_10 : decode cL_guarantee 10 = .ok (.i2l, 1) := by decide +kernel
theorem dL_guarantee_11 : decode cL_guarantee 11 = .ok (.lastore, 1) := by decide +kernel
theorem dL_guarantee_12 : decode cL_guarantee 12 = .ok (.goto 15, 3) := by decide +kernel
theorem dL_guarantee_15 : decode cL_guarantee 15 = .ok (.astore 5, 2) := by decide +kernel
theorem dL_guarantee_17 : decode cL_guarantee 17 = .ok (.iconst 1, 1) := by decide +kernel
theorem dL_guarantee_18 : decode cL_guarantee 18 = .ok (.ireturn, 1) := by decide +kernel
theorem dL_guarantee_19 : decode cL_guarantee 19 = .ok (.astore 5, 2) := by decide +kernel
theorem dL_guarantee_21 : decode cL_guarantee 21 = .ok (.iconst 2, 1) := by decide +kernel
theorem dL_guarantee_22 : decode cL_guarantee 22 = .ok (.ireturn, 1) := by decide +kernel
theorem dL_guarantee_23 : decode cL_guarantee 23 = .ok (.astore 5, 2) := by decide +kernel
theorem dL_guarantee_25 : decode cL_guarantee 25 = .ok (.iconst 3, 1) := by decide +kernel
theorem dL_guarantee_26 : decode cL_guarantee 26 = .ok (.ireturn, 1) := by decide +kernel
theorem dL_guarantee_27 : decode cL_guarantee 27 = .ok (.iconst 0, 1) := by decide +kernel
theorem dL_guarantee_28 : decode cL_guarantee 28 = .ok (.ireturn, 1) := by decide +kernel
set_option maxRecDepth 20000 in
theorem ggL_revoke_X4_revoke : GoodIn wsL_revoke wsX4_revoke := goodIn_ca (goodIn_ca (goodIn_ca (goodIn_r _ [8, 9, 10, 11, 12, 13, 14, 7, 15, 16, 17, 18, 19, 20, 21, 22, 23, 24, 25, 26, 27, 28, 29, 30, 31, 32, 33, 34, 35, 36, 37, 38, 39, 40, 41, 42, 43, 44, 45, 46, 47, 48, 49, 50, 51, 52, 53, 54, 55, 56, 57, 58, 59, 60, 61, 62, 63, 64, 65, 66, 67, 68, 69, 70, 71, 72, 73, 74, 75, 76, 77, 78, 79, 80, 81, 82, 83, 84, 85, 86, 87, 88, 89, 90, 91, 92, 93, 94, 95, 96, 97, 98, 99, 100, 101, 102, 103, 104, 105, 106, 107, 108, 109, 110, 111, 112, 113, 114, 115, 116, 117, 118, 119] (by decide +kernel) (by decide +kernel)) (goodIn_sub (fun _ h => List.mem_cons_of_mem _ (List.mem_append_left _ (List.mem_append_left _ (List.mem_append_right _ h)))) (by decide +kernel))) (goodIn_sub (fun _ h => List.mem_cons_of_mem _ (List.mem_append_left _ (List.mem_append_right _ h))) (by decide +kernel))) (goodIn_sub (fun _ h => List.mem_cons_of_mem _ (List.mem_append_right _ h)) (by decide +kernel))
set_option maxRecDepth 20000 in
theorem gL_revoke_X4_revoke : GoodIn wsL_revoke (wsV RL 37 RX4 yX4_revoke wsX4_revoke) := goodIn_app (goodIn_of _ (by decide +kernel)) ggL_revoke_X4_revoke
theorem dL_revoke_0 : decode cL_revoke 0 = .ok (.aload 4, 2) := by decide +kernel
theorem dL_revoke_2 : decode cL_revoke 2 = .ok (.iconst 0, 1) := by decide +kernel
theorem dL_revoke_3 : decode cL_revoke 3 = .ok (.aload_n 0, 1) := by decide +kernel
theorem dL_revoke_4 : decode cL_revoke 4 = .ok (.iload_n 1, 1) := by decide +kernel
theorem dL_revoke_5 : decode cL_revoke 5 = .ok (.iload_n 2, 1) := by decide +kernel
theorem dL_revoke_6 : decode cL_revoke 6 = .ok (.iload_n 3, 1) := by decide +kernel
theorem dL_revoke_7 : decode cL_revoke 7 = .ok (.invokevirtual 37, 3) := by decide +kernel
theorem dL_revoke_10 : decode cL_revoke 10 = .ok (.i2l, 1) := by decide +kernel
theorem dL_revoke_11 : decode cL_revoke 11 = .ok (.lastore, 1) := by decide +kernel
theorem dL_revoke_12 : decode cL_revoke 12 = .ok (.goto 15, 3) := by decide +kernel
theorem dL_revoke_15 : decode cL_revoke 15 = .ok (.astore 5, 2) := by decide +kernel
theorem dL_revoke_17 : decode cL_revoke 17 = .ok (.iconst 1, 1) := by decide +kernel
theorem dL_revoke_18 : decode cL_revoke 18 = .ok (.ireturn, 1) := by decide +kernel
theorem dL_revoke_19 : decode cL_revoke 19 = .ok (.astore 5, 2) := by decide +kernel
theorem dL_revoke_21 : decode cL_revoke 21 = .ok (.iconst 2, 1) := by decide +kernel
theorem dL_revoke_22 : decode cL_revoke 22 = .ok (.ireturn, 1) := by decide +kernel
theorem dL_revoke_23 : decode cL_revoke 23 = .ok (.astore 5, 2) := by decide +kernel
theorem dL_revoke_25 : decode cL_revoke 25 = .ok (.iconst 3, 1) := by decide +kernel
theorem dL_revoke_26 : decode cL_revoke 26 = .ok (.ireturn, 1) := by decide +kernel
theorem dL_revoke_27 : decode cL_revoke 27 = .ok (.iconst 0, 1) := by decide +kernel
theorem dL_revoke_28 : decode cL_revoke 28 = .ok (.ireturn, 1) := by decide +kernel
set_option maxRecDepth 20000 in
theorem ggL_fee_X4_fee : GoodIn wsL_fee wsX4_fee := goodIn_ca (goodIn_r _ [6, 7, 8, 9, 5, 10, 11, 12, 13, 14, 15, 16, 17, 18, 19, 20, 21] (by decide +kernel) (by decide +kernel)) (goodIn_sub (fun _ h => List.mem_cons_of_mem _ (List.mem_append_right _ h)) (by decide +kernel))
set_option maxRecDepth 20000 in
theorem gL_fee_X4_fee : GoodIn wsL_fee (wsV RL 40 RX4 yX4_fee wsX4_fee) := goodIn_app (goodIn_of _ (by decide +kernel)) ggL_fee_X4_fee
theorem dL_fee_0 : decode cL_fee 0 = .ok (.aload_n 2, 1) := by decide +kernel
theorem dL_fee_1 : decode cL_fee 1 = .ok (.iconst 0, 1) := by decide +kernel
theorem dL_fee_2 : decode cL_fee 2 = .ok (.aload_n 0, 1) := by decide +kernel
theorem dL_fee_3 : decode cL_fee 3 = .ok (.iload_n 1, 1) := by decide +kernel
theorem dL_fee_4 : decode cL_fee 4 = .ok (.invokevirtual 40, 3) := by decide +kernel
theorem dL_fee_7 : decode cL_fee 7 = .ok (.i2l, 1) := by decide +kernel
theorem dL_fee_8 : decode cL_fee 8 = .ok (.lastore, 1) := by decide +kernel
theorem dL_fee_9 : decode cL_fee 9 = .ok (.goto 6, 3) := by decide +kernel
theorem dL_fee_12 : decode cL_fee 12 = .ok (.astore_n 3, 1) := by decide +kernel
theorem dL_fee_13 : decode cL_fee 13 = .ok (.iconst 1, 1) := by decide +kernel
theorem dL_fee_14 : decode cL_fee 14 = .ok (.ireturn, 1) := by decide +kernel
theorem dL_fee_15 : decode cL_fee 15 = .ok (.iconst 0, 1) := by decide +kernel
theorem dL_fee_16 : decode cL_fee 16 = .ok (.ireturn, 1) := by decide +kernel
set_option maxRecDepth 20000 in
theorem ggL_night_X4_night : GoodIn wsL_night wsX4_night := goodIn_ca (goodIn_r _ [6, 7, 8, 9, 10, 11, 5, 12, 13, 14, 15, 16, 17, 18, 19, 20, 21, 22, 23, 24, 25, 26, 27, 28, 29, 30, 31, 32, 33, 34, 35, 36, 37, 38, 39, 40, 41, 42, 43, 44, 45, 46, 47, 48, 49, 50, 51, 52, 53, 54, 55, 56, 57, 58, 59, 60, 61, 62, 63, 64, 65, 66, 67, 68, 69, 70, 71, 72, 73, 74, 75, 76, 77, 78, 79, 80, 81, 82, 83, 84, 85, 86, 87, 88, 89, 90, 91, 92, 93, 94, 95, 96, 97, 98, 99, 100, 101, 102, 103, 104, 105, 106, 107, 108, 109, 110, 111, 112, 113, 114, 115, 116, 117, 118, 119, 120, 121, 122, 123, 124, 125, 126, 127, 128, 129, 130, 131, 132, 133, 134, 135, 136, 137, 138, 139, 140, 141, 142, 143, 144, 145, 146, 147, 148, 149, 150, 151, 152, 153, 154, 155, 156] (by decide +kernel) (by decide +kernel)) (goodIn_sub (fun _ h => List.mem_cons_of_mem _ (List.mem_append_right _ h)) (by decide +kernel))
set_option maxRecDepth 20000 in
theorem gL_night_X4_night : GoodIn wsL_night (wsV RL 43 RX4 yX4_night wsX4_night) := goodIn_app (goodIn_of _ (by decide +kernel)) ggL_night_X4_night
