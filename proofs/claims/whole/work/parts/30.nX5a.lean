theorem dX5_init_0 : decode cX5_init 0 = .ok (.aload_n 0, 1) := by decide +kernel
theorem dX5_init_1 : decode cX5_init 1 = .ok (.invokespecial 1, 3) := by decide +kernel
theorem dX5_init_4 : decode cX5_init 4 = .ok (.aload_n 0, 1) := by decide +kernel
theorem dX5_init_5 : decode cX5_init 5 = .ok (.bipush 8, 2) := by decide +kernel
theorem dX5_init_7 : decode cX5_init 7 = .ok (.newarray .boolean, 2) := by decide +kernel
theorem dX5_init_9 : decode cX5_init 9 = .ok (.putfield 7, 3) := by decide +kernel
theorem dX5_init_12 : decode cX5_init 12 = .ok (.aload_n 0, 1) := by decide +kernel
theorem dX5_init_13 : decode cX5_init 13 = .ok (.bipush 81, 2) := by decide +kernel
theorem dX5_init_15 : decode cX5_init 15 = .ok (.newarray .int, 2) := by decide +kernel
theorem dX5_init_17 : decode cX5_init 17 = .ok (.putfield 13, 3) := by decide +kernel
theorem dX5_init_20 : decode cX5_init 20 = .ok (.aload_n 0, 1) := by decide +kernel
theorem dX5_init_21 : decode cX5_init 21 = .ok (.bipush 81, 2) := by decide +kernel
theorem dX5_init_23 : decode cX5_init 23 = .ok (.newarray .int, 2) := by decide +kernel
theorem dX5_init_25 : decode cX5_init 25 = .ok (.putfield 17, 3) := by decide +kernel
theorem dX5_init_28 : decode cX5_init 28 = .ok (.aload_n 0, 1) := by decide +kernel
theorem dX5_init_29 : decode cX5_init 29 = .ok (.bipush 81, 2) := by decide +kernel
theorem dX5_init_31 : decode cX5_init 31 = .ok (.newarray .int, 2) := by decide +kernel
theorem dX5_init_33 : decode cX5_init 33 = .ok (.putfield 20, 3) := by decide +kernel
theorem dX5_init_36 : decode cX5_init 36 = .ok (.aload_n 0, 1) := by decide +kernel
theorem dX5_init_37 : decode cX5_init 37 = .ok (.bipush 8, 2) := by decide +kernel
theorem dX5_init_39 : decode cX5_init 39 = .ok (.newarray .int, 2) := by decide +kernel
theorem dX5_init_41 : decode cX5_init 41 = .ok (.putfield 23, 3) := by decide +kernel
theorem dX5_init_44 : decode cX5_init 44 = .ok (.aload_n 0, 1) := by decide +kernel
theorem dX5_init_45 : decode cX5_init 45 = .ok (.bipush 100, 2) := by decide +kernel
theorem dX5_init_47 : decode cX5_init 47 = .ok (.newarray .int, 2) := by decide +kernel
theorem dX5_init_49 : decode cX5_init 49 = .ok (.putfield 26, 3) := by decide +kernel
theorem dX5_init_52 : decode cX5_init 52 = .ok (.aload_n 0, 1) := by decide +kernel
theorem dX5_init_53 : decode cX5_init 53 = .ok (.bipush 100, 2) := by decide +kernel
theorem dX5_init_55 : decode cX5_init 55 = .ok (.newarray .int, 2) := by decide +kernel
theorem dX5_init_57 : decode cX5_init 57 = .ok (.putfield 29, 3) := by decide +kernel
theorem dX5_init_60 : decode cX5_init 60 = .ok (.aload_n 0, 1) := by decide +kernel
theorem dX5_init_61 : decode cX5_init 61 = .ok (.bipush 100, 2) := by decide +kernel
theorem dX5_init_63 : decode cX5_init 63 = .ok (.newarray .int, 2) := by decide +kernel
theorem dX5_init_65 : decode cX5_init 65 = .ok (.putfield 32, 3) := by decide +kernel
theorem dX5_init_68 : decode cX5_init 68 = .ok (.aload_n 0, 1) := by decide +kernel
theorem dX5_init_69 : decode cX5_init 69 = .ok (.bipush 100, 2) := by decide +kernel
theorem dX5_init_71 : decode cX5_init 71 = .ok (.newarray .int, 2) := by decide +kernel
theorem dX5_init_73 : decode cX5_init 73 = .ok (.putfield 35, 3) := by decide +kernel
theorem dX5_init_76 : decode cX5_init 76 = .ok (.aload_n 0, 1) := by decide +kernel
theorem dX5_init_77 : decode cX5_init 77 = .ok (.bipush 100, 2) := by decide +kernel
theorem dX5_init_79 : decode cX5_init 79 = .ok (.newarray .int, 2) := by decide +kernel
theorem dX5_init_81 : decode cX5_init 81 = .ok (.putfield 38, 3) := by decide +kernel
theorem dX5_init_84 : decode cX5_init 84 = .ok (.aload_n 0, 1) := by decide +kernel
theorem dX5_init_85 : decode cX5_init 85 = .ok (.bipush 100, 2) := by decide +kernel
theorem dX5_init_87 : decode cX5_init 87 = .ok (.newarray .int, 2) := by decide +kernel
theorem dX5_init_89 : decode cX5_init 89 = .ok (.putfield 41, 3) := by decide +kernel
theorem dX5_init_92 : decode cX5_init 92 = .ok (.aload_n 0, 1) := by decide +kernel
theorem dX5_init_93 : decode cX5_init 93 = .ok (.bipush 10, 2) := by decide +kernel
theorem dX5_init_95 : decode cX5_init 95 = .ok (.putfield 44, 3) := by decide +kernel
theorem dX5_init_98 : decode cX5_init 98 = .ok (.aload_n 0, 1) := by decide +kernel
theorem dX5_init_99 : decode cX5_init 99 = .ok (.sipush 700, 3) := by decide +kernel
theorem dX5_init_102 : decode cX5_init 102 = .ok (.newarray .int, 2) := by decide +kernel
theorem dX5_init_104 : decode cX5_init 104 = .ok (.putfield 48, 3) := by decide +kernel
theorem dX5_init_107 : decode cX5_init 107 = .ok (.aload_n 0, 1) := by decide +kernel
theorem dX5_init_108 : decode cX5_init 108 = .ok (.iconst 5, 1) := by decide +kernel
theorem dX5_init_109 : decode cX5_init 109 = .ok (.newarray .int, 2) := by decide +kernel
theorem dX5_init_111 : decode cX5_init 111 = .ok (.putfield 51, 3) := by decide +kernel
theorem dX5_init_114 : decode cX5_init 114 = .ok (.return_, 1) := by decide +kernel
theorem dX5_thrown_0 : decode cX5_thrown 0 = .ok (.aload_n 0, 1) := by decide +kernel
theorem dX5_thrown_1 : decode cX5_thrown 1 = .ok (.getfield 54, 3) := by decide +kernel
theorem dX5_thrown_4 : decode cX5_thrown 4 = .ok (.ireturn, 1) := by decide +kernel
theorem dX5_in_0 : decode cX5_in 0 = .ok (.iload_n 0, 1) := by decide +kernel
theorem dX5_in_1 : decode cX5_in 1 = .ok (.iload_n 1, 1) := by decide +kernel
theorem dX5_in_2 : decode cX5_in 2 = .ok (.if_icmp .lt 12, 3) := by decide +kernel
theorem dX5_in_5 : decode cX5_in 5 = .ok (.iload_n 0, 1) := by decide +kernel
theorem dX5_in_6 : decode cX5_in 6 = .ok (.iload_n 2, 1) := by decide +kernel
theorem dX5_in_7 : decode cX5_in 7 = .ok (.if_icmp .gt 7, 3) := by decide +kernel
theorem dX5_in_10 : decode cX5_in 10 = .ok (.iconst 1, 1) := by decide +kernel
theorem dX5_in_11 : decode cX5_in 11 = .ok (.goto 4, 3) := by decide +kernel
theorem dX5_in_14 : decode cX5_in 14 = .ok (.iconst 0, 1) := by decide +kernel
theorem dX5_in_15 : decode cX5_in 15 = .ok (.ireturn, 1) := by decide +kernel
set_option maxRecDepth 20000 in
theorem ggX5_isShop_X5_in : GoodIn wsX5_isShop wsX5_in := goodIn_r _ [6] (by decide +kernel) (by decide +kernel)
set_option maxRecDepth 20000 in
theorem gX5_isShop_X5_in : GoodIn wsX5_isShop (va_wsS RX5 60 yX5_in wsX5_in) := goodIn_app (goodIn_of _ (by decide +kernel)) ggX5_isShop_X5_in
theorem dX5_isShop_0 : decode cX5_isShop 0 = .ok (.iload_n 1, 1) := by decide +kernel
theorem dX5_isShop_1 : decode cX5_isShop 1 = .ok (.iconst 0, 1) := by decide +kernel
theorem dX5_isShop_2 : decode cX5_isShop 2 = .ok (.aload_n 0, 1) := by decide +kernel
theorem dX5_isShop_3 : decode cX5_isShop 3 = .ok (.getfield 57, 3) := by decide +kernel
theorem dX5_isShop_6 : decode cX5_isShop 6 = .ok (.iconst 1, 1) := by decide +kernel
theorem dX5_isShop_7 : decode cX5_isShop 7 = .ok (.isub, 1) := by decide +kernel
theorem dX5_isShop_8 : decode cX5_isShop 8 = .ok (.invokestatic 60, 3) := by decide +kernel
theorem dX5_isShop_11 : decode cX5_isShop 11 = .ok (.ifCond .eq 16, 3) := by decide +kernel
theorem dX5_isShop_14 : decode cX5_isShop 14 = .ok (.aload_n 0, 1) := by decide +kernel
theorem dX5_isShop_15 : decode cX5_isShop 15 = .ok (.getfield 7, 3) := by decide +kernel
theorem dX5_isShop_18 : decode cX5_isShop 18 = .ok (.iload_n 1, 1) := by decide +kernel
theorem dX5_isShop_19 : decode cX5_isShop 19 = .ok (.baload, 1) := by decide +kernel
theorem dX5_isShop_20 : decode cX5_isShop 20 = .ok (.ifCond .eq 7, 3) := by decide +kernel
theorem dX5_isShop_23 : decode cX5_isShop 23 = .ok (.iconst 1, 1) := by decide +kernel
theorem dX5_isShop_24 : decode cX5_isShop 24 = .ok (.goto 4, 3) := by decide +kernel
theorem dX5_isShop_27 : decode cX5_isShop 27 = .ok (.iconst 0, 1) := by decide +kernel
theorem dX5_isShop_28 : decode cX5_isShop 28 = .ok (.ireturn, 1) := by decide +kernel
set_option maxRecDepth 20000 in
theorem ggX5_was_X5_in : GoodIn wsX5_was wsX5_in := goodIn_r _ [5] (by decide +kernel) (by decide +kernel)
set_option maxRecDepth 20000 in
theorem gX5_was_X5_in : GoodIn wsX5_was (va_wsS RX5 60 yX5_in wsX5_in) := goodIn_app (goodIn_of _ (by decide +kernel)) ggX5_was_X5_in
theorem dX5_was_0 : decode cX5_was 0 = .ok (.iload_n 1, 1) := by decide +kernel
theorem dX5_was_1 : decode cX5_was 1 = .ok (.iconst 0, 1) := by decide +kernel
theorem dX5_was_2 : decode cX5_was 2 = .ok (.aload_n 0, 1) := by decide +kernel
theorem dX5_was_3 : decode cX5_was 3 = .ok (.getfield 57, 3) := by decide +kernel
theorem dX5_was_6 : decode cX5_was 6 = .ok (.iconst 1, 1) := by decide +kernel
theorem dX5_was_7 : decode cX5_was 7 = .ok (.isub, 1) := by decide +kernel
theorem dX5_was_8 : decode cX5_was 8 = .ok (.invokestatic 60, 3) := by decide +kernel
theorem dX5_was_11 : decode cX5_was 11 = .ok (.ireturn, 1) := by decide +kernel
theorem dX5_at_0 : decode cX5_at 0 = .ok (.bipush 9, 2) := by decide +kernel
theorem dX5_at_2 : decode cX5_at 2 = .ok (.iload_n 0, 1) := by decide +kernel
theorem dX5_at_3 : decode cX5_at 3 = .ok (.imul, 1) := by decide +kernel
theorem dX5_at_4 : decode cX5_at 4 = .ok (.iload_n 1, 1) := by decide +kernel
theorem dX5_at_5 : decode cX5_at 5 = .ok (.iadd, 1) := by decide +kernel
theorem dX5_at_6 : decode cX5_at 6 = .ok (.ireturn, 1) := by decide +kernel
theorem dX5_least_0 : decode cX5_least 0 = .ok (.iload_n 0, 1) := by decide +kernel
theorem dX5_least_1 : decode cX5_least 1 = .ok (.iload_n 1, 1) := by decide +kernel
theorem dX5_least_2 : decode cX5_least 2 = .ok (.if_icmp .ge 7, 3) := by decide +kernel
theorem dX5_least_5 : decode cX5_least 5 = .ok (.iload_n 0, 1) := by decide +kernel
theorem dX5_least_6 : decode cX5_least 6 = .ok (.goto 4, 3) := by decide +kernel
theorem dX5_least_9 : decode cX5_least 9 = .ok (.iload_n 1, 1) := by decide +kernel
theorem dX5_least_10 : decode cX5_least 10 = .ok (.ireturn, 1) := by decide +kernel
set_option maxRecDepth 20000 in
theorem ggX5_free_X5_at : GoodIn wsX5_free wsX5_at := goodIn_r _ [6] (by decide +kernel) (by decide +kernel)
set_option maxRecDepth 20000 in
theorem gX5_free_X5_at : GoodIn wsX5_free (va_wsS RX5 64 yX5_at wsX5_at) := goodIn_app (goodIn_of _ (by decide +kernel)) ggX5_free_X5_at
theorem dX5_free_0 : decode cX5_free 0 = .ok (.aload_n 0, 1) := by decide +kernel
theorem dX5_free_1 : decode cX5_free 1 = .ok (.getfield 13, 3) := by decide +kernel
theorem dX5_free_4 : decode cX5_free 4 = .ok (.iload_n 1, 1) := by decide +kernel
theorem dX5_free_5 : decode cX5_free 5 = .ok (.iload_n 2, 1) := by decide +kernel
theorem dX5_free_6 : decode cX5_free 6 = .ok (.invokestatic 64, 3) := by decide +kernel
theorem dX5_free_9 : decode cX5_free 9 = .ok (.iaload, 1) := by decide +kernel
theorem dX5_free_10 : decode cX5_free 10 = .ok (.aload_n 0, 1) := by decide +kernel
theorem dX5_free_11 : decode cX5_free 11 = .ok (.getfield 17, 3) := by decide +kernel
theorem dX5_free_14 : decode cX5_free 14 = .ok (.iload_n 1, 1) := by decide +kernel
theorem dX5_free_15 : decode cX5_free 15 = .ok (.iload_n 2, 1) := by decide +kernel
theorem dX5_free_16 : decode cX5_free 16 = .ok (.invokestatic 64, 3) := by decide +kernel
theorem dX5_free_19 : decode cX5_free 19 = .ok (.iaload, 1) := by decide +kernel
theorem dX5_free_20 : decode cX5_free 20 = .ok (.isub, 1) := by decide +kernel
theorem dX5_free_21 : decode cX5_free 21 = .ok (.ireturn, 1) := by decide +kernel
set_option maxRecDepth 20000 in
theorem ggX5_balanceOf_X5_at : GoodIn wsX5_balanceOf wsX5_at := goodIn_r _ [5] (by decide +kernel) (by decide +kernel)
set_option maxRecDepth 20000 in
theorem gX5_balanceOf_X5_at : GoodIn wsX5_balanceOf (va_wsS RX5 64 yX5_at wsX5_at) := goodIn_app (goodIn_of _ (by decide +kernel)) ggX5_balanceOf_X5_at
theorem dX5_balanceOf_0 : decode cX5_balanceOf 0 = .ok (.iconst 0, 1) := by decide +kernel
theorem dX5_balanceOf_1 : decode cX5_balanceOf 1 = .ok (.istore_n 2, 1) := by decide +kernel
theorem dX5_balanceOf_2 : decode cX5_balanceOf 2 = .ok (.iconst 0, 1) := by decide +kernel
theorem dX5_balanceOf_3 : decode cX5_balanceOf 3 = .ok (.istore_n 3, 1) := by decide +kernel
theorem dX5_balanceOf_4 : decode cX5_balanceOf 4 = .ok (.iload_n 3, 1) := by decide +kernel
theorem dX5_balanceOf_5 : decode cX5_balanceOf 5 = .ok (.bipush 9, 2) := by decide +kernel
theorem dX5_balanceOf_7 : decode cX5_balanceOf 7 = .ok (.if_icmp .ge 33, 3) := by decide +kernel
theorem dX5_balanceOf_10 : decode cX5_balanceOf 10 = .ok (.iload_n 2, 1) := by decide +kernel
theorem dX5_balanceOf_11 : decode cX5_balanceOf 11 = .ok (.aload_n 0, 1) := by decide +kernel
theorem dX5_balanceOf_12 : decode cX5_balanceOf 12 = .ok (.getfield 13, 3) := by decide +kernel
theorem dX5_balanceOf_15 : decode cX5_balanceOf 15 = .ok (.iload_n 3, 1) := by decide +kernel
theorem dX5_balanceOf_16 : decode cX5_balanceOf 16 = .ok (.iload_n 1, 1) := by decide +kernel
theorem dX5_balanceOf_17 : decode cX5_balanceOf 17 = .ok (.invokestatic 64, 3) := by decide +kernel
theorem dX5_balanceOf_20 : decode cX5_balanceOf 20 = .ok (.iaload, 1) := by decide +kernel
theorem dX5_balanceOf_21 : decode cX5_balanceOf 21 = .ok (.aload_n 0, 1) := by decide +kernel
theorem dX5_balanceOf_22 : decode cX5_balanceOf 22 = .ok (.getfield 13, 3) := by decide +kernel
theorem dX5_balanceOf_25 : decode cX5_balanceOf 25 = .ok (.iload_n 1, 1) := by decide +kernel
theorem dX5_balanceOf_26 : decode cX5_balanceOf 26 = .ok (.iload_n 3, 1) := by decide +kernel
theorem dX5_balanceOf_27 : decode cX5_balanceOf 27 = .ok (.invokestatic 64, 3) := by decide +kernel
theorem dX5_balanceOf_30 : decode cX5_balanceOf 30 = .ok (.iaload, 1) := by decide +kernel
theorem dX5_balanceOf_31 : decode cX5_balanceOf 31 = .ok (.isub, 1) := by decide +kernel
theorem dX5_balanceOf_32 : decode cX5_balanceOf 32 = .ok (.iadd, 1) := by decide +kernel
theorem dX5_balanceOf_33 : decode cX5_balanceOf 33 = .ok (.istore_n 2, 1) := by decide +kernel
theorem dX5_balanceOf_34 : decode cX5_balanceOf 34 = .ok (.iinc 3 1, 3) := by decide +kernel
theorem dX5_balanceOf_37 : decode cX5_balanceOf 37 = .ok (.goto (-33), 3) := by decide +kernel
theorem dX5_balanceOf_40 : decode cX5_balanceOf 40 = .ok (.iload_n 2, 1) := by decide +kernel
theorem dX5_balanceOf_41 : decode cX5_balanceOf 41 = .ok (.ireturn, 1) := by decide +kernel
theorem dX5_isOf_0 : decode cX5_isOf 0 = .ok (.aload_n 0, 1) := by decide +kernel
theorem dX5_isOf_1 : decode cX5_isOf 1 = .ok (.getfield 26, 3) := by decide +kernel
theorem dX5_isOf_4 : decode cX5_isOf 4 = .ok (.iload_n 1, 1) := by decide +kernel
theorem dX5_isOf_5 : decode cX5_isOf 5 = .ok (.iaload, 1) := by decide +kernel
theorem dX5_isOf_6 : decode cX5_isOf 6 = .ok (.iload_n 2, 1) := by decide +kernel
theorem dX5_isOf_7 : decode cX5_isOf 7 = .ok (.if_icmp .eq 13, 3) := by decide +kernel
theorem dX5_isOf_10 : decode cX5_isOf 10 = .ok (.aload_n 0, 1) := by decide +kernel
theorem dX5_isOf_11 : decode cX5_isOf 11 = .ok (.getfield 29, 3) := by decide +kernel
theorem dX5_isOf_14 : decode cX5_isOf 14 = .ok (.iload_n 1, 1) := by decide +kernel
theorem dX5_isOf_15 : decode cX5_isOf 15 = .ok (.iaload, 1) := by decide +kernel
theorem dX5_isOf_16 : decode cX5_isOf 16 = .ok (.iload_n 2, 1) := by decide +kernel
theorem dX5_isOf_17 : decode cX5_isOf 17 = .ok (.if_icmp .ne 7, 3) := by decide +kernel
theorem dX5_isOf_20 : decode cX5_isOf 20 = .ok (.iconst 1, 1) := by decide +kernel
theorem dX5_isOf_21 : decode cX5_isOf 21 = .ok (.goto 4, 3) := by decide +kernel
theorem dX5_isOf_24 : decode cX5_isOf 24 = .ok (.iconst 0, 1) := by decide +kernel
theorem dX5_isOf_25 : decode cX5_isOf 25 = .ok (.ireturn, 1) := by decide +kernel
set_option maxRecDepth 20000 in
theorem ggX5_limitOf_X5_isOf : GoodIn wsX5_limitOf wsX5_isOf := goodIn_r _ [11, 12, 13, 17, 18, 19, 20, 21, 22, 23, 24, 25, 26, 27, 28, 29, 30, 31, 32, 33, 34, 35] (by decide +kernel) (by decide +kernel)
set_option maxRecDepth 20000 in
theorem gX5_limitOf_X5_isOf : GoodIn wsX5_limitOf (wsV RX5 71 RX5 yX5_isOf wsX5_isOf) := goodIn_app (goodIn_of _ (by decide +kernel)) ggX5_limitOf_X5_isOf
set_option maxRecDepth 20000 in
theorem ggX5_limitOf_X5_at : GoodIn wsX5_limitOf wsX5_at := goodIn_r _ [16] (by decide +kernel) (by decide +kernel)
set_option maxRecDepth 20000 in
theorem gX5_limitOf_X5_at : GoodIn wsX5_limitOf (va_wsS RX5 64 yX5_at wsX5_at) := goodIn_app (goodIn_of _ (by decide +kernel)) ggX5_limitOf_X5_at
theorem dX5_limitOf_0 : decode cX5_limitOf 0 = .ok (.iconst 0, 1) := by decide +kernel
theorem dX5_limitOf_1 : decode cX5_limitOf 1 = .ok (.istore_n 2, 1) := by decide +kernel
theorem dX5_limitOf_2 : decode cX5_limitOf 2 = .ok (.iconst 0, 1) := by decide +kernel
theorem dX5_limitOf_3 : decode cX5_limitOf 3 = .ok (.istore_n 3, 1) := by decide +kernel
theorem dX5_limitOf_4 : decode cX5_limitOf 4 = .ok (.iload_n 3, 1) := by decide +kernel
theorem dX5_limitOf_5 : decode cX5_limitOf 5 = .ok (.aload_n 0, 1) := by decide +kernel
theorem dX5_limitOf_6 : decode cX5_limitOf 6 = .ok (.getfield 68, 3) := by decide +kernel
theorem dX5_limitOf_9 : decode cX5_limitOf 9 = .ok (.if_icmp .ge 57, 3) := by decide +kernel
theorem dX5_limitOf_12 : decode cX5_limitOf 12 = .ok (.iload_n 2, 1) := by decide +kernel
theorem dX5_limitOf_13 : decode cX5_limitOf 13 = .ok (.aload_n 0, 1) := by decide +kernel
theorem dX5_limitOf_14 : decode cX5_limitOf 14 = .ok (.iload_n 3, 1) := by decide +kernel
theorem dX5_limitOf_15 : decode cX5_limitOf 15 = .ok (.iload_n 1, 1) := by decide +kernel
theorem dX5_limitOf_16 : decode cX5_limitOf 16 = .ok (.invokevirtual 71, 3) := by decide +kernel
theorem dX5_limitOf_19 : decode cX5_limitOf 19 = .ok (.ifCond .eq 38, 3) := by decide +kernel
theorem dX5_limitOf_22 : decode cX5_limitOf 22 = .ok (.aload_n 0, 1) := by decide +kernel
theorem dX5_limitOf_23 : decode cX5_limitOf 23 = .ok (.getfield 38, 3) := by decide +kernel
theorem dX5_limitOf_26 : decode cX5_limitOf 26 = .ok (.iload_n 3, 1) := by decide +kernel
theorem dX5_limitOf_27 : decode cX5_limitOf 27 = .ok (.iaload, 1) := by decide +kernel
theorem dX5_limitOf_28 : decode cX5_limitOf 28 = .ok (.iconst 2, 1) := by decide +kernel
theorem dX5_limitOf_29 : decode cX5_limitOf 29 = .ok (.if_icmp .eq 28, 3) := by decide +kernel
theorem dX5_limitOf_32 : decode cX5_limitOf 32 = .ok (.aload_n 0, 1) := by decide +kernel
theorem dX5_limitOf_33 : decode cX5_limitOf 33 = .ok (.getfield 35, 3) := by decide +kernel
theorem dX5_limitOf_36 : decode cX5_limitOf 36 = .ok (.iload_n 3, 1) := by decide +kernel
theorem dX5_limitOf_37 : decode cX5_limitOf 37 = .ok (.iaload, 1) := by decide +kernel
theorem dX5_limitOf_38 : decode cX5_limitOf 38 = .ok (.aload_n 0, 1) := by decide +kernel
theorem dX5_limitOf_39 : decode cX5_limitOf 39 = .ok (.getfield 75, 3) := by decide +kernel
theorem dX5_limitOf_42 : decode cX5_limitOf 42 = .ok (.bipush 9, 2) := by decide +kernel
theorem dX5_limitOf_44 : decode cX5_limitOf 44 = .ok (.isub, 1) := by decide +kernel
theorem dX5_limitOf_45 : decode cX5_limitOf 45 = .ok (.if_icmp .lt 12, 3) := by decide +kernel
theorem dX5_limitOf_48 : decode cX5_limitOf 48 = .ok (.aload_n 0, 1) := by decide +kernel
theorem dX5_limitOf_49 : decode cX5_limitOf 49 = .ok (.getfield 32, 3) := by decide +kernel
theorem dX5_limitOf_52 : decode cX5_limitOf 52 = .ok (.iload_n 3, 1) := by decide +kernel
theorem dX5_limitOf_53 : decode cX5_limitOf 53 = .ok (.iaload, 1) := by decide +kernel
theorem dX5_limitOf_54 : decode cX5_limitOf 54 = .ok (.goto 4, 3) := by decide +kernel
theorem dX5_limitOf_57 : decode cX5_limitOf 57 = .ok (.iconst 0, 1) := by decide +kernel
theorem dX5_limitOf_58 : decode cX5_limitOf 58 = .ok (.iadd, 1) := by decide +kernel
theorem dX5_limitOf_59 : decode cX5_limitOf 59 = .ok (.istore_n 2, 1) := by decide +kernel
theorem dX5_limitOf_60 : decode cX5_limitOf 60 = .ok (.iinc 3 1, 3) := by decide +kernel
theorem dX5_limitOf_63 : decode cX5_limitOf 63 = .ok (.goto (-59), 3) := by decide +kernel
theorem dX5_limitOf_66 : decode cX5_limitOf 66 = .ok (.sipush 500, 3) := by decide +kernel
theorem dX5_limitOf_69 : decode cX5_limitOf 69 = .ok (.iload_n 2, 1) := by decide +kernel
theorem dX5_limitOf_70 : decode cX5_limitOf 70 = .ok (.bipush 10, 2) := by decide +kernel
theorem dX5_limitOf_72 : decode cX5_limitOf 72 = .ok (.idiv, 1) := by decide +kernel
theorem dX5_limitOf_73 : decode cX5_limitOf 73 = .ok (.iadd, 1) := by decide +kernel
theorem dX5_limitOf_74 : decode cX5_limitOf 74 = .ok (.istore_n 3, 1) := by decide +kernel
theorem dX5_limitOf_75 : decode cX5_limitOf 75 = .ok (.iconst 0, 1) := by decide +kernel
theorem dX5_limitOf_76 : decode cX5_limitOf 76 = .ok (.istore 4, 2) := by decide +kernel
theorem dX5_limitOf_78 : decode cX5_limitOf 78 = .ok (.iload 4, 2) := by decide +kernel
theorem dX5_limitOf_80 : decode cX5_limitOf 80 = .ok (.bipush 8, 2) := by decide +kernel
theorem dX5_limitOf_82 : decode cX5_limitOf 82 = .ok (.if_icmp .ge 35, 3) := by decide +kernel
theorem dX5_limitOf_85 : decode cX5_limitOf 85 = .ok (.iload_n 3, 1) := by decide +kernel
theorem dX5_limitOf_86 : decode cX5_limitOf 86 = .ok (.aload_n 0, 1) := by decide +kernel
theorem dX5_limitOf_87 : decode cX5_limitOf 87 = .ok (.getfield 20, 3) := by decide +kernel
theorem dX5_limitOf_90 : decode cX5_limitOf 90 = .ok (.iload 4, 2) := by decide +kernel
theorem dX5_limitOf_92 : decode cX5_limitOf 92 = .ok (.iload_n 1, 1) := by decide +kernel
theorem dX5_limitOf_93 : decode cX5_limitOf 93 = .ok (.invokestatic 64, 3) := by decide +kernel
theorem dX5_limitOf_96 : decode cX5_limitOf 96 = .ok (.iaload, 1) := by decide +kernel
theorem dX5_limitOf_97 : decode cX5_limitOf 97 = .ok (.aload_n 0, 1) := by decide +kernel
theorem dX5_limitOf_98 : decode cX5_limitOf 98 = .ok (.getfield 20, 3) := by decide +kernel
theorem dX5_limitOf_101 : decode cX5_limitOf 101 = .ok (.iload_n 1, 1) := by decide +kernel
theorem dX5_limitOf_102 : decode cX5_limitOf 102 = .ok (.iload 4, 2) := by decide +kernel
theorem dX5_limitOf_104 : decode cX5_limitOf 104 = .ok (.invokestatic 64, 3) := by decide +kernel
theorem dX5_limitOf_107 : decode cX5_limitOf 107 = .ok (.iaload, 1) := by decide +kernel
theorem dX5_limitOf_108 : decode cX5_limitOf 108 = .ok (.isub, 1) := by decide +kernel
theorem dX5_limitOf_109 : decode cX5_limitOf 109 = .ok (.iadd, 1) := by decide +kernel
theorem dX5_limitOf_110 : decode cX5_limitOf 110 = .ok (.istore_n 3, 1) := by decide +kernel
theorem dX5_limitOf_111 : decode cX5_limitOf 111 = .ok (.iinc 4 1, 3) := by decide +kernel
theorem dX5_limitOf_114 : decode cX5_limitOf 114 = .ok (.goto (-36), 3) := by decide +kernel
theorem dX5_limitOf_117 : decode cX5_limitOf 117 = .ok (.iload_n 3, 1) := by decide +kernel
theorem dX5_limitOf_118 : decode cX5_limitOf 118 = .ok (.ireturn, 1) := by decide +kernel
theorem dX5_isBelow_0 : decode cX5_isBelow 0 = .ok (.iload_n 0, 1) := by decide +kernel
theorem dX5_isBelow_1 : decode cX5_isBelow 1 = .ok (.iload_n 1, 1) := by decide +kernel
theorem dX5_isBelow_2 : decode cX5_isBelow 2 = .ok (.iadd, 1) := by decide +kernel
theorem dX5_isBelow_3 : decode cX5_isBelow 3 = .ok (.ifCond .ge 7, 3) := by decide +kernel
theorem dX5_isBelow_6 : decode cX5_isBelow 6 = .ok (.iconst 1, 1) := by decide +kernel
theorem dX5_isBelow_7 : decode cX5_isBelow 7 = .ok (.goto 4, 3) := by decide +kernel
theorem dX5_isBelow_10 : decode cX5_isBelow 10 = .ok (.iconst 0, 1) := by decide +kernel
theorem dX5_isBelow_11 : decode cX5_isBelow 11 = .ok (.ireturn, 1) := by decide +kernel
theorem dX5_join_0 : decode cX5_join 0 = .ok (.aload_n 0, 1) := by decide +kernel
theorem dX5_join_1 : decode cX5_join 1 = .ok (.aload_n 0, 1) := by decide +kernel
theorem dX5_join_2 : decode cX5_join 2 = .ok (.getfield 57, 3) := by decide +kernel
theorem dX5_join_5 : decode cX5_join 5 = .ok (.bipush 8, 2) := by decide +kernel
theorem dX5_join_7 : decode cX5_join 7 = .ok (.if_icmp .ne 7, 3) := by decide +kernel
theorem dX5_join_10 : decode cX5_join 10 = .ok (.iconst 1, 1) := by decide +kernel
theorem dX5_join_11 : decode cX5_join 11 = .ok (.goto 4, 3) := by decide +kernel
theorem dX5_join_14 : decode cX5_join 14 = .ok (.iconst 0, 1) := by decide +kernel
theorem dX5_join_15 : decode cX5_join 15 = .ok (.putfield 54, 3) := by decide +kernel
theorem dX5_join_18 : decode cX5_join 18 = .ok (.aload_n 0, 1) := by decide +kernel
theorem dX5_join_19 : decode cX5_join 19 = .ok (.getfield 54, 3) := by decide +kernel
theorem dX5_join_22 : decode cX5_join 22 = .ok (.ifCond .le 5, 3) := by decide +kernel
theorem dX5_join_25 : decode cX5_join 25 = .ok (.iconst 0, 1) := by decide +kernel
theorem dX5_join_26 : decode cX5_join 26 = .ok (.ireturn, 1) := by decide +kernel
theorem dX5_join_27 : decode cX5_join 27 = .ok (.aload_n 0, 1) := by decide +kernel
theorem dX5_join_28 : decode cX5_join 28 = .ok (.getfield 7, 3) := by decide +kernel
theorem dX5_join_31 : decode cX5_join 31 = .ok (.aload_n 0, 1) := by decide +kernel
theorem dX5_join_32 : decode cX5_join 32 = .ok (.getfield 57, 3) := by decide +kernel
theorem dX5_join_35 : decode cX5_join 35 = .ok (.iconst 1, 1) := by decide +kernel
theorem dX5_join_36 : decode cX5_join 36 = .ok (.bastore, 1) := by decide +kernel
theorem dX5_join_37 : decode cX5_join 37 = .ok (.aload_n 0, 1) := by decide +kernel
theorem dX5_join_38 : decode cX5_join 38 = .ok (.dup, 1) := by decide +kernel
theorem dX5_join_39 : decode cX5_join 39 = .ok (.getfield 57, 3) := by decide +kernel
theorem dX5_join_42 : decode cX5_join 42 = .ok (.iconst 1, 1) := by decide +kernel
theorem dX5_join_43 : decode cX5_join 43 = .ok (.iadd, 1) := by decide +kernel
theorem dX5_join_44 : decode cX5_join 44 = .ok (.putfield 57, 3) := by decide +kernel
theorem dX5_join_47 : decode cX5_join 47 = .ok (.aload_n 0, 1) := by decide +kernel
theorem dX5_join_48 : decode cX5_join 48 = .ok (.getfield 57, 3) := by decide +kernel
theorem dX5_join_51 : decode cX5_join 51 = .ok (.iconst 1, 1) := by decide +kernel
theorem dX5_join_52 : decode cX5_join 52 = .ok (.isub, 1) := by decide +kernel
theorem dX5_join_53 : decode cX5_join 53 = .ok (.ireturn, 1) := by decide +kernel
set_option maxRecDepth 20000 in
theorem ggX5_lowestTo_X5_at : GoodIn wsX5_lowestTo wsX5_at := goodIn_r _ [5] (by decide +kernel) (by decide +kernel)
set_option maxRecDepth 20000 in
theorem gX5_lowestTo_X5_at : GoodIn wsX5_lowestTo (va_wsS RX5 64 yX5_at wsX5_at) := goodIn_app (goodIn_of _ (by decide +kernel)) ggX5_lowestTo_X5_at
theorem dX5_lowestTo_0 : decode cX5_lowestTo 0 = .ok (.iconst (-1), 1) := by decide +kernel
theorem dX5_lowestTo_1 : decode cX5_lowestTo 1 = .ok (.istore_n 2, 1) := by decide +kernel
theorem dX5_lowestTo_2 : decode cX5_lowestTo 2 = .ok (.bipush 7, 2) := by decide +kernel
theorem dX5_lowestTo_4 : decode cX5_lowestTo 4 = .ok (.istore_n 3, 1) := by decide +kernel
theorem dX5_lowestTo_5 : decode cX5_lowestTo 5 = .ok (.iload_n 3, 1) := by decide +kernel
theorem dX5_lowestTo_6 : decode cX5_lowestTo 6 = .ok (.ifCond .lt 28, 3) := by decide +kernel
theorem dX5_lowestTo_9 : decode cX5_lowestTo 9 = .ok (.aload_n 0, 1) := by decide +kernel
theorem dX5_lowestTo_10 : decode cX5_lowestTo 10 = .ok (.getfield 13, 3) := by decide +kernel
theorem dX5_lowestTo_13 : decode cX5_lowestTo 13 = .ok (.iload_n 3, 1) := by decide +kernel
theorem dX5_lowestTo_14 : decode cX5_lowestTo 14 = .ok (.iload_n 1, 1) := by decide +kernel
theorem dX5_lowestTo_15 : decode cX5_lowestTo 15 = .ok (.invokestatic 64, 3) := by decide +kernel
theorem dX5_lowestTo_18 : decode cX5_lowestTo 18 = .ok (.iaload, 1) := by decide +kernel
theorem dX5_lowestTo_19 : decode cX5_lowestTo 19 = .ok (.ifCond .le 7, 3) := by decide +kernel
theorem dX5_lowestTo_22 : decode cX5_lowestTo 22 = .ok (.iload_n 3, 1) := by decide +kernel
theorem dX5_lowestTo_23 : decode cX5_lowestTo 23 = .ok (.goto 4, 3) := by decide +kernel
theorem dX5_lowestTo_26 : decode cX5_lowestTo 26 = .ok (.iload_n 2, 1) := by decide +kernel
theorem dX5_lowestTo_27 : decode cX5_lowestTo 27 = .ok (.istore_n 2, 1) := by decide +kernel
theorem dX5_lowestTo_28 : decode cX5_lowestTo 28 = .ok (.iinc 3 (-1), 3) := by decide +kernel
theorem dX5_lowestTo_31 : decode cX5_lowestTo 31 = .ok (.goto (-26), 3) := by decide +kernel
theorem dX5_lowestTo_34 : decode cX5_lowestTo 34 = .ok (.iload_n 2, 1) := by decide +kernel
theorem dX5_lowestTo_35 : decode cX5_lowestTo 35 = .ok (.ireturn, 1) := by decide +kernel
set_option maxRecDepth 20000 in
theorem ggX5_lowestOf_X5_at : GoodIn wsX5_lowestOf wsX5_at := goodIn_r _ [5] (by decide +kernel) (by decide +kernel)
set_option maxRecDepth 20000 in
theorem gX5_lowestOf_X5_at : GoodIn wsX5_lowestOf (va_wsS RX5 64 yX5_at wsX5_at) := goodIn_app (goodIn_of _ (by decide +kernel)) ggX5_lowestOf_X5_at
theorem dX5_lowestOf_0 : decode cX5_lowestOf 0 = .ok (.iconst (-1), 1) := by decide +kernel
theorem dX5_lowestOf_1 : decode cX5_lowestOf 1 = .ok (.istore_n 2, 1) := by decide +kernel
theorem dX5_lowestOf_2 : decode cX5_lowestOf 2 = .ok (.bipush 8, 2) := by decide +kernel
theorem dX5_lowestOf_4 : decode cX5_lowestOf 4 = .ok (.istore_n 3, 1) := by decide +kernel
theorem dX5_lowestOf_5 : decode cX5_lowestOf 5 = .ok (.iload_n 3, 1) := by decide +kernel
theorem dX5_lowestOf_6 : decode cX5_lowestOf 6 = .ok (.ifCond .lt 28, 3) := by decide +kernel
theorem dX5_lowestOf_9 : decode cX5_lowestOf 9 = .ok (.aload_n 0, 1) := by decide +kernel
theorem dX5_lowestOf_10 : decode cX5_lowestOf 10 = .ok (.getfield 13, 3) := by decide +kernel
theorem dX5_lowestOf_13 : decode cX5_lowestOf 13 = .ok (.iload_n 1, 1) := by decide +kernel
theorem dX5_lowestOf_14 : decode cX5_lowestOf 14 = .ok (.iload_n 3, 1) := by decide +kernel
theorem dX5_lowestOf_15 : decode cX5_lowestOf 15 = .ok (.invokestatic 64, 3) := by decide +kernel
theorem dX5_lowestOf_18 : decode cX5_lowestOf 18 = .ok (.iaload, 1) := by decide +kernel
theorem dX5_lowestOf_19 : decode cX5_lowestOf 19 = .ok (.ifCond .le 7, 3) := by decide +kernel
theorem dX5_lowestOf_22 : decode cX5_lowestOf 22 = .ok (.iload_n 3, 1) := by decide +kernel
theorem dX5_lowestOf_23 : decode cX5_lowestOf 23 = .ok (.goto 4, 3) := by decide +kernel
theorem dX5_lowestOf_26 : decode cX5_lowestOf 26 = .ok (.iload_n 2, 1) := by decide +kernel
theorem dX5_lowestOf_27 : decode cX5_lowestOf 27 = .ok (.istore_n 2, 1) := by decide +kernel
theorem dX5_lowestOf_28 : decode cX5_lowestOf 28 = .ok (.iinc 3 (-1), 3) := by decide +kernel
theorem dX5_lowestOf_31 : decode cX5_lowestOf 31 = .ok (.goto (-26), 3) := by decide +kernel
theorem dX5_lowestOf_34 : decode cX5_lowestOf 34 = .ok (.iload_n 2, 1) := by decide +kernel
theorem dX5_lowestOf_35 : decode cX5_lowestOf 35 = .ok (.ireturn, 1) := by decide +kernel
set_option maxRecDepth 20000 in
theorem ggX5_takesOver_X5_at : GoodIn wsX5_takesOver wsX5_at := goodIn_r _ [5] (by decide +kernel) (by decide +kernel)
set_option maxRecDepth 20000 in
theorem gX5_takesOver_X5_at : GoodIn wsX5_takesOver (va_wsS RX5 64 yX5_at wsX5_at) := goodIn_app (goodIn_of _ (by decide +kernel)) ggX5_takesOver_X5_at
theorem dX5_takesOver_0 : decode cX5_takesOver 0 = .ok (.aload_n 0, 1) := by decide +kernel
theorem dX5_takesOver_1 : decode cX5_takesOver 1 = .ok (.getfield 13, 3) := by decide +kernel
theorem dX5_takesOver_4 : decode cX5_takesOver 4 = .ok (.iload_n 2, 1) := by decide +kernel
theorem dX5_takesOver_5 : decode cX5_takesOver 5 = .ok (.iload_n 3, 1) := by decide +kernel
theorem dX5_takesOver_6 : decode cX5_takesOver 6 = .ok (.invokestatic 64, 3) := by decide +kernel
theorem dX5_takesOver_9 : decode cX5_takesOver 9 = .ok (.dup2, 1) := by decide +kernel
theorem dX5_takesOver_10 : decode cX5_takesOver 10 = .ok (.iaload, 1) := by decide +kernel
theorem dX5_takesOver_11 : decode cX5_takesOver 11 = .ok (.iload 4, 2) := by decide +kernel
theorem dX5_takesOver_13 : decode cX5_takesOver 13 = .ok (.isub, 1) := by decide +kernel
theorem dX5_takesOver_14 : decode cX5_takesOver 14 = .ok (.iastore, 1) := by decide +kernel
theorem dX5_takesOver_15 : decode cX5_takesOver 15 = .ok (.aload_n 0, 1) := by decide +kernel
theorem dX5_takesOver_16 : decode cX5_takesOver 16 = .ok (.getfield 13, 3) := by decide +kernel
theorem dX5_takesOver_19 : decode cX5_takesOver 19 = .ok (.iload_n 1, 1) := by decide +kernel
theorem dX5_takesOver_20 : decode cX5_takesOver 20 = .ok (.iload_n 3, 1) := by decide +kernel
theorem dX5_takesOver_21 : decode cX5_takesOver 21 = .ok (.invokestatic 64, 3) := by decide +kernel
theorem dX5_takesOver_24 : decode cX5_takesOver 24 = .ok (.dup2, 1) := by decide +kernel
theorem dX5_takesOver_25 : decode cX5_takesOver 25 = .ok (.iaload, 1) := by decide +kernel
theorem dX5_takesOver_26 : decode cX5_takesOver 26 = .ok (.iload_n 1, 1) := by decide +kernel
theorem dX5_takesOver_27 : decode cX5_takesOver 27 = .ok (.iload_n 3, 1) := by decide +kernel
theorem dX5_takesOver_28 : decode cX5_takesOver 28 = .ok (.if_icmp .ne 7, 3) := by decide +kernel
theorem dX5_takesOver_31 : decode cX5_takesOver 31 = .ok (.iconst 0, 1) := by decide +kernel
theorem dX5_takesOver_32 : decode cX5_takesOver 32 = .ok (.goto 5, 3) := by decide +kernel
theorem dX5_takesOver_35 : decode cX5_takesOver 35 = .ok (.iload 4, 2) := by decide +kernel
theorem dX5_takesOver_37 : decode cX5_takesOver 37 = .ok (.iadd, 1) := by decide +kernel
theorem dX5_takesOver_38 : decode cX5_takesOver 38 = .ok (.iastore, 1) := by decide +kernel
theorem dX5_takesOver_39 : decode cX5_takesOver 39 = .ok (.return_, 1) := by decide +kernel
set_option maxRecDepth 20000 in
theorem ggX5_passesOn_X5_lowestTo : GoodIn wsX5_passesOn wsX5_lowestTo := goodIn_r _ [6, 1, 7, 8, 5, 9, 21, 22, 23, 24, 25, 26, 27, 28, 29, 30, 31, 32, 33, 34, 35, 36, 37, 38, 39] (by decide +kernel) (by decide +kernel)
set_option maxRecDepth 20000 in
theorem gX5_passesOn_X5_lowestTo : GoodIn wsX5_passesOn (wsV RX5 78 RX5 yX5_lowestTo wsX5_lowestTo) := goodIn_app (goodIn_of _ (by decide +kernel)) ggX5_passesOn_X5_lowestTo
set_option maxRecDepth 20000 in
theorem ggX5_passesOn_X5_lowestOf : GoodIn wsX5_passesOn wsX5_lowestOf := goodIn_r _ [13, 1, 7, 8, 5, 9, 21, 22, 23, 24, 25, 26, 27, 28, 29, 30, 31, 32, 33, 34, 35, 36, 37, 38, 39] (by decide +kernel) (by decide +kernel)
set_option maxRecDepth 20000 in
theorem gX5_passesOn_X5_lowestOf : GoodIn wsX5_passesOn (wsV RX5 82 RX5 yX5_lowestOf wsX5_lowestOf) := goodIn_app (goodIn_of _ (by decide +kernel)) ggX5_passesOn_X5_lowestOf
set_option maxRecDepth 20000 in
theorem ggX5_passesOn_X5_at : GoodIn wsX5_passesOn wsX5_at := goodIn_r _ [9] (by decide +kernel) (by decide +kernel)
set_option maxRecDepth 20000 in
theorem gX5_passesOn_X5_at : GoodIn wsX5_passesOn (va_wsS RX5 64 yX5_at wsX5_at) := goodIn_app (goodIn_of _ (by decide +kernel)) ggX5_passesOn_X5_at
set_option maxRecDepth 20000 in
theorem ggX5_passesOn_X5_least : GoodIn wsX5_passesOn wsX5_least := goodIn_r _ [16] (by decide +kernel) (by decide +kernel)
set_option maxRecDepth 20000 in
theorem gX5_passesOn_X5_least : GoodIn wsX5_passesOn (va_wsS RX5 85 yX5_least wsX5_least) := goodIn_app (goodIn_of _ (by decide +kernel)) ggX5_passesOn_X5_least
set_option maxRecDepth 20000 in
theorem ggX5_passesOn_X5_takesOver : GoodIn wsX5_passesOn wsX5_takesOver := goodIn_r _ [20, 1, 7, 8, 5, 9, 21, 22, 23, 24, 25, 26, 27, 28, 29, 30, 31, 32, 33, 34, 35, 36, 37, 38, 39] (by decide +kernel) (by decide +kernel)
set_option maxRecDepth 20000 in
theorem gX5_passesOn_X5_takesOver : GoodIn wsX5_passesOn (wsV RX5 88 RX5 yX5_takesOver wsX5_takesOver) := goodIn_app (goodIn_of _ (by decide +kernel)) ggX5_passesOn_X5_takesOver
theorem dX5_passesOn_0 : decode cX5_passesOn 0 = .ok (.aload_n 0, 1) := by decide +kernel
theorem dX5_passesOn_1 : decode cX5_passesOn 1 = .ok (.iload_n 1, 1) := by decide +kernel
theorem dX5_passesOn_2 : decode cX5_passesOn 2 = .ok (.invokevirtual 78, 3) := by decide +kernel
theorem dX5_passesOn_5 : decode cX5_passesOn 5 = .ok (.iconst (-1), 1) := by decide +kernel
theorem dX5_passesOn_6 : decode cX5_passesOn 6 = .ok (.if_icmp .eq 76, 3) := by decide +kernel
theorem dX5_passesOn_9 : decode cX5_passesOn 9 = .ok (.aload_n 0, 1) := by decide +kernel
theorem dX5_passesOn_10 : decode cX5_passesOn 10 = .ok (.iload_n 1, 1) := by decide +kernel
theorem dX5_passesOn_11 : decode cX5_passesOn 11 = .ok (.invokevirtual 82, 3) := by decide +kernel
theorem dX5_passesOn_14 : decode cX5_passesOn 14 = .ok (.iconst (-1), 1) := by decide +kernel
theorem dX5_passesOn_15 : decode cX5_passesOn 15 = .ok (.if_icmp .eq 67, 3) := by decide +kernel
theorem dX5_passesOn_18 : decode cX5_passesOn 18 = .ok (.aload_n 0, 1) := by decide +kernel
theorem dX5_passesOn_19 : decode cX5_passesOn 19 = .ok (.iload_n 1, 1) := by decide +kernel
theorem dX5_passesOn_20 : decode cX5_passesOn 20 = .ok (.invokevirtual 78, 3) := by decide +kernel
theorem dX5_passesOn_23 : decode cX5_passesOn 23 = .ok (.istore_n 2, 1) := by decide +kernel
theorem dX5_passesOn_24 : decode cX5_passesOn 24 = .ok (.aload_n 0, 1) := by decide +kernel
theorem dX5_passesOn_25 : decode cX5_passesOn 25 = .ok (.iload_n 1, 1) := by decide +kernel
theorem dX5_passesOn_26 : decode cX5_passesOn 26 = .ok (.invokevirtual 82, 3) := by decide +kernel
theorem dX5_passesOn_29 : decode cX5_passesOn 29 = .ok (.istore_n 3, 1) := by decide +kernel
theorem dX5_passesOn_30 : decode cX5_passesOn 30 = .ok (.aload_n 0, 1) := by decide +kernel
theorem dX5_passesOn_31 : decode cX5_passesOn 31 = .ok (.getfield 13, 3) := by decide +kernel
theorem dX5_passesOn_34 : decode cX5_passesOn 34 = .ok (.iload_n 2, 1) := by decide +kernel
theorem dX5_passesOn_35 : decode cX5_passesOn 35 = .ok (.iload_n 1, 1) := by decide +kernel
theorem dX5_passesOn_36 : decode cX5_passesOn 36 = .ok (.invokestatic 64, 3) := by decide +kernel
theorem dX5_passesOn_39 : decode cX5_passesOn 39 = .ok (.iaload, 1) := by decide +kernel
theorem dX5_passesOn_40 : decode cX5_passesOn 40 = .ok (.aload_n 0, 1) := by decide +kernel
theorem dX5_passesOn_41 : decode cX5_passesOn 41 = .ok (.getfield 13, 3) := by decide +kernel
theorem dX5_passesOn_44 : decode cX5_passesOn 44 = .ok (.iload_n 1, 1) := by decide +kernel
theorem dX5_passesOn_45 : decode cX5_passesOn 45 = .ok (.iload_n 3, 1) := by decide +kernel
theorem dX5_passesOn_46 : decode cX5_passesOn 46 = .ok (.invokestatic 64, 3) := by decide +kernel
theorem dX5_passesOn_49 : decode cX5_passesOn 49 = .ok (.iaload, 1) := by decide +kernel
theorem dX5_passesOn_50 : decode cX5_passesOn 50 = .ok (.invokestatic 85, 3) := by decide +kernel
theorem dX5_passesOn_53 : decode cX5_passesOn 53 = .ok (.istore 4, 2) := by decide +kernel
theorem dX5_passesOn_55 : decode cX5_passesOn 55 = .ok (.aload_n 0, 1) := by decide +kernel
theorem dX5_passesOn_56 : decode cX5_passesOn 56 = .ok (.getfield 13, 3) := by decide +kernel
theorem dX5_passesOn_59 : decode cX5_passesOn 59 = .ok (.iload_n 2, 1) := by decide +kernel
theorem dX5_passesOn_60 : decode cX5_passesOn 60 = .ok (.iload_n 1, 1) := by decide +kernel
theorem dX5_passesOn_61 : decode cX5_passesOn 61 = .ok (.invokestatic 64, 3) := by decide +kernel
theorem dX5_passesOn_64 : decode cX5_passesOn 64 = .ok (.dup2, 1) := by decide +kernel
theorem dX5_passesOn_65 : decode cX5_passesOn 65 = .ok (.iaload, 1) := by decide +kernel
theorem dX5_passesOn_66 : decode cX5_passesOn 66 = .ok (.iload 4, 2) := by decide +kernel
theorem dX5_passesOn_68 : decode cX5_passesOn 68 = .ok (.isub, 1) := by decide +kernel
theorem dX5_passesOn_69 : decode cX5_passesOn 69 = .ok (.iastore, 1) := by decide +kernel
theorem dX5_passesOn_70 : decode cX5_passesOn 70 = .ok (.aload_n 0, 1) := by decide +kernel
theorem dX5_passesOn_71 : decode cX5_passesOn 71 = .ok (.iload_n 2, 1) := by decide +kernel
theorem dX5_passesOn_72 : decode cX5_passesOn 72 = .ok (.iload_n 1, 1) := by decide +kernel
theorem dX5_passesOn_73 : decode cX5_passesOn 73 = .ok (.iload_n 3, 1) := by decide +kernel
theorem dX5_passesOn_74 : decode cX5_passesOn 74 = .ok (.iload 4, 2) := by decide +kernel
theorem dX5_passesOn_76 : decode cX5_passesOn 76 = .ok (.invokevirtual 88, 3) := by decide +kernel
theorem dX5_passesOn_79 : decode cX5_passesOn 79 = .ok (.goto (-79), 3) := by decide +kernel
theorem dX5_passesOn_82 : decode cX5_passesOn 82 = .ok (.return_, 1) := by decide +kernel
set_option maxRecDepth 20000 in
theorem ggX5_lets_X5_at : GoodIn wsX5_lets wsX5_at := goodIn_r _ [6] (by decide +kernel) (by decide +kernel)
set_option maxRecDepth 20000 in
theorem gX5_lets_X5_at : GoodIn wsX5_lets (va_wsS RX5 64 yX5_at wsX5_at) := goodIn_app (goodIn_of _ (by decide +kernel)) ggX5_lets_X5_at
set_option maxRecDepth 20000 in
theorem ggX5_lets_X5_least : GoodIn wsX5_lets wsX5_least := goodIn_r _ [9] (by decide +kernel) (by decide +kernel)
set_option maxRecDepth 20000 in
theorem gX5_lets_X5_least : GoodIn wsX5_lets (va_wsS RX5 85 yX5_least wsX5_least) := goodIn_app (goodIn_of _ (by decide +kernel)) ggX5_lets_X5_least
set_option maxRecDepth 20000 in
theorem ggX5_lets_X5_takesOver : GoodIn wsX5_lets wsX5_takesOver := goodIn_r _ [13, 1, 3, 4, 5, 6, 14, 15, 16, 17, 18, 19, 20, 21, 22, 23, 24, 25, 26, 27, 28, 29, 30, 31, 32] (by decide +kernel) (by decide +kernel)
set_option maxRecDepth 20000 in
theorem gX5_lets_X5_takesOver : GoodIn wsX5_lets (wsV RX5 88 RX5 yX5_takesOver wsX5_takesOver) := goodIn_app (goodIn_of _ (by decide +kernel)) ggX5_lets_X5_takesOver
theorem dX5_lets_0 : decode cX5_lets 0 = .ok (.iconst 0, 1) := by decide +kernel
theorem dX5_lets_1 : decode cX5_lets 1 = .ok (.istore_n 2, 1) := by decide +kernel
theorem dX5_lets_2 : decode cX5_lets 2 = .ok (.iload_n 2, 1) := by decide +kernel
theorem dX5_lets_3 : decode cX5_lets 3 = .ok (.bipush 8, 2) := by decide +kernel
theorem dX5_lets_5 : decode cX5_lets 5 = .ok (.if_icmp .gt 72, 3) := by decide +kernel
theorem dX5_lets_8 : decode cX5_lets 8 = .ok (.iconst 0, 1) := by decide +kernel
theorem dX5_lets_9 : decode cX5_lets 9 = .ok (.istore_n 3, 1) := by decide +kernel
theorem dX5_lets_10 : decode cX5_lets 10 = .ok (.iload_n 3, 1) := by decide +kernel
theorem dX5_lets_11 : decode cX5_lets 11 = .ok (.bipush 8, 2) := by decide +kernel
theorem dX5_lets_13 : decode cX5_lets 13 = .ok (.if_icmp .ge 58, 3) := by decide +kernel
theorem dX5_lets_16 : decode cX5_lets 16 = .ok (.aload_n 0, 1) := by decide +kernel
theorem dX5_lets_17 : decode cX5_lets 17 = .ok (.getfield 13, 3) := by decide +kernel
theorem dX5_lets_20 : decode cX5_lets 20 = .ok (.iload_n 1, 1) := by decide +kernel
theorem dX5_lets_21 : decode cX5_lets 21 = .ok (.iload_n 2, 1) := by decide +kernel
theorem dX5_lets_22 : decode cX5_lets 22 = .ok (.invokestatic 64, 3) := by decide +kernel
theorem dX5_lets_25 : decode cX5_lets 25 = .ok (.iaload, 1) := by decide +kernel
theorem dX5_lets_26 : decode cX5_lets 26 = .ok (.aload_n 0, 1) := by decide +kernel
theorem dX5_lets_27 : decode cX5_lets 27 = .ok (.getfield 20, 3) := by decide +kernel
theorem dX5_lets_30 : decode cX5_lets 30 = .ok (.iload_n 3, 1) := by decide +kernel
theorem dX5_lets_31 : decode cX5_lets 31 = .ok (.iload_n 1, 1) := by decide +kernel
theorem dX5_lets_32 : decode cX5_lets 32 = .ok (.invokestatic 64, 3) := by decide +kernel
theorem dX5_lets_35 : decode cX5_lets 35 = .ok (.iaload, 1) := by decide +kernel
theorem dX5_lets_36 : decode cX5_lets 36 = .ok (.invokestatic 85, 3) := by decide +kernel
theorem dX5_lets_39 : decode cX5_lets 39 = .ok (.istore 4, 2) := by decide +kernel
theorem dX5_lets_41 : decode cX5_lets 41 = .ok (.aload_n 0, 1) := by decide +kernel
theorem dX5_lets_42 : decode cX5_lets 42 = .ok (.iload_n 3, 1) := by decide +kernel
theorem dX5_lets_43 : decode cX5_lets 43 = .ok (.iload_n 1, 1) := by decide +kernel
theorem dX5_lets_44 : decode cX5_lets 44 = .ok (.iload_n 2, 1) := by decide +kernel
theorem dX5_lets_45 : decode cX5_lets 45 = .ok (.iload 4, 2) := by decide +kernel
theorem dX5_lets_47 : decode cX5_lets 47 = .ok (.invokevirtual 88, 3) := by decide +kernel
theorem dX5_lets_50 : decode cX5_lets 50 = .ok (.aload_n 0, 1) := by decide +kernel
theorem dX5_lets_51 : decode cX5_lets 51 = .ok (.getfield 20, 3) := by decide +kernel
theorem dX5_lets_54 : decode cX5_lets 54 = .ok (.iload_n 3, 1) := by decide +kernel
theorem dX5_lets_55 : decode cX5_lets 55 = .ok (.iload_n 1, 1) := by decide +kernel
theorem dX5_lets_56 : decode cX5_lets 56 = .ok (.invokestatic 64, 3) := by decide +kernel
theorem dX5_lets_59 : decode cX5_lets 59 = .ok (.dup2, 1) := by decide +kernel
theorem dX5_lets_60 : decode cX5_lets 60 = .ok (.iaload, 1) := by decide +kernel
theorem dX5_lets_61 : decode cX5_lets 61 = .ok (.iload 4, 2) := by decide +kernel
theorem dX5_lets_63 : decode cX5_lets 63 = .ok (.isub, 1) := by decide +kernel
theorem dX5_lets_64 : decode cX5_lets 64 = .ok (.iastore, 1) := by decide +kernel
theorem dX5_lets_65 : decode cX5_lets 65 = .ok (.iinc 3 1, 3) := by decide +kernel
theorem dX5_lets_68 : decode cX5_lets 68 = .ok (.goto (-58), 3) := by decide +kernel
theorem dX5_lets_71 : decode cX5_lets 71 = .ok (.iinc 2 1, 3) := by decide +kernel
theorem dX5_lets_74 : decode cX5_lets 74 = .ok (.goto (-72), 3) := by decide +kernel
theorem dX5_lets_77 : decode cX5_lets 77 = .ok (.return_, 1) := by decide +kernel
set_option maxRecDepth 20000 in
theorem ggX5_leave_X5_isOf : GoodIn wsX5_leave wsX5_isOf := goodIn_r _ [12, 13, 14, 49, 50, 51, 52, 53, 54, 55, 56, 57, 58, 59, 60, 61, 62, 63, 64, 65, 66, 67] (by decide +kernel) (by decide +kernel)
set_option maxRecDepth 20000 in
theorem gX5_leave_X5_isOf : GoodIn wsX5_leave (wsV RX5 71 RX5 yX5_isOf wsX5_isOf) := goodIn_app (goodIn_of _ (by decide +kernel)) ggX5_leave_X5_isOf
set_option maxRecDepth 20000 in
theorem ggX5_leave_X5_isShop : GoodIn wsX5_leave wsX5_isShop := goodIn_r _ [18, 19, 7, 20, 21, 11, 22, 49, 50, 51, 52, 53, 54, 55, 56, 57, 58, 59, 60, 61, 62, 63, 64, 65, 66, 67] (by decide +kernel) (by decide +kernel)
set_option maxRecDepth 20000 in
theorem gX5_leave_X5_isShop : GoodIn wsX5_leave (wsV RX5 92 RX5 yX5_isShop wsX5_isShop) := goodIn_app (goodIn_of _ (by decide +kernel)) ggX5_leave_X5_isShop
set_option maxRecDepth 20000 in
theorem ggX5_leave_X5_passesOn : GoodIn wsX5_leave wsX5_passesOn := goodIn_r _ [26, 5, 27, 28, 29, 11, 30, 31, 32, 33, 34, 35, 36, 37, 38, 39, 40, 41, 42, 43, 44, 49, 50, 51, 52, 53, 54, 55, 56, 57, 58, 59, 60, 61, 62, 63, 64, 65, 66, 67] (by decide +kernel) (by decide +kernel)
set_option maxRecDepth 20000 in
theorem gX5_leave_X5_passesOn : GoodIn wsX5_leave (wsV RX5 96 RX5 yX5_passesOn wsX5_passesOn) := goodIn_app (goodIn_of _ (by decide +kernel)) ggX5_leave_X5_passesOn
set_option maxRecDepth 20000 in
theorem ggX5_leave_X5_lets : GoodIn wsX5_leave wsX5_lets := goodIn_r _ [48, 5, 6, 31, 32, 11, 33, 38, 39, 40, 41, 42, 43, 44, 49, 50, 51, 52, 53, 54, 55, 56, 57, 58, 59, 60, 61, 62, 63, 64, 65, 66, 67] (by decide +kernel) (by decide +kernel)
set_option maxRecDepth 20000 in
theorem gX5_leave_X5_lets : GoodIn wsX5_leave (wsV RX5 100 RX5 yX5_lets wsX5_lets) := goodIn_app (goodIn_of _ (by decide +kernel)) ggX5_leave_X5_lets
set_option maxRecDepth 20000 in
theorem ggX5_leave_X5_at : GoodIn wsX5_leave wsX5_at := goodIn_r _ [33] (by decide +kernel) (by decide +kernel)
set_option maxRecDepth 20000 in
theorem gX5_leave_X5_at : GoodIn wsX5_leave (va_wsS RX5 64 yX5_at wsX5_at) := goodIn_app (goodIn_of _ (by decide +kernel)) ggX5_leave_X5_at
theorem dX5_leave_0 : decode cX5_leave 0 = .ok (.iconst 0, 1) := by decide +kernel
theorem dX5_leave_1 : decode cX5_leave 1 = .ok (.istore_n 2, 1) := by decide +kernel
theorem dX5_leave_2 : decode cX5_leave 2 = .ok (.iconst 0, 1) := by decide +kernel
theorem dX5_leave_3 : decode cX5_leave 3 = .ok (.istore_n 3, 1) := by decide +kernel
theorem dX5_leave_4 : decode cX5_leave 4 = .ok (.iload_n 3, 1) := by decide +kernel
theorem dX5_leave_5 : decode cX5_leave 5 = .ok (.aload_n 0, 1) := by decide +kernel
theorem dX5_leave_6 : decode cX5_leave 6 = .ok (.getfield 68, 3) := by decide +kernel
theorem dX5_leave_9 : decode cX5_leave 9 = .ok (.if_icmp .ge 38, 3) := by decide +kernel
theorem dX5_leave_12 : decode cX5_leave 12 = .ok (.iload_n 2, 1) := by decide +kernel
theorem dX5_leave_13 : decode cX5_leave 13 = .ok (.ifCond .ne 22, 3) := by decide +kernel
theorem dX5_leave_16 : decode cX5_leave 16 = .ok (.aload_n 0, 1) := by decide +kernel
theorem dX5_leave_17 : decode cX5_leave 17 = .ok (.iload_n 3, 1) := by decide +kernel
theorem dX5_leave_18 : decode cX5_leave 18 = .ok (.iload_n 1, 1) := by decide +kernel
theorem dX5_leave_19 : decode cX5_leave 19 = .ok (.invokevirtual 71, 3) := by decide +kernel
theorem dX5_leave_22 : decode cX5_leave 22 = .ok (.ifCond .eq 17, 3) := by decide +kernel
theorem dX5_leave_25 : decode cX5_leave 25 = .ok (.aload_n 0, 1) := by decide +kernel
theorem dX5_leave_26 : decode cX5_leave 26 = .ok (.getfield 38, 3) := by decide +kernel
theorem dX5_leave_29 : decode cX5_leave 29 = .ok (.iload_n 3, 1) := by decide +kernel
theorem dX5_leave_30 : decode cX5_leave 30 = .ok (.iaload, 1) := by decide +kernel
theorem dX5_leave_31 : decode cX5_leave 31 = .ok (.iconst 1, 1) := by decide +kernel
theorem dX5_leave_32 : decode cX5_leave 32 = .ok (.if_icmp .ne 7, 3) := by decide +kernel
theorem dX5_leave_35 : decode cX5_leave 35 = .ok (.iconst 1, 1) := by decide +kernel
theorem dX5_leave_36 : decode cX5_leave 36 = .ok (.goto 4, 3) := by decide +kernel
theorem dX5_leave_39 : decode cX5_leave 39 = .ok (.iconst 0, 1) := by decide +kernel
theorem dX5_leave_40 : decode cX5_leave 40 = .ok (.istore_n 2, 1) := by decide +kernel
theorem dX5_leave_41 : decode cX5_leave 41 = .ok (.iinc 3 1, 3) := by decide +kernel
theorem dX5_leave_44 : decode cX5_leave 44 = .ok (.goto (-40), 3) := by decide +kernel
theorem dX5_leave_47 : decode cX5_leave 47 = .ok (.aload_n 0, 1) := by decide +kernel
theorem dX5_leave_48 : decode cX5_leave 48 = .ok (.aload_n 0, 1) := by decide +kernel
theorem dX5_leave_49 : decode cX5_leave 49 = .ok (.iload_n 1, 1) := by decide +kernel
theorem dX5_leave_50 : decode cX5_leave 50 = .ok (.invokevirtual 92, 3) := by decide +kernel
theorem dX5_leave_53 : decode cX5_leave 53 = .ok (.ifCond .ne 7, 3) := by decide +kernel
theorem dX5_leave_56 : decode cX5_leave 56 = .ok (.iconst 1, 1) := by decide +kernel
theorem dX5_leave_57 : decode cX5_leave 57 = .ok (.goto 12, 3) := by decide +kernel
theorem dX5_leave_60 : decode cX5_leave 60 = .ok (.iload_n 2, 1) := by decide +kernel
theorem dX5_leave_61 : decode cX5_leave 61 = .ok (.ifCond .eq 7, 3) := by decide +kernel
theorem dX5_leave_64 : decode cX5_leave 64 = .ok (.iconst 2, 1) := by decide +kernel
theorem dX5_leave_65 : decode cX5_leave 65 = .ok (.goto 4, 3) := by decide +kernel
theorem dX5_leave_68 : decode cX5_leave 68 = .ok (.iconst 0, 1) := by decide +kernel
theorem dX5_leave_69 : decode cX5_leave 69 = .ok (.putfield 54, 3) := by decide +kernel
theorem dX5_leave_72 : decode cX5_leave 72 = .ok (.aload_n 0, 1) := by decide +kernel
theorem dX5_leave_73 : decode cX5_leave 73 = .ok (.getfield 54, 3) := by decide +kernel
theorem dX5_leave_76 : decode cX5_leave 76 = .ok (.ifCond .le 5, 3) := by decide +kernel
theorem dX5_leave_79 : decode cX5_leave 79 = .ok (.iconst 0, 1) := by decide +kernel
theorem dX5_leave_80 : decode cX5_leave 80 = .ok (.ireturn, 1) := by decide +kernel
theorem dX5_leave_81 : decode cX5_leave 81 = .ok (.aload_n 0, 1) := by decide +kernel
theorem dX5_leave_82 : decode cX5_leave 82 = .ok (.iload_n 1, 1) := by decide +kernel
theorem dX5_leave_83 : decode cX5_leave 83 = .ok (.invokevirtual 96, 3) := by decide +kernel
theorem dX5_leave_86 : decode cX5_leave 86 = .ok (.aload_n 0, 1) := by decide +kernel
theorem dX5_leave_87 : decode cX5_leave 87 = .ok (.iload_n 1, 1) := by decide +kernel
theorem dX5_leave_88 : decode cX5_leave 88 = .ok (.invokevirtual 100, 3) := by decide +kernel
theorem dX5_leave_91 : decode cX5_leave 91 = .ok (.iconst 0, 1) := by decide +kernel
theorem dX5_leave_92 : decode cX5_leave 92 = .ok (.istore_n 3, 1) := by decide +kernel
theorem dX5_leave_93 : decode cX5_leave 93 = .ok (.iconst 0, 1) := by decide +kernel
theorem dX5_leave_94 : decode cX5_leave 94 = .ok (.istore 4, 2) := by decide +kernel
theorem dX5_leave_96 : decode cX5_leave 96 = .ok (.iload 4, 2) := by decide +kernel
theorem dX5_leave_98 : decode cX5_leave 98 = .ok (.bipush 9, 2) := by decide +kernel
theorem dX5_leave_100 : decode cX5_leave 100 = .ok (.if_icmp .ge 115, 3) := by decide +kernel
theorem dX5_leave_103 : decode cX5_leave 103 = .ok (.aload_n 0, 1) := by decide +kernel
theorem dX5_leave_104 : decode cX5_leave 104 = .ok (.getfield 23, 3) := by decide +kernel
theorem dX5_leave_107 : decode cX5_leave 107 = .ok (.iload_n 1, 1) := by decide +kernel
theorem dX5_leave_108 : decode cX5_leave 108 = .ok (.dup2, 1) := by decide +kernel
theorem dX5_leave_109 : decode cX5_leave 109 = .ok (.iaload, 1) := by decide +kernel
theorem dX5_leave_110 : decode cX5_leave 110 = .ok (.aload_n 0, 1) := by decide +kernel
theorem dX5_leave_111 : decode cX5_leave 111 = .ok (.getfield 13, 3) := by decide +kernel
theorem dX5_leave_114 : decode cX5_leave 114 = .ok (.iload_n 1, 1) := by decide +kernel
theorem dX5_leave_115 : decode cX5_leave 115 = .ok (.iload 4, 2) := by decide +kernel
theorem dX5_leave_117 : decode cX5_leave 117 = .ok (.invokestatic 64, 3) := by decide +kernel
theorem dX5_leave_120 : decode cX5_leave 120 = .ok (.iaload, 1) := by decide +kernel
theorem dX5_leave_121 : decode cX5_leave 121 = .ok (.aload_n 0, 1) := by decide +kernel
theorem dX5_leave_122 : decode cX5_leave 122 = .ok (.getfield 13, 3) := by decide +kernel
theorem dX5_leave_125 : decode cX5_leave 125 = .ok (.iload 4, 2) := by decide +kernel
theorem dX5_leave_127 : decode cX5_leave 127 = .ok (.iload_n 1, 1) := by decide +kernel
theorem dX5_leave_128 : decode cX5_leave 128 = .ok (.invokestatic 64, 3) := by decide +kernel
theorem dX5_leave_131 : decode cX5_leave 131 = .ok (.iaload, 1) := by decide +kernel
theorem dX5_leave_132 : decode cX5_leave 132 = .ok (.isub, 1) := by decide +kernel
theorem dX5_leave_133 : decode cX5_leave 133 = .ok (.iadd, 1) := by decide +kernel
theorem dX5_leave_134 : decode cX5_leave 134 = .ok (.iastore, 1) := by decide +kernel
theorem dX5_leave_135 : decode cX5_leave 135 = .ok (.iload_n 3, 1) := by decide +kernel
theorem dX5_leave_136 : decode cX5_leave 136 = .ok (.aload_n 0, 1) := by decide +kernel
theorem dX5_leave_137 : decode cX5_leave 137 = .ok (.getfield 13, 3) := by decide +kernel
theorem dX5_leave_140 : decode cX5_leave 140 = .ok (.iload_n 1, 1) := by decide +kernel
theorem dX5_leave_141 : decode cX5_leave 141 = .ok (.iload 4, 2) := by decide +kernel
theorem dX5_leave_143 : decode cX5_leave 143 = .ok (.invokestatic 64, 3) := by decide +kernel
theorem dX5_leave_146 : decode cX5_leave 146 = .ok (.iaload, 1) := by decide +kernel
theorem dX5_leave_147 : decode cX5_leave 147 = .ok (.aload_n 0, 1) := by decide +kernel
theorem dX5_leave_148 : decode cX5_leave 148 = .ok (.getfield 13, 3) := by decide +kernel
theorem dX5_leave_151 : decode cX5_leave 151 = .ok (.iload 4, 2) := by decide +kernel
theorem dX5_leave_153 : decode cX5_leave 153 = .ok (.iload_n 1, 1) := by decide +kernel
theorem dX5_leave_154 : decode cX5_leave 154 = .ok (.invokestatic 64, 3) := by decide +kernel
theorem dX5_leave_157 : decode cX5_leave 157 = .ok (.iaload, 1) := by decide +kernel
theorem dX5_leave_158 : decode cX5_leave 158 = .ok (.iadd, 1) := by decide +kernel
theorem dX5_leave_159 : decode cX5_leave 159 = .ok (.iadd, 1) := by decide +kernel
theorem dX5_leave_160 : decode cX5_leave 160 = .ok (.istore_n 3, 1) := by decide +kernel
theorem dX5_leave_161 : decode cX5_leave 161 = .ok (.aload_n 0, 1) := by decide +kernel
theorem dX5_leave_162 : decode cX5_leave 162 = .ok (.getfield 13, 3) := by decide +kernel
theorem dX5_leave_165 : decode cX5_leave 165 = .ok (.iload_n 1, 1) := by decide +kernel
theorem dX5_leave_166 : decode cX5_leave 166 = .ok (.iload 4, 2) := by decide +kernel
theorem dX5_leave_168 : decode cX5_leave 168 = .ok (.invokestatic 64, 3) := by decide +kernel
theorem dX5_leave_171 : decode cX5_leave 171 = .ok (.iconst 0, 1) := by decide +kernel
theorem dX5_leave_172 : decode cX5_leave 172 = .ok (.iastore, 1) := by decide +kernel
theorem dX5_leave_173 : decode cX5_leave 173 = .ok (.aload_n 0, 1) := by decide +kernel
theorem dX5_leave_174 : decode cX5_leave 174 = .ok (.getfield 13, 3) := by decide +kernel
theorem dX5_leave_177 : decode cX5_leave 177 = .ok (.iload 4, 2) := by decide +kernel
theorem dX5_leave_179 : decode cX5_leave 179 = .ok (.iload_n 1, 1) := by decide +kernel
theorem dX5_leave_180 : decode cX5_leave 180 = .ok (.invokestatic 64, 3) := by decide +kernel
theorem dX5_leave_183 : decode cX5_leave 183 = .ok (.iconst 0, 1) := by decide +kernel
theorem dX5_leave_184 : decode cX5_leave 184 = .ok (.iastore, 1) := by decide +kernel
theorem dX5_leave_185 : decode cX5_leave 185 = .ok (.aload_n 0, 1) := by decide +kernel
theorem dX5_leave_186 : decode cX5_leave 186 = .ok (.getfield 20, 3) := by decide +kernel
theorem dX5_leave_189 : decode cX5_leave 189 = .ok (.iload_n 1, 1) := by decide +kernel
theorem dX5_leave_190 : decode cX5_leave 190 = .ok (.iload 4, 2) := by decide +kernel
theorem dX5_leave_192 : decode cX5_leave 192 = .ok (.invokestatic 64, 3) := by decide +kernel
theorem dX5_leave_195 : decode cX5_leave 195 = .ok (.iconst 0, 1) := by decide +kernel
theorem dX5_leave_196 : decode cX5_leave 196 = .ok (.iastore, 1) := by decide +kernel
theorem dX5_leave_197 : decode cX5_leave 197 = .ok (.aload_n 0, 1) := by decide +kernel
theorem dX5_leave_198 : decode cX5_leave 198 = .ok (.getfield 20, 3) := by decide +kernel
theorem dX5_leave_201 : decode cX5_leave 201 = .ok (.iload 4, 2) := by decide +kernel
theorem dX5_leave_203 : decode cX5_leave 203 = .ok (.iload_n 1, 1) := by decide +kernel
theorem dX5_leave_204 : decode cX5_leave 204 = .ok (.invokestatic 64, 3) := by decide +kernel
theorem dX5_leave_207 : decode cX5_leave 207 = .ok (.iconst 0, 1) := by decide +kernel
theorem dX5_leave_208 : decode cX5_leave 208 = .ok (.iastore, 1) := by decide +kernel
theorem dX5_leave_209 : decode cX5_leave 209 = .ok (.iinc 4 1, 3) := by decide +kernel
theorem dX5_leave_212 : decode cX5_leave 212 = .ok (.goto (-116), 3) := by decide +kernel
theorem dX5_leave_215 : decode cX5_leave 215 = .ok (.aload_n 0, 1) := by decide +kernel
theorem dX5_leave_216 : decode cX5_leave 216 = .ok (.getfield 7, 3) := by decide +kernel
theorem dX5_leave_219 : decode cX5_leave 219 = .ok (.iload_n 1, 1) := by decide +kernel
theorem dX5_leave_220 : decode cX5_leave 220 = .ok (.iconst 0, 1) := by decide +kernel
theorem dX5_leave_221 : decode cX5_leave 221 = .ok (.bastore, 1) := by decide +kernel
theorem dX5_leave_222 : decode cX5_leave 222 = .ok (.iload_n 3, 1) := by decide +kernel
theorem dX5_leave_223 : decode cX5_leave 223 = .ok (.ireturn, 1) := by decide +kernel
set_option maxRecDepth 20000 in
theorem ggX5_trade_X5_isShop : GoodIn wsX5_trade wsX5_isShop := goodIn_r _ [14, 15, 16, 17, 18, 13, 19, 39, 40, 41, 42, 43, 44, 45, 46, 47, 48, 49, 50, 51, 52, 53, 54, 55, 56, 57] (by decide +kernel) (by decide +kernel)
set_option maxRecDepth 20000 in
theorem gX5_trade_X5_isShop : GoodIn wsX5_trade (wsV RX5 92 RX5 yX5_isShop wsX5_isShop) := goodIn_app (goodIn_of _ (by decide +kernel)) ggX5_trade_X5_isShop
set_option maxRecDepth 20000 in
theorem ggX5_trade_X5_in : GoodIn wsX5_trade wsX5_in := goodIn_r _ [19] (by decide +kernel) (by decide +kernel)
set_option maxRecDepth 20000 in
theorem gX5_trade_X5_in : GoodIn wsX5_trade (va_wsS RX5 60 yX5_in wsX5_in) := goodIn_app (goodIn_of _ (by decide +kernel)) ggX5_trade_X5_in
set_option maxRecDepth 20000 in
theorem ggX5_trade_X5_balanceOf : GoodIn wsX5_trade wsX5_balanceOf := goodIn_r _ [23, 9, 24, 25, 13, 26, 39, 40, 41, 42, 43, 44, 45, 46, 47, 48, 49, 50, 51, 52, 53, 54, 55, 56, 57] (by decide +kernel) (by decide +kernel)
set_option maxRecDepth 20000 in
theorem gX5_trade_X5_balanceOf : GoodIn wsX5_trade (wsV RX5 103 RX5 yX5_balanceOf wsX5_balanceOf) := goodIn_app (goodIn_of _ (by decide +kernel)) ggX5_trade_X5_balanceOf
set_option maxRecDepth 20000 in
theorem ggX5_trade_X5_limitOf : GoodIn wsX5_trade wsX5_limitOf := goodIn_r _ [30, 1, 8, 6, 7, 5, 31, 32, 33, 34, 13, 35, 3, 4, 24, 25, 26, 39, 40, 41, 42, 43, 44, 45, 46, 47, 48, 49, 50, 51, 52, 53, 54, 55, 56, 57] (by decide +kernel) (by decide +kernel)
set_option maxRecDepth 20000 in
theorem gX5_trade_X5_limitOf : GoodIn wsX5_trade (wsV RX5 106 RX5 yX5_limitOf wsX5_limitOf) := goodIn_app (goodIn_of _ (by decide +kernel)) ggX5_trade_X5_limitOf
set_option maxRecDepth 20000 in
theorem ggX5_trade_X5_isBelow : GoodIn wsX5_trade wsX5_isBelow := goodIn_r _ [38] (by decide +kernel) (by decide +kernel)
set_option maxRecDepth 20000 in
theorem gX5_trade_X5_isBelow : GoodIn wsX5_trade (va_wsS RX5 109 yX5_isBelow wsX5_isBelow) := goodIn_app (goodIn_of _ (by decide +kernel)) ggX5_trade_X5_isBelow
set_option maxRecDepth 20000 in
theorem ggX5_trade_X5_at : GoodIn wsX5_trade wsX5_at := goodIn_r _ [26] (by decide +kernel) (by decide +kernel)
set_option maxRecDepth 20000 in
theorem gX5_trade_X5_at : GoodIn wsX5_trade (va_wsS RX5 64 yX5_at wsX5_at) := goodIn_app (goodIn_of _ (by decide +kernel)) ggX5_trade_X5_at
theorem dX5_trade_0 : decode cX5_trade 0 = .ok (.aload_n 0, 1) := by decide +kernel
theorem dX5_trade_1 : decode cX5_trade 1 = .ok (.aload_n 0, 1) := by decide +kernel
theorem dX5_trade_2 : decode cX5_trade 2 = .ok (.iload_n 1, 1) := by decide +kernel
theorem dX5_trade_3 : decode cX5_trade 3 = .ok (.invokevirtual 92, 3) := by decide +kernel
theorem dX5_trade_6 : decode cX5_trade 6 = .ok (.ifCond .eq 11, 3) := by decide +kernel
theorem dX5_trade_9 : decode cX5_trade 9 = .ok (.aload_n 0, 1) := by decide +kernel
theorem dX5_trade_10 : decode cX5_trade 10 = .ok (.iload_n 2, 1) := by decide +kernel
theorem dX5_trade_11 : decode cX5_trade 11 = .ok (.invokevirtual 92, 3) := by decide +kernel
theorem dX5_trade_14 : decode cX5_trade 14 = .ok (.ifCond .ne 7, 3) := by decide +kernel
theorem dX5_trade_17 : decode cX5_trade 17 = .ok (.iconst 1, 1) := by decide +kernel
theorem dX5_trade_18 : decode cX5_trade 18 = .ok (.goto 55, 3) := by decide +kernel
theorem dX5_trade_21 : decode cX5_trade 21 = .ok (.iload_n 3, 1) := by decide +kernel
theorem dX5_trade_22 : decode cX5_trade 22 = .ok (.iconst 1, 1) := by decide +kernel
theorem dX5_trade_23 : decode cX5_trade 23 = .ok (.sipush 1000, 3) := by decide +kernel
theorem dX5_trade_26 : decode cX5_trade 26 = .ok (.invokestatic 60, 3) := by decide +kernel
theorem dX5_trade_29 : decode cX5_trade 29 = .ok (.ifCond .eq 8, 3) := by decide +kernel
theorem dX5_trade_32 : decode cX5_trade 32 = .ok (.iload_n 1, 1) := by decide +kernel
theorem dX5_trade_33 : decode cX5_trade 33 = .ok (.iload_n 2, 1) := by decide +kernel
theorem dX5_trade_34 : decode cX5_trade 34 = .ok (.if_icmp .ne 7, 3) := by decide +kernel
theorem dX5_trade_37 : decode cX5_trade 37 = .ok (.iconst 2, 1) := by decide +kernel
theorem dX5_trade_38 : decode cX5_trade 38 = .ok (.goto 35, 3) := by decide +kernel
theorem dX5_trade_41 : decode cX5_trade 41 = .ok (.aload_n 0, 1) := by decide +kernel
theorem dX5_trade_42 : decode cX5_trade 42 = .ok (.getfield 68, 3) := by decide +kernel
theorem dX5_trade_45 : decode cX5_trade 45 = .ok (.bipush 100, 2) := by decide +kernel
theorem dX5_trade_47 : decode cX5_trade 47 = .ok (.if_icmp .eq 21, 3) := by decide +kernel
