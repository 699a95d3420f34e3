set_option maxRecDepth 20000 in
theorem gX5_takesOver_X5_at : GoodIn wsX5_takesOver (va_wsS RX5 64 yX5_at wsX5_at) := goodIn_app (goodIn_of _ (by decide +kernel)) ggX5_takesOver_X5_at
theorem dX5_takesOver_0 : decode cX5_takesOver 0 = .ok (.aload_n 0, 1) := by decide +kernel
theorem dX5_takesOver_1 : decode cX5_takesOver 1 = .ok (.getfield 13, 3) := by decide +kernel
theorem dX5_takesOver_4 : decode cX5_takesOver 4 = .ok (.iload_n 2, 1) := by decide +kernel
theorem dX5_takesOver_5 : decode cX5_takesOver 5 = .ok (.iload_n 3, 1) := by decide +kernel
theorem dX5_takesOver_6 : decode cX5_takesOver 6 = .ok (.invokestatic 64, 3) := by decide +kernel
theorem dX5_takesOver_9 : decode cX5_takesOver 9 = .ok (.dup2, 1) := by decide +kernel
theorem dX5_takesOver_10 : decode cX5_takesOver 10 = .ok (.iaload, 1) := by decide +kernel
theorem dX5_takesOver_11 : decode cX5_takesOver 11 = .ok (.iload 4, 2) := by decide +kernel
theorem dX5_takesOver_13 : decode cX5_takesOver 13 = .ok (.isub, 1) := by decide +kernel
theorem dX5_takesOver_14 : decode cX5_takesOver 14 = .ok (.iastore, 1) := by decide +kernel
theorem dX5_takesOver_15 : decode cX5_takesOver 15 = .ok (.aload_n 0, 1) := by decide +kernel
theorem dX5_takesOver_16 : decode cX5_takesOver 16 = .ok (.getfield 13, 3) := by decide +kernel
theorem dX5_takesOver_19 : decode cX5_takesOver 19 = .ok (.iload_n 1, 1) := by decide +kernel
theorem dX5_takesOver_20 : decode cX5_takesOver 20 = .ok (.iload_n 3, 1) := by decide +kernel
theorem dX5_takesOver_21 : decode cX5_takesOver 21 = .ok (.invokestatic 64, 3) := by decide +kernel
theorem dX5_takesOver_24 : decode cX5_takesOver 24 = .ok (.dup2, 1) := by decide +kernel
theorem dX5_takesOver_25 : decode cX5_takesOver 25 = .ok (.iaload, 1) := by decide +kernel
theorem dX5_takesOver_26 : decode cX5_takesOver 26 = .ok (.iload_n 1, 1) := by decide +kernel
theorem dX5_takesOver_27 : decode cX5_takesOver 27 = .ok (.iload_n 3, 1) := by decide +kernel
theorem dX5_takesOver_28 : decode cX5_takesOver 28 = .ok (.if_icmp .ne 7, 3) := by decide +kernel
theorem dX5_takesOver_31 : decode cX5_takesOver 31 = .ok (.iconst 0, 1) := by decide +kernel
theorem dX5_takesOver_32 : decode cX5_takesOver 32 = .ok (.goto 5, 3) := by decide +kernel
theorem dX5_takesOver_35 : decode cX5_takesOver 35 = .ok (.iload 4, 2) := by decide +kernel
theorem dX5_takesOver_37 : decode cX5_takesOver 37 = .ok (.iadd, 1) := by decide +kernel
theorem dX5_takesOver_38 : decode cX5_takesOver 38 = .ok (.iastore, 1) := by decide +kernel
theorem dX5_takesOver_39 : decode cX5_takesOver 39 = .ok (.return_, 1) := by decide +kernel
set_option maxRecDepth 20000 in
theorem ggX5_passesOn_X5_lowestTo : GoodIn wsX5_passesOn wsX5_lowestTo := goodIn_r _ [6, 1, 7, 8, 5, 9, 21, 22, 23, 24, 25, 26, 27, 28, 29, 30, 31, 32, 33, 34, 35, 36, 37, 38, 39] (by decide +kernel) (by decide +kernel)
set_option maxRecDepth 20000 in
theorem gX5_passesOn_X5_lowestTo : GoodIn wsX5_passesOn (wsV RX5 78 RX5 yX5_lowestTo wsX5_lowestTo) := goodIn_app (goodIn_of _ (by decide +kernel)) ggX5_passesOn_X5_lowestTo
set_option maxRecDepth 20000 in
theorem ggX5_passesOn_X5_lowestOf : GoodIn wsX5_passesOn wsX5_lowestOf := goodIn_r _ [13, 1, 7, 8, 5, 9, 21, 22, 23, 24, 25, 26, 27, 28, 29, 30, 31, 32, 33, 34, 35, 36, 37, 38, 39] (by decide +kernel) (by decide +kernel)
set_option maxRecDepth 20000 in
theorem gX5_passesOn_X5_lowestOf : GoodIn wsX5_passesOn (wsV RX5 82 RX5 yX5_lowestOf wsX5_lowestOf) := goodIn_app (goodIn_of _ (by decide +kernel)) ggX5_passesOn_X5_lowestOf
set_option maxRecDepth 20000 in
theorem ggX5_passesOn_X5_at : GoodIn wsX5_passesOn wsX5_at := goodIn_r _ [9] (by decide +kernel) (by decide +kernel)
set_option maxRecDepth 20000 in
theorem gX5_passesOn_X5_at : GoodIn wsX5_passesOn (va_wsS RX5 64 yX5_at wsX5_at) := goodIn_app (goodIn_of _ (by decide +kernel)) ggX5_passesOn_X5_at
set_option maxRecDepth 20000 in
theorem ggX5_passesOn_X5_least : GoodIn wsX5_passesOn wsX5_least := goodIn_r _ [16] (by decide +kernel) (by decide +kernel)
set_option maxRecDepth 20000 in
theorem gX5_passesOn_X5_least : GoodIn wsX5_passesOn (va_wsS RX5 85 yX5_least wsX5_least) := goodIn_app (goodIn_of _ (by decide +kernel)) ggX5_passesOn_X5_least
set_option maxRecDepth 20000 in
theorem ggX5_passesOn_X5_takesOver : GoodIn wsX5_passesOn wsX5_takesOver := goodIn_r _ [20, 1, 7, 8, 5, 9, 21, 22, 23, 24, 25, 26, 27, 28, 29, 30, 31, 32, 33, 34, 35, 36, 37, 38, 39] (by decide +kernel) (by decide +kernel)
set_option maxRecDepth 20000 in
theorem gX5_passesOn_X5_takesOver : GoodIn wsX5_passesOn (wsV RX5 88 RX5 yX5_takesOver wsX5_takesOver) := goodIn_app (goodIn_of _ (by decide +kernel)) ggX5_passesOn_X5_takesOver
theorem dX5_passesOn_0 : decode cX5_passesOn 0 = .ok (.aload_n 0, 1) := by decide +kernel
theorem dX5_passesOn_1 : decode cX5_passesOn 1 = .ok (.iload_n 1, 1) := by decide +kernel
theorem dX5_passesOn_2 : decode cX5_passesOn 2 = .ok (.invokevirtual 78, 3) := by decide +kernel
theorem dX5_passesOn_5 : decode cX5_passesOn 5 = .ok (.iconst (-1), 1) := by decide +kernel
theorem dX5_passesOn_6 : decode cX5_passesOn 6 = .ok (.if_icmp .eq 76, 3) := by decide +kernel
theorem dX5_passesOn_9 : decode cX5_passesOn 9 = .ok (.aload_n 0, 1) := by decide +kernel
theorem dX5_passesOn_10 : decode cX5_passesOn 10 = .ok (.iload_n 1, 1) := by decide +kernel
theorem dX5_passesOn_11 : decode cX5_passesOn 11 = .ok (.invokevirtual 82, 3) := by decide +kernel
theorem dX5_passesOn_14 : decode cX5_passesOn 14 = .ok (.iconst (-1), 1) := by decide +kernel
theorem dX5_passesOn_15 : decode cX5_passesOn 15 = .ok (.if_icmp .eq 67, 3) := by decide +kernel
theorem dX5_passesOn_18 : decode cX5_passesOn 18 = .ok (.aload_n 0, 1) := by decide +kernel
theorem dX5_passesOn_19 : decode cX5_passesOn 19 = .ok (.iload_n 1, 1) := by decide +kernel
theorem dX5_passesOn_20 : decode cX5_passesOn 20 = .ok (.invokevirtual 78, 3) := by decide +kernel
theorem dX5_passesOn_23 : decode cX5_passesOn 23 = .ok (.istore_n 2, 1) := by decide +kernel
theorem dX5_passesOn_24 : decode cX5_passesOn 24 = .ok (.aload_n 0, 1) := by decide +kernel
theorem dX5_passesOn_25 : decode cX5_passesOn 25 = .ok (.iload_n 1, 1) := by decide +kernel
theorem dX5_passesOn_26 : decode cX5_passesOn 26 = .ok (.invokevirtual 82, 3) := by decide +kernel
theorem dX5_passesOn_29 : decode cX5_passesOn 29 = .ok (.istore_n 3, 1) := by decide +kernel
theorem dX5_passesOn_30 : decode cX5_passesOn 30 = .ok (.aload_n 0, 1) := by decide +kernel
theorem dX5_passesOn_31 : decode cX5_passesOn 31 = .ok (.getfield 13, 3) := by decide +kernel
theorem dX5_passesOn_34 : decode cX5_passesOn 34 = .ok (.iload_n 2, 1) := by decide +kernel
theorem dX5_passesOn_35 : decode cX5_passesOn 35 = .ok (.iload_n 1, 1) := by decide +kernel
theorem dX5_passesOn_36 : decode cX5_passesOn 36 = .ok (.invokestatic 64, 3) := by decide +kernel
theorem dX5_passesOn_39 : decode cX5_passesOn 39 = .ok (.iaload, 1) := by decide +kernel
theorem dX5_passesOn_40 : decode cX5_passesOn 40 = .ok (.aload_n 0, 1) := by decide +kernel
theorem dX5_passesOn_41 : decode cX5_passesOn 41 = .ok (.getfield 13, 3) := by decide +kernel
theorem dX5_passesOn_44 : decode cX5_passesOn 44 = .ok (.iload_n 1, 1) := by decide +kernel
theorem dX5_passesOn_45 : decode cX5_passesOn 45 = .ok (.iload_n 3, 1) := by decide +kernel
theorem dX5_passesOn_46 : decode cX5_passesOn 46 = .ok (.invokestatic 64, 3) := by decide +kernel
theorem dX5_passesOn_49 : decode cX5_passesOn 49 = .ok (.iaload, 1) := by decide +kernel
theorem dX5_passesOn_50 : decode cX5_passesOn 50 = .ok (.invokestatic 85, 3) := by decide +kernel
theorem dX5_passesOn_53 : decode cX5_passesOn 53 = .ok (.istore 4, 2) := by decide +kernel
theorem dX5_passesOn_55 : decode cX5_passesOn 55 = .ok (.aload_n 0, 1) := by decide +kernel
theorem dX5_passesOn_56 : decode cX5_passesOn 56 = .ok (.getfield 13, 3) := by decide +kernel
theorem dX5_passesOn_59 : decode cX5_passesOn 59 = .ok (.iload_n 2, 1) := by decide +kernel
theorem dX5_passesOn_60 : decode cX5_passesOn 60 = .ok (.iload_n 1, 1) := by decide +kernel
theorem dX5_passesOn_61 : decode cX5_passesOn 61 = .ok (.invokestatic 64, 3) := by decide +kernel
theorem dX5_passesOn_64 : decode cX5_passesOn 64 = .ok (.dup2, 1) := by decide +kernel
theorem dX5_passesOn_65 : decode cX5_passesOn 65 = .ok (.iaload, 1) := by decide +kernel
theorem dX5_passesOn_66 : decode cX5_passesOn 66 = .ok (.iload 4, 2) := by decide +kernel
theorem dX5_passesOn_68 : decode cX5_passesOn 68 = .ok (.isub, 1) := by decide +kernel
theorem dX5_passesOn_69 : decode cX5_passesOn 69 = .ok (.iastore, 1) := by decide +kernel
theorem dX5_passesOn_70 : decode cX5_passesOn 70 = .ok (.aload_n 0, 1) := by decide +kernel
theorem dX5_passesOn_71 : decode cX5_passesOn 71 = .ok (.iload_n 2, 1) := by decide +kernel
theorem dX5_passesOn_72 : decode cX5_passesOn 72 = .ok (.iload_n 1, 1) := by decide +kernel
theorem dX5_passesOn_73 : decode cX5_passesOn 73 = .ok (.iload_n 3, 1) := by decide +kernel
theorem dX5_passesOn_74 : decode cX5_passesOn 74 = .ok (.iload 4, 2) := by decide +kernel
theorem dX5_passesOn_76 : decode cX5_passesOn 76 = .ok (.invokevirtual 88, 3) := by decide +kernel
theorem dX5_passesOn_79 : decode cX5_passesOn 79 = .ok (.goto (-79), 3) := by decide +kernel
theorem dX5_passesOn_82 : decode cX5_passesOn 82 = .ok (.return_, 1) := by decide +kernel
set_option maxRecDepth 20000 in
theorem ggX5_lets_X5_at : GoodIn wsX5_lets wsX5_at := goodIn_r _ [6] (by decide +kernel) (by decide +kernel)
set_option maxRecDepth 20000 in
theorem gX5_lets_X5_at : GoodIn wsX5_lets (va_wsS RX5 64 yX5_at wsX5_at) := goodIn_app (goodIn_of _ (by decide +kernel)) ggX5_lets_X5_at
set_option maxRecDepth 20000 in
theorem ggX5_lets_X5_least : GoodIn wsX5_lets wsX5_least := goodIn_r _ [9] (by decide +kernel) (by decide +kernel)
set_option maxRecDepth 20000 in
theorem gX5_lets_X5_least : GoodIn wsX5_lets (va_wsS RX5 85 yX5_least wsX5_least) := goodIn_app (goodIn_of _ (by decide +kernel)) ggX5_lets_X5_least
set_option maxRecDepth 20000 in
theorem ggX5_lets_X5_takesOver : GoodIn wsX5_lets wsX5_takesOver := goodIn_r _ [13, 1, 3, 4, 5, 6, 14, 15, 16, 17, 18, 19, 20, 21, 22, 23, 24, 25, 26, 27, 28, 29, 30, 31, 32] (by decide +kernel) (by decide +kernel)
set_option maxRecDepth 20000 in
theorem gX5_lets_X5_takesOver : GoodIn wsX5_lets (wsV RX5 88 RX5 yX5_takesOver wsX5_takesOver) := goodIn_app (goodIn_of _ (by decide +kernel)) ggX5_lets_X5_takesOver
theorem dX5_lets_0 : decode cX5_lets 0 = .ok (.iconst 0, 1) := by decide +kernel
theorem dX5_lets_1 : decode cX5_lets 1 = .ok (.istore_n 2, 1) := by decide +kernel
theorem dX5_lets_2 : decode cX5_lets 2 = .ok (.iload_n 2, 1) := by decide +kernel
theorem dX5_lets_3 : decode cX5_lets 3 = .ok (.bipush 8, 2) := by decide +kernel
theorem dX5_lets_5 : decode cX5_lets 5 = .ok (.if_icmp .gt 72, 3) := by decide +kernel
theorem dX5_lets_8 : decode cX5_lets 8 = .ok (.iconst 0, 1) := by decide +kernel
theorem dX5_lets_9 : decode cX5_lets 9 = .ok (.istore_n 3, 1) := by decide +kernel
theorem dX5_lets_10 : decode cX5_lets 10 = .ok (.iload_n 3, 1) := by decide +kernel
theorem dX5_lets_11 : decode cX5_lets 11 = .ok (.bipush 8, 2) := by decide +kernel
theorem dX5_lets_13 : decode cX5_lets 13 = .ok (.if_icmp .ge 58, 3) := by decide +kernel
theorem dX5_lets_16 : decode cX5_lets 16 = .ok (.aload_n 0, 1) := by decide +kernel
theorem dX5_lets_17 : decode cX5_lets 17 = .ok (.getfield 13, 3) := by decide +kernel
theorem dX5_lets_20 : decode cX5_lets 20 = .ok (.iload_n 1, 1) := by decide +kernel
theorem dX5_lets_21 : decode cX5_lets 21 = .ok (.iload_n 2, 1) := by decide +kernel
theorem dX5_lets_22 : decode cX5_lets 22 = .ok (.invokestatic 64, 3) := by decide +kernel
theorem dX5_lets_25 : decode cX5_lets 25 = .ok (.iaload, 1) := by decide +kernel
theorem dX5_lets_26 : decode cX5_lets 26 = .ok (.aload_n 0, 1) := by decide +kernel
theorem dX5_lets_27 : decode cX5_lets 27 = .ok (.getfield 20, 3) := by decide +kernel
theorem dX5_lets_30 : decode cX5_lets 30 = .ok (.iload_n 3, 1) := by decide +kernel
theorem dX5_lets_31 : decode cX5_lets 31 = .ok (.iload_n 1, 1) := by decide +kernel
theorem dX5_lets_32 : decode cX5_lets 32 = .ok (.invokestatic 64, 3) := by decide +kernel
theorem dX5_lets_35 : decode cX5_lets 35 = .ok (.iaload, 1) := by decide +kernel
theorem dX5_lets_36 : decode cX5_lets 36 = .ok (.invokestatic 85, 3) := by decide +kernel
theorem dX5_lets_39 : decode cX5_lets 39 = .ok (.istore 4, 2) := by decide +kernel
theorem dX5_lets_41 : decode cX5_lets 41 = .ok (.aload_n 0, 1) := by decide +kernel
theorem dX5_lets_42 : decode cX5_lets 42 = .ok (.iload_n 3, 1) := by decide +kernel
theorem dX5_lets_43 : decode cX5_lets 43 = .ok (.iload_n 1, 1) := by decide +kernel
theorem dX5_lets_44 : decode cX5_lets 44 = .ok (.iload_n 2, 1) := by decide +kernel
theorem dX5_lets_45 : decode cX5_lets 45 = .ok (.iload 4, 2) := by decide +kernel
theorem dX5_lets_47 : decode cX5_lets 47 = .ok (.invokevirtual 88, 3) := by decide +kernel
theorem dX5_lets_50 : decode cX5_lets 50 = .ok (.aload_n 0, 1) := by decide +kernel
theorem dX5_lets_51 : decode cX5_lets 51 = .ok (.getfield 20, 3) := by decide +kernel
theorem dX5_lets_54 : decode cX5_lets 54 = .ok (.iload_n 3, 1) := by decide +kernel
theorem dX5_lets_55 : decode cX5_lets 55 = .ok (.iload_n 1, 1) := by decide +kernel
theorem dX5_lets_56 : decode cX5_lets 56 = .ok (.invokestatic 64, 3) := by decide +kernel
theorem dX5_lets_59 : decode cX5_lets 59 = .ok (.dup2, 1) := by decide +kernel
theorem dX5_lets_60 : decode cX5_lets 60 = .ok (.iaload, 1) := by decide +kernel
theorem dX5_lets_61 : decode cX5_lets 61 = .ok (.iload 4, 2) := by decide +kernel
theorem dX5_lets_63 : decode cX5_lets 63 = .ok (.isub, 1) := by decide +kernel
theorem dX5_lets_64 : decode cX5_lets 64 = .ok (.iastore, 1) := by decide +kernel
theorem dX5_lets_65 : decode cX5_lets 65 = .ok (.iinc 3 1, 3) := by decide +kernel
theorem dX5_lets_68 : decode cX5_lets 68 = .ok (.goto (-58), 3) := by decide +kernel
theorem dX5_lets_71 : decode cX5_lets 71 = .ok (.iinc 2 1, 3) := by decide +kernel
theorem dX5_lets_74 : decode cX5_lets 74 = .ok (.goto (-72), 3) := by decide +kernel
theorem dX5_lets_77 : decode cX5_lets 77 = .ok (.return_, 1) := by decide +kernel
set_option maxRecDepth 20000 in
theorem ggX5_leave_X5_isOf : GoodIn wsX5_leave wsX5_isOf := goodIn_r _ [12, 13, 14, 49, 50, 51, 52, 53, 54, 55, 56, 57, 58, 59, 60, 61, 62, 63, 64, 65, 66, 67] (by decide +kernel) (by decide +kernel)
set_option maxRecDepth 20000 in
theorem gX5_leave_X5_isOf : GoodIn wsX5_leave (wsV RX5 71 RX5 yX5_isOf wsX5_isOf) := goodIn_app (goodIn_of _ (by decide +kernel)) ggX5_leave_X5_isOf
set_option maxRecDepth 20000 in
theorem ggX5_leave_X5_isShop : GoodIn wsX5_leave wsX5_isShop := goodIn_r _ [18, 19, 7, 20, 21, 11, 22, 49, 50, 51, 52, 53, 54, 55, 56, 57, 58, 59, 60, 61, 62, 63, 64, 65, 66, 67] (by decide +kernel) (by decide +kernel)
set_option maxRecDepth 20000 in
theorem gX5_leave_X5_isShop : GoodIn wsX5_leave (wsV RX5 92 RX5 yX5_isShop wsX5_isShop) := goodIn_app (goodIn_of _ (by decide +kernel)) ggX5_leave_X5_isShop
set_option maxRecDepth 20000 in
theorem ggX5_leave_X5_passesOn : GoodIn wsX5_leave wsX5_passesOn := goodIn_r _ [26, 5, 27, 28, 29, 11, 30, 31, 32, 33, 34, 35, 36, 37, 38, 39, 40, 41, 42, 43, 44, 49, 50, 51, 52, 53, 54, 55, 56, 57, 58, 59, 60, 61, 62, 63, 64, 65, 66, 67] (by decide +kernel) (by decide +kernel)
set_option maxRecDepth 20000 in
theorem gX5_leave_X5_passesOn : GoodIn wsX5_leave (wsV RX5 96 RX5 yX5_passesOn wsX5_passesOn) := goodIn_app (goodIn_of _ (by decide +kernel)) ggX5_leave_X5_passesOn
set_option maxRecDepth 20000 in
theorem ggX5_leave_X5_lets : GoodIn wsX5_leave wsX5_lets := goodIn_r _ [48, 5, 6, 31, 32, 11, 33, 38, 39, 40, 41, 42, 43, 44, 49, 50, 51, 52, 53, 54, 55, 56, 57, 58, 59, 60, 61, 62, 63, 64, 65, 66, 67] (by decide +kernel) (by decide +kernel)
set_option maxRecDepth 20000 in
theorem gX5_leave_X5_lets : GoodIn wsX5_leave (wsV RX5 100 RX5 yX5_lets wsX5_lets) := goodIn_app (goodIn_of _ (by decide +kernel)) ggX5_leave_X5_lets
set_option maxRecDepth 20000 in
theorem ggX5_leave_X5_at : GoodIn wsX5_leave wsX5_at := goodIn_r _ [33] (by decide +kernel) (by decide +kernel)
set_option maxRecDepth 20000 in
theorem gX5_leave_X5_at : GoodIn wsX5_leave (va_wsS RX5 64 yX5_at wsX5_at) := goodIn_app (goodIn_of _ (by decide +kernel)) ggX5_leave_X5_at
theorem dX5_leave_0 : decode cX5_leave 0 = .ok (.iconst 0, 1) := by decide +kernel
theorem dX5_leave_1 : decode cX5_leave 1 = .ok (.istore_n 2, 1) := by decide +kernel
theorem dX5_leave_2 : decode cX5_leave 2 = .ok (.iconst 0, 1) := by decide +kernel
theorem dX5_leave_3 : decode cX5_leave 3 = .ok (.istore_n 3, 1) := by decide +kernel
theorem dX5_leave_4 : decode cX5_leave 4 = .ok (.iload_n 3, 1) := by decide +kernel
theorem dX5_leave_5 : decode cX5_leave 5 = .ok (.aload_n 0, 1) := by decide +kernel
theorem dX5_leave_6 : decode cX5_leave 6 = .ok (.getfield 68, 3) := by decide +kernel
theorem dX5_leave_9 : decode cX5_leave 9 = .ok (.if_icmp .ge 38, 3) := by decide +kernel
theorem dX5_leave_12 : decode cX5_leave 12 = .ok (.iload_n 2, 1) := by decide +kernel
theorem dX5_leave_13 : decode cX5_leave 13 = .ok (.ifCond .ne 22, 3) := by decide +kernel
theorem dX5_leave_16 : decode cX5_leave 16 = .ok (.aload_n 0, 1) := by decide +kernel
theorem dX5_leave_17 : decode cX5_leave 17 = .ok (.iload_n 3, 1) := by decide +kernel
theorem dX5_leave_18 : decode cX5_leave 18 = .ok (.iload_n 1, 1) := by decide +kernel
theorem dX5_leave_19 : decode cX5_leave 19 = .ok (.invokevirtual 71, 3) := by decide +kernel
theorem dX5_leave_22 : decode cX5_leave 22 = .ok (.ifCond .eq 17, 3) := by decide +kernel
theorem dX5_leave_25 : decode cX5_leave 25 = .ok (.aload_n 0, 1) := by decide +kernel
theorem dX5_leave_26 : decode cX5_leave 26 = .ok (.getfield 38, 3) := by decide +kernel
theorem dX5_leave_29 : decode cX5_leave 29 = .ok (.iload_n 3, 1) := by decide +kernel
theorem dX5_leave_30 : decode cX5_leave 30 = .ok (.iaload, 1) := by decide +kernel
theorem dX5_leave_31 : decode cX5_leave 31 = .ok (.iconst 1, 1) := by decide +kernel
theorem dX5_leave_32 : decode cX5_leave 32 = .ok (.if_icmp .ne 7, 3) := by decide +kernel
theorem dX5_leave_35 : decode cX5_leave 35 = .ok (.iconst 1, 1) := by decide +kernel
theorem dX5_leave_36 : decode cX5_leave 36 = .ok (.goto 4, 3) := by decide +kernel
theorem dX5_leave_39 : decode cX5_leave 39 = .ok (.iconst 0, 1) := by decide +kernel
theorem dX5_leave_40 : decode cX5_leave 40 = .ok (.istore_n 2, 1) := by decide +kernel
theorem dX5_leave_41 : decode cX5_leave 41 = .ok (.iinc 3 1, 3) := by decide +kernel
theorem dX5_leave_44 : decode cX5_leave 44 = .ok (.goto (-40), 3) := by decide +kernel
theorem dX5_leave_47 : decode cX5_leave 47 = .ok (.aload_n 0, 1) := by decide +kernel
theorem dX5_leave_48 : decode cX5_leave 48 = .ok (.aload_n 0, 1) := by decide +kernel
theorem dX5_leave_49 : decode cX5_leave 49 = .ok (.iload_n 1, 1) := by decide +kernel
theorem dX5_leave_50 : decode cX5_leave 50 = .ok (.invokevirtual 92, 3) := by decide +kernel
theorem dX5_leave_53 : decode cX5_leave 53 = .ok (.ifCond .ne 7, 3) := by decide +kernel
theorem dX5_leave_56 : decode cX5_leave 56 = .ok (.iconst 1, 1) := by decide +kernel
theorem dX5_leave_57 : decode cX5_leave 57 = .ok (.goto 12, 3) := by decide +kernel
theorem dX5_leave_60 : decode cX5_leave 60 = .ok (.iload_n 2, 1) := by decide +kernel
theorem dX5_leave_61 : decode cX5_leave 61 = .ok (.ifCond .eq 7, 3) := by decide +kernel
theorem dX5_leave_64 : decode cX5_leave 64 = .ok (.iconst 2, 1) := by decide +kernel
theorem dX5_leave_65 : decode cX5_leave 65 = .ok (.goto 4, 3) := by decide +kernel
theorem dX5_leave_68 : decode cX5_leave 68 = .ok (.iconst 0, 1) := by decide +kernel
theorem dX5_leave_69 : decode cX5_leave 69 = .ok (.putfield 54, 3) := by decide +kernel
theorem dX5_leave_72 : decode cX5_leave 72 = .ok (.aload_n 0, 1) := by decide +kernel
theorem dX5_leave_73 : decode cX5_leave 73 = .ok (.getfield 54, 3) := by decide +kernel
theorem dX5_leave_76 : decode cX5_leave 76 = .ok (.ifCond .le 5, 3) := by decide +kernel
theorem dX5_leave_79 : decode cX5_leave 79 = .ok (.iconst 0, 1) := by decide +kernel
theorem dX5_leave_80 : decode cX5_leave 80 = .ok (.ireturn, 1) := by decide +kernel
theorem dX5_leave_81 : decode cX5_leave 81 = .ok (.aload_n 0, 1) := by decide +kernel
theorem dX5_leave_82 : decode cX5_leave 82 = .ok (.iload_n 1, 1) := by decide +kernel
theorem dX5_leave_83 : decode cX5_leave 83 = .ok (.invokevirtual 96, 3) := by decide +kernel
theorem dX5_leave_86 : decode cX5_leave 86 = .ok (.aload_n 0, 1) := by decide +kernel
theorem dX5_leave_87 : decode cX5_leave 87 = .ok (.iload_n 1, 1) := by decide +kernel
theorem dX5_leave_88 : decode cX5_leave 88 = .ok (.invokevirtual 100, 3) := by decide +kernel
theorem dX5_leave_91 : decode cX5_leave 91 = .ok (.iconst 0, 1) := by decide +kernel
theorem dX5_leave_92 : decode cX5_leave 92 = .ok (.istore_n 3, 1) := by decide +kernel
theorem dX5_leave_93 : decode cX5_leave 93 = .ok (.iconst 0, 1) := by decide +kernel
theorem dX5_leave_94 : decode cX5_leave 94 = .ok (.istore 4, 2) := by decide +kernel
theorem dX5_leave_96 : decode cX5_leave 96 = .ok (.iload 4, 2) := by decide +kernel
theorem dX5_leave_98 : decode cX5_leave 98 = .ok (.bipush 9, 2) := by decide +kernel
theorem dX5_leave_100 : decode cX5_leave 100 = .ok (.if_icmp .ge 115, 3) := by decide +kernel
theorem dX5_leave_103 : decode cX5_leave 103 = .ok (.aload_n 0, 1) := by decide +kernel
theorem dX5_leave_104 : decode cX5_leave 104 = .ok (.getfield 23, 3) := by decide +kernel
theorem dX5_leave_107 : decode cX5_leave 107 = .ok (.iload_n 1, 1) := by decide +kernel
theorem dX5_leave_108 : decode cX5_leave 108 = .ok (.dup2, 1) := by decide +kernel
theorem dX5_leave_109 : decode cX5_leave 109 = .ok (.iaload, 1) := by decide +kernel
theorem dX5_leave_110 : decode cX5_leave 110 = .ok (.aload_n 0, 1) := by decide +kernel
theorem dX5_leave_111 : decode cX5_leave 111 = .ok (.getfield 13, 3) := by decide +kernel
theorem dX5_leave_114 : decode cX5_leave 114 = .ok (.iload_n 1, 1) := by decide +kernel
theorem dX5_leave_115 : decode cX5_leave 115 = .ok (.iload 4, 2) := by decide +kernel
theorem dX5_leave_117 : decode cX5_leave 117 = .ok (.invokestatic 64, 3) := by decide +kernel
theorem dX5_leave_120 : decode cX5_leave 120 = .ok (.iaload, 1) := by decide +kernel
theorem dX5_leave_121 : decode cX5_leave 121 = .ok (.aload_n 0, 1) := by decide +kernel
theorem dX5_leave_122 : decode cX5_leave 122 = .ok (.getfield 13, 3) := by decide +kernel
theorem dX5_leave_125 : decode cX5_leave 125 = .ok (.iload 4, 2) := by decide +kernel
theorem dX5_leave_127 : decode cX5_leave 127 = .ok (.iload_n 1, 1) := by decide +kernel
theorem dX5_leave_128 : decode cX5_leave 128 = .ok (.invokestatic 64, 3) := by decide +kernel
theorem dX5_leave_131 : decode cX5_leave 131 = .ok (.iaload, 1) := by decide +kernel
theorem dX5_leave_132 : decode cX5_leave 132 = .ok (.isub, 1) := by decide +kernel
theorem dX5_leave_133 : decode cX5_leave 133 = .ok (.iadd, 1) := by decide +kernel
theorem dX5_leave_134 : decode cX5_leave 134 = .ok (.iastore, 1) := by decide +kernel
theorem dX5_leave_135 : decode cX5_leave 135 = .ok (.iload_n 3, 1) := by decide +kernel
theorem dX5_leave_136 : decode cX5_leave 136 = .ok (.aload_n 0, 1) := by decide +kernel
theorem dX5_leave_137 : decode cX5_leave 137 = .ok (.getfield 13, 3) := by decide +kernel
theorem dX5_leave_140 : decode cX5_leave 140 = .ok (.iload_n 1, 1) := by decide +kernel
theorem dX5_leave_141 : decode cX5_leave 141 = .ok (.iload 4, 2) := by decide +kernel
theorem dX5_leave_143 : decode cX5_leave 143 = .ok (.invokestatic 64, 3) := by decide +kernel
theorem dX5_leave_146 : decode cX5_leave 146 = .ok (.iaload, 1) := by decide +kernel
theorem dX5_leave_147 : decode cX5_leave 147 = .ok (.aload_n 0, 1) := by decide +kernel
theorem dX5_leave_148 : decode cX5_leave 148 = .ok (.getfield 13, 3) := by decide +kernel
theorem dX5_leave_151 : decode cX5_leave 151 = .ok (.iload 4, 2) := by decide +kernel
theorem dX5_leave_153 : decode cX5_leave 153 = .ok (.iload_n 1, 1) := by decide +kernel
theorem dX5_leave_154 : decode cX5_leave 154 = .ok (.invokestatic 64, 3) := by decide +kernel
theorem dX5_leave_157 : decode cX5_leave 157 = .ok (.iaload, 1) := by decide +kernel
theorem dX5_leave_158 : decode cX5_leave 158 = .ok (.iadd, 1) := by decide +kernel
theorem dX5_leave_159 : decode cX5_leave 159 = .ok (.iadd, 1) := by decide +kernel
theorem dX5_leave_160 : decode cX5_leave 160 = .ok (.istore_n 3, 1) := by decide +kernel
theorem dX5_leave_161 : decode cX5_leave 161 = .ok (.aload_n 0, 1) := by decide +kernel
theorem dX5_leave_162 : decode cX5_leave 162 = .ok (.getfield 13, 3) := by decide +kernel
theorem dX5_leave_165 : decode cX5_leave 165 = .ok (.iload_n 1, 1) := by decide +kernel
theorem dX5_leave_166 : decode cX5_leave 166 = .ok (.iload 4, 2) := by decide +kernel
theorem dX5_leave_168 : decode cX5_leave 168 = .ok (.invokestatic 64, 3) := by decide +kernel
theorem dX5_leave_171 : decode cX5_leave 171 = .ok (.iconst 0, 1) := by decide +kernel
theorem dX5_leave_172 : decode cX5_leave 172 = .ok (.iastore, 1) := by decide +kernel
theorem dX5_leave_173 : decode cX5_leave 173 = .ok (.aload_n 0, 1) := by decide +kernel
theorem dX5_leave_174 : decode cX5_leave 174 = .ok (.getfield 13, 3) := by decide +kernel
theorem dX5_leave_177 : decode cX5_leave 177 = .ok (.iload 4, 2) := by decide +kernel
theorem dX5_leave_179 : decode cX5_leave 179 = .ok (.iload_n 1, 1) := by decide +kernel
theorem dX5_leave_180 : decode cX5_leave 180 = .ok (.invokestatic 64, 3) := by decide +kernel
theorem dX5_leave_183 : decode cX5_leave 183 = .ok (.iconst 0, 1) := by decide +kernel
theorem dX5_leave_184 : decode cX5_leave 184 = .ok (.iastore, 1) := by decide +kernel
theorem dX5_leave_185 : decode cX5_leave 185 = .ok (.aload_n 0, 1) := by decide +kernel
theorem dX5_leave_186 : decode cX5_leave 186 = .ok (.getfield 20, 3) := by decide +kernel
theorem dX5_leave_189 : decode cX5_leave 189 = .ok (.iload_n 1, 1) := by decide +kernel
theorem dX5_leave_190 : decode cX5_leave 190 = .ok (.iload 4, 2) := by decide +kernel
theorem dX5_leave_192 : decode cX5_leave 192 = .ok (.invokestatic 64, 3) := by decide +kernel
theorem dX5_leave_195 : decode cX5_leave 195 = .ok (.iconst 0, 1) := by decide +kernel
theorem dX5_leave_196 : decode cX5_leave 196 = .ok (.iastore, 1) := by decide +kernel
theorem dX5_leave_197 : decode cX5_leave 197 = .ok (.aload_n 0, 1) := by decide +kernel
theorem dX5_leave_198 : decode cX5_leave 198 = .ok (.getfield 20, 3) := by decide +kernel
theorem dX5_leave_201 : decode cX5_leave 201 = .ok (.iload 4, 2) := by decide +kernel
theorem dX5_leave_203 : decode cX5_leave 203 = .ok (.iload_n 1, 1) := by decide +kernel
theorem dX5_leave_204 : decode cX5_leave 204 = .ok (.invokestatic 64, 3) := by decide +kernel
theorem dX5_leave_207 : decode cX5_leave 207 = .ok (.iconst 0, 1) := by decide +kernel
theorem dX5_leave_208 : decode cX5_leave 208 = .ok (.iastore, 1) := by decide +kernel
theorem dX5_leave_209 : decode cX5_leave 209 = .ok (.iinc 4 1, 3) := by decide +kernel
theorem dX5_leave_212 : decode cX5_leave 212 = .ok (.goto (-116), 3) := by decide +kernel
theorem dX5_leave_215 : decode cX5_leave 215 = .ok (.aload_n 0, 1) := by decide +kernel
theorem dX5_leave_216 : decode cX5_leave 216 = .ok (.getfield 7, 3) := by decide +kernel
theorem dX5_leave_219 : decode cX5_leave 219 = .ok (.iload_n 1, 1) := by decide +kernel
theorem dX5_leave_220 : decode cX5_leave 220 = .ok (.iconst 0, 1) := by decide +kernel
theorem dX5_leave_221 : decode cX5_leave 221 = .ok (.bastore, 1) := by decide +kernel
theorem dX5_leave_222 : decode cX5_leave 222 = .ok (.iload_n 3, 1) := by decide +kernel
theorem dX5_leave_223 : decode cX5_leave 223 = .ok (.ireturn, 1) := by decide +kernel
set_option maxRecDepth 20000 in
theorem ggX5_trade_X5_isShop : GoodIn wsX5_trade wsX5_isShop := goodIn_r _ [14, 15, 16, 17, 18, 13, 19, 39, 40, 41, 42, 43, 44, 45, 46, 47, 48, 49, 50, 51, 52, 53, 54, 55, 56, 57] (by decide +kernel) (by decide +kernel)
set_option maxRecDepth 20000 in
theorem gX5_trade_X5_isShop : GoodIn wsX5_trade (wsV RX5 92 RX5 yX5_isShop wsX5_isShop) := goodIn_app (goodIn_of _ (by decide +kernel)) ggX5_trade_X5_isShop
set_option maxRecDepth 20000 in
theorem ggX5_trade_X5_in : GoodIn wsX5_trade wsX5_in := goodIn_r _ [19] (by decide +kernel) (by decide +kernel)
set_option maxRecDepth 20000 in
theorem gX5_trade_X5_in : GoodIn wsX5_trade (va_wsS RX5 60 yX5_in wsX5_in) := goodIn_app (goodIn_of _ (by decide +kernel)) ggX5_trade_X5_in
set_option maxRecDepth 20000 in
theorem ggX5_trade_X5_balanceOf : GoodIn wsX5_trade wsX5_balanceOf := goodIn_r _ [23, 9, 24, 25, 13, 26, 39, 40, 41, 42, 43, 44, 45, 46, 47, 48, 49, 50, 51, 52, 53, 54, 55, 56, 57] (by decide +kernel) (by decide +kernel)
set_option maxRecDepth 20000 in
theorem gX5_trade_X5_balanceOf : GoodIn wsX5_trade (wsV RX5 103 RX5 yX5_balanceOf wsX5_balanceOf) := goodIn_app (goodIn_of _ (by decide +kernel)) ggX5_trade_X5_balanceOf
set_option maxRecDepth 20000 in
theorem ggX5_trade_X5_limitOf : GoodIn wsX5_trade wsX5_limitOf := goodIn_r _ [30, 1, 8, 6, 7, 5, 31, 32, 33, 34, 13, 35, 3, 4, 24, 25, 26, 39, 40, 41, 42, 43, 44, 45, 46, 47, 48, 49, 50, 51, 52, 53, 54, 55, 56, 57] (by decide +kernel) (by decide +kernel)
set_option maxRecDepth 20000 in
theorem gX5_trade_X5_limitOf : GoodIn wsX5_trade (wsV RX5 106 RX5 yX5_limitOf wsX5_limitOf) := goodIn_app (goodIn_of _ (by decide +kernel)) ggX5_trade_X5_limitOf
set_option maxRecDepth 20000 in
theorem ggX5_trade_X5_isBelow : GoodIn wsX5_trade wsX5_isBelow := goodIn_r _ [38] (by decide +kernel) (by decide +kernel)
set_option maxRecDepth 20000 in
theorem gX5_trade_X5_isBelow : GoodIn wsX5_trade (va_wsS RX5 109 yX5_isBelow wsX5_isBelow) := goodIn_app (goodIn_of _ (by decide +kernel)) ggX5_trade_X5_isBelow
set_option maxRecDepth 20000 in
theorem ggX5_trade_X5_at : GoodIn wsX5_trade wsX5_at := goodIn_r _ [26] (by decide +kernel) (by decide +kernel)
set_option maxRecDepth 20000 in
theorem gX5_trade_X5_at : GoodIn wsX5_trade (va_wsS RX5 64 yX5_at wsX5_at) := goodIn_app (goodIn_of _ (by decide +kernel)) ggX5_trade_X5_at
theorem dX5_trade_0 : decode cX5_trade 0 = .ok (.aload_n 0, 1) := by decide +kernel
theorem dX5_trade_1 : decode cX5_trade 1 = .ok (.aload_n 0, 1) := by decide +kernel
theorem dX5_trade_2 : decode cX5_trade 2 = .ok (.iload_n 1, 1) := by decide +kernel
theorem dX5_trade_3 : decode cX5_trade 3 = .ok (.invokevirtual 92, 3) := by decide +kernel
theorem dX5_trade_6 : decode cX5_trade 6 = .ok (.ifCond .eq 11, 3) := by decide +kernel
theorem dX5_trade_9 : decode cX5_trade 9 = .ok (.aload_n 0, 1) := by decide +kernel
theorem dX5_trade_10 : decode cX5_trade 10 = .ok (.iload_n 2, 1) := by decide +kernel
theorem dX5_trade_11 : decode cX5_trade 11 = .ok (.invokevirtual 92, 3) := by decide +kernel
theorem dX5_trade_14 : decode cX5_trade 14 = .ok (.ifCond .ne 7, 3) := by decide +kernel
theorem dX5_trade_17 : decode cX5_trade 17 = .ok (.iconst 1, 1) := by decide +kernel
theorem dX5_trade_18 : decode cX5_trade 18 = .ok (.goto 55, 3) := by decide +kernel
theorem dX5_trade_21 : decode cX5_trade 21 = .ok (.iload_n 3, 1) := by decide +kernel
theorem dX5_trade_22 : decode cX5_trade 22 = .ok (.iconst 1, 1) := by decide +kernel
theorem dX5_trade_23 : decode cX5_trade 23 = .ok (.sipush 1000, 3) := by decide +kernel
theorem dX5_trade_26 : decode cX5_trade 26 = .ok (.invokestatic 60, 3) := by decide +kernel
theorem dX5_trade_29 : decode cX5_trade 29 = .ok (.ifCond .eq 8, 3) := by decide +kernel
theorem dX5_trade_32 : decode cX5_trade 32 = .ok (.iload_n 1, 1) := by decide +kernel
theorem dX5_trade_33 : decode cX5_trade 33 = .ok (.iload_n 2, 1) := by decide +kernel
theorem dX5_trade_34 : decode cX5_trade 34 = .ok (.if_icmp .ne 7, 3) := by decide +kernel
theorem dX5_trade_37 : decode cX5_trade 37 = .ok (.iconst 2, 1) := by decide +kernel
theorem dX5_trade_38 : decode cX5_trade 38 = .ok (.goto 35, 3) := by decide +kernel
theorem dX5_trade_41 : decode cX5_trade 41 = .ok (.aload_n 0, 1) := by decide +kernel
theorem dX5_trade_42 : decode cX5_trade 42 = .ok (.getfield 68, 3) := by decide +kernel
theorem dX5_trade_45 : decode cX5_trade 45 = .ok (.bipush 100, 2) := by decide +kernel
theorem dX5_trade_47 : decode cX5_trade 47 = .ok (.if_icmp .eq 21, 3) := by decide +kernel
theorem dX5_trade_50 : decode cX5_trade 50 = .ok (.aload_n 0, 1) := by decide +kernel
theorem dX5_trade_51 : decode cX5_trade 51 = .ok (.iload_n 1, 1) := by decide +kernel
theorem dX5_trade_52 : decode cX5_trade 52 = .ok (.invokevirtual 103, 3) := by decide +kernel
theorem dX5_trade_55 : decode cX5_trade 55 = .ok (.iload_n 3, 1) := by decide +kernel
theorem dX5_trade_56 : decode cX5_trade 56 = .ok (.isub, 1) := by decide +kernel
theorem dX5_trade_57 : decode cX5_trade 57 = .ok (.aload_n 0, 1) := by decide +kernel
theorem dX5_trade_58 : decode cX5_trade 58 = .ok (.iload_n 1, 1) := by decide +kernel
theorem dX5_trade_59 : decode cX5_trade 59 = .ok (.invokevirtual 106, 3) := by decide +kernel
theorem dX5_trade_62 : decode cX5_trade 62 = .ok (.invokestatic 109, 3) := by decide +kernel
theorem dX5_trade_65 : decode cX5_trade 65 = .ok (.ifCond .eq 7, 3) := by decide +kernel
theorem dX5_trade_68 : decode cX5_trade 68 = .ok (.iconst 3, 1) := by decide +kernel
theorem dX5_trade_69 : decode cX5_trade 69 = .ok (.goto 4, 3) := by decide +kernel
theorem dX5_trade_72 : decode cX5_trade 72 = .ok (.iconst 0, 1) := by decide +kernel
theorem dX5_trade_73 : decode cX5_trade 73 = .ok (.putfield 54, 3) := by decide +kernel
theorem dX5_trade_76 : decode cX5_trade 76 = .ok (.aload_n 0, 1) := by decide +kernel
theorem dX5_trade_77 : decode cX5_trade 77 = .ok (.getfield 54, 3) := by decide +kernel
theorem dX5_trade_80 : decode cX5_trade 80 = .ok (.ifCond .le 5, 3) := by decide +kernel
theorem dX5_trade_83 : decode cX5_trade 83 = .ok (.iconst 0, 1) := by decide +kernel
theorem dX5_trade_84 : decode cX5_trade 84 = .ok (.ireturn, 1) := by decide +kernel
theorem dX5_trade_85 : decode cX5_trade 85 = .ok (.aload_n 0, 1) := by decide +kernel
theorem dX5_trade_86 : decode cX5_trade 86 = .ok (.getfield 26, 3) := by decide +kernel
theorem dX5_trade_89 : decode cX5_trade 89 = .ok (.aload_n 0, 1) := by decide +kernel
theorem dX5_trade_90 : decode cX5_trade 90 = .ok (.getfield 68, 3) := by decide +kernel
theorem dX5_trade_93 : decode cX5_trade 93 = .ok (.iload_n 1, 1) := by decide +kernel
theorem dX5_trade_94 : decode cX5_trade 94 = .ok (.iastore, 1) := by decide +kernel
theorem dX5_trade_95 : decode cX5_trade 95 = .ok (.aload_n 0, 1) := by decide +kernel
theorem dX5_trade_96 : decode cX5_trade 96 = .ok (.getfield 29, 3) := by decide +kernel
theorem dX5_trade_99 : decode cX5_trade 99 = .ok (.aload_n 0, 1) := by decide +kernel
theorem dX5_trade_100 : decode cX5_trade 100 = .ok (.getfield 68, 3) := by decide +kernel
theorem dX5_trade_103 : decode cX5_trade 103 = .ok (.iload_n 2, 1) := by decide +kernel
theorem dX5_trade_104 : decode cX5_trade 104 = .ok (.iastore, 1) := by decide +kernel
theorem dX5_trade_105 : decode cX5_trade 105 = .ok (.aload_n 0, 1) := by decide +kernel
theorem dX5_trade_106 : decode cX5_trade 106 = .ok (.getfield 32, 3) := by decide +kernel
theorem dX5_trade_109 : decode cX5_trade 109 = .ok (.aload_n 0, 1) := by decide +kernel
theorem dX5_trade_110 : decode cX5_trade 110 = .ok (.getfield 68, 3) := by decide +kernel
theorem dX5_trade_113 : decode cX5_trade 113 = .ok (.iload_n 3, 1) := by decide +kernel
theorem dX5_trade_114 : decode cX5_trade 114 = .ok (.iastore, 1) := by decide +kernel
theorem dX5_trade_115 : decode cX5_trade 115 = .ok (.aload_n 0, 1) := by decide +kernel
theorem dX5_trade_116 : decode cX5_trade 116 = .ok (.getfield 35, 3) := by decide +kernel
theorem dX5_trade_119 : decode cX5_trade 119 = .ok (.aload_n 0, 1) := by decide +kernel
theorem dX5_trade_120 : decode cX5_trade 120 = .ok (.getfield 68, 3) := by decide +kernel
theorem dX5_trade_123 : decode cX5_trade 123 = .ok (.aload_n 0, 1) := by decide +kernel
theorem dX5_trade_124 : decode cX5_trade 124 = .ok (.getfield 75, 3) := by decide +kernel
theorem dX5_trade_127 : decode cX5_trade 127 = .ok (.iastore, 1) := by decide +kernel
theorem dX5_trade_128 : decode cX5_trade 128 = .ok (.aload_n 0, 1) := by decide +kernel
theorem dX5_trade_129 : decode cX5_trade 129 = .ok (.getfield 38, 3) := by decide +kernel
theorem dX5_trade_132 : decode cX5_trade 132 = .ok (.aload_n 0, 1) := by decide +kernel
theorem dX5_trade_133 : decode cX5_trade 133 = .ok (.getfield 68, 3) := by decide +kernel
theorem dX5_trade_136 : decode cX5_trade 136 = .ok (.iconst 0, 1) := by decide +kernel
theorem dX5_trade_137 : decode cX5_trade 137 = .ok (.iastore, 1) := by decide +kernel
theorem dX5_trade_138 : decode cX5_trade 138 = .ok (.aload_n 0, 1) := by decide +kernel
theorem dX5_trade_139 : decode cX5_trade 139 = .ok (.getfield 13, 3) := by decide +kernel
theorem dX5_trade_142 : decode cX5_trade 142 = .ok (.iload_n 1, 1) := by decide +kernel
theorem dX5_trade_143 : decode cX5_trade 143 = .ok (.iload_n 2, 1) := by decide +kernel
theorem dX5_trade_144 : decode cX5_trade 144 = .ok (.invokestatic 64, 3) := by decide +kernel
theorem dX5_trade_147 : decode cX5_trade 147 = .ok (.dup2, 1) := by decide +kernel
theorem dX5_trade_148 : decode cX5_trade 148 = .ok (.iaload, 1) := by decide +kernel
theorem dX5_trade_149 : decode cX5_trade 149 = .ok (.iload_n 3, 1) := by decide +kernel
theorem dX5_trade_150 : decode cX5_trade 150 = .ok (.iadd, 1) := by decide +kernel
theorem dX5_trade_151 : decode cX5_trade 151 = .ok (.iastore, 1) := by decide +kernel
theorem dX5_trade_152 : decode cX5_trade 152 = .ok (.aload_n 0, 1) := by decide +kernel
theorem dX5_trade_153 : decode cX5_trade 153 = .ok (.dup, 1) := by decide +kernel
theorem dX5_trade_154 : decode cX5_trade 154 = .ok (.getfield 68, 3) := by decide +kernel
theorem dX5_trade_157 : decode cX5_trade 157 = .ok (.iconst 1, 1) := by decide +kernel
theorem dX5_trade_158 : decode cX5_trade 158 = .ok (.iadd, 1) := by decide +kernel
theorem dX5_trade_159 : decode cX5_trade 159 = .ok (.putfield 68, 3) := by decide +kernel
theorem dX5_trade_162 : decode cX5_trade 162 = .ok (.aload_n 0, 1) := by decide +kernel
theorem dX5_trade_163 : decode cX5_trade 163 = .ok (.getfield 68, 3) := by decide +kernel
theorem dX5_trade_166 : decode cX5_trade 166 = .ok (.iconst 1, 1) := by decide +kernel
theorem dX5_trade_167 : decode cX5_trade 167 = .ok (.isub, 1) := by decide +kernel
theorem dX5_trade_168 : decode cX5_trade 168 = .ok (.ireturn, 1) := by decide +kernel
set_option maxRecDepth 20000 in
theorem ggX5_isTrade_X5_in : GoodIn wsX5_isTrade wsX5_in := goodIn_r _ [5] (by decide +kernel) (by decide +kernel)
set_option maxRecDepth 20000 in
theorem gX5_isTrade_X5_in : GoodIn wsX5_isTrade (va_wsS RX5 60 yX5_in wsX5_in) := goodIn_app (goodIn_of _ (by decide +kernel)) ggX5_isTrade_X5_in
theorem dX5_isTrade_0 : decode cX5_isTrade 0 = .ok (.iload_n 1, 1) := by decide +kernel
theorem dX5_isTrade_1 : decode cX5_isTrade 1 = .ok (.iconst 0, 1) := by decide +kernel
theorem dX5_isTrade_2 : decode cX5_isTrade 2 = .ok (.aload_n 0, 1) := by decide +kernel
theorem dX5_isTrade_3 : decode cX5_isTrade 3 = .ok (.getfield 68, 3) := by decide +kernel
theorem dX5_isTrade_6 : decode cX5_isTrade 6 = .ok (.iconst 1, 1) := by decide +kernel
theorem dX5_isTrade_7 : decode cX5_isTrade 7 = .ok (.isub, 1) := by decide +kernel
theorem dX5_isTrade_8 : decode cX5_isTrade 8 = .ok (.invokestatic 60, 3) := by decide +kernel
theorem dX5_isTrade_11 : decode cX5_isTrade 11 = .ok (.ireturn, 1) := by decide +kernel
set_option maxRecDepth 20000 in
theorem ggX5_dispute_X5_isTrade : GoodIn wsX5_dispute wsX5_isTrade := goodIn_r _ [14, 15, 16, 17, 13, 18, 25, 26, 27, 28, 29, 30, 31, 32, 33, 34, 35, 36, 37, 38, 39, 40, 41, 42, 43] (by decide +kernel) (by decide +kernel)
set_option maxRecDepth 20000 in
theorem gX5_dispute_X5_isTrade : GoodIn wsX5_dispute (wsV RX5 112 RX5 yX5_isTrade wsX5_isTrade) := goodIn_app (goodIn_of _ (by decide +kernel)) ggX5_dispute_X5_isTrade
set_option maxRecDepth 20000 in
theorem ggX5_dispute_X5_at : GoodIn wsX5_dispute wsX5_at := goodIn_r _ [21] (by decide +kernel) (by decide +kernel)
set_option maxRecDepth 20000 in
theorem gX5_dispute_X5_at : GoodIn wsX5_dispute (va_wsS RX5 64 yX5_at wsX5_at) := goodIn_app (goodIn_of _ (by decide +kernel)) ggX5_dispute_X5_at
set_option maxRecDepth 20000 in
theorem ggX5_dispute_X5_least : GoodIn wsX5_dispute wsX5_least := goodIn_r _ [24] (by decide +kernel) (by decide +kernel)
set_option maxRecDepth 20000 in
theorem gX5_dispute_X5_least : GoodIn wsX5_dispute (va_wsS RX5 85 yX5_least wsX5_least) := goodIn_app (goodIn_of _ (by decide +kernel)) ggX5_dispute_X5_least
theorem dX5_dispute_0 : decode cX5_dispute 0 = .ok (.aload_n 0, 1) := by decide +kernel
theorem dX5_dispute_1 : decode cX5_dispute 1 = .ok (.iload_n 1, 1) := by decide +kernel
theorem dX5_dispute_2 : decode cX5_dispute 2 = .ok (.invokevirtual 112, 3) := by decide +kernel
theorem dX5_dispute_5 : decode cX5_dispute 5 = .ok (.ifCond .eq 44, 3) := by decide +kernel
theorem dX5_dispute_8 : decode cX5_dispute 8 = .ok (.aload_n 0, 1) := by decide +kernel
theorem dX5_dispute_9 : decode cX5_dispute 9 = .ok (.getfield 38, 3) := by decide +kernel
theorem dX5_dispute_12 : decode cX5_dispute 12 = .ok (.iload_n 1, 1) := by decide +kernel
theorem dX5_dispute_13 : decode cX5_dispute 13 = .ok (.iaload, 1) := by decide +kernel
theorem dX5_dispute_14 : decode cX5_dispute 14 = .ok (.ifCond .ne 35, 3) := by decide +kernel
theorem dX5_dispute_17 : decode cX5_dispute 17 = .ok (.aload_n 0, 1) := by decide +kernel
theorem dX5_dispute_18 : decode cX5_dispute 18 = .ok (.getfield 7, 3) := by decide +kernel
theorem dX5_dispute_21 : decode cX5_dispute 21 = .ok (.aload_n 0, 1) := by decide +kernel
theorem dX5_dispute_22 : decode cX5_dispute 22 = .ok (.getfield 26, 3) := by decide +kernel
theorem dX5_dispute_25 : decode cX5_dispute 25 = .ok (.iload_n 1, 1) := by decide +kernel
theorem dX5_dispute_26 : decode cX5_dispute 26 = .ok (.iaload, 1) := by decide +kernel
theorem dX5_dispute_27 : decode cX5_dispute 27 = .ok (.baload, 1) := by decide +kernel
theorem dX5_dispute_28 : decode cX5_dispute 28 = .ok (.ifCond .eq 21, 3) := by decide +kernel
theorem dX5_dispute_31 : decode cX5_dispute 31 = .ok (.aload_n 0, 1) := by decide +kernel
theorem dX5_dispute_32 : decode cX5_dispute 32 = .ok (.getfield 7, 3) := by decide +kernel
theorem dX5_dispute_35 : decode cX5_dispute 35 = .ok (.aload_n 0, 1) := by decide +kernel
theorem dX5_dispute_36 : decode cX5_dispute 36 = .ok (.getfield 29, 3) := by decide +kernel
theorem dX5_dispute_39 : decode cX5_dispute 39 = .ok (.iload_n 1, 1) := by decide +kernel
theorem dX5_dispute_40 : decode cX5_dispute 40 = .ok (.iaload, 1) := by decide +kernel
theorem dX5_dispute_41 : decode cX5_dispute 41 = .ok (.baload, 1) := by decide +kernel
theorem dX5_dispute_42 : decode cX5_dispute 42 = .ok (.ifCond .eq 7, 3) := by decide +kernel
theorem dX5_dispute_45 : decode cX5_dispute 45 = .ok (.iconst 1, 1) := by decide +kernel
theorem dX5_dispute_46 : decode cX5_dispute 46 = .ok (.goto 4, 3) := by decide +kernel
theorem dX5_dispute_49 : decode cX5_dispute 49 = .ok (.iconst 0, 1) := by decide +kernel
theorem dX5_dispute_50 : decode cX5_dispute 50 = .ok (.istore_n 2, 1) := by decide +kernel
theorem dX5_dispute_51 : decode cX5_dispute 51 = .ok (.aload_n 0, 1) := by decide +kernel
theorem dX5_dispute_52 : decode cX5_dispute 52 = .ok (.aload_n 0, 1) := by decide +kernel
theorem dX5_dispute_53 : decode cX5_dispute 53 = .ok (.iload_n 1, 1) := by decide +kernel
theorem dX5_dispute_54 : decode cX5_dispute 54 = .ok (.invokevirtual 112, 3) := by decide +kernel
theorem dX5_dispute_57 : decode cX5_dispute 57 = .ok (.ifCond .ne 7, 3) := by decide +kernel
theorem dX5_dispute_60 : decode cX5_dispute 60 = .ok (.iconst 1, 1) := by decide +kernel
theorem dX5_dispute_61 : decode cX5_dispute 61 = .ok (.goto 12, 3) := by decide +kernel
theorem dX5_dispute_64 : decode cX5_dispute 64 = .ok (.iload_n 2, 1) := by decide +kernel
theorem dX5_dispute_65 : decode cX5_dispute 65 = .ok (.ifCond .eq 7, 3) := by decide +kernel
theorem dX5_dispute_68 : decode cX5_dispute 68 = .ok (.iconst 0, 1) := by decide +kernel
theorem dX5_dispute_69 : decode cX5_dispute 69 = .ok (.goto 4, 3) := by decide +kernel
theorem dX5_dispute_72 : decode cX5_dispute 72 = .ok (.iconst 2, 1) := by decide +kernel
theorem dX5_dispute_73 : decode cX5_dispute 73 = .ok (.putfield 54, 3) := by decide +kernel
theorem dX5_dispute_76 : decode cX5_dispute 76 = .ok (.aload_n 0, 1) := by decide +kernel
theorem dX5_dispute_77 : decode cX5_dispute 77 = .ok (.getfield 54, 3) := by decide +kernel
theorem dX5_dispute_80 : decode cX5_dispute 80 = .ok (.ifCond .le 5, 3) := by decide +kernel
theorem dX5_dispute_83 : decode cX5_dispute 83 = .ok (.iconst 0, 1) := by decide +kernel
theorem dX5_dispute_84 : decode cX5_dispute 84 = .ok (.ireturn, 1) := by decide +kernel
theorem dX5_dispute_85 : decode cX5_dispute 85 = .ok (.aload_n 0, 1) := by decide +kernel
theorem dX5_dispute_86 : decode cX5_dispute 86 = .ok (.getfield 26, 3) := by decide +kernel
theorem dX5_dispute_89 : decode cX5_dispute 89 = .ok (.iload_n 1, 1) := by decide +kernel
theorem dX5_dispute_90 : decode cX5_dispute 90 = .ok (.iaload, 1) := by decide +kernel
theorem dX5_dispute_91 : decode cX5_dispute 91 = .ok (.aload_n 0, 1) := by decide +kernel
theorem dX5_dispute_92 : decode cX5_dispute 92 = .ok (.getfield 29, 3) := by decide +kernel
theorem dX5_dispute_95 : decode cX5_dispute 95 = .ok (.iload_n 1, 1) := by decide +kernel
theorem dX5_dispute_96 : decode cX5_dispute 96 = .ok (.iaload, 1) := by decide +kernel
theorem dX5_dispute_97 : decode cX5_dispute 97 = .ok (.invokestatic 64, 3) := by decide +kernel
theorem dX5_dispute_100 : decode cX5_dispute 100 = .ok (.istore_n 3, 1) := by decide +kernel
theorem dX5_dispute_101 : decode cX5_dispute 101 = .ok (.aload_n 0, 1) := by decide +kernel
theorem dX5_dispute_102 : decode cX5_dispute 102 = .ok (.getfield 41, 3) := by decide +kernel
theorem dX5_dispute_105 : decode cX5_dispute 105 = .ok (.iload_n 1, 1) := by decide +kernel
theorem dX5_dispute_106 : decode cX5_dispute 106 = .ok (.aload_n 0, 1) := by decide +kernel
theorem dX5_dispute_107 : decode cX5_dispute 107 = .ok (.getfield 32, 3) := by decide +kernel
theorem dX5_dispute_110 : decode cX5_dispute 110 = .ok (.iload_n 1, 1) := by decide +kernel
theorem dX5_dispute_111 : decode cX5_dispute 111 = .ok (.iaload, 1) := by decide +kernel
theorem dX5_dispute_112 : decode cX5_dispute 112 = .ok (.aload_n 0, 1) := by decide +kernel
theorem dX5_dispute_113 : decode cX5_dispute 113 = .ok (.getfield 13, 3) := by decide +kernel
theorem dX5_dispute_116 : decode cX5_dispute 116 = .ok (.iload_n 3, 1) := by decide +kernel
theorem dX5_dispute_117 : decode cX5_dispute 117 = .ok (.iaload, 1) := by decide +kernel
theorem dX5_dispute_118 : decode cX5_dispute 118 = .ok (.aload_n 0, 1) := by decide +kernel
theorem dX5_dispute_119 : decode cX5_dispute 119 = .ok (.getfield 17, 3) := by decide +kernel
theorem dX5_dispute_122 : decode cX5_dispute 122 = .ok (.iload_n 3, 1) := by decide +kernel
theorem dX5_dispute_123 : decode cX5_dispute 123 = .ok (.iaload, 1) := by decide +kernel
theorem dX5_dispute_124 : decode cX5_dispute 124 = .ok (.isub, 1) := by decide +kernel
theorem dX5_dispute_125 : decode cX5_dispute 125 = .ok (.invokestatic 85, 3) := by decide +kernel
theorem dX5_dispute_128 : decode cX5_dispute 128 = .ok (.iastore, 1) := by decide +kernel
theorem dX5_dispute_129 : decode cX5_dispute 129 = .ok (.aload_n 0, 1) := by decide +kernel
theorem dX5_dispute_130 : decode cX5_dispute 130 = .ok (.getfield 17, 3) := by decide +kernel
theorem dX5_dispute_133 : decode cX5_dispute 133 = .ok (.iload_n 3, 1) := by decide +kernel
theorem dX5_dispute_134 : decode cX5_dispute 134 = .ok (.dup2, 1) := by decide +kernel
theorem dX5_dispute_135 : decode cX5_dispute 135 = .ok (.iaload, 1) := by decide +kernel
theorem dX5_dispute_136 : decode cX5_dispute 136 = .ok (.aload_n 0, 1) := by decide +kernel
theorem dX5_dispute_137 : decode cX5_dispute 137 = .ok (.getfield 41, 3) := by decide +kernel
theorem dX5_dispute_140 : decode cX5_dispute 140 = .ok (.iload_n 1, 1) := by decide +kernel
theorem dX5_dispute_141 : decode cX5_dispute 141 = .ok (.iaload, 1) := by decide +kernel
theorem dX5_dispute_142 : decode cX5_dispute 142 = .ok (.iadd, 1) := by decide +kernel
theorem dX5_dispute_143 : decode cX5_dispute 143 = .ok (.iastore, 1) := by decide +kernel
theorem dX5_dispute_144 : decode cX5_dispute 144 = .ok (.aload_n 0, 1) := by decide +kernel
theorem dX5_dispute_145 : decode cX5_dispute 145 = .ok (.getfield 38, 3) := by decide +kernel
theorem dX5_dispute_148 : decode cX5_dispute 148 = .ok (.iload_n 1, 1) := by decide +kernel
theorem dX5_dispute_149 : decode cX5_dispute 149 = .ok (.iconst 1, 1) := by decide +kernel
theorem dX5_dispute_150 : decode cX5_dispute 150 = .ok (.iastore, 1) := by decide +kernel
theorem dX5_dispute_151 : decode cX5_dispute 151 = .ok (.aload_n 0, 1) := by decide +kernel
theorem dX5_dispute_152 : decode cX5_dispute 152 = .ok (.getfield 41, 3) := by decide +kernel
theorem dX5_dispute_155 : decode cX5_dispute 155 = .ok (.iload_n 1, 1) := by decide +kernel
theorem dX5_dispute_156 : decode cX5_dispute 156 = .ok (.iaload, 1) := by decide +kernel
theorem dX5_dispute_157 : decode cX5_dispute 157 = .ok (.ireturn, 1) := by decide +kernel
set_option maxRecDepth 20000 in
theorem ggX5_settle_X5_isTrade : GoodIn wsX5_settle wsX5_isTrade := goodIn_r _ [13, 14, 15, 16, 12, 17, 21, 22, 23, 24, 25, 26, 27, 28, 29, 30, 31, 32, 33, 34, 35, 36, 37, 38, 39] (by decide +kernel) (by decide +kernel)
set_option maxRecDepth 20000 in
theorem gX5_settle_X5_isTrade : GoodIn wsX5_settle (wsV RX5 112 RX5 yX5_isTrade wsX5_isTrade) := goodIn_app (goodIn_of _ (by decide +kernel)) ggX5_settle_X5_isTrade
set_option maxRecDepth 20000 in
theorem ggX5_settle_X5_at : GoodIn wsX5_settle wsX5_at := goodIn_r _ [20] (by decide +kernel) (by decide +kernel)
set_option maxRecDepth 20000 in
theorem gX5_settle_X5_at : GoodIn wsX5_settle (va_wsS RX5 64 yX5_at wsX5_at) := goodIn_app (goodIn_of _ (by decide +kernel)) ggX5_settle_X5_at
theorem dX5_settle_0 : decode cX5_settle 0 = .ok (.aload_n 0, 1) := by decide +kernel
theorem dX5_settle_1 : decode cX5_settle 1 = .ok (.aload_n 0, 1) := by decide +kernel
theorem dX5_settle_2 : decode cX5_settle 2 = .ok (.iload_n 1, 1) := by decide +kernel
theorem dX5_settle_3 : decode cX5_settle 3 = .ok (.invokevirtual 112, 3) := by decide +kernel
theorem dX5_settle_6 : decode cX5_settle 6 = .ok (.ifCond .ne 7, 3) := by decide +kernel
theorem dX5_settle_9 : decode cX5_settle 9 = .ok (.iconst 1, 1) := by decide +kernel
theorem dX5_settle_10 : decode cX5_settle 10 = .ok (.goto 18, 3) := by decide +kernel
theorem dX5_settle_13 : decode cX5_settle 13 = .ok (.aload_n 0, 1) := by decide +kernel
theorem dX5_settle_14 : decode cX5_settle 14 = .ok (.getfield 38, 3) := by decide +kernel
theorem dX5_settle_17 : decode cX5_settle 17 = .ok (.iload_n 1, 1) := by decide +kernel
theorem dX5_settle_18 : decode cX5_settle 18 = .ok (.iaload, 1) := by decide +kernel
theorem dX5_settle_19 : decode cX5_settle 19 = .ok (.iconst 1, 1) := by decide +kernel
theorem dX5_settle_20 : decode cX5_settle 20 = .ok (.if_icmp .ne 7, 3) := by decide +kernel
theorem dX5_settle_23 : decode cX5_settle 23 = .ok (.iconst 0, 1) := by decide +kernel
theorem dX5_settle_24 : decode cX5_settle 24 = .ok (.goto 4, 3) := by decide +kernel
theorem dX5_settle_27 : decode cX5_settle 27 = .ok (.iconst 2, 1) := by decide +kernel
theorem dX5_settle_28 : decode cX5_settle 28 = .ok (.putfield 54, 3) := by decide +kernel
theorem dX5_settle_31 : decode cX5_settle 31 = .ok (.aload_n 0, 1) := by decide +kernel
theorem dX5_settle_32 : decode cX5_settle 32 = .ok (.getfield 54, 3) := by decide +kernel
theorem dX5_settle_35 : decode cX5_settle 35 = .ok (.ifCond .le 5, 3) := by decide +kernel
theorem dX5_settle_38 : decode cX5_settle 38 = .ok (.iconst 0, 1) := by decide +kernel
theorem dX5_settle_39 : decode cX5_settle 39 = .ok (.ireturn, 1) := by decide +kernel
theorem dX5_settle_40 : decode cX5_settle 40 = .ok (.aload_n 0, 1) := by decide +kernel
theorem dX5_settle_41 : decode cX5_settle 41 = .ok (.getfield 26, 3) := by decide +kernel
theorem dX5_settle_44 : decode cX5_settle 44 = .ok (.iload_n 1, 1) := by decide +kernel
theorem dX5_settle_45 : decode cX5_settle 45 = .ok (.iaload, 1) := by decide +kernel
theorem dX5_settle_46 : decode cX5_settle 46 = .ok (.aload_n 0, 1) := by decide +kernel
theorem dX5_settle_47 : decode cX5_settle 47 = .ok (.getfield 29, 3) := by decide +kernel
theorem dX5_settle_50 : decode cX5_settle 50 = .ok (.iload_n 1, 1) := by decide +kernel
theorem dX5_settle_51 : decode cX5_settle 51 = .ok (.iaload, 1) := by decide +kernel
theorem dX5_settle_52 : decode cX5_settle 52 = .ok (.invokestatic 64, 3) := by decide +kernel
theorem dX5_settle_55 : decode cX5_settle 55 = .ok (.istore_n 3, 1) := by decide +kernel
theorem dX5_settle_56 : decode cX5_settle 56 = .ok (.iload_n 2, 1) := by decide +kernel
theorem dX5_settle_57 : decode cX5_settle 57 = .ok (.ifCond .eq 19, 3) := by decide +kernel
theorem dX5_settle_60 : decode cX5_settle 60 = .ok (.aload_n 0, 1) := by decide +kernel
theorem dX5_settle_61 : decode cX5_settle 61 = .ok (.getfield 32, 3) := by decide +kernel
theorem dX5_settle_64 : decode cX5_settle 64 = .ok (.iload_n 1, 1) := by decide +kernel
theorem dX5_settle_65 : decode cX5_settle 65 = .ok (.iaload, 1) := by decide +kernel
theorem dX5_settle_66 : decode cX5_settle 66 = .ok (.aload_n 0, 1) := by decide +kernel
theorem dX5_settle_67 : decode cX5_settle 67 = .ok (.getfield 41, 3) := by decide +kernel
theorem dX5_settle_70 : decode cX5_settle 70 = .ok (.iload_n 1, 1) := by decide +kernel
theorem dX5_settle_71 : decode cX5_settle 71 = .ok (.iaload, 1) := by decide +kernel
theorem dX5_settle_72 : decode cX5_settle 72 = .ok (.isub, 1) := by decide +kernel
theorem dX5_settle_73 : decode cX5_settle 73 = .ok (.goto 4, 3) := by decide +kernel
theorem dX5_settle_76 : decode cX5_settle 76 = .ok (.iconst 0, 1) := by decide +kernel
theorem dX5_settle_77 : decode cX5_settle 77 = .ok (.istore 4, 2) := by decide +kernel
theorem dX5_settle_79 : decode cX5_settle 79 = .ok (.aload_n 0, 1) := by decide +kernel
theorem dX5_settle_80 : decode cX5_settle 80 = .ok (.getfield 17, 3) := by decide +kernel
theorem dX5_settle_83 : decode cX5_settle 83 = .ok (.iload_n 3, 1) := by decide +kernel
theorem dX5_settle_84 : decode cX5_settle 84 = .ok (.dup2, 1) := by decide +kernel
theorem dX5_settle_85 : decode cX5_settle 85 = .ok (.iaload, 1) := by decide +kernel
theorem dX5_settle_86 : decode cX5_settle 86 = .ok (.aload_n 0, 1) := by decide +kernel
theorem dX5_settle_87 : decode cX5_settle 87 = .ok (.getfield 41, 3) := by decide +kernel
theorem dX5_settle_90 : decode cX5_settle 90 = .ok (.iload_n 1, 1) := by decide +kernel
theorem dX5_settle_91 : decode cX5_settle 91 = .ok (.iaload, 1) := by decide +kernel
theorem dX5_settle_92 : decode cX5_settle 92 = .ok (.isub, 1) := by decide +kernel
theorem dX5_settle_93 : decode cX5_settle 93 = .ok (.iastore, 1) := by decide +kernel
theorem dX5_settle_94 : decode cX5_settle 94 = .ok (.aload_n 0, 1) := by decide +kernel
theorem dX5_settle_95 : decode cX5_settle 95 = .ok (.getfield 13, 3) := by decide +kernel
theorem dX5_settle_98 : decode cX5_settle 98 = .ok (.iload_n 3, 1) := by decide +kernel
theorem dX5_settle_99 : decode cX5_settle 99 = .ok (.dup2, 1) := by decide +kernel
theorem dX5_settle_100 : decode cX5_settle 100 = .ok (.iaload, 1) := by decide +kernel
theorem dX5_settle_101 : decode cX5_settle 101 = .ok (.iload_n 2, 1) := by decide +kernel
theorem dX5_settle_102 : decode cX5_settle 102 = .ok (.ifCond .eq 12, 3) := by decide +kernel
theorem dX5_settle_105 : decode cX5_settle 105 = .ok (.aload_n 0, 1) := by decide +kernel
theorem dX5_settle_106 : decode cX5_settle 106 = .ok (.getfield 41, 3) := by decide +kernel
theorem dX5_settle_109 : decode cX5_settle 109 = .ok (.iload_n 1, 1) := by decide +kernel
theorem dX5_settle_110 : decode cX5_settle 110 = .ok (.iaload, 1) := by decide +kernel
theorem dX5_settle_111 : decode cX5_settle 111 = .ok (.goto 4, 3) := by decide +kernel
theorem dX5_settle_114 : decode cX5_settle 114 = .ok (.iconst 0, 1) := by decide +kernel
theorem dX5_settle_115 : decode cX5_settle 115 = .ok (.isub, 1) := by decide +kernel
theorem dX5_settle_116 : decode cX5_settle 116 = .ok (.iastore, 1) := by decide +kernel
theorem dX5_settle_117 : decode cX5_settle 117 = .ok (.aload_n 0, 1) := by decide +kernel
theorem dX5_settle_118 : decode cX5_settle 118 = .ok (.getfield 13, 3) := by decide +kernel
theorem dX5_settle_121 : decode cX5_settle 121 = .ok (.aload_n 0, 1) := by decide +kernel
theorem dX5_settle_122 : decode cX5_settle 122 = .ok (.getfield 29, 3) := by decide +kernel
theorem dX5_settle_125 : decode cX5_settle 125 = .ok (.iload_n 1, 1) := by decide +kernel
theorem dX5_settle_126 : decode cX5_settle 126 = .ok (.iaload, 1) := by decide +kernel
theorem dX5_settle_127 : decode cX5_settle 127 = .ok (.aload_n 0, 1) := by decide +kernel
theorem dX5_settle_128 : decode cX5_settle 128 = .ok (.getfield 26, 3) := by decide +kernel
theorem dX5_settle_131 : decode cX5_settle 131 = .ok (.iload_n 1, 1) := by decide +kernel
theorem dX5_settle_132 : decode cX5_settle 132 = .ok (.iaload, 1) := by decide +kernel
theorem dX5_settle_133 : decode cX5_settle 133 = .ok (.invokestatic 64, 3) := by decide +kernel
theorem dX5_settle_136 : decode cX5_settle 136 = .ok (.dup2, 1) := by decide +kernel
theorem dX5_settle_137 : decode cX5_settle 137 = .ok (.iaload, 1) := by decide +kernel
theorem dX5_settle_138 : decode cX5_settle 138 = .ok (.iload 4, 2) := by decide +kernel
theorem dX5_settle_140 : decode cX5_settle 140 = .ok (.iadd, 1) := by decide +kernel
theorem dX5_settle_141 : decode cX5_settle 141 = .ok (.iastore, 1) := by decide +kernel
theorem dX5_settle_142 : decode cX5_settle 142 = .ok (.aload_n 0, 1) := by decide +kernel
theorem dX5_settle_143 : decode cX5_settle 143 = .ok (.getfield 41, 3) := by decide +kernel
theorem dX5_settle_146 : decode cX5_settle 146 = .ok (.iload_n 1, 1) := by decide +kernel
theorem dX5_settle_147 : decode cX5_settle 147 = .ok (.iconst 0, 1) := by decide +kernel
theorem dX5_settle_148 : decode cX5_settle 148 = .ok (.iastore, 1) := by decide +kernel
theorem dX5_settle_149 : decode cX5_settle 149 = .ok (.aload_n 0, 1) := by decide +kernel
theorem dX5_settle_150 : decode cX5_settle 150 = .ok (.getfield 38, 3) := by decide +kernel
theorem dX5_settle_153 : decode cX5_settle 153 = .ok (.iload_n 1, 1) := by decide +kernel
