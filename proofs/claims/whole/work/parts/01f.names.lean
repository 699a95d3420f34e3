theorem dX3_put_13 : decode cX3_put 13 = .ok (.iconst 0, 1) := by decide +kernel
theorem dX3_put_14 : decode cX3_put 14 = .ok (.invokevirtual 28, 3) := by decide +kernel
theorem dX3_put_17 : decode cX3_put 17 = .ok (.aload_n 0, 1) := by decide +kernel
theorem dX3_put_18 : decode cX3_put 18 = .ok (.getfield 16, 3) := by decide +kernel
theorem dX3_put_21 : decode cX3_put 21 = .ok (.iload 5, 2) := by decide +kernel
theorem dX3_put_23 : decode cX3_put 23 = .ok (.iconst 1, 1) := by decide +kernel
theorem dX3_put_24 : decode cX3_put 24 = .ok (.iload_n 1, 1) := by decide +kernel
theorem dX3_put_25 : decode cX3_put 25 = .ok (.invokevirtual 28, 3) := by decide +kernel
theorem dX3_put_28 : decode cX3_put 28 = .ok (.aload_n 0, 1) := by decide +kernel
theorem dX3_put_29 : decode cX3_put 29 = .ok (.getfield 16, 3) := by decide +kernel
theorem dX3_put_32 : decode cX3_put 32 = .ok (.iload 5, 2) := by decide +kernel
theorem dX3_put_34 : decode cX3_put 34 = .ok (.iconst 2, 1) := by decide +kernel
theorem dX3_put_35 : decode cX3_put 35 = .ok (.iload_n 2, 1) := by decide +kernel
theorem dX3_put_36 : decode cX3_put 36 = .ok (.invokevirtual 28, 3) := by decide +kernel
theorem dX3_put_39 : decode cX3_put 39 = .ok (.aload_n 0, 1) := by decide +kernel
theorem dX3_put_40 : decode cX3_put 40 = .ok (.getfield 16, 3) := by decide +kernel
theorem dX3_put_43 : decode cX3_put 43 = .ok (.iload 5, 2) := by decide +kernel
theorem dX3_put_45 : decode cX3_put 45 = .ok (.iconst 3, 1) := by decide +kernel
theorem dX3_put_46 : decode cX3_put 46 = .ok (.iload_n 3, 1) := by decide +kernel
theorem dX3_put_47 : decode cX3_put 47 = .ok (.invokevirtual 28, 3) := by decide +kernel
theorem dX3_put_50 : decode cX3_put 50 = .ok (.aload_n 0, 1) := by decide +kernel
theorem dX3_put_51 : decode cX3_put 51 = .ok (.getfield 16, 3) := by decide +kernel
theorem dX3_put_54 : decode cX3_put 54 = .ok (.iload 5, 2) := by decide +kernel
theorem dX3_put_56 : decode cX3_put 56 = .ok (.iconst 4, 1) := by decide +kernel
theorem dX3_put_57 : decode cX3_put 57 = .ok (.iload 4, 2) := by decide +kernel
theorem dX3_put_59 : decode cX3_put 59 = .ok (.invokevirtual 28, 3) := by decide +kernel
theorem dX3_put_62 : decode cX3_put 62 = .ok (.aload_n 0, 1) := by decide +kernel
theorem dX3_put_63 : decode cX3_put 63 = .ok (.dup, 1) := by decide +kernel
theorem dX3_put_64 : decode cX3_put 64 = .ok (.getfield 20, 3) := by decide +kernel
theorem dX3_put_67 : decode cX3_put 67 = .ok (.iconst 1, 1) := by decide +kernel
theorem dX3_put_68 : decode cX3_put 68 = .ok (.iadd, 1) := by decide +kernel
theorem dX3_put_69 : decode cX3_put 69 = .ok (.putfield 20, 3) := by decide +kernel
theorem dX3_put_72 : decode cX3_put 72 = .ok (.iload 5, 2) := by decide +kernel
theorem dX3_put_74 : decode cX3_put 74 = .ok (.ireturn, 1) := by decide +kernel
set_option maxRecDepth 20000 in
theorem ggX3_turn_X2_set : GoodIn wsX3_turn wsX2_set := goodIn_r _ [6, 7, 8, 9, 10, 5, 11, 12, 13, 16, 17, 18] (by decide +kernel) (by decide +kernel)
set_option maxRecDepth 20000 in
theorem gX3_turn_X2_set : GoodIn wsX3_turn (wsV RX3 28 RX2 yX2_set wsX2_set) := goodIn_app (goodIn_of _ (by decide +kernel)) ggX3_turn_X2_set
theorem dX3_turn_0 : decode cX3_turn 0 = .ok (.aload_n 0, 1) := by decide +kernel
theorem dX3_turn_1 : decode cX3_turn 1 = .ok (.getfield 16, 3) := by decide +kernel
theorem dX3_turn_4 : decode cX3_turn 4 = .ok (.iload_n 1, 1) := by decide +kernel
theorem dX3_turn_5 : decode cX3_turn 5 = .ok (.iconst 0, 1) := by decide +kernel
theorem dX3_turn_6 : decode cX3_turn 6 = .ok (.iload_n 2, 1) := by decide +kernel
theorem dX3_turn_7 : decode cX3_turn 7 = .ok (.invokevirtual 28, 3) := by decide +kernel
theorem dX3_turn_10 : decode cX3_turn 10 = .ok (.aload_n 0, 1) := by decide +kernel
theorem dX3_turn_11 : decode cX3_turn 11 = .ok (.getfield 16, 3) := by decide +kernel
theorem dX3_turn_14 : decode cX3_turn 14 = .ok (.iload_n 1, 1) := by decide +kernel
theorem dX3_turn_15 : decode cX3_turn 15 = .ok (.iconst 5, 1) := by decide +kernel
theorem dX3_turn_16 : decode cX3_turn 16 = .ok (.iload_n 3, 1) := by decide +kernel
theorem dX3_turn_17 : decode cX3_turn 17 = .ok (.invokevirtual 28, 3) := by decide +kernel
theorem dX3_turn_20 : decode cX3_turn 20 = .ok (.return_, 1) := by decide +kernel
set_option maxRecDepth 20000 in
theorem ggX3_isOf_X3_of : GoodIn wsX3_isOf wsX3_of := goodIn_r _ [5, 6, 7, 8, 9, 10, 11, 12, 13, 14, 15, 16, 17, 18, 19, 20, 21, 22, 23] (by decide +kernel) (by decide +kernel)
set_option maxRecDepth 20000 in
theorem gX3_isOf_X3_of : GoodIn wsX3_isOf (wsV RX3 32 RX3 yX3_of wsX3_of) := goodIn_app (goodIn_of _ (by decide +kernel)) ggX3_isOf_X3_of
theorem dX3_isOf_0 : decode cX3_isOf 0 = .ok (.aload_n 0, 1) := by decide +kernel
theorem dX3_isOf_1 : decode cX3_isOf 1 = .ok (.iload_n 1, 1) := by decide +kernel
theorem dX3_isOf_2 : decode cX3_isOf 2 = .ok (.iconst 1, 1) := by decide +kernel
theorem dX3_isOf_3 : decode cX3_isOf 3 = .ok (.invokevirtual 32, 3) := by decide +kernel
theorem dX3_isOf_6 : decode cX3_isOf 6 = .ok (.iload_n 2, 1) := by decide +kernel
theorem dX3_isOf_7 : decode cX3_isOf 7 = .ok (.if_icmp .eq 13, 3) := by decide +kernel
theorem dX3_isOf_10 : decode cX3_isOf 10 = .ok (.aload_n 0, 1) := by decide +kernel
theorem dX3_isOf_11 : decode cX3_isOf 11 = .ok (.iload_n 1, 1) := by decide +kernel
theorem dX3_isOf_12 : decode cX3_isOf 12 = .ok (.iconst 2, 1) := by decide +kernel
theorem dX3_isOf_13 : decode cX3_isOf 13 = .ok (.invokevirtual 32, 3) := by decide +kernel
theorem dX3_isOf_16 : decode cX3_isOf 16 = .ok (.iload_n 2, 1) := by decide +kernel
theorem dX3_isOf_17 : decode cX3_isOf 17 = .ok (.if_icmp .ne 7, 3) := by decide +kernel
theorem dX3_isOf_20 : decode cX3_isOf 20 = .ok (.iconst 1, 1) := by decide +kernel
theorem dX3_isOf_21 : decode cX3_isOf 21 = .ok (.goto 4, 3) := by decide +kernel
theorem dX3_isOf_24 : decode cX3_isOf 24 = .ok (.iconst 0, 1) := by decide +kernel
theorem dX3_isOf_25 : decode cX3_isOf 25 = .ok (.ireturn, 1) := by decide +kernel
set_option maxRecDepth 20000 in
theorem ggX3_hasDisputedOf_X3_isOf : GoodIn wsX3_hasDisputedOf wsX3_isOf := goodIn_r _ [6, 7, 8, 9, 5, 10, 11, 12, 13, 14, 15, 16, 17, 18, 19, 20, 21, 22, 23, 24, 25, 26, 27, 28] (by decide +kernel) (by decide +kernel)
set_option maxRecDepth 20000 in
theorem gX3_hasDisputedOf_X3_isOf : GoodIn wsX3_hasDisputedOf (wsV RX3 35 RX3 yX3_isOf wsX3_isOf) := goodIn_app (goodIn_of _ (by decide +kernel)) ggX3_hasDisputedOf_X3_isOf
set_option maxRecDepth 20000 in
theorem ggX3_hasDisputedOf_X3_of : GoodIn wsX3_hasDisputedOf wsX3_of := goodIn_r _ [10, 11, 12, 13, 14, 15, 16, 17, 18, 19, 20, 21, 22, 23, 24, 25, 26, 27, 28] (by decide +kernel) (by decide +kernel)
set_option maxRecDepth 20000 in
theorem gX3_hasDisputedOf_X3_of : GoodIn wsX3_hasDisputedOf (wsV RX3 32 RX3 yX3_of wsX3_of) := goodIn_app (goodIn_of _ (by decide +kernel)) ggX3_hasDisputedOf_X3_of
theorem dX3_hasDisputedOf_0 : decode cX3_hasDisputedOf 0 = .ok (.iconst 0, 1) := by decide +kernel
theorem dX3_hasDisputedOf_1 : decode cX3_hasDisputedOf 1 = .ok (.istore_n 2, 1) := by decide +kernel
theorem dX3_hasDisputedOf_2 : decode cX3_hasDisputedOf 2 = .ok (.iload_n 2, 1) := by decide +kernel
theorem dX3_hasDisputedOf_3 : decode cX3_hasDisputedOf 3 = .ok (.aload_n 0, 1) := by decide +kernel
theorem dX3_hasDisputedOf_4 : decode cX3_hasDisputedOf 4 = .ok (.getfield 20, 3) := by decide +kernel
theorem dX3_hasDisputedOf_7 : decode cX3_hasDisputedOf 7 = .ok (.if_icmp .ge 30, 3) := by decide +kernel
theorem dX3_hasDisputedOf_10 : decode cX3_hasDisputedOf 10 = .ok (.aload_n 0, 1) := by decide +kernel
theorem dX3_hasDisputedOf_11 : decode cX3_hasDisputedOf 11 = .ok (.iload_n 2, 1) := by decide +kernel
theorem dX3_hasDisputedOf_12 : decode cX3_hasDisputedOf 12 = .ok (.iload_n 1, 1) := by decide +kernel
theorem dX3_hasDisputedOf_13 : decode cX3_hasDisputedOf 13 = .ok (.invokevirtual 35, 3) := by decide +kernel
theorem dX3_hasDisputedOf_16 : decode cX3_hasDisputedOf 16 = .ok (.ifCond .eq 15, 3) := by decide +kernel
theorem dX3_hasDisputedOf_19 : decode cX3_hasDisputedOf 19 = .ok (.aload_n 0, 1) := by decide +kernel
theorem dX3_hasDisputedOf_20 : decode cX3_hasDisputedOf 20 = .ok (.iload_n 2, 1) := by decide +kernel
theorem dX3_hasDisputedOf_21 : decode cX3_hasDisputedOf 21 = .ok (.iconst 0, 1) := by decide +kernel
theorem dX3_hasDisputedOf_22 : decode cX3_hasDisputedOf 22 = .ok (.invokevirtual 32, 3) := by decide +kernel
theorem dX3_hasDisputedOf_25 : decode cX3_hasDisputedOf 25 = .ok (.iconst 1, 1) := by decide +kernel
theorem dX3_hasDisputedOf_26 : decode cX3_hasDisputedOf 26 = .ok (.if_icmp .ne 5, 3) := by decide +kernel
theorem dX3_hasDisputedOf_29 : decode cX3_hasDisputedOf 29 = .ok (.iconst 1, 1) := by decide +kernel
theorem dX3_hasDisputedOf_30 : decode cX3_hasDisputedOf 30 = .ok (.ireturn, 1) := by decide +kernel
theorem dX3_hasDisputedOf_31 : decode cX3_hasDisputedOf 31 = .ok (.iinc 2 1, 3) := by decide +kernel
theorem dX3_hasDisputedOf_34 : decode cX3_hasDisputedOf 34 = .ok (.goto (-32), 3) := by decide +kernel
theorem dX3_hasDisputedOf_37 : decode cX3_hasDisputedOf 37 = .ok (.iconst 0, 1) := by decide +kernel
theorem dX3_hasDisputedOf_38 : decode cX3_hasDisputedOf 38 = .ok (.ireturn, 1) := by decide +kernel
set_option maxRecDepth 20000 in
theorem ggX3_hasSince_X3_isOf : GoodIn wsX3_hasSince wsX3_isOf := goodIn_r _ [6, 7, 8, 9, 5, 10, 11, 12, 13, 14, 15, 16, 17, 18, 19, 20, 21, 22, 23, 24, 25, 26, 27, 28] (by decide +kernel) (by decide +kernel)
set_option maxRecDepth 20000 in
theorem gX3_hasSince_X3_isOf : GoodIn wsX3_hasSince (wsV RX3 35 RX3 yX3_isOf wsX3_isOf) := goodIn_app (goodIn_of _ (by decide +kernel)) ggX3_hasSince_X3_isOf
set_option maxRecDepth 20000 in
theorem ggX3_hasSince_X3_of : GoodIn wsX3_hasSince wsX3_of := goodIn_r _ [10, 11, 12, 13, 14, 15, 16, 17, 18, 19, 20, 21, 22, 23, 24, 25, 26, 27, 28] (by decide +kernel) (by decide +kernel)
set_option maxRecDepth 20000 in
theorem gX3_hasSince_X3_of : GoodIn wsX3_hasSince (wsV RX3 32 RX3 yX3_of wsX3_of) := goodIn_app (goodIn_of _ (by decide +kernel)) ggX3_hasSince_X3_of
theorem dX3_hasSince_0 : decode cX3_hasSince 0 = .ok (.iconst 0, 1) := by decide +kernel
theorem dX3_hasSince_1 : decode cX3_hasSince 1 = .ok (.istore_n 3, 1) := by decide +kernel
theorem dX3_hasSince_2 : decode cX3_hasSince 2 = .ok (.iload_n 3, 1) := by decide +kernel
theorem dX3_hasSince_3 : decode cX3_hasSince 3 = .ok (.aload_n 0, 1) := by decide +kernel
theorem dX3_hasSince_4 : decode cX3_hasSince 4 = .ok (.getfield 20, 3) := by decide +kernel
theorem dX3_hasSince_7 : decode cX3_hasSince 7 = .ok (.if_icmp .ge 30, 3) := by decide +kernel
theorem dX3_hasSince_10 : decode cX3_hasSince 10 = .ok (.aload_n 0, 1) := by decide +kernel
theorem dX3_hasSince_11 : decode cX3_hasSince 11 = .ok (.iload_n 3, 1) := by decide +kernel
theorem dX3_hasSince_12 : decode cX3_hasSince 12 = .ok (.iload_n 1, 1) := by decide +kernel
theorem dX3_hasSince_13 : decode cX3_hasSince 13 = .ok (.invokevirtual 35, 3) := by decide +kernel
theorem dX3_hasSince_16 : decode cX3_hasSince 16 = .ok (.ifCond .eq 15, 3) := by decide +kernel
theorem dX3_hasSince_19 : decode cX3_hasSince 19 = .ok (.aload_n 0, 1) := by decide +kernel
theorem dX3_hasSince_20 : decode cX3_hasSince 20 = .ok (.iload_n 3, 1) := by decide +kernel
theorem dX3_hasSince_21 : decode cX3_hasSince 21 = .ok (.iconst 4, 1) := by decide +kernel
theorem dX3_hasSince_22 : decode cX3_hasSince 22 = .ok (.invokevirtual 32, 3) := by decide +kernel
theorem dX3_hasSince_25 : decode cX3_hasSince 25 = .ok (.iload_n 2, 1) := by decide +kernel
theorem dX3_hasSince_26 : decode cX3_hasSince 26 = .ok (.if_icmp .lt 5, 3) := by decide +kernel
theorem dX3_hasSince_29 : decode cX3_hasSince 29 = .ok (.iconst 1, 1) := by decide +kernel
theorem dX3_hasSince_30 : decode cX3_hasSince 30 = .ok (.ireturn, 1) := by decide +kernel
theorem dX3_hasSince_31 : decode cX3_hasSince 31 = .ok (.iinc 3 1, 3) := by decide +kernel
theorem dX3_hasSince_34 : decode cX3_hasSince 34 = .ok (.goto (-32), 3) := by decide +kernel
theorem dX3_hasSince_37 : decode cX3_hasSince 37 = .ok (.iconst 0, 1) := by decide +kernel
theorem dX3_hasSince_38 : decode cX3_hasSince 38 = .ok (.ireturn, 1) := by decide +kernel
set_option maxRecDepth 20000 in
theorem ggX3_amountsSince_X3_isOf : GoodIn wsX3_amountsSince wsX3_isOf := goodIn_r _ [6, 7, 8, 9, 5, 10, 11, 12, 13, 14, 15, 16, 17, 18, 19, 20, 21, 22, 23, 24, 25, 26, 27, 28] (by decide +kernel) (by decide +kernel)
set_option maxRecDepth 20000 in
theorem gX3_amountsSince_X3_isOf : GoodIn wsX3_amountsSince (wsV RX3 35 RX3 yX3_isOf wsX3_isOf) := goodIn_app (goodIn_of _ (by decide +kernel)) ggX3_amountsSince_X3_isOf
set_option maxRecDepth 20000 in
theorem ggX3_amountsSince_X3_of : GoodIn wsX3_amountsSince wsX3_of := goodIn_r _ [10, 11, 12, 13, 14, 15, 16, 17, 18, 19, 20, 21, 22, 23, 24, 25, 26, 27, 28] (by decide +kernel) (by decide +kernel)
set_option maxRecDepth 20000 in
theorem gX3_amountsSince_X3_of : GoodIn wsX3_amountsSince (wsV RX3 32 RX3 yX3_of wsX3_of) := goodIn_app (goodIn_of _ (by decide +kernel)) ggX3_amountsSince_X3_of
theorem dX3_amountsSince_0 : decode cX3_amountsSince 0 = .ok (.iconst 0, 1) := by decide +kernel
theorem dX3_amountsSince_1 : decode cX3_amountsSince 1 = .ok (.istore_n 3, 1) := by decide +kernel
theorem dX3_amountsSince_2 : decode cX3_amountsSince 2 = .ok (.iconst 0, 1) := by decide +kernel
theorem dX3_amountsSince_3 : decode cX3_amountsSince 3 = .ok (.istore 4, 2) := by decide +kernel
theorem dX3_amountsSince_5 : decode cX3_amountsSince 5 = .ok (.iload 4, 2) := by decide +kernel
theorem dX3_amountsSince_7 : decode cX3_amountsSince 7 = .ok (.aload_n 0, 1) := by decide +kernel
theorem dX3_amountsSince_8 : decode cX3_amountsSince 8 = .ok (.getfield 20, 3) := by decide +kernel
theorem dX3_amountsSince_11 : decode cX3_amountsSince 11 = .ok (.if_icmp .ge 63, 3) := by decide +kernel
theorem dX3_amountsSince_14 : decode cX3_amountsSince 14 = .ok (.aload_n 0, 1) := by decide +kernel
theorem dX3_amountsSince_15 : decode cX3_amountsSince 15 = .ok (.iload 4, 2) := by decide +kernel
theorem dX3_amountsSince_17 : decode cX3_amountsSince 17 = .ok (.iload_n 1, 1) := by decide +kernel
theorem dX3_amountsSince_18 : decode cX3_amountsSince 18 = .ok (.invokevirtual 35, 3) := by decide +kernel
theorem dX3_amountsSince_21 : decode cX3_amountsSince 21 = .ok (.ifCond .eq 18, 3) := by decide +kernel
theorem dX3_amountsSince_24 : decode cX3_amountsSince 24 = .ok (.aload_n 0, 1) := by decide +kernel
theorem dX3_amountsSince_25 : decode cX3_amountsSince 25 = .ok (.iload 4, 2) := by decide +kernel
theorem dX3_amountsSince_27 : decode cX3_amountsSince 27 = .ok (.iconst 0, 1) := by decide +kernel
theorem dX3_amountsSince_28 : decode cX3_amountsSince 28 = .ok (.invokevirtual 32, 3) := by decide +kernel
theorem dX3_amountsSince_31 : decode cX3_amountsSince 31 = .ok (.iconst 2, 1) := by decide +kernel
theorem dX3_amountsSince_32 : decode cX3_amountsSince 32 = .ok (.if_icmp .eq 7, 3) := by decide +kernel
theorem dX3_amountsSince_35 : decode cX3_amountsSince 35 = .ok (.iconst 1, 1) := by decide +kernel
theorem dX3_amountsSince_36 : decode cX3_amountsSince 36 = .ok (.goto 4, 3) := by decide +kernel
theorem dX3_amountsSince_39 : decode cX3_amountsSince 39 = .ok (.iconst 0, 1) := by decide +kernel
theorem dX3_amountsSince_40 : decode cX3_amountsSince 40 = .ok (.istore 5, 2) := by decide +kernel
theorem dX3_amountsSince_42 : decode cX3_amountsSince 42 = .ok (.iload 5, 2) := by decide +kernel
theorem dX3_amountsSince_44 : decode cX3_amountsSince 44 = .ok (.ifCond .eq 24, 3) := by decide +kernel
theorem dX3_amountsSince_47 : decode cX3_amountsSince 47 = .ok (.aload_n 0, 1) := by decide +kernel
theorem dX3_amountsSince_48 : decode cX3_amountsSince 48 = .ok (.iload 4, 2) := by decide +kernel
theorem dX3_amountsSince_50 : decode cX3_amountsSince 50 = .ok (.iconst 4, 1) := by decide +kernel
theorem dX3_amountsSince_51 : decode cX3_amountsSince 51 = .ok (.invokevirtual 32, 3) := by decide +kernel
theorem dX3_amountsSince_54 : decode cX3_amountsSince 54 = .ok (.iload_n 2, 1) := by decide +kernel
theorem dX3_amountsSince_55 : decode cX3_amountsSince 55 = .ok (.if_icmp .lt 13, 3) := by decide +kernel
theorem dX3_amountsSince_58 : decode cX3_amountsSince 58 = .ok (.iload_n 3, 1) := by decide +kernel
theorem dX3_amountsSince_59 : decode cX3_amountsSince 59 = .ok (.aload_n 0, 1) := by decide +kernel
theorem dX3_amountsSince_60 : decode cX3_amountsSince 60 = .ok (.iload 4, 2) := by decide +kernel
theorem dX3_amountsSince_62 : decode cX3_amountsSince 62 = .ok (.iconst 3, 1) := by decide +kernel
theorem dX3_amountsSince_63 : decode cX3_amountsSince 63 = .ok (.invokevirtual 32, 3) := by decide +kernel
theorem dX3_amountsSince_66 : decode cX3_amountsSince 66 = .ok (.iadd, 1) := by decide +kernel
theorem dX3_amountsSince_67 : decode cX3_amountsSince 67 = .ok (.istore_n 3, 1) := by decide +kernel
theorem dX3_amountsSince_68 : decode cX3_amountsSince 68 = .ok (.iinc 4 1, 3) := by decide +kernel
theorem dX3_amountsSince_71 : decode cX3_amountsSince 71 = .ok (.goto (-66), 3) := by decide +kernel
theorem dX3_amountsSince_74 : decode cX3_amountsSince 74 = .ok (.iload_n 3, 1) := by decide +kernel
theorem dX3_amountsSince_75 : decode cX3_amountsSince 75 = .ok (.ireturn, 1) := by decide +kernel
set_option maxRecDepth 20000 in
theorem ggX3_balanceOf_X3_of : GoodIn wsX3_balanceOf wsX3_of := goodIn_r _ [6, 7, 8, 9, 10, 11, 12, 13, 14, 15, 16, 17, 18, 19, 20, 21, 22, 23, 24] (by decide +kernel) (by decide +kernel)
set_option maxRecDepth 20000 in
theorem gX3_balanceOf_X3_of : GoodIn wsX3_balanceOf (wsV RX3 32 RX3 yX3_of wsX3_of) := goodIn_app (goodIn_of _ (by decide +kernel)) ggX3_balanceOf_X3_of
theorem dX3_balanceOf_0 : decode cX3_balanceOf 0 = .ok (.iconst 0, 1) := by decide +kernel
theorem dX3_balanceOf_1 : decode cX3_balanceOf 1 = .ok (.istore_n 2, 1) := by decide +kernel
theorem dX3_balanceOf_2 : decode cX3_balanceOf 2 = .ok (.iconst 0, 1) := by decide +kernel
theorem dX3_balanceOf_3 : decode cX3_balanceOf 3 = .ok (.istore_n 3, 1) := by decide +kernel
theorem dX3_balanceOf_4 : decode cX3_balanceOf 4 = .ok (.iload_n 3, 1) := by decide +kernel
theorem dX3_balanceOf_5 : decode cX3_balanceOf 5 = .ok (.aload_n 0, 1) := by decide +kernel
theorem dX3_balanceOf_6 : decode cX3_balanceOf 6 = .ok (.getfield 20, 3) := by decide +kernel
theorem dX3_balanceOf_9 : decode cX3_balanceOf 9 = .ok (.if_icmp .ge 67, 3) := by decide +kernel
theorem dX3_balanceOf_12 : decode cX3_balanceOf 12 = .ok (.aload_n 0, 1) := by decide +kernel
theorem dX3_balanceOf_13 : decode cX3_balanceOf 13 = .ok (.iload_n 3, 1) := by decide +kernel
theorem dX3_balanceOf_14 : decode cX3_balanceOf 14 = .ok (.iconst 0, 1) := by decide +kernel
theorem dX3_balanceOf_15 : decode cX3_balanceOf 15 = .ok (.invokevirtual 32, 3) := by decide +kernel
theorem dX3_balanceOf_18 : decode cX3_balanceOf 18 = .ok (.iconst 2, 1) := by decide +kernel
theorem dX3_balanceOf_19 : decode cX3_balanceOf 19 = .ok (.if_icmp .eq 22, 3) := by decide +kernel
theorem dX3_balanceOf_22 : decode cX3_balanceOf 22 = .ok (.aload_n 0, 1) := by decide +kernel
theorem dX3_balanceOf_23 : decode cX3_balanceOf 23 = .ok (.iload_n 3, 1) := by decide +kernel
theorem dX3_balanceOf_24 : decode cX3_balanceOf 24 = .ok (.iconst 2, 1) := by decide +kernel
theorem dX3_balanceOf_25 : decode cX3_balanceOf 25 = .ok (.invokevirtual 32, 3) := by decide +kernel
theorem dX3_balanceOf_28 : decode cX3_balanceOf 28 = .ok (.iload_n 1, 1) := by decide +kernel
theorem dX3_balanceOf_29 : decode cX3_balanceOf 29 = .ok (.if_icmp .ne 12, 3) := by decide +kernel
theorem dX3_balanceOf_32 : decode cX3_balanceOf 32 = .ok (.iload_n 2, 1) := by decide +kernel
theorem dX3_balanceOf_33 : decode cX3_balanceOf 33 = .ok (.aload_n 0, 1) := by decide +kernel
theorem dX3_balanceOf_34 : decode cX3_balanceOf 34 = .ok (.iload_n 3, 1) := by decide +kernel
theorem dX3_balanceOf_35 : decode cX3_balanceOf 35 = .ok (.iconst 3, 1) := by decide +kernel
theorem dX3_balanceOf_36 : decode cX3_balanceOf 36 = .ok (.invokevirtual 32, 3) := by decide +kernel
theorem dX3_balanceOf_39 : decode cX3_balanceOf 39 = .ok (.iadd, 1) := by decide +kernel
theorem dX3_balanceOf_40 : decode cX3_balanceOf 40 = .ok (.istore_n 2, 1) := by decide +kernel
theorem dX3_balanceOf_41 : decode cX3_balanceOf 41 = .ok (.aload_n 0, 1) := by decide +kernel
theorem dX3_balanceOf_42 : decode cX3_balanceOf 42 = .ok (.iload_n 3, 1) := by decide +kernel
theorem dX3_balanceOf_43 : decode cX3_balanceOf 43 = .ok (.iconst 0, 1) := by decide +kernel
theorem dX3_balanceOf_44 : decode cX3_balanceOf 44 = .ok (.invokevirtual 32, 3) := by decide +kernel
theorem dX3_balanceOf_47 : decode cX3_balanceOf 47 = .ok (.iconst 2, 1) := by decide +kernel
theorem dX3_balanceOf_48 : decode cX3_balanceOf 48 = .ok (.if_icmp .eq 22, 3) := by decide +kernel
theorem dX3_balanceOf_51 : decode cX3_balanceOf 51 = .ok (.aload_n 0, 1) := by decide +kernel
theorem dX3_balanceOf_52 : decode cX3_balanceOf 52 = .ok (.iload_n 3, 1) := by decide +kernel
theorem dX3_balanceOf_53 : decode cX3_balanceOf 53 = .ok (.iconst 1, 1) := by decide +kernel
theorem dX3_balanceOf_54 : decode cX3_balanceOf 54 = .ok (.invokevirtual 32, 3) := by decide +kernel
theorem dX3_balanceOf_57 : decode cX3_balanceOf 57 = .ok (.iload_n 1, 1) := by decide +kernel
theorem dX3_balanceOf_58 : decode cX3_balanceOf 58 = .ok (.if_icmp .ne 12, 3) := by decide +kernel
theorem dX3_balanceOf_61 : decode cX3_balanceOf 61 = .ok (.iload_n 2, 1) := by decide +kernel
theorem dX3_balanceOf_62 : decode cX3_balanceOf 62 = .ok (.aload_n 0, 1) := by decide +kernel
theorem dX3_balanceOf_63 : decode cX3_balanceOf 63 = .ok (.iload_n 3, 1) := by decide +kernel
theorem dX3_balanceOf_64 : decode cX3_balanceOf 64 = .ok (.iconst 3, 1) := by decide +kernel
theorem dX3_balanceOf_65 : decode cX3_balanceOf 65 = .ok (.invokevirtual 32, 3) := by decide +kernel
theorem dX3_balanceOf_68 : decode cX3_balanceOf 68 = .ok (.isub, 1) := by decide +kernel
theorem dX3_balanceOf_69 : decode cX3_balanceOf 69 = .ok (.istore_n 2, 1) := by decide +kernel
theorem dX3_balanceOf_70 : decode cX3_balanceOf 70 = .ok (.iinc 3 1, 3) := by decide +kernel
theorem dX3_balanceOf_73 : decode cX3_balanceOf 73 = .ok (.goto (-69), 3) := by decide +kernel
theorem dX3_balanceOf_76 : decode cX3_balanceOf 76 = .ok (.iload_n 2, 1) := by decide +kernel
theorem dX3_balanceOf_77 : decode cX3_balanceOf 77 = .ok (.ireturn, 1) := by decide +kernel
set_option maxRecDepth 20000 in
theorem ggX4_init_X2_init : GoodIn wsX4_init wsX2_init := goodIn_r _ [27, 28, 2, 3, 29, 30, 31, 32, 33, 34, 35, 36, 37, 38, 39, 61, 62, 63] (by decide +kernel) (by decide +kernel)
set_option maxRecDepth 20000 in
theorem gX4_init_X2_init : GoodIn wsX4_init (wsX2_init) := ggX4_init_X2_init
set_option maxRecDepth 20000 in
theorem ggX4_init_X3_init : GoodIn wsX4_init wsX3_init := goodIn_r _ [41, 42, 2, 3, 43, 5, 6, 44, 45, 46, 26, 27, 28, 29, 30, 31, 32, 33, 34, 35, 36, 37, 38, 39, 61, 62, 63, 73, 74] (by decide +kernel) (by decide +kernel)
set_option maxRecDepth 20000 in
theorem gX4_init_X3_init_n20 : GoodIn wsX4_init (wsX3_init) := ggX4_init_X3_init
set_option maxRecDepth 20000 in
theorem ggX4_init_X0_init : GoodIn wsX4_init wsX0_init := goodIn_r _ [48, 49, 2, 3, 50, 5, 6, 51, 52, 53, 26, 27, 28, 29, 30, 31, 32, 33, 34, 35, 36, 37, 38, 39, 61, 62, 63, 75, 76] (by decide +kernel) (by decide +kernel)
set_option maxRecDepth 20000 in
theorem gX4_init_X0_init_n27 : GoodIn wsX4_init (wsX0_init) := ggX4_init_X0_init
set_option maxRecDepth 20000 in
theorem ggX4_init_X1_init : GoodIn wsX4_init wsX1_init := goodIn_r _ [55, 56, 2, 3, 57, 5, 6, 58, 59, 60, 26, 27, 28, 29, 30, 31, 32, 33, 34, 35, 36, 37, 38, 39, 61, 62, 63, 77, 78] (by decide +kernel) (by decide +kernel)
set_option maxRecDepth 20000 in
theorem gX4_init_X1_init_n40 : GoodIn wsX4_init (wsX1_init) := ggX4_init_X1_init
theorem dX4_init_0 : decode cX4_init 0 = .ok (.aload_n 0, 1) := by decide +kernel
theorem dX4_init_1 : decode cX4_init 1 = .ok (.invokespecial 1, 3) := by decide +kernel
theorem dX4_init_4 : decode cX4_init 4 = .ok (.aload_n 0, 1) := by decide +kernel
theorem dX4_init_5 : decode cX4_init 5 = .ok (.new 7, 3) := by decide +kernel
theorem dX4_init_8 : decode cX4_init 8 = .ok (.dup, 1) := by decide +kernel
theorem dX4_init_9 : decode cX4_init 9 = .ok (.bipush 8, 2) := by decide +kernel
theorem dX4_init_11 : decode cX4_init 11 = .ok (.iconst 2, 1) := by decide +kernel
theorem dX4_init_12 : decode cX4_init 12 = .ok (.invokespecial 11, 3) := by decide +kernel
theorem dX4_init_15 : decode cX4_init 15 = .ok (.putfield 14, 3) := by decide +kernel
theorem dX4_init_18 : decode cX4_init 18 = .ok (.aload_n 0, 1) := by decide +kernel
theorem dX4_init_19 : decode cX4_init 19 = .ok (.new 18, 3) := by decide +kernel
theorem dX4_init_22 : decode cX4_init 22 = .ok (.dup, 1) := by decide +kernel
theorem dX4_init_23 : decode cX4_init 23 = .ok (.invokespecial 20, 3) := by decide +kernel
theorem dX4_init_26 : decode cX4_init 26 = .ok (.putfield 21, 3) := by decide +kernel
theorem dX4_init_29 : decode cX4_init 29 = .ok (.aload_n 0, 1) := by decide +kernel
theorem dX4_init_30 : decode cX4_init 30 = .ok (.new 25, 3) := by decide +kernel
theorem dX4_init_33 : decode cX4_init 33 = .ok (.dup, 1) := by decide +kernel
theorem dX4_init_34 : decode cX4_init 34 = .ok (.invokespecial 27, 3) := by decide +kernel
theorem dX4_init_37 : decode cX4_init 37 = .ok (.putfield 28, 3) := by decide +kernel
theorem dX4_init_40 : decode cX4_init 40 = .ok (.aload_n 0, 1) := by decide +kernel
theorem dX4_init_41 : decode cX4_init 41 = .ok (.new 7, 3) := by decide +kernel
theorem dX4_init_44 : decode cX4_init 44 = .ok (.dup, 1) := by decide +kernel
theorem dX4_init_45 : decode cX4_init 45 = .ok (.bipush 9, 2) := by decide +kernel
theorem dX4_init_47 : decode cX4_init 47 = .ok (.bipush 9, 2) := by decide +kernel
theorem dX4_init_49 : decode cX4_init 49 = .ok (.invokespecial 11, 3) := by decide +kernel
theorem dX4_init_52 : decode cX4_init 52 = .ok (.putfield 32, 3) := by decide +kernel
theorem dX4_init_55 : decode cX4_init 55 = .ok (.aload_n 0, 1) := by decide +kernel
theorem dX4_init_56 : decode cX4_init 56 = .ok (.new 7, 3) := by decide +kernel
theorem dX4_init_59 : decode cX4_init 59 = .ok (.dup, 1) := by decide +kernel
theorem dX4_init_60 : decode cX4_init 60 = .ok (.bipush 9, 2) := by decide +kernel
theorem dX4_init_62 : decode cX4_init 62 = .ok (.bipush 9, 2) := by decide +kernel
theorem dX4_init_64 : decode cX4_init 64 = .ok (.invokespecial 11, 3) := by decide +kernel
theorem dX4_init_67 : decode cX4_init 67 = .ok (.putfield 35, 3) := by decide +kernel
theorem dX4_init_70 : decode cX4_init 70 = .ok (.aload_n 0, 1) := by decide +kernel
theorem dX4_init_71 : decode cX4_init 71 = .ok (.new 38, 3) := by decide +kernel
theorem dX4_init_74 : decode cX4_init 74 = .ok (.dup, 1) := by decide +kernel
theorem dX4_init_75 : decode cX4_init 75 = .ok (.invokespecial 40, 3) := by decide +kernel
theorem dX4_init_78 : decode cX4_init 78 = .ok (.putfield 41, 3) := by decide +kernel
theorem dX4_init_81 : decode cX4_init 81 = .ok (.aload_n 0, 1) := by decide +kernel
theorem dX4_init_82 : decode cX4_init 82 = .ok (.iconst 0, 1) := by decide +kernel
theorem dX4_init_83 : decode cX4_init 83 = .ok (.putfield 45, 3) := by decide +kernel
theorem dX4_init_86 : decode cX4_init 86 = .ok (.aload_n 0, 1) := by decide +kernel
theorem dX4_init_87 : decode cX4_init 87 = .ok (.iconst 0, 1) := by decide +kernel
theorem dX4_init_88 : decode cX4_init 88 = .ok (.putfield 49, 3) := by decide +kernel
theorem dX4_init_91 : decode cX4_init 91 = .ok (.aload_n 0, 1) := by decide +kernel
theorem dX4_init_92 : decode cX4_init 92 = .ok (.bipush 10, 2) := by decide +kernel
theorem dX4_init_94 : decode cX4_init 94 = .ok (.putfield 52, 3) := by decide +kernel
theorem dX4_init_97 : decode cX4_init 97 = .ok (.return_, 1) := by decide +kernel
theorem dX4_join_0 : decode cX4_join 0 = .ok (.aload_n 0, 1) := by decide +kernel
theorem dX4_join_1 : decode cX4_join 1 = .ok (.getfield 45, 3) := by decide +kernel
theorem dX4_join_4 : decode cX4_join 4 = .ok (.bipush 8, 2) := by decide +kernel
theorem dX4_join_6 : decode cX4_join 6 = .ok (.if_icmp .lt 13, 3) := by decide +kernel
theorem dX4_join_9 : decode cX4_join 9 = .ok (.new 55, 3) := by decide +kernel
theorem dX4_join_12 : decode cX4_join 12 = .ok (.dup, 1) := by decide +kernel
theorem dX4_join_13 : decode cX4_join 13 = .ok (.ldc 57, 2) := by decide +kernel
theorem dX4_join_15 : decode cX4_join 15 = .ok (.invokespecial 59, 3) := by decide +kernel
theorem dX4_join_18 : decode cX4_join 18 = .ok (.athrow, 1) := by decide +kernel
theorem dX4_join_19 : decode cX4_join 19 = .ok (.aload_n 0, 1) := by decide +kernel
theorem dX4_join_20 : decode cX4_join 20 = .ok (.dup, 1) := by decide +kernel
theorem dX4_join_21 : decode cX4_join 21 = .ok (.getfield 45, 3) := by decide +kernel
theorem dX4_join_24 : decode cX4_join 24 = .ok (.iconst 1, 1) := by decide +kernel
theorem dX4_join_25 : decode cX4_join 25 = .ok (.iadd, 1) := by decide +kernel
theorem dX4_join_26 : decode cX4_join 26 = .ok (.putfield 45, 3) := by decide +kernel
theorem dX4_join_29 : decode cX4_join 29 = .ok (.aload_n 0, 1) := by decide +kernel
theorem dX4_join_30 : decode cX4_join 30 = .ok (.getfield 45, 3) := by decide +kernel
theorem dX4_join_33 : decode cX4_join 33 = .ok (.iconst 1, 1) := by decide +kernel
theorem dX4_join_34 : decode cX4_join 34 = .ok (.isub, 1) := by decide +kernel
theorem dX4_join_35 : decode cX4_join 35 = .ok (.ireturn, 1) := by decide +kernel
set_option maxRecDepth 20000 in
theorem ggX4_leave_X4_needShop : GoodIn wsX4_leave wsX4_needShop := goodIn_ca (goodIn_r _ [10, 11, 12, 13, 14, 15, 9, 16, 5, 17, 18, 19, 20, 21, 22, 23, 24, 25, 26, 27, 28, 29, 30, 31, 32, 33, 102, 103, 104, 105, 106, 107, 108, 109, 110, 111, 112, 113] (by decide +kernel) (by decide +kernel)) (goodIn_sub (fun _ h => List.mem_cons_of_mem _ (List.mem_append_right _ h)) (by decide +kernel))
set_option maxRecDepth 20000 in
theorem gX4_leave_X4_needShop : GoodIn wsX4_leave (wsV RX4 62 RX4 yX4_needShop wsX4_needShop) := goodIn_app (goodIn_of _ (by decide +kernel)) ggX4_leave_X4_needShop
set_option maxRecDepth 20000 in
theorem ggX4_leave_X3_hasDisputedOf : GoodIn wsX4_leave wsX3_hasDisputedOf := goodIn_r _ [38, 39, 40, 41, 42, 37, 43, 44, 45, 46, 47, 48, 49, 23, 24, 25, 26, 27, 28, 29, 30, 31, 32, 33, 114, 115, 111, 112, 113] (by decide +kernel) (by decide +kernel)
set_option maxRecDepth 20000 in
theorem gX4_leave_X3_hasDisputedOf : GoodIn wsX4_leave (wsV RX4 66 RX3 yX3_hasDisputedOf wsX3_hasDisputedOf) := goodIn_app (goodIn_of _ (by decide +kernel)) ggX4_leave_X3_hasDisputedOf
set_option maxRecDepth 20000 in
theorem ggX4_leave_X4_passDebtsThrough : GoodIn wsX4_leave wsX4_passDebtsThrough := goodIn_r _ [53, 54, 55, 56, 57, 58, 59, 60, 61, 62, 63, 64, 65, 23, 24, 25, 26, 27, 28, 29, 30, 31, 32, 33, 66, 67, 68, 69, 70, 71, 72, 73, 74, 75, 76, 77, 78, 79, 80, 81, 9, 82, 102, 103, 104, 105, 106, 107, 108, 109, 110, 116, 117, 111, 112, 113] (by decide +kernel) (by decide +kernel)
set_option maxRecDepth 20000 in
theorem gX4_leave_X4_passDebtsThrough : GoodIn wsX4_leave (wsV RX4 72 RX4 yX4_passDebtsThrough wsX4_passDebtsThrough) := goodIn_app (goodIn_of _ (by decide +kernel)) ggX4_leave_X4_passDebtsThrough
set_option maxRecDepth 20000 in
theorem ggX4_leave_X4_letGuarantorsPay : GoodIn wsX4_leave wsX4_letGuarantorsPay := goodIn_r _ [86, 54, 4, 55, 56, 57, 58, 87, 59, 60, 61, 62, 63, 64, 65, 23, 24, 25, 26, 27, 28, 29, 30, 31, 32, 33, 22, 88, 71, 72, 73, 74, 75, 76, 77, 78, 79, 80, 81, 9, 82, 66, 67, 68, 69, 70, 102, 103, 104, 105, 106, 107, 108, 109, 110, 116, 117, 111, 112, 113] (by decide +kernel) (by decide +kernel)
set_option maxRecDepth 20000 in
theorem gX4_leave_X4_letGuarantorsPay : GoodIn wsX4_leave (wsV RX4 75 RX4 yX4_letGuarantorsPay wsX4_letGuarantorsPay) := goodIn_app (goodIn_of _ (by decide +kernel)) ggX4_leave_X4_letGuarantorsPay
set_option maxRecDepth 20000 in
theorem ggX4_leave_X4_oweInGoodsBy : GoodIn wsX4_leave wsX4_oweInGoodsBy := goodIn_r _ [92, 54, 87, 59, 60, 61, 62, 63, 64, 65, 23, 24, 25, 26, 27, 28, 29, 30, 31, 32, 33, 66, 67, 68, 69, 70, 71, 72, 73, 74, 75, 76, 77, 78, 88, 102, 103, 104, 105, 106, 107, 108, 109, 110, 116, 117, 111, 112, 113] (by decide +kernel) (by decide +kernel)
set_option maxRecDepth 20000 in
theorem gX4_leave_X4_oweInGoodsBy : GoodIn wsX4_leave (wsV RX4 78 RX4 yX4_oweInGoodsBy wsX4_oweInGoodsBy) := goodIn_app (goodIn_of _ (by decide +kernel)) ggX4_leave_X4_oweInGoodsBy
set_option maxRecDepth 20000 in
theorem ggX4_leave_X4_oweInGoodsTo : GoodIn wsX4_leave wsX4_oweInGoodsTo := goodIn_r _ [96, 54, 87, 59, 60, 61, 62, 63, 64, 65, 23, 24, 25, 26, 27, 28, 29, 30, 31, 32, 33, 66, 67, 68, 69, 70, 71, 72, 73, 74, 75, 76, 77, 78, 88, 102, 103, 104, 105, 106, 107, 108, 109, 110, 116, 117, 111, 112, 113] (by decide +kernel) (by decide +kernel)
set_option maxRecDepth 20000 in
theorem gX4_leave_X4_oweInGoodsTo : GoodIn wsX4_leave (wsV RX4 82 RX4 yX4_oweInGoodsTo wsX4_oweInGoodsTo) := goodIn_app (goodIn_of _ (by decide +kernel)) ggX4_leave_X4_oweInGoodsTo
set_option maxRecDepth 20000 in
theorem ggX4_leave_X2_clearAllOf : GoodIn wsX4_leave wsX2_clearAllOf := goodIn_r _ [100, 75, 76, 77, 25, 78, 27, 28, 29, 30, 31, 32, 33, 111, 112, 113] (by decide +kernel) (by decide +kernel)
set_option maxRecDepth 20000 in
theorem gX4_leave_X2_clearAllOf : GoodIn wsX4_leave (wsV RX4 85 RX2 yX2_clearAllOf wsX2_clearAllOf) := goodIn_app (goodIn_of _ (by decide +kernel)) ggX4_leave_X2_clearAllOf
set_option maxRecDepth 20000 in
theorem ggX4_leave_X2_set : GoodIn wsX4_leave wsX2_set := goodIn_r _ [78, 27, 28, 29, 30, 25, 31, 32, 33, 111, 112, 113] (by decide +kernel) (by decide +kernel)
set_option maxRecDepth 20000 in
theorem gX4_leave_X2_set : GoodIn wsX4_leave (wsV RX4 88 RX2 yX2_set wsX2_set) := goodIn_app (goodIn_of _ (by decide +kernel)) ggX4_leave_X2_set
theorem dX4_leave_0 : decode cX4_leave 0 = .ok (.aload_n 0, 1) := by decide +kernel
theorem dX4_leave_1 : decode cX4_leave 1 = .ok (.iload_n 1, 1) := by decide +kernel
theorem dX4_leave_2 : decode cX4_leave 2 = .ok (.invokevirtual 62, 3) := by decide +kernel
theorem dX4_leave_5 : decode cX4_leave 5 = .ok (.aload_n 0, 1) := by decide +kernel
theorem dX4_leave_6 : decode cX4_leave 6 = .ok (.getfield 21, 3) := by decide +kernel
theorem dX4_leave_9 : decode cX4_leave 9 = .ok (.iload_n 1, 1) := by decide +kernel
theorem dX4_leave_10 : decode cX4_leave 10 = .ok (.invokevirtual 66, 3) := by decide +kernel
theorem dX4_leave_13 : decode cX4_leave 13 = .ok (.ifCond .eq 13, 3) := by decide +kernel
theorem dX4_leave_16 : decode cX4_leave 16 = .ok (.new 55, 3) := by decide +kernel
theorem dX4_leave_19 : decode cX4_leave 19 = .ok (.dup, 1) := by decide +kernel
theorem dX4_leave_20 : decode cX4_leave 20 = .ok (.ldc 70, 2) := by decide +kernel
theorem dX4_leave_22 : decode cX4_leave 22 = .ok (.invokespecial 59, 3) := by decide +kernel
theorem dX4_leave_25 : decode cX4_leave 25 = .ok (.athrow, 1) := by decide +kernel
theorem dX4_leave_26 : decode cX4_leave 26 = .ok (.aload_n 0, 1) := by decide +kernel
theorem dX4_leave_27 : decode cX4_leave 27 = .ok (.iload_n 1, 1) := by decide +kernel
theorem dX4_leave_28 : decode cX4_leave 28 = .ok (.invokevirtual 72, 3) := by decide +kernel
theorem dX4_leave_31 : decode cX4_leave 31 = .ok (.aload_n 0, 1) := by decide +kernel
theorem dX4_leave_32 : decode cX4_leave 32 = .ok (.iload_n 1, 1) := by decide +kernel
theorem dX4_leave_33 : decode cX4_leave 33 = .ok (.invokevirtual 75, 3) := by decide +kernel
theorem dX4_leave_36 : decode cX4_leave 36 = .ok (.aload_n 0, 1) := by decide +kernel
theorem dX4_leave_37 : decode cX4_leave 37 = .ok (.iload_n 1, 1) := by decide +kernel
theorem dX4_leave_38 : decode cX4_leave 38 = .ok (.invokevirtual 78, 3) := by decide +kernel
theorem dX4_leave_41 : decode cX4_leave 41 = .ok (.istore_n 2, 1) := by decide +kernel
theorem dX4_leave_42 : decode cX4_leave 42 = .ok (.aload_n 0, 1) := by decide +kernel
theorem dX4_leave_43 : decode cX4_leave 43 = .ok (.iload_n 1, 1) := by decide +kernel
theorem dX4_leave_44 : decode cX4_leave 44 = .ok (.invokevirtual 82, 3) := by decide +kernel
theorem dX4_leave_47 : decode cX4_leave 47 = .ok (.istore_n 3, 1) := by decide +kernel
theorem dX4_leave_48 : decode cX4_leave 48 = .ok (.aload_n 0, 1) := by decide +kernel
theorem dX4_leave_49 : decode cX4_leave 49 = .ok (.getfield 32, 3) := by decide +kernel
theorem dX4_leave_52 : decode cX4_leave 52 = .ok (.iload_n 1, 1) := by decide +kernel
theorem dX4_leave_53 : decode cX4_leave 53 = .ok (.invokevirtual 85, 3) := by decide +kernel
theorem dX4_leave_56 : decode cX4_leave 56 = .ok (.aload_n 0, 1) := by decide +kernel
theorem dX4_leave_57 : decode cX4_leave 57 = .ok (.getfield 14, 3) := by decide +kernel
theorem dX4_leave_60 : decode cX4_leave 60 = .ok (.iload_n 1, 1) := by decide +kernel
theorem dX4_leave_61 : decode cX4_leave 61 = .ok (.iconst 0, 1) := by decide +kernel
theorem dX4_leave_62 : decode cX4_leave 62 = .ok (.iconst 1, 1) := by decide +kernel
theorem dX4_leave_63 : decode cX4_leave 63 = .ok (.invokevirtual 88, 3) := by decide +kernel
theorem dX4_leave_66 : decode cX4_leave 66 = .ok (.aload_n 0, 1) := by decide +kernel
theorem dX4_leave_67 : decode cX4_leave 67 = .ok (.getfield 14, 3) := by decide +kernel
theorem dX4_leave_70 : decode cX4_leave 70 = .ok (.iload_n 1, 1) := by decide +kernel
theorem dX4_leave_71 : decode cX4_leave 71 = .ok (.iconst 1, 1) := by decide +kernel
theorem dX4_leave_72 : decode cX4_leave 72 = .ok (.iload_n 2, 1) := by decide +kernel
theorem dX4_leave_73 : decode cX4_leave 73 = .ok (.iload_n 3, 1) := by decide +kernel
theorem dX4_leave_74 : decode cX4_leave 74 = .ok (.isub, 1) := by decide +kernel
theorem dX4_leave_75 : decode cX4_leave 75 = .ok (.invokevirtual 88, 3) := by decide +kernel
theorem dX4_leave_78 : decode cX4_leave 78 = .ok (.iload_n 2, 1) := by decide +kernel
theorem dX4_leave_79 : decode cX4_leave 79 = .ok (.iload_n 3, 1) := by decide +kernel
theorem dX4_leave_80 : decode cX4_leave 80 = .ok (.iadd, 1) := by decide +kernel
theorem dX4_leave_81 : decode cX4_leave 81 = .ok (.ireturn, 1) := by decide +kernel
set_option maxRecDepth 20000 in
theorem ggX4_trade_X4_needShop : GoodIn wsX4_trade wsX4_needShop := goodIn_ca (goodIn_r _ [10, 11, 12, 13, 14, 15, 9, 16, 17, 18, 19, 20, 21, 22, 23, 24, 25, 26, 27, 28, 29, 30, 31, 32, 33, 34, 106, 107, 108, 109, 110, 111, 112, 113, 114, 115, 116, 117] (by decide +kernel) (by decide +kernel)) (goodIn_sub (fun _ h => List.mem_cons_of_mem _ (List.mem_append_left _ (List.mem_append_right _ h))) (by decide +kernel))
set_option maxRecDepth 20000 in
theorem gX4_trade_X4_needShop : GoodIn wsX4_trade (wsV RX4 62 RX4 yX4_needShop wsX4_needShop) := goodIn_app (goodIn_of _ (by decide +kernel)) ggX4_trade_X4_needShop
set_option maxRecDepth 20000 in
theorem ggX4_trade_X4_needRange : GoodIn wsX4_trade wsX4_needRange := goodIn_ca (goodIn_r _ [37, 38, 39] (by decide +kernel) (by decide +kernel)) (goodIn_sub (fun _ h => List.mem_cons_of_mem _ (List.mem_append_right _ h)) (by decide +kernel))
set_option maxRecDepth 20000 in
theorem gX4_trade_X4_needRange : GoodIn wsX4_trade (va_wsS RX4 92 yX4_needRange wsX4_needRange) := goodIn_app (goodIn_of _ (by decide +kernel)) ggX4_trade_X4_needRange
set_option maxRecDepth 20000 in
theorem ggX4_trade_X4_needUnlike : GoodIn wsX4_trade wsX4_needUnlike := goodIn_ca (goodIn_r _ [42, 38, 39] (by decide +kernel) (by decide +kernel)) (goodIn_sub (fun _ h => List.mem_cons_of_mem _ (List.mem_append_right _ h)) (by decide +kernel))
set_option maxRecDepth 20000 in
theorem gX4_trade_X4_needUnlike : GoodIn wsX4_trade (va_wsS RX4 95 yX4_needUnlike wsX4_needUnlike) := goodIn_app (goodIn_of _ (by decide +kernel)) ggX4_trade_X4_needUnlike
set_option maxRecDepth 20000 in
theorem ggX4_trade_X3_isFull : GoodIn wsX4_trade wsX3_isFull := goodIn_r _ [47, 48, 118, 119] (by decide +kernel) (by decide +kernel)
set_option maxRecDepth 20000 in
theorem gX4_trade_X3_isFull : GoodIn wsX4_trade (wsV RX4 98 RX3 yX3_isFull wsX3_isFull) := goodIn_app (goodIn_of _ (by decide +kernel)) ggX4_trade_X3_isFull
set_option maxRecDepth 20000 in
theorem ggX4_trade_X4_needBearable : GoodIn wsX4_trade wsX4_needBearable := goodIn_ca (goodIn_r _ [52, 1, 2, 4, 53, 54, 55, 56, 57, 58, 59, 60, 61, 26, 62, 33, 63, 24, 25, 27, 28, 29, 30, 31, 32, 34, 64, 65, 66, 67, 68, 69, 70, 9, 71, 3, 5, 72, 73, 74, 75, 46, 76, 48, 77, 78, 79, 80, 81, 82, 83, 84, 85, 86, 87, 88, 106, 107, 108, 109, 110, 111, 112, 113, 114, 120, 121, 115, 116, 117, 118, 119] (by decide +kernel) (by decide +kernel)) (goodIn_sub (fun _ h => List.mem_cons_of_mem _ (List.mem_append_left _ (List.mem_append_left _ (List.mem_append_right _ h)))) (by decide +kernel))
set_option maxRecDepth 20000 in
theorem gX4_trade_X4_needBearable : GoodIn wsX4_trade (wsV RX4 104 RX4 yX4_needBearable wsX4_needBearable) := goodIn_app (goodIn_of _ (by decide +kernel)) ggX4_trade_X4_needBearable
set_option maxRecDepth 20000 in
theorem ggX4_trade_X0_more : GoodIn wsX4_trade wsX0_more := goodIn_r _ [92, 58, 93, 94, 95, 26, 96, 63, 24, 25, 27, 28, 29, 30, 31, 32, 33, 34, 97, 98, 99, 100, 120, 121, 115, 116, 117] (by decide +kernel) (by decide +kernel)
set_option maxRecDepth 20000 in
theorem gX4_trade_X0_more : GoodIn wsX4_trade (wsV RX4 107 RX0 yX0_more wsX0_more) := goodIn_app (goodIn_of _ (by decide +kernel)) ggX4_trade_X0_more
set_option maxRecDepth 20000 in
theorem ggX4_trade_X3_put : GoodIn wsX4_trade wsX3_put := goodIn_r _ [104, 48, 85, 105, 98, 99, 26, 100, 28, 29, 30, 31, 32, 33, 34, 118, 119, 115, 116, 117] (by decide +kernel) (by decide +kernel)
set_option maxRecDepth 20000 in
theorem gX4_trade_X3_put : GoodIn wsX4_trade (wsV RX4 110 RX3 yX3_put wsX3_put) := goodIn_app (goodIn_of _ (by decide +kernel)) ggX4_trade_X3_put
theorem dX4_trade_0 : decode cX4_trade 0 = .ok (.aload_n 0, 1) := by decide +kernel
theorem dX4_trade_1 : decode cX4_trade 1 = .ok (.iload_n 1, 1) := by decide +kernel
theorem dX4_trade_2 : decode cX4_trade 2 = .ok (.invokevirtual 62, 3) := by decide +kernel
theorem dX4_trade_5 : decode cX4_trade 5 = .ok (.aload_n 0, 1) := by decide +kernel
theorem dX4_trade_6 : decode cX4_trade 6 = .ok (.iload_n 2, 1) := by decide +kernel
theorem dX4_trade_7 : decode cX4_trade 7 = .ok (.invokevirtual 62, 3) := by decide +kernel
theorem dX4_trade_10 : decode cX4_trade 10 = .ok (.iload_n 3, 1) := by decide +kernel
theorem dX4_trade_11 : decode cX4_trade 11 = .ok (.iconst 1, 1) := by decide +kernel
theorem dX4_trade_12 : decode cX4_trade 12 = .ok (.sipush 1000, 3) := by decide +kernel
theorem dX4_trade_15 : decode cX4_trade 15 = .ok (.invokestatic 92, 3) := by decide +kernel
theorem dX4_trade_18 : decode cX4_trade 18 = .ok (.iload_n 1, 1) := by decide +kernel
theorem dX4_trade_19 : decode cX4_trade 19 = .ok (.iload_n 2, 1) := by decide +kernel
theorem dX4_trade_20 : decode cX4_trade 20 = .ok (.invokestatic 95, 3) := by decide +kernel
theorem dX4_trade_23 : decode cX4_trade 23 = .ok (.aload_n 0, 1) := by decide +kernel
theorem dX4_trade_24 : decode cX4_trade 24 = .ok (.getfield 21, 3) := by decide +kernel
theorem dX4_trade_27 : decode cX4_trade 27 = .ok (.invokevirtual 98, 3) := by decide +kernel
theorem dX4_trade_30 : decode cX4_trade 30 = .ok (.ifCond .eq 13, 3) := by decide +kernel
theorem dX4_trade_33 : decode cX4_trade 33 = .ok (.new 55, 3) := by decide +kernel
theorem dX4_trade_36 : decode cX4_trade 36 = .ok (.dup, 1) := by decide +kernel
theorem dX4_trade_37 : decode cX4_trade 37 = .ok (.ldc 102, 2) := by decide +kernel
theorem dX4_trade_39 : decode cX4_trade 39 = .ok (.invokespecial 59, 3) := by decide +kernel
theorem dX4_trade_42 : decode cX4_trade 42 = .ok (.athrow, 1) := by decide +kernel
theorem dX4_trade_43 : decode cX4_trade 43 = .ok (.aload_n 0, 1) := by decide +kernel
theorem dX4_trade_44 : decode cX4_trade 44 = .ok (.iload_n 1, 1) := by decide +kernel
theorem dX4_trade_45 : decode cX4_trade 45 = .ok (.iload_n 3, 1) := by decide +kernel
theorem dX4_trade_46 : decode cX4_trade 46 = .ok (.invokevirtual 104, 3) := by decide +kernel
theorem dX4_trade_49 : decode cX4_trade 49 = .ok (.aload_n 0, 1) := by decide +kernel
theorem dX4_trade_50 : decode cX4_trade 50 = .ok (.getfield 28, 3) := by decide +kernel
theorem dX4_trade_53 : decode cX4_trade 53 = .ok (.iload_n 1, 1) := by decide +kernel
theorem dX4_trade_54 : decode cX4_trade 54 = .ok (.iload_n 2, 1) := by decide +kernel
theorem dX4_trade_55 : decode cX4_trade 55 = .ok (.iload_n 3, 1) := by decide +kernel
theorem dX4_trade_56 : decode cX4_trade 56 = .ok (.invokevirtual 107, 3) := by decide +kernel
theorem dX4_trade_59 : decode cX4_trade 59 = .ok (.aload_n 0, 1) := by decide +kernel
theorem dX4_trade_60 : decode cX4_trade 60 = .ok (.getfield 21, 3) := by decide +kernel
theorem dX4_trade_63 : decode cX4_trade 63 = .ok (.iload_n 1, 1) := by decide +kernel
theorem dX4_trade_64 : decode cX4_trade 64 = .ok (.iload_n 2, 1) := by decide +kernel
theorem dX4_trade_65 : decode cX4_trade 65 = .ok (.iload_n 3, 1) := by decide +kernel
theorem dX4_trade_66 : decode cX4_trade 66 = .ok (.aload_n 0, 1) := by decide +kernel
theorem dX4_trade_67 : decode cX4_trade 67 = .ok (.getfield 49, 3) := by decide +kernel
theorem dX4_trade_70 : decode cX4_trade 70 = .ok (.invokevirtual 110, 3) := by decide +kernel
theorem dX4_trade_73 : decode cX4_trade 73 = .ok (.ireturn, 1) := by decide +kernel
set_option maxRecDepth 20000 in
theorem ggX4_dispute_X4_needTrade : GoodIn wsX4_dispute wsX4_needTrade := goodIn_ca (goodIn_r _ [13, 14, 15, 3, 16, 17, 18, 19, 20, 21, 76, 77, 78, 79, 80, 81, 82, 83, 84, 85, 86] (by decide +kernel) (by decide +kernel)) (goodIn_sub (fun _ h => List.mem_cons_of_mem _ (List.mem_append_right _ h)) (by decide +kernel))
set_option maxRecDepth 20000 in
theorem gX4_dispute_X4_needTrade : GoodIn wsX4_dispute (wsV RX4 114 RX4 yX4_needTrade wsX4_needTrade) := goodIn_app (goodIn_of _ (by decide +kernel)) ggX4_dispute_X4_needTrade
set_option maxRecDepth 20000 in
theorem ggX4_dispute_X3_of : GoodIn wsX4_dispute wsX3_of := goodIn_r _ [25, 26, 27, 28, 29, 30, 31, 32, 33, 34, 35, 36, 37, 38, 85, 86, 87, 88, 89] (by decide +kernel) (by decide +kernel)
set_option maxRecDepth 20000 in
theorem gX4_dispute_X3_of : GoodIn wsX4_dispute (wsV RX4 117 RX3 yX3_of wsX3_of) := goodIn_app (goodIn_of _ (by decide +kernel)) ggX4_dispute_X3_of
set_option maxRecDepth 20000 in
theorem ggX4_dispute_X4_isShop : GoodIn wsX4_dispute wsX4_isShop := goodIn_r _ [42, 43, 44, 45, 46, 12, 47, 48, 49, 28, 29, 30, 31, 32, 33, 34, 35, 36, 37, 38, 76, 77, 78, 79, 80, 81, 82, 83, 84, 87, 88, 89] (by decide +kernel) (by decide +kernel)
set_option maxRecDepth 20000 in
theorem gX4_dispute_X4_isShop : GoodIn wsX4_dispute (wsV RX4 121 RX4 yX4_isShop wsX4_isShop) := goodIn_app (goodIn_of _ (by decide +kernel)) ggX4_dispute_X4_isShop
set_option maxRecDepth 20000 in
theorem ggX4_dispute_X0_open : GoodIn wsX4_dispute wsX0_open := goodIn_r _ [54, 55, 56, 57, 28, 29, 30, 31, 32, 33, 34, 35, 36, 37, 38, 90, 91, 87, 88, 89] (by decide +kernel) (by decide +kernel)
set_option maxRecDepth 20000 in
theorem gX4_dispute_X0_open : GoodIn wsX4_dispute (wsV RX4 126 RX0 yX0_open wsX0_open) := goodIn_app (goodIn_of _ (by decide +kernel)) ggX4_dispute_X0_open
set_option maxRecDepth 20000 in
theorem ggX4_dispute_X0_freeze : GoodIn wsX4_dispute wsX0_freeze := goodIn_r _ [61, 56, 62, 63, 64, 30, 65, 66, 28, 29, 31, 32, 33, 34, 35, 36, 37, 38, 67, 68, 69, 70, 90, 91, 87, 88, 89] (by decide +kernel) (by decide +kernel)
set_option maxRecDepth 20000 in
theorem gX4_dispute_X0_freeze : GoodIn wsX4_dispute (wsV RX4 134 RX0 yX0_freeze wsX0_freeze) := goodIn_app (goodIn_of _ (by decide +kernel)) ggX4_dispute_X0_freeze
set_option maxRecDepth 20000 in
theorem ggX4_dispute_X3_turn : GoodIn wsX4_dispute wsX3_turn := goodIn_r _ [74, 26, 75, 68, 69, 30, 70, 32, 33, 34, 35, 36, 37, 38, 85, 86, 87, 88, 89] (by decide +kernel) (by decide +kernel)
set_option maxRecDepth 20000 in
theorem gX4_dispute_X3_turn : GoodIn wsX4_dispute (wsV RX4 137 RX3 yX3_turn wsX3_turn) := goodIn_app (goodIn_of _ (by decide +kernel)) ggX4_dispute_X3_turn
theorem dX4_dispute_0 : decode cX4_dispute 0 = .ok (.aload_n 0, 1) := by decide +kernel
theorem dX4_dispute_1 : decode cX4_dispute 1 = .ok (.iload_n 1, 1) := by decide +kernel
theorem dX4_dispute_2 : decode cX4_dispute 2 = .ok (.invokevirtual 114, 3) := by decide +kernel
theorem dX4_dispute_5 : decode cX4_dispute 5 = .ok (.aload_n 0, 1) := by decide +kernel
theorem dX4_dispute_6 : decode cX4_dispute 6 = .ok (.getfield 21, 3) := by decide +kernel
theorem dX4_dispute_9 : decode cX4_dispute 9 = .ok (.iload_n 1, 1) := by decide +kernel
theorem dX4_dispute_10 : decode cX4_dispute 10 = .ok (.iconst 1, 1) := by decide +kernel
theorem dX4_dispute_11 : decode cX4_dispute 11 = .ok (.invokevirtual 117, 3) := by decide +kernel
theorem dX4_dispute_14 : decode cX4_dispute 14 = .ok (.istore_n 2, 1) := by decide +kernel
theorem dX4_dispute_15 : decode cX4_dispute 15 = .ok (.aload_n 0, 1) := by decide +kernel
theorem dX4_dispute_16 : decode cX4_dispute 16 = .ok (.getfield 21, 3) := by decide +kernel
theorem dX4_dispute_19 : decode cX4_dispute 19 = .ok (.iload_n 1, 1) := by decide +kernel
theorem dX4_dispute_20 : decode cX4_dispute 20 = .ok (.iconst 2, 1) := by decide +kernel
theorem dX4_dispute_21 : decode cX4_dispute 21 = .ok (.invokevirtual 117, 3) := by decide +kernel
theorem dX4_dispute_24 : decode cX4_dispute 24 = .ok (.istore_n 3, 1) := by decide +kernel
theorem dX4_dispute_25 : decode cX4_dispute 25 = .ok (.aload_n 0, 1) := by decide +kernel
theorem dX4_dispute_26 : decode cX4_dispute 26 = .ok (.getfield 21, 3) := by decide +kernel
theorem dX4_dispute_29 : decode cX4_dispute 29 = .ok (.iload_n 1, 1) := by decide +kernel
theorem dX4_dispute_30 : decode cX4_dispute 30 = .ok (.iconst 0, 1) := by decide +kernel
theorem dX4_dispute_31 : decode cX4_dispute 31 = .ok (.invokevirtual 117, 3) := by decide +kernel
theorem dX4_dispute_34 : decode cX4_dispute 34 = .ok (.ifCond .ne 19, 3) := by decide +kernel
theorem dX4_dispute_37 : decode cX4_dispute 37 = .ok (.aload_n 0, 1) := by decide +kernel
theorem dX4_dispute_38 : decode cX4_dispute 38 = .ok (.iload_n 2, 1) := by decide +kernel
theorem dX4_dispute_39 : decode cX4_dispute 39 = .ok (.invokevirtual 121, 3) := by decide +kernel
theorem dX4_dispute_42 : decode cX4_dispute 42 = .ok (.ifCond .eq 11, 3) := by decide +kernel
theorem dX4_dispute_45 : decode cX4_dispute 45 = .ok (.aload_n 0, 1) := by decide +kernel
theorem dX4_dispute_46 : decode cX4_dispute 46 = .ok (.iload_n 3, 1) := by decide +kernel
theorem dX4_dispute_47 : decode cX4_dispute 47 = .ok (.invokevirtual 121, 3) := by decide +kernel
theorem dX4_dispute_50 : decode cX4_dispute 50 = .ok (.ifCond .ne 13, 3) := by decide +kernel
theorem dX4_dispute_53 : decode cX4_dispute 53 = .ok (.new 55, 3) := by decide +kernel
theorem dX4_dispute_56 : decode cX4_dispute 56 = .ok (.dup, 1) := by decide +kernel
theorem dX4_dispute_57 : decode cX4_dispute 57 = .ok (.ldc 124, 2) := by decide +kernel
theorem dX4_dispute_59 : decode cX4_dispute 59 = .ok (.invokespecial 59, 3) := by decide +kernel
theorem dX4_dispute_62 : decode cX4_dispute 62 = .ok (.athrow, 1) := by decide +kernel
theorem dX4_dispute_63 : decode cX4_dispute 63 = .ok (.aload_n 0, 1) := by decide +kernel
theorem dX4_dispute_64 : decode cX4_dispute 64 = .ok (.getfield 21, 3) := by decide +kernel
theorem dX4_dispute_67 : decode cX4_dispute 67 = .ok (.iload_n 1, 1) := by decide +kernel
theorem dX4_dispute_68 : decode cX4_dispute 68 = .ok (.iconst 3, 1) := by decide +kernel
theorem dX4_dispute_69 : decode cX4_dispute 69 = .ok (.invokevirtual 117, 3) := by decide +kernel
theorem dX4_dispute_72 : decode cX4_dispute 72 = .ok (.aload_n 0, 1) := by decide +kernel
theorem dX4_dispute_73 : decode cX4_dispute 73 = .ok (.getfield 28, 3) := by decide +kernel
theorem dX4_dispute_76 : decode cX4_dispute 76 = .ok (.iload_n 2, 1) := by decide +kernel
theorem dX4_dispute_77 : decode cX4_dispute 77 = .ok (.iload_n 3, 1) := by decide +kernel
theorem dX4_dispute_78 : decode cX4_dispute 78 = .ok (.invokevirtual 126, 3) := by decide +kernel
theorem dX4_dispute_81 : decode cX4_dispute 81 = .ok (.invokestatic 129, 3) := by decide +kernel
theorem dX4_dispute_84 : decode cX4_dispute 84 = .ok (.istore 4, 2) := by decide +kernel
theorem dX4_dispute_86 : decode cX4_dispute 86 = .ok (.aload_n 0, 1) := by decide +kernel
theorem dX4_dispute_87 : decode cX4_dispute 87 = .ok (.getfield 28, 3) := by decide +kernel
theorem dX4_dispute_90 : decode cX4_dispute 90 = .ok (.iload_n 2, 1) := by decide +kernel
theorem dX4_dispute_91 : decode cX4_dispute 91 = .ok (.iload_n 3, 1) := by decide +kernel
theorem dX4_dispute_92 : decode cX4_dispute 92 = .ok (.iload 4, 2) := by decide +kernel
theorem dX4_dispute_94 : decode cX4_dispute 94 = .ok (.invokevirtual 134, 3) := by decide +kernel
theorem dX4_dispute_97 : decode cX4_dispute 97 = .ok (.aload_n 0, 1) := by decide +kernel
theorem dX4_dispute_98 : decode cX4_dispute 98 = .ok (.getfield 21, 3) := by decide +kernel
theorem dX4_dispute_101 : decode cX4_dispute 101 = .ok (.iload_n 1, 1) := by decide +kernel
theorem dX4_dispute_102 : decode cX4_dispute 102 = .ok (.iconst 1, 1) := by decide +kernel
theorem dX4_dispute_103 : decode cX4_dispute 103 = .ok (.iload 4, 2) := by decide +kernel
theorem dX4_dispute_105 : decode cX4_dispute 105 = .ok (.invokevirtual 137, 3) := by decide +kernel
theorem dX4_dispute_108 : decode cX4_dispute 108 = .ok (.iload 4, 2) := by decide +kernel
theorem dX4_dispute_110 : decode cX4_dispute 110 = .ok (.ireturn, 1) := by decide +kernel
set_option maxRecDepth 20000 in
theorem ggX4_settle_X4_needTrade : GoodIn wsX4_settle wsX4_needTrade := goodIn_ca (goodIn_r _ [9, 10, 11, 3, 12, 13, 14, 15, 16, 17, 60, 61, 62, 63, 64, 65, 66, 67, 68, 69, 70] (by decide +kernel) (by decide +kernel)) (goodIn_sub (fun _ h => List.mem_cons_of_mem _ (List.mem_append_right _ h)) (by decide +kernel))
set_option maxRecDepth 20000 in
theorem gX4_settle_X4_needTrade : GoodIn wsX4_settle (wsV RX4 114 RX4 yX4_needTrade wsX4_needTrade) := goodIn_app (goodIn_of _ (by decide +kernel)) ggX4_settle_X4_needTrade
set_option maxRecDepth 20000 in
theorem ggX4_settle_X3_of : GoodIn wsX4_settle wsX3_of := goodIn_r _ [21, 22, 23, 24, 25, 26, 27, 28, 29, 30, 31, 32, 33, 34, 69, 70, 71, 72, 73] (by decide +kernel) (by decide +kernel)
set_option maxRecDepth 20000 in
theorem gX4_settle_X3_of : GoodIn wsX4_settle (wsV RX4 117 RX3 yX3_of wsX3_of) := goodIn_app (goodIn_of _ (by decide +kernel)) ggX4_settle_X3_of
set_option maxRecDepth 20000 in
theorem ggX4_settle_X0_freeze : GoodIn wsX4_settle wsX0_freeze := goodIn_r _ [39, 40, 41, 42, 43, 26, 44, 45, 24, 25, 27, 28, 29, 30, 31, 32, 33, 34, 46, 47, 48, 49, 74, 75, 71, 72, 73] (by decide +kernel) (by decide +kernel)
set_option maxRecDepth 20000 in
theorem gX4_settle_X0_freeze : GoodIn wsX4_settle (wsV RX4 134 RX0 yX0_freeze wsX0_freeze) := goodIn_app (goodIn_of _ (by decide +kernel)) ggX4_settle_X0_freeze
set_option maxRecDepth 20000 in
theorem ggX4_settle_X3_turn : GoodIn wsX4_settle wsX3_turn := goodIn_r _ [53, 22, 54, 47, 48, 26, 49, 28, 29, 30, 31, 32, 33, 34, 69, 70, 71, 72, 73] (by decide +kernel) (by decide +kernel)
set_option maxRecDepth 20000 in
theorem gX4_settle_X3_turn : GoodIn wsX4_settle (wsV RX4 137 RX3 yX3_turn wsX3_turn) := goodIn_app (goodIn_of _ (by decide +kernel)) ggX4_settle_X3_turn
set_option maxRecDepth 20000 in
theorem ggX4_settle_X0_more : GoodIn wsX4_settle wsX0_more := goodIn_r _ [58, 59, 41, 42, 43, 26, 44, 45, 24, 25, 27, 28, 29, 30, 31, 32, 33, 34, 46, 47, 48, 49, 74, 75, 71, 72, 73] (by decide +kernel) (by decide +kernel)
set_option maxRecDepth 20000 in
theorem gX4_settle_X0_more : GoodIn wsX4_settle (wsV RX4 107 RX0 yX0_more wsX0_more) := goodIn_app (goodIn_of _ (by decide +kernel)) ggX4_settle_X0_more
theorem dX4_settle_0 : decode cX4_settle 0 = .ok (.aload_n 0, 1) := by decide +kernel
theorem dX4_settle_1 : decode cX4_settle 1 = .ok (.iload_n 1, 1) := by decide +kernel
theorem dX4_settle_2 : decode cX4_settle 2 = .ok (.invokevirtual 114, 3) := by decide +kernel
theorem dX4_settle_5 : decode cX4_settle 5 = .ok (.aload_n 0, 1) := by decide +kernel
theorem dX4_settle_6 : decode cX4_settle 6 = .ok (.getfield 21, 3) := by decide +kernel
theorem dX4_settle_9 : decode cX4_settle 9 = .ok (.iload_n 1, 1) := by decide +kernel
theorem dX4_settle_10 : decode cX4_settle 10 = .ok (.iconst 0, 1) := by decide +kernel
theorem dX4_settle_11 : decode cX4_settle 11 = .ok (.invokevirtual 117, 3) := by decide +kernel
theorem dX4_settle_14 : decode cX4_settle 14 = .ok (.iconst 1, 1) := by decide +kernel
theorem dX4_settle_15 : decode cX4_settle 15 = .ok (.if_icmp .eq 13, 3) := by decide +kernel
theorem dX4_settle_18 : decode cX4_settle 18 = .ok (.new 55, 3) := by decide +kernel
theorem dX4_settle_21 : decode cX4_settle 21 = .ok (.dup, 1) := by decide +kernel
theorem dX4_settle_22 : decode cX4_settle 22 = .ok (.ldc 140, 2) := by decide +kernel
theorem dX4_settle_24 : decode cX4_settle 24 = .ok (.invokespecial 59, 3) := by decide +kernel
theorem dX4_settle_27 : decode cX4_settle 27 = .ok (.athrow, 1) := by decide +kernel
theorem dX4_settle_28 : decode cX4_settle 28 = .ok (.aload_n 0, 1) := by decide +kernel
theorem dX4_settle_29 : decode cX4_settle 29 = .ok (.getfield 21, 3) := by decide +kernel
theorem dX4_settle_32 : decode cX4_settle 32 = .ok (.iload_n 1, 1) := by decide +kernel
theorem dX4_settle_33 : decode cX4_settle 33 = .ok (.iconst 1, 1) := by decide +kernel
theorem dX4_settle_34 : decode cX4_settle 34 = .ok (.invokevirtual 117, 3) := by decide +kernel
theorem dX4_settle_37 : decode cX4_settle 37 = .ok (.istore_n 3, 1) := by decide +kernel
theorem dX4_settle_38 : decode cX4_settle 38 = .ok (.aload_n 0, 1) := by decide +kernel
theorem dX4_settle_39 : decode cX4_settle 39 = .ok (.getfield 21, 3) := by decide +kernel
theorem dX4_settle_42 : decode cX4_settle 42 = .ok (.iload_n 1, 1) := by decide +kernel
theorem dX4_settle_43 : decode cX4_settle 43 = .ok (.iconst 2, 1) := by decide +kernel
theorem dX4_settle_44 : decode cX4_settle 44 = .ok (.invokevirtual 117, 3) := by decide +kernel
theorem dX4_settle_47 : decode cX4_settle 47 = .ok (.istore 4, 2) := by decide +kernel
theorem dX4_settle_49 : decode cX4_settle 49 = .ok (.aload_n 0, 1) := by decide +kernel
theorem dX4_settle_50 : decode cX4_settle 50 = .ok (.getfield 21, 3) := by decide +kernel
theorem dX4_settle_53 : decode cX4_settle 53 = .ok (.iload_n 1, 1) := by decide +kernel
theorem dX4_settle_54 : decode cX4_settle 54 = .ok (.iconst 5, 1) := by decide +kernel
theorem dX4_settle_55 : decode cX4_settle 55 = .ok (.invokevirtual 117, 3) := by decide +kernel
theorem dX4_settle_58 : decode cX4_settle 58 = .ok (.istore 5, 2) := by decide +kernel
theorem dX4_settle_60 : decode cX4_settle 60 = .ok (.aload_n 0, 1) := by decide +kernel
theorem dX4_settle_61 : decode cX4_settle 61 = .ok (.getfield 28, 3) := by decide +kernel
theorem dX4_settle_64 : decode cX4_settle 64 = .ok (.iload_n 3, 1) := by decide +kernel
theorem dX4_settle_65 : decode cX4_settle 65 = .ok (.iload 4, 2) := by decide +kernel
theorem dX4_settle_67 : decode cX4_settle 67 = .ok (.iload 5, 2) := by decide +kernel
theorem dX4_settle_69 : decode cX4_settle 69 = .ok (.ineg, 1) := by decide +kernel
theorem dX4_settle_70 : decode cX4_settle 70 = .ok (.invokevirtual 134, 3) := by decide +kernel
theorem dX4_settle_73 : decode cX4_settle 73 = .ok (.aload_n 0, 1) := by decide +kernel
theorem dX4_settle_74 : decode cX4_settle 74 = .ok (.getfield 21, 3) := by decide +kernel
theorem dX4_settle_77 : decode cX4_settle 77 = .ok (.iload_n 1, 1) := by decide +kernel
theorem dX4_settle_78 : decode cX4_settle 78 = .ok (.iload_n 2, 1) := by decide +kernel
theorem dX4_settle_79 : decode cX4_settle 79 = .ok (.ifCond .eq 7, 3) := by decide +kernel
theorem dX4_settle_82 : decode cX4_settle 82 = .ok (.iconst 2, 1) := by decide +kernel
theorem dX4_settle_83 : decode cX4_settle 83 = .ok (.goto 4, 3) := by decide +kernel
theorem dX4_settle_86 : decode cX4_settle 86 = .ok (.iconst 0, 1) := by decide +kernel
theorem dX4_settle_87 : decode cX4_settle 87 = .ok (.iconst 0, 1) := by decide +kernel
theorem dX4_settle_88 : decode cX4_settle 88 = .ok (.invokevirtual 137, 3) := by decide +kernel
theorem dX4_settle_91 : decode cX4_settle 91 = .ok (.iload_n 2, 1) := by decide +kernel
theorem dX4_settle_92 : decode cX4_settle 92 = .ok (.ifCond .ne 5, 3) := by decide +kernel
theorem dX4_settle_95 : decode cX4_settle 95 = .ok (.iconst 0, 1) := by decide +kernel
theorem dX4_settle_96 : decode cX4_settle 96 = .ok (.ireturn, 1) := by decide +kernel
theorem dX4_settle_97 : decode cX4_settle 97 = .ok (.aload_n 0, 1) := by decide +kernel
theorem dX4_settle_98 : decode cX4_settle 98 = .ok (.getfield 21, 3) := by decide +kernel
theorem dX4_settle_101 : decode cX4_settle 101 = .ok (.iload_n 1, 1) := by decide +kernel
theorem dX4_settle_102 : decode cX4_settle 102 = .ok (.iconst 3, 1) := by decide +kernel
theorem dX4_settle_103 : decode cX4_settle 103 = .ok (.invokevirtual 117, 3) := by decide +kernel
theorem dX4_settle_106 : decode cX4_settle 106 = .ok (.iload 5, 2) := by decide +kernel
theorem dX4_settle_108 : decode cX4_settle 108 = .ok (.isub, 1) := by decide +kernel
theorem dX4_settle_109 : decode cX4_settle 109 = .ok (.istore 6, 2) := by decide +kernel
theorem dX4_settle_111 : decode cX4_settle 111 = .ok (.aload_n 0, 1) := by decide +kernel
theorem dX4_settle_112 : decode cX4_settle 112 = .ok (.getfield 28, 3) := by decide +kernel
theorem dX4_settle_115 : decode cX4_settle 115 = .ok (.iload_n 3, 1) := by decide +kernel
theorem dX4_settle_116 : decode cX4_settle 116 = .ok (.iload 4, 2) := by decide +kernel
theorem dX4_settle_118 : decode cX4_settle 118 = .ok (.iload 5, 2) := by decide +kernel
theorem dX4_settle_120 : decode cX4_settle 120 = .ok (.ineg, 1) := by decide +kernel
theorem dX4_settle_121 : decode cX4_settle 121 = .ok (.invokevirtual 107, 3) := by decide +kernel
theorem dX4_settle_124 : decode cX4_settle 124 = .ok (.aload_n 0, 1) := by decide +kernel
theorem dX4_settle_125 : decode cX4_settle 125 = .ok (.getfield 28, 3) := by decide +kernel
theorem dX4_settle_128 : decode cX4_settle 128 = .ok (.iload 4, 2) := by decide +kernel
theorem dX4_settle_130 : decode cX4_settle 130 = .ok (.iload_n 3, 1) := by decide +kernel
theorem dX4_settle_131 : decode cX4_settle 131 = .ok (.iload 6, 2) := by decide +kernel
theorem dX4_settle_133 : decode cX4_settle 133 = .ok (.invokevirtual 107, 3) := by decide +kernel
