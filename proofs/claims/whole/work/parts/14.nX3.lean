set_option maxRecDepth 20000 in
theorem ggX3_init_X2_init : GoodIn wsX3_init wsX2_init := goodIn_r _ [11, 12, 2, 3, 13, 14, 15, 16, 17, 18, 19, 20, 21, 22, 23, 24, 25, 26] (by decide +kernel) (by decide +kernel)
set_option maxRecDepth 20000 in
theorem gX3_init_X2_init : GoodIn wsX3_init (wsX2_init) := ggX3_init_X2_init
theorem dX3_init_0 : decode cX3_init 0 = .ok (.aload_n 0, 1) := by decide +kernel
theorem dX3_init_1 : decode cX3_init 1 = .ok (.invokespecial 3, 3) := by decide +kernel
theorem dX3_init_4 : decode cX3_init 4 = .ok (.aload_n 0, 1) := by decide +kernel
theorem dX3_init_5 : decode cX3_init 5 = .ok (.new 9, 3) := by decide +kernel
theorem dX3_init_8 : decode cX3_init 8 = .ok (.dup, 1) := by decide +kernel
theorem dX3_init_9 : decode cX3_init 9 = .ok (.bipush 100, 2) := by decide +kernel
theorem dX3_init_11 : decode cX3_init 11 = .ok (.bipush 6, 2) := by decide +kernel
theorem dX3_init_13 : decode cX3_init 13 = .ok (.invokespecial 13, 3) := by decide +kernel
theorem dX3_init_16 : decode cX3_init 16 = .ok (.putfield 16, 3) := by decide +kernel
theorem dX3_init_19 : decode cX3_init 19 = .ok (.aload_n 0, 1) := by decide +kernel
theorem dX3_init_20 : decode cX3_init 20 = .ok (.iconst 0, 1) := by decide +kernel
theorem dX3_init_21 : decode cX3_init 21 = .ok (.putfield 20, 3) := by decide +kernel
theorem dX3_init_24 : decode cX3_init 24 = .ok (.return_, 1) := by decide +kernel
theorem dX3_isFull_0 : decode cX3_isFull 0 = .ok (.aload_n 0, 1) := by decide +kernel
theorem dX3_isFull_1 : decode cX3_isFull 1 = .ok (.getfield 20, 3) := by decide +kernel
theorem dX3_isFull_4 : decode cX3_isFull 4 = .ok (.bipush 100, 2) := by decide +kernel
theorem dX3_isFull_6 : decode cX3_isFull 6 = .ok (.if_icmp .lt 7, 3) := by decide +kernel
theorem dX3_isFull_9 : decode cX3_isFull 9 = .ok (.iconst 1, 1) := by decide +kernel
theorem dX3_isFull_10 : decode cX3_isFull 10 = .ok (.goto 4, 3) := by decide +kernel
theorem dX3_isFull_13 : decode cX3_isFull 13 = .ok (.iconst 0, 1) := by decide +kernel
theorem dX3_isFull_14 : decode cX3_isFull 14 = .ok (.ireturn, 1) := by decide +kernel
theorem dX3_has_0 : decode cX3_has 0 = .ok (.iload_n 1, 1) := by decide +kernel
theorem dX3_has_1 : decode cX3_has 1 = .ok (.ifCond .lt 15, 3) := by decide +kernel
theorem dX3_has_4 : decode cX3_has 4 = .ok (.iload_n 1, 1) := by decide +kernel
theorem dX3_has_5 : decode cX3_has 5 = .ok (.aload_n 0, 1) := by decide +kernel
theorem dX3_has_6 : decode cX3_has 6 = .ok (.getfield 20, 3) := by decide +kernel
theorem dX3_has_9 : decode cX3_has 9 = .ok (.if_icmp .ge 7, 3) := by decide +kernel
theorem dX3_has_12 : decode cX3_has 12 = .ok (.iconst 1, 1) := by decide +kernel
theorem dX3_has_13 : decode cX3_has 13 = .ok (.goto 4, 3) := by decide +kernel
theorem dX3_has_16 : decode cX3_has 16 = .ok (.iconst 0, 1) := by decide +kernel
theorem dX3_has_17 : decode cX3_has 17 = .ok (.ireturn, 1) := by decide +kernel
set_option maxRecDepth 20000 in
theorem ggX3_of_X2_get : GoodIn wsX3_of wsX2_get := goodIn_r _ [6, 7, 8, 9, 10, 5, 11, 12, 13, 16, 17, 18] (by decide +kernel) (by decide +kernel)
set_option maxRecDepth 20000 in
theorem gX3_of_X2_get : GoodIn wsX3_of (wsV RX3 24 RX2 yX2_get wsX2_get) := goodIn_app (goodIn_of _ (by decide +kernel)) ggX3_of_X2_get
theorem dX3_of_0 : decode cX3_of 0 = .ok (.aload_n 0, 1) := by decide +kernel
theorem dX3_of_1 : decode cX3_of 1 = .ok (.getfield 16, 3) := by decide +kernel
theorem dX3_of_4 : decode cX3_of 4 = .ok (.iload_n 1, 1) := by decide +kernel
theorem dX3_of_5 : decode cX3_of 5 = .ok (.iload_n 2, 1) := by decide +kernel
theorem dX3_of_6 : decode cX3_of 6 = .ok (.invokevirtual 24, 3) := by decide +kernel
theorem dX3_of_9 : decode cX3_of 9 = .ok (.ireturn, 1) := by decide +kernel
set_option maxRecDepth 20000 in
theorem ggX3_put_X2_set : GoodIn wsX3_put wsX2_set := goodIn_r _ [7, 8, 9, 10, 11, 6, 12, 13, 14, 17, 18, 19] (by decide +kernel) (by decide +kernel)
set_option maxRecDepth 20000 in
theorem gX3_put_X2_set : GoodIn wsX3_put (wsV RX3 28 RX2 yX2_set wsX2_set) := goodIn_app (goodIn_of _ (by decide +kernel)) ggX3_put_X2_set
theorem dX3_put_0 : decode cX3_put 0 = .ok (.aload_n 0, 1) := by decide +kernel
theorem dX3_put_1 : decode cX3_put 1 = .ok (.getfield 20, 3) := by decide +kernel
theorem dX3_put_4 : decode cX3_put 4 = .ok (.istore 5, 2) := by decide +kernel
theorem dX3_put_6 : decode cX3_put 6 = .ok (.aload_n 0, 1) := by decide +kernel
theorem dX3_put_7 : decode cX3_put 7 = .ok (.getfield 16, 3) := by decide +kernel
theorem dX3_put_10 : decode cX3_put 10 = .ok (.iload 5, 2) := by decide +kernel
theorem dX3_put_12 : decode cX3_put 12 = .ok (.iconst 0, 1) := by decide +kernel
theorem dX3_put_13 : decode cX3_put 13 = .ok (.iconst 0, 1) := by decide +kernel
theorem dX3_put_14 : decode cX3_put 14 = .ok (.invokevirtual 28, 3) := by decide +kernel
theorem dX3_put_17 : decode cX3_put 17 = .ok (.aload_n 0, 1) := by decide +kernel
theorem dX3_put_18 : decode cX3_put 18 = .ok (.getfield 16, 3) := by decide +kernel
theorem dX3_put_21 : decode cX3_put 21 = .ok (.iload 5, 2) := by decide +kernel
theorem dX3_put_23 : decode cX3_put 23 = .ok (.iconst 1, 1) := by decide +kernel
theorem dX3_put_24 : decode cX3_put 24 = .ok (.iload_n 1, 1) := by decide +kernel
theorem dX3_put_25 : decode cX3_put 25 = .ok (.invokevirtual 28, 3) := by decide +kernel
theorem dX3_put_28 : decode cX3_put 28 = .ok (.aload_n 0, 1) := by decide +kernel
theorem dX3_put_29 : decode cX3_put 29 = .ok (.getfield 16, 3) := by decide +kernel
theorem dX3_put_32 : decode cX3_put 32 = .ok (.iload 5, 2) := by decide +kernel
theorem dX3_put_34 : decode cX3_put 34 = .ok (.iconst 2, 1) := by decide +kernel
theorem dX3_put_35 : decode cX3_put 35 = .ok (.iload_n 2, 1) := by decide +kernel
theorem dX3_put_36 : decode cX3_put 36 = .ok (.invokevirtual 28, 3) := by decide +kernel
theorem dX3_put_39 : decode cX3_put 39 = .ok (.aload_n 0, 1) := by decide +kernel
theorem dX3_put_40 : decode cX3_put 40 = .ok (.getfield 16, 3) := by decide +kernel
theorem dX3_put_43 : decode cX3_put 43 = .ok (.iload 5, 2) := by decide +kernel
theorem dX3_put_45 : decode cX3_put 45 = .ok (.iconst 3, 1) := by decide +kernel
theorem dX3_put_46 : decode cX3_put 46 = .ok (.iload_n 3, 1) := by decide +kernel
theorem dX3_put_47 : decode cX3_put 47 = .ok (.invokevirtual 28, 3) := by decide +kernel
theorem dX3_put_50 : decode cX3_put 50 = .ok (.aload_n 0, 1) := by decide +kernel
theorem dX3_put_51 : decode cX3_put 51 = .ok (.getfield 16, 3) := by decide +kernel
theorem dX3_put_54 : decode cX3_put 54 = .ok (.iload 5, 2) := by decide +kernel
theorem dX3_put_56 : decode cX3_put 56 = .ok (.iconst 4, 1) := by decide +kernel
theorem dX3_put_57 : decode cX3_put 57 = .ok (.iload 4, 2) := by decide +kernel
theorem dX3_put_59 : decode cX3_put 59 = .ok (.invokevirtual 28, 3) := by decide +kernel
theorem dX3_put_62 : decode cX3_put 62 = .ok (.aload_n 0, 1) := by decide +kernel
theorem dX3_put_63 : decode cX3_put 63 = .ok (.dup, 1) := by decide +kernel
theorem dX3_put_64 : decode cX3_put 64 = .ok (.getfield 20, 3) := by decide +kernel
theorem dX3_put_67 : decode cX3_put 67 = .ok (.iconst 1, 1) := by decide +kernel
theorem dX3_put_68 : decode cX3_put 68 = .ok (.iadd, 1) := by decide +kernel
theorem dX3_put_69 : decode cX3_put 69 = .ok (.putfield 20, 3) := by decide +kernel
theorem dX3_put_72 : decode cX3_put 72 = .ok (.iload 5, 2) := by decide +kernel
theorem dX3_put_74 : decode cX3_put 74 = .ok (.ireturn, 1) := by decide +kernel
set_option maxRecDepth 20000 in
theorem ggX3_turn_X2_set : GoodIn wsX3_turn wsX2_set := goodIn_r _ [6, 7, 8, 9, 10, 5, 11, 12, 13, 16, 17, 18] (by decide +kernel) (by decide +kernel)
set_option maxRecDepth 20000 in
theorem gX3_turn_X2_set : GoodIn wsX3_turn (wsV RX3 28 RX2 yX2_set wsX2_set) := goodIn_app (goodIn_of _ (by decide +kernel)) ggX3_turn_X2_set
theorem dX3_turn_0 : decode cX3_turn 0 = .ok (.aload_n 0, 1) := by decide +kernel
theorem dX3_turn_1 : decode cX3_turn 1 = .ok (.getfield 16, 3) := by decide +kernel
theorem dX3_turn_4 : decode cX3_turn 4 = .ok (.iload_n 1, 1) := by decide +kernel
theorem dX3_turn_5 : decode cX3_turn 5 = .ok (.iconst 0, 1) := by decide +kernel
theorem dX3_turn_6 : decode cX3_turn 6 = .ok (.iload_n 2, 1) := by decide +kernel
theorem dX3_turn_7 : decode cX3_turn 7 = .ok (.invokevirtual 28, 3) := by decide +kernel
theorem dX3_turn_10 : decode cX3_turn 10 = .ok (.aload_n 0, 1) := by decide +kernel
theorem dX3_turn_11 : decode cX3_turn 11 = .ok (.getfield 16, 3) := by decide +kernel
theorem dX3_turn_14 : decode cX3_turn 14 = .ok (.iload_n 1, 1) := by decide +kernel
theorem dX3_turn_15 : decode cX3_turn 15 = .ok (.iconst 5, 1) := by decide +kernel
theorem dX3_turn_16 : decode cX3_turn 16 = .ok (.iload_n 3, 1) := by decide +kernel
theorem dX3_turn_17 : decode cX3_turn 17 = .ok (.invokevirtual 28, 3) := by decide +kernel
theorem dX3_turn_20 : decode cX3_turn 20 = .ok (.return_, 1) := by decide +kernel
set_option maxRecDepth 20000 in
theorem ggX3_isOf_X3_of : GoodIn wsX3_isOf wsX3_of := goodIn_r _ [5, 6, 7, 8, 9, 10, 11, 12, 13, 14, 15, 16, 17, 18, 19, 20, 21, 22, 23] (by decide +kernel) (by decide +kernel)
set_option maxRecDepth 20000 in
theorem gX3_isOf_X3_of : GoodIn wsX3_isOf (wsV RX3 32 RX3 yX3_of wsX3_of) := goodIn_app (goodIn_of _ (by decide +kernel)) ggX3_isOf_X3_of
theorem dX3_isOf_0 : decode cX3_isOf 0 = .ok (.aload_n 0, 1) := by decide +kernel
theorem dX3_isOf_1 : decode cX3_isOf 1 = .ok (.iload_n 1, 1) := by decide +kernel
theorem dX3_isOf_2 : decode cX3_isOf 2 = .ok (.iconst 1, 1) := by decide +kernel
theorem dX3_isOf_3 : decode cX3_isOf 3 = .ok (.invokevirtual 32, 3) := by decide +kernel
theorem dX3_isOf_6 : decode cX3_isOf 6 = .ok (.iload_n 2, 1) := by decide +kernel
theorem dX3_isOf_7 : decode cX3_isOf 7 = .ok (.if_icmp .eq 13, 3) := by decide +kernel
theorem dX3_isOf_10 : decode cX3_isOf 10 = .ok (.aload_n 0, 1) := by decide +kernel
theorem dX3_isOf_11 : decode cX3_isOf 11 = .ok (.iload_n 1, 1) := by decide +kernel
theorem dX3_isOf_12 : decode cX3_isOf 12 = .ok (.iconst 2, 1) := by decide +kernel
theorem dX3_isOf_13 : decode cX3_isOf 13 = .ok (.invokevirtual 32, 3) := by decide +kernel
theorem dX3_isOf_16 : decode cX3_isOf 16 = .ok (.iload_n 2, 1) := by decide +kernel
theorem dX3_isOf_17 : decode cX3_isOf 17 = .ok (.if_icmp .ne 7, 3) := by decide +kernel
theorem dX3_isOf_20 : decode cX3_isOf 20 = .ok (.iconst 1, 1) := by decide +kernel
theorem dX3_isOf_21 : decode cX3_isOf 21 = .ok (.goto 4, 3) := by decide +kernel
theorem dX3_isOf_24 : decode cX3_isOf 24 = .ok (.iconst 0, 1) := by decide +kernel
theorem dX3_isOf_25 : decode cX3_isOf 25 = .ok (.ireturn, 1) := by decide +kernel
set_option maxRecDepth 20000 in
theorem ggX3_hasDisputedOf_X3_isOf : GoodIn wsX3_hasDisputedOf wsX3_isOf := goodIn_r _ [6, 7, 8, 9, 5, 10, 11, 12, 13, 14, 15, 16, 17, 18, 19, 20, 21, 22, 23, 24, 25, 26, 27, 28] (by decide +kernel) (by decide +kernel)
set_option maxRecDepth 20000 in
theorem gX3_hasDisputedOf_X3_isOf : GoodIn wsX3_hasDisputedOf (wsV RX3 35 RX3 yX3_isOf wsX3_isOf) := goodIn_app (goodIn_of _ (by decide +kernel)) ggX3_hasDisputedOf_X3_isOf
set_option maxRecDepth 20000 in
theorem ggX3_hasDisputedOf_X3_of : GoodIn wsX3_hasDisputedOf wsX3_of := goodIn_r _ [10, 11, 12, 13, 14, 15, 16, 17, 18, 19, 20, 21, 22, 23, 24, 25, 26, 27, 28] (by decide +kernel) (by decide +kernel)
set_option maxRecDepth 20000 in
theorem gX3_hasDisputedOf_X3_of : GoodIn wsX3_hasDisputedOf (wsV RX3 32 RX3 yX3_of wsX3_of) := goodIn_app (goodIn_of _ (by decide +kernel)) ggX3_hasDisputedOf_X3_of
theorem dX3_hasDisputedOf_0 : decode cX3_hasDisputedOf 0 = .ok (.iconst 0, 1) := by decide +kernel
theorem dX3_hasDisputedOf_1 : decode cX3_hasDisputedOf 1 = .ok (.istore_n 2, 1) := by decide +kernel
theorem dX3_hasDisputedOf_2 : decode cX3_hasDisputedOf 2 = .ok (.iload_n 2, 1) := by decide +kernel
theorem dX3_hasDisputedOf_3 : decode cX3_hasDisputedOf 3 = .ok (.aload_n 0, 1) := by decide +kernel
theorem dX3_hasDisputedOf_4 : decode cX3_hasDisputedOf 4 = .ok (.getfield 20, 3) := by decide +kernel
theorem dX3_hasDisputedOf_7 : decode cX3_hasDisputedOf 7 = .ok (.if_icmp .ge 30, 3) := by decide +kernel
theorem dX3_hasDisputedOf_10 : decode cX3_hasDisputedOf 10 = .ok (.aload_n 0, 1) := by decide +kernel
theorem dX3_hasDisputedOf_11 : decode cX3_hasDisputedOf 11 = .ok (.iload_n 2, 1) := by decide +kernel
theorem dX3_hasDisputedOf_12 : decode cX3_hasDisputedOf 12 = .ok (.iload_n 1, 1) := by decide +kernel
theorem dX3_hasDisputedOf_13 : decode cX3_hasDisputedOf 13 = .ok (.invokevirtual 35, 3) := by decide +kernel
theorem dX3_hasDisputedOf_16 : decode cX3_hasDisputedOf 16 = .ok (.ifCond .eq 15, 3) := by decide +kernel
theorem dX3_hasDisputedOf_19 : decode cX3_hasDisputedOf 19 = .ok (.aload_n 0, 1) := by decide +kernel
theorem dX3_hasDisputedOf_20 : decode cX3_hasDisputedOf 20 = .ok (.iload_n 2, 1) := by decide +kernel
theorem dX3_hasDisputedOf_21 : decode cX3_hasDisputedOf 21 = .ok (.iconst 0, 1) := by decide +kernel
theorem dX3_hasDisputedOf_22 : decode cX3_hasDisputedOf 22 = .ok (.invokevirtual 32, 3) := by decide +kernel
theorem dX3_hasDisputedOf_25 : decode cX3_hasDisputedOf 25 = .ok (.iconst 1, 1) := by decide +kernel
theorem dX3_hasDisputedOf_26 : decode cX3_hasDisputedOf 26 = .ok (.if_icmp .ne 5, 3) := by decide +kernel
theorem dX3_hasDisputedOf_29 : decode cX3_hasDisputedOf 29 = .ok (.iconst 1, 1) := by decide +kernel
theorem dX3_hasDisputedOf_30 : decode cX3_hasDisputedOf 30 = .ok (.ireturn, 1) := by decide +kernel
theorem dX3_hasDisputedOf_31 : decode cX3_hasDisputedOf 31 = .ok (.iinc 2 1, 3) := by decide +kernel
theorem dX3_hasDisputedOf_34 : decode cX3_hasDisputedOf 34 = .ok (.goto (-32), 3) := by decide +kernel
theorem dX3_hasDisputedOf_37 : decode cX3_hasDisputedOf 37 = .ok (.iconst 0, 1) := by decide +kernel
theorem dX3_hasDisputedOf_38 : decode cX3_hasDisputedOf 38 = .ok (.ireturn, 1) := by decide +kernel
set_option maxRecDepth 20000 in
theorem ggX3_hasSince_X3_isOf : GoodIn wsX3_hasSince wsX3_isOf := goodIn_r _ [6, 7, 8, 9, 5, 10, 11, 12, 13, 14, 15, 16, 17, 18, 19, 20, 21, 22, 23, 24, 25, 26, 27, 28] (by decide +kernel) (by decide +kernel)
set_option maxRecDepth 20000 in
theorem gX3_hasSince_X3_isOf : GoodIn wsX3_hasSince (wsV RX3 35 RX3 yX3_isOf wsX3_isOf) := goodIn_app (goodIn_of _ (by decide +kernel)) ggX3_hasSince_X3_isOf
set_option maxRecDepth 20000 in
theorem ggX3_hasSince_X3_of : GoodIn wsX3_hasSince wsX3_of := goodIn_r _ [10, 11, 12, 13, 14, 15, 16, 17, 18, 19, 20, 21, 22, 23, 24, 25, 26, 27, 28] (by decide +kernel) (by decide +kernel)
set_option maxRecDepth 20000 in
theorem gX3_hasSince_X3_of : GoodIn wsX3_hasSince (wsV RX3 32 RX3 yX3_of wsX3_of) := goodIn_app (goodIn_of _ (by decide +kernel)) ggX3_hasSince_X3_of
theorem dX3_hasSince_0 : decode cX3_hasSince 0 = .ok (.iconst 0, 1) := by decide +kernel
theorem dX3_hasSince_1 : decode cX3_hasSince 1 = .ok (.istore_n 3, 1) := by decide +kernel
theorem dX3_hasSince_2 : decode cX3_hasSince 2 = .ok (.iload_n 3, 1) := by decide +kernel
theorem dX3_hasSince_3 : decode cX3_hasSince 3 = .ok (.aload_n 0, 1) := by decide +kernel
theorem dX3_hasSince_4 : decode cX3_hasSince 4 = .ok (.getfield 20, 3) := by decide +kernel
theorem dX3_hasSince_7 : decode cX3_hasSince 7 = .ok (.if_icmp .ge 30, 3) := by decide +kernel
theorem dX3_hasSince_10 : decode cX3_hasSince 10 = .ok (.aload_n 0, 1) := by decide +kernel
theorem dX3_hasSince_11 : decode cX3_hasSince 11 = .ok (.iload_n 3, 1) := by decide +kernel
theorem dX3_hasSince_12 : decode cX3_hasSince 12 = .ok (.iload_n 1, 1) := by decide +kernel
theorem dX3_hasSince_13 : decode cX3_hasSince 13 = .ok (.invokevirtual 35, 3) := by decide +kernel
theorem dX3_hasSince_16 : decode cX3_hasSince 16 = .ok (.ifCond .eq 15, 3) := by decide +kernel
theorem dX3_hasSince_19 : decode cX3_hasSince 19 = .ok (.aload_n 0, 1) := by decide +kernel
theorem dX3_hasSince_20 : decode cX3_hasSince 20 = .ok (.iload_n 3, 1) := by decide +kernel
theorem dX3_hasSince_21 : decode cX3_hasSince 21 = .ok (.iconst 4, 1) := by decide +kernel
theorem dX3_hasSince_22 : decode cX3_hasSince 22 = .ok (.invokevirtual 32, 3) := by decide +kernel
theorem dX3_hasSince_25 : decode cX3_hasSince 25 = .ok (.iload_n 2, 1) := by decide +kernel
theorem dX3_hasSince_26 : decode cX3_hasSince 26 = .ok (.if_icmp .lt 5, 3) := by decide +kernel
theorem dX3_hasSince_29 : decode cX3_hasSince 29 = .ok (.iconst 1, 1) := by decide +kernel
theorem dX3_hasSince_30 : decode cX3_hasSince 30 = .ok (.ireturn, 1) := by decide +kernel
theorem dX3_hasSince_31 : decode cX3_hasSince 31 = .ok (.iinc 3 1, 3) := by decide +kernel
theorem dX3_hasSince_34 : decode cX3_hasSince 34 = .ok (.goto (-32), 3) := by decide +kernel
theorem dX3_hasSince_37 : decode cX3_hasSince 37 = .ok (.iconst 0, 1) := by decide +kernel
theorem dX3_hasSince_38 : decode cX3_hasSince 38 = .ok (.ireturn, 1) := by decide +kernel
set_option maxRecDepth 20000 in
theorem ggX3_amountsSince_X3_isOf : GoodIn wsX3_amountsSince wsX3_isOf := goodIn_r _ [6, 7, 8, 9, 5, 10, 11, 12, 13, 14, 15, 16, 17, 18, 19, 20, 21, 22, 23, 24, 25, 26, 27, 28] (by decide +kernel) (by decide +kernel)
set_option maxRecDepth 20000 in
theorem gX3_amountsSince_X3_isOf : GoodIn wsX3_amountsSince (wsV RX3 35 RX3 yX3_isOf wsX3_isOf) := goodIn_app (goodIn_of _ (by decide +kernel)) ggX3_amountsSince_X3_isOf
set_option maxRecDepth 20000 in
theorem ggX3_amountsSince_X3_of : GoodIn wsX3_amountsSince wsX3_of := goodIn_r _ [10, 11, 12, 13, 14, 15, 16, 17, 18, 19, 20, 21, 22, 23, 24, 25, 26, 27, 28] (by decide +kernel) (by decide +kernel)
set_option maxRecDepth 20000 in
theorem gX3_amountsSince_X3_of : GoodIn wsX3_amountsSince (wsV RX3 32 RX3 yX3_of wsX3_of) := goodIn_app (goodIn_of _ (by decide +kernel)) ggX3_amountsSince_X3_of
theorem dX3_amountsSince_0 : decode cX3_amountsSince 0 = .ok (.iconst 0, 1) := by decide +kernel
theorem dX3_amountsSince_1 : decode cX3_amountsSince 1 = .ok (.istore_n 3, 1) := by decide +kernel
theorem dX3_amountsSince_2 : decode cX3_amountsSince 2 = .ok (.iconst 0, 1) := by decide +kernel
theorem dX3_amountsSince_3 : decode cX3_amountsSince 3 = .ok (.istore 4, 2) := by decide +kernel
theorem dX3_amountsSince_5 : decode cX3_amountsSince 5 = .ok (.iload 4, 2) := by decide +kernel
theorem dX3_amountsSince_7 : decode cX3_amountsSince 7 = .ok (.aload_n 0, 1) := by decide +kernel
theorem dX3_amountsSince_8 : decode cX3_amountsSince 8 = .ok (.getfield 20, 3) := by decide +kernel
theorem dX3_amountsSince_11 : decode cX3_amountsSince 11 = .ok (.if_icmp .ge 63, 3) := by decide +kernel
theorem dX3_amountsSince_14 : decode cX3_amountsSince 14 = .ok (.aload_n 0, 1) := by decide +kernel
theorem dX3_amountsSince_15 : decode cX3_amountsSince 15 = .ok (.iload 4, 2) := by decide +kernel
theorem dX3_amountsSince_17 : decode cX3_amountsSince 17 = .ok (.iload_n 1, 1) := by decide +kernel
theorem dX3_amountsSince_18 : decode cX3_amountsSince 18 = .ok (.invokevirtual 35, 3) := by decide +kernel
theorem dX3_amountsSince_21 : decode cX3_amountsSince 21 = .ok (.ifCond .eq 18, 3) := by decide +kernel
theorem dX3_amountsSince_24 : decode cX3_amountsSince 24 = .ok (.aload_n 0, 1) := by decide +kernel
theorem dX3_amountsSince_25 : decode cX3_amountsSince 25 = .ok (.iload 4, 2) := by decide +kernel
theorem dX3_amountsSince_27 : decode cX3_amountsSince 27 = .ok (.iconst 0, 1) := by decide +kernel
theorem dX3_amountsSince_28 : decode cX3_amountsSince 28 = .ok (.invokevirtual 32, 3) := by decide +kernel
theorem dX3_amountsSince_31 : decode cX3_amountsSince 31 = .ok (.iconst 2, 1) := by decide +kernel
theorem dX3_amountsSince_32 : decode cX3_amountsSince 32 = .ok (.if_icmp .eq 7, 3) := by decide +kernel
theorem dX3_amountsSince_35 : decode cX3_amountsSince 35 = .ok (.iconst 1, 1) := by decide +kernel
theorem dX3_amountsSince_36 : decode cX3_amountsSince 36 = .ok (.goto 4, 3) := by decide +kernel
theorem dX3_amountsSince_39 : decode cX3_amountsSince 39 = .ok (.iconst 0, 1) := by decide +kernel
theorem dX3_amountsSince_40 : decode cX3_amountsSince 40 = .ok (.istore 5, 2) := by decide +kernel
theorem dX3_amountsSince_42 : decode cX3_amountsSince 42 = .ok (.iload 5, 2) := by decide +kernel
theorem dX3_amountsSince_44 : decode cX3_amountsSince 44 = .ok (.ifCond .eq 24, 3) := by decide +kernel
theorem dX3_amountsSince_47 : decode cX3_amountsSince 47 = .ok (.aload_n 0, 1) := by decide +kernel
theorem dX3_amountsSince_48 : decode cX3_amountsSince 48 = .ok (.iload 4, 2) := by decide +kernel
theorem dX3_amountsSince_50 : decode cX3_amountsSince 50 = .ok (.iconst 4, 1) := by decide +kernel
theorem dX3_amountsSince_51 : decode cX3_amountsSince 51 = .ok (.invokevirtual 32, 3) := by decide +kernel
theorem dX3_amountsSince_54 : decode cX3_amountsSince 54 = .ok (.iload_n 2, 1) := by decide +kernel
theorem dX3_amountsSince_55 : decode cX3_amountsSince 55 = .ok (.if_icmp .lt 13, 3) := by decide +kernel
theorem dX3_amountsSince_58 : decode cX3_amountsSince 58 = .ok (.iload_n 3, 1) := by decide +kernel
theorem dX3_amountsSince_59 : decode cX3_amountsSince 59 = .ok (.aload_n 0, 1) := by decide +kernel
theorem dX3_amountsSince_60 : decode cX3_amountsSince 60 = .ok (.iload 4, 2) := by decide +kernel
theorem dX3_amountsSince_62 : decode cX3_amountsSince 62 = .ok (.iconst 3, 1) := by decide +kernel
theorem dX3_amountsSince_63 : decode cX3_amountsSince 63 = .ok (.invokevirtual 32, 3) := by decide +kernel
theorem dX3_amountsSince_66 : decode cX3_amountsSince 66 = .ok (.iadd, 1) := by decide +kernel
theorem dX3_amountsSince_67 : decode cX3_amountsSince 67 = .ok (.istore_n 3, 1) := by decide +kernel
theorem dX3_amountsSince_68 : decode cX3_amountsSince 68 = .ok (.iinc 4 1, 3) := by decide +kernel
theorem dX3_amountsSince_71 : decode cX3_amountsSince 71 = .ok (.goto (-66), 3) := by decide +kernel
theorem dX3_amountsSince_74 : decode cX3_amountsSince 74 = .ok (.iload_n 3, 1) := by decide +kernel
theorem dX3_amountsSince_75 : decode cX3_amountsSince 75 = .ok (.ireturn, 1) := by decide +kernel
set_option maxRecDepth 20000 in
theorem ggX3_balanceOf_X3_of : GoodIn wsX3_balanceOf wsX3_of := goodIn_r _ [6, 7, 8, 9, 10, 11, 12, 13, 14, 15, 16, 17, 18, 19, 20, 21, 22, 23, 24] (by decide +kernel) (by decide +kernel)
set_option maxRecDepth 20000 in
theorem gX3_balanceOf_X3_of : GoodIn wsX3_balanceOf (wsV RX3 32 RX3 yX3_of wsX3_of) := goodIn_app (goodIn_of _ (by decide +kernel)) ggX3_balanceOf_X3_of
theorem dX3_balanceOf_0 : decode cX3_balanceOf 0 = .ok (.iconst 0, 1) := by decide +kernel
theorem dX3_balanceOf_1 : decode cX3_balanceOf 1 = .ok (.istore_n 2, 1) := by decide +kernel
theorem dX3_balanceOf_2 : decode cX3_balanceOf 2 = .ok (.iconst 0, 1) := by decide +kernel
theorem dX3_balanceOf_3 : decode cX3_balanceOf 3 = .ok (.istore_n 3, 1) := by decide +kernel
theorem dX3_balanceOf_4 : decode cX3_balanceOf 4 = .ok (.iload_n 3, 1) := by decide +kernel
theorem dX3_balanceOf_5 : decode cX3_balanceOf 5 = .ok (.aload_n 0, 1) := by decide +kernel
theorem dX3_balanceOf_6 : decode cX3_balanceOf 6 = .ok (.getfield 20, 3) := by decide +kernel
theorem dX3_balanceOf_9 : decode cX3_balanceOf 9 = .ok (.if_icmp .ge 67, 3) := by decide +kernel
theorem dX3_balanceOf_12 : decode cX3_balanceOf 12 = .ok (.aload_n 0, 1) := by decide +kernel
theorem dX3_balanceOf_13 : decode cX3_balanceOf 13 = .ok (.iload_n 3, 1) := by decide +kernel
theorem dX3_balanceOf_14 : decode cX3_balanceOf 14 = .ok (.iconst 0, 1) := by decide +kernel
theorem dX3_balanceOf_15 : decode cX3_balanceOf 15 = .ok (.invokevirtual 32, 3) := by decide +kernel
theorem dX3_balanceOf_18 : decode cX3_balanceOf 18 = .ok (.iconst 2, 1) := by decide +kernel
theorem dX3_balanceOf_19 : decode cX3_balanceOf 19 = .ok (.if_icmp .eq 22, 3) := by decide +kernel
theorem dX3_balanceOf_22 : decode cX3_balanceOf 22 = .ok (.aload_n 0, 1) := by decide +kernel
theorem dX3_balanceOf_23 : decode cX3_balanceOf 23 = .ok (.iload_n 3, 1) := by decide +kernel
theorem dX3_balanceOf_24 : decode cX3_balanceOf 24 = .ok (.iconst 2, 1) := by decide +kernel
theorem dX3_balanceOf_25 : decode cX3_balanceOf 25 = .ok (.invokevirtual 32, 3) := by decide +kernel
theorem dX3_balanceOf_28 : decode cX3_balanceOf 28 = .ok (.iload_n 1, 1) := by decide +kernel
theorem dX3_balanceOf_29 : decode cX3_balanceOf 29 = .ok (.if_icmp .ne 12, 3) := by decide +kernel
theorem dX3_balanceOf_32 : decode cX3_balanceOf 32 = .ok (.iload_n 2, 1) := by decide +kernel
theorem dX3_balanceOf_33 : decode cX3_balanceOf 33 = .ok (.aload_n 0, 1) := by decide +kernel
theorem dX3_balanceOf_34 : decode cX3_balanceOf 34 = .ok (.iload_n 3, 1) := by decide +kernel
theorem dX3_balanceOf_35 : decode cX3_balanceOf 35 = .ok (.iconst 3, 1) := by decide +kernel
theorem dX3_balanceOf_36 : decode cX3_balanceOf 36 = .ok (.invokevirtual 32, 3) := by decide +kernel
theorem dX3_balanceOf_39 : decode cX3_balanceOf 39 = .ok (.iadd, 1) := by decide +kernel
theorem dX3_balanceOf_40 : decode cX3_balanceOf 40 = .ok (.istore_n 2, 1) := by decide +kernel
theorem dX3_balanceOf_41 : decode cX3_balanceOf 41 = .ok (.aload_n 0, 1) := by decide +kernel
theorem dX3_balanceOf_42 : decode cX3_balanceOf 42 = .ok (.iload_n 3, 1) := by decide +kernel
theorem dX3_balanceOf_43 : decode cX3_balanceOf 43 = .ok (.iconst 0, 1) := by decide +kernel
theorem dX3_balanceOf_44 : decode cX3_balanceOf 44 = .ok (.invokevirtual 32, 3) := by decide +kernel
theorem dX3_balanceOf_47 : decode cX3_balanceOf 47 = .ok (.iconst 2, 1) := by decide +kernel
theorem dX3_balanceOf_48 : decode cX3_balanceOf 48 = .ok (.if_icmp .eq 22, 3) := by decide +kernel
theorem dX3_balanceOf_51 : decode cX3_balanceOf 51 = .ok (.aload_n 0, 1) := by decide +kernel
theorem dX3_balanceOf_52 : decode cX3_balanceOf 52 = .ok (.iload_n 3, 1) := by decide +kernel
theorem dX3_balanceOf_53 : decode cX3_balanceOf 53 = .ok (.iconst 1, 1) := by decide +kernel
theorem dX3_balanceOf_54 : decode cX3_balanceOf 54 = .ok (.invokevirtual 32, 3) := by decide +kernel
theorem dX3_balanceOf_57 : decode cX3_balanceOf 57 = .ok (.iload_n 1, 1) := by decide +kernel
theorem dX3_balanceOf_58 : decode cX3_balanceOf 58 = .ok (.if_icmp .ne 12, 3) := by decide +kernel
theorem dX3_balanceOf_61 : decode cX3_balanceOf 61 = .ok (.iload_n 2, 1) := by decide +kernel
theorem dX3_balanceOf_62 : decode cX3_balanceOf 62 = .ok (.aload_n 0, 1) := by decide +kernel
theorem dX3_balanceOf_63 : decode cX3_balanceOf 63 = .ok (.iload_n 3, 1) := by decide +kernel
theorem dX3_balanceOf_64 : decode cX3_balanceOf 64 = .ok (.iconst 3, 1) := by decide +kernel
theorem dX3_balanceOf_65 : decode cX3_balanceOf 65 = .ok (.invokevirtual 32, 3) := by decide +kernel
theorem dX3_balanceOf_68 : decode cX3_balanceOf 68 = .ok (.isub, 1) := by decide +kernel
theorem dX3_balanceOf_69 : decode cX3_balanceOf 69 = .ok (.istore_n 2, 1) := by decide +kernel
theorem dX3_balanceOf_70 : decode cX3_balanceOf 70 = .ok (.iinc 3 1, 3) := by decide +kernel
theorem dX3_balanceOf_73 : decode cX3_balanceOf 73 = .ok (.goto (-69), 3) := by decide +kernel
theorem dX3_balanceOf_76 : decode cX3_balanceOf 76 = .ok (.iload_n 2, 1) := by decide +kernel
theorem dX3_balanceOf_77 : decode cX3_balanceOf 77 = .ok (.ireturn, 1) := by decide +kernel
