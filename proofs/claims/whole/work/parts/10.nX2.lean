theorem dX2_init_0 : decode cX2_init 0 = .ok (.aload_n 0, 1) := by decide +kernel
theorem dX2_init_1 : decode cX2_init 1 = .ok (.invokespecial 3, 3) := by decide +kernel
theorem dX2_init_4 : decode cX2_init 4 = .ok (.aload_n 0, 1) := by decide +kernel
theorem dX2_init_5 : decode cX2_init 5 = .ok (.iconst 0, 1) := by decide +kernel
theorem dX2_init_6 : decode cX2_init 6 = .ok (.iload_n 1, 1) := by decide +kernel
theorem dX2_init_7 : decode cX2_init 7 = .ok (.bipush 100, 2) := by decide +kernel
theorem dX2_init_9 : decode cX2_init 9 = .ok (.invokestatic 11, 3) := by decide +kernel
theorem dX2_init_12 : decode cX2_init 12 = .ok (.invokestatic 17, 3) := by decide +kernel
theorem dX2_init_15 : decode cX2_init 15 = .ok (.putfield 20, 3) := by decide +kernel
theorem dX2_init_18 : decode cX2_init 18 = .ok (.aload_n 0, 1) := by decide +kernel
theorem dX2_init_19 : decode cX2_init 19 = .ok (.iconst 0, 1) := by decide +kernel
theorem dX2_init_20 : decode cX2_init 20 = .ok (.iload_n 2, 1) := by decide +kernel
theorem dX2_init_21 : decode cX2_init 21 = .ok (.bipush 9, 2) := by decide +kernel
theorem dX2_init_23 : decode cX2_init 23 = .ok (.invokestatic 11, 3) := by decide +kernel
theorem dX2_init_26 : decode cX2_init 26 = .ok (.invokestatic 17, 3) := by decide +kernel
theorem dX2_init_29 : decode cX2_init 29 = .ok (.putfield 24, 3) := by decide +kernel
theorem dX2_init_32 : decode cX2_init 32 = .ok (.aload_n 0, 1) := by decide +kernel
theorem dX2_init_33 : decode cX2_init 33 = .ok (.aload_n 0, 1) := by decide +kernel
theorem dX2_init_34 : decode cX2_init 34 = .ok (.getfield 20, 3) := by decide +kernel
theorem dX2_init_37 : decode cX2_init 37 = .ok (.aload_n 0, 1) := by decide +kernel
theorem dX2_init_38 : decode cX2_init 38 = .ok (.getfield 24, 3) := by decide +kernel
theorem dX2_init_41 : decode cX2_init 41 = .ok (.imul, 1) := by decide +kernel
theorem dX2_init_42 : decode cX2_init 42 = .ok (.newarray .int, 2) := by decide +kernel
theorem dX2_init_44 : decode cX2_init 44 = .ok (.putfield 27, 3) := by decide +kernel
theorem dX2_init_47 : decode cX2_init 47 = .ok (.return_, 1) := by decide +kernel
theorem dX2_placeOf_0 : decode cX2_placeOf 0 = .ok (.iload_n 1, 1) := by decide +kernel
theorem dX2_placeOf_1 : decode cX2_placeOf 1 = .ok (.ifCond .lt 27, 3) := by decide +kernel
theorem dX2_placeOf_4 : decode cX2_placeOf 4 = .ok (.iload_n 1, 1) := by decide +kernel
theorem dX2_placeOf_5 : decode cX2_placeOf 5 = .ok (.aload_n 0, 1) := by decide +kernel
theorem dX2_placeOf_6 : decode cX2_placeOf 6 = .ok (.getfield 20, 3) := by decide +kernel
theorem dX2_placeOf_9 : decode cX2_placeOf 9 = .ok (.if_icmp .ge 19, 3) := by decide +kernel
theorem dX2_placeOf_12 : decode cX2_placeOf 12 = .ok (.iload_n 2, 1) := by decide +kernel
theorem dX2_placeOf_13 : decode cX2_placeOf 13 = .ok (.ifCond .lt 15, 3) := by decide +kernel
theorem dX2_placeOf_16 : decode cX2_placeOf 16 = .ok (.iload_n 2, 1) := by decide +kernel
theorem dX2_placeOf_17 : decode cX2_placeOf 17 = .ok (.aload_n 0, 1) := by decide +kernel
theorem dX2_placeOf_18 : decode cX2_placeOf 18 = .ok (.getfield 24, 3) := by decide +kernel
theorem dX2_placeOf_21 : decode cX2_placeOf 21 = .ok (.if_icmp .ge 7, 3) := by decide +kernel
theorem dX2_placeOf_24 : decode cX2_placeOf 24 = .ok (.iconst 1, 1) := by decide +kernel
theorem dX2_placeOf_25 : decode cX2_placeOf 25 = .ok (.goto 4, 3) := by decide +kernel
theorem dX2_placeOf_28 : decode cX2_placeOf 28 = .ok (.iconst 0, 1) := by decide +kernel
theorem dX2_placeOf_29 : decode cX2_placeOf 29 = .ok (.istore_n 3, 1) := by decide +kernel
theorem dX2_placeOf_30 : decode cX2_placeOf 30 = .ok (.iload_n 3, 1) := by decide +kernel
theorem dX2_placeOf_31 : decode cX2_placeOf 31 = .ok (.ifCond .eq 14, 3) := by decide +kernel
theorem dX2_placeOf_34 : decode cX2_placeOf 34 = .ok (.iload_n 1, 1) := by decide +kernel
theorem dX2_placeOf_35 : decode cX2_placeOf 35 = .ok (.aload_n 0, 1) := by decide +kernel
theorem dX2_placeOf_36 : decode cX2_placeOf 36 = .ok (.getfield 24, 3) := by decide +kernel
theorem dX2_placeOf_39 : decode cX2_placeOf 39 = .ok (.imul, 1) := by decide +kernel
theorem dX2_placeOf_40 : decode cX2_placeOf 40 = .ok (.iload_n 2, 1) := by decide +kernel
theorem dX2_placeOf_41 : decode cX2_placeOf 41 = .ok (.iadd, 1) := by decide +kernel
theorem dX2_placeOf_42 : decode cX2_placeOf 42 = .ok (.goto 4, 3) := by decide +kernel
theorem dX2_placeOf_45 : decode cX2_placeOf 45 = .ok (.iconst (-1), 1) := by decide +kernel
theorem dX2_placeOf_46 : decode cX2_placeOf 46 = .ok (.ireturn, 1) := by decide +kernel
set_option maxRecDepth 20000 in
theorem ggX2_get_X2_placeOf : GoodIn wsX2_get wsX2_placeOf := goodIn_r _ [6, 7, 8, 9, 10, 11] (by decide +kernel) (by decide +kernel)
set_option maxRecDepth 20000 in
theorem gX2_get_X2_placeOf : GoodIn wsX2_get (wsV RX2 31 RX2 yX2_placeOf wsX2_placeOf) := goodIn_app (goodIn_of _ (by decide +kernel)) ggX2_get_X2_placeOf
theorem dX2_get_0 : decode cX2_get 0 = .ok (.aload_n 0, 1) := by decide +kernel
theorem dX2_get_1 : decode cX2_get 1 = .ok (.iload_n 1, 1) := by decide +kernel
theorem dX2_get_2 : decode cX2_get 2 = .ok (.iload_n 2, 1) := by decide +kernel
theorem dX2_get_3 : decode cX2_get 3 = .ok (.invokevirtual 31, 3) := by decide +kernel
theorem dX2_get_6 : decode cX2_get 6 = .ok (.istore_n 3, 1) := by decide +kernel
theorem dX2_get_7 : decode cX2_get 7 = .ok (.iload_n 3, 1) := by decide +kernel
theorem dX2_get_8 : decode cX2_get 8 = .ok (.ifCond .lt 21, 3) := by decide +kernel
theorem dX2_get_11 : decode cX2_get 11 = .ok (.iload_n 3, 1) := by decide +kernel
theorem dX2_get_12 : decode cX2_get 12 = .ok (.aload_n 0, 1) := by decide +kernel
theorem dX2_get_13 : decode cX2_get 13 = .ok (.getfield 27, 3) := by decide +kernel
theorem dX2_get_16 : decode cX2_get 16 = .ok (.arraylength, 1) := by decide +kernel
theorem dX2_get_17 : decode cX2_get 17 = .ok (.if_icmp .ge 12, 3) := by decide +kernel
theorem dX2_get_20 : decode cX2_get 20 = .ok (.aload_n 0, 1) := by decide +kernel
theorem dX2_get_21 : decode cX2_get 21 = .ok (.getfield 27, 3) := by decide +kernel
theorem dX2_get_24 : decode cX2_get 24 = .ok (.iload_n 3, 1) := by decide +kernel
theorem dX2_get_25 : decode cX2_get 25 = .ok (.iaload, 1) := by decide +kernel
theorem dX2_get_26 : decode cX2_get 26 = .ok (.goto 4, 3) := by decide +kernel
theorem dX2_get_29 : decode cX2_get 29 = .ok (.iconst 0, 1) := by decide +kernel
theorem dX2_get_30 : decode cX2_get 30 = .ok (.ireturn, 1) := by decide +kernel
set_option maxRecDepth 20000 in
theorem ggX2_set_X2_placeOf : GoodIn wsX2_set wsX2_placeOf := goodIn_r _ [6, 7, 8, 9, 10, 11] (by decide +kernel) (by decide +kernel)
set_option maxRecDepth 20000 in
theorem gX2_set_X2_placeOf : GoodIn wsX2_set (wsV RX2 31 RX2 yX2_placeOf wsX2_placeOf) := goodIn_app (goodIn_of _ (by decide +kernel)) ggX2_set_X2_placeOf
theorem dX2_set_0 : decode cX2_set 0 = .ok (.aload_n 0, 1) := by decide +kernel
theorem dX2_set_1 : decode cX2_set 1 = .ok (.iload_n 1, 1) := by decide +kernel
theorem dX2_set_2 : decode cX2_set 2 = .ok (.iload_n 2, 1) := by decide +kernel
theorem dX2_set_3 : decode cX2_set 3 = .ok (.invokevirtual 31, 3) := by decide +kernel
theorem dX2_set_6 : decode cX2_set 6 = .ok (.istore 4, 2) := by decide +kernel
theorem dX2_set_8 : decode cX2_set 8 = .ok (.iload 4, 2) := by decide +kernel
theorem dX2_set_10 : decode cX2_set 10 = .ok (.ifCond .lt 21, 3) := by decide +kernel
theorem dX2_set_13 : decode cX2_set 13 = .ok (.iload 4, 2) := by decide +kernel
theorem dX2_set_15 : decode cX2_set 15 = .ok (.aload_n 0, 1) := by decide +kernel
theorem dX2_set_16 : decode cX2_set 16 = .ok (.getfield 27, 3) := by decide +kernel
theorem dX2_set_19 : decode cX2_set 19 = .ok (.arraylength, 1) := by decide +kernel
theorem dX2_set_20 : decode cX2_set 20 = .ok (.if_icmp .ge 11, 3) := by decide +kernel
theorem dX2_set_23 : decode cX2_set 23 = .ok (.aload_n 0, 1) := by decide +kernel
theorem dX2_set_24 : decode cX2_set 24 = .ok (.getfield 27, 3) := by decide +kernel
theorem dX2_set_27 : decode cX2_set 27 = .ok (.iload 4, 2) := by decide +kernel
theorem dX2_set_29 : decode cX2_set 29 = .ok (.iload_n 3, 1) := by decide +kernel
theorem dX2_set_30 : decode cX2_set 30 = .ok (.iastore, 1) := by decide +kernel
theorem dX2_set_31 : decode cX2_set 31 = .ok (.return_, 1) := by decide +kernel
set_option maxRecDepth 20000 in
theorem ggX2_add_X2_get : GoodIn wsX2_add wsX2_get := goodIn_r _ [5, 6, 7, 8, 9, 4, 10, 11, 12, 17, 18, 19] (by decide +kernel) (by decide +kernel)
set_option maxRecDepth 20000 in
theorem gX2_add_X2_get : GoodIn wsX2_add (wsV RX2 34 RX2 yX2_get wsX2_get) := goodIn_app (goodIn_of _ (by decide +kernel)) ggX2_add_X2_get
set_option maxRecDepth 20000 in
theorem ggX2_add_X2_set : GoodIn wsX2_add wsX2_set := goodIn_r _ [16, 6, 7, 8, 9, 4, 10, 11, 12, 17, 18, 19] (by decide +kernel) (by decide +kernel)
set_option maxRecDepth 20000 in
theorem gX2_add_X2_set : GoodIn wsX2_add (wsV RX2 37 RX2 yX2_set wsX2_set) := goodIn_app (goodIn_of _ (by decide +kernel)) ggX2_add_X2_set
theorem dX2_add_0 : decode cX2_add 0 = .ok (.aload_n 0, 1) := by decide +kernel
theorem dX2_add_1 : decode cX2_add 1 = .ok (.iload_n 1, 1) := by decide +kernel
theorem dX2_add_2 : decode cX2_add 2 = .ok (.iload_n 2, 1) := by decide +kernel
theorem dX2_add_3 : decode cX2_add 3 = .ok (.aload_n 0, 1) := by decide +kernel
theorem dX2_add_4 : decode cX2_add 4 = .ok (.iload_n 1, 1) := by decide +kernel
theorem dX2_add_5 : decode cX2_add 5 = .ok (.iload_n 2, 1) := by decide +kernel
theorem dX2_add_6 : decode cX2_add 6 = .ok (.invokevirtual 34, 3) := by decide +kernel
theorem dX2_add_9 : decode cX2_add 9 = .ok (.iload_n 3, 1) := by decide +kernel
theorem dX2_add_10 : decode cX2_add 10 = .ok (.iadd, 1) := by decide +kernel
theorem dX2_add_11 : decode cX2_add 11 = .ok (.invokevirtual 37, 3) := by decide +kernel
theorem dX2_add_14 : decode cX2_add 14 = .ok (.return_, 1) := by decide +kernel
set_option maxRecDepth 20000 in
theorem ggX2_rowSum_X2_get : GoodIn wsX2_rowSum wsX2_get := goodIn_r _ [6, 7, 8, 9, 10, 5, 11, 12, 1, 13, 14, 15] (by decide +kernel) (by decide +kernel)
set_option maxRecDepth 20000 in
theorem gX2_rowSum_X2_get : GoodIn wsX2_rowSum (wsV RX2 34 RX2 yX2_get wsX2_get) := goodIn_app (goodIn_of _ (by decide +kernel)) ggX2_rowSum_X2_get
theorem dX2_rowSum_0 : decode cX2_rowSum 0 = .ok (.iconst 0, 1) := by decide +kernel
theorem dX2_rowSum_1 : decode cX2_rowSum 1 = .ok (.istore_n 2, 1) := by decide +kernel
theorem dX2_rowSum_2 : decode cX2_rowSum 2 = .ok (.iconst 0, 1) := by decide +kernel
theorem dX2_rowSum_3 : decode cX2_rowSum 3 = .ok (.istore_n 3, 1) := by decide +kernel
theorem dX2_rowSum_4 : decode cX2_rowSum 4 = .ok (.iload_n 3, 1) := by decide +kernel
theorem dX2_rowSum_5 : decode cX2_rowSum 5 = .ok (.aload_n 0, 1) := by decide +kernel
theorem dX2_rowSum_6 : decode cX2_rowSum 6 = .ok (.getfield 24, 3) := by decide +kernel
theorem dX2_rowSum_9 : decode cX2_rowSum 9 = .ok (.if_icmp .ge 18, 3) := by decide +kernel
theorem dX2_rowSum_12 : decode cX2_rowSum 12 = .ok (.iload_n 2, 1) := by decide +kernel
theorem dX2_rowSum_13 : decode cX2_rowSum 13 = .ok (.aload_n 0, 1) := by decide +kernel
theorem dX2_rowSum_14 : decode cX2_rowSum 14 = .ok (.iload_n 1, 1) := by decide +kernel
theorem dX2_rowSum_15 : decode cX2_rowSum 15 = .ok (.iload_n 3, 1) := by decide +kernel
theorem dX2_rowSum_16 : decode cX2_rowSum 16 = .ok (.invokevirtual 34, 3) := by decide +kernel
theorem dX2_rowSum_19 : decode cX2_rowSum 19 = .ok (.iadd, 1) := by decide +kernel
theorem dX2_rowSum_20 : decode cX2_rowSum 20 = .ok (.istore_n 2, 1) := by decide +kernel
theorem dX2_rowSum_21 : decode cX2_rowSum 21 = .ok (.iinc 3 1, 3) := by decide +kernel
theorem dX2_rowSum_24 : decode cX2_rowSum 24 = .ok (.goto (-20), 3) := by decide +kernel
theorem dX2_rowSum_27 : decode cX2_rowSum 27 = .ok (.iload_n 2, 1) := by decide +kernel
theorem dX2_rowSum_28 : decode cX2_rowSum 28 = .ok (.ireturn, 1) := by decide +kernel
set_option maxRecDepth 20000 in
theorem ggX2_columnSum_X2_get : GoodIn wsX2_columnSum wsX2_get := goodIn_r _ [6, 7, 8, 9, 10, 5, 11, 1, 12, 13, 14, 15] (by decide +kernel) (by decide +kernel)
set_option maxRecDepth 20000 in
theorem gX2_columnSum_X2_get : GoodIn wsX2_columnSum (wsV RX2 34 RX2 yX2_get wsX2_get) := goodIn_app (goodIn_of _ (by decide +kernel)) ggX2_columnSum_X2_get
theorem dX2_columnSum_0 : decode cX2_columnSum 0 = .ok (.iconst 0, 1) := by decide +kernel
theorem dX2_columnSum_1 : decode cX2_columnSum 1 = .ok (.istore_n 2, 1) := by decide +kernel
theorem dX2_columnSum_2 : decode cX2_columnSum 2 = .ok (.iconst 0, 1) := by decide +kernel
theorem dX2_columnSum_3 : decode cX2_columnSum 3 = .ok (.istore_n 3, 1) := by decide +kernel
theorem dX2_columnSum_4 : decode cX2_columnSum 4 = .ok (.iload_n 3, 1) := by decide +kernel
theorem dX2_columnSum_5 : decode cX2_columnSum 5 = .ok (.aload_n 0, 1) := by decide +kernel
theorem dX2_columnSum_6 : decode cX2_columnSum 6 = .ok (.getfield 20, 3) := by decide +kernel
theorem dX2_columnSum_9 : decode cX2_columnSum 9 = .ok (.if_icmp .ge 18, 3) := by decide +kernel
theorem dX2_columnSum_12 : decode cX2_columnSum 12 = .ok (.iload_n 2, 1) := by decide +kernel
theorem dX2_columnSum_13 : decode cX2_columnSum 13 = .ok (.aload_n 0, 1) := by decide +kernel
theorem dX2_columnSum_14 : decode cX2_columnSum 14 = .ok (.iload_n 3, 1) := by decide +kernel
theorem dX2_columnSum_15 : decode cX2_columnSum 15 = .ok (.iload_n 1, 1) := by decide +kernel
theorem dX2_columnSum_16 : decode cX2_columnSum 16 = .ok (.invokevirtual 34, 3) := by decide +kernel
theorem dX2_columnSum_19 : decode cX2_columnSum 19 = .ok (.iadd, 1) := by decide +kernel
theorem dX2_columnSum_20 : decode cX2_columnSum 20 = .ok (.istore_n 2, 1) := by decide +kernel
theorem dX2_columnSum_21 : decode cX2_columnSum 21 = .ok (.iinc 3 1, 3) := by decide +kernel
theorem dX2_columnSum_24 : decode cX2_columnSum 24 = .ok (.goto (-20), 3) := by decide +kernel
theorem dX2_columnSum_27 : decode cX2_columnSum 27 = .ok (.iload_n 2, 1) := by decide +kernel
theorem dX2_columnSum_28 : decode cX2_columnSum 28 = .ok (.ireturn, 1) := by decide +kernel
set_option maxRecDepth 20000 in
theorem ggX2_clearAllOf_X2_set : GoodIn wsX2_clearAllOf wsX2_set := goodIn_r _ [5, 6, 7, 8, 9, 4, 10, 11, 12, 13, 14, 15] (by decide +kernel) (by decide +kernel)
set_option maxRecDepth 20000 in
theorem gX2_clearAllOf_X2_set : GoodIn wsX2_clearAllOf (wsV RX2 37 RX2 yX2_set wsX2_set) := goodIn_app (goodIn_of _ (by decide +kernel)) ggX2_clearAllOf_X2_set
theorem dX2_clearAllOf_0 : decode cX2_clearAllOf 0 = .ok (.iconst 0, 1) := by decide +kernel
theorem dX2_clearAllOf_1 : decode cX2_clearAllOf 1 = .ok (.istore_n 2, 1) := by decide +kernel
theorem dX2_clearAllOf_2 : decode cX2_clearAllOf 2 = .ok (.iload_n 2, 1) := by decide +kernel
theorem dX2_clearAllOf_3 : decode cX2_clearAllOf 3 = .ok (.bipush 9, 2) := by decide +kernel
theorem dX2_clearAllOf_5 : decode cX2_clearAllOf 5 = .ok (.if_icmp .ge 23, 3) := by decide +kernel
theorem dX2_clearAllOf_8 : decode cX2_clearAllOf 8 = .ok (.aload_n 0, 1) := by decide +kernel
theorem dX2_clearAllOf_9 : decode cX2_clearAllOf 9 = .ok (.iload_n 1, 1) := by decide +kernel
theorem dX2_clearAllOf_10 : decode cX2_clearAllOf 10 = .ok (.iload_n 2, 1) := by decide +kernel
theorem dX2_clearAllOf_11 : decode cX2_clearAllOf 11 = .ok (.iconst 0, 1) := by decide +kernel
theorem dX2_clearAllOf_12 : decode cX2_clearAllOf 12 = .ok (.invokevirtual 37, 3) := by decide +kernel
theorem dX2_clearAllOf_15 : decode cX2_clearAllOf 15 = .ok (.aload_n 0, 1) := by decide +kernel
theorem dX2_clearAllOf_16 : decode cX2_clearAllOf 16 = .ok (.iload_n 2, 1) := by decide +kernel
theorem dX2_clearAllOf_17 : decode cX2_clearAllOf 17 = .ok (.iload_n 1, 1) := by decide +kernel
theorem dX2_clearAllOf_18 : decode cX2_clearAllOf 18 = .ok (.iconst 0, 1) := by decide +kernel
theorem dX2_clearAllOf_19 : decode cX2_clearAllOf 19 = .ok (.invokevirtual 37, 3) := by decide +kernel
theorem dX2_clearAllOf_22 : decode cX2_clearAllOf 22 = .ok (.iinc 2 1, 3) := by decide +kernel
theorem dX2_clearAllOf_25 : decode cX2_clearAllOf 25 = .ok (.goto (-23), 3) := by decide +kernel
theorem dX2_clearAllOf_28 : decode cX2_clearAllOf 28 = .ok (.return_, 1) := by decide +kernel
