set_option maxRecDepth 20000 in
theorem ggL_join_X4_join : GoodIn wsL_join wsX4_join := goodIn_ca (goodIn_r _ [6, 7, 8, 9, 10, 11, 12, 13, 14, 15, 16, 17, 18] (by decide +kernel) (by decide +kernel)) (goodIn_sub (fun _ h => List.mem_cons_of_mem _ (List.mem_append_right _ h)) (by decide +kernel))
set_option maxRecDepth 20000 in
theorem gL_join_X4_join : GoodIn wsL_join (wsV RL 7 RX4 yX4_join wsX4_join) := goodIn_app (goodIn_of _ (by decide +kernel)) ggL_join_X4_join
theorem dL_join_0 : decode cL_join 0 = .ok (.aload_n 1, 1) := by decide +kernel
theorem dL_join_1 : decode cL_join 1 = .ok (.iconst 0, 1) := by decide +kernel
theorem dL_join_2 : decode cL_join 2 = .ok (.aload_n 0, 1) := by decide +kernel
theorem dL_join_3 : decode cL_join 3 = .ok (.invokevirtual 7, 3) := by decide +kernel
theorem dL_join_6 : decode cL_join 6 = .ok (.i2l, 1) := by decide +kernel
theorem dL_join_7 : decode cL_join 7 = .ok (.lastore, 1) := by decide +kernel
theorem dL_join_8 : decode cL_join 8 = .ok (.goto 6, 3) := by decide +kernel
theorem dL_join_11 : decode cL_join 11 = .ok (.astore_n 2, 1) := by decide +kernel
theorem dL_join_12 : decode cL_join 12 = .ok (.iconst 1, 1) := by decide +kernel
theorem dL_join_13 : decode cL_join 13 = .ok (.ireturn, 1) := by decide +kernel
theorem dL_join_14 : decode cL_join 14 = .ok (.iconst 0, 1) := by decide +kernel
theorem dL_join_15 : decode cL_join 15 = .ok (.ireturn, 1) := by decide +kernel
set_option maxRecDepth 20000 in
theorem ggL_leave_X4_leave : GoodIn wsL_leave wsX4_leave := goodIn_ca (goodIn_ca (goodIn_r _ [7, 8, 9, 10, 11, 12, 13, 14, 15, 6, 16, 17, 18, 19, 20, 21, 22, 23, 24, 25, 26, 27, 28, 29, 30, 31, 32, 33, 34, 35, 36, 37, 38, 39, 40, 41, 42, 43, 44, 45, 46, 47, 48, 49, 50, 51, 52, 53, 54, 55, 56, 57, 58, 59, 60, 61, 62, 63, 64, 65, 66, 67, 68, 69, 70, 71, 72, 73, 74, 75, 76, 77, 78, 79, 80, 81, 82, 83, 84, 85, 86, 87, 88, 89, 90, 91, 92, 93, 94, 95, 96, 97, 98, 99, 100, 101, 102, 103, 104, 105, 106, 107, 108, 109, 110, 111, 112, 113, 114, 115, 116, 117, 118, 119, 120, 121, 122, 123] (by decide +kernel) (by decide +kernel)) (goodIn_sub (fun _ h => List.mem_cons_of_mem _ (List.mem_append_left _ (List.mem_append_right _ h))) (by decide +kernel))) (goodIn_sub (fun _ h => List.mem_cons_of_mem _ (List.mem_append_right _ h)) (by decide +kernel))
set_option maxRecDepth 20000 in
theorem gL_leave_X4_leave : GoodIn wsL_leave (wsV RL 15 RX4 yX4_leave wsX4_leave) := goodIn_app (goodIn_of _ (by decide +kernel)) ggL_leave_X4_leave
theorem dL_leave_0 : decode cL_leave 0 = .ok (.aload_n 2, 1) := by decide +kernel
theorem dL_leave_1 : decode cL_leave 1 = .ok (.iconst 0, 1) := by decide +kernel
theorem dL_leave_2 : decode cL_leave 2 = .ok (.aload_n 0, 1) := by decide +kernel
theorem dL_leave_3 : decode cL_leave 3 = .ok (.iload_n 1, 1) := by decide +kernel
theorem dL_leave_4 : decode cL_leave 4 = .ok (.invokevirtual 15, 3) := by decide +kernel
theorem dL_leave_7 : decode cL_leave 7 = .ok (.i2l, 1) := by decide +kernel
theorem dL_leave_8 : decode cL_leave 8 = .ok (.lastore, 1) := by decide +kernel
theorem dL_leave_9 : decode cL_leave 9 = .ok (.goto 9, 3) := by decide +kernel
theorem dL_leave_12 : decode cL_leave 12 = .ok (.astore_n 3, 1) := by decide +kernel
theorem dL_leave_13 : decode cL_leave 13 = .ok (.iconst 1, 1) := by decide +kernel
theorem dL_leave_14 : decode cL_leave 14 = .ok (.ireturn, 1) := by decide +kernel
theorem dL_leave_15 : decode cL_leave 15 = .ok (.astore_n 3, 1) := by decide +kernel
theorem dL_leave_16 : decode cL_leave 16 = .ok (.iconst 2, 1) := by decide +kernel
theorem dL_leave_17 : decode cL_leave 17 = .ok (.ireturn, 1) := by decide +kernel
theorem dL_leave_18 : decode cL_leave 18 = .ok (.iconst 0, 1) := by decide +kernel
theorem dL_leave_19 : decode cL_leave 19 = .ok (.ireturn, 1) := by decide +kernel
set_option maxRecDepth 20000 in
theorem ggL_trade_X4_trade : GoodIn wsL_trade wsX4_trade := goodIn_ca (goodIn_ca (goodIn_ca (goodIn_r _ [8, 9, 10, 11, 12, 13, 14, 15, 16, 7, 17, 18, 19, 20, 21, 22, 23, 24, 25, 26, 27, 28, 29, 30, 31, 32, 33, 34, 35, 36, 37, 38, 39, 40, 41, 42, 43, 44, 45, 46, 47, 48, 49, 50, 51, 52, 53, 54, 55, 56, 57, 58, 59, 60, 61, 62, 63, 64, 65, 66, 67, 68, 69, 70, 71, 72, 73, 74, 75, 76, 77, 78, 79, 80, 81, 82, 83, 84, 85, 86, 87, 88, 89, 90, 91, 92, 93, 94, 95, 96, 97, 98, 99, 100, 101, 102, 103, 104, 105, 106, 107, 108, 109, 110, 111, 112, 113, 114, 115, 116, 117, 118, 119, 120, 121, 122, 123, 124, 125, 126, 127, 128] (by decide +kernel) (by decide +kernel)) (goodIn_sub (fun _ h => List.mem_cons_of_mem _ (List.mem_append_left _ (List.mem_append_left _ (List.mem_append_right _ h)))) (by decide +kernel))) (goodIn_sub (fun _ h => List.mem_cons_of_mem _ (List.mem_append_left _ (List.mem_append_right _ h))) (by decide +kernel))) (goodIn_sub (fun _ h => List.mem_cons_of_mem _ (List.mem_append_right _ h)) (by decide +kernel))
set_option maxRecDepth 20000 in
theorem gL_trade_X4_trade : GoodIn wsL_trade (wsV RL 21 RX4 yX4_trade wsX4_trade) := goodIn_app (goodIn_of _ (by decide +kernel)) ggL_trade_X4_trade
theorem dL_trade_0 : decode cL_trade 0 = .ok (.aload 4, 2) := by decide +kernel
theorem dL_trade_2 : decode cL_trade 2 = .ok (.iconst 0, 1) := by decide +kernel
theorem dL_trade_3 : decode cL_trade 3 = .ok (.aload_n 0, 1) := by decide +kernel
theorem dL_trade_4 : decode cL_trade 4 = .ok (.iload_n 1, 1) := by decide +kernel
theorem dL_trade_5 : decode cL_trade 5 = .ok (.iload_n 2, 1) := by decide +kernel
theorem dL_trade_6 : decode cL_trade 6 = .ok (.iload_n 3, 1) := by decide +kernel
theorem dL_trade_7 : decode cL_trade 7 = .ok (.invokevirtual 21, 3) := by decide +kernel
theorem dL_trade_10 : decode cL_trade 10 = .ok (.i2l, 1) := by decide +kernel
theorem dL_trade_11 : decode cL_trade 11 = .ok (.lastore, 1) := by decide +kernel
theorem dL_trade_12 : decode cL_trade 12 = .ok (.goto 15, 3) := by decide +kernel
theorem dL_trade_15 : decode cL_trade 15 = .ok (.astore 5, 2) := by decide +kernel
theorem dL_trade_17 : decode cL_trade 17 = .ok (.iconst 1, 1) := by decide +kernel
theorem dL_trade_18 : decode cL_trade 18 = .ok (.ireturn, 1) := by decide +kernel
theorem dL_trade_19 : decode cL_trade 19 = .ok (.astore 5, 2) := by decide +kernel
theorem dL_trade_21 : decode cL_trade 21 = .ok (.iconst 2, 1) := by decide +kernel
theorem dL_trade_22 : decode cL_trade 22 = .ok (.ireturn, 1) := by decide +kernel
theorem dL_trade_23 : decode cL_trade 23 = .ok (.astore 5, 2) := by decide +kernel
theorem dL_trade_25 : decode cL_trade 25 = .ok (.iconst 3, 1) := by decide +kernel
theorem dL_trade_26 : decode cL_trade 26 = .ok (.ireturn, 1) := by decide +kernel
theorem dL_trade_27 : decode cL_trade 27 = .ok (.iconst 0, 1) := by decide +kernel
theorem dL_trade_28 : decode cL_trade 28 = .ok (.ireturn, 1) := by decide +kernel
set_option maxRecDepth 20000 in
theorem ggL_dispute_X4_dispute : GoodIn wsL_dispute wsX4_dispute := goodIn_ca (goodIn_ca (goodIn_r _ [7, 8, 9, 10, 11, 12, 13, 14, 15, 16, 17, 18, 6, 19, 20, 21, 22, 23, 24, 25, 26, 27, 28, 29, 30, 31, 32, 33, 34, 35, 36, 37, 38, 39, 40, 41, 42, 43, 44, 45, 46, 47, 48, 49, 50, 51, 52, 53, 54, 55, 56, 57, 58, 59, 60, 61, 62, 63, 64, 65, 66, 67, 68, 69, 70, 71, 72, 73, 74, 75, 76, 77, 78, 79, 80, 81, 82, 83, 84, 85, 86, 87, 88, 89, 90, 91, 92, 93, 94, 95, 96, 97] (by decide +kernel) (by decide +kernel)) (goodIn_sub (fun _ h => List.mem_cons_of_mem _ (List.mem_append_left _ (List.mem_append_right _ h))) (by decide +kernel))) (goodIn_sub (fun _ h => List.mem_cons_of_mem _ (List.mem_append_right _ h)) (by decide +kernel))
set_option maxRecDepth 20000 in
theorem gL_dispute_X4_dispute : GoodIn wsL_dispute (wsV RL 27 RX4 yX4_dispute wsX4_dispute) := goodIn_app (goodIn_of _ (by decide +kernel)) ggL_dispute_X4_dispute
theorem dL_dispute_0 : decode cL_dispute 0 = .ok (.aload_n 2, 1) := by decide +kernel
theorem dL_dispute_1 : decode cL_dispute 1 = .ok (.iconst 0, 1) := by decide +kernel
theorem dL_dispute_2 : decode cL_dispute 2 = .ok (.aload_n 0, 1) := by decide +kernel
theorem dL_dispute_3 : decode cL_dispute 3 = .ok (.iload_n 1, 1) := by decide +kernel
theorem dL_dispute_4 : decode cL_dispute 4 = .ok (.invokevirtual 27, 3) := by decide +kernel
theorem dL_dispute_7 : decode cL_dispute 7 = .ok (.i2l, 1) := by decide +kernel
theorem dL_dispute_8 : decode cL_dispute 8 = .ok (.lastore, 1) := by decide +kernel
theorem dL_dispute_9 : decode cL_dispute 9 = .ok (.goto 9, 3) := by decide +kernel
theorem dL_dispute_12 : decode cL_dispute 12 = .ok (.astore_n 3, 1) := by decide +kernel
theorem dL_dispute_13 : decode cL_dispute 13 = .ok (.iconst 1, 1) := by decide +kernel
theorem dL_dispute_14 : decode cL_dispute 14 = .ok (.ireturn, 1) := by decide +kernel
theorem dL_dispute_15 : decode cL_dispute 15 = .ok (.astore_n 3, 1) := by decide +kernel
theorem dL_dispute_16 : decode cL_dispute 16 = .ok (.iconst 2, 1) := by decide +kernel
theorem dL_dispute_17 : decode cL_dispute 17 = .ok (.ireturn, 1) := by decide +kernel
theorem dL_dispute_18 : decode cL_dispute 18 = .ok (.iconst 0, 1) := by decide +kernel
theorem dL_dispute_19 : decode cL_dispute 19 = .ok (.ireturn, 1) := by decide +kernel
set_option maxRecDepth 20000 in
theorem ggL_settle_X4_settle : GoodIn wsL_settle wsX4_settle := goodIn_ca (goodIn_ca (goodIn_r _ [7, 8, 9, 10, 11, 12, 13, 14, 6, 15, 16, 17, 18, 19, 20, 21, 22, 23, 24, 25, 26, 27, 28, 29, 30, 31, 32, 33, 34, 35, 36, 37, 38, 39, 40, 41, 42, 43, 44, 45, 46, 47, 48, 49, 50, 51, 52, 53, 54, 55, 56, 57, 58, 59, 60, 61, 62, 63, 64, 65, 66, 67, 68, 69, 70, 71, 72, 73, 74, 75, 76, 77, 78, 79, 80, 81] (by decide +kernel) (by decide +kernel)) (goodIn_sub (fun _ h => List.mem_cons_of_mem _ (List.mem_append_left _ (List.mem_append_right _ h))) (by decide +kernel))) (goodIn_sub (fun _ h => List.mem_cons_of_mem _ (List.mem_append_right _ h)) (by decide +kernel))
set_option maxRecDepth 20000 in
theorem gL_settle_X4_settle : GoodIn wsL_settle (wsV RL 30 RX4 yX4_settle wsX4_settle) := goodIn_app (goodIn_of _ (by decide +kernel)) ggL_settle_X4_settle
theorem dL_settle_0 : decode cL_settle 0 = .ok (.aload_n 3, 1) := by decide +kernel
theorem dL_settle_1 : decode cL_settle 1 = .ok (.iconst 0, 1) := by decide +kernel
theorem dL_settle_2 : decode cL_settle 2 = .ok (.aload_n 0, 1) := by decide +kernel
theorem dL_settle_3 : decode cL_settle 3 = .ok (.iload_n 1, 1) := by decide +kernel
theorem dL_settle_4 : decode cL_settle 4 = .ok (.iload_n 2, 1) := by decide +kernel
theorem dL_settle_5 : decode cL_settle 5 = .ok (.invokevirtual 30, 3) := by decide +kernel
theorem dL_settle_8 : decode cL_settle 8 = .ok (.i2l, 1) := by decide +kernel
theorem dL_settle_9 : decode cL_settle 9 = .ok (.lastore, 1) := by decide +kernel
theorem dL_settle_10 : decode cL_settle 10 = .ok (.goto 11, 3) := by decide +kernel
theorem dL_settle_13 : decode cL_settle 13 = .ok (.astore 4, 2) := by decide +kernel
theorem dL_settle_15 : decode cL_settle 15 = .ok (.iconst 1, 1) := by decide +kernel
theorem dL_settle_16 : decode cL_settle 16 = .ok (.ireturn, 1) := by decide +kernel
theorem dL_settle_17 : decode cL_settle 17 = .ok (.astore 4, 2) := by decide +kernel
theorem dL_settle_19 : decode cL_settle 19 = .ok (.iconst 2, 1) := by decide +kernel
theorem dL_settle_20 : decode cL_settle 20 = .ok (.ireturn, 1) := by decide +kernel
theorem dL_settle_21 : decode cL_settle 21 = .ok (.iconst 0, 1) := by decide +kernel
theorem dL_settle_22 : decode cL_settle 22 = .ok (.ireturn, 1) := by decide +kernel
set_option maxRecDepth 20000 in
theorem ggL_guarantee_X4_guarantee : GoodIn wsL_guarantee wsX4_guarantee := goodIn_ca (goodIn_ca (goodIn_ca (goodIn_r _ [8, 9, 10, 11, 12, 13, 14, 7, 15, 16, 17, 18, 19, 20, 21, 22, 23, 24, 25, 26, 27, 28, 29, 30, 31, 32, 33, 34, 35, 36, 37, 38, 39, 40, 41, 42, 43, 44, 45, 46, 47, 48, 49, 50, 51, 52, 53, 54, 55, 56, 57, 58, 59, 60, 61, 62, 63, 64, 65, 66, 67, 68, 69, 70, 71, 72, 73, 74, 75, 76, 77, 78, 79, 80, 81, 82, 83, 84, 85, 86, 87, 88, 89, 90, 91, 92, 93, 94, 95, 96, 97, 98, 99, 100, 101, 102, 103, 104, 105, 106, 107, 108, 109, 110, 111, 112, 113, 114, 115, 116, 117, 118, 119] (by decide +kernel) (by decide +kernel)) (goodIn_sub (fun _ h => List.mem_cons_of_mem _ (List.mem_append_left _ (List.mem_append_left _ (List.mem_append_right _ h)))) (by decide +kernel))) (goodIn_sub (fun _ h => List.mem_cons_of_mem _ (List.mem_append_left _ (List.mem_append_right _ h))) (by decide +kernel))) (goodIn_sub (fun _ h => List.mem_cons_of_mem _ (List.mem_append_right _ h)) (by decide +kernel))
set_option maxRecDepth 20000 in
theorem gL_guarantee_X4_guarantee : GoodIn wsL_guarantee (wsV RL 34 RX4 yX4_guarantee wsX4_guarantee) := goodIn_app (goodIn_of _ (by decide +kernel)) ggL_guarantee_X4_guarantee
theorem dL_guarantee_0 : decode cL_guarantee 0 = .ok (.aload 4, 2) := by decide +kernel
theorem dL_guarantee_2 : decode cL_guarantee 2 = .ok (.iconst 0, 1) := by decide +kernel
theorem dL_guarantee_3 : decode cL_guarantee 3 = .ok (.aload_n 0, 1) := by decide +kernel
theorem dL_guarantee_4 : decode cL_guarantee 4 = .ok (.iload_n 1, 1) := by decide +kernel
theorem dL_guarantee_5 : decode cL_guarantee 5 = .ok (.iload_n 2, 1) := by decide +kernel
theorem dL_guarantee_6 : decode cL_guarantee 6 = .ok (.iload_n 3, 1) := by decide +kernel
theorem dL_guarantee_7 : decode cL_guarantee 7 = .ok (.invokevirtual 34, 3) := by decide +kernel
theorem dL_guarantee_10 : decode cL_guarantee 10 = .ok (.i2l, 1) := by decide +kernel
theorem dL_guarantee_11 : decode cL_guarantee 11 = .ok (.lastore, 1) := by decide +kernel
theorem dL_guarantee_12 : decode cL_guarantee 12 = .ok (.goto 15, 3) := by decide +kernel
theorem dL_guarantee_15 : decode cL_guarantee 15 = .ok (.astore 5, 2) := by decide +kernel
theorem dL_guarantee_17 : decode cL_guarantee 17 = .ok (.iconst 1, 1) := by decide +kernel
theorem dL_guarantee_18 : decode cL_guarantee 18 = .ok (.ireturn, 1) := by decide +kernel
theorem dL_guarantee_19 : decode cL_guarantee 19 = .ok (.astore 5, 2) := by decide +kernel
theorem dL_guarantee_21 : decode cL_guarantee 21 = .ok (.iconst 2, 1) := by decide +kernel
theorem dL_guarantee_22 : decode cL_guarantee 22 = .ok (.ireturn, 1) := by decide +kernel
theorem dL_guarantee_23 : decode cL_guarantee 23 = .ok (.astore 5, 2) := by decide +kernel
theorem dL_guarantee_25 : decode cL_guarantee 25 = .ok (.iconst 3, 1) := by decide +kernel
theorem dL_guarantee_26 : decode cL_guarantee 26 = .ok (.ireturn, 1) := by decide +kernel
theorem dL_guarantee_27 : decode cL_guarantee 27 = .ok (.iconst 0, 1) := by decide +kernel
theorem dL_guarantee_28 : decode cL_guarantee 28 = .ok (.ireturn, 1) := by decide +kernel
set_option maxRecDepth 20000 in
theorem ggL_revoke_X4_revoke : GoodIn wsL_revoke wsX4_revoke := goodIn_ca (goodIn_ca (goodIn_ca (goodIn_r _ [8, 9, 10, 11, 12, 13, 14, 7, 15, 16, 17, 18, 19, 20, 21, 22, 23, 24, 25, 26, 27, 28, 29, 30, 31, 32, 33, 34, 35, 36, 37, 38, 39, 40, 41, 42, 43, 44, 45, 46, 47, 48, 49, 50, 51, 52, 53, 54, 55, 56, 57, 58, 59, 60, 61, 62, 63, 64, 65, 66, 67, 68, 69, 70, 71, 72, 73, 74, 75, 76, 77, 78, 79, 80, 81, 82, 83, 84, 85, 86, 87, 88, 89, 90, 91, 92, 93, 94, 95, 96, 97, 98, 99, 100, 101, 102, 103, 104, 105, 106, 107, 108, 109, 110, 111, 112, 113, 114, 115, 116, 117, 118, 119] (by decide +kernel) (by decide +kernel)) (goodIn_sub (fun _ h => List.mem_cons_of_mem _ (List.mem_append_left _ (List.mem_append_left _ (List.mem_append_right _ h)))) (by decide +kernel))) (goodIn_sub (fun _ h => List.mem_cons_of_mem _ (List.mem_append_left _ (List.mem_append_right _ h))) (by decide +kernel))) (goodIn_sub (fun _ h => List.mem_cons_of_mem _ (List.mem_append_right _ h)) (by decide +kernel))
set_option maxRecDepth 20000 in
theorem gL_revoke_X4_revoke : GoodIn wsL_revoke (wsV RL 37 RX4 yX4_revoke wsX4_revoke) := goodIn_app (goodIn_of _ (by decide +kernel)) ggL_revoke_X4_revoke
theorem dL_revoke_0 : decode cL_revoke 0 = .ok (.aload 4, 2) := by decide +kernel
theorem dL_revoke_2 : decode cL_revoke 2 = .ok (.iconst 0, 1) := by decide +kernel
theorem dL_revoke_3 : decode cL_revoke 3 = .ok (.aload_n 0, 1) := by decide +kernel
theorem dL_revoke_4 : decode cL_revoke 4 = .ok (.iload_n 1, 1) := by decide +kernel
theorem dL_revoke_5 : decode cL_revoke 5 = .ok (.iload_n 2, 1) := by decide +kernel
theorem dL_revoke_6 : decode cL_revoke 6 = .ok (.iload_n 3, 1) := by decide +kernel
theorem dL_revoke_7 : decode cL_revoke 7 = .ok (.invokevirtual 37, 3) := by decide +kernel
theorem dL_revoke_10 : decode cL_revoke 10 = .ok (.i2l, 1) := by decide +kernel
theorem dL_revoke_11 : decode cL_revoke 11 = .ok (.lastore, 1) := by decide +kernel
theorem dL_revoke_12 : decode cL_revoke 12 = .ok (.goto 15, 3) := by decide +kernel
theorem dL_revoke_15 : decode cL_revoke 15 = .ok (.astore 5, 2) := by decide +kernel
theorem dL_revoke_17 : decode cL_revoke 17 = .ok (.iconst 1, 1) := by decide +kernel
theorem dL_revoke_18 : decode cL_revoke 18 = .ok (.ireturn, 1) := by decide +kernel
theorem dL_revoke_19 : decode cL_revoke 19 = .ok (.astore 5, 2) := by decide +kernel
theorem dL_revoke_21 : decode cL_revoke 21 = .ok (.iconst 2, 1) := by decide +kernel
theorem dL_revoke_22 : decode cL_revoke 22 = .ok (.ireturn, 1) := by decide +kernel
theorem dL_revoke_23 : decode cL_revoke 23 = .ok (.astore 5, 2) := by decide +kernel
theorem dL_revoke_25 : decode cL_revoke 25 = .ok (.iconst 3, 1) := by decide +kernel
theorem dL_revoke_26 : decode cL_revoke 26 = .ok (.ireturn, 1) := by decide +kernel
theorem dL_revoke_27 : decode cL_revoke 27 = .ok (.iconst 0, 1) := by decide +kernel
theorem dL_revoke_28 : decode cL_revoke 28 = .ok (.ireturn, 1) := by decide +kernel
set_option maxRecDepth 20000 in
theorem ggL_fee_X4_fee : GoodIn wsL_fee wsX4_fee := goodIn_ca (goodIn_r _ [6, 7, 8, 9, 5, 10, 11, 12, 13, 14, 15, 16, 17, 18, 19, 20, 21] (by decide +kernel) (by decide +kernel)) (goodIn_sub (fun _ h => List.mem_cons_of_mem _ (List.mem_append_right _ h)) (by decide +kernel))
set_option maxRecDepth 20000 in
theorem gL_fee_X4_fee : GoodIn wsL_fee (wsV RL 40 RX4 yX4_fee wsX4_fee) := goodIn_app (goodIn_of _ (by decide +kernel)) ggL_fee_X4_fee
theorem dL_fee_0 : decode cL_fee 0 = .ok (.aload_n 2, 1) := by decide +kernel
theorem dL_fee_1 : decode cL_fee 1 = .ok (.iconst 0, 1) := by decide +kernel
theorem dL_fee_2 : decode cL_fee 2 = .ok (.aload_n 0, 1) := by decide +kernel
theorem dL_fee_3 : decode cL_fee 3 = .ok (.iload_n 1, 1) := by decide +kernel
theorem dL_fee_4 : decode cL_fee 4 = .ok (.invokevirtual 40, 3) := by decide +kernel
theorem dL_fee_7 : decode cL_fee 7 = .ok (.i2l, 1) := by decide +kernel
theorem dL_fee_8 : decode cL_fee 8 = .ok (.lastore, 1) := by decide +kernel
theorem dL_fee_9 : decode cL_fee 9 = .ok (.goto 6, 3) := by decide +kernel
theorem dL_fee_12 : decode cL_fee 12 = .ok (.astore_n 3, 1) := by decide +kernel
theorem dL_fee_13 : decode cL_fee 13 = .ok (.iconst 1, 1) := by decide +kernel
theorem dL_fee_14 : decode cL_fee 14 = .ok (.ireturn, 1) := by decide +kernel
theorem dL_fee_15 : decode cL_fee 15 = .ok (.iconst 0, 1) := by decide +kernel
theorem dL_fee_16 : decode cL_fee 16 = .ok (.ireturn, 1) := by decide +kernel
set_option maxRecDepth 20000 in
theorem ggL_night_X4_night : GoodIn wsL_night wsX4_night := goodIn_ca (goodIn_r _ [6, 7, 8, 9, 10, 11, 5, 12, 13, 14, 15, 16, 17, 18, 19, 20, 21, 22, 23, 24, 25, 26, 27, 28, 29, 30, 31, 32, 33, 34, 35, 36, 37, 38, 39, 40, 41, 42, 43, 44, 45, 46, 47, 48, 49, 50, 51, 52, 53, 54, 55, 56, 57, 58, 59, 60, 61, 62, 63, 64, 65, 66, 67, 68, 69, 70, 71, 72, 73, 74, 75, 76, 77, 78, 79, 80, 81, 82, 83, 84, 85, 86, 87, 88, 89, 90, 91, 92, 93, 94, 95, 96, 97, 98, 99, 100, 101, 102, 103, 104, 105, 106, 107, 108, 109, 110, 111, 112, 113, 114, 115, 116, 117, 118, 119, 120, 121, 122, 123, 124, 125, 126, 127, 128, 129, 130, 131, 132, 133, 134, 135, 136, 137, 138, 139, 140, 141, 142, 143, 144, 145, 146, 147, 148, 149, 150, 151, 152, 153, 154, 155, 156] (by decide +kernel) (by decide +kernel)) (goodIn_sub (fun _ h => List.mem_cons_of_mem _ (List.mem_append_right _ h)) (by decide +kernel))
set_option maxRecDepth 20000 in
theorem gL_night_X4_night : GoodIn wsL_night (wsV RL 43 RX4 yX4_night wsX4_night) := goodIn_app (goodIn_of _ (by decide +kernel)) ggL_night_X4_night
theorem dL_night_0 : decode cL_night 0 = .ok (.aload_n 2, 1) := by decide +kernel
theorem dL_night_1 : decode cL_night 1 = .ok (.iconst 0, 1) := by decide +kernel
theorem dL_night_2 : decode cL_night 2 = .ok (.aload_n 0, 1) := by decide +kernel
theorem dL_night_3 : decode cL_night 3 = .ok (.iload_n 1, 1) := by decide +kernel
theorem dL_night_4 : decode cL_night 4 = .ok (.invokevirtual 43, 3) := by decide +kernel
theorem dL_night_7 : decode cL_night 7 = .ok (.i2l, 1) := by decide +kernel
theorem dL_night_8 : decode cL_night 8 = .ok (.lastore, 1) := by decide +kernel
theorem dL_night_9 : decode cL_night 9 = .ok (.goto 6, 3) := by decide +kernel
theorem dL_night_12 : decode cL_night 12 = .ok (.astore_n 3, 1) := by decide +kernel
theorem dL_night_13 : decode cL_night 13 = .ok (.iconst 1, 1) := by decide +kernel
theorem dL_night_14 : decode cL_night 14 = .ok (.ireturn, 1) := by decide +kernel
theorem dL_night_15 : decode cL_night 15 = .ok (.iconst 0, 1) := by decide +kernel
theorem dL_night_16 : decode cL_night 16 = .ok (.ireturn, 1) := by decide +kernel
set_option maxRecDepth 20000 in
theorem ggL_balance_X4_balance : GoodIn wsL_balance wsX4_balance := goodIn_ca (goodIn_r _ [6, 7, 8, 9, 10, 5, 11, 12, 13, 14, 15, 16, 17, 18, 19, 20, 21, 22, 23, 24, 25, 26, 27, 28, 29, 30, 31, 32, 33, 34, 35, 36, 37, 38, 39, 40, 41, 42, 43, 44, 45, 46, 47, 48, 49, 50, 51, 52, 53, 54, 55, 56, 57, 58, 59, 60, 61, 62] (by decide +kernel) (by decide +kernel)) (goodIn_sub (fun _ h => List.mem_cons_of_mem _ (List.mem_append_right _ h)) (by decide +kernel))
set_option maxRecDepth 20000 in
theorem gL_balance_X4_balance : GoodIn wsL_balance (wsV RL 46 RX4 yX4_balance wsX4_balance) := goodIn_app (goodIn_of _ (by decide +kernel)) ggL_balance_X4_balance
theorem dL_balance_0 : decode cL_balance 0 = .ok (.aload_n 2, 1) := by decide +kernel
theorem dL_balance_1 : decode cL_balance 1 = .ok (.iconst 0, 1) := by decide +kernel
theorem dL_balance_2 : decode cL_balance 2 = .ok (.aload_n 0, 1) := by decide +kernel
theorem dL_balance_3 : decode cL_balance 3 = .ok (.iload_n 1, 1) := by decide +kernel
theorem dL_balance_4 : decode cL_balance 4 = .ok (.invokevirtual 46, 3) := by decide +kernel
theorem dL_balance_7 : decode cL_balance 7 = .ok (.i2l, 1) := by decide +kernel
theorem dL_balance_8 : decode cL_balance 8 = .ok (.lastore, 1) := by decide +kernel
theorem dL_balance_9 : decode cL_balance 9 = .ok (.goto 6, 3) := by decide +kernel
theorem dL_balance_12 : decode cL_balance 12 = .ok (.astore_n 3, 1) := by decide +kernel
theorem dL_balance_13 : decode cL_balance 13 = .ok (.iconst 1, 1) := by decide +kernel
theorem dL_balance_14 : decode cL_balance 14 = .ok (.ireturn, 1) := by decide +kernel
theorem dL_balance_15 : decode cL_balance 15 = .ok (.iconst 0, 1) := by decide +kernel
theorem dL_balance_16 : decode cL_balance 16 = .ok (.ireturn, 1) := by decide +kernel
set_option maxRecDepth 20000 in
theorem ggL_balanceAnew_X4_balanceAnew : GoodIn wsL_balanceAnew wsX4_balanceAnew := goodIn_ca (goodIn_r _ [6, 7, 8, 9, 10, 11, 5, 12, 13, 14, 15, 16, 17, 18, 19, 20, 21, 22, 23, 24, 25, 26, 27, 28, 29, 30, 31, 32, 33, 34, 35, 36, 37, 38, 39, 40, 41, 42, 43, 44, 45, 46, 47, 48, 49, 50, 51, 52, 53, 54, 55, 56, 57, 58, 59, 60, 61, 62, 63, 64, 65, 66, 67, 68, 69] (by decide +kernel) (by decide +kernel)) (goodIn_sub (fun _ h => List.mem_cons_of_mem _ (List.mem_append_right _ h)) (by decide +kernel))
set_option maxRecDepth 20000 in
theorem gL_balanceAnew_X4_balanceAnew : GoodIn wsL_balanceAnew (wsV RL 49 RX4 yX4_balanceAnew wsX4_balanceAnew) := goodIn_app (goodIn_of _ (by decide +kernel)) ggL_balanceAnew_X4_balanceAnew
theorem dL_balanceAnew_0 : decode cL_balanceAnew 0 = .ok (.aload_n 2, 1) := by decide +kernel
theorem dL_balanceAnew_1 : decode cL_balanceAnew 1 = .ok (.iconst 0, 1) := by decide +kernel
theorem dL_balanceAnew_2 : decode cL_balanceAnew 2 = .ok (.aload_n 0, 1) := by decide +kernel
theorem dL_balanceAnew_3 : decode cL_balanceAnew 3 = .ok (.iload_n 1, 1) := by decide +kernel
theorem dL_balanceAnew_4 : decode cL_balanceAnew 4 = .ok (.invokevirtual 49, 3) := by decide +kernel
theorem dL_balanceAnew_7 : decode cL_balanceAnew 7 = .ok (.i2l, 1) := by decide +kernel
theorem dL_balanceAnew_8 : decode cL_balanceAnew 8 = .ok (.lastore, 1) := by decide +kernel
theorem dL_balanceAnew_9 : decode cL_balanceAnew 9 = .ok (.goto 6, 3) := by decide +kernel
theorem dL_balanceAnew_12 : decode cL_balanceAnew 12 = .ok (.astore_n 3, 1) := by decide +kernel
theorem dL_balanceAnew_13 : decode cL_balanceAnew 13 = .ok (.iconst 1, 1) := by decide +kernel
theorem dL_balanceAnew_14 : decode cL_balanceAnew 14 = .ok (.ireturn, 1) := by decide +kernel
theorem dL_balanceAnew_15 : decode cL_balanceAnew 15 = .ok (.iconst 0, 1) := by decide +kernel
theorem dL_balanceAnew_16 : decode cL_balanceAnew 16 = .ok (.ireturn, 1) := by decide +kernel
set_option maxRecDepth 20000 in
theorem ggL_limit_X4_limit : GoodIn wsL_limit wsX4_limit := goodIn_ca (goodIn_r _ [6, 7, 8, 9, 5, 10, 11, 12, 13, 14, 15, 16, 17, 18, 19, 20, 21, 22, 23, 24, 25, 26, 27, 28, 29, 30, 31, 32, 33, 34, 35, 36, 37, 38, 39, 40, 41, 42, 43, 44, 45, 46, 47, 48, 49, 50, 51, 52, 53, 54, 55, 56, 57, 58, 59, 60, 61, 62, 63, 64, 65, 66, 67, 68, 69, 70, 71, 72, 73, 74, 75, 76, 77, 78, 79, 80] (by decide +kernel) (by decide +kernel)) (goodIn_sub (fun _ h => List.mem_cons_of_mem _ (List.mem_append_right _ h)) (by decide +kernel))
set_option maxRecDepth 20000 in
theorem gL_limit_X4_limit : GoodIn wsL_limit (wsV RL 52 RX4 yX4_limit wsX4_limit) := goodIn_app (goodIn_of _ (by decide +kernel)) ggL_limit_X4_limit
theorem dL_limit_0 : decode cL_limit 0 = .ok (.aload_n 2, 1) := by decide +kernel
theorem dL_limit_1 : decode cL_limit 1 = .ok (.iconst 0, 1) := by decide +kernel
theorem dL_limit_2 : decode cL_limit 2 = .ok (.aload_n 0, 1) := by decide +kernel
theorem dL_limit_3 : decode cL_limit 3 = .ok (.iload_n 1, 1) := by decide +kernel
theorem dL_limit_4 : decode cL_limit 4 = .ok (.invokevirtual 52, 3) := by decide +kernel
theorem dL_limit_7 : decode cL_limit 7 = .ok (.i2l, 1) := by decide +kernel
theorem dL_limit_8 : decode cL_limit 8 = .ok (.lastore, 1) := by decide +kernel
theorem dL_limit_9 : decode cL_limit 9 = .ok (.goto 6, 3) := by decide +kernel
theorem dL_limit_12 : decode cL_limit 12 = .ok (.astore_n 3, 1) := by decide +kernel
theorem dL_limit_13 : decode cL_limit 13 = .ok (.iconst 1, 1) := by decide +kernel
theorem dL_limit_14 : decode cL_limit 14 = .ok (.ireturn, 1) := by decide +kernel
theorem dL_limit_15 : decode cL_limit 15 = .ok (.iconst 0, 1) := by decide +kernel
theorem dL_limit_16 : decode cL_limit 16 = .ok (.ireturn, 1) := by decide +kernel
set_option maxRecDepth 20000 in
theorem ggL_owes_X4_owes : GoodIn wsL_owes wsX4_owes := goodIn_ca (goodIn_r _ [6, 7, 8, 9, 10, 5, 11, 12, 13, 14, 15, 16, 17, 18, 19, 20, 21, 22, 23, 24, 25, 26, 27, 28, 29, 30, 31, 32, 33, 34, 35, 36, 37, 38, 39, 40, 41, 42, 43, 44, 45, 46, 47, 48, 49, 50, 51, 52, 53, 54] (by decide +kernel) (by decide +kernel)) (goodIn_sub (fun _ h => List.mem_cons_of_mem _ (List.mem_append_right _ h)) (by decide +kernel))
set_option maxRecDepth 20000 in
theorem gL_owes_X4_owes : GoodIn wsL_owes (wsV RL 55 RX4 yX4_owes wsX4_owes) := goodIn_app (goodIn_of _ (by decide +kernel)) ggL_owes_X4_owes
theorem dL_owes_0 : decode cL_owes 0 = .ok (.aload_n 3, 1) := by decide +kernel
theorem dL_owes_1 : decode cL_owes 1 = .ok (.iconst 0, 1) := by decide +kernel
theorem dL_owes_2 : decode cL_owes 2 = .ok (.aload_n 0, 1) := by decide +kernel
theorem dL_owes_3 : decode cL_owes 3 = .ok (.iload_n 1, 1) := by decide +kernel
theorem dL_owes_4 : decode cL_owes 4 = .ok (.iload_n 2, 1) := by decide +kernel
theorem dL_owes_5 : decode cL_owes 5 = .ok (.invokevirtual 55, 3) := by decide +kernel
theorem dL_owes_8 : decode cL_owes 8 = .ok (.i2l, 1) := by decide +kernel
theorem dL_owes_9 : decode cL_owes 9 = .ok (.lastore, 1) := by decide +kernel
theorem dL_owes_10 : decode cL_owes 10 = .ok (.goto 7, 3) := by decide +kernel
theorem dL_owes_13 : decode cL_owes 13 = .ok (.astore 4, 2) := by decide +kernel
theorem dL_owes_15 : decode cL_owes 15 = .ok (.iconst 1, 1) := by decide +kernel
theorem dL_owes_16 : decode cL_owes 16 = .ok (.ireturn, 1) := by decide +kernel
theorem dL_owes_17 : decode cL_owes 17 = .ok (.iconst 0, 1) := by decide +kernel
theorem dL_owes_18 : decode cL_owes 18 = .ok (.ireturn, 1) := by decide +kernel
set_option maxRecDepth 20000 in
theorem ggL_frozen_X4_frozen : GoodIn wsL_frozen wsX4_frozen := goodIn_ca (goodIn_r _ [6, 7, 8, 9, 10, 5, 11, 12, 13, 14, 15, 16, 17, 18, 19, 20, 21, 22, 23, 24, 25, 26, 27, 28, 29, 30, 31, 32, 33, 34, 35, 36, 37, 38, 39, 40, 41, 42, 43, 44, 45, 46, 47, 48, 49, 50] (by decide +kernel) (by decide +kernel)) (goodIn_sub (fun _ h => List.mem_cons_of_mem _ (List.mem_append_right _ h)) (by decide +kernel))
set_option maxRecDepth 20000 in
theorem gL_frozen_X4_frozen : GoodIn wsL_frozen (wsV RL 59 RX4 yX4_frozen wsX4_frozen) := goodIn_app (goodIn_of _ (by decide +kernel)) ggL_frozen_X4_frozen
theorem dL_frozen_0 : decode cL_frozen 0 = .ok (.aload_n 3, 1) := by decide +kernel
theorem dL_frozen_1 : decode cL_frozen 1 = .ok (.iconst 0, 1) := by decide +kernel
theorem dL_frozen_2 : decode cL_frozen 2 = .ok (.aload_n 0, 1) := by decide +kernel
theorem dL_frozen_3 : decode cL_frozen 3 = .ok (.iload_n 1, 1) := by decide +kernel
theorem dL_frozen_4 : decode cL_frozen 4 = .ok (.iload_n 2, 1) := by decide +kernel
theorem dL_frozen_5 : decode cL_frozen 5 = .ok (.invokevirtual 59, 3) := by decide +kernel
theorem dL_frozen_8 : decode cL_frozen 8 = .ok (.i2l, 1) := by decide +kernel
theorem dL_frozen_9 : decode cL_frozen 9 = .ok (.lastore, 1) := by decide +kernel
theorem dL_frozen_10 : decode cL_frozen 10 = .ok (.goto 7, 3) := by decide +kernel
theorem dL_frozen_13 : decode cL_frozen 13 = .ok (.astore 4, 2) := by decide +kernel
theorem dL_frozen_15 : decode cL_frozen 15 = .ok (.iconst 1, 1) := by decide +kernel
theorem dL_frozen_16 : decode cL_frozen 16 = .ok (.ireturn, 1) := by decide +kernel
theorem dL_frozen_17 : decode cL_frozen 17 = .ok (.iconst 0, 1) := by decide +kernel
theorem dL_frozen_18 : decode cL_frozen 18 = .ok (.ireturn, 1) := by decide +kernel
set_option maxRecDepth 20000 in
theorem ggL_ofTrade_X4_ofTrade : GoodIn wsL_ofTrade wsX4_ofTrade := goodIn_ca (goodIn_ca (goodIn_r _ [7, 8, 9, 10, 11, 6, 12, 13, 14, 15, 16, 17, 18, 19, 20, 21, 22, 23, 24, 25, 26, 27, 28, 29, 30, 31, 32, 33, 34, 35, 36, 37, 38, 39, 40, 41, 42, 43, 44, 45, 46, 47, 48, 49, 50, 51, 52, 53, 54, 55, 56] (by decide +kernel) (by decide +kernel)) (goodIn_sub (fun _ h => List.mem_cons_of_mem _ (List.mem_append_left _ (List.mem_append_right _ h))) (by decide +kernel))) (goodIn_sub (fun _ h => List.mem_cons_of_mem _ (List.mem_append_right _ h)) (by decide +kernel))
set_option maxRecDepth 20000 in
theorem gL_ofTrade_X4_ofTrade : GoodIn wsL_ofTrade (wsV RL 62 RX4 yX4_ofTrade wsX4_ofTrade) := goodIn_app (goodIn_of _ (by decide +kernel)) ggL_ofTrade_X4_ofTrade
theorem dL_ofTrade_0 : decode cL_ofTrade 0 = .ok (.aload_n 3, 1) := by decide +kernel
theorem dL_ofTrade_1 : decode cL_ofTrade 1 = .ok (.iconst 0, 1) := by decide +kernel
theorem dL_ofTrade_2 : decode cL_ofTrade 2 = .ok (.aload_n 0, 1) := by decide +kernel
theorem dL_ofTrade_3 : decode cL_ofTrade 3 = .ok (.iload_n 1, 1) := by decide +kernel
theorem dL_ofTrade_4 : decode cL_ofTrade 4 = .ok (.iload_n 2, 1) := by decide +kernel
theorem dL_ofTrade_5 : decode cL_ofTrade 5 = .ok (.invokevirtual 62, 3) := by decide +kernel
theorem dL_ofTrade_8 : decode cL_ofTrade 8 = .ok (.i2l, 1) := by decide +kernel
theorem dL_ofTrade_9 : decode cL_ofTrade 9 = .ok (.lastore, 1) := by decide +kernel
theorem dL_ofTrade_10 : decode cL_ofTrade 10 = .ok (.goto 11, 3) := by decide +kernel
theorem dL_ofTrade_13 : decode cL_ofTrade 13 = .ok (.astore 4, 2) := by decide +kernel
theorem dL_ofTrade_15 : decode cL_ofTrade 15 = .ok (.iconst 1, 1) := by decide +kernel
theorem dL_ofTrade_16 : decode cL_ofTrade 16 = .ok (.ireturn, 1) := by decide +kernel
theorem dL_ofTrade_17 : decode cL_ofTrade 17 = .ok (.astore 4, 2) := by decide +kernel
theorem dL_ofTrade_19 : decode cL_ofTrade 19 = .ok (.iconst 2, 1) := by decide +kernel
theorem dL_ofTrade_20 : decode cL_ofTrade 20 = .ok (.ireturn, 1) := by decide +kernel
theorem dL_ofTrade_21 : decode cL_ofTrade 21 = .ok (.iconst 0, 1) := by decide +kernel
theorem dL_ofTrade_22 : decode cL_ofTrade 22 = .ok (.ireturn, 1) := by decide +kernel
set_option maxRecDepth 20000 in
theorem ggL_guaranteed_X4_guaranteed : GoodIn wsL_guaranteed wsX4_guaranteed := goodIn_ca (goodIn_r _ [6, 7, 8, 9, 10, 5, 11, 12, 13, 14, 15, 16, 17, 18, 19, 20, 21, 22, 23, 24, 25, 26, 27, 28, 29, 30, 31, 32, 33, 34, 35, 36, 37, 38, 39, 40, 41, 42] (by decide +kernel) (by decide +kernel)) (goodIn_sub (fun _ h => List.mem_cons_of_mem _ (List.mem_append_right _ h)) (by decide +kernel))
set_option maxRecDepth 20000 in
theorem gL_guaranteed_X4_guaranteed : GoodIn wsL_guaranteed (wsV RL 65 RX4 yX4_guaranteed wsX4_guaranteed) := goodIn_app (goodIn_of _ (by decide +kernel)) ggL_guaranteed_X4_guaranteed
theorem dL_guaranteed_0 : decode cL_guaranteed 0 = .ok (.aload_n 3, 1) := by decide +kernel
theorem dL_guaranteed_1 : decode cL_guaranteed 1 = .ok (.iconst 0, 1) := by decide +kernel
theorem dL_guaranteed_2 : decode cL_guaranteed 2 = .ok (.aload_n 0, 1) := by decide +kernel
theorem dL_guaranteed_3 : decode cL_guaranteed 3 = .ok (.iload_n 1, 1) := by decide +kernel
theorem dL_guaranteed_4 : decode cL_guaranteed 4 = .ok (.iload_n 2, 1) := by decide +kernel
theorem dL_guaranteed_5 : decode cL_guaranteed 5 = .ok (.invokevirtual 65, 3) := by decide +kernel
theorem dL_guaranteed_8 : decode cL_guaranteed 8 = .ok (.i2l, 1) := by decide +kernel
theorem dL_guaranteed_9 : decode cL_guaranteed 9 = .ok (.lastore, 1) := by decide +kernel
theorem dL_guaranteed_10 : decode cL_guaranteed 10 = .ok (.goto 7, 3) := by decide +kernel
theorem dL_guaranteed_13 : decode cL_guaranteed 13 = .ok (.astore 4, 2) := by decide +kernel
theorem dL_guaranteed_15 : decode cL_guaranteed 15 = .ok (.iconst 1, 1) := by decide +kernel
theorem dL_guaranteed_16 : decode cL_guaranteed 16 = .ok (.ireturn, 1) := by decide +kernel
theorem dL_guaranteed_17 : decode cL_guaranteed 17 = .ok (.iconst 0, 1) := by decide +kernel
theorem dL_guaranteed_18 : decode cL_guaranteed 18 = .ok (.ireturn, 1) := by decide +kernel
set_option maxRecDepth 20000 in
theorem ggL_goods_X4_goods : GoodIn wsL_goods wsX4_goods := goodIn_ca (goodIn_r _ [6, 7, 8, 9, 10, 5, 11, 12, 13, 14, 15, 16, 17, 18, 19, 20, 21, 22, 23, 24, 25, 26, 27, 28, 29, 30, 31, 32, 33, 34, 35, 36, 37, 38, 39, 40, 41, 42] (by decide +kernel) (by decide +kernel)) (goodIn_sub (fun _ h => List.mem_cons_of_mem _ (List.mem_append_right _ h)) (by decide +kernel))
set_option maxRecDepth 20000 in
theorem gL_goods_X4_goods : GoodIn wsL_goods (wsV RL 68 RX4 yX4_goods wsX4_goods) := goodIn_app (goodIn_of _ (by decide +kernel)) ggL_goods_X4_goods
theorem dL_goods_0 : decode cL_goods 0 = .ok (.aload_n 2, 1) := by decide +kernel
theorem dL_goods_1 : decode cL_goods 1 = .ok (.iconst 0, 1) := by decide +kernel
theorem dL_goods_2 : decode cL_goods 2 = .ok (.aload_n 0, 1) := by decide +kernel
theorem dL_goods_3 : decode cL_goods 3 = .ok (.iload_n 1, 1) := by decide +kernel
theorem dL_goods_4 : decode cL_goods 4 = .ok (.invokevirtual 68, 3) := by decide +kernel
theorem dL_goods_7 : decode cL_goods 7 = .ok (.i2l, 1) := by decide +kernel
theorem dL_goods_8 : decode cL_goods 8 = .ok (.lastore, 1) := by decide +kernel
theorem dL_goods_9 : decode cL_goods 9 = .ok (.goto 6, 3) := by decide +kernel
theorem dL_goods_12 : decode cL_goods 12 = .ok (.astore_n 3, 1) := by decide +kernel
theorem dL_goods_13 : decode cL_goods 13 = .ok (.iconst 1, 1) := by decide +kernel
theorem dL_goods_14 : decode cL_goods 14 = .ok (.ireturn, 1) := by decide +kernel
theorem dL_goods_15 : decode cL_goods 15 = .ok (.iconst 0, 1) := by decide +kernel
theorem dL_goods_16 : decode cL_goods 16 = .ok (.ireturn, 1) := by decide +kernel
set_option maxRecDepth 20000 in
theorem ggL_isIdle_X4_isIdle : GoodIn wsL_isIdle wsX4_isIdle := goodIn_ca (goodIn_r _ [6, 7, 8, 9, 5, 10, 11, 12, 13, 14, 15, 16, 17, 18, 19, 20, 21, 22, 23, 24, 25, 26, 27, 28, 29, 30, 31, 32, 33, 34, 35, 36, 37, 38, 39, 40, 41, 42, 43, 44, 45, 46, 47, 48, 49, 50, 51, 52, 53, 54, 55, 56, 57, 58, 59, 60, 61, 62, 63, 64, 65, 66, 67, 68, 69, 70, 71, 72, 73, 74, 75, 76, 77, 78, 79, 80, 81, 82, 83, 84, 85, 86, 87, 88] (by decide +kernel) (by decide +kernel)) (goodIn_sub (fun _ h => List.mem_cons_of_mem _ (List.mem_append_right _ h)) (by decide +kernel))
set_option maxRecDepth 20000 in
theorem gL_isIdle_X4_isIdle : GoodIn wsL_isIdle (wsV RL 71 RX4 yX4_isIdle wsX4_isIdle) := goodIn_app (goodIn_of _ (by decide +kernel)) ggL_isIdle_X4_isIdle
theorem dL_isIdle_0 : decode cL_isIdle 0 = .ok (.aload_n 2, 1) := by decide +kernel
theorem dL_isIdle_1 : decode cL_isIdle 1 = .ok (.iconst 0, 1) := by decide +kernel
theorem dL_isIdle_2 : decode cL_isIdle 2 = .ok (.aload_n 0, 1) := by decide +kernel
theorem dL_isIdle_3 : decode cL_isIdle 3 = .ok (.iload_n 1, 1) := by decide +kernel
theorem dL_isIdle_4 : decode cL_isIdle 4 = .ok (.invokevirtual 71, 3) := by decide +kernel
theorem dL_isIdle_7 : decode cL_isIdle 7 = .ok (.ifCond .eq 7, 3) := by decide +kernel
theorem dL_isIdle_10 : decode cL_isIdle 10 = .ok (.lconst 1, 1) := by decide +kernel
theorem dL_isIdle_11 : decode cL_isIdle 11 = .ok (.goto 4, 3) := by decide +kernel
theorem dL_isIdle_14 : decode cL_isIdle 14 = .ok (.lconst 0, 1) := by decide +kernel
theorem dL_isIdle_15 : decode cL_isIdle 15 = .ok (.lastore, 1) := by decide +kernel
theorem dL_isIdle_16 : decode cL_isIdle 16 = .ok (.goto 6, 3) := by decide +kernel
theorem dL_isIdle_19 : decode cL_isIdle 19 = .ok (.astore_n 3, 1) := by decide +kernel
theorem dL_isIdle_20 : decode cL_isIdle 20 = .ok (.iconst 1, 1) := by decide +kernel
theorem dL_isIdle_21 : decode cL_isIdle 21 = .ok (.ireturn, 1) := by decide +kernel
theorem dL_isIdle_22 : decode cL_isIdle 22 = .ok (.iconst 0, 1) := by decide +kernel
theorem dL_isIdle_23 : decode cL_isIdle 23 = .ok (.ireturn, 1) := by decide +kernel
set_option maxRecDepth 20000 in
theorem ggL_ring_X4_ring : GoodIn wsL_ring wsX4_ring := goodIn_ca (goodIn_ca (goodIn_r _ [7, 8, 9, 10, 11, 12, 13, 14, 15, 16, 17, 18, 6, 19, 20, 21, 22, 23, 24, 25, 26, 27, 28, 29, 30, 31, 32, 33, 34, 35, 36, 37, 38, 39, 40, 41, 42, 43, 44, 45, 46, 47, 48, 49, 50, 51, 52] (by decide +kernel) (by decide +kernel)) (goodIn_sub (fun _ h => List.mem_cons_of_mem _ (List.mem_append_left _ (List.mem_append_right _ h))) (by decide +kernel))) (goodIn_sub (fun _ h => List.mem_cons_of_mem _ (List.mem_append_right _ h)) (by decide +kernel))
set_option maxRecDepth 20000 in
theorem gL_ring_X4_ring : GoodIn wsL_ring (wsV RL 75 RX4 yX4_ring wsX4_ring) := goodIn_app (goodIn_of _ (by decide +kernel)) ggL_ring_X4_ring
theorem dL_ring_0 : decode cL_ring 0 = .ok (.aload_n 3, 1) := by decide +kernel
theorem dL_ring_1 : decode cL_ring 1 = .ok (.iconst 0, 1) := by decide +kernel
theorem dL_ring_2 : decode cL_ring 2 = .ok (.aload_n 0, 1) := by decide +kernel
theorem dL_ring_3 : decode cL_ring 3 = .ok (.iload_n 1, 1) := by decide +kernel
theorem dL_ring_4 : decode cL_ring 4 = .ok (.iload_n 2, 1) := by decide +kernel
theorem dL_ring_5 : decode cL_ring 5 = .ok (.invokevirtual 75, 3) := by decide +kernel
theorem dL_ring_8 : decode cL_ring 8 = .ok (.i2l, 1) := by decide +kernel
theorem dL_ring_9 : decode cL_ring 9 = .ok (.lastore, 1) := by decide +kernel
theorem dL_ring_10 : decode cL_ring 10 = .ok (.goto 11, 3) := by decide +kernel
theorem dL_ring_13 : decode cL_ring 13 = .ok (.astore 4, 2) := by decide +kernel
theorem dL_ring_15 : decode cL_ring 15 = .ok (.iconst 1, 1) := by decide +kernel
theorem dL_ring_16 : decode cL_ring 16 = .ok (.ireturn, 1) := by decide +kernel
theorem dL_ring_17 : decode cL_ring 17 = .ok (.astore 4, 2) := by decide +kernel
theorem dL_ring_19 : decode cL_ring 19 = .ok (.iconst 2, 1) := by decide +kernel
theorem dL_ring_20 : decode cL_ring 20 = .ok (.ireturn, 1) := by decide +kernel
theorem dL_ring_21 : decode cL_ring 21 = .ok (.iconst 0, 1) := by decide +kernel
theorem dL_ring_22 : decode cL_ring 22 = .ok (.ireturn, 1) := by decide +kernel
set_option maxRecDepth 20000 in
theorem ggL_law_X4_init : GoodIn wsL_law wsX4_init := goodIn_r _ [9, 10, 11, 12, 13, 14, 15, 16, 17, 18, 19, 20, 21, 22, 23, 24, 25, 26, 27, 28, 29, 30, 31, 32, 33, 34, 35, 36, 37, 38, 39, 40, 41, 42, 43, 44, 45, 46, 47, 48, 49, 50, 51, 52, 53, 54, 55, 56, 57, 58, 59, 60, 61, 62, 63, 64, 65, 66, 67, 68, 69, 664, 665, 666, 636, 637, 638, 639, 640, 641, 642, 643, 644, 667, 668, 669, 670, 671, 672] (by decide +kernel) (by decide +kernel)
set_option maxRecDepth 20000 in
theorem gL_law_X4_init : GoodIn wsL_law (wsX4_init) := ggL_law_X4_init
set_option maxRecDepth 20000 in
theorem ggL_law_X5_init : GoodIn wsL_law wsX5_init := goodIn_r _ [72, 73, 11, 12, 74, 75, 47, 76, 77, 78, 79, 80, 81, 82, 83, 84, 85, 86, 87, 88, 645, 646, 647, 648, 649, 650, 651, 652, 653, 654, 655, 656, 657, 658, 659, 660, 661, 662, 663] (by decide +kernel) (by decide +kernel)
set_option maxRecDepth 20000 in
theorem gL_law_X5_init : GoodIn wsL_law (wsX5_init) := ggL_law_X5_init
set_option maxRecDepth 20000 in
theorem ggL_law_L_join : GoodIn wsL_law wsL_join := goodIn_ca (goodIn_r _ [92, 93, 94, 95, 96, 2, 97, 98, 99, 31, 636, 637, 638, 639, 640, 641, 642, 643, 644] (by decide +kernel) (by decide +kernel)) (goodIn_sub (fun _ h => List.mem_append_left _ (List.mem_append_left _ (List.mem_append_right _ h))) (by decide +kernel))
set_option maxRecDepth 20000 in
theorem gL_law_L_join : GoodIn wsL_law (va_wsS RL 82 yL_join wsL_join) := goodIn_app (goodIn_of _ (by decide +kernel)) ggL_law_L_join
set_option maxRecDepth 20000 in
theorem ggL_law_X5_join : GoodIn wsL_law wsX5_join := goodIn_r _ [103, 104, 105, 75, 645, 646, 647, 648, 649, 650, 651, 652, 653, 654, 655, 656, 657, 658, 659, 660, 661, 662, 663] (by decide +kernel) (by decide +kernel)
set_option maxRecDepth 20000 in
theorem gL_law_X5_join : GoodIn wsL_law (wsV RL 87 RX5 yX5_join wsX5_join) := goodIn_app (goodIn_of _ (by decide +kernel)) ggL_law_X5_join
set_option maxRecDepth 20000 in
theorem ggL_law_X5_thrown : GoodIn wsL_law wsX5_thrown := goodIn_r _ [109, 105, 645, 646, 647, 648, 649, 650, 651, 652, 653, 654, 655, 656, 657, 658, 659, 660, 661, 662, 663] (by decide +kernel) (by decide +kernel)
set_option maxRecDepth 20000 in
theorem gL_law_X5_thrown : GoodIn wsL_law (wsV RL 88 RX5 yX5_thrown wsX5_thrown) := goodIn_app (goodIn_of _ (by decide +kernel)) ggL_law_X5_thrown
set_option maxRecDepth 20000 in
theorem ggL_law_L_leave : GoodIn wsL_law wsL_leave := goodIn_ca (goodIn_ca (goodIn_r _ [112, 113, 93, 114, 115, 116, 2, 117, 98, 99, 20, 25, 16, 118, 119, 120, 121, 122, 123, 124, 125, 126, 127, 128, 129, 130, 131, 31, 132, 133, 134, 15, 135, 48, 136, 137, 138, 139, 45, 46, 140, 141, 142, 19, 143, 54, 144, 145, 146, 147, 148, 149, 150, 151, 53, 152, 153, 154, 155, 156, 24, 157, 39, 40, 41, 158, 159, 160, 23, 161, 60, 162, 163, 164, 165, 166, 167, 168, 169, 170, 171, 172, 173, 174, 175, 176, 177, 178, 179, 180, 181, 182, 183, 26, 184, 185, 186, 187, 188, 189, 190, 191, 192, 193, 194, 195, 196, 197, 636, 637, 638, 639, 640, 641, 642, 643, 644, 664, 665, 666, 667, 668, 669, 670] (by decide +kernel) (by decide +kernel)) (goodIn_sub (fun _ h => List.mem_append_left _ (List.mem_append_left _ (List.mem_append_right _ h))) (by decide +kernel))) (goodIn_sub (fun _ h => List.mem_append_left _ (List.mem_append_right _ h)) (by decide +kernel))
set_option maxRecDepth 20000 in
theorem gL_law_L_leave : GoodIn wsL_law (va_wsS RL 91 yL_leave wsL_leave) := goodIn_app (goodIn_of _ (by decide +kernel)) ggL_law_L_leave
set_option maxRecDepth 20000 in
theorem ggL_law_X5_leave : GoodIn wsL_law wsX5_leave := goodIn_r _ [201, 202, 84, 105, 79, 76, 78, 75, 203, 204, 205, 5, 206, 80, 81, 207, 208, 209, 210, 104, 211, 212, 213, 214, 215, 216, 217, 218, 219, 220, 221, 222, 223, 224, 225, 226, 227, 228, 229, 230, 231, 232, 233, 234, 235, 236, 237, 238, 239, 645, 646, 647, 648, 649, 650, 651, 652, 653, 654, 655, 656, 657, 658, 659, 660, 661, 662, 663] (by decide +kernel) (by decide +kernel)
set_option maxRecDepth 20000 in
theorem gL_law_X5_leave : GoodIn wsL_law (wsV RL 94 RX5 yX5_leave wsX5_leave) := goodIn_app (goodIn_of _ (by decide +kernel)) ggL_law_X5_leave
set_option maxRecDepth 20000 in
theorem ggL_law_L_trade : GoodIn wsL_law wsL_trade := goodIn_ca (goodIn_ca (goodIn_ca (goodIn_r _ [242, 113, 243, 93, 244, 245, 246, 2, 247, 98, 99, 20, 24, 32, 118, 119, 120, 121, 122, 123, 124, 125, 126, 127, 16, 128, 129, 130, 131, 31, 132, 133, 134, 15, 135, 48, 136, 137, 138, 139, 45, 46, 248, 249, 250, 251, 252, 253, 254, 255, 256, 257, 258, 19, 259, 54, 260, 261, 262, 263, 264, 265, 266, 23, 267, 60, 268, 269, 270, 271, 171, 272, 273, 274, 275, 276, 277, 278, 279, 25, 280, 281, 282, 283, 144, 145, 146, 147, 148, 149, 150, 151, 53, 152, 284, 285, 163, 164, 165, 166, 167, 168, 169, 170, 172, 173, 174, 175, 286, 287, 288, 289, 290, 636, 637, 638, 639, 640, 641, 642, 643, 644, 664, 665, 666, 667, 668, 669, 670] (by decide +kernel) (by decide +kernel)) (goodIn_sub (fun _ h => List.mem_append_left _ (List.mem_append_left _ (List.mem_append_right _ h))) (by decide +kernel))) (goodIn_sub (fun _ h => List.mem_append_left _ (List.mem_append_right _ h)) (by decide +kernel))) (goodIn_sub (fun _ h => List.mem_append_right _ h) (by decide +kernel))
set_option maxRecDepth 20000 in
theorem gL_law_L_trade : GoodIn wsL_law (va_wsS RL 95 yL_trade wsL_trade) := goodIn_app (goodIn_of _ (by decide +kernel)) ggL_law_L_trade
set_option maxRecDepth 20000 in
theorem ggL_law_X5_trade : GoodIn wsL_law wsX5_trade := goodIn_r _ [294, 202, 105, 80, 81, 82, 83, 295, 84, 76, 207, 208, 209, 5, 210, 104, 75, 211, 212, 213, 296, 297, 298, 299, 222, 223, 224, 300, 301, 302, 303, 78, 203, 204, 205, 206, 304, 305, 306, 645, 646, 647, 648, 649, 650, 651, 652, 653, 654, 655, 656, 657, 658, 659, 660, 661, 662, 663] (by decide +kernel) (by decide +kernel)
set_option maxRecDepth 20000 in
theorem gL_law_X5_trade : GoodIn wsL_law (wsV RL 98 RX5 yX5_trade wsX5_trade) := goodIn_app (goodIn_of _ (by decide +kernel)) ggL_law_X5_trade
set_option maxRecDepth 20000 in
theorem ggL_law_L_dispute : GoodIn wsL_law wsL_dispute := goodIn_ca (goodIn_ca (goodIn_r _ [309, 113, 93, 310, 311, 312, 2, 313, 98, 99, 20, 24, 157, 39, 40, 41, 314, 315, 316, 317, 122, 123, 318, 319, 320, 19, 321, 54, 322, 149, 150, 151, 53, 152, 133, 134, 15, 135, 48, 136, 137, 138, 139, 45, 46, 124, 125, 126, 127, 16, 128, 129, 130, 131, 31, 132, 323, 324, 325, 23, 326, 60, 61, 162, 327, 328, 329, 330, 167, 168, 169, 170, 171, 172, 173, 174, 175, 331, 332, 333, 334, 290, 636, 637, 638, 639, 640, 641, 642, 643, 644, 667, 668, 664, 665, 666, 669, 670] (by decide +kernel) (by decide +kernel)) (goodIn_sub (fun _ h => List.mem_append_left _ (List.mem_append_left _ (List.mem_append_right _ h))) (by decide +kernel))) (goodIn_sub (fun _ h => List.mem_append_left _ (List.mem_append_right _ h)) (by decide +kernel))
set_option maxRecDepth 20000 in
theorem gL_law_L_dispute : GoodIn wsL_law (va_wsS RL 99 yL_dispute wsL_dispute) := goodIn_app (goodIn_of _ (by decide +kernel)) ggL_law_L_dispute
set_option maxRecDepth 20000 in
theorem ggL_law_X5_dispute : GoodIn wsL_law wsX5_dispute := goodIn_r _ [338, 84, 75, 80, 81, 105, 85, 82, 76, 77, 339, 340, 341, 5, 342, 202, 211, 212, 213, 222, 223, 224, 229, 230, 231, 645, 646, 647, 648, 649, 650, 651, 652, 653, 654, 655, 656, 657, 658, 659, 660, 661, 662, 663] (by decide +kernel) (by decide +kernel)
set_option maxRecDepth 20000 in
theorem gL_law_X5_dispute : GoodIn wsL_law (wsV RL 101 RX5 yX5_dispute wsX5_dispute) := goodIn_app (goodIn_of _ (by decide +kernel)) ggL_law_X5_dispute
set_option maxRecDepth 20000 in
theorem ggL_law_L_settle : GoodIn wsL_law wsL_settle := goodIn_ca (goodIn_ca (goodIn_r _ [345, 113, 93, 346, 347, 348, 2, 349, 98, 99, 20, 24, 314, 315, 316, 317, 122, 123, 318, 319, 320, 19, 321, 54, 322, 149, 150, 151, 53, 152, 133, 134, 15, 135, 48, 136, 137, 138, 139, 45, 46, 327, 328, 329, 23, 330, 61, 167, 168, 169, 170, 171, 172, 173, 174, 175, 331, 332, 333, 334, 290, 163, 164, 165, 166, 60, 636, 637, 638, 639, 640, 641, 642, 643, 644, 667, 668, 664, 665, 666, 669, 670] (by decide +kernel) (by decide +kernel)) (goodIn_sub (fun _ h => List.mem_append_left _ (List.mem_append_left _ (List.mem_append_right _ h))) (by decide +kernel))) (goodIn_sub (fun _ h => List.mem_append_left _ (List.mem_append_right _ h)) (by decide +kernel))
set_option maxRecDepth 20000 in
theorem gL_law_L_settle : GoodIn wsL_law (va_wsS RL 102 yL_settle wsL_settle) := goodIn_app (goodIn_of _ (by decide +kernel)) ggL_law_L_settle
set_option maxRecDepth 20000 in
theorem ggL_law_X5_settle : GoodIn wsL_law wsX5_settle := goodIn_r _ [353, 84, 105, 80, 81, 82, 85, 77, 76, 339, 340, 341, 5, 342, 202, 211, 212, 213, 222, 223, 224, 645, 646, 647, 648, 649, 650, 651, 652, 653, 654, 655, 656, 657, 658, 659, 660, 661, 662, 663] (by decide +kernel) (by decide +kernel)
set_option maxRecDepth 20000 in
theorem gL_law_X5_settle : GoodIn wsL_law (wsV RL 105 RX5 yX5_settle wsX5_settle) := goodIn_app (goodIn_of _ (by decide +kernel)) ggL_law_X5_settle
set_option maxRecDepth 20000 in
theorem ggL_law_L_guarantee : GoodIn wsL_law wsL_guarantee := goodIn_ca (goodIn_ca (goodIn_ca (goodIn_r _ [356, 113, 243, 93, 357, 358, 359, 2, 360, 98, 99, 25, 361, 362, 363, 364, 118, 119, 120, 121, 122, 123, 124, 125, 126, 127, 16, 128, 129, 130, 131, 31, 132, 133, 134, 15, 135, 48, 136, 137, 138, 139, 45, 46, 248, 249, 250, 251, 252, 253, 254, 255, 260, 261, 262, 263, 24, 264, 265, 266, 23, 267, 60, 268, 269, 270, 271, 171, 272, 273, 274, 275, 276, 277, 278, 279, 20, 32, 280, 281, 282, 19, 283, 54, 144, 145, 146, 147, 148, 149, 150, 151, 53, 152, 284, 285, 184, 168, 169, 170, 172, 173, 174, 175, 636, 637, 638, 639, 640, 641, 642, 643, 644, 664, 665, 666, 669, 670, 667, 668] (by decide +kernel) (by decide +kernel)) (goodIn_sub (fun _ h => List.mem_append_left _ (List.mem_append_left _ (List.mem_append_right _ h))) (by decide +kernel))) (goodIn_sub (fun _ h => List.mem_append_left _ (List.mem_append_right _ h)) (by decide +kernel))) (goodIn_sub (fun _ h => List.mem_append_right _ h) (by decide +kernel))
set_option maxRecDepth 20000 in
theorem gL_law_L_guarantee : GoodIn wsL_law (va_wsS RL 106 yL_guarantee wsL_guarantee) := goodIn_app (goodIn_of _ (by decide +kernel)) ggL_law_L_guarantee
set_option maxRecDepth 20000 in
theorem ggL_law_X5_guarantee : GoodIn wsL_law wsX5_guarantee := goodIn_r _ [368, 78, 105, 207, 208, 209, 5, 210, 104, 75, 211, 212, 213, 222, 223, 224, 296, 297, 298, 299, 76, 300, 301, 302, 303, 202, 84, 83, 295, 82, 203, 204, 205, 206, 80, 81, 304, 305, 306, 645, 646, 647, 648, 649, 650, 651, 652, 653, 654, 655, 656, 657, 658, 659, 660, 661, 662, 663] (by decide +kernel) (by decide +kernel)
set_option maxRecDepth 20000 in
theorem gL_law_X5_guarantee : GoodIn wsL_law (wsV RL 108 RX5 yX5_guarantee wsX5_guarantee) := goodIn_app (goodIn_of _ (by decide +kernel)) ggL_law_X5_guarantee
set_option maxRecDepth 20000 in
theorem ggL_law_L_revoke : GoodIn wsL_law wsL_revoke := goodIn_ca (goodIn_ca (goodIn_ca (goodIn_r _ [371, 113, 243, 93, 372, 373, 374, 2, 375, 98, 99, 25, 361, 362, 363, 364, 118, 119, 120, 121, 122, 123, 124, 125, 126, 127, 16, 128, 129, 130, 131, 31, 132, 133, 134, 15, 135, 48, 136, 137, 138, 139, 45, 46, 248, 249, 250, 251, 252, 253, 254, 255, 260, 261, 262, 263, 24, 264, 265, 266, 23, 267, 60, 268, 269, 270, 271, 171, 272, 273, 274, 275, 276, 277, 278, 279, 20, 32, 280, 281, 282, 19, 283, 54, 144, 145, 146, 147, 148, 149, 150, 151, 53, 152, 284, 285, 184, 168, 169, 170, 172, 173, 174, 175, 636, 637, 638, 639, 640, 641, 642, 643, 644, 664, 665, 666, 669, 670, 667, 668] (by decide +kernel) (by decide +kernel)) (goodIn_sub (fun _ h => List.mem_append_left _ (List.mem_append_left _ (List.mem_append_right _ h))) (by decide +kernel))) (goodIn_sub (fun _ h => List.mem_append_left _ (List.mem_append_right _ h)) (by decide +kernel))) (goodIn_sub (fun _ h => List.mem_append_right _ h) (by decide +kernel))
set_option maxRecDepth 20000 in
theorem gL_law_L_revoke : GoodIn wsL_law (va_wsS RL 109 yL_revoke wsL_revoke) := goodIn_app (goodIn_of _ (by decide +kernel)) ggL_law_L_revoke
set_option maxRecDepth 20000 in
theorem ggL_law_X5_revoke : GoodIn wsL_law wsX5_revoke := goodIn_r _ [379, 78, 105, 207, 208, 209, 5, 210, 104, 75, 211, 212, 213, 222, 223, 224, 296, 297, 298, 299, 76, 300, 301, 302, 303, 202, 84, 83, 295, 82, 203, 204, 205, 206, 80, 81, 304, 305, 306, 645, 646, 647, 648, 649, 650, 651, 652, 653, 654, 655, 656, 657, 658, 659, 660, 661, 662, 663] (by decide +kernel) (by decide +kernel)
set_option maxRecDepth 20000 in
theorem gL_law_X5_revoke : GoodIn wsL_law (wsV RL 111 RX5 yX5_revoke wsX5_revoke) := goodIn_app (goodIn_of _ (by decide +kernel)) ggL_law_X5_revoke
set_option maxRecDepth 20000 in
theorem ggL_law_L_fee : GoodIn wsL_law wsL_fee := goodIn_ca (goodIn_r _ [382, 243, 383, 384, 385, 2, 386, 33, 248, 249, 250, 251, 252, 636, 637, 638, 639, 640, 641, 642, 643, 644] (by decide +kernel) (by decide +kernel)) (goodIn_sub (fun _ h => List.mem_append_right _ h) (by decide +kernel))
set_option maxRecDepth 20000 in
theorem gL_law_L_fee : GoodIn wsL_law (va_wsS RL 112 yL_fee wsL_fee) := goodIn_app (goodIn_of _ (by decide +kernel)) ggL_law_L_fee
set_option maxRecDepth 20000 in
theorem ggL_law_X5_fee : GoodIn wsL_law wsX5_fee := goodIn_r _ [390, 105, 86, 211, 212, 5, 213, 645, 646, 647, 648, 649, 650, 651, 652, 653, 654, 655, 656, 657, 658, 659, 660, 661, 662, 663] (by decide +kernel) (by decide +kernel)
set_option maxRecDepth 20000 in
theorem gL_law_X5_fee : GoodIn wsL_law (wsV RL 114 RX5 yX5_fee wsX5_fee) := goodIn_app (goodIn_of _ (by decide +kernel)) ggL_law_X5_fee
set_option maxRecDepth 20000 in
theorem ggL_law_L_night : GoodIn wsL_law wsL_night := goodIn_ca (goodIn_r _ [393, 243, 394, 395, 396, 2, 397, 30, 24, 32, 248, 249, 250, 251, 252, 398, 399, 400, 29, 401, 68, 402, 403, 404, 405, 67, 406, 173, 174, 15, 175, 48, 136, 137, 138, 139, 45, 46, 407, 408, 409, 410, 411, 412, 413, 414, 415, 416, 417, 418, 133, 134, 135, 419, 324, 325, 23, 326, 60, 61, 162, 420, 421, 422, 423, 424, 425, 426, 427, 428, 39, 40, 41, 429, 164, 165, 166, 167, 168, 169, 170, 171, 172, 430, 431, 432, 433, 434, 435, 436, 437, 20, 264, 265, 266, 267, 268, 269, 270, 271, 272, 273, 274, 275, 438, 439, 440, 19, 441, 54, 144, 145, 146, 147, 148, 149, 150, 151, 53, 152, 442, 443, 444, 445, 33, 157, 26, 446, 447, 448, 449, 450, 451, 452, 453, 454, 323, 163, 184, 636, 637, 638, 639, 640, 641, 642, 643, 644, 671, 672, 664, 665, 666, 669, 670, 667, 668] (by decide +kernel) (by decide +kernel)) (goodIn_sub (fun _ h => List.mem_append_right _ h) (by decide +kernel))
set_option maxRecDepth 20000 in
theorem gL_law_L_night : GoodIn wsL_law (va_wsS RL 115 yL_night wsL_night) := goodIn_app (goodIn_of _ (by decide +kernel)) ggL_law_L_night
set_option maxRecDepth 20000 in
theorem ggL_law_X5_night : GoodIn wsL_law wsX5_night := goodIn_r _ [458, 105, 459, 104, 75, 295, 211, 212, 5, 213, 460, 461, 462, 463, 88, 87, 76, 464, 465, 466, 467, 468, 469, 470, 471, 472, 473, 474, 475, 77, 222, 223, 224, 476, 477, 478, 479, 229, 230, 231, 480, 481, 482, 483, 202, 83, 296, 297, 298, 299, 203, 204, 205, 206, 80, 81, 484, 485, 486, 487, 86, 488, 645, 646, 647, 648, 649, 650, 651, 652, 653, 654, 655, 656, 657, 658, 659, 660, 661, 662, 663] (by decide +kernel) (by decide +kernel)
set_option maxRecDepth 20000 in
theorem gL_law_X5_night : GoodIn wsL_law (wsV RL 117 RX5 yX5_night wsX5_night) := goodIn_app (goodIn_of _ (by decide +kernel)) ggL_law_X5_night
set_option maxRecDepth 20000 in
theorem ggL_law_L_balance : GoodIn wsL_law wsL_balance := goodIn_ca (goodIn_r _ [491, 113, 492, 493, 494, 2, 495, 24, 496, 497, 498, 499, 500, 501, 502, 503, 122, 123, 128, 129, 130, 131, 31, 264, 265, 266, 23, 267, 60, 268, 269, 270, 15, 271, 45, 171, 133, 134, 135, 48, 136, 137, 138, 139, 46, 272, 273, 274, 275, 636, 637, 638, 639, 640, 641, 642, 643, 644, 669, 670, 664, 665, 666] (by decide +kernel) (by decide +kernel)) (goodIn_sub (fun _ h => List.mem_append_left _ (List.mem_append_right _ h)) (by decide +kernel))
set_option maxRecDepth 20000 in
theorem gL_law_L_balance : GoodIn wsL_law (va_wsS RL 118 yL_balance wsL_balance) := goodIn_app (goodIn_of _ (by decide +kernel)) ggL_law_L_balance
set_option maxRecDepth 20000 in
theorem ggL_law_X5_balance : GoodIn wsL_law wsX5_balance := goodIn_r _ [507, 105, 508, 509, 510, 5, 511, 104, 211, 212, 213, 296, 297, 298, 299, 76, 222, 223, 224, 645, 646, 647, 648, 649, 650, 651, 652, 653, 654, 655, 656, 657, 658, 659, 660, 661, 662, 663] (by decide +kernel) (by decide +kernel)
set_option maxRecDepth 20000 in
theorem gL_law_X5_balance : GoodIn wsL_law (wsV RL 120 RX5 yX5_balance wsX5_balance) := goodIn_app (goodIn_of _ (by decide +kernel)) ggL_law_X5_balance
set_option maxRecDepth 20000 in
theorem ggL_law_L_balanceAnew : GoodIn wsL_law wsL_balanceAnew := goodIn_ca (goodIn_r _ [514, 113, 515, 516, 517, 2, 518, 20, 26, 496, 497, 498, 499, 500, 501, 502, 503, 122, 123, 128, 129, 130, 131, 31, 519, 520, 521, 19, 522, 54, 148, 149, 150, 151, 53, 152, 133, 134, 15, 135, 48, 136, 137, 138, 139, 45, 46, 284, 269, 270, 271, 171, 285, 273, 274, 275, 636, 637, 638, 639, 640, 641, 642, 643, 644, 667, 668, 664, 665, 666] (by decide +kernel) (by decide +kernel)) (goodIn_sub (fun _ h => List.mem_append_left _ (List.mem_append_right _ h)) (by decide +kernel))
set_option maxRecDepth 20000 in
theorem gL_law_L_balanceAnew : GoodIn wsL_law (va_wsS RL 121 yL_balanceAnew wsL_balanceAnew) := goodIn_app (goodIn_of _ (by decide +kernel)) ggL_law_L_balanceAnew
set_option maxRecDepth 20000 in
theorem ggL_law_X5_balanceAnew : GoodIn wsL_law wsX5_balanceAnew := goodIn_r _ [526, 527, 505, 506, 5, 507, 105, 508, 509, 510, 511, 104, 211, 212, 213, 296, 297, 298, 299, 76, 222, 223, 224, 645, 646, 647, 648, 649, 650, 651, 652, 653, 654, 655, 656, 657, 658, 659, 660, 661, 662, 663] (by decide +kernel) (by decide +kernel)
set_option maxRecDepth 20000 in
theorem gL_law_X5_balanceAnew : GoodIn wsL_law (wsV RL 123 RX5 yX5_balanceAnew wsX5_balanceAnew) := goodIn_app (goodIn_of _ (by decide +kernel)) ggL_law_X5_balanceAnew
set_option maxRecDepth 20000 in
theorem ggL_law_L_limit : GoodIn wsL_law wsL_limit := goodIn_ca (goodIn_r _ [530, 113, 531, 532, 533, 2, 534, 118, 119, 120, 121, 122, 123, 124, 125, 126, 127, 16, 128, 129, 130, 131, 31, 132, 133, 134, 15, 135, 48, 136, 137, 138, 139, 45, 46, 276, 277, 278, 279, 20, 32, 25, 280, 281, 282, 19, 283, 54, 144, 145, 146, 147, 148, 149, 150, 151, 53, 152, 284, 269, 270, 271, 171, 285, 273, 274, 275, 636, 637, 638, 639, 640, 641, 642, 643, 644, 664, 665, 666, 667, 668] (by decide +kernel) (by decide +kernel)) (goodIn_sub (fun _ h => List.mem_append_left _ (List.mem_append_right _ h)) (by decide +kernel))
set_option maxRecDepth 20000 in
theorem gL_law_L_limit : GoodIn wsL_law (va_wsS RL 124 yL_limit wsL_limit) := goodIn_app (goodIn_of _ (by decide +kernel)) ggL_law_L_limit
set_option maxRecDepth 20000 in
theorem ggL_law_X5_limit : GoodIn wsL_law wsX5_limit := goodIn_r _ [538, 105, 207, 208, 209, 5, 210, 104, 75, 211, 212, 213, 300, 301, 302, 303, 202, 84, 83, 295, 82, 78, 203, 204, 205, 206, 80, 81, 222, 223, 224, 645, 646, 647, 648, 649, 650, 651, 652, 653, 654, 655, 656, 657, 658, 659, 660, 661, 662, 663] (by decide +kernel) (by decide +kernel)
set_option maxRecDepth 20000 in
theorem gL_law_X5_limit : GoodIn wsL_law (wsV RL 126 RX5 yX5_limit wsX5_limit) := goodIn_app (goodIn_of _ (by decide +kernel)) ggL_law_X5_limit
set_option maxRecDepth 20000 in
theorem ggL_law_L_owes : GoodIn wsL_law wsL_owes := goodIn_ca (goodIn_r _ [541, 113, 542, 543, 544, 2, 545, 24, 500, 501, 502, 503, 122, 123, 128, 129, 130, 131, 31, 496, 497, 498, 499, 158, 159, 160, 23, 161, 60, 162, 133, 134, 15, 135, 48, 136, 137, 138, 139, 45, 46, 636, 637, 638, 639, 640, 641, 642, 643, 644, 669, 670, 664, 665, 666] (by decide +kernel) (by decide +kernel)) (goodIn_sub (fun _ h => List.mem_append_left _ (List.mem_append_right _ h)) (by decide +kernel))
set_option maxRecDepth 20000 in
theorem gL_law_L_owes : GoodIn wsL_law (va_wsS RL 127 yL_owes wsL_owes) := goodIn_app (goodIn_of _ (by decide +kernel)) ggL_law_L_owes
set_option maxRecDepth 20000 in
theorem ggL_law_X5_owes : GoodIn wsL_law wsX5_owes := goodIn_r _ [549, 105, 76, 508, 509, 510, 5, 511, 104, 211, 212, 213, 222, 223, 224, 645, 646, 647, 648, 649, 650, 651, 652, 653, 654, 655, 656, 657, 658, 659, 660, 661, 662, 663] (by decide +kernel) (by decide +kernel)
set_option maxRecDepth 20000 in
theorem gL_law_X5_owes : GoodIn wsL_law (wsV RL 130 RX5 yX5_owes wsX5_owes) := goodIn_app (goodIn_of _ (by decide +kernel)) ggL_law_X5_owes
set_option maxRecDepth 20000 in
theorem ggL_law_L_frozen : GoodIn wsL_law wsL_frozen := goodIn_ca (goodIn_r _ [552, 113, 553, 554, 555, 2, 556, 24, 500, 501, 502, 503, 122, 123, 128, 129, 130, 131, 31, 557, 558, 559, 23, 560, 61, 162, 133, 134, 15, 135, 48, 136, 137, 138, 139, 45, 46, 636, 637, 638, 639, 640, 641, 642, 643, 644, 669, 670, 664, 665, 666] (by decide +kernel) (by decide +kernel)) (goodIn_sub (fun _ h => List.mem_append_left _ (List.mem_append_right _ h)) (by decide +kernel))
set_option maxRecDepth 20000 in
theorem gL_law_L_frozen : GoodIn wsL_law (va_wsS RL 131 yL_frozen wsL_frozen) := goodIn_app (goodIn_of _ (by decide +kernel)) ggL_law_L_frozen
set_option maxRecDepth 20000 in
theorem ggL_law_X5_frozen : GoodIn wsL_law wsX5_frozen := goodIn_r _ [564, 105, 77, 508, 509, 510, 5, 511, 104, 211, 212, 213, 222, 223, 224, 645, 646, 647, 648, 649, 650, 651, 652, 653, 654, 655, 656, 657, 658, 659, 660, 661, 662, 663] (by decide +kernel) (by decide +kernel)
set_option maxRecDepth 20000 in
theorem gL_law_X5_frozen : GoodIn wsL_law (wsV RL 133 RX5 yX5_frozen wsX5_frozen) := goodIn_app (goodIn_of _ (by decide +kernel)) ggL_law_X5_frozen
set_option maxRecDepth 20000 in
theorem ggL_law_L_ofTrade : GoodIn wsL_law wsL_ofTrade := goodIn_ca (goodIn_ca (goodIn_r _ [567, 113, 243, 568, 569, 570, 2, 571, 20, 314, 315, 316, 317, 122, 123, 318, 319, 320, 19, 321, 54, 248, 249, 250, 251, 252, 322, 149, 150, 151, 53, 152, 133, 134, 15, 135, 48, 136, 137, 138, 139, 45, 46, 636, 637, 638, 639, 640, 641, 642, 643, 644, 667, 668, 664, 665, 666] (by decide +kernel) (by decide +kernel)) (goodIn_sub (fun _ h => List.mem_append_left _ (List.mem_append_right _ h)) (by decide +kernel))) (goodIn_sub (fun _ h => List.mem_append_right _ h) (by decide +kernel))
set_option maxRecDepth 20000 in
theorem gL_law_L_ofTrade : GoodIn wsL_law (va_wsS RL 134 yL_ofTrade wsL_ofTrade) := goodIn_app (goodIn_of _ (by decide +kernel)) ggL_law_L_ofTrade
set_option maxRecDepth 20000 in
theorem ggL_law_X5_ofTrade : GoodIn wsL_law wsX5_ofTrade := goodIn_r _ [575, 105, 84, 80, 81, 82, 83, 85, 339, 340, 341, 5, 342, 202, 211, 212, 213, 645, 646, 647, 648, 649, 650, 651, 652, 653, 654, 655, 656, 657, 658, 659, 660, 661, 662, 663] (by decide +kernel) (by decide +kernel)
set_option maxRecDepth 20000 in
theorem gL_law_X5_ofTrade : GoodIn wsL_law (wsV RL 136 RX5 yX5_ofTrade wsX5_ofTrade) := goodIn_app (goodIn_of _ (by decide +kernel)) ggL_law_X5_ofTrade
set_option maxRecDepth 20000 in
theorem ggL_law_L_guaranteed : GoodIn wsL_law wsL_guaranteed := goodIn_ca (goodIn_r _ [578, 113, 579, 580, 581, 2, 582, 25, 500, 501, 502, 503, 122, 123, 128, 129, 130, 131, 31, 132, 133, 134, 15, 135, 48, 136, 137, 138, 139, 45, 46, 636, 637, 638, 639, 640, 641, 642, 643, 644, 664, 665, 666] (by decide +kernel) (by decide +kernel)) (goodIn_sub (fun _ h => List.mem_append_left _ (List.mem_append_right _ h)) (by decide +kernel))
set_option maxRecDepth 20000 in
theorem gL_law_L_guaranteed : GoodIn wsL_law (va_wsS RL 137 yL_guaranteed wsL_guaranteed) := goodIn_app (goodIn_of _ (by decide +kernel)) ggL_law_L_guaranteed
set_option maxRecDepth 20000 in
theorem ggL_law_X5_guaranteed : GoodIn wsL_law wsX5_guaranteed := goodIn_r _ [586, 105, 78, 508, 509, 510, 5, 511, 104, 211, 212, 213, 222, 223, 224, 645, 646, 647, 648, 649, 650, 651, 652, 653, 654, 655, 656, 657, 658, 659, 660, 661, 662, 663] (by decide +kernel) (by decide +kernel)
set_option maxRecDepth 20000 in
theorem gL_law_X5_guaranteed : GoodIn wsL_law (wsV RL 139 RX5 yX5_guaranteed wsX5_guaranteed) := goodIn_app (goodIn_of _ (by decide +kernel)) ggL_law_X5_guaranteed
set_option maxRecDepth 20000 in
theorem ggL_law_L_goods : GoodIn wsL_law wsL_goods := goodIn_ca (goodIn_r _ [589, 113, 590, 591, 592, 2, 593, 16, 500, 501, 502, 503, 122, 123, 128, 129, 130, 131, 31, 132, 133, 134, 15, 135, 48, 136, 137, 138, 139, 45, 46, 636, 637, 638, 639, 640, 641, 642, 643, 644, 664, 665, 666] (by decide +kernel) (by decide +kernel)) (goodIn_sub (fun _ h => List.mem_append_left _ (List.mem_append_right _ h)) (by decide +kernel))
set_option maxRecDepth 20000 in
theorem gL_law_L_goods : GoodIn wsL_law (va_wsS RL 140 yL_goods wsL_goods) := goodIn_app (goodIn_of _ (by decide +kernel)) ggL_law_L_goods
set_option maxRecDepth 20000 in
theorem ggL_law_X5_goods : GoodIn wsL_law wsX5_goods := goodIn_r _ [597, 105, 79, 508, 509, 510, 5, 511, 104, 211, 212, 213, 645, 646, 647, 648, 649, 650, 651, 652, 653, 654, 655, 656, 657, 658, 659, 660, 661, 662, 663] (by decide +kernel) (by decide +kernel)
set_option maxRecDepth 20000 in
theorem gL_law_X5_goods : GoodIn wsL_law (wsV RL 142 RX5 yX5_goods wsX5_goods) := goodIn_app (goodIn_of _ (by decide +kernel)) ggL_law_X5_goods
set_option maxRecDepth 20000 in
theorem ggL_law_L_isIdle : GoodIn wsL_law wsL_isIdle := goodIn_ca (goodIn_r _ [600, 113, 601, 602, 603, 2, 604, 118, 119, 120, 121, 122, 123, 124, 125, 126, 127, 16, 128, 129, 130, 131, 31, 132, 133, 134, 15, 135, 48, 136, 137, 138, 139, 45, 46, 434, 435, 436, 437, 24, 20, 32, 264, 265, 266, 23, 267, 60, 268, 269, 270, 271, 171, 272, 273, 274, 275, 438, 439, 440, 19, 441, 54, 144, 145, 146, 147, 148, 149, 150, 151, 53, 152, 636, 637, 638, 639, 640, 641, 642, 643, 644, 664, 665, 666, 669, 670, 667, 668] (by decide +kernel) (by decide +kernel)) (goodIn_sub (fun _ h => List.mem_append_left _ (List.mem_append_right _ h)) (by decide +kernel))
set_option maxRecDepth 20000 in
theorem gL_law_L_isIdle : GoodIn wsL_law (va_wsS RL 143 yL_isIdle wsL_isIdle) := goodIn_app (goodIn_of _ (by decide +kernel)) ggL_law_L_isIdle
set_option maxRecDepth 20000 in
theorem ggL_law_X5_isIdle : GoodIn wsL_law wsX5_isIdle := goodIn_r _ [608, 105, 207, 208, 209, 5, 210, 104, 75, 211, 212, 213, 480, 481, 482, 483, 202, 83, 295, 296, 297, 298, 299, 76, 222, 223, 224, 203, 204, 205, 206, 80, 81, 645, 646, 647, 648, 649, 650, 651, 652, 653, 654, 655, 656, 657, 658, 659, 660, 661, 662, 663] (by decide +kernel) (by decide +kernel)
set_option maxRecDepth 20000 in
theorem gL_law_X5_isIdle : GoodIn wsL_law (wsV RL 145 RX5 yX5_isIdle wsX5_isIdle) := goodIn_app (goodIn_of _ (by decide +kernel)) ggL_law_X5_isIdle
set_option maxRecDepth 20000 in
theorem ggL_law_X4_rings : GoodIn wsL_law wsX4_rings := goodIn_r _ [612, 30, 613, 614, 615, 29, 616, 68, 636, 637, 638, 639, 640, 641, 642, 643, 644, 671, 672] (by decide +kernel) (by decide +kernel)
set_option maxRecDepth 20000 in
theorem gL_law_X4_rings : GoodIn wsL_law (wsV RL 146 RX4 yX4_rings wsX4_rings) := goodIn_app (goodIn_of _ (by decide +kernel)) ggL_law_X4_rings
set_option maxRecDepth 20000 in
theorem ggL_law_X5_rings : GoodIn wsL_law wsX5_rings := goodIn_r _ [620, 105, 459, 645, 646, 647, 648, 649, 650, 651, 652, 653, 654, 655, 656, 657, 658, 659, 660, 661, 662, 663] (by decide +kernel) (by decide +kernel)
set_option maxRecDepth 20000 in
theorem gL_law_X5_rings : GoodIn wsL_law (wsV RL 149 RX5 yX5_rings wsX5_rings) := goodIn_app (goodIn_of _ (by decide +kernel)) ggL_law_X5_rings
set_option maxRecDepth 20000 in
theorem ggL_law_L_ring : GoodIn wsL_law wsL_ring := goodIn_ca (goodIn_ca (goodIn_r _ [623, 113, 243, 624, 625, 626, 2, 627, 122, 123, 30, 613, 614, 615, 29, 616, 68, 248, 249, 250, 251, 252, 628, 629, 630, 631, 67, 418, 133, 134, 15, 135, 48, 136, 137, 138, 139, 45, 46, 636, 637, 638, 639, 640, 641, 642, 643, 644, 671, 672, 664, 665, 666] (by decide +kernel) (by decide +kernel)) (goodIn_sub (fun _ h => List.mem_append_left _ (List.mem_append_right _ h)) (by decide +kernel))) (goodIn_sub (fun _ h => List.mem_append_right _ h) (by decide +kernel))
set_option maxRecDepth 20000 in
theorem gL_law_L_ring : GoodIn wsL_law (va_wsS RL 150 yL_ring wsL_ring) := goodIn_app (goodIn_of _ (by decide +kernel)) ggL_law_L_ring
set_option maxRecDepth 20000 in
theorem ggL_law_X5_ring : GoodIn wsL_law wsX5_ring := goodIn_r _ [635, 459, 105, 87, 211, 212, 5, 213, 645, 646, 647, 648, 649, 650, 651, 652, 653, 654, 655, 656, 657, 658, 659, 660, 661, 662, 663] (by decide +kernel) (by decide +kernel)
set_option maxRecDepth 20000 in
theorem gL_law_X5_ring : GoodIn wsL_law (wsV RL 152 RX5 yX5_ring wsX5_ring) := goodIn_app (goodIn_of _ (by decide +kernel)) ggL_law_X5_ring
theorem dL_law_0 : decode cL_law 0 = .ok (.new 8, 3) := by decide +kernel
theorem dL_law_3 : decode cL_law 3 = .ok (.dup, 1) := by decide +kernel
theorem dL_law_4 : decode cL_law 4 = .ok (.invokespecial 78, 3) := by decide +kernel
theorem dL_law_7 : decode cL_law 7 = .ok (.astore_n 1, 1) := by decide +kernel
theorem dL_law_8 : decode cL_law 8 = .ok (.new 79, 3) := by decide +kernel
theorem dL_law_11 : decode cL_law 11 = .ok (.dup, 1) := by decide +kernel
theorem dL_law_12 : decode cL_law 12 = .ok (.invokespecial 81, 3) := by decide +kernel
theorem dL_law_15 : decode cL_law 15 = .ok (.astore_n 2, 1) := by decide +kernel
theorem dL_law_16 : decode cL_law 16 = .ok (.iconst 1, 1) := by decide +kernel
theorem dL_law_17 : decode cL_law 17 = .ok (.newarray .long, 2) := by decide +kernel
theorem dL_law_19 : decode cL_law 19 = .ok (.astore_n 3, 1) := by decide +kernel
theorem dL_law_20 : decode cL_law 20 = .ok (.iconst 0, 1) := by decide +kernel
theorem dL_law_21 : decode cL_law 21 = .ok (.istore 4, 2) := by decide +kernel
theorem dL_law_23 : decode cL_law 23 = .ok (.iload 4, 2) := by decide +kernel
theorem dL_law_25 : decode cL_law 25 = .ok (.aload_n 0, 1) := by decide +kernel
theorem dL_law_26 : decode cL_law 26 = .ok (.arraylength, 1) := by decide +kernel
theorem dL_law_27 : decode cL_law 27 = .ok (.iconst 4, 1) := by decide +kernel
theorem dL_law_28 : decode cL_law 28 = .ok (.isub, 1) := by decide +kernel
theorem dL_law_29 : decode cL_law 29 = .ok (.if_icmp .gt 1341, 3) := by decide +kernel
theorem dL_law_32 : decode cL_law 32 = .ok (.aload_n 0, 1) := by decide +kernel
theorem dL_law_33 : decode cL_law 33 = .ok (.iload 4, 2) := by decide +kernel
theorem dL_law_35 : decode cL_law 35 = .ok (.iaload, 1) := by decide +kernel
theorem dL_law_36 : decode cL_law 36 = .ok (.bipush 31, 2) := by decide +kernel
theorem dL_law_38 : decode cL_law 38 = .ok (.iand, 1) := by decide +kernel
theorem dL_law_39 : decode cL_law 39 = .ok (.tableswitch 1325 0 19 #[93, 137, 193, 273, 329, 413, 493, 573, 629, 685, 741, 797, 853, 921, 989, 1057, 1125, 1181, 1244, 1257], 93) := by decide +kernel
theorem dL_law_132 : decode cL_law 132 = .ok (.aload_n 1, 1) := by decide +kernel
theorem dL_law_133 : decode cL_law 133 = .ok (.aload_n 3, 1) := by decide +kernel
theorem dL_law_134 : decode cL_law 134 = .ok (.invokestatic 82, 3) := by decide +kernel
theorem dL_law_137 : decode cL_law 137 = .ok (.istore 5, 2) := by decide +kernel
theorem dL_law_139 : decode cL_law 139 = .ok (.aload_n 2, 1) := by decide +kernel
theorem dL_law_140 : decode cL_law 140 = .ok (.invokevirtual 87, 3) := by decide +kernel
theorem dL_law_143 : decode cL_law 143 = .ok (.istore 6, 2) := by decide +kernel
theorem dL_law_145 : decode cL_law 145 = .ok (.aload_n 2, 1) := by decide +kernel
theorem dL_law_146 : decode cL_law 146 = .ok (.invokevirtual 88, 3) := by decide +kernel
theorem dL_law_149 : decode cL_law 149 = .ok (.iload 5, 2) := by decide +kernel
theorem dL_law_151 : decode cL_law 151 = .ok (.if_icmp .eq 5, 3) := by decide +kernel
theorem dL_law_154 : decode cL_law 154 = .ok (.iconst 0, 1) := by decide +kernel
theorem dL_law_155 : decode cL_law 155 = .ok (.ireturn, 1) := by decide +kernel
theorem dL_law_156 : decode cL_law 156 = .ok (.iload 5, 2) := by decide +kernel
theorem dL_law_158 : decode cL_law 158 = .ok (.ifCond .ne 15, 3) := by decide +kernel
theorem dL_law_161 : decode cL_law 161 = .ok (.aload_n 3, 1) := by decide +kernel
theorem dL_law_162 : decode cL_law 162 = .ok (.iconst 0, 1) := by decide +kernel
theorem dL_law_163 : decode cL_law 163 = .ok (.laload, 1) := by decide +kernel
theorem dL_law_164 : decode cL_law 164 = .ok (.iload 6, 2) := by decide +kernel
theorem dL_law_166 : decode cL_law 166 = .ok (.i2l, 1) := by decide +kernel
theorem dL_law_167 : decode cL_law 167 = .ok (.lcmp, 1) := by decide +kernel
theorem dL_law_168 : decode cL_law 168 = .ok (.ifCond .eq 5, 3) := by decide +kernel
theorem dL_law_171 : decode cL_law 171 = .ok (.iconst 0, 1) := by decide +kernel
theorem dL_law_172 : decode cL_law 172 = .ok (.ireturn, 1) := by decide +kernel
theorem dL_law_173 : decode cL_law 173 = .ok (.goto 1191, 3) := by decide +kernel
theorem dL_law_176 : decode cL_law 176 = .ok (.aload_n 1, 1) := by decide +kernel
theorem dL_law_177 : decode cL_law 177 = .ok (.aload_n 0, 1) := by decide +kernel
theorem dL_law_178 : decode cL_law 178 = .ok (.iload 4, 2) := by decide +kernel
theorem dL_law_180 : decode cL_law 180 = .ok (.iconst 1, 1) := by decide +kernel
theorem dL_law_181 : decode cL_law 181 = .ok (.iadd, 1) := by decide +kernel
theorem dL_law_182 : decode cL_law 182 = .ok (.iaload, 1) := by decide +kernel
theorem dL_law_183 : decode cL_law 183 = .ok (.aload_n 3, 1) := by decide +kernel
theorem dL_law_184 : decode cL_law 184 = .ok (.invokestatic 91, 3) := by decide +kernel
theorem dL_law_187 : decode cL_law 187 = .ok (.istore 5, 2) := by decide +kernel
theorem dL_law_189 : decode cL_law 189 = .ok (.aload_n 2, 1) := by decide +kernel
theorem dL_law_190 : decode cL_law 190 = .ok (.aload_n 0, 1) := by decide +kernel
theorem dL_law_191 : decode cL_law 191 = .ok (.iload 4, 2) := by decide +kernel
theorem dL_law_193 : decode cL_law 193 = .ok (.iconst 1, 1) := by decide +kernel
theorem dL_law_194 : decode cL_law 194 = .ok (.iadd, 1) := by decide +kernel
theorem dL_law_195 : decode cL_law 195 = .ok (.iaload, 1) := by decide +kernel
theorem dL_law_196 : decode cL_law 196 = .ok (.invokevirtual 94, 3) := by decide +kernel
theorem dL_law_199 : decode cL_law 199 = .ok (.istore 6, 2) := by decide +kernel
theorem dL_law_201 : decode cL_law 201 = .ok (.aload_n 2, 1) := by decide +kernel
theorem dL_law_202 : decode cL_law 202 = .ok (.invokevirtual 88, 3) := by decide +kernel
theorem dL_law_205 : decode cL_law 205 = .ok (.iload 5, 2) := by decide +kernel
theorem dL_law_207 : decode cL_law 207 = .ok (.if_icmp .eq 5, 3) := by decide +kernel
theorem dL_law_210 : decode cL_law 210 = .ok (.iconst 0, 1) := by decide +kernel
theorem dL_law_211 : decode cL_law 211 = .ok (.ireturn, 1) := by decide +kernel
theorem dL_law_212 : decode cL_law 212 = .ok (.iload 5, 2) := by decide +kernel
theorem dL_law_214 : decode cL_law 214 = .ok (.ifCond .ne 15, 3) := by decide +kernel
theorem dL_law_217 : decode cL_law 217 = .ok (.aload_n 3, 1) := by decide +kernel
theorem dL_law_218 : decode cL_law 218 = .ok (.iconst 0, 1) := by decide +kernel
theorem dL_law_219 : decode cL_law 219 = .ok (.laload, 1) := by decide +kernel
theorem dL_law_220 : decode cL_law 220 = .ok (.iload 6, 2) := by decide +kernel
theorem dL_law_222 : decode cL_law 222 = .ok (.i2l, 1) := by decide +kernel
theorem dL_law_223 : decode cL_law 223 = .ok (.lcmp, 1) := by decide +kernel
theorem dL_law_224 : decode cL_law 224 = .ok (.ifCond .eq 5, 3) := by decide +kernel
theorem dL_law_227 : decode cL_law 227 = .ok (.iconst 0, 1) := by decide +kernel
theorem dL_law_228 : decode cL_law 228 = .ok (.ireturn, 1) := by decide +kernel
theorem dL_law_229 : decode cL_law 229 = .ok (.goto 1135, 3) := by decide +kernel
theorem dL_law_232 : decode cL_law 232 = .ok (.aload_n 1, 1) := by decide +kernel
theorem dL_law_233 : decode cL_law 233 = .ok (.aload_n 0, 1) := by decide +kernel
theorem dL_law_234 : decode cL_law 234 = .ok (.iload 4, 2) := by decide +kernel
theorem dL_law_236 : decode cL_law 236 = .ok (.iconst 1, 1) := by decide +kernel
theorem dL_law_237 : decode cL_law 237 = .ok (.iadd, 1) := by decide +kernel
theorem dL_law_238 : decode cL_law 238 = .ok (.iaload, 1) := by decide +kernel
theorem dL_law_239 : decode cL_law 239 = .ok (.aload_n 0, 1) := by decide +kernel
theorem dL_law_240 : decode cL_law 240 = .ok (.iload 4, 2) := by decide +kernel
theorem dL_law_242 : decode cL_law 242 = .ok (.iconst 2, 1) := by decide +kernel
theorem dL_law_243 : decode cL_law 243 = .ok (.iadd, 1) := by decide +kernel
theorem dL_law_244 : decode cL_law 244 = .ok (.iaload, 1) := by decide +kernel
theorem dL_law_245 : decode cL_law 245 = .ok (.aload_n 0, 1) := by decide +kernel
theorem dL_law_246 : decode cL_law 246 = .ok (.iload 4, 2) := by decide +kernel
theorem dL_law_248 : decode cL_law 248 = .ok (.iconst 3, 1) := by decide +kernel
theorem dL_law_249 : decode cL_law 249 = .ok (.iadd, 1) := by decide +kernel
theorem dL_law_250 : decode cL_law 250 = .ok (.iaload, 1) := by decide +kernel
theorem dL_law_251 : decode cL_law 251 = .ok (.aload_n 3, 1) := by decide +kernel
theorem dL_law_252 : decode cL_law 252 = .ok (.invokestatic 95, 3) := by decide +kernel
theorem dL_law_255 : decode cL_law 255 = .ok (.istore 5, 2) := by decide +kernel
theorem dL_law_257 : decode cL_law 257 = .ok (.aload_n 2, 1) := by decide +kernel
theorem dL_law_258 : decode cL_law 258 = .ok (.aload_n 0, 1) := by decide +kernel
theorem dL_law_259 : decode cL_law 259 = .ok (.iload 4, 2) := by decide +kernel
theorem dL_law_261 : decode cL_law 261 = .ok (.iconst 1, 1) := by decide +kernel
theorem dL_law_262 : decode cL_law 262 = .ok (.iadd, 1) := by decide +kernel
theorem dL_law_263 : decode cL_law 263 = .ok (.iaload, 1) := by decide +kernel
theorem dL_law_264 : decode cL_law 264 = .ok (.aload_n 0, 1) := by decide +kernel
theorem dL_law_265 : decode cL_law 265 = .ok (.iload 4, 2) := by decide +kernel
theorem dL_law_267 : decode cL_law 267 = .ok (.iconst 2, 1) := by decide +kernel
theorem dL_law_268 : decode cL_law 268 = .ok (.iadd, 1) := by decide +kernel
theorem dL_law_269 : decode cL_law 269 = .ok (.iaload, 1) := by decide +kernel
theorem dL_law_270 : decode cL_law 270 = .ok (.aload_n 0, 1) := by decide +kernel
theorem dL_law_271 : decode cL_law 271 = .ok (.iload 4, 2) := by decide +kernel
theorem dL_law_273 : decode cL_law 273 = .ok (.iconst 3, 1) := by decide +kernel
theorem dL_law_274 : decode cL_law 274 = .ok (.iadd, 1) := by decide +kernel
theorem dL_law_275 : decode cL_law 275 = .ok (.iaload, 1) := by decide +kernel
theorem dL_law_276 : decode cL_law 276 = .ok (.invokevirtual 98, 3) := by decide +kernel
theorem dL_law_279 : decode cL_law 279 = .ok (.istore 6, 2) := by decide +kernel
theorem dL_law_281 : decode cL_law 281 = .ok (.aload_n 2, 1) := by decide +kernel
theorem dL_law_282 : decode cL_law 282 = .ok (.invokevirtual 88, 3) := by decide +kernel
theorem dL_law_285 : decode cL_law 285 = .ok (.iload 5, 2) := by decide +kernel
theorem dL_law_287 : decode cL_law 287 = .ok (.if_icmp .eq 5, 3) := by decide +kernel
theorem dL_law_290 : decode cL_law 290 = .ok (.iconst 0, 1) := by decide +kernel
theorem dL_law_291 : decode cL_law 291 = .ok (.ireturn, 1) := by decide +kernel
theorem dL_law_292 : decode cL_law 292 = .ok (.iload 5, 2) := by decide +kernel
theorem dL_law_294 : decode cL_law 294 = .ok (.ifCond .ne 15, 3) := by decide +kernel
theorem dL_law_297 : decode cL_law 297 = .ok (.aload_n 3, 1) := by decide +kernel
theorem dL_law_298 : decode cL_law 298 = .ok (.iconst 0, 1) := by decide +kernel
theorem dL_law_299 : decode cL_law 299 = .ok (.laload, 1) := by decide +kernel
theorem dL_law_300 : decode cL_law 300 = .ok (.iload 6, 2) := by decide +kernel
theorem dL_law_302 : decode cL_law 302 = .ok (.i2l, 1) := by decide +kernel
theorem dL_law_303 : decode cL_law 303 = .ok (.lcmp, 1) := by decide +kernel
theorem dL_law_304 : decode cL_law 304 = .ok (.ifCond .eq 5, 3) := by decide +kernel
theorem dL_law_307 : decode cL_law 307 = .ok (.iconst 0, 1) := by decide +kernel
theorem dL_law_308 : decode cL_law 308 = .ok (.ireturn, 1) := by decide +kernel
theorem dL_law_309 : decode cL_law 309 = .ok (.goto 1055, 3) := by decide +kernel
theorem dL_law_312 : decode cL_law 312 = .ok (.aload_n 1, 1) := by decide +kernel
theorem dL_law_313 : decode cL_law 313 = .ok (.aload_n 0, 1) := by decide +kernel
theorem dL_law_314 : decode cL_law 314 = .ok (.iload 4, 2) := by decide +kernel
theorem dL_law_316 : decode cL_law 316 = .ok (.iconst 1, 1) := by decide +kernel
theorem dL_law_317 : decode cL_law 317 = .ok (.iadd, 1) := by decide +kernel
theorem dL_law_318 : decode cL_law 318 = .ok (.iaload, 1) := by decide +kernel
theorem dL_law_319 : decode cL_law 319 = .ok (.aload_n 3, 1) := by decide +kernel
theorem dL_law_320 : decode cL_law 320 = .ok (.invokestatic 99, 3) := by decide +kernel
theorem dL_law_323 : decode cL_law 323 = .ok (.istore 5, 2) := by decide +kernel
theorem dL_law_325 : decode cL_law 325 = .ok (.aload_n 2, 1) := by decide +kernel
theorem dL_law_326 : decode cL_law 326 = .ok (.aload_n 0, 1) := by decide +kernel
theorem dL_law_327 : decode cL_law 327 = .ok (.iload 4, 2) := by decide +kernel
theorem dL_law_329 : decode cL_law 329 = .ok (.iconst 1, 1) := by decide +kernel
theorem dL_law_330 : decode cL_law 330 = .ok (.iadd, 1) := by decide +kernel
theorem dL_law_331 : decode cL_law 331 = .ok (.iaload, 1) := by decide +kernel
theorem dL_law_332 : decode cL_law 332 = .ok (.invokevirtual 101, 3) := by decide +kernel
theorem dL_law_335 : decode cL_law 335 = .ok (.istore 6, 2) := by decide +kernel
theorem dL_law_337 : decode cL_law 337 = .ok (.aload_n 2, 1) := by decide +kernel
theorem dL_law_338 : decode cL_law 338 = .ok (.invokevirtual 88, 3) := by decide +kernel
theorem dL_law_341 : decode cL_law 341 = .ok (.iload 5, 2) := by decide +kernel
theorem dL_law_343 : decode cL_law 343 = .ok (.if_icmp .eq 5, 3) := by decide +kernel
theorem dL_law_346 : decode cL_law 346 = .ok (.iconst 0, 1) := by decide +kernel
theorem dL_law_347 : decode cL_law 347 = .ok (.ireturn, 1) := by decide +kernel
theorem dL_law_348 : decode cL_law 348 = .ok (.iload 5, 2) := by decide +kernel
theorem dL_law_350 : decode cL_law 350 = .ok (.ifCond .ne 15, 3) := by decide +kernel
theorem dL_law_353 : decode cL_law 353 = .ok (.aload_n 3, 1) := by decide +kernel
theorem dL_law_354 : decode cL_law 354 = .ok (.iconst 0, 1) := by decide +kernel
theorem dL_law_355 : decode cL_law 355 = .ok (.laload, 1) := by decide +kernel
theorem dL_law_356 : decode cL_law 356 = .ok (.iload 6, 2) := by decide +kernel
theorem dL_law_358 : decode cL_law 358 = .ok (.i2l, 1) := by decide +kernel
theorem dL_law_359 : decode cL_law 359 = .ok (.lcmp, 1) := by decide +kernel
theorem dL_law_360 : decode cL_law 360 = .ok (.ifCond .eq 5, 3) := by decide +kernel
theorem dL_law_363 : decode cL_law 363 = .ok (.iconst 0, 1) := by decide +kernel
theorem dL_law_364 : decode cL_law 364 = .ok (.ireturn, 1) := by decide +kernel
theorem dL_law_365 : decode cL_law 365 = .ok (.goto 999, 3) := by decide +kernel
theorem dL_law_368 : decode cL_law 368 = .ok (.aload_n 1, 1) := by decide +kernel
theorem dL_law_369 : decode cL_law 369 = .ok (.aload_n 0, 1) := by decide +kernel
theorem dL_law_370 : decode cL_law 370 = .ok (.iload 4, 2) := by decide +kernel
theorem dL_law_372 : decode cL_law 372 = .ok (.iconst 1, 1) := by decide +kernel
theorem dL_law_373 : decode cL_law 373 = .ok (.iadd, 1) := by decide +kernel
theorem dL_law_374 : decode cL_law 374 = .ok (.iaload, 1) := by decide +kernel
theorem dL_law_375 : decode cL_law 375 = .ok (.aload_n 0, 1) := by decide +kernel
theorem dL_law_376 : decode cL_law 376 = .ok (.iload 4, 2) := by decide +kernel
theorem dL_law_378 : decode cL_law 378 = .ok (.iconst 2, 1) := by decide +kernel
theorem dL_law_379 : decode cL_law 379 = .ok (.iadd, 1) := by decide +kernel
theorem dL_law_380 : decode cL_law 380 = .ok (.iaload, 1) := by decide +kernel
theorem dL_law_381 : decode cL_law 381 = .ok (.ifCond .eq 7, 3) := by decide +kernel
theorem dL_law_384 : decode cL_law 384 = .ok (.iconst 1, 1) := by decide +kernel
theorem dL_law_385 : decode cL_law 385 = .ok (.goto 4, 3) := by decide +kernel
theorem dL_law_388 : decode cL_law 388 = .ok (.iconst 0, 1) := by decide +kernel
theorem dL_law_389 : decode cL_law 389 = .ok (.aload_n 3, 1) := by decide +kernel
theorem dL_law_390 : decode cL_law 390 = .ok (.invokestatic 102, 3) := by decide +kernel
theorem dL_law_393 : decode cL_law 393 = .ok (.istore 5, 2) := by decide +kernel
theorem dL_law_395 : decode cL_law 395 = .ok (.aload_n 2, 1) := by decide +kernel
theorem dL_law_396 : decode cL_law 396 = .ok (.aload_n 0, 1) := by decide +kernel
theorem dL_law_397 : decode cL_law 397 = .ok (.iload 4, 2) := by decide +kernel
theorem dL_law_399 : decode cL_law 399 = .ok (.iconst 1, 1) := by decide +kernel
theorem dL_law_400 : decode cL_law 400 = .ok (.iadd, 1) := by decide +kernel
theorem dL_law_401 : decode cL_law 401 = .ok (.iaload, 1) := by decide +kernel
theorem dL_law_402 : decode cL_law 402 = .ok (.aload_n 0, 1) := by decide +kernel
theorem dL_law_403 : decode cL_law 403 = .ok (.iload 4, 2) := by decide +kernel
theorem dL_law_405 : decode cL_law 405 = .ok (.iconst 2, 1) := by decide +kernel
theorem dL_law_406 : decode cL_law 406 = .ok (.iadd, 1) := by decide +kernel
theorem dL_law_407 : decode cL_law 407 = .ok (.iaload, 1) := by decide +kernel
theorem dL_law_408 : decode cL_law 408 = .ok (.ifCond .eq 7, 3) := by decide +kernel
theorem dL_law_411 : decode cL_law 411 = .ok (.iconst 1, 1) := by decide +kernel
theorem dL_law_412 : decode cL_law 412 = .ok (.goto 4, 3) := by decide +kernel
theorem dL_law_415 : decode cL_law 415 = .ok (.iconst 0, 1) := by decide +kernel
theorem dL_law_416 : decode cL_law 416 = .ok (.invokevirtual 105, 3) := by decide +kernel
theorem dL_law_419 : decode cL_law 419 = .ok (.istore 6, 2) := by decide +kernel
theorem dL_law_421 : decode cL_law 421 = .ok (.aload_n 2, 1) := by decide +kernel
theorem dL_law_422 : decode cL_law 422 = .ok (.invokevirtual 88, 3) := by decide +kernel
theorem dL_law_425 : decode cL_law 425 = .ok (.iload 5, 2) := by decide +kernel
theorem dL_law_427 : decode cL_law 427 = .ok (.if_icmp .eq 5, 3) := by decide +kernel
theorem dL_law_430 : decode cL_law 430 = .ok (.iconst 0, 1) := by decide +kernel
theorem dL_law_431 : decode cL_law 431 = .ok (.ireturn, 1) := by decide +kernel
theorem dL_law_432 : decode cL_law 432 = .ok (.iload 5, 2) := by decide +kernel
theorem dL_law_434 : decode cL_law 434 = .ok (.ifCond .ne 15, 3) := by decide +kernel
theorem dL_law_437 : decode cL_law 437 = .ok (.aload_n 3, 1) := by decide +kernel
theorem dL_law_438 : decode cL_law 438 = .ok (.iconst 0, 1) := by decide +kernel
theorem dL_law_439 : decode cL_law 439 = .ok (.laload, 1) := by decide +kernel
theorem dL_law_440 : decode cL_law 440 = .ok (.iload 6, 2) := by decide +kernel
theorem dL_law_442 : decode cL_law 442 = .ok (.i2l, 1) := by decide +kernel
theorem dL_law_443 : decode cL_law 443 = .ok (.lcmp, 1) := by decide +kernel
theorem dL_law_444 : decode cL_law 444 = .ok (.ifCond .eq 5, 3) := by decide +kernel
theorem dL_law_447 : decode cL_law 447 = .ok (.iconst 0, 1) := by decide +kernel
theorem dL_law_448 : decode cL_law 448 = .ok (.ireturn, 1) := by decide +kernel
theorem dL_law_449 : decode cL_law 449 = .ok (.goto 915, 3) := by decide +kernel
theorem dL_law_452 : decode cL_law 452 = .ok (.aload_n 1, 1) := by decide +kernel
theorem dL_law_453 : decode cL_law 453 = .ok (.aload_n 0, 1) := by decide +kernel
theorem dL_law_454 : decode cL_law 454 = .ok (.iload 4, 2) := by decide +kernel
theorem dL_law_456 : decode cL_law 456 = .ok (.iconst 1, 1) := by decide +kernel
