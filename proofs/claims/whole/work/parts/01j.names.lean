theorem dX5_settle_154 : decode cX5_settle 154 = .ok (.iload_n 2, 1) := by decide +kernel
theorem dX5_settle_155 : decode cX5_settle 155 = .ok (.ifCond .eq 7, 3) := by decide +kernel
theorem dX5_settle_158 : decode cX5_settle 158 = .ok (.iconst 2, 1) := by decide +kernel
theorem dX5_settle_159 : decode cX5_settle 159 = .ok (.goto 4, 3) := by decide +kernel
theorem dX5_settle_162 : decode cX5_settle 162 = .ok (.iconst 0, 1) := by decide +kernel
theorem dX5_settle_163 : decode cX5_settle 163 = .ok (.iastore, 1) := by decide +kernel
theorem dX5_settle_164 : decode cX5_settle 164 = .ok (.iload 4, 2) := by decide +kernel
theorem dX5_settle_166 : decode cX5_settle 166 = .ok (.ireturn, 1) := by decide +kernel
set_option maxRecDepth 20000 in
theorem ggX5_guarantee_X5_isShop : GoodIn wsX5_guarantee wsX5_isShop := goodIn_r _ [7, 8, 9, 10, 11, 6, 12, 39, 40, 41, 42, 43, 44, 45, 46, 47, 48, 49, 50, 51, 52, 53, 54, 55, 56, 57] (by decide +kernel) (by decide +kernel)
set_option maxRecDepth 20000 in
theorem gX5_guarantee_X5_isShop : GoodIn wsX5_guarantee (wsV RX5 92 RX5 yX5_isShop wsX5_isShop) := goodIn_app (goodIn_of _ (by decide +kernel)) ggX5_guarantee_X5_isShop
set_option maxRecDepth 20000 in
theorem ggX5_guarantee_X5_in : GoodIn wsX5_guarantee wsX5_in := goodIn_r _ [12] (by decide +kernel) (by decide +kernel)
set_option maxRecDepth 20000 in
theorem gX5_guarantee_X5_in : GoodIn wsX5_guarantee (va_wsS RX5 60 yX5_in wsX5_in) := goodIn_app (goodIn_of _ (by decide +kernel)) ggX5_guarantee_X5_in
set_option maxRecDepth 20000 in
theorem ggX5_guarantee_X5_at : GoodIn wsX5_guarantee wsX5_at := goodIn_r _ [15] (by decide +kernel) (by decide +kernel)
set_option maxRecDepth 20000 in
theorem gX5_guarantee_X5_at : GoodIn wsX5_guarantee (va_wsS RX5 64 yX5_at wsX5_at) := goodIn_app (goodIn_of _ (by decide +kernel)) ggX5_guarantee_X5_at
set_option maxRecDepth 20000 in
theorem ggX5_guarantee_X5_balanceOf : GoodIn wsX5_guarantee wsX5_balanceOf := goodIn_r _ [19, 20, 13, 14, 6, 15, 39, 40, 41, 42, 43, 44, 45, 46, 47, 48, 49, 50, 51, 52, 53, 54, 55, 56, 57] (by decide +kernel) (by decide +kernel)
set_option maxRecDepth 20000 in
theorem gX5_guarantee_X5_balanceOf : GoodIn wsX5_guarantee (wsV RX5 103 RX5 yX5_balanceOf wsX5_balanceOf) := goodIn_app (goodIn_of _ (by decide +kernel)) ggX5_guarantee_X5_balanceOf
set_option maxRecDepth 20000 in
theorem ggX5_guarantee_X5_limitOf : GoodIn wsX5_guarantee wsX5_limitOf := goodIn_r _ [24, 25, 26, 27, 28, 29, 1, 30, 31, 32, 6, 33, 34, 35, 13, 14, 15, 39, 40, 41, 42, 43, 44, 45, 46, 47, 48, 49, 50, 51, 52, 53, 54, 55, 56, 57] (by decide +kernel) (by decide +kernel)
set_option maxRecDepth 20000 in
theorem gX5_guarantee_X5_limitOf : GoodIn wsX5_guarantee (wsV RX5 106 RX5 yX5_limitOf wsX5_limitOf) := goodIn_app (goodIn_of _ (by decide +kernel)) ggX5_guarantee_X5_limitOf
set_option maxRecDepth 20000 in
theorem ggX5_guarantee_X5_isBelow : GoodIn wsX5_guarantee wsX5_isBelow := goodIn_r _ [38] (by decide +kernel) (by decide +kernel)
set_option maxRecDepth 20000 in
theorem gX5_guarantee_X5_isBelow : GoodIn wsX5_guarantee (va_wsS RX5 109 yX5_isBelow wsX5_isBelow) := goodIn_app (goodIn_of _ (by decide +kernel)) ggX5_guarantee_X5_isBelow
theorem dX5_guarantee_0 : decode cX5_guarantee 0 = .ok (.aload_n 0, 1) := by decide +kernel
theorem dX5_guarantee_1 : decode cX5_guarantee 1 = .ok (.iload_n 1, 1) := by decide +kernel
theorem dX5_guarantee_2 : decode cX5_guarantee 2 = .ok (.invokevirtual 92, 3) := by decide +kernel
theorem dX5_guarantee_5 : decode cX5_guarantee 5 = .ok (.ifCond .eq 15, 3) := by decide +kernel
theorem dX5_guarantee_8 : decode cX5_guarantee 8 = .ok (.aload_n 0, 1) := by decide +kernel
theorem dX5_guarantee_9 : decode cX5_guarantee 9 = .ok (.iload_n 2, 1) := by decide +kernel
theorem dX5_guarantee_10 : decode cX5_guarantee 10 = .ok (.invokevirtual 92, 3) := by decide +kernel
theorem dX5_guarantee_13 : decode cX5_guarantee 13 = .ok (.ifCond .eq 7, 3) := by decide +kernel
theorem dX5_guarantee_16 : decode cX5_guarantee 16 = .ok (.iconst 1, 1) := by decide +kernel
theorem dX5_guarantee_17 : decode cX5_guarantee 17 = .ok (.goto 4, 3) := by decide +kernel
theorem dX5_guarantee_20 : decode cX5_guarantee 20 = .ok (.iconst 0, 1) := by decide +kernel
theorem dX5_guarantee_21 : decode cX5_guarantee 21 = .ok (.istore 4, 2) := by decide +kernel
theorem dX5_guarantee_23 : decode cX5_guarantee 23 = .ok (.iload_n 3, 1) := by decide +kernel
theorem dX5_guarantee_24 : decode cX5_guarantee 24 = .ok (.iconst 1, 1) := by decide +kernel
theorem dX5_guarantee_25 : decode cX5_guarantee 25 = .ok (.sipush 500, 3) := by decide +kernel
theorem dX5_guarantee_28 : decode cX5_guarantee 28 = .ok (.invokestatic 60, 3) := by decide +kernel
theorem dX5_guarantee_31 : decode cX5_guarantee 31 = .ok (.ifCond .eq 12, 3) := by decide +kernel
theorem dX5_guarantee_34 : decode cX5_guarantee 34 = .ok (.iload_n 1, 1) := by decide +kernel
theorem dX5_guarantee_35 : decode cX5_guarantee 35 = .ok (.iload_n 2, 1) := by decide +kernel
theorem dX5_guarantee_36 : decode cX5_guarantee 36 = .ok (.if_icmp .eq 7, 3) := by decide +kernel
theorem dX5_guarantee_39 : decode cX5_guarantee 39 = .ok (.iconst 1, 1) := by decide +kernel
theorem dX5_guarantee_40 : decode cX5_guarantee 40 = .ok (.goto 4, 3) := by decide +kernel
theorem dX5_guarantee_43 : decode cX5_guarantee 43 = .ok (.iconst 0, 1) := by decide +kernel
theorem dX5_guarantee_44 : decode cX5_guarantee 44 = .ok (.istore 5, 2) := by decide +kernel
theorem dX5_guarantee_46 : decode cX5_guarantee 46 = .ok (.aload_n 0, 1) := by decide +kernel
theorem dX5_guarantee_47 : decode cX5_guarantee 47 = .ok (.iload 4, 2) := by decide +kernel
theorem dX5_guarantee_49 : decode cX5_guarantee 49 = .ok (.ifCond .ne 7, 3) := by decide +kernel
theorem dX5_guarantee_52 : decode cX5_guarantee 52 = .ok (.iconst 1, 1) := by decide +kernel
theorem dX5_guarantee_53 : decode cX5_guarantee 53 = .ok (.goto 53, 3) := by decide +kernel
theorem dX5_guarantee_56 : decode cX5_guarantee 56 = .ok (.iload 5, 2) := by decide +kernel
theorem dX5_guarantee_58 : decode cX5_guarantee 58 = .ok (.ifCond .ne 7, 3) := by decide +kernel
theorem dX5_guarantee_61 : decode cX5_guarantee 61 = .ok (.iconst 2, 1) := by decide +kernel
theorem dX5_guarantee_62 : decode cX5_guarantee 62 = .ok (.goto 44, 3) := by decide +kernel
theorem dX5_guarantee_65 : decode cX5_guarantee 65 = .ok (.aload_n 0, 1) := by decide +kernel
theorem dX5_guarantee_66 : decode cX5_guarantee 66 = .ok (.getfield 20, 3) := by decide +kernel
theorem dX5_guarantee_69 : decode cX5_guarantee 69 = .ok (.iload_n 1, 1) := by decide +kernel
theorem dX5_guarantee_70 : decode cX5_guarantee 70 = .ok (.iload_n 2, 1) := by decide +kernel
theorem dX5_guarantee_71 : decode cX5_guarantee 71 = .ok (.invokestatic 64, 3) := by decide +kernel
theorem dX5_guarantee_74 : decode cX5_guarantee 74 = .ok (.iaload, 1) := by decide +kernel
theorem dX5_guarantee_75 : decode cX5_guarantee 75 = .ok (.iload_n 3, 1) := by decide +kernel
theorem dX5_guarantee_76 : decode cX5_guarantee 76 = .ok (.iadd, 1) := by decide +kernel
theorem dX5_guarantee_77 : decode cX5_guarantee 77 = .ok (.sipush 1000, 3) := by decide +kernel
theorem dX5_guarantee_80 : decode cX5_guarantee 80 = .ok (.if_icmp .gt 21, 3) := by decide +kernel
theorem dX5_guarantee_83 : decode cX5_guarantee 83 = .ok (.aload_n 0, 1) := by decide +kernel
theorem dX5_guarantee_84 : decode cX5_guarantee 84 = .ok (.iload_n 1, 1) := by decide +kernel
theorem dX5_guarantee_85 : decode cX5_guarantee 85 = .ok (.invokevirtual 103, 3) := by decide +kernel
theorem dX5_guarantee_88 : decode cX5_guarantee 88 = .ok (.aload_n 0, 1) := by decide +kernel
theorem dX5_guarantee_89 : decode cX5_guarantee 89 = .ok (.iload_n 1, 1) := by decide +kernel
theorem dX5_guarantee_90 : decode cX5_guarantee 90 = .ok (.invokevirtual 106, 3) := by decide +kernel
theorem dX5_guarantee_93 : decode cX5_guarantee 93 = .ok (.iload_n 3, 1) := by decide +kernel
theorem dX5_guarantee_94 : decode cX5_guarantee 94 = .ok (.isub, 1) := by decide +kernel
theorem dX5_guarantee_95 : decode cX5_guarantee 95 = .ok (.invokestatic 109, 3) := by decide +kernel
theorem dX5_guarantee_98 : decode cX5_guarantee 98 = .ok (.ifCond .eq 7, 3) := by decide +kernel
theorem dX5_guarantee_101 : decode cX5_guarantee 101 = .ok (.iconst 3, 1) := by decide +kernel
theorem dX5_guarantee_102 : decode cX5_guarantee 102 = .ok (.goto 4, 3) := by decide +kernel
theorem dX5_guarantee_105 : decode cX5_guarantee 105 = .ok (.iconst 0, 1) := by decide +kernel
theorem dX5_guarantee_106 : decode cX5_guarantee 106 = .ok (.putfield 54, 3) := by decide +kernel
theorem dX5_guarantee_109 : decode cX5_guarantee 109 = .ok (.aload_n 0, 1) := by decide +kernel
theorem dX5_guarantee_110 : decode cX5_guarantee 110 = .ok (.getfield 54, 3) := by decide +kernel
theorem dX5_guarantee_113 : decode cX5_guarantee 113 = .ok (.ifCond .le 5, 3) := by decide +kernel
theorem dX5_guarantee_116 : decode cX5_guarantee 116 = .ok (.iconst 0, 1) := by decide +kernel
theorem dX5_guarantee_117 : decode cX5_guarantee 117 = .ok (.ireturn, 1) := by decide +kernel
theorem dX5_guarantee_118 : decode cX5_guarantee 118 = .ok (.aload_n 0, 1) := by decide +kernel
theorem dX5_guarantee_119 : decode cX5_guarantee 119 = .ok (.getfield 20, 3) := by decide +kernel
theorem dX5_guarantee_122 : decode cX5_guarantee 122 = .ok (.iload_n 1, 1) := by decide +kernel
theorem dX5_guarantee_123 : decode cX5_guarantee 123 = .ok (.iload_n 2, 1) := by decide +kernel
theorem dX5_guarantee_124 : decode cX5_guarantee 124 = .ok (.invokestatic 64, 3) := by decide +kernel
theorem dX5_guarantee_127 : decode cX5_guarantee 127 = .ok (.dup2, 1) := by decide +kernel
theorem dX5_guarantee_128 : decode cX5_guarantee 128 = .ok (.iaload, 1) := by decide +kernel
theorem dX5_guarantee_129 : decode cX5_guarantee 129 = .ok (.iload_n 3, 1) := by decide +kernel
theorem dX5_guarantee_130 : decode cX5_guarantee 130 = .ok (.iadd, 1) := by decide +kernel
theorem dX5_guarantee_131 : decode cX5_guarantee 131 = .ok (.iastore, 1) := by decide +kernel
theorem dX5_guarantee_132 : decode cX5_guarantee 132 = .ok (.aload_n 0, 1) := by decide +kernel
theorem dX5_guarantee_133 : decode cX5_guarantee 133 = .ok (.getfield 20, 3) := by decide +kernel
theorem dX5_guarantee_136 : decode cX5_guarantee 136 = .ok (.iload_n 1, 1) := by decide +kernel
theorem dX5_guarantee_137 : decode cX5_guarantee 137 = .ok (.iload_n 2, 1) := by decide +kernel
theorem dX5_guarantee_138 : decode cX5_guarantee 138 = .ok (.invokestatic 64, 3) := by decide +kernel
theorem dX5_guarantee_141 : decode cX5_guarantee 141 = .ok (.iaload, 1) := by decide +kernel
theorem dX5_guarantee_142 : decode cX5_guarantee 142 = .ok (.ireturn, 1) := by decide +kernel
set_option maxRecDepth 20000 in
theorem ggX5_revoke_X5_isShop : GoodIn wsX5_revoke wsX5_isShop := goodIn_r _ [7, 8, 9, 10, 11, 6, 12, 39, 40, 41, 42, 43, 44, 45, 46, 47, 48, 49, 50, 51, 52, 53, 54, 55, 56, 57] (by decide +kernel) (by decide +kernel)
set_option maxRecDepth 20000 in
theorem gX5_revoke_X5_isShop : GoodIn wsX5_revoke (wsV RX5 92 RX5 yX5_isShop wsX5_isShop) := goodIn_app (goodIn_of _ (by decide +kernel)) ggX5_revoke_X5_isShop
set_option maxRecDepth 20000 in
theorem ggX5_revoke_X5_in : GoodIn wsX5_revoke wsX5_in := goodIn_r _ [12] (by decide +kernel) (by decide +kernel)
set_option maxRecDepth 20000 in
theorem gX5_revoke_X5_in : GoodIn wsX5_revoke (va_wsS RX5 60 yX5_in wsX5_in) := goodIn_app (goodIn_of _ (by decide +kernel)) ggX5_revoke_X5_in
set_option maxRecDepth 20000 in
theorem ggX5_revoke_X5_at : GoodIn wsX5_revoke wsX5_at := goodIn_r _ [15] (by decide +kernel) (by decide +kernel)
set_option maxRecDepth 20000 in
theorem gX5_revoke_X5_at : GoodIn wsX5_revoke (va_wsS RX5 64 yX5_at wsX5_at) := goodIn_app (goodIn_of _ (by decide +kernel)) ggX5_revoke_X5_at
set_option maxRecDepth 20000 in
theorem ggX5_revoke_X5_balanceOf : GoodIn wsX5_revoke wsX5_balanceOf := goodIn_r _ [19, 20, 13, 14, 6, 15, 39, 40, 41, 42, 43, 44, 45, 46, 47, 48, 49, 50, 51, 52, 53, 54, 55, 56, 57] (by decide +kernel) (by decide +kernel)
set_option maxRecDepth 20000 in
theorem gX5_revoke_X5_balanceOf : GoodIn wsX5_revoke (wsV RX5 103 RX5 yX5_balanceOf wsX5_balanceOf) := goodIn_app (goodIn_of _ (by decide +kernel)) ggX5_revoke_X5_balanceOf
set_option maxRecDepth 20000 in
theorem ggX5_revoke_X5_limitOf : GoodIn wsX5_revoke wsX5_limitOf := goodIn_r _ [24, 25, 26, 27, 28, 29, 1, 30, 31, 32, 6, 33, 34, 35, 13, 14, 15, 39, 40, 41, 42, 43, 44, 45, 46, 47, 48, 49, 50, 51, 52, 53, 54, 55, 56, 57] (by decide +kernel) (by decide +kernel)
set_option maxRecDepth 20000 in
theorem gX5_revoke_X5_limitOf : GoodIn wsX5_revoke (wsV RX5 106 RX5 yX5_limitOf wsX5_limitOf) := goodIn_app (goodIn_of _ (by decide +kernel)) ggX5_revoke_X5_limitOf
set_option maxRecDepth 20000 in
theorem ggX5_revoke_X5_isBelow : GoodIn wsX5_revoke wsX5_isBelow := goodIn_r _ [38] (by decide +kernel) (by decide +kernel)
set_option maxRecDepth 20000 in
theorem gX5_revoke_X5_isBelow : GoodIn wsX5_revoke (va_wsS RX5 109 yX5_isBelow wsX5_isBelow) := goodIn_app (goodIn_of _ (by decide +kernel)) ggX5_revoke_X5_isBelow
theorem dX5_revoke_0 : decode cX5_revoke 0 = .ok (.aload_n 0, 1) := by decide +kernel
theorem dX5_revoke_1 : decode cX5_revoke 1 = .ok (.iload_n 1, 1) := by decide +kernel
theorem dX5_revoke_2 : decode cX5_revoke 2 = .ok (.invokevirtual 92, 3) := by decide +kernel
theorem dX5_revoke_5 : decode cX5_revoke 5 = .ok (.ifCond .eq 15, 3) := by decide +kernel
theorem dX5_revoke_8 : decode cX5_revoke 8 = .ok (.aload_n 0, 1) := by decide +kernel
theorem dX5_revoke_9 : decode cX5_revoke 9 = .ok (.iload_n 2, 1) := by decide +kernel
theorem dX5_revoke_10 : decode cX5_revoke 10 = .ok (.invokevirtual 92, 3) := by decide +kernel
theorem dX5_revoke_13 : decode cX5_revoke 13 = .ok (.ifCond .eq 7, 3) := by decide +kernel
theorem dX5_revoke_16 : decode cX5_revoke 16 = .ok (.iconst 1, 1) := by decide +kernel
theorem dX5_revoke_17 : decode cX5_revoke 17 = .ok (.goto 4, 3) := by decide +kernel
theorem dX5_revoke_20 : decode cX5_revoke 20 = .ok (.iconst 0, 1) := by decide +kernel
theorem dX5_revoke_21 : decode cX5_revoke 21 = .ok (.istore 4, 2) := by decide +kernel
theorem dX5_revoke_23 : decode cX5_revoke 23 = .ok (.iload_n 3, 1) := by decide +kernel
theorem dX5_revoke_24 : decode cX5_revoke 24 = .ok (.iconst 1, 1) := by decide +kernel
theorem dX5_revoke_25 : decode cX5_revoke 25 = .ok (.sipush 500, 3) := by decide +kernel
theorem dX5_revoke_28 : decode cX5_revoke 28 = .ok (.invokestatic 60, 3) := by decide +kernel
theorem dX5_revoke_31 : decode cX5_revoke 31 = .ok (.ifCond .eq 12, 3) := by decide +kernel
theorem dX5_revoke_34 : decode cX5_revoke 34 = .ok (.iload_n 1, 1) := by decide +kernel
theorem dX5_revoke_35 : decode cX5_revoke 35 = .ok (.iload_n 2, 1) := by decide +kernel
theorem dX5_revoke_36 : decode cX5_revoke 36 = .ok (.if_icmp .eq 7, 3) := by decide +kernel
theorem dX5_revoke_39 : decode cX5_revoke 39 = .ok (.iconst 1, 1) := by decide +kernel
theorem dX5_revoke_40 : decode cX5_revoke 40 = .ok (.goto 4, 3) := by decide +kernel
theorem dX5_revoke_43 : decode cX5_revoke 43 = .ok (.iconst 0, 1) := by decide +kernel
theorem dX5_revoke_44 : decode cX5_revoke 44 = .ok (.istore 5, 2) := by decide +kernel
theorem dX5_revoke_46 : decode cX5_revoke 46 = .ok (.aload_n 0, 1) := by decide +kernel
theorem dX5_revoke_47 : decode cX5_revoke 47 = .ok (.iload 4, 2) := by decide +kernel
theorem dX5_revoke_49 : decode cX5_revoke 49 = .ok (.ifCond .ne 7, 3) := by decide +kernel
theorem dX5_revoke_52 : decode cX5_revoke 52 = .ok (.iconst 1, 1) := by decide +kernel
theorem dX5_revoke_53 : decode cX5_revoke 53 = .ok (.goto 49, 3) := by decide +kernel
theorem dX5_revoke_56 : decode cX5_revoke 56 = .ok (.iload 5, 2) := by decide +kernel
theorem dX5_revoke_58 : decode cX5_revoke 58 = .ok (.ifCond .ne 7, 3) := by decide +kernel
theorem dX5_revoke_61 : decode cX5_revoke 61 = .ok (.iconst 2, 1) := by decide +kernel
theorem dX5_revoke_62 : decode cX5_revoke 62 = .ok (.goto 40, 3) := by decide +kernel
theorem dX5_revoke_65 : decode cX5_revoke 65 = .ok (.aload_n 0, 1) := by decide +kernel
theorem dX5_revoke_66 : decode cX5_revoke 66 = .ok (.getfield 20, 3) := by decide +kernel
theorem dX5_revoke_69 : decode cX5_revoke 69 = .ok (.iload_n 1, 1) := by decide +kernel
theorem dX5_revoke_70 : decode cX5_revoke 70 = .ok (.iload_n 2, 1) := by decide +kernel
theorem dX5_revoke_71 : decode cX5_revoke 71 = .ok (.invokestatic 64, 3) := by decide +kernel
theorem dX5_revoke_74 : decode cX5_revoke 74 = .ok (.iaload, 1) := by decide +kernel
theorem dX5_revoke_75 : decode cX5_revoke 75 = .ok (.iload_n 3, 1) := by decide +kernel
theorem dX5_revoke_76 : decode cX5_revoke 76 = .ok (.if_icmp .lt 21, 3) := by decide +kernel
theorem dX5_revoke_79 : decode cX5_revoke 79 = .ok (.aload_n 0, 1) := by decide +kernel
theorem dX5_revoke_80 : decode cX5_revoke 80 = .ok (.iload_n 2, 1) := by decide +kernel
theorem dX5_revoke_81 : decode cX5_revoke 81 = .ok (.invokevirtual 103, 3) := by decide +kernel
theorem dX5_revoke_84 : decode cX5_revoke 84 = .ok (.aload_n 0, 1) := by decide +kernel
theorem dX5_revoke_85 : decode cX5_revoke 85 = .ok (.iload_n 2, 1) := by decide +kernel
theorem dX5_revoke_86 : decode cX5_revoke 86 = .ok (.invokevirtual 106, 3) := by decide +kernel
theorem dX5_revoke_89 : decode cX5_revoke 89 = .ok (.iload_n 3, 1) := by decide +kernel
theorem dX5_revoke_90 : decode cX5_revoke 90 = .ok (.isub, 1) := by decide +kernel
theorem dX5_revoke_91 : decode cX5_revoke 91 = .ok (.invokestatic 109, 3) := by decide +kernel
theorem dX5_revoke_94 : decode cX5_revoke 94 = .ok (.ifCond .eq 7, 3) := by decide +kernel
theorem dX5_revoke_97 : decode cX5_revoke 97 = .ok (.iconst 3, 1) := by decide +kernel
theorem dX5_revoke_98 : decode cX5_revoke 98 = .ok (.goto 4, 3) := by decide +kernel
theorem dX5_revoke_101 : decode cX5_revoke 101 = .ok (.iconst 0, 1) := by decide +kernel
theorem dX5_revoke_102 : decode cX5_revoke 102 = .ok (.putfield 54, 3) := by decide +kernel
theorem dX5_revoke_105 : decode cX5_revoke 105 = .ok (.aload_n 0, 1) := by decide +kernel
theorem dX5_revoke_106 : decode cX5_revoke 106 = .ok (.getfield 54, 3) := by decide +kernel
theorem dX5_revoke_109 : decode cX5_revoke 109 = .ok (.ifCond .le 5, 3) := by decide +kernel
theorem dX5_revoke_112 : decode cX5_revoke 112 = .ok (.iconst 0, 1) := by decide +kernel
theorem dX5_revoke_113 : decode cX5_revoke 113 = .ok (.ireturn, 1) := by decide +kernel
theorem dX5_revoke_114 : decode cX5_revoke 114 = .ok (.aload_n 0, 1) := by decide +kernel
theorem dX5_revoke_115 : decode cX5_revoke 115 = .ok (.getfield 20, 3) := by decide +kernel
theorem dX5_revoke_118 : decode cX5_revoke 118 = .ok (.iload_n 1, 1) := by decide +kernel
theorem dX5_revoke_119 : decode cX5_revoke 119 = .ok (.iload_n 2, 1) := by decide +kernel
theorem dX5_revoke_120 : decode cX5_revoke 120 = .ok (.invokestatic 64, 3) := by decide +kernel
theorem dX5_revoke_123 : decode cX5_revoke 123 = .ok (.dup2, 1) := by decide +kernel
theorem dX5_revoke_124 : decode cX5_revoke 124 = .ok (.iaload, 1) := by decide +kernel
theorem dX5_revoke_125 : decode cX5_revoke 125 = .ok (.iload_n 3, 1) := by decide +kernel
theorem dX5_revoke_126 : decode cX5_revoke 126 = .ok (.isub, 1) := by decide +kernel
theorem dX5_revoke_127 : decode cX5_revoke 127 = .ok (.iastore, 1) := by decide +kernel
theorem dX5_revoke_128 : decode cX5_revoke 128 = .ok (.aload_n 0, 1) := by decide +kernel
theorem dX5_revoke_129 : decode cX5_revoke 129 = .ok (.getfield 20, 3) := by decide +kernel
theorem dX5_revoke_132 : decode cX5_revoke 132 = .ok (.iload_n 1, 1) := by decide +kernel
theorem dX5_revoke_133 : decode cX5_revoke 133 = .ok (.iload_n 2, 1) := by decide +kernel
theorem dX5_revoke_134 : decode cX5_revoke 134 = .ok (.invokestatic 64, 3) := by decide +kernel
theorem dX5_revoke_137 : decode cX5_revoke 137 = .ok (.iaload, 1) := by decide +kernel
theorem dX5_revoke_138 : decode cX5_revoke 138 = .ok (.ireturn, 1) := by decide +kernel
set_option maxRecDepth 20000 in
theorem ggX5_fee_X5_in : GoodIn wsX5_fee wsX5_in := goodIn_r _ [6] (by decide +kernel) (by decide +kernel)
set_option maxRecDepth 20000 in
theorem gX5_fee_X5_in : GoodIn wsX5_fee (va_wsS RX5 60 yX5_in wsX5_in) := goodIn_app (goodIn_of _ (by decide +kernel)) ggX5_fee_X5_in
theorem dX5_fee_0 : decode cX5_fee 0 = .ok (.aload_n 0, 1) := by decide +kernel
theorem dX5_fee_1 : decode cX5_fee 1 = .ok (.iload_n 1, 1) := by decide +kernel
theorem dX5_fee_2 : decode cX5_fee 2 = .ok (.iconst 0, 1) := by decide +kernel
theorem dX5_fee_3 : decode cX5_fee 3 = .ok (.sipush 500, 3) := by decide +kernel
theorem dX5_fee_6 : decode cX5_fee 6 = .ok (.invokestatic 60, 3) := by decide +kernel
theorem dX5_fee_9 : decode cX5_fee 9 = .ok (.ifCond .eq 7, 3) := by decide +kernel
theorem dX5_fee_12 : decode cX5_fee 12 = .ok (.iconst 0, 1) := by decide +kernel
theorem dX5_fee_13 : decode cX5_fee 13 = .ok (.goto 4, 3) := by decide +kernel
theorem dX5_fee_16 : decode cX5_fee 16 = .ok (.iconst 1, 1) := by decide +kernel
theorem dX5_fee_17 : decode cX5_fee 17 = .ok (.putfield 54, 3) := by decide +kernel
theorem dX5_fee_20 : decode cX5_fee 20 = .ok (.aload_n 0, 1) := by decide +kernel
theorem dX5_fee_21 : decode cX5_fee 21 = .ok (.getfield 54, 3) := by decide +kernel
theorem dX5_fee_24 : decode cX5_fee 24 = .ok (.ifCond .le 5, 3) := by decide +kernel
theorem dX5_fee_27 : decode cX5_fee 27 = .ok (.iconst 0, 1) := by decide +kernel
theorem dX5_fee_28 : decode cX5_fee 28 = .ok (.ireturn, 1) := by decide +kernel
theorem dX5_fee_29 : decode cX5_fee 29 = .ok (.aload_n 0, 1) := by decide +kernel
theorem dX5_fee_30 : decode cX5_fee 30 = .ok (.getfield 44, 3) := by decide +kernel
theorem dX5_fee_33 : decode cX5_fee 33 = .ok (.istore_n 2, 1) := by decide +kernel
theorem dX5_fee_34 : decode cX5_fee 34 = .ok (.aload_n 0, 1) := by decide +kernel
theorem dX5_fee_35 : decode cX5_fee 35 = .ok (.iload_n 1, 1) := by decide +kernel
theorem dX5_fee_36 : decode cX5_fee 36 = .ok (.putfield 44, 3) := by decide +kernel
theorem dX5_fee_39 : decode cX5_fee 39 = .ok (.iload_n 2, 1) := by decide +kernel
theorem dX5_fee_40 : decode cX5_fee 40 = .ok (.ireturn, 1) := by decide +kernel
set_option maxRecDepth 20000 in
theorem ggX5_isRing_X5_free : GoodIn wsX5_isRing wsX5_free := goodIn_r _ [6, 7, 8, 9, 10, 5, 11, 12, 13, 14, 15, 16, 17, 18, 19, 20, 21, 22, 23, 24, 25, 26, 27, 28, 29, 30] (by decide +kernel) (by decide +kernel)
set_option maxRecDepth 20000 in
theorem gX5_isRing_X5_free : GoodIn wsX5_isRing (wsV RX5 115 RX5 yX5_free wsX5_free) := goodIn_app (goodIn_of _ (by decide +kernel)) ggX5_isRing_X5_free
theorem dX5_isRing_0 : decode cX5_isRing 0 = .ok (.iconst 1, 1) := by decide +kernel
theorem dX5_isRing_1 : decode cX5_isRing 1 = .ok (.istore_n 2, 1) := by decide +kernel
theorem dX5_isRing_2 : decode cX5_isRing 2 = .ok (.iconst 0, 1) := by decide +kernel
theorem dX5_isRing_3 : decode cX5_isRing 3 = .ok (.istore_n 3, 1) := by decide +kernel
theorem dX5_isRing_4 : decode cX5_isRing 4 = .ok (.iload_n 3, 1) := by decide +kernel
theorem dX5_isRing_5 : decode cX5_isRing 5 = .ok (.iload_n 1, 1) := by decide +kernel
theorem dX5_isRing_6 : decode cX5_isRing 6 = .ok (.if_icmp .ge 102, 3) := by decide +kernel
theorem dX5_isRing_9 : decode cX5_isRing 9 = .ok (.iload_n 2, 1) := by decide +kernel
theorem dX5_isRing_10 : decode cX5_isRing 10 = .ok (.ifCond .eq 49, 3) := by decide +kernel
theorem dX5_isRing_13 : decode cX5_isRing 13 = .ok (.aload_n 0, 1) := by decide +kernel
theorem dX5_isRing_14 : decode cX5_isRing 14 = .ok (.aload_n 0, 1) := by decide +kernel
theorem dX5_isRing_15 : decode cX5_isRing 15 = .ok (.getfield 51, 3) := by decide +kernel
theorem dX5_isRing_18 : decode cX5_isRing 18 = .ok (.iload_n 3, 1) := by decide +kernel
theorem dX5_isRing_19 : decode cX5_isRing 19 = .ok (.iaload, 1) := by decide +kernel
theorem dX5_isRing_20 : decode cX5_isRing 20 = .ok (.aload_n 0, 1) := by decide +kernel
theorem dX5_isRing_21 : decode cX5_isRing 21 = .ok (.getfield 51, 3) := by decide +kernel
theorem dX5_isRing_24 : decode cX5_isRing 24 = .ok (.iload_n 3, 1) := by decide +kernel
theorem dX5_isRing_25 : decode cX5_isRing 25 = .ok (.iconst 1, 1) := by decide +kernel
theorem dX5_isRing_26 : decode cX5_isRing 26 = .ok (.iadd, 1) := by decide +kernel
theorem dX5_isRing_27 : decode cX5_isRing 27 = .ok (.iload_n 1, 1) := by decide +kernel
theorem dX5_isRing_28 : decode cX5_isRing 28 = .ok (.irem, 1) := by decide +kernel
theorem dX5_isRing_29 : decode cX5_isRing 29 = .ok (.iaload, 1) := by decide +kernel
theorem dX5_isRing_30 : decode cX5_isRing 30 = .ok (.invokevirtual 115, 3) := by decide +kernel
theorem dX5_isRing_33 : decode cX5_isRing 33 = .ok (.ifCond .le 26, 3) := by decide +kernel
theorem dX5_isRing_36 : decode cX5_isRing 36 = .ok (.iload_n 3, 1) := by decide +kernel
theorem dX5_isRing_37 : decode cX5_isRing 37 = .ok (.ifCond .eq 18, 3) := by decide +kernel
theorem dX5_isRing_40 : decode cX5_isRing 40 = .ok (.aload_n 0, 1) := by decide +kernel
theorem dX5_isRing_41 : decode cX5_isRing 41 = .ok (.getfield 51, 3) := by decide +kernel
theorem dX5_isRing_44 : decode cX5_isRing 44 = .ok (.iload_n 3, 1) := by decide +kernel
theorem dX5_isRing_45 : decode cX5_isRing 45 = .ok (.iaload, 1) := by decide +kernel
theorem dX5_isRing_46 : decode cX5_isRing 46 = .ok (.aload_n 0, 1) := by decide +kernel
theorem dX5_isRing_47 : decode cX5_isRing 47 = .ok (.getfield 51, 3) := by decide +kernel
theorem dX5_isRing_50 : decode cX5_isRing 50 = .ok (.iconst 0, 1) := by decide +kernel
theorem dX5_isRing_51 : decode cX5_isRing 51 = .ok (.iaload, 1) := by decide +kernel
theorem dX5_isRing_52 : decode cX5_isRing 52 = .ok (.if_icmp .le 7, 3) := by decide +kernel
theorem dX5_isRing_55 : decode cX5_isRing 55 = .ok (.iconst 1, 1) := by decide +kernel
theorem dX5_isRing_56 : decode cX5_isRing 56 = .ok (.goto 4, 3) := by decide +kernel
theorem dX5_isRing_59 : decode cX5_isRing 59 = .ok (.iconst 0, 1) := by decide +kernel
theorem dX5_isRing_60 : decode cX5_isRing 60 = .ok (.istore_n 2, 1) := by decide +kernel
theorem dX5_isRing_61 : decode cX5_isRing 61 = .ok (.iconst 0, 1) := by decide +kernel
theorem dX5_isRing_62 : decode cX5_isRing 62 = .ok (.istore 4, 2) := by decide +kernel
theorem dX5_isRing_64 : decode cX5_isRing 64 = .ok (.iload 4, 2) := by decide +kernel
theorem dX5_isRing_66 : decode cX5_isRing 66 = .ok (.iload_n 3, 1) := by decide +kernel
theorem dX5_isRing_67 : decode cX5_isRing 67 = .ok (.if_icmp .ge 35, 3) := by decide +kernel
theorem dX5_isRing_70 : decode cX5_isRing 70 = .ok (.iload_n 2, 1) := by decide +kernel
theorem dX5_isRing_71 : decode cX5_isRing 71 = .ok (.ifCond .eq 23, 3) := by decide +kernel
theorem dX5_isRing_74 : decode cX5_isRing 74 = .ok (.aload_n 0, 1) := by decide +kernel
theorem dX5_isRing_75 : decode cX5_isRing 75 = .ok (.getfield 51, 3) := by decide +kernel
theorem dX5_isRing_78 : decode cX5_isRing 78 = .ok (.iload 4, 2) := by decide +kernel
theorem dX5_isRing_80 : decode cX5_isRing 80 = .ok (.iaload, 1) := by decide +kernel
theorem dX5_isRing_81 : decode cX5_isRing 81 = .ok (.aload_n 0, 1) := by decide +kernel
theorem dX5_isRing_82 : decode cX5_isRing 82 = .ok (.getfield 51, 3) := by decide +kernel
theorem dX5_isRing_85 : decode cX5_isRing 85 = .ok (.iload_n 3, 1) := by decide +kernel
theorem dX5_isRing_86 : decode cX5_isRing 86 = .ok (.iaload, 1) := by decide +kernel
theorem dX5_isRing_87 : decode cX5_isRing 87 = .ok (.if_icmp .eq 7, 3) := by decide +kernel
theorem dX5_isRing_90 : decode cX5_isRing 90 = .ok (.iconst 1, 1) := by decide +kernel
theorem dX5_isRing_91 : decode cX5_isRing 91 = .ok (.goto 4, 3) := by decide +kernel
theorem dX5_isRing_94 : decode cX5_isRing 94 = .ok (.iconst 0, 1) := by decide +kernel
theorem dX5_isRing_95 : decode cX5_isRing 95 = .ok (.istore_n 2, 1) := by decide +kernel
theorem dX5_isRing_96 : decode cX5_isRing 96 = .ok (.iinc 4 1, 3) := by decide +kernel
theorem dX5_isRing_99 : decode cX5_isRing 99 = .ok (.goto (-35), 3) := by decide +kernel
theorem dX5_isRing_102 : decode cX5_isRing 102 = .ok (.iinc 3 1, 3) := by decide +kernel
theorem dX5_isRing_105 : decode cX5_isRing 105 = .ok (.goto (-101), 3) := by decide +kernel
theorem dX5_isRing_108 : decode cX5_isRing 108 = .ok (.iload_n 2, 1) := by decide +kernel
theorem dX5_isRing_109 : decode cX5_isRing 109 = .ok (.ireturn, 1) := by decide +kernel
set_option maxRecDepth 20000 in
theorem ggX5_canBegin_X5_free : GoodIn wsX5_canBegin wsX5_free := goodIn_r _ [6, 7, 8, 9, 10, 5, 11, 12, 13, 14, 15, 16, 17, 18, 19, 20, 21, 22, 23, 24, 25, 26, 27, 28, 29, 30] (by decide +kernel) (by decide +kernel)
set_option maxRecDepth 20000 in
theorem gX5_canBegin_X5_free : GoodIn wsX5_canBegin (wsV RX5 115 RX5 yX5_free wsX5_free) := goodIn_app (goodIn_of _ (by decide +kernel)) ggX5_canBegin_X5_free
theorem dX5_canBegin_0 : decode cX5_canBegin 0 = .ok (.iload_n 1, 1) := by decide +kernel
theorem dX5_canBegin_1 : decode cX5_canBegin 1 = .ok (.ifCond .eq 39, 3) := by decide +kernel
theorem dX5_canBegin_4 : decode cX5_canBegin 4 = .ok (.aload_n 0, 1) := by decide +kernel
theorem dX5_canBegin_5 : decode cX5_canBegin 5 = .ok (.getfield 51, 3) := by decide +kernel
theorem dX5_canBegin_8 : decode cX5_canBegin 8 = .ok (.iload_n 1, 1) := by decide +kernel
theorem dX5_canBegin_9 : decode cX5_canBegin 9 = .ok (.iaload, 1) := by decide +kernel
theorem dX5_canBegin_10 : decode cX5_canBegin 10 = .ok (.aload_n 0, 1) := by decide +kernel
theorem dX5_canBegin_11 : decode cX5_canBegin 11 = .ok (.getfield 51, 3) := by decide +kernel
theorem dX5_canBegin_14 : decode cX5_canBegin 14 = .ok (.iconst 0, 1) := by decide +kernel
theorem dX5_canBegin_15 : decode cX5_canBegin 15 = .ok (.iaload, 1) := by decide +kernel
theorem dX5_canBegin_16 : decode cX5_canBegin 16 = .ok (.if_icmp .le 28, 3) := by decide +kernel
theorem dX5_canBegin_19 : decode cX5_canBegin 19 = .ok (.aload_n 0, 1) := by decide +kernel
theorem dX5_canBegin_20 : decode cX5_canBegin 20 = .ok (.aload_n 0, 1) := by decide +kernel
theorem dX5_canBegin_21 : decode cX5_canBegin 21 = .ok (.getfield 51, 3) := by decide +kernel
theorem dX5_canBegin_24 : decode cX5_canBegin 24 = .ok (.iload_n 1, 1) := by decide +kernel
theorem dX5_canBegin_25 : decode cX5_canBegin 25 = .ok (.iconst 1, 1) := by decide +kernel
theorem dX5_canBegin_26 : decode cX5_canBegin 26 = .ok (.isub, 1) := by decide +kernel
theorem dX5_canBegin_27 : decode cX5_canBegin 27 = .ok (.iaload, 1) := by decide +kernel
theorem dX5_canBegin_28 : decode cX5_canBegin 28 = .ok (.aload_n 0, 1) := by decide +kernel
theorem dX5_canBegin_29 : decode cX5_canBegin 29 = .ok (.getfield 51, 3) := by decide +kernel
theorem dX5_canBegin_32 : decode cX5_canBegin 32 = .ok (.iload_n 1, 1) := by decide +kernel
theorem dX5_canBegin_33 : decode cX5_canBegin 33 = .ok (.iaload, 1) := by decide +kernel
theorem dX5_canBegin_34 : decode cX5_canBegin 34 = .ok (.invokevirtual 115, 3) := by decide +kernel
theorem dX5_canBegin_37 : decode cX5_canBegin 37 = .ok (.ifCond .le 7, 3) := by decide +kernel
theorem dX5_canBegin_40 : decode cX5_canBegin 40 = .ok (.iconst 1, 1) := by decide +kernel
theorem dX5_canBegin_41 : decode cX5_canBegin 41 = .ok (.goto 4, 3) := by decide +kernel
theorem dX5_canBegin_44 : decode cX5_canBegin 44 = .ok (.iconst 0, 1) := by decide +kernel
theorem dX5_canBegin_45 : decode cX5_canBegin 45 = .ok (.istore_n 2, 1) := by decide +kernel
theorem dX5_canBegin_46 : decode cX5_canBegin 46 = .ok (.iconst 0, 1) := by decide +kernel
theorem dX5_canBegin_47 : decode cX5_canBegin 47 = .ok (.istore_n 3, 1) := by decide +kernel
theorem dX5_canBegin_48 : decode cX5_canBegin 48 = .ok (.iload_n 3, 1) := by decide +kernel
theorem dX5_canBegin_49 : decode cX5_canBegin 49 = .ok (.iload_n 1, 1) := by decide +kernel
theorem dX5_canBegin_50 : decode cX5_canBegin 50 = .ok (.if_icmp .ge 34, 3) := by decide +kernel
theorem dX5_canBegin_53 : decode cX5_canBegin 53 = .ok (.iload_n 2, 1) := by decide +kernel
theorem dX5_canBegin_54 : decode cX5_canBegin 54 = .ok (.ifCond .eq 22, 3) := by decide +kernel
theorem dX5_canBegin_57 : decode cX5_canBegin 57 = .ok (.aload_n 0, 1) := by decide +kernel
theorem dX5_canBegin_58 : decode cX5_canBegin 58 = .ok (.getfield 51, 3) := by decide +kernel
theorem dX5_canBegin_61 : decode cX5_canBegin 61 = .ok (.iload_n 3, 1) := by decide +kernel
theorem dX5_canBegin_62 : decode cX5_canBegin 62 = .ok (.iaload, 1) := by decide +kernel
theorem dX5_canBegin_63 : decode cX5_canBegin 63 = .ok (.aload_n 0, 1) := by decide +kernel
theorem dX5_canBegin_64 : decode cX5_canBegin 64 = .ok (.getfield 51, 3) := by decide +kernel
theorem dX5_canBegin_67 : decode cX5_canBegin 67 = .ok (.iload_n 1, 1) := by decide +kernel
theorem dX5_canBegin_68 : decode cX5_canBegin 68 = .ok (.iaload, 1) := by decide +kernel
theorem dX5_canBegin_69 : decode cX5_canBegin 69 = .ok (.if_icmp .eq 7, 3) := by decide +kernel
theorem dX5_canBegin_72 : decode cX5_canBegin 72 = .ok (.iconst 1, 1) := by decide +kernel
theorem dX5_canBegin_73 : decode cX5_canBegin 73 = .ok (.goto 4, 3) := by decide +kernel
theorem dX5_canBegin_76 : decode cX5_canBegin 76 = .ok (.iconst 0, 1) := by decide +kernel
theorem dX5_canBegin_77 : decode cX5_canBegin 77 = .ok (.istore_n 2, 1) := by decide +kernel
theorem dX5_canBegin_78 : decode cX5_canBegin 78 = .ok (.iinc 3 1, 3) := by decide +kernel
theorem dX5_canBegin_81 : decode cX5_canBegin 81 = .ok (.goto (-33), 3) := by decide +kernel
theorem dX5_canBegin_84 : decode cX5_canBegin 84 = .ok (.iload_n 2, 1) := by decide +kernel
theorem dX5_canBegin_85 : decode cX5_canBegin 85 = .ok (.ireturn, 1) := by decide +kernel
set_option maxRecDepth 20000 in
theorem ggX5_laysRing_X5_canBegin : GoodIn wsX5_laysRing wsX5_canBegin := goodIn_r _ [7, 1, 8, 9, 10, 6, 11, 12, 13, 14, 15, 16, 21, 22, 23, 24, 25, 26, 27, 28, 29, 30, 31, 32, 33, 34, 35, 36, 37, 38, 39] (by decide +kernel) (by decide +kernel)
set_option maxRecDepth 20000 in
theorem gX5_laysRing_X5_canBegin : GoodIn wsX5_laysRing (wsV RX5 118 RX5 yX5_canBegin wsX5_canBegin) := goodIn_app (goodIn_of _ (by decide +kernel)) ggX5_laysRing_X5_canBegin
set_option maxRecDepth 20000 in
theorem ggX5_laysRing_X5_isRing : GoodIn wsX5_laysRing wsX5_isRing := goodIn_r _ [20, 1, 8, 9, 10, 6, 11, 12, 13, 14, 15, 16, 21, 22, 23, 24, 25, 26, 27, 28, 29, 30, 31, 32, 33, 34, 35, 36, 37, 38, 39] (by decide +kernel) (by decide +kernel)
set_option maxRecDepth 20000 in
theorem gX5_laysRing_X5_isRing : GoodIn wsX5_laysRing (wsV RX5 121 RX5 yX5_isRing wsX5_isRing) := goodIn_app (goodIn_of _ (by decide +kernel)) ggX5_laysRing_X5_isRing
theorem dX5_laysRing_0 : decode cX5_laysRing 0 = .ok (.iconst 0, 1) := by decide +kernel
theorem dX5_laysRing_1 : decode cX5_laysRing 1 = .ok (.istore_n 2, 1) := by decide +kernel
theorem dX5_laysRing_2 : decode cX5_laysRing 2 = .ok (.aload_n 0, 1) := by decide +kernel
theorem dX5_laysRing_3 : decode cX5_laysRing 3 = .ok (.getfield 51, 3) := by decide +kernel
theorem dX5_laysRing_6 : decode cX5_laysRing 6 = .ok (.iconst 0, 1) := by decide +kernel
theorem dX5_laysRing_7 : decode cX5_laysRing 7 = .ok (.iconst (-1), 1) := by decide +kernel
theorem dX5_laysRing_8 : decode cX5_laysRing 8 = .ok (.iastore, 1) := by decide +kernel
theorem dX5_laysRing_9 : decode cX5_laysRing 9 = .ok (.iload_n 2, 1) := by decide +kernel
theorem dX5_laysRing_10 : decode cX5_laysRing 10 = .ok (.ifCond .lt 70, 3) := by decide +kernel
theorem dX5_laysRing_13 : decode cX5_laysRing 13 = .ok (.aload_n 0, 1) := by decide +kernel
theorem dX5_laysRing_14 : decode cX5_laysRing 14 = .ok (.getfield 51, 3) := by decide +kernel
theorem dX5_laysRing_17 : decode cX5_laysRing 17 = .ok (.iload_n 2, 1) := by decide +kernel
theorem dX5_laysRing_18 : decode cX5_laysRing 18 = .ok (.dup2, 1) := by decide +kernel
theorem dX5_laysRing_19 : decode cX5_laysRing 19 = .ok (.iaload, 1) := by decide +kernel
theorem dX5_laysRing_20 : decode cX5_laysRing 20 = .ok (.iconst 1, 1) := by decide +kernel
theorem dX5_laysRing_21 : decode cX5_laysRing 21 = .ok (.iadd, 1) := by decide +kernel
theorem dX5_laysRing_22 : decode cX5_laysRing 22 = .ok (.iastore, 1) := by decide +kernel
theorem dX5_laysRing_23 : decode cX5_laysRing 23 = .ok (.aload_n 0, 1) := by decide +kernel
theorem dX5_laysRing_24 : decode cX5_laysRing 24 = .ok (.getfield 51, 3) := by decide +kernel
theorem dX5_laysRing_27 : decode cX5_laysRing 27 = .ok (.iload_n 2, 1) := by decide +kernel
theorem dX5_laysRing_28 : decode cX5_laysRing 28 = .ok (.iaload, 1) := by decide +kernel
theorem dX5_laysRing_29 : decode cX5_laysRing 29 = .ok (.aload_n 0, 1) := by decide +kernel
theorem dX5_laysRing_30 : decode cX5_laysRing 30 = .ok (.getfield 57, 3) := by decide +kernel
theorem dX5_laysRing_33 : decode cX5_laysRing 33 = .ok (.if_icmp .ne 9, 3) := by decide +kernel
theorem dX5_laysRing_36 : decode cX5_laysRing 36 = .ok (.iinc 2 (-1), 3) := by decide +kernel
theorem dX5_laysRing_39 : decode cX5_laysRing 39 = .ok (.goto (-30), 3) := by decide +kernel
theorem dX5_laysRing_42 : decode cX5_laysRing 42 = .ok (.aload_n 0, 1) := by decide +kernel
theorem dX5_laysRing_43 : decode cX5_laysRing 43 = .ok (.iload_n 2, 1) := by decide +kernel
theorem dX5_laysRing_44 : decode cX5_laysRing 44 = .ok (.invokevirtual 118, 3) := by decide +kernel
theorem dX5_laysRing_47 : decode cX5_laysRing 47 = .ok (.ifCond .eq (-38), 3) := by decide +kernel
theorem dX5_laysRing_50 : decode cX5_laysRing 50 = .ok (.iload_n 2, 1) := by decide +kernel
theorem dX5_laysRing_51 : decode cX5_laysRing 51 = .ok (.iload_n 1, 1) := by decide +kernel
theorem dX5_laysRing_52 : decode cX5_laysRing 52 = .ok (.iconst 1, 1) := by decide +kernel
theorem dX5_laysRing_53 : decode cX5_laysRing 53 = .ok (.isub, 1) := by decide +kernel
theorem dX5_laysRing_54 : decode cX5_laysRing 54 = .ok (.if_icmp .ne 13, 3) := by decide +kernel
theorem dX5_laysRing_57 : decode cX5_laysRing 57 = .ok (.aload_n 0, 1) := by decide +kernel
theorem dX5_laysRing_58 : decode cX5_laysRing 58 = .ok (.iload_n 1, 1) := by decide +kernel
theorem dX5_laysRing_59 : decode cX5_laysRing 59 = .ok (.invokevirtual 121, 3) := by decide +kernel
theorem dX5_laysRing_62 : decode cX5_laysRing 62 = .ok (.ifCond .eq (-53), 3) := by decide +kernel
theorem dX5_laysRing_65 : decode cX5_laysRing 65 = .ok (.iconst 1, 1) := by decide +kernel
theorem dX5_laysRing_66 : decode cX5_laysRing 66 = .ok (.ireturn, 1) := by decide +kernel
theorem dX5_laysRing_67 : decode cX5_laysRing 67 = .ok (.iinc 2 1, 3) := by decide +kernel
theorem dX5_laysRing_70 : decode cX5_laysRing 70 = .ok (.aload_n 0, 1) := by decide +kernel
theorem dX5_laysRing_71 : decode cX5_laysRing 71 = .ok (.getfield 51, 3) := by decide +kernel
theorem dX5_laysRing_74 : decode cX5_laysRing 74 = .ok (.iload_n 2, 1) := by decide +kernel
theorem dX5_laysRing_75 : decode cX5_laysRing 75 = .ok (.iconst (-1), 1) := by decide +kernel
theorem dX5_laysRing_76 : decode cX5_laysRing 76 = .ok (.iastore, 1) := by decide +kernel
theorem dX5_laysRing_77 : decode cX5_laysRing 77 = .ok (.goto (-68), 3) := by decide +kernel
theorem dX5_laysRing_80 : decode cX5_laysRing 80 = .ok (.iconst 0, 1) := by decide +kernel
theorem dX5_laysRing_81 : decode cX5_laysRing 81 = .ok (.ireturn, 1) := by decide +kernel
set_option maxRecDepth 20000 in
theorem ggX5_nets_X5_laysRing : GoodIn wsX5_nets wsX5_laysRing := goodIn_r _ [9, 1, 10, 11, 12, 13, 8, 14, 15, 16, 17, 18, 4, 19, 20, 21, 22, 23, 24, 25, 26, 30, 31, 32, 33, 34, 35, 36, 37, 38, 39, 40, 41, 42, 43, 44, 45, 46, 47, 48] (by decide +kernel) (by decide +kernel)
set_option maxRecDepth 20000 in
theorem gX5_nets_X5_laysRing : GoodIn wsX5_nets (wsV RX5 124 RX5 yX5_laysRing wsX5_laysRing) := goodIn_app (goodIn_of _ (by decide +kernel)) ggX5_nets_X5_laysRing
set_option maxRecDepth 20000 in
theorem ggX5_nets_X5_free : GoodIn wsX5_nets wsX5_free := goodIn_r _ [18, 4, 19, 20, 21, 8, 22, 30, 31, 32, 33, 34, 35, 36, 37, 38, 39, 40, 41, 42, 43, 44, 45, 46, 47, 48] (by decide +kernel) (by decide +kernel)
set_option maxRecDepth 20000 in
theorem gX5_nets_X5_free : GoodIn wsX5_nets (wsV RX5 115 RX5 yX5_free wsX5_free) := goodIn_app (goodIn_of _ (by decide +kernel)) ggX5_nets_X5_free
set_option maxRecDepth 20000 in
theorem ggX5_nets_X5_least : GoodIn wsX5_nets wsX5_least := goodIn_r _ [29] (by decide +kernel) (by decide +kernel)
set_option maxRecDepth 20000 in
theorem gX5_nets_X5_least : GoodIn wsX5_nets (va_wsS RX5 85 yX5_least wsX5_least) := goodIn_app (goodIn_of _ (by decide +kernel)) ggX5_nets_X5_least
set_option maxRecDepth 20000 in
theorem ggX5_nets_X5_at : GoodIn wsX5_nets wsX5_at := goodIn_r _ [22] (by decide +kernel) (by decide +kernel)
set_option maxRecDepth 20000 in
theorem gX5_nets_X5_at : GoodIn wsX5_nets (va_wsS RX5 64 yX5_at wsX5_at) := goodIn_app (goodIn_of _ (by decide +kernel)) ggX5_nets_X5_at
theorem dX5_nets_0 : decode cX5_nets 0 = .ok (.iconst 2, 1) := by decide +kernel
theorem dX5_nets_1 : decode cX5_nets 1 = .ok (.istore_n 1, 1) := by decide +kernel
theorem dX5_nets_2 : decode cX5_nets 2 = .ok (.iload_n 1, 1) := by decide +kernel
theorem dX5_nets_3 : decode cX5_nets 3 = .ok (.iconst 5, 1) := by decide +kernel
theorem dX5_nets_4 : decode cX5_nets 4 = .ok (.if_icmp .gt 199, 3) := by decide +kernel
theorem dX5_nets_7 : decode cX5_nets 7 = .ok (.aload_n 0, 1) := by decide +kernel
theorem dX5_nets_8 : decode cX5_nets 8 = .ok (.iload_n 1, 1) := by decide +kernel
theorem dX5_nets_9 : decode cX5_nets 9 = .ok (.invokevirtual 124, 3) := by decide +kernel
theorem dX5_nets_12 : decode cX5_nets 12 = .ok (.ifCond .eq 185, 3) := by decide +kernel
theorem dX5_nets_15 : decode cX5_nets 15 = .ok (.aload_n 0, 1) := by decide +kernel
theorem dX5_nets_16 : decode cX5_nets 16 = .ok (.aload_n 0, 1) := by decide +kernel
theorem dX5_nets_17 : decode cX5_nets 17 = .ok (.getfield 51, 3) := by decide +kernel
theorem dX5_nets_20 : decode cX5_nets 20 = .ok (.iload_n 1, 1) := by decide +kernel
theorem dX5_nets_21 : decode cX5_nets 21 = .ok (.iconst 1, 1) := by decide +kernel
theorem dX5_nets_22 : decode cX5_nets 22 = .ok (.isub, 1) := by decide +kernel
theorem dX5_nets_23 : decode cX5_nets 23 = .ok (.iaload, 1) := by decide +kernel
theorem dX5_nets_24 : decode cX5_nets 24 = .ok (.aload_n 0, 1) := by decide +kernel
theorem dX5_nets_25 : decode cX5_nets 25 = .ok (.getfield 51, 3) := by decide +kernel
theorem dX5_nets_28 : decode cX5_nets 28 = .ok (.iconst 0, 1) := by decide +kernel
theorem dX5_nets_29 : decode cX5_nets 29 = .ok (.iaload, 1) := by decide +kernel
theorem dX5_nets_30 : decode cX5_nets 30 = .ok (.invokevirtual 115, 3) := by decide +kernel
theorem dX5_nets_33 : decode cX5_nets 33 = .ok (.istore_n 2, 1) := by decide +kernel
theorem dX5_nets_34 : decode cX5_nets 34 = .ok (.iconst 0, 1) := by decide +kernel
theorem dX5_nets_35 : decode cX5_nets 35 = .ok (.istore_n 3, 1) := by decide +kernel
theorem dX5_nets_36 : decode cX5_nets 36 = .ok (.iload_n 3, 1) := by decide +kernel
theorem dX5_nets_37 : decode cX5_nets 37 = .ok (.iload_n 1, 1) := by decide +kernel
theorem dX5_nets_38 : decode cX5_nets 38 = .ok (.iconst 1, 1) := by decide +kernel
theorem dX5_nets_39 : decode cX5_nets 39 = .ok (.isub, 1) := by decide +kernel
theorem dX5_nets_40 : decode cX5_nets 40 = .ok (.if_icmp .ge 32, 3) := by decide +kernel
theorem dX5_nets_43 : decode cX5_nets 43 = .ok (.iload_n 2, 1) := by decide +kernel
theorem dX5_nets_44 : decode cX5_nets 44 = .ok (.aload_n 0, 1) := by decide +kernel
theorem dX5_nets_45 : decode cX5_nets 45 = .ok (.aload_n 0, 1) := by decide +kernel
theorem dX5_nets_46 : decode cX5_nets 46 = .ok (.getfield 51, 3) := by decide +kernel
theorem dX5_nets_49 : decode cX5_nets 49 = .ok (.iload_n 3, 1) := by decide +kernel
theorem dX5_nets_50 : decode cX5_nets 50 = .ok (.iaload, 1) := by decide +kernel
theorem dX5_nets_51 : decode cX5_nets 51 = .ok (.aload_n 0, 1) := by decide +kernel
theorem dX5_nets_52 : decode cX5_nets 52 = .ok (.getfield 51, 3) := by decide +kernel
theorem dX5_nets_55 : decode cX5_nets 55 = .ok (.iload_n 3, 1) := by decide +kernel
theorem dX5_nets_56 : decode cX5_nets 56 = .ok (.iconst 1, 1) := by decide +kernel
theorem dX5_nets_57 : decode cX5_nets 57 = .ok (.iadd, 1) := by decide +kernel
theorem dX5_nets_58 : decode cX5_nets 58 = .ok (.iaload, 1) := by decide +kernel
theorem dX5_nets_59 : decode cX5_nets 59 = .ok (.invokevirtual 115, 3) := by decide +kernel
theorem dX5_nets_62 : decode cX5_nets 62 = .ok (.invokestatic 85, 3) := by decide +kernel
theorem dX5_nets_65 : decode cX5_nets 65 = .ok (.istore_n 2, 1) := by decide +kernel
theorem dX5_nets_66 : decode cX5_nets 66 = .ok (.iinc 3 1, 3) := by decide +kernel
theorem dX5_nets_69 : decode cX5_nets 69 = .ok (.goto (-33), 3) := by decide +kernel
theorem dX5_nets_72 : decode cX5_nets 72 = .ok (.aload_n 0, 1) := by decide +kernel
theorem dX5_nets_73 : decode cX5_nets 73 = .ok (.getfield 48, 3) := by decide +kernel
theorem dX5_nets_76 : decode cX5_nets 76 = .ok (.bipush 7, 2) := by decide +kernel
theorem dX5_nets_78 : decode cX5_nets 78 = .ok (.aload_n 0, 1) := by decide +kernel
theorem dX5_nets_79 : decode cX5_nets 79 = .ok (.getfield 127, 3) := by decide +kernel
theorem dX5_nets_82 : decode cX5_nets 82 = .ok (.imul, 1) := by decide +kernel
theorem dX5_nets_83 : decode cX5_nets 83 = .ok (.iload_n 1, 1) := by decide +kernel
theorem dX5_nets_84 : decode cX5_nets 84 = .ok (.iastore, 1) := by decide +kernel
theorem dX5_nets_85 : decode cX5_nets 85 = .ok (.aload_n 0, 1) := by decide +kernel
theorem dX5_nets_86 : decode cX5_nets 86 = .ok (.getfield 48, 3) := by decide +kernel
theorem dX5_nets_89 : decode cX5_nets 89 = .ok (.bipush 7, 2) := by decide +kernel
theorem dX5_nets_91 : decode cX5_nets 91 = .ok (.aload_n 0, 1) := by decide +kernel
theorem dX5_nets_92 : decode cX5_nets 92 = .ok (.getfield 127, 3) := by decide +kernel
theorem dX5_nets_95 : decode cX5_nets 95 = .ok (.imul, 1) := by decide +kernel
theorem dX5_nets_96 : decode cX5_nets 96 = .ok (.iconst 1, 1) := by decide +kernel
theorem dX5_nets_97 : decode cX5_nets 97 = .ok (.iadd, 1) := by decide +kernel
theorem dX5_nets_98 : decode cX5_nets 98 = .ok (.iload_n 2, 1) := by decide +kernel
theorem dX5_nets_99 : decode cX5_nets 99 = .ok (.iastore, 1) := by decide +kernel
theorem dX5_nets_100 : decode cX5_nets 100 = .ok (.iconst 0, 1) := by decide +kernel
theorem dX5_nets_101 : decode cX5_nets 101 = .ok (.istore_n 3, 1) := by decide +kernel
theorem dX5_nets_102 : decode cX5_nets 102 = .ok (.iload_n 3, 1) := by decide +kernel
theorem dX5_nets_103 : decode cX5_nets 103 = .ok (.iconst 5, 1) := by decide +kernel
theorem dX5_nets_104 : decode cX5_nets 104 = .ok (.if_icmp .ge 40, 3) := by decide +kernel
theorem dX5_nets_107 : decode cX5_nets 107 = .ok (.aload_n 0, 1) := by decide +kernel
theorem dX5_nets_108 : decode cX5_nets 108 = .ok (.getfield 48, 3) := by decide +kernel
theorem dX5_nets_111 : decode cX5_nets 111 = .ok (.bipush 7, 2) := by decide +kernel
theorem dX5_nets_113 : decode cX5_nets 113 = .ok (.aload_n 0, 1) := by decide +kernel
theorem dX5_nets_114 : decode cX5_nets 114 = .ok (.getfield 127, 3) := by decide +kernel
theorem dX5_nets_117 : decode cX5_nets 117 = .ok (.imul, 1) := by decide +kernel
theorem dX5_nets_118 : decode cX5_nets 118 = .ok (.iconst 2, 1) := by decide +kernel
theorem dX5_nets_119 : decode cX5_nets 119 = .ok (.iadd, 1) := by decide +kernel
theorem dX5_nets_120 : decode cX5_nets 120 = .ok (.iload_n 3, 1) := by decide +kernel
theorem dX5_nets_121 : decode cX5_nets 121 = .ok (.iadd, 1) := by decide +kernel
theorem dX5_nets_122 : decode cX5_nets 122 = .ok (.iload_n 3, 1) := by decide +kernel
theorem dX5_nets_123 : decode cX5_nets 123 = .ok (.iload_n 1, 1) := by decide +kernel
theorem dX5_nets_124 : decode cX5_nets 124 = .ok (.if_icmp .ge 12, 3) := by decide +kernel
theorem dX5_nets_127 : decode cX5_nets 127 = .ok (.aload_n 0, 1) := by decide +kernel
theorem dX5_nets_128 : decode cX5_nets 128 = .ok (.getfield 51, 3) := by decide +kernel
theorem dX5_nets_131 : decode cX5_nets 131 = .ok (.iload_n 3, 1) := by decide +kernel
theorem dX5_nets_132 : decode cX5_nets 132 = .ok (.iaload, 1) := by decide +kernel
theorem dX5_nets_133 : decode cX5_nets 133 = .ok (.goto 4, 3) := by decide +kernel
theorem dX5_nets_136 : decode cX5_nets 136 = .ok (.iconst (-1), 1) := by decide +kernel
theorem dX5_nets_137 : decode cX5_nets 137 = .ok (.iastore, 1) := by decide +kernel
theorem dX5_nets_138 : decode cX5_nets 138 = .ok (.iinc 3 1, 3) := by decide +kernel
theorem dX5_nets_141 : decode cX5_nets 141 = .ok (.goto (-39), 3) := by decide +kernel
theorem dX5_nets_144 : decode cX5_nets 144 = .ok (.iconst 0, 1) := by decide +kernel
theorem dX5_nets_145 : decode cX5_nets 145 = .ok (.istore_n 3, 1) := by decide +kernel
theorem dX5_nets_146 : decode cX5_nets 146 = .ok (.iload_n 3, 1) := by decide +kernel
theorem dX5_nets_147 : decode cX5_nets 147 = .ok (.iload_n 1, 1) := by decide +kernel
theorem dX5_nets_148 : decode cX5_nets 148 = .ok (.if_icmp .ge 37, 3) := by decide +kernel
theorem dX5_nets_151 : decode cX5_nets 151 = .ok (.aload_n 0, 1) := by decide +kernel
theorem dX5_nets_152 : decode cX5_nets 152 = .ok (.getfield 13, 3) := by decide +kernel
theorem dX5_nets_155 : decode cX5_nets 155 = .ok (.aload_n 0, 1) := by decide +kernel
theorem dX5_nets_156 : decode cX5_nets 156 = .ok (.getfield 51, 3) := by decide +kernel
theorem dX5_nets_159 : decode cX5_nets 159 = .ok (.iload_n 3, 1) := by decide +kernel
theorem dX5_nets_160 : decode cX5_nets 160 = .ok (.iaload, 1) := by decide +kernel
theorem dX5_nets_161 : decode cX5_nets 161 = .ok (.aload_n 0, 1) := by decide +kernel
theorem dX5_nets_162 : decode cX5_nets 162 = .ok (.getfield 51, 3) := by decide +kernel
theorem dX5_nets_165 : decode cX5_nets 165 = .ok (.iload_n 3, 1) := by decide +kernel
theorem dX5_nets_166 : decode cX5_nets 166 = .ok (.iconst 1, 1) := by decide +kernel
theorem dX5_nets_167 : decode cX5_nets 167 = .ok (.iadd, 1) := by decide +kernel
theorem dX5_nets_168 : decode cX5_nets 168 = .ok (.iload_n 1, 1) := by decide +kernel
theorem dX5_nets_169 : decode cX5_nets 169 = .ok (.irem, 1) := by decide +kernel
theorem dX5_nets_170 : decode cX5_nets 170 = .ok (.iaload, 1) := by decide +kernel
theorem dX5_nets_171 : decode cX5_nets 171 = .ok (.invokestatic 64, 3) := by decide +kernel
theorem dX5_nets_174 : decode cX5_nets 174 = .ok (.dup2, 1) := by decide +kernel
theorem dX5_nets_175 : decode cX5_nets 175 = .ok (.iaload, 1) := by decide +kernel
theorem dX5_nets_176 : decode cX5_nets 176 = .ok (.iload_n 2, 1) := by decide +kernel
theorem dX5_nets_177 : decode cX5_nets 177 = .ok (.isub, 1) := by decide +kernel
theorem dX5_nets_178 : decode cX5_nets 178 = .ok (.iastore, 1) := by decide +kernel
theorem dX5_nets_179 : decode cX5_nets 179 = .ok (.iinc 3 1, 3) := by decide +kernel
theorem dX5_nets_182 : decode cX5_nets 182 = .ok (.goto (-36), 3) := by decide +kernel
theorem dX5_nets_185 : decode cX5_nets 185 = .ok (.aload_n 0, 1) := by decide +kernel
theorem dX5_nets_186 : decode cX5_nets 186 = .ok (.dup, 1) := by decide +kernel
theorem dX5_nets_187 : decode cX5_nets 187 = .ok (.getfield 127, 3) := by decide +kernel
theorem dX5_nets_190 : decode cX5_nets 190 = .ok (.iconst 1, 1) := by decide +kernel
theorem dX5_nets_191 : decode cX5_nets 191 = .ok (.iadd, 1) := by decide +kernel
theorem dX5_nets_192 : decode cX5_nets 192 = .ok (.putfield 127, 3) := by decide +kernel
theorem dX5_nets_195 : decode cX5_nets 195 = .ok (.iconst 1, 1) := by decide +kernel
theorem dX5_nets_196 : decode cX5_nets 196 = .ok (.ireturn, 1) := by decide +kernel
theorem dX5_nets_197 : decode cX5_nets 197 = .ok (.iinc 1 1, 3) := by decide +kernel
theorem dX5_nets_200 : decode cX5_nets 200 = .ok (.goto (-198), 3) := by decide +kernel
theorem dX5_nets_203 : decode cX5_nets 203 = .ok (.iconst 0, 1) := by decide +kernel
theorem dX5_nets_204 : decode cX5_nets 204 = .ok (.ireturn, 1) := by decide +kernel
set_option maxRecDepth 20000 in
theorem ggX5_isLazy_X5_balanceOf : GoodIn wsX5_isLazy wsX5_balanceOf := goodIn_r _ [8, 9, 10, 11, 7, 12, 19, 20, 21, 22, 23, 24, 25, 26, 27, 28, 29, 30, 31, 32, 33, 34, 35, 36, 37] (by decide +kernel) (by decide +kernel)
set_option maxRecDepth 20000 in
theorem gX5_isLazy_X5_balanceOf : GoodIn wsX5_isLazy (wsV RX5 103 RX5 yX5_balanceOf wsX5_balanceOf) := goodIn_app (goodIn_of _ (by decide +kernel)) ggX5_isLazy_X5_balanceOf
set_option maxRecDepth 20000 in
theorem ggX5_isLazy_X5_isOf : GoodIn wsX5_isLazy wsX5_isOf := goodIn_r _ [16, 17, 18, 19, 20, 21, 22, 23, 24, 25, 26, 27, 28, 29, 30, 31, 32, 33, 34, 35, 36, 37] (by decide +kernel) (by decide +kernel)
set_option maxRecDepth 20000 in
theorem gX5_isLazy_X5_isOf : GoodIn wsX5_isLazy (wsV RX5 71 RX5 yX5_isOf wsX5_isOf) := goodIn_app (goodIn_of _ (by decide +kernel)) ggX5_isLazy_X5_isOf
theorem dX5_isLazy_0 : decode cX5_isLazy 0 = .ok (.aload_n 0, 1) := by decide +kernel
theorem dX5_isLazy_1 : decode cX5_isLazy 1 = .ok (.iload_n 1, 1) := by decide +kernel
theorem dX5_isLazy_2 : decode cX5_isLazy 2 = .ok (.invokevirtual 103, 3) := by decide +kernel
theorem dX5_isLazy_5 : decode cX5_isLazy 5 = .ok (.ifCond .le 7, 3) := by decide +kernel
theorem dX5_isLazy_8 : decode cX5_isLazy 8 = .ok (.iconst 1, 1) := by decide +kernel
theorem dX5_isLazy_9 : decode cX5_isLazy 9 = .ok (.goto 4, 3) := by decide +kernel
theorem dX5_isLazy_12 : decode cX5_isLazy 12 = .ok (.iconst 0, 1) := by decide +kernel
theorem dX5_isLazy_13 : decode cX5_isLazy 13 = .ok (.istore_n 2, 1) := by decide +kernel
theorem dX5_isLazy_14 : decode cX5_isLazy 14 = .ok (.iconst 0, 1) := by decide +kernel
theorem dX5_isLazy_15 : decode cX5_isLazy 15 = .ok (.istore_n 3, 1) := by decide +kernel
theorem dX5_isLazy_16 : decode cX5_isLazy 16 = .ok (.iload_n 3, 1) := by decide +kernel
theorem dX5_isLazy_17 : decode cX5_isLazy 17 = .ok (.aload_n 0, 1) := by decide +kernel
theorem dX5_isLazy_18 : decode cX5_isLazy 18 = .ok (.getfield 68, 3) := by decide +kernel
theorem dX5_isLazy_21 : decode cX5_isLazy 21 = .ok (.if_icmp .ge 43, 3) := by decide +kernel
theorem dX5_isLazy_24 : decode cX5_isLazy 24 = .ok (.iload_n 2, 1) := by decide +kernel
theorem dX5_isLazy_25 : decode cX5_isLazy 25 = .ok (.ifCond .eq 31, 3) := by decide +kernel
theorem dX5_isLazy_28 : decode cX5_isLazy 28 = .ok (.aload_n 0, 1) := by decide +kernel
theorem dX5_isLazy_29 : decode cX5_isLazy 29 = .ok (.iload_n 3, 1) := by decide +kernel
theorem dX5_isLazy_30 : decode cX5_isLazy 30 = .ok (.iload_n 1, 1) := by decide +kernel
theorem dX5_isLazy_31 : decode cX5_isLazy 31 = .ok (.invokevirtual 71, 3) := by decide +kernel
theorem dX5_isLazy_34 : decode cX5_isLazy 34 = .ok (.ifCond .eq 18, 3) := by decide +kernel
theorem dX5_isLazy_37 : decode cX5_isLazy 37 = .ok (.aload_n 0, 1) := by decide +kernel
theorem dX5_isLazy_38 : decode cX5_isLazy 38 = .ok (.getfield 35, 3) := by decide +kernel
theorem dX5_isLazy_41 : decode cX5_isLazy 41 = .ok (.iload_n 3, 1) := by decide +kernel
theorem dX5_isLazy_42 : decode cX5_isLazy 42 = .ok (.iaload, 1) := by decide +kernel
theorem dX5_isLazy_43 : decode cX5_isLazy 43 = .ok (.aload_n 0, 1) := by decide +kernel
theorem dX5_isLazy_44 : decode cX5_isLazy 44 = .ok (.getfield 75, 3) := by decide +kernel
theorem dX5_isLazy_47 : decode cX5_isLazy 47 = .ok (.iconst 4, 1) := by decide +kernel
theorem dX5_isLazy_48 : decode cX5_isLazy 48 = .ok (.isub, 1) := by decide +kernel
theorem dX5_isLazy_49 : decode cX5_isLazy 49 = .ok (.if_icmp .ge 7, 3) := by decide +kernel
theorem dX5_isLazy_52 : decode cX5_isLazy 52 = .ok (.iconst 1, 1) := by decide +kernel
theorem dX5_isLazy_53 : decode cX5_isLazy 53 = .ok (.goto 4, 3) := by decide +kernel
theorem dX5_isLazy_56 : decode cX5_isLazy 56 = .ok (.iconst 0, 1) := by decide +kernel
theorem dX5_isLazy_57 : decode cX5_isLazy 57 = .ok (.istore_n 2, 1) := by decide +kernel
theorem dX5_isLazy_58 : decode cX5_isLazy 58 = .ok (.iinc 3 1, 3) := by decide +kernel
theorem dX5_isLazy_61 : decode cX5_isLazy 61 = .ok (.goto (-45), 3) := by decide +kernel
theorem dX5_isLazy_64 : decode cX5_isLazy 64 = .ok (.iload_n 2, 1) := by decide +kernel
theorem dX5_isLazy_65 : decode cX5_isLazy 65 = .ok (.ireturn, 1) := by decide +kernel
set_option maxRecDepth 20000 in
theorem ggX5_pays_X5_balanceOf : GoodIn wsX5_pays wsX5_balanceOf := goodIn_r _ [8, 3, 9, 10, 7, 11, 20, 21, 22, 23, 24, 25, 26, 27, 28, 29, 30, 31, 32, 33, 34, 35, 36, 37, 38] (by decide +kernel) (by decide +kernel)
set_option maxRecDepth 20000 in
theorem gX5_pays_X5_balanceOf : GoodIn wsX5_pays (wsV RX5 103 RX5 yX5_balanceOf wsX5_balanceOf) := goodIn_app (goodIn_of _ (by decide +kernel)) ggX5_pays_X5_balanceOf
set_option maxRecDepth 20000 in
theorem ggX5_pays_X5_free : GoodIn wsX5_pays wsX5_free := goodIn_r _ [15, 3, 16, 9, 10, 7, 11, 20, 21, 22, 23, 24, 25, 26, 27, 28, 29, 30, 31, 32, 33, 34, 35, 36, 37, 38] (by decide +kernel) (by decide +kernel)
set_option maxRecDepth 20000 in
theorem gX5_pays_X5_free : GoodIn wsX5_pays (wsV RX5 115 RX5 yX5_free wsX5_free) := goodIn_app (goodIn_of _ (by decide +kernel)) ggX5_pays_X5_free
set_option maxRecDepth 20000 in
theorem ggX5_pays_X5_least : GoodIn wsX5_pays wsX5_least := goodIn_r _ [19] (by decide +kernel) (by decide +kernel)
set_option maxRecDepth 20000 in
theorem gX5_pays_X5_least : GoodIn wsX5_pays (va_wsS RX5 85 yX5_least wsX5_least) := goodIn_app (goodIn_of _ (by decide +kernel)) ggX5_pays_X5_least
set_option maxRecDepth 20000 in
theorem ggX5_pays_X5_at : GoodIn wsX5_pays wsX5_at := goodIn_r _ [11] (by decide +kernel) (by decide +kernel)
set_option maxRecDepth 20000 in
theorem gX5_pays_X5_at : GoodIn wsX5_pays (va_wsS RX5 64 yX5_at wsX5_at) := goodIn_app (goodIn_of _ (by decide +kernel)) ggX5_pays_X5_at
theorem dX5_pays_0 : decode cX5_pays 0 = .ok (.aload_n 0, 1) := by decide +kernel
theorem dX5_pays_1 : decode cX5_pays 1 = .ok (.iload_n 1, 1) := by decide +kernel
theorem dX5_pays_2 : decode cX5_pays 2 = .ok (.invokevirtual 103, 3) := by decide +kernel
theorem dX5_pays_5 : decode cX5_pays 5 = .ok (.i2l, 1) := by decide +kernel
theorem dX5_pays_6 : decode cX5_pays 6 = .ok (.aload_n 0, 1) := by decide +kernel
theorem dX5_pays_7 : decode cX5_pays 7 = .ok (.getfield 44, 3) := by decide +kernel
theorem dX5_pays_10 : decode cX5_pays 10 = .ok (.i2l, 1) := by decide +kernel
theorem dX5_pays_11 : decode cX5_pays 11 = .ok (.lmul, 1) := by decide +kernel
theorem dX5_pays_12 : decode cX5_pays 12 = .ok (.ldc2_w 130, 3) := by decide +kernel
theorem dX5_pays_15 : decode cX5_pays 15 = .ok (.ldiv, 1) := by decide +kernel
theorem dX5_pays_16 : decode cX5_pays 16 = .ok (.l2i, 1) := by decide +kernel
theorem dX5_pays_17 : decode cX5_pays 17 = .ok (.istore_n 2, 1) := by decide +kernel
theorem dX5_pays_18 : decode cX5_pays 18 = .ok (.iload_n 2, 1) := by decide +kernel
theorem dX5_pays_19 : decode cX5_pays 19 = .ok (.ifCond .le 116, 3) := by decide +kernel
theorem dX5_pays_22 : decode cX5_pays 22 = .ok (.iconst (-1), 1) := by decide +kernel
theorem dX5_pays_23 : decode cX5_pays 23 = .ok (.istore_n 3, 1) := by decide +kernel
theorem dX5_pays_24 : decode cX5_pays 24 = .ok (.iconst 0, 1) := by decide +kernel
theorem dX5_pays_25 : decode cX5_pays 25 = .ok (.istore 4, 2) := by decide +kernel
theorem dX5_pays_27 : decode cX5_pays 27 = .ok (.iload 4, 2) := by decide +kernel
theorem dX5_pays_29 : decode cX5_pays 29 = .ok (.bipush 8, 2) := by decide +kernel
