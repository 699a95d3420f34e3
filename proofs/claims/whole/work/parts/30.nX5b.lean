theorem dX5_trade_50 : decode cX5_trade 50 = .ok (.aload_n 0, 1) := by decide +kernel
theorem dX5_trade_51 : decode cX5_trade 51 = .ok (.iload_n 1, 1) := by decide +kernel
theorem dX5_trade_52 : decode cX5_trade 52 = .ok (.invokevirtual 103, 3) := by decide +kernel
theorem dX5_trade_55 : decode cX5_trade 55 = .ok (.iload_n 3, 1) := by decide +kernel
theorem dX5_trade_56 : decode cX5_trade 56 = .ok (.isub, 1) := by decide +kernel
theorem dX5_trade_57 : decode cX5_trade 57 = .ok (.aload_n 0, 1) := by decide +kernel
theorem dX5_trade_58 : decode cX5_trade 58 = .ok (.iload_n 1, 1) := by decide +kernel
theorem dX5_trade_59 : decode cX5_trade 59 = .ok (.invokevirtual 106, 3) := by decide +kernel
theorem dX5_trade_62 : decode cX5_trade 62 = .ok (.invokestatic 109, 3) := by decide +kernel
theorem dX5_trade_65 : decode cX5_trade 65 = .ok (.ifCond .eq 7, 3) := by decide +kernel
theorem dX5_trade_68 : decode cX5_trade 68 = .ok (.iconst 3, 1) := by decide +kernel
theorem dX5_trade_69 : decode cX5_trade 69 = .ok (.goto 4, 3) := by decide +kernel
theorem dX5_trade_72 : decode cX5_trade 72 = .ok (.iconst 0, 1) := by decide +kernel
theorem dX5_trade_73 : decode cX5_trade 73 = .ok (.putfield 54, 3) := by decide +kernel
theorem dX5_trade_76 : decode cX5_trade 76 = .ok (.aload_n 0, 1) := by decide +kernel
theorem dX5_trade_77 : decode cX5_trade 77 = .ok (.getfield 54, 3) := by decide +kernel
theorem dX5_trade_80 : decode cX5_trade 80 = .ok (.ifCond .le 5, 3) := by decide +kernel
theorem dX5_trade_83 : decode cX5_trade 83 = .ok (.iconst 0, 1) := by decide +kernel
theorem dX5_trade_84 : decode cX5_trade 84 = .ok (.ireturn, 1) := by decide +kernel
theorem dX5_trade_85 : decode cX5_trade 85 = .ok (.aload_n 0, 1) := by decide +kernel
theorem dX5_trade_86 : decode cX5_trade 86 = .ok (.getfield 26, 3) := by decide +kernel
theorem dX5_trade_89 : decode cX5_trade 89 = .ok (.aload_n 0, 1) := by decide +kernel
theorem dX5_trade_90 : decode cX5_trade 90 = .ok (.getfield 68, 3) := by decide +kernel
theorem dX5_trade_93 : decode cX5_trade 93 = .ok (.iload_n 1, 1) := by decide +kernel
theorem dX5_trade_94 : decode cX5_trade 94 = .ok (.iastore, 1) := by decide +kernel
theorem dX5_trade_95 : decode cX5_trade 95 = .ok (.aload_n 0, 1) := by decide +kernel
theorem dX5_trade_96 : decode cX5_trade 96 = .ok (.getfield 29, 3) := by decide +kernel
theorem dX5_trade_99 : decode cX5_trade 99 = .ok (.aload_n 0, 1) := by decide +kernel
theorem dX5_trade_100 : decode cX5_trade 100 = .ok (.getfield 68, 3) := by decide +kernel
theorem dX5_trade_103 : decode cX5_trade 103 = .ok (.iload_n 2, 1) := by decide +kernel
theorem dX5_trade_104 : decode cX5_trade 104 = .ok (.iastore, 1) := by decide +kernel
theorem dX5_trade_105 : decode cX5_trade 105 = .ok (.aload_n 0, 1) := by decide +kernel
theorem dX5_trade_106 : decode cX5_trade 106 = .ok (.getfield 32, 3) := by decide +kernel
theorem dX5_trade_109 : decode cX5_trade 109 = .ok (.aload_n 0, 1) := by decide +kernel
theorem dX5_trade_110 : decode cX5_trade 110 = .ok (.getfield 68, 3) := by decide +kernel
theorem dX5_trade_113 : decode cX5_trade 113 = .ok (.iload_n 3, 1) := by decide +kernel
theorem dX5_trade_114 : decode cX5_trade 114 = .ok (.iastore, 1) := by decide +kernel
theorem dX5_trade_115 : decode cX5_trade 115 = .ok (.aload_n 0, 1) := by decide +kernel
theorem dX5_trade_116 : decode cX5_trade 116 = .ok (.getfield 35, 3) := by decide +kernel
theorem dX5_trade_119 : decode cX5_trade 119 = .ok (.aload_n 0, 1) := by decide +kernel
theorem dX5_trade_120 : decode cX5_trade 120 = .ok (.getfield 68, 3) := by decide +kernel
theorem dX5_trade_123 : decode cX5_trade 123 = .ok (.aload_n 0, 1) := by decide +kernel
theorem dX5_trade_124 : decode cX5_trade 124 = .ok (.getfield 75, 3) := by decide +kernel
theorem dX5_trade_127 : decode cX5_trade 127 = .ok (.iastore, 1) := by decide +kernel
theorem dX5_trade_128 : decode cX5_trade 128 = .ok (.aload_n 0, 1) := by decide +kernel
theorem dX5_trade_129 : decode cX5_trade 129 = .ok (.getfield 38, 3) := by decide +kernel
theorem dX5_trade_132 : decode cX5_trade 132 = .ok (.aload_n 0, 1) := by decide +kernel
theorem dX5_trade_133 : decode cX5_trade 133 = .ok (.getfield 68, 3) := by decide +kernel
theorem dX5_trade_136 : decode cX5_trade 136 = .ok (.iconst 0, 1) := by decide +kernel
theorem dX5_trade_137 : decode cX5_trade 137 = .ok (.iastore, 1) := by decide +kernel
theorem dX5_trade_138 : decode cX5_trade 138 = .ok (.aload_n 0, 1) := by decide +kernel
theorem dX5_trade_139 : decode cX5_trade 139 = .ok (.getfield 13, 3) := by decide +kernel
theorem dX5_trade_142 : decode cX5_trade 142 = .ok (.iload_n 1, 1) := by decide +kernel
theorem dX5_trade_143 : decode cX5_trade 143 = .ok (.iload_n 2, 1) := by decide +kernel
theorem dX5_trade_144 : decode cX5_trade 144 = .ok (.invokestatic 64, 3) := by decide +kernel
theorem dX5_trade_147 : decode cX5_trade 147 = .ok (.dup2, 1) := by decide +kernel
theorem dX5_trade_148 : decode cX5_trade 148 = .ok (.iaload, 1) := by decide +kernel
theorem dX5_trade_149 : decode cX5_trade 149 = .ok (.iload_n 3, 1) := by decide +kernel
theorem dX5_trade_150 : decode cX5_trade 150 = .ok (.iadd, 1) := by decide +kernel
theorem dX5_trade_151 : decode cX5_trade 151 = .ok (.iastore, 1) := by decide +kernel
theorem dX5_trade_152 : decode cX5_trade 152 = .ok (.aload_n 0, 1) := by decide +kernel
theorem dX5_trade_153 : decode cX5_trade 153 = .ok (.dup, 1) := by decide +kernel
theorem dX5_trade_154 : decode cX5_trade 154 = .ok (.getfield 68, 3) := by decide +kernel
theorem dX5_trade_157 : decode cX5_trade 157 = .ok (.iconst 1, 1) := by decide +kernel
theorem dX5_trade_158 : decode cX5_trade 158 = .ok (.iadd, 1) := by decide +kernel
theorem dX5_trade_159 : decode cX5_trade 159 = .ok (.putfield 68, 3) := by decide +kernel
theorem dX5_trade_162 : decode cX5_trade 162 = .ok (.aload_n 0, 1) := by decide +kernel
theorem dX5_trade_163 : decode cX5_trade 163 = .ok (.getfield 68, 3) := by decide +kernel
theorem dX5_trade_166 : decode cX5_trade 166 = .ok (.iconst 1, 1) := by decide +kernel
theorem dX5_trade_167 : decode cX5_trade 167 = .ok (.isub, 1) := by decide +kernel
theorem dX5_trade_168 : decode cX5_trade 168 = .ok (.ireturn, 1) := by decide +kernel
set_option maxRecDepth 20000 in
theorem ggX5_isTrade_X5_in : GoodIn wsX5_isTrade wsX5_in := goodIn_r _ [5] (by decide +kernel) (by decide +kernel)
set_option maxRecDepth 20000 in
theorem gX5_isTrade_X5_in : GoodIn wsX5_isTrade (va_wsS RX5 60 yX5_in wsX5_in) := goodIn_app (goodIn_of _ (by decide +kernel)) ggX5_isTrade_X5_in
theorem dX5_isTrade_0 : decode cX5_isTrade 0 = .ok (.iload_n 1, 1) := by decide +kernel
theorem dX5_isTrade_1 : decode cX5_isTrade 1 = .ok (.iconst 0, 1) := by decide +kernel
theorem dX5_isTrade_2 : decode cX5_isTrade 2 = .ok (.aload_n 0, 1) := by decide +kernel
theorem dX5_isTrade_3 : decode cX5_isTrade 3 = .ok (.getfield 68, 3) := by decide +kernel
theorem dX5_isTrade_6 : decode cX5_isTrade 6 = .ok (.iconst 1, 1) := by decide +kernel
theorem dX5_isTrade_7 : decode cX5_isTrade 7 = .ok (.isub, 1) := by decide +kernel
theorem dX5_isTrade_8 : decode cX5_isTrade 8 = .ok (.invokestatic 60, 3) := by decide +kernel
theorem dX5_isTrade_11 : decode cX5_isTrade 11 = .ok (.ireturn, 1) := by decide +kernel
set_option maxRecDepth 20000 in
theorem ggX5_dispute_X5_isTrade : GoodIn wsX5_dispute wsX5_isTrade := goodIn_r _ [14, 15, 16, 17, 13, 18, 25, 26, 27, 28, 29, 30, 31, 32, 33, 34, 35, 36, 37, 38, 39, 40, 41, 42, 43] (by decide +kernel) (by decide +kernel)
set_option maxRecDepth 20000 in
theorem gX5_dispute_X5_isTrade : GoodIn wsX5_dispute (wsV RX5 112 RX5 yX5_isTrade wsX5_isTrade) := goodIn_app (goodIn_of _ (by decide +kernel)) ggX5_dispute_X5_isTrade
set_option maxRecDepth 20000 in
theorem ggX5_dispute_X5_at : GoodIn wsX5_dispute wsX5_at := goodIn_r _ [21] (by decide +kernel) (by decide +kernel)
set_option maxRecDepth 20000 in
theorem gX5_dispute_X5_at : GoodIn wsX5_dispute (va_wsS RX5 64 yX5_at wsX5_at) := goodIn_app (goodIn_of _ (by decide +kernel)) ggX5_dispute_X5_at
set_option maxRecDepth 20000 in
theorem ggX5_dispute_X5_least : GoodIn wsX5_dispute wsX5_least := goodIn_r _ [24] (by decide +kernel) (by decide +kernel)
set_option maxRecDepth 20000 in
theorem gX5_dispute_X5_least : GoodIn wsX5_dispute (va_wsS RX5 85 yX5_least wsX5_least) := goodIn_app (goodIn_of _ (by decide +kernel)) ggX5_dispute_X5_least
theorem dX5_dispute_0 : decode cX5_dispute 0 = .ok (.aload_n 0, 1) := by decide +kernel
theorem dX5_dispute_1 : decode cX5_dispute 1 = .ok (.iload_n 1, 1) := by decide +kernel
theorem dX5_dispute_2 : decode cX5_dispute 2 = .ok (.invokevirtual 112, 3) := by decide +kernel
theorem dX5_dispute_5 : decode cX5_dispute 5 = .ok (.ifCond .eq 44, 3) := by decide +kernel
theorem dX5_dispute_8 : decode cX5_dispute 8 = .ok (.aload_n 0, 1) := by decide +kernel
theorem dX5_dispute_9 : decode cX5_dispute 9 = .ok (.getfield 38, 3) := by decide +kernel
theorem dX5_dispute_12 : decode cX5_dispute 12 = .ok (.iload_n 1, 1) := by decide +kernel
theorem dX5_dispute_13 : decode cX5_dispute 13 = .ok (.iaload, 1) := by decide +kernel
theorem dX5_dispute_14 : decode cX5_dispute 14 = .ok (.ifCond .ne 35, 3) := by decide +kernel
theorem dX5_dispute_17 : decode cX5_dispute 17 = .ok (.aload_n 0, 1) := by decide +kernel
theorem dX5_dispute_18 : decode cX5_dispute 18 = .ok (.getfield 7, 3) := by decide +kernel
theorem dX5_dispute_21 : decode cX5_dispute 21 = .ok (.aload_n 0, 1) := by decide +kernel
theorem dX5_dispute_22 : decode cX5_dispute 22 = .ok (.getfield 26, 3) := by decide +kernel
theorem dX5_dispute_25 : decode cX5_dispute 25 = .ok (.iload_n 1, 1) := by decide +kernel
theorem dX5_dispute_26 : decode cX5_dispute 26 = .ok (.iaload, 1) := by decide +kernel
theorem dX5_dispute_27 : decode cX5_dispute 27 = .ok (.baload, 1) := by decide +kernel
theorem dX5_dispute_28 : decode cX5_dispute 28 = .ok (.ifCond .eq 21, 3) := by decide +kernel
theorem dX5_dispute_31 : decode cX5_dispute 31 = .ok (.aload_n 0, 1) := by decide +kernel
theorem dX5_dispute_32 : decode cX5_dispute 32 = .ok (.getfield 7, 3) := by decide +kernel
theorem dX5_dispute_35 : decode cX5_dispute 35 = .ok (.aload_n 0, 1) := by decide +kernel
theorem dX5_dispute_36 : decode cX5_dispute 36 = .ok (.getfield 29, 3) := by decide +kernel
theorem dX5_dispute_39 : decode cX5_dispute 39 = .ok (.iload_n 1, 1) := by decide +kernel
theorem dX5_dispute_40 : decode cX5_dispute 40 = .ok (.iaload, 1) := by decide +kernel
theorem dX5_dispute_41 : decode cX5_dispute 41 = .ok (.baload, 1) := by decide +kernel
theorem dX5_dispute_42 : decode cX5_dispute 42 = .ok (.ifCond .eq 7, 3) := by decide +kernel
theorem dX5_dispute_45 : decode cX5_dispute 45 = .ok (.iconst 1, 1) := by decide +kernel
theorem dX5_dispute_46 : decode cX5_dispute 46 = .ok (.goto 4, 3) := by decide +kernel
theorem dX5_dispute_49 : decode cX5_dispute 49 = .ok (.iconst 0, 1) := by decide +kernel
theorem dX5_dispute_50 : decode cX5_dispute 50 = .ok (.istore_n 2, 1) := by decide +kernel
theorem dX5_dispute_51 : decode cX5_dispute 51 = .ok (.aload_n 0, 1) := by decide +kernel
theorem dX5_dispute_52 : decode cX5_dispute 52 = .ok (.aload_n 0, 1) := by decide +kernel
theorem dX5_dispute_53 : decode cX5_dispute 53 = .ok (.iload_n 1, 1) := by decide +kernel
theorem dX5_dispute_54 : decode cX5_dispute 54 = .ok (.invokevirtual 112, 3) := by decide +kernel
theorem dX5_dispute_57 : decode cX5_dispute 57 = .ok (.ifCond .ne 7, 3) := by decide +kernel
theorem dX5_dispute_60 : decode cX5_dispute 60 = .ok (.iconst 1, 1) := by decide +kernel
theorem dX5_dispute_61 : decode cX5_dispute 61 = .ok (.goto 12, 3) := by decide +kernel
theorem dX5_dispute_64 : decode cX5_dispute 64 = .ok (.iload_n 2, 1) := by decide +kernel
theorem dX5_dispute_65 : decode cX5_dispute 65 = .ok (.ifCond .eq 7, 3) := by decide +kernel
theorem dX5_dispute_68 : decode cX5_dispute 68 = .ok (.iconst 0, 1) := by decide +kernel
theorem dX5_dispute_69 : decode cX5_dispute 69 = .ok (.goto 4, 3) := by decide +kernel
theorem dX5_dispute_72 : decode cX5_dispute 72 = .ok (.iconst 2, 1) := by decide +kernel
theorem dX5_dispute_73 : decode cX5_dispute 73 = .ok (.putfield 54, 3) := by decide +kernel
theorem dX5_dispute_76 : decode cX5_dispute 76 = .ok (.aload_n 0, 1) := by decide +kernel
theorem dX5_dispute_77 : decode cX5_dispute 77 = .ok (.getfield 54, 3) := by decide +kernel
theorem dX5_dispute_80 : decode cX5_dispute 80 = .ok (.ifCond .le 5, 3) := by decide +kernel
theorem dX5_dispute_83 : decode cX5_dispute 83 = .ok (.iconst 0, 1) := by decide +kernel
theorem dX5_dispute_84 : decode cX5_dispute 84 = .ok (.ireturn, 1) := by decide +kernel
theorem dX5_dispute_85 : decode cX5_dispute 85 = .ok (.aload_n 0, 1) := by decide +kernel
theorem dX5_dispute_86 : decode cX5_dispute 86 = .ok (.getfield 26, 3) := by decide +kernel
theorem dX5_dispute_89 : decode cX5_dispute 89 = .ok (.iload_n 1, 1) := by decide +kernel
theorem dX5_dispute_90 : decode cX5_dispute 90 = .ok (.iaload, 1) := by decide +kernel
theorem dX5_dispute_91 : decode cX5_dispute 91 = .ok (.aload_n 0, 1) := by decide +kernel
theorem dX5_dispute_92 : decode cX5_dispute 92 = .ok (.getfield 29, 3) := by decide +kernel
theorem dX5_dispute_95 : decode cX5_dispute 95 = .ok (.iload_n 1, 1) := by decide +kernel
theorem dX5_dispute_96 : decode cX5_dispute 96 = .ok (.iaload, 1) := by decide +kernel
theorem dX5_dispute_97 : decode cX5_dispute 97 = .ok (.invokestatic 64, 3) := by decide +kernel
theorem dX5_dispute_100 : decode cX5_dispute 100 = .ok (.istore_n 3, 1) := by decide +kernel
theorem dX5_dispute_101 : decode cX5_dispute 101 = .ok (.aload_n 0, 1) := by decide +kernel
theorem dX5_dispute_102 : decode cX5_dispute 102 = .ok (.getfield 41, 3) := by decide +kernel
theorem dX5_dispute_105 : decode cX5_dispute 105 = .ok (.iload_n 1, 1) := by decide +kernel
theorem dX5_dispute_106 : decode cX5_dispute 106 = .ok (.aload_n 0, 1) := by decide +kernel
theorem dX5_dispute_107 : decode cX5_dispute 107 = .ok (.getfield 32, 3) := by decide +kernel
theorem dX5_dispute_110 : decode cX5_dispute 110 = .ok (.iload_n 1, 1) := by decide +kernel
theorem dX5_dispute_111 : decode cX5_dispute 111 = .ok (.iaload, 1) := by decide +kernel
theorem dX5_dispute_112 : decode cX5_dispute 112 = .ok (.aload_n 0, 1) := by decide +kernel
theorem dX5_dispute_113 : decode cX5_dispute 113 = .ok (.getfield 13, 3) := by decide +kernel
theorem dX5_dispute_116 : decode cX5_dispute 116 = .ok (.iload_n 3, 1) := by decide +kernel
theorem dX5_dispute_117 : decode cX5_dispute 117 = .ok (.iaload, 1) := by decide +kernel
theorem dX5_dispute_118 : decode cX5_dispute 118 = .ok (.aload_n 0, 1) := by decide +kernel
theorem dX5_dispute_119 : decode cX5_dispute 119 = .ok (.getfield 17, 3) := by decide +kernel
theorem dX5_dispute_122 : decode cX5_dispute 122 = .ok (.iload_n 3, 1) := by decide +kernel
theorem dX5_dispute_123 : decode cX5_dispute 123 = .ok (.iaload, 1) := by decide +kernel
theorem dX5_dispute_124 : decode cX5_dispute 124 = .ok (.isub, 1) := by decide +kernel
theorem dX5_dispute_125 : decode cX5_dispute 125 = .ok (.invokestatic 85, 3) := by decide +kernel
theorem dX5_dispute_128 : decode cX5_dispute 128 = .ok (.iastore, 1) := by decide +kernel
theorem dX5_dispute_129 : decode cX5_dispute 129 = .ok (.aload_n 0, 1) := by decide +kernel
theorem dX5_dispute_130 : decode cX5_dispute 130 = .ok (.getfield 17, 3) := by decide +kernel
theorem dX5_dispute_133 : decode cX5_dispute 133 = .ok (.iload_n 3, 1) := by decide +kernel
theorem dX5_dispute_134 : decode cX5_dispute 134 = .ok (.dup2, 1) := by decide +kernel
theorem dX5_dispute_135 : decode cX5_dispute 135 = .ok (.iaload, 1) := by decide +kernel
theorem dX5_dispute_136 : decode cX5_dispute 136 = .ok (.aload_n 0, 1) := by decide +kernel
theorem dX5_dispute_137 : decode cX5_dispute 137 = .ok (.getfield 41, 3) := by decide +kernel
theorem dX5_dispute_140 : decode cX5_dispute 140 = .ok (.iload_n 1, 1) := by decide +kernel
theorem dX5_dispute_141 : decode cX5_dispute 141 = .ok (.iaload, 1) := by decide +kernel
theorem dX5_dispute_142 : decode cX5_dispute 142 = .ok (.iadd, 1) := by decide +kernel
theorem dX5_dispute_143 : decode cX5_dispute 143 = .ok (.iastore, 1) := by decide +kernel
theorem dX5_dispute_144 : decode cX5_dispute 144 = .ok (.aload_n 0, 1) := by decide +kernel
theorem dX5_dispute_145 : decode cX5_dispute 145 = .ok (.getfield 38, 3) := by decide +kernel
theorem dX5_dispute_148 : decode cX5_dispute 148 = .ok (.iload_n 1, 1) := by decide +kernel
theorem dX5_dispute_149 : decode cX5_dispute 149 = .ok (.iconst 1, 1) := by decide +kernel
theorem dX5_dispute_150 : decode cX5_dispute 150 = .ok (.iastore, 1) := by decide +kernel
theorem dX5_dispute_151 : decode cX5_dispute 151 = .ok (.aload_n 0, 1) := by decide +kernel
theorem dX5_dispute_152 : decode cX5_dispute 152 = .ok (.getfield 41, 3) := by decide +kernel
theorem dX5_dispute_155 : decode cX5_dispute 155 = .ok (.iload_n 1, 1) := by decide +kernel
theorem dX5_dispute_156 : decode cX5_dispute 156 = .ok (.iaload, 1) := by decide +kernel
theorem dX5_dispute_157 : decode cX5_dispute 157 = .ok (.ireturn, 1) := by decide +kernel
set_option maxRecDepth 20000 in
theorem ggX5_settle_X5_isTrade : GoodIn wsX5_settle wsX5_isTrade := goodIn_r _ [13, 14, 15, 16, 12, 17, 21, 22, 23, 24, 25, 26, 27, 28, 29, 30, 31, 32, 33, 34, 35, 36, 37, 38, 39] (by decide +kernel) (by decide +kernel)
set_option maxRecDepth 20000 in
theorem gX5_settle_X5_isTrade : GoodIn wsX5_settle (wsV RX5 112 RX5 yX5_isTrade wsX5_isTrade) := goodIn_app (goodIn_of _ (by decide +kernel)) ggX5_settle_X5_isTrade
set_option maxRecDepth 20000 in
theorem ggX5_settle_X5_at : GoodIn wsX5_settle wsX5_at := goodIn_r _ [20] (by decide +kernel) (by decide +kernel)
set_option maxRecDepth 20000 in
theorem gX5_settle_X5_at : GoodIn wsX5_settle (va_wsS RX5 64 yX5_at wsX5_at) := goodIn_app (goodIn_of _ (by decide +kernel)) ggX5_settle_X5_at
theorem dX5_settle_0 : decode cX5_settle 0 = .ok (.aload_n 0, 1) := by decide +kernel
theorem dX5_settle_1 : decode cX5_settle 1 = .ok (.aload_n 0, 1) := by decide +kernel
theorem dX5_settle_2 : decode cX5_settle 2 = .ok (.iload_n 1, 1) := by decide +kernel
theorem dX5_settle_3 : decode cX5_settle 3 = .ok (.invokevirtual 112, 3) := by decide +kernel
theorem dX5_settle_6 : decode cX5_settle 6 = .ok (.ifCond .ne 7, 3) := by decide +kernel
theorem dX5_settle_9 : decode cX5_settle 9 = .ok (.iconst 1, 1) := by decide +kernel
theorem dX5_settle_10 : decode cX5_settle 10 = .ok (.goto 18, 3) := by decide +kernel
theorem dX5_settle_13 : decode cX5_settle 13 = .ok (.aload_n 0, 1) := by decide +kernel
theorem dX5_settle_14 : decode cX5_settle 14 = .ok (.getfield 38, 3) := by decide +kernel
theorem dX5_settle_17 : decode cX5_settle 17 = .ok (.iload_n 1, 1) := by decide +kernel
theorem dX5_settle_18 : decode cX5_settle 18 = .ok (.iaload, 1) := by decide +kernel
theorem dX5_settle_19 : decode cX5_settle 19 = .ok (.iconst 1, 1) := by decide +kernel
theorem dX5_settle_20 : decode cX5_settle 20 = .ok (.if_icmp .ne 7, 3) := by decide +kernel
theorem dX5_settle_23 : decode cX5_settle 23 = .ok (.iconst 0, 1) := by decide +kernel
theorem dX5_settle_24 : decode cX5_settle 24 = .ok (.goto 4, 3) := by decide +kernel
theorem dX5_settle_27 : decode cX5_settle 27 = .ok (.iconst 2, 1) := by decide +kernel
theorem dX5_settle_28 : decode cX5_settle 28 = .ok (.putfield 54, 3) := by decide +kernel
theorem dX5_settle_31 : decode cX5_settle 31 = .ok (.aload_n 0, 1) := by decide +kernel
theorem dX5_settle_32 : decode cX5_settle 32 = .ok (.getfield 54, 3) := by decide +kernel
theorem dX5_settle_35 : decode cX5_settle 35 = .ok (.ifCond .le 5, 3) := by decide +kernel
theorem dX5_settle_38 : decode cX5_settle 38 = .ok (.iconst 0, 1) := by decide +kernel
theorem dX5_settle_39 : decode cX5_settle 39 = .ok (.ireturn, 1) := by decide +kernel
theorem dX5_settle_40 : decode cX5_settle 40 = .ok (.aload_n 0, 1) := by decide +kernel
theorem dX5_settle_41 : decode cX5_settle 41 = .ok (.getfield 26, 3) := by decide +kernel
theorem dX5_settle_44 : decode cX5_settle 44 = .ok (.iload_n 1, 1) := by decide +kernel
theorem dX5_settle_45 : decode cX5_settle 45 = .ok (.iaload, 1) := by decide +kernel
theorem dX5_settle_46 : decode cX5_settle 46 = .ok (.aload_n 0, 1) := by decide +kernel
theorem dX5_settle_47 : decode cX5_settle 47 = .ok (.getfield 29, 3) := by decide +kernel
theorem dX5_settle_50 : decode cX5_settle 50 = .ok (.iload_n 1, 1) := by decide +kernel
theorem dX5_settle_51 : decode cX5_settle 51 = .ok (.iaload, 1) := by decide +kernel
theorem dX5_settle_52 : decode cX5_settle 52 = .ok (.invokestatic 64, 3) := by decide +kernel
theorem dX5_settle_55 : decode cX5_settle 55 = .ok (.istore_n 3, 1) := by decide +kernel
theorem dX5_settle_56 : decode cX5_settle 56 = .ok (.iload_n 2, 1) := by decide +kernel
theorem dX5_settle_57 : decode cX5_settle 57 = .ok (.ifCond .eq 19, 3) := by decide +kernel
theorem dX5_settle_60 : decode cX5_settle 60 = .ok (.aload_n 0, 1) := by decide +kernel
theorem dX5_settle_61 : decode cX5_settle 61 = .ok (.getfield 32, 3) := by decide +kernel
theorem dX5_settle_64 : decode cX5_settle 64 = .ok (.iload_n 1, 1) := by decide +kernel
theorem dX5_settle_65 : decode cX5_settle 65 = .ok (.iaload, 1) := by decide +kernel
theorem dX5_settle_66 : decode cX5_settle 66 = .ok (.aload_n 0, 1) := by decide +kernel
theorem dX5_settle_67 : decode cX5_settle 67 = .ok (.getfield 41, 3) := by decide +kernel
theorem dX5_settle_70 : decode cX5_settle 70 = .ok (.iload_n 1, 1) := by decide +kernel
theorem dX5_settle_71 : decode cX5_settle 71 = .ok (.iaload, 1) := by decide +kernel
theorem dX5_settle_72 : decode cX5_settle 72 = .ok (.isub, 1) := by decide +kernel
theorem dX5_settle_73 : decode cX5_settle 73 = .ok (.goto 4, 3) := by decide +kernel
theorem dX5_settle_76 : decode cX5_settle 76 = .ok (.iconst 0, 1) := by decide +kernel
theorem dX5_settle_77 : decode cX5_settle 77 = .ok (.istore 4, 2) := by decide +kernel
theorem dX5_settle_79 : decode cX5_settle 79 = .ok (.aload_n 0, 1) := by decide +kernel
theorem dX5_settle_80 : decode cX5_settle 80 = .ok (.getfield 17, 3) := by decide +kernel
theorem dX5_settle_83 : decode cX5_settle 83 = .ok (.iload_n 3, 1) := by decide +kernel
theorem dX5_settle_84 : decode cX5_settle 84 = .ok (.dup2, 1) := by decide +kernel
theorem dX5_settle_85 : decode cX5_settle 85 = .ok (.iaload, 1) := by decide +kernel
theorem dX5_settle_86 : decode cX5_settle 86 = .ok (.aload_n 0, 1) := by decide +kernel
theorem dX5_settle_87 : decode cX5_settle 87 = .ok (.getfield 41, 3) := by decide +kernel
theorem dX5_settle_90 : decode cX5_settle 90 = .ok (.iload_n 1, 1) := by decide +kernel
theorem dX5_settle_91 : decode cX5_settle 91 = .ok (.iaload, 1) := by decide +kernel
theorem dX5_settle_92 : decode cX5_settle 92 = .ok (.isub, 1) := by decide +kernel
theorem dX5_settle_93 : decode cX5_settle 93 = .ok (.iastore, 1) := by decide +kernel
theorem dX5_settle_94 : decode cX5_settle 94 = .ok (.aload_n 0, 1) := by decide +kernel
theorem dX5_settle_95 : decode cX5_settle 95 = .ok (.getfield 13, 3) := by decide +kernel
theorem dX5_settle_98 : decode cX5_settle 98 = .ok (.iload_n 3, 1) := by decide +kernel
theorem dX5_settle_99 : decode cX5_settle 99 = .ok (.dup2, 1) := by decide +kernel
theorem dX5_settle_100 : decode cX5_settle 100 = .ok (.iaload, 1) := by decide +kernel
theorem dX5_settle_101 : decode cX5_settle 101 = .ok (.iload_n 2, 1) := by decide +kernel
theorem dX5_settle_102 : decode cX5_settle 102 = .ok (.ifCond .eq 12, 3) := by decide +kernel
theorem dX5_settle_105 : decode cX5_settle 105 = .ok (.aload_n 0, 1) := by decide +kernel
theorem dX5_settle_106 : decode cX5_settle 106 = .ok (.getfield 41, 3) := by decide +kernel
theorem dX5_settle_109 : decode cX5_settle 109 = .ok (.iload_n 1, 1) := by decide +kernel
theorem dX5_settle_110 : decode cX5_settle 110 = .ok (.iaload, 1) := by decide +kernel
theorem dX5_settle_111 : decode cX5_settle 111 = .ok (.goto 4, 3) := by decide +kernel
theorem dX5_settle_114 : decode cX5_settle 114 = .ok (.iconst 0, 1) := by decide +kernel
theorem dX5_settle_115 : decode cX5_settle 115 = .ok (.isub, 1) := by decide +kernel
theorem dX5_settle_116 : decode cX5_settle 116 = .ok (.iastore, 1) := by decide +kernel
theorem dX5_settle_117 : decode cX5_settle 117 = .ok (.aload_n 0, 1) := by decide +kernel
theorem dX5_settle_118 : decode cX5_settle 118 = .ok (.getfield 13, 3) := by decide +kernel
theorem dX5_settle_121 : decode cX5_settle 121 = .ok (.aload_n 0, 1) := by decide +kernel
theorem dX5_settle_122 : decode cX5_settle 122 = .ok (.getfield 29, 3) := by decide +kernel
theorem dX5_settle_125 : decode cX5_settle 125 = .ok (.iload_n 1, 1) := by decide +kernel
theorem dX5_settle_126 : decode cX5_settle 126 = .ok (.iaload, 1) := by decide +kernel
theorem dX5_settle_127 : decode cX5_settle 127 = .ok (.aload_n 0, 1) := by decide +kernel
theorem dX5_settle_128 : decode cX5_settle 128 = .ok (.getfield 26, 3) := by decide +kernel
theorem dX5_settle_131 : decode cX5_settle 131 = .ok (.iload_n 1, 1) := by decide +kernel
theorem dX5_settle_132 : decode cX5_settle 132 = .ok (.iaload, 1) := by decide +kernel
theorem dX5_settle_133 : decode cX5_settle 133 = .ok (.invokestatic 64, 3) := by decide +kernel
theorem dX5_settle_136 : decode cX5_settle 136 = .ok (.dup2, 1) := by decide +kernel
theorem dX5_settle_137 : decode cX5_settle 137 = .ok (.iaload, 1) := by decide +kernel
theorem dX5_settle_138 : decode cX5_settle 138 = .ok (.iload 4, 2) := by decide +kernel
theorem dX5_settle_140 : decode cX5_settle 140 = .ok (.iadd, 1) := by decide +kernel
theorem dX5_settle_141 : decode cX5_settle 141 = .ok (.iastore, 1) := by decide +kernel
theorem dX5_settle_142 : decode cX5_settle 142 = .ok (.aload_n 0, 1) := by decide +kernel
theorem dX5_settle_143 : decode cX5_settle 143 = .ok (.getfield 41, 3) := by decide +kernel
theorem dX5_settle_146 : decode cX5_settle 146 = .ok (.iload_n 1, 1) := by decide +kernel
theorem dX5_settle_147 : decode cX5_settle 147 = .ok (.iconst 0, 1) := by decide +kernel
theorem dX5_settle_148 : decode cX5_settle 148 = .ok (.iastore, 1) := by decide +kernel
theorem dX5_settle_149 : decode cX5_settle 149 = .ok (.aload_n 0, 1) := by decide +kernel
theorem dX5_settle_150 : decode cX5_settle 150 = .ok (.getfield 38, 3) := by decide +kernel
theorem dX5_settle_153 : decode cX5_settle 153 = .ok (.iload_n 1, 1) := by decide +kernel
theorem dX5_settle_154 : decode cX5_settle 154 = .ok (.iload_n 2, 1) := by decide +kernel
theorem dX5_settle_155 : decode cX5_settle 155 = .ok (.ifCond .eq 7, 3) := by decide +kernel
theorem dX5_settle_158 : decode cX5_settle 158 = .ok (.iconst 2, 1) := by decide +kernel
theorem dX5_settle_159 : decode cX5_settle 159 = .ok (.goto 4, 3) := by decide +kernel
theorem dX5_settle_162 : decode cX5_settle 162 = .ok (.iconst 0, 1) := by decide +kernel
theorem dX5_settle_163 : decode cX5_settle 163 = .ok (.iastore, 1) := by decide +kernel
theorem dX5_settle_164 : decode cX5_settle 164 = .ok (.iload 4, 2) := by decide +kernel
theorem dX5_settle_166 : decode cX5_settle 166 = .ok (.ireturn, 1) := by decide +kernel
set_option maxRecDepth 20000 in
theorem ggX5_guarantee_X5_isShop : GoodIn wsX5_guarantee wsX5_isShop := goodIn_r _ [7, 8, 9, 10, 11, 6, 12, 39, 40, 41, 42, 43, 44, 45, 46, 47, 48, 49, 50, 51, 52, 53, 54, 55, 56, 57] (by decide +kernel) (by decide +kernel)
set_option maxRecDepth 20000 in
theorem gX5_guarantee_X5_isShop : GoodIn wsX5_guarantee (wsV RX5 92 RX5 yX5_isShop wsX5_isShop) := goodIn_app (goodIn_of _ (by decide +kernel)) ggX5_guarantee_X5_isShop
set_option maxRecDepth 20000 in
theorem ggX5_guarantee_X5_in : GoodIn wsX5_guarantee wsX5_in := goodIn_r _ [12] (by decide +kernel) (by decide +kernel)
set_option maxRecDepth 20000 in
theorem gX5_guarantee_X5_in : GoodIn wsX5_guarantee (va_wsS RX5 60 yX5_in wsX5_in) := goodIn_app (goodIn_of _ (by decide +kernel)) ggX5_guarantee_X5_in
set_option maxRecDepth 20000 in
theorem ggX5_guarantee_X5_at : GoodIn wsX5_guarantee wsX5_at := goodIn_r _ [15] (by decide +kernel) (by decide +kernel)
set_option maxRecDepth 20000 in
theorem gX5_guarantee_X5_at : GoodIn wsX5_guarantee (va_wsS RX5 64 yX5_at wsX5_at) := goodIn_app (goodIn_of _ (by decide +kernel)) ggX5_guarantee_X5_at
set_option maxRecDepth 20000 in
theorem ggX5_guarantee_X5_balanceOf : GoodIn wsX5_guarantee wsX5_balanceOf := goodIn_r _ [19, 20, 13, 14, 6, 15, 39, 40, 41, 42, 43, 44, 45, 46, 47, 48, 49, 50, 51, 52, 53, 54, 55, 56, 57] (by decide +kernel) (by decide +kernel)
set_option maxRecDepth 20000 in
theorem gX5_guarantee_X5_balanceOf : GoodIn wsX5_guarantee (wsV RX5 103 RX5 yX5_balanceOf wsX5_balanceOf) := goodIn_app (goodIn_of _ (by decide +kernel)) ggX5_guarantee_X5_balanceOf
set_option maxRecDepth 20000 in
theorem ggX5_guarantee_X5_limitOf : GoodIn wsX5_guarantee wsX5_limitOf := goodIn_r _ [24, 25, 26, 27, 28, 29, 1, 30, 31, 32, 6, 33, 34, 35, 13, 14, 15, 39, 40, 41, 42, 43, 44, 45, 46, 47, 48, 49, 50, 51, 52, 53, 54, 55, 56, 57] (by decide +kernel) (by decide +kernel)
set_option maxRecDepth 20000 in
theorem gX5_guarantee_X5_limitOf : GoodIn wsX5_guarantee (wsV RX5 106 RX5 yX5_limitOf wsX5_limitOf) := goodIn_app (goodIn_of _ (by decide +kernel)) ggX5_guarantee_X5_limitOf
set_option maxRecDepth 20000 in
theorem ggX5_guarantee_X5_isBelow : GoodIn wsX5_guarantee wsX5_isBelow := goodIn_r _ [38] (by decide +kernel) (by decide +kernel)
set_option maxRecDepth 20000 in
theorem gX5_guarantee_X5_isBelow : GoodIn wsX5_guarantee (va_wsS RX5 109 yX5_isBelow wsX5_isBelow) := goodIn_app (goodIn_of _ (by decide +kernel)) ggX5_guarantee_X5_isBelow
theorem dX5_guarantee_0 : decode cX5_guarantee 0 = .ok (.aload_n 0, 1) := by decide +kernel
theorem dX5_guarantee_1 : decode cX5_guarantee 1 = .ok (.iload_n 1, 1) := by decide +kernel
theorem dX5_guarantee_2 : decode cX5_guarantee 2 = .ok (.invokevirtual 92, 3) := by decide +kernel
theorem dX5_guarantee_5 : decode cX5_guarantee 5 = .ok (.ifCond .eq 15, 3) := by decide +kernel
theorem dX5_guarantee_8 : decode cX5_guarantee 8 = .ok (.aload_n 0, 1) := by decide +kernel
theorem dX5_guarantee_9 : decode cX5_guarantee 9 = .ok (.iload_n 2, 1) := by decide +kernel
theorem dX5_guarantee_10 : decode cX5_guarantee 10 = .ok (.invokevirtual 92, 3) := by decide +kernel
theorem dX5_guarantee_13 : decode cX5_guarantee 13 = .ok (.ifCond .eq 7, 3) := by decide +kernel
theorem dX5_guarantee_16 : decode cX5_guarantee 16 = .ok (.iconst 1, 1) := by decide +kernel
theorem dX5_guarantee_17 : decode cX5_guarantee 17 = .ok (.goto 4, 3) := by decide +kernel
theorem dX5_guarantee_20 : decode cX5_guarantee 20 = .ok (.iconst 0, 1) := by decide +kernel
theorem dX5_guarantee_21 : decode cX5_guarantee 21 = .ok (.istore 4, 2) := by decide +kernel
theorem dX5_guarantee_23 : decode cX5_guarantee 23 = .ok (.iload_n 3, 1) := by decide +kernel
theorem dX5_guarantee_24 : decode cX5_guarantee 24 = .ok (.iconst 1, 1) := by decide +kernel
theorem dX5_guarantee_25 : decode cX5_guarantee 25 = .ok (.sipush 500, 3) := by decide +kernel
theorem dX5_guarantee_28 : decode cX5_guarantee 28 = .ok (.invokestatic 60, 3) := by decide +kernel
theorem dX5_guarantee_31 : decode cX5_guarantee 31 = .ok (.ifCond .eq 12, 3) := by decide +kernel
theorem dX5_guarantee_34 : decode cX5_guarantee 34 = .ok (.iload_n 1, 1) := by decide +kernel
theorem dX5_guarantee_35 : decode cX5_guarantee 35 = .ok (.iload_n 2, 1) := by decide +kernel
theorem dX5_guarantee_36 : decode cX5_guarantee 36 = .ok (.if_icmp .eq 7, 3) := by decide +kernel
theorem dX5_guarantee_39 : decode cX5_guarantee 39 = .ok (.iconst 1, 1) := by decide +kernel
theorem dX5_guarantee_40 : decode cX5_guarantee 40 = .ok (.goto 4, 3) := by decide +kernel
theorem dX5_guarantee_43 : decode cX5_guarantee 43 = .ok (.iconst 0, 1) := by decide +kernel
theorem dX5_guarantee_44 : decode cX5_guarantee 44 = .ok (.istore 5, 2) := by decide +kernel
theorem dX5_guarantee_46 : decode cX5_guarantee 46 = .ok (.aload_n 0, 1) := by decide +kernel
theorem dX5_guarantee_47 : decode cX5_guarantee 47 = .ok (.iload 4, 2) := by decide +kernel
theorem dX5_guarantee_49 : decode cX5_guarantee 49 = .ok (.ifCond .ne 7, 3) := by decide +kernel
theorem dX5_guarantee_52 : decode cX5_guarantee 52 = .ok (.iconst 1, 1) := by decide +kernel
theorem dX5_guarantee_53 : decode cX5_guarantee 53 = .ok (.goto 53, 3) := by decide +kernel
theorem dX5_guarantee_56 : decode cX5_guarantee 56 = .ok (.iload 5, 2) := by decide +kernel
theorem dX5_guarantee_58 : decode cX5_guarantee 58 = .ok (.ifCond .ne 7, 3) := by decide +kernel
theorem dX5_guarantee_61 : decode cX5_guarantee 61 = .ok (.iconst 2, 1) := by decide +kernel
theorem dX5_guarantee_62 : decode cX5_guarantee 62 = .ok (.goto 44, 3) := by decide +kernel
theorem dX5_guarantee_65 : decode cX5_guarantee 65 = .ok (.aload_n 0, 1) := by decide +kernel
theorem dX5_guarantee_66 : decode cX5_guarantee 66 = .ok (.getfield 20, 3) := by decide +kernel
theorem dX5_guarantee_69 : decode cX5_guarantee 69 = .ok (.iload_n 1, 1) := by decide +kernel
theorem dX5_guarantee_70 : decode cX5_guarantee 70 = .ok (.iload_n 2, 1) := by decide +kernel
theorem dX5_guarantee_71 : decode cX5_guarantee 71 = .ok (.invokestatic 64, 3) := by decide +kernel
theorem dX5_guarantee_74 : decode cX5_guarantee 74 = .ok (.iaload, 1) := by decide +kernel
theorem dX5_guarantee_75 : decode cX5_guarantee 75 = .ok (.iload_n 3, 1) := by decide +kernel
theorem dX5_guarantee_76 : decode cX5_guarantee 76 = .ok (.iadd, 1) := by decide +kernel
theorem dX5_guarantee_77 : decode cX5_guarantee 77 = .ok (.sipush 1000, 3) := by decide +kernel
theorem dX5_guarantee_80 : decode cX5_guarantee 80 = .ok (.if_icmp .gt 21, 3) := by decide +kernel
theorem dX5_guarantee_83 : decode cX5_guarantee 83 = .ok (.aload_n 0, 1) := by decide +kernel
theorem dX5_guarantee_84 : decode cX5_guarantee 84 = .ok (.iload_n 1, 1) := by decide +kernel
theorem dX5_guarantee_85 : decode cX5_guarantee 85 = .ok (.invokevirtual 103, 3) := by decide +kernel
theorem dX5_guarantee_88 : decode cX5_guarantee 88 = .ok (.aload_n 0, 1) := by decide +kernel
theorem dX5_guarantee_89 : decode cX5_guarantee 89 = .ok (.iload_n 1, 1) := by decide +kernel
theorem dX5_guarantee_90 : decode cX5_guarantee 90 = .ok (.invokevirtual 106, 3) := by decide +kernel
theorem dX5_guarantee_93 : decode cX5_guarantee 93 = .ok (.iload_n 3, 1) := by decide +kernel
theorem dX5_guarantee_94 : decode cX5_guarantee 94 = .ok (.isub, 1) := by decide +kernel
theorem dX5_guarantee_95 : decode cX5_guarantee 95 = .ok (.invokestatic 109, 3) := by decide +kernel
theorem dX5_guarantee_98 : decode cX5_guarantee 98 = .ok (.ifCond .eq 7, 3) := by decide +kernel
theorem dX5_guarantee_101 : decode cX5_guarantee 101 = .ok (.iconst 3, 1) := by decide +kernel
theorem dX5_guarantee_102 : decode cX5_guarantee 102 = .ok (.goto 4, 3) := by decide +kernel
theorem dX5_guarantee_105 : decode cX5_guarantee 105 = .ok (.iconst 0, 1) := by decide +kernel
theorem dX5_guarantee_106 : decode cX5_guarantee 106 = .ok (.putfield 54, 3) := by decide +kernel
theorem dX5_guarantee_109 : decode cX5_guarantee 109 = .ok (.aload_n 0, 1) := by decide +kernel
theorem dX5_guarantee_110 : decode cX5_guarantee 110 = .ok (.getfield 54, 3) := by decide +kernel
theorem dX5_guarantee_113 : decode cX5_guarantee 113 = .ok (.ifCond .le 5, 3) := by decide +kernel
theorem dX5_guarantee_116 : decode cX5_guarantee 116 = .ok (.iconst 0, 1) := by decide +kernel
theorem dX5_guarantee_117 : decode cX5_guarantee 117 = .ok (.ireturn, 1) := by decide +kernel
theorem dX5_guarantee_118 : decode cX5_guarantee 118 = .ok (.aload_n 0, 1) := by decide +kernel
theorem dX5_guarantee_119 : decode cX5_guarantee 119 = .ok (.getfield 20, 3) := by decide +kernel
theorem dX5_guarantee_122 : decode cX5_guarantee 122 = .ok (.iload_n 1, 1) := by decide +kernel
theorem dX5_guarantee_123 : decode cX5_guarantee 123 = .ok (.iload_n 2, 1) := by decide +kernel
theorem dX5_guarantee_124 : decode cX5_guarantee 124 = .ok (.invokestatic 64, 3) := by decide +kernel
theorem dX5_guarantee_127 : decode cX5_guarantee 127 = .ok (.dup2, 1) := by decide +kernel
theorem dX5_guarantee_128 : decode cX5_guarantee 128 = .ok (.iaload, 1) := by decide +kernel
theorem dX5_guarantee_129 : decode cX5_guarantee 129 = .ok (.iload_n 3, 1) := by decide +kernel
theorem dX5_guarantee_130 : decode cX5_guarantee 130 = .ok (.iadd, 1) := by decide +kernel
theorem dX5_guarantee_131 : decode cX5_guarantee 131 = .ok (.iastore, 1) := by decide +kernel
theorem dX5_guarantee_132 : decode cX5_guarantee 132 = .ok (.aload_n 0, 1) := by decide +kernel
theorem dX5_guarantee_133 : decode cX5_guarantee 133 = .ok (.getfield 20, 3) := by decide +kernel
theorem dX5_guarantee_136 : decode cX5_guarantee 136 = .ok (.iload_n 1, 1) := by decide +kernel
theorem dX5_guarantee_137 : decode cX5_guarantee 137 = .ok (.iload_n 2, 1) := by decide +kernel
theorem dX5_guarantee_138 : decode cX5_guarantee 138 = .ok (.invokestatic 64, 3) := by decide +kernel
theorem dX5_guarantee_141 : decode cX5_guarantee 141 = .ok (.iaload, 1) := by decide +kernel
theorem dX5_guarantee_142 : decode cX5_guarantee 142 = .ok (.ireturn, 1) := by decide +kernel
set_option maxRecDepth 20000 in
theorem ggX5_revoke_X5_isShop : GoodIn wsX5_revoke wsX5_isShop := goodIn_r _ [7, 8, 9, 10, 11, 6, 12, 39, 40, 41, 42, 43, 44, 45, 46, 47, 48, 49, 50, 51, 52, 53, 54, 55, 56, 57] (by decide +kernel) (by decide +kernel)
set_option maxRecDepth 20000 in
theorem gX5_revoke_X5_isShop : GoodIn wsX5_revoke (wsV RX5 92 RX5 yX5_isShop wsX5_isShop) := goodIn_app (goodIn_of _ (by decide +kernel)) ggX5_revoke_X5_isShop
set_option maxRecDepth 20000 in
theorem ggX5_revoke_X5_in : GoodIn wsX5_revoke wsX5_in := goodIn_r _ [12] (by decide +kernel) (by decide +kernel)
set_option maxRecDepth 20000 in
theorem gX5_revoke_X5_in : GoodIn wsX5_revoke (va_wsS RX5 60 yX5_in wsX5_in) := goodIn_app (goodIn_of _ (by decide +kernel)) ggX5_revoke_X5_in
set_option maxRecDepth 20000 in
theorem ggX5_revoke_X5_at : GoodIn wsX5_revoke wsX5_at := goodIn_r _ [15] (by decide +kernel) (by decide +kernel)
set_option maxRecDepth 20000 in
theorem gX5_revoke_X5_at : GoodIn wsX5_revoke (va_wsS RX5 64 yX5_at wsX5_at) := goodIn_app (goodIn_of _ (by decide +kernel)) ggX5_revoke_X5_at
set_option maxRecDepth 20000 in
theorem ggX5_revoke_X5_balanceOf : GoodIn wsX5_revoke wsX5_balanceOf := goodIn_r _ [19, 20, 13, 14, 6, 15, 39, 40, 41, 42, 43, 44, 45, 46, 47, 48, 49, 50, 51, 52, 53, 54, 55, 56, 57] (by decide +kernel) (by decide +kernel)
set_option maxRecDepth 20000 in
theorem gX5_revoke_X5_balanceOf : GoodIn wsX5_revoke (wsV RX5 103 RX5 yX5_balanceOf wsX5_balanceOf) := goodIn_app (goodIn_of _ (by decide +kernel)) ggX5_revoke_X5_balanceOf
set_option maxRecDepth 20000 in
theorem ggX5_revoke_X5_limitOf : GoodIn wsX5_revoke wsX5_limitOf := goodIn_r _ [24, 25, 26, 27, 28, 29, 1, 30, 31, 32, 6, 33, 34, 35, 13, 14, 15, 39, 40, 41, 42, 43, 44, 45, 46, 47, 48, 49, 50, 51, 52, 53, 54, 55, 56, 57] (by decide +kernel) (by decide +kernel)
set_option maxRecDepth 20000 in
theorem gX5_revoke_X5_limitOf : GoodIn wsX5_revoke (wsV RX5 106 RX5 yX5_limitOf wsX5_limitOf) := goodIn_app (goodIn_of _ (by decide +kernel)) ggX5_revoke_X5_limitOf
set_option maxRecDepth 20000 in
theorem ggX5_revoke_X5_isBelow : GoodIn wsX5_revoke wsX5_isBelow := goodIn_r _ [38] (by decide +kernel) (by decide +kernel)
set_option maxRecDepth 20000 in
theorem gX5_revoke_X5_isBelow : GoodIn wsX5_revoke (va_wsS RX5 109 yX5_isBelow wsX5_isBelow) := goodIn_app (goodIn_of _ (by decide +kernel)) ggX5_revoke_X5_isBelow
theorem dX5_revoke_0 : decode cX5_revoke 0 = .ok (.aload_n 0, 1) := by decide +kernel
theorem dX5_revoke_1 : decode cX5_revoke 1 = .ok (.iload_n 1, 1) := by decide +kernel
theorem dX5_revoke_2 : decode cX5_revoke 2 = .ok (.invokevirtual 92, 3) := by decide +kernel
theorem dX5_revoke_5 : decode cX5_revoke 5 = .ok (.ifCond .eq 15, 3) := by decide +kernel
theorem dX5_revoke_8 : decode cX5_revoke 8 = .ok (.aload_n 0, 1) := by decide +kernel
theorem dX5_revoke_9 : decode cX5_revoke 9 = .ok (.iload_n 2, 1) := by decide +kernel
theorem dX5_revoke_10 : decode cX5_revoke 10 = .ok (.invokevirtual 92, 3) := by decide +kernel
theorem dX5_revoke_13 : decode cX5_revoke 13 = .ok (.ifCond .eq 7, 3) := by decide +kernel
theorem dX5_revoke_16 : decode cX5_revoke 16 = .ok (.iconst 1, 1) := by decide +kernel
theorem dX5_revoke_17 : decode cX5_revoke 17 = .ok (.goto 4, 3) := by decide +kernel
theorem dX5_revoke_20 : decode cX5_revoke 20 = .ok (.iconst 0, 1) := by decide +kernel
theorem dX5_revoke_21 : decode cX5_revoke 21 = .ok (.istore 4, 2) := by decide +kernel
theorem dX5_revoke_23 : decode cX5_revoke 23 = .ok (.iload_n 3, 1) := by decide +kernel
theorem dX5_revoke_24 : decode cX5_revoke 24 = .ok (.iconst 1, 1) := by decide +kernel
theorem dX5_revoke_25 : decode cX5_revoke 25 = .ok (.sipush 500, 3) := by decide +kernel
theorem dX5_revoke_28 : decode cX5_revoke 28 = .ok (.invokestatic 60, 3) := by decide +kernel
theorem dX5_revoke_31 : decode cX5_revoke 31 = .ok (.ifCond .eq 12, 3) := by decide +kernel
theorem dX5_revoke_34 : decode cX5_revoke 34 = .ok (.iload_n 1, 1) := by decide +kernel
theorem dX5_revoke_35 : decode cX5_revoke 35 = .ok (.iload_n 2, 1) := by decide +kernel
theorem dX5_revoke_36 : decode cX5_revoke 36 = .ok (.if_icmp .eq 7, 3) := by decide +kernel
theorem dX5_revoke_39 : decode cX5_revoke 39 = .ok (.iconst 1, 1) := by decide +kernel
theorem dX5_revoke_40 : decode cX5_revoke 40 = .ok (.goto 4, 3) := by decide +kernel
theorem dX5_revoke_43 : decode cX5_revoke 43 = .ok (.iconst 0, 1) := by decide +kernel
theorem dX5_revoke_44 : decode cX5_revoke 44 = .ok (.istore 5, 2) := by decide +kernel
theorem dX5_revoke_46 : decode cX5_revoke 46 = .ok (.aload_n 0, 1) := by decide +kernel
theorem dX5_revoke_47 : decode cX5_revoke 47 = .ok (.iload 4, 2) := by decide +kernel
theorem dX5_revoke_49 : decode cX5_revoke 49 = .ok (.ifCond .ne 7, 3) := by decide +kernel
theorem dX5_revoke_52 : decode cX5_revoke 52 = .ok (.iconst 1, 1) := by decide +kernel
theorem dX5_revoke_53 : decode cX5_revoke 53 = .ok (.goto 49, 3) := by decide +kernel
theorem dX5_revoke_56 : decode cX5_revoke 56 = .ok (.iload 5, 2) := by decide +kernel
theorem dX5_revoke_58 : decode cX5_revoke 58 = .ok (.ifCond .ne 7, 3) := by decide +kernel
theorem dX5_revoke_61 : decode cX5_revoke 61 = .ok (.iconst 2, 1) := by decide +kernel
theorem dX5_revoke_62 : decode cX5_revoke 62 = .ok (.goto 40, 3) := by decide +kernel
theorem dX5_revoke_65 : decode cX5_revoke 65 = .ok (.aload_n 0, 1) := by decide +kernel
theorem dX5_revoke_66 : decode cX5_revoke 66 = .ok (.getfield 20, 3) := by decide +kernel
theorem dX5_revoke_69 : decode cX5_revoke 69 = .ok (.iload_n 1, 1) := by decide +kernel
theorem dX5_revoke_70 : decode cX5_revoke 70 = .ok (.iload_n 2, 1) := by decide +kernel
theorem dX5_revoke_71 : decode cX5_revoke 71 = .ok (.invokestatic 64, 3) := by decide +kernel
theorem dX5_revoke_74 : decode cX5_revoke 74 = .ok (.iaload, 1) := by decide +kernel
theorem dX5_revoke_75 : decode cX5_revoke 75 = .ok (.iload_n 3, 1) := by decide +kernel
theorem dX5_revoke_76 : decode cX5_revoke 76 = .ok (.if_icmp .lt 21, 3) := by decide +kernel
theorem dX5_revoke_79 : decode cX5_revoke 79 = .ok (.aload_n 0, 1) := by decide +kernel
theorem dX5_revoke_80 : decode cX5_revoke 80 = .ok (.iload_n 2, 1) := by decide +kernel
theorem dX5_revoke_81 : decode cX5_revoke 81 = .ok (.invokevirtual 103, 3) := by decide +kernel
theorem dX5_revoke_84 : decode cX5_revoke 84 = .ok (.aload_n 0, 1) := by decide +kernel
theorem dX5_revoke_85 : decode cX5_revoke 85 = .ok (.iload_n 2, 1) := by decide +kernel
theorem dX5_revoke_86 : decode cX5_revoke 86 = .ok (.invokevirtual 106, 3) := by decide +kernel
theorem dX5_revoke_89 : decode cX5_revoke 89 = .ok (.iload_n 3, 1) := by decide +kernel
theorem dX5_revoke_90 : decode cX5_revoke 90 = .ok (.isub, 1) := by decide +kernel
theorem dX5_revoke_91 : decode cX5_revoke 91 = .ok (.invokestatic 109, 3) := by decide +kernel
theorem dX5_revoke_94 : decode cX5_revoke 94 = .ok (.ifCond .eq 7, 3) := by decide +kernel
theorem dX5_revoke_97 : decode cX5_revoke 97 = .ok (.iconst 3, 1) := by decide +kernel
theorem dX5_revoke_98 : decode cX5_revoke 98 = .ok (.goto 4, 3) := by decide +kernel
theorem dX5_revoke_101 : decode cX5_revoke 101 = .ok (.iconst 0, 1) := by decide +kernel
theorem dX5_revoke_102 : decode cX5_revoke 102 = .ok (.putfield 54, 3) := by decide +kernel
theorem dX5_revoke_105 : decode cX5_revoke 105 = .ok (.aload_n 0, 1) := by decide +kernel
theorem dX5_revoke_106 : decode cX5_revoke 106 = .ok (.getfield 54, 3) := by decide +kernel
theorem dX5_revoke_109 : decode cX5_revoke 109 = .ok (.ifCond .le 5, 3) := by decide +kernel
theorem dX5_revoke_112 : decode cX5_revoke 112 = .ok (.iconst 0, 1) := by decide +kernel
theorem dX5_revoke_113 : decode cX5_revoke 113 = .ok (.ireturn, 1) := by decide +kernel
theorem dX5_revoke_114 : decode cX5_revoke 114 = .ok (.aload_n 0, 1) := by decide +kernel
theorem dX5_revoke_115 : decode cX5_revoke 115 = .ok (.getfield 20, 3) := by decide +kernel
theorem dX5_revoke_118 : decode cX5_revoke 118 = .ok (.iload_n 1, 1) := by decide +kernel
theorem dX5_revoke_119 : decode cX5_revoke 119 = .ok (.iload_n 2, 1) := by decide +kernel
theorem dX5_revoke_120 : decode cX5_revoke 120 = .ok (.invokestatic 64, 3) := by decide +kernel
theorem dX5_revoke_123 : decode cX5_revoke 123 = .ok (.dup2, 1) := by decide +kernel
theorem dX5_revoke_124 : decode cX5_revoke 124 = .ok (.iaload, 1) := by decide +kernel
theorem dX5_revoke_125 : decode cX5_revoke 125 = .ok (.iload_n 3, 1) := by decide +kernel
theorem dX5_revoke_126 : decode cX5_revoke 126 = .ok (.isub, 1) := by decide +kernel
theorem dX5_revoke_127 : decode cX5_revoke 127 = .ok (.iastore, 1) := by decide +kernel
theorem dX5_revoke_128 : decode cX5_revoke 128 = .ok (.aload_n 0, 1) := by decide +kernel
theorem dX5_revoke_129 : decode cX5_revoke 129 = .ok (.getfield 20, 3) := by decide +kernel
theorem dX5_revoke_132 : decode cX5_revoke 132 = .ok (.iload_n 1, 1) := by decide +kernel
theorem dX5_revoke_133 : decode cX5_revoke 133 = .ok (.iload_n 2, 1) := by decide +kernel
theorem dX5_revoke_134 : decode cX5_revoke 134 = .ok (.invokestatic 64, 3) := by decide +kernel
theorem dX5_revoke_137 : decode cX5_revoke 137 = .ok (.iaload, 1) := by decide +kernel
theorem dX5_revoke_138 : decode cX5_revoke 138 = .ok (.ireturn, 1) := by decide +kernel
set_option maxRecDepth 20000 in
theorem ggX5_fee_X5_in : GoodIn wsX5_fee wsX5_in := goodIn_r _ [6] (by decide +kernel) (by decide +kernel)
set_option maxRecDepth 20000 in
theorem gX5_fee_X5_in : GoodIn wsX5_fee (va_wsS RX5 60 yX5_in wsX5_in) := goodIn_app (goodIn_of _ (by decide +kernel)) ggX5_fee_X5_in
theorem dX5_fee_0 : decode cX5_fee 0 = .ok (.aload_n 0, 1) := by decide +kernel
theorem dX5_fee_1 : decode cX5_fee 1 = .ok (.iload_n 1, 1) := by decide +kernel
theorem dX5_fee_2 : decode cX5_fee 2 = .ok (.iconst 0, 1) := by decide +kernel
theorem dX5_fee_3 : decode cX5_fee 3 = .ok (.sipush 500, 3) := by decide +kernel
theorem dX5_fee_6 : decode cX5_fee 6 = .ok (.invokestatic 60, 3) := by decide +kernel
theorem dX5_fee_9 : decode cX5_fee 9 = .ok (.ifCond .eq 7, 3) := by decide +kernel
theorem dX5_fee_12 : decode cX5_fee 12 = .ok (.iconst 0, 1) := by decide +kernel
theorem dX5_fee_13 : decode cX5_fee 13 = .ok (.goto 4, 3) := by decide +kernel
theorem dX5_fee_16 : decode cX5_fee 16 = .ok (.iconst 1, 1) := by decide +kernel
theorem dX5_fee_17 : decode cX5_fee 17 = .ok (.putfield 54, 3) := by decide +kernel
theorem dX5_fee_20 : decode cX5_fee 20 = .ok (.aload_n 0, 1) := by decide +kernel
theorem dX5_fee_21 : decode cX5_fee 21 = .ok (.getfield 54, 3) := by decide +kernel
theorem dX5_fee_24 : decode cX5_fee 24 = .ok (.ifCond .le 5, 3) := by decide +kernel
theorem dX5_fee_27 : decode cX5_fee 27 = .ok (.iconst 0, 1) := by decide +kernel
theorem dX5_fee_28 : decode cX5_fee 28 = .ok (.ireturn, 1) := by decide +kernel
theorem dX5_fee_29 : decode cX5_fee 29 = .ok (.aload_n 0, 1) := by decide +kernel
theorem dX5_fee_30 : decode cX5_fee 30 = .ok (.getfield 44, 3) := by decide +kernel
theorem dX5_fee_33 : decode cX5_fee 33 = .ok (.istore_n 2, 1) := by decide +kernel
theorem dX5_fee_34 : decode cX5_fee 34 = .ok (.aload_n 0, 1) := by decide +kernel
theorem dX5_fee_35 : decode cX5_fee 35 = .ok (.iload_n 1, 1) := by decide +kernel
theorem dX5_fee_36 : decode cX5_fee 36 = .ok (.putfield 44, 3) := by decide +kernel
theorem dX5_fee_39 : decode cX5_fee 39 = .ok (.iload_n 2, 1) := by decide +kernel
theorem dX5_fee_40 : decode cX5_fee 40 = .ok (.ireturn, 1) := by decide +kernel
set_option maxRecDepth 20000 in
theorem ggX5_isRing_X5_free : GoodIn wsX5_isRing wsX5_free := goodIn_r _ [6, 7, 8, 9, 10, 5, 11, 12, 13, 14, 15, 16, 17, 18, 19, 20, 21, 22, 23, 24, 25, 26, 27, 28, 29, 30] (by decide +kernel) (by decide +kernel)
set_option maxRecDepth 20000 in
theorem gX5_isRing_X5_free : GoodIn wsX5_isRing (wsV RX5 115 RX5 yX5_free wsX5_free) := goodIn_app (goodIn_of _ (by decide +kernel)) ggX5_isRing_X5_free
theorem dX5_isRing_0 : decode cX5_isRing 0 = .ok (.iconst 1, 1) := by decide +kernel
theorem dX5_isRing_1 : decode cX5_isRing 1 = .ok (.istore_n 2, 1) := by decide +kernel
theorem dX5_isRing_2 : decode cX5_isRing 2 = .ok (.iconst 0, 1) := by decide +kernel
theorem dX5_isRing_3 : decode cX5_isRing 3 = .ok (.istore_n 3, 1) := by decide +kernel
theorem dX5_isRing_4 : decode cX5_isRing 4 = .ok (.iload_n 3, 1) := by decide +kernel
theorem dX5_isRing_5 : decode cX5_isRing 5 = .ok (.iload_n 1, 1) := by decide +kernel
theorem dX5_isRing_6 : decode cX5_isRing 6 = .ok (.if_icmp .ge 102, 3) := by decide +kernel
theorem dX5_isRing_9 : decode cX5_isRing 9 = .ok (.iload_n 2, 1) := by decide +kernel
theorem dX5_isRing_10 : decode cX5_isRing 10 = .ok (.ifCond .eq 49, 3) := by decide +kernel
theorem dX5_isRing_13 : decode cX5_isRing 13 = .ok (.aload_n 0, 1) := by decide +kernel
theorem dX5_isRing_14 : decode cX5_isRing 14 = .ok (.aload_n 0, 1) := by decide +kernel
theorem dX5_isRing_15 : decode cX5_isRing 15 = .ok (.getfield 51, 3) := by decide +kernel
theorem dX5_isRing_18 : decode cX5_isRing 18 = .ok (.iload_n 3, 1) := by decide +kernel
theorem dX5_isRing_19 : decode cX5_isRing 19 = .ok (.iaload, 1) := by decide +kernel
theorem dX5_isRing_20 : decode cX5_isRing 20 = .ok (.aload_n 0, 1) := by decide +kernel
theorem dX5_isRing_21 : decode cX5_isRing 21 = .ok (.getfield 51, 3) := by decide +kernel
theorem dX5_isRing_24 : decode cX5_isRing 24 = .ok (.iload_n 3, 1) := by decide +kernel
theorem dX5_isRing_25 : decode cX5_isRing 25 = .ok (.iconst 1, 1) := by decide +kernel
theorem dX5_isRing_26 : decode cX5_isRing 26 = .ok (.iadd, 1) := by decide +kernel
theorem dX5_isRing_27 : decode cX5_isRing 27 = .ok (.iload_n 1, 1) := by decide +kernel
theorem dX5_isRing_28 : decode cX5_isRing 28 = .ok (.irem, 1) := by decide +kernel
theorem dX5_isRing_29 : decode cX5_isRing 29 = .ok (.iaload, 1) := by decide +kernel
theorem dX5_isRing_30 : decode cX5_isRing 30 = .ok (.invokevirtual 115, 3) := by decide +kernel
theorem dX5_isRing_33 : decode cX5_isRing 33 = .ok (.ifCond .le 26, 3) := by decide +kernel
theorem dX5_isRing_36 : decode cX5_isRing 36 = .ok (.iload_n 3, 1) := by decide +kernel
theorem dX5_isRing_37 : decode cX5_isRing 37 = .ok (.ifCond .eq 18, 3) := by decide +kernel
theorem dX5_isRing_40 : decode cX5_isRing 40 = .ok (.aload_n 0, 1) := by decide +kernel
theorem dX5_isRing_41 : decode cX5_isRing 41 = .ok (.getfield 51, 3) := by decide +kernel
theorem dX5_isRing_44 : decode cX5_isRing 44 = .ok (.iload_n 3, 1) := by decide +kernel
theorem dX5_isRing_45 : decode cX5_isRing 45 = .ok (.iaload, 1) := by decide +kernel
theorem dX5_isRing_46 : decode cX5_isRing 46 = .ok (.aload_n 0, 1) := by decide +kernel
theorem dX5_isRing_47 : decode cX5_isRing 47 = .ok (.getfield 51, 3) := by decide +kernel
theorem dX5_isRing_50 : decode cX5_isRing 50 = .ok (.iconst 0, 1) := by decide +kernel
theorem dX5_isRing_51 : decode cX5_isRing 51 = .ok (.iaload, 1) := by decide +kernel
theorem dX5_isRing_52 : decode cX5_isRing 52 = .ok (.if_icmp .le 7, 3) := by decide +kernel
theorem dX5_isRing_55 : decode cX5_isRing 55 = .ok (.iconst 1, 1) := by decide +kernel
theorem dX5_isRing_56 : decode cX5_isRing 56 = .ok (.goto 4, 3) := by decide +kernel
theorem dX5_isRing_59 : decode cX5_isRing 59 = .ok (.iconst 0, 1) := by decide +kernel
theorem dX5_isRing_60 : decode cX5_isRing 60 = .ok (.istore_n 2, 1) := by decide +kernel
theorem dX5_isRing_61 : decode cX5_isRing 61 = .ok (.iconst 0, 1) := by decide +kernel
theorem dX5_isRing_62 : decode cX5_isRing 62 = .ok (.istore 4, 2) := by decide +kernel
theorem dX5_isRing_64 : decode cX5_isRing 64 = .ok (.iload 4, 2) := by decide +kernel
theorem dX5_isRing_66 : decode cX5_isRing 66 = .ok (.iload_n 3, 1) := by decide +kernel
theorem dX5_isRing_67 : decode cX5_isRing 67 = .ok (.if_icmp .ge 35, 3) := by decide +kernel
theorem dX5_isRing_70 : decode cX5_isRing 70 = .ok (.iload_n 2, 1) := by decide +kernel
theorem dX5_isRing_71 : decode cX5_isRing 71 = .ok (.ifCond .eq 23, 3) := by decide +kernel
theorem dX5_isRing_74 : decode cX5_isRing 74 = .ok (.aload_n 0, 1) := by decide +kernel
theorem dX5_isRing_75 : decode cX5_isRing 75 = .ok (.getfield 51, 3) := by decide +kernel
theorem dX5_isRing_78 : decode cX5_isRing 78 = .ok (.iload 4, 2) := by decide +kernel
theorem dX5_isRing_80 : decode cX5_isRing 80 = .ok (.iaload, 1) := by decide +kernel
theorem dX5_isRing_81 : decode cX5_isRing 81 = .ok (.aload_n 0, 1) := by decide +kernel
theorem dX5_isRing_82 : decode cX5_isRing 82 = .ok (.getfield 51, 3) := by decide +kernel
theorem dX5_isRing_85 : decode cX5_isRing 85 = .ok (.iload_n 3, 1) := by decide +kernel
theorem dX5_isRing_86 : decode cX5_isRing 86 = .ok (.iaload, 1) := by decide +kernel
theorem dX5_isRing_87 : decode cX5_isRing 87 = .ok (.if_icmp .eq 7, 3) := by decide +kernel
theorem dX5_isRing_90 : decode cX5_isRing 90 = .ok (.iconst 1, 1) := by decide +kernel
theorem dX5_isRing_91 : decode cX5_isRing 91 = .ok (.goto 4, 3) := by decide +kernel
theorem dX5_isRing_94 : decode cX5_isRing 94 = .ok (.iconst 0, 1) := by decide +kernel
theorem dX5_isRing_95 : decode cX5_isRing 95 = .ok (.istore_n 2, 1) := by decide +kernel
theorem dX5_isRing_96 : decode cX5_isRing 96 = .ok (.iinc 4 1, 3) := by decide +kernel
theorem dX5_isRing_99 : decode cX5_isRing 99 = .ok (.goto (-35), 3) := by decide +kernel
theorem dX5_isRing_102 : decode cX5_isRing 102 = .ok (.iinc 3 1, 3) := by decide +kernel
theorem dX5_isRing_105 : decode cX5_isRing 105 = .ok (.goto (-101), 3) := by decide +kernel
theorem dX5_isRing_108 : decode cX5_isRing 108 = .ok (.iload_n 2, 1) := by decide +kernel
theorem dX5_isRing_109 : decode cX5_isRing 109 = .ok (.ireturn, 1) := by decide +kernel
set_option maxRecDepth 20000 in
theorem ggX5_canBegin_X5_free : GoodIn wsX5_canBegin wsX5_free := goodIn_r _ [6, 7, 8, 9, 10, 5, 11, 12, 13, 14, 15, 16, 17, 18, 19, 20, 21, 22, 23, 24, 25, 26, 27, 28, 29, 30] (by decide +kernel) (by decide +kernel)
set_option maxRecDepth 20000 in
theorem gX5_canBegin_X5_free : GoodIn wsX5_canBegin (wsV RX5 115 RX5 yX5_free wsX5_free) := goodIn_app (goodIn_of _ (by decide +kernel)) ggX5_canBegin_X5_free
theorem dX5_canBegin_0 : decode cX5_canBegin 0 = .ok (.iload_n 1, 1) := by decide +kernel
theorem dX5_canBegin_1 : decode cX5_canBegin 1 = .ok (.ifCond .eq 39, 3) := by decide +kernel
theorem dX5_canBegin_4 : decode cX5_canBegin 4 = .ok (.aload_n 0, 1) := by decide +kernel
theorem dX5_canBegin_5 : decode cX5_canBegin 5 = .ok (.getfield 51, 3) := by decide +kernel
theorem dX5_canBegin_8 : decode cX5_canBegin 8 = .ok (.iload_n 1, 1) := by decide +kernel
theorem dX5_canBegin_9 : decode cX5_canBegin 9 = .ok (.iaload, 1) := by decide +kernel
theorem dX5_canBegin_10 : decode cX5_canBegin 10 = .ok (.aload_n 0, 1) := by decide +kernel
theorem dX5_canBegin_11 : decode cX5_canBegin 11 = .ok (.getfield 51, 3) := by decide +kernel
theorem dX5_canBegin_14 : decode cX5_canBegin 14 = .ok (.iconst 0, 1) := by decide +kernel
theorem dX5_canBegin_15 : decode cX5_canBegin 15 = .ok (.iaload, 1) := by decide +kernel
theorem dX5_canBegin_16 : decode cX5_canBegin 16 = .ok (.if_icmp .le 28, 3) := by decide +kernel
theorem dX5_canBegin_19 : decode cX5_canBegin 19 = .ok (.aload_n 0, 1) := by decide +kernel
theorem dX5_canBegin_20 : decode cX5_canBegin 20 = .ok (.aload_n 0, 1) := by decide +kernel
theorem dX5_canBegin_21 : decode cX5_canBegin 21 = .ok (.getfield 51, 3) := by decide +kernel
theorem dX5_canBegin_24 : decode cX5_canBegin 24 = .ok (.iload_n 1, 1) := by decide +kernel
theorem dX5_canBegin_25 : decode cX5_canBegin 25 = .ok (.iconst 1, 1) := by decide +kernel
theorem dX5_canBegin_26 : decode cX5_canBegin 26 = .ok (.isub, 1) := by decide +kernel
theorem dX5_canBegin_27 : decode cX5_canBegin 27 = .ok (.iaload, 1) := by decide +kernel
theorem dX5_canBegin_28 : decode cX5_canBegin 28 = .ok (.aload_n 0, 1) := by decide +kernel
theorem dX5_canBegin_29 : decode cX5_canBegin 29 = .ok (.getfield 51, 3) := by decide +kernel
theorem dX5_canBegin_32 : decode cX5_canBegin 32 = .ok (.iload_n 1, 1) := by decide +kernel
theorem dX5_canBegin_33 : decode cX5_canBegin 33 = .ok (.iaload, 1) := by decide +kernel
theorem dX5_canBegin_34 : decode cX5_canBegin 34 = .ok (.invokevirtual 115, 3) := by decide +kernel
theorem dX5_canBegin_37 : decode cX5_canBegin 37 = .ok (.ifCond .le 7, 3) := by decide +kernel
theorem dX5_canBegin_40 : decode cX5_canBegin 40 = .ok (.iconst 1, 1) := by decide +kernel
theorem dX5_canBegin_41 : decode cX5_canBegin 41 = .ok (.goto 4, 3) := by decide +kernel
theorem dX5_canBegin_44 : decode cX5_canBegin 44 = .ok (.iconst 0, 1) := by decide +kernel
theorem dX5_canBegin_45 : decode cX5_canBegin 45 = .ok (.istore_n 2, 1) := by decide +kernel
theorem dX5_canBegin_46 : decode cX5_canBegin 46 = .ok (.iconst 0, 1) := by decide +kernel
theorem dX5_canBegin_47 : decode cX5_canBegin 47 = .ok (.istore_n 3, 1) := by decide +kernel
theorem dX5_canBegin_48 : decode cX5_canBegin 48 = .ok (.iload_n 3, 1) := by decide +kernel
theorem dX5_canBegin_49 : decode cX5_canBegin 49 = .ok (.iload_n 1, 1) := by decide +kernel
theorem dX5_canBegin_50 : decode cX5_canBegin 50 = .ok (.if_icmp .ge 34, 3) := by decide +kernel
theorem dX5_canBegin_53 : decode cX5_canBegin 53 = .ok (.iload_n 2, 1) := by decide +kernel
theorem dX5_canBegin_54 : decode cX5_canBegin 54 = .ok (.ifCond .eq 22, 3) := by decide +kernel
theorem dX5_canBegin_57 : decode cX5_canBegin 57 = .ok (.aload_n 0, 1) := by decide +kernel
theorem dX5_canBegin_58 : decode cX5_canBegin 58 = .ok (.getfield 51, 3) := by decide +kernel
theorem dX5_canBegin_61 : decode cX5_canBegin 61 = .ok (.iload_n 3, 1) := by decide +kernel
theorem dX5_canBegin_62 : decode cX5_canBegin 62 = .ok (.iaload, 1) := by decide +kernel
theorem dX5_canBegin_63 : decode cX5_canBegin 63 = .ok (.aload_n 0, 1) := by decide +kernel
theorem dX5_canBegin_64 : decode cX5_canBegin 64 = .ok (.getfield 51, 3) := by decide +kernel
theorem dX5_canBegin_67 : decode cX5_canBegin 67 = .ok (.iload_n 1, 1) := by decide +kernel
theorem dX5_canBegin_68 : decode cX5_canBegin 68 = .ok (.iaload, 1) := by decide +kernel
theorem dX5_canBegin_69 : decode cX5_canBegin 69 = .ok (.if_icmp .eq 7, 3) := by decide +kernel
theorem dX5_canBegin_72 : decode cX5_canBegin 72 = .ok (.iconst 1, 1) := by decide +kernel
theorem dX5_canBegin_73 : decode cX5_canBegin 73 = .ok (.goto 4, 3) := by decide +kernel
theorem dX5_canBegin_76 : decode cX5_canBegin 76 = .ok (.iconst 0, 1) := by decide +kernel
theorem dX5_canBegin_77 : decode cX5_canBegin 77 = .ok (.istore_n 2, 1) := by decide +kernel
theorem dX5_canBegin_78 : decode cX5_canBegin 78 = .ok (.iinc 3 1, 3) := by decide +kernel
theorem dX5_canBegin_81 : decode cX5_canBegin 81 = .ok (.goto (-33), 3) := by decide +kernel
theorem dX5_canBegin_84 : decode cX5_canBegin 84 = .ok (.iload_n 2, 1) := by decide +kernel
theorem dX5_canBegin_85 : decode cX5_canBegin 85 = .ok (.ireturn, 1) := by decide +kernel
set_option maxRecDepth 20000 in
theorem ggX5_laysRing_X5_canBegin : GoodIn wsX5_laysRing wsX5_canBegin := goodIn_r _ [7, 1, 8, 9, 10, 6, 11, 12, 13, 14, 15, 16, 21, 22, 23, 24, 25, 26, 27, 28, 29, 30, 31, 32, 33, 34, 35, 36, 37, 38, 39] (by decide +kernel) (by decide +kernel)
set_option maxRecDepth 20000 in
theorem gX5_laysRing_X5_canBegin : GoodIn wsX5_laysRing (wsV RX5 118 RX5 yX5_canBegin wsX5_canBegin) := goodIn_app (goodIn_of _ (by decide +kernel)) ggX5_laysRing_X5_canBegin
set_option maxRecDepth 20000 in
theorem ggX5_laysRing_X5_isRing : GoodIn wsX5_laysRing wsX5_isRing := goodIn_r _ [20, 1, 8, 9, 10, 6, 11, 12, 13, 14, 15, 16, 21, 22, 23, 24, 25, 26, 27, 28, 29, 30, 31, 32, 33, 34, 35, 36, 37, 38, 39] (by decide +kernel) (by decide +kernel)
set_option maxRecDepth 20000 in
theorem gX5_laysRing_X5_isRing : GoodIn wsX5_laysRing (wsV RX5 121 RX5 yX5_isRing wsX5_isRing) := goodIn_app (goodIn_of _ (by decide +kernel)) ggX5_laysRing_X5_isRing
theorem dX5_laysRing_0 : decode cX5_laysRing 0 = .ok (.iconst 0, 1) := by decide +kernel
theorem dX5_laysRing_1 : decode cX5_laysRing 1 = .ok (.istore_n 2, 1) := by decide +kernel
theorem dX5_laysRing_2 : decode cX5_laysRing 2 = .ok (.aload_n 0, 1) := by decide +kernel
theorem dX5_laysRing_3 : decode cX5_laysRing 3 = .ok (.getfield 51, 3) := by decide +kernel
theorem dX5_laysRing_6 : decode cX5_laysRing 6 = .ok (.iconst 0, 1) := by decide +kernel
theorem dX5_laysRing_7 : decode cX5_laysRing 7 = .ok (.iconst (-1), 1) := by decide +kernel
theorem dX5_laysRing_8 : decode cX5_laysRing 8 = .ok (.iastore, 1) := by decide +kernel
theorem dX5_laysRing_9 : decode cX5_laysRing 9 = .ok (.iload_n 2, 1) := by decide +kernel
theorem dX5_laysRing_10 : decode cX5_laysRing 10 = .ok (.ifCond .lt 70, 3) := by decide +kernel
theorem dX5_laysRing_13 : decode cX5_laysRing 13 = .ok (.aload_n 0, 1) := by decide +kernel
theorem dX5_laysRing_14 : decode cX5_laysRing 14 = .ok (.getfield 51, 3) := by decide +kernel
theorem dX5_laysRing_17 : decode cX5_laysRing 17 = .ok (.iload_n 2, 1) := by decide +kernel
theorem dX5_laysRing_18 : decode cX5_laysRing 18 = .ok (.dup2, 1) := by decide +kernel
theorem dX5_laysRing_19 : decode cX5_laysRing 19 = .ok (.iaload, 1) := by decide +kernel
theorem dX5_laysRing_20 : decode cX5_laysRing 20 = .ok (.iconst 1, 1) := by decide +kernel
theorem dX5_laysRing_21 : decode cX5_laysRing 21 = .ok (.iadd, 1) := by decide +kernel
theorem dX5_laysRing_22 : decode cX5_laysRing 22 = .ok (.iastore, 1) := by decide +kernel
theorem dX5_laysRing_23 : decode cX5_laysRing 23 = .ok (.aload_n 0, 1) := by decide +kernel
theorem dX5_laysRing_24 : decode cX5_laysRing 24 = .ok (.getfield 51, 3) := by decide +kernel
theorem dX5_laysRing_27 : decode cX5_laysRing 27 = .ok (.iload_n 2, 1) := by decide +kernel
theorem dX5_laysRing_28 : decode cX5_laysRing 28 = .ok (.iaload, 1) := by decide +kernel
theorem dX5_laysRing_29 : decode cX5_laysRing 29 = .ok (.aload_n 0, 1) := by decide +kernel
theorem dX5_laysRing_30 : decode cX5_laysRing 30 = .ok (.getfield 57, 3) := by decide +kernel
theorem dX5_laysRing_33 : decode cX5_laysRing 33 = .ok (.if_icmp .ne 9, 3) := by decide +kernel
theorem dX5_laysRing_36 : decode cX5_laysRing 36 = .ok (.iinc 2 (-1), 3) := by decide +kernel
theorem dX5_laysRing_39 : decode cX5_laysRing 39 = .ok (.goto (-30), 3) := by decide +kernel
theorem dX5_laysRing_42 : decode cX5_laysRing 42 = .ok (.aload_n 0, 1) := by decide +kernel
theorem dX5_laysRing_43 : decode cX5_laysRing 43 = .ok (.iload_n 2, 1) := by decide +kernel
theorem dX5_laysRing_44 : decode cX5_laysRing 44 = .ok (.invokevirtual 118, 3) := by decide +kernel
