theorem dX5_laysRing_47 : decode cX5_laysRing 47 = .ok (.ifCond .eq (-38), 3) := by decide +kernel
theorem dX5_laysRing_50 : decode cX5_laysRing 50 = .ok (.iload_n 2, 1) := by decide +kernel
theorem dX5_laysRing_51 : decode cX5_laysRing 51 = .ok (.iload_n 1, 1) := by decide +kernel
theorem dX5_laysRing_52 : decode cX5_laysRing 52 = .ok (.iconst 1, 1) := by decide +kernel
theorem dX5_laysRing_53 : decode cX5_laysRing 53 = .ok (.isub, 1) := by decide +kernel
theorem dX5_laysRing_54 : decode cX5_laysRing 54 = .ok (.if_icmp .ne 13, 3) := by decide +kernel
theorem dX5_laysRing_57 : decode cX5_laysRing 57 = .ok (.aload_n 0, 1) := by decide +kernel
theorem dX5_laysRing_58 : decode cX5_laysRing 58 = .ok (.iload_n 1, 1) := by decide +kernel
theorem dX5_laysRing_59 : decode cX5_laysRing 59 = .ok (.invokevirtual 121, 3) := by decide +kernel
theorem dX5_laysRing_62 : decode cX5_laysRing 62 = .ok (.ifCond .eq (-53), 3) := by decide +kernel
theorem dX5_laysRing_65 : decode cX5_laysRing 65 = .ok (.iconst 1, 1) := by decide +kernel
theorem dX5_laysRing_66 : decode cX5_laysRing 66 = .ok (.ireturn, 1) := by decide +kernel
theorem dX5_laysRing_67 : decode cX5_laysRing 67 = .ok (.iinc 2 1, 3) := by decide +kernel
theorem dX5_laysRing_70 : decode cX5_laysRing 70 = .ok (.aload_n 0, 1) := by decide +kernel
theorem dX5_laysRing_71 : decode cX5_laysRing 71 = .ok (.getfield 51, 3) := by decide +kernel
theorem dX5_laysRing_74 : decode cX5_laysRing 74 = .ok (.iload_n 2, 1) := by decide +kernel
theorem dX5_laysRing_75 : decode cX5_laysRing 75 = .ok (.iconst (-1), 1) := by decide +kernel
theorem dX5_laysRing_76 : decode cX5_laysRing 76 = .ok (.iastore, 1) := by decide +kernel
theorem dX5_laysRing_77 : decode cX5_laysRing 77 = .ok (.goto (-68), 3) := by decide +kernel
theorem dX5_laysRing_80 : decode cX5_laysRing 80 = .ok (.iconst 0, 1) := by decide +kernel
theorem dX5_laysRing_81 : decode cX5_laysRing 81 = .ok (.ireturn, 1) := by decide +kernel
set_option maxRecDepth 20000 in
theorem ggX5_nets_X5_laysRing : GoodIn wsX5_nets wsX5_laysRing := goodIn_r _ [9, 1, 10, 11, 12, 13, 8, 14, 15, 16, 17, 18, 4, 19, 20, 21, 22, 23, 24, 25, 26, 30, 31, 32, 33, 34, 35, 36, 37, 38, 39, 40, 41, 42, 43, 44, 45, 46, 47, 48] (by decide +kernel) (by decide +kernel)
set_option maxRecDepth 20000 in
theorem gX5_nets_X5_laysRing : GoodIn wsX5_nets (wsV RX5 124 RX5 yX5_laysRing wsX5_laysRing) := goodIn_app (goodIn_of _ (by decide +kernel)) ggX5_nets_X5_laysRing
set_option maxRecDepth 20000 in
theorem ggX5_nets_X5_free : GoodIn wsX5_nets wsX5_free := goodIn_r _ [18, 4, 19, 20, 21, 8, 22, 30, 31, 32, 33, 34, 35, 36, 37, 38, 39, 40, 41, 42, 43, 44, 45, 46, 47, 48] (by decide +kernel) (by decide +kernel)
set_option maxRecDepth 20000 in
theorem gX5_nets_X5_free : GoodIn wsX5_nets (wsV RX5 115 RX5 yX5_free wsX5_free) := goodIn_app (goodIn_of _ (by decide +kernel)) ggX5_nets_X5_free
set_option maxRecDepth 20000 in
theorem ggX5_nets_X5_least : GoodIn wsX5_nets wsX5_least := goodIn_r _ [29] (by decide +kernel) (by decide +kernel)
set_option maxRecDepth 20000 in
theorem gX5_nets_X5_least : GoodIn wsX5_nets (va_wsS RX5 85 yX5_least wsX5_least) := goodIn_app (goodIn_of _ (by decide +kernel)) ggX5_nets_X5_least
set_option maxRecDepth 20000 in
theorem ggX5_nets_X5_at : GoodIn wsX5_nets wsX5_at := goodIn_r _ [22] (by decide +kernel) (by decide +kernel)
set_option maxRecDepth 20000 in
theorem gX5_nets_X5_at : GoodIn wsX5_nets (va_wsS RX5 64 yX5_at wsX5_at) := goodIn_app (goodIn_of _ (by decide +kernel)) ggX5_nets_X5_at
theorem dX5_nets_0 : decode cX5_nets 0 = .ok (.iconst 2, 1) := by decide +kernel
theorem dX5_nets_1 : decode cX5_nets 1 = .ok (.istore_n 1, 1) := by decide +kernel
theorem dX5_nets_2 : decode cX5_nets 2 = .ok (.iload_n 1, 1) := by decide +kernel
theorem dX5_nets_3 : decode cX5_nets 3 = .ok (.iconst 5, 1) := by decide +kernel
theorem dX5_nets_4 : decode cX5_nets 4 = .ok (.if_icmp .gt 199, 3) := by decide +kernel
theorem dX5_nets_7 : decode cX5_nets 7 = .ok (.aload_n 0, 1) := by decide +kernel
theorem dX5_nets_8 : decode cX5_nets 8 = .ok (.iload_n 1, 1) := by decide +kernel
theorem dX5_nets_9 : decode cX5_nets 9 = .ok (.invokevirtual 124, 3) := by decide +kernel
theorem dX5_nets_12 : decode cX5_nets 12 = .ok (.ifCond .eq 185, 3) := by decide +kernel
theorem dX5_nets_15 : decode cX5_nets 15 = .ok (.aload_n 0, 1) := by decide +kernel
theorem dX5_nets_16 : decode cX5_nets 16 = .ok (.aload_n 0, 1) := by decide +kernel
theorem dX5_nets_17 : decode cX5_nets 17 = .ok (.getfield 51, 3) := by decide +kernel
theorem dX5_nets_20 : decode cX5_nets 20 = .ok (.iload_n 1, 1) := by decide +kernel
theorem dX5_nets_21 : decode cX5_nets 21 = .ok (.iconst 1, 1) := by decide +kernel
theorem dX5_nets_22 : decode cX5_nets 22 = .ok (.isub, 1) := by decide +kernel
theorem dX5_nets_23 : decode cX5_nets 23 = .ok (.iaload, 1) := by decide +kernel
theorem dX5_nets_24 : decode cX5_nets 24 = .ok (.aload_n 0, 1) := by decide +kernel
theorem dX5_nets_25 : decode cX5_nets 25 = .ok (.getfield 51, 3) := by decide +kernel
theorem dX5_nets_28 : decode cX5_nets 28 = .ok (.iconst 0, 1) := by decide +kernel
theorem dX5_nets_29 : decode cX5_nets 29 = .ok (.iaload, 1) := by decide +kernel
theorem dX5_nets_30 : decode cX5_nets 30 = .ok (.invokevirtual 115, 3) := by decide +kernel
theorem dX5_nets_33 : decode cX5_nets 33 = .ok (.istore_n 2, 1) := by decide +kernel
theorem dX5_nets_34 : decode cX5_nets 34 = .ok (.iconst 0, 1) := by decide +kernel
theorem dX5_nets_35 : decode cX5_nets 35 = .ok (.istore_n 3, 1) := by decide +kernel
theorem dX5_nets_36 : decode cX5_nets 36 = .ok (.iload_n 3, 1) := by decide +kernel
theorem dX5_nets_37 : decode cX5_nets 37 = .ok (.iload_n 1, 1) := by decide +kernel
theorem dX5_nets_38 : decode cX5_nets 38 = .ok (.iconst 1, 1) := by decide +kernel
theorem dX5_nets_39 : decode cX5_nets 39 = .ok (.isub, 1) := by decide +kernel
theorem dX5_nets_40 : decode cX5_nets 40 = .ok (.if_icmp .ge 32, 3) := by decide +kernel
theorem dX5_nets_43 : decode cX5_nets 43 = .ok (.iload_n 2, 1) := by decide +kernel
theorem dX5_nets_44 : decode cX5_nets 44 = .ok (.aload_n 0, 1) := by decide +kernel
theorem dX5_nets_45 : decode cX5_nets 45 = .ok (.aload_n 0, 1) := by decide +kernel
theorem dX5_nets_46 : decode cX5_nets 46 = .ok (.getfield 51, 3) := by decide +kernel
theorem dX5_nets_49 : decode cX5_nets 49 = .ok (.iload_n 3, 1) := by decide +kernel
theorem dX5_nets_50 : decode cX5_nets 50 = .ok (.iaload, 1) := by decide +kernel
theorem dX5_nets_51 : decode cX5_nets 51 = .ok (.aload_n 0, 1) := by decide +kernel
theorem dX5_nets_52 : decode cX5_nets 52 = .ok (.getfield 51, 3) := by decide +kernel
theorem dX5_nets_55 : decode cX5_nets 55 = .ok (.iload_n 3, 1) := by decide +kernel
theorem dX5_nets_56 : decode cX5_nets 56 = .ok (.iconst 1, 1) := by decide +kernel
theorem dX5_nets_57 : decode cX5_nets 57 = .ok (.iadd, 1) := by decide +kernel
theorem dX5_nets_58 : decode cX5_nets 58 = .ok (.iaload, 1) := by decide +kernel
theorem dX5_nets_59 : decode cX5_nets 59 = .ok (.invokevirtual 115, 3) := by decide +kernel
theorem dX5_nets_62 : decode cX5_nets 62 = .ok (.invokestatic 85, 3) := by decide +kernel
theorem dX5_nets_65 : decode cX5_nets 65 = .ok (.istore_n 2, 1) := by decide +kernel
theorem dX5_nets_66 : decode cX5_nets 66 = .ok (.iinc 3 1, 3) := by decide +kernel
theorem dX5_nets_69 : decode cX5_nets 69 = .ok (.goto (-33), 3) := by decide +kernel
theorem dX5_nets_72 : decode cX5_nets 72 = .ok (.aload_n 0, 1) := by decide +kernel
theorem dX5_nets_73 : decode cX5_nets 73 = .ok (.getfield 48, 3) := by decide +kernel
theorem dX5_nets_76 : decode cX5_nets 76 = .ok (.bipush 7, 2) := by decide +kernel
theorem dX5_nets_78 : decode cX5_nets 78 = .ok (.aload_n 0, 1) := by decide +kernel
theorem dX5_nets_79 : decode cX5_nets 79 = .ok (.getfield 127, 3) := by decide +kernel
theorem dX5_nets_82 : decode cX5_nets 82 = .ok (.imul, 1) := by decide +kernel
theorem dX5_nets_83 : decode cX5_nets 83 = .ok (.iload_n 1, 1) := by decide +kernel
theorem dX5_nets_84 : decode cX5_nets 84 = .ok (.iastore, 1) := by decide +kernel
theorem dX5_nets_85 : decode cX5_nets 85 = .ok (.aload_n 0, 1) := by decide +kernel
theorem dX5_nets_86 : decode cX5_nets 86 = .ok (.getfield 48, 3) := by decide +kernel
theorem dX5_nets_89 : decode cX5_nets 89 = .ok (.bipush 7, 2) := by decide +kernel
theorem dX5_nets_91 : decode cX5_nets 91 = .ok (.aload_n 0, 1) := by decide +kernel
theorem dX5_nets_92 : decode cX5_nets 92 = .ok (.getfield 127, 3) := by decide +kernel
theorem dX5_nets_95 : decode cX5_nets 95 = .ok (.imul, 1) := by decide +kernel
theorem dX5_nets_96 : decode cX5_nets 96 = .ok (.iconst 1, 1) := by decide +kernel
theorem dX5_nets_97 : decode cX5_nets 97 = .ok (.iadd, 1) := by decide +kernel
theorem dX5_nets_98 : decode cX5_nets 98 = .ok (.iload_n 2, 1) := by decide +kernel
theorem dX5_nets_99 : decode cX5_nets 99 = .ok (.iastore, 1) := by decide +kernel
theorem dX5_nets_100 : decode cX5_nets 100 = .ok (.iconst 0, 1) := by decide +kernel
theorem dX5_nets_101 : decode cX5_nets 101 = .ok (.istore_n 3, 1) := by decide +kernel
theorem dX5_nets_102 : decode cX5_nets 102 = .ok (.iload_n 3, 1) := by decide +kernel
theorem dX5_nets_103 : decode cX5_nets 103 = .ok (.iconst 5, 1) := by decide +kernel
theorem dX5_nets_104 : decode cX5_nets 104 = .ok (.if_icmp .ge 40, 3) := by decide +kernel
theorem dX5_nets_107 : decode cX5_nets 107 = .ok (.aload_n 0, 1) := by decide +kernel
theorem dX5_nets_108 : decode cX5_nets 108 = .ok (.getfield 48, 3) := by decide +kernel
theorem dX5_nets_111 : decode cX5_nets 111 = .ok (.bipush 7, 2) := by decide +kernel
theorem dX5_nets_113 : decode cX5_nets 113 = .ok (.aload_n 0, 1) := by decide +kernel
theorem dX5_nets_114 : decode cX5_nets 114 = .ok (.getfield 127, 3) := by decide +kernel
theorem dX5_nets_117 : decode cX5_nets 117 = .ok (.imul, 1) := by decide +kernel
theorem dX5_nets_118 : decode cX5_nets 118 = .ok (.iconst 2, 1) := by decide +kernel
theorem dX5_nets_119 : decode cX5_nets 119 = .ok (.iadd, 1) := by decide +kernel
theorem dX5_nets_120 : decode cX5_nets 120 = .ok (.iload_n 3, 1) := by decide +kernel
theorem dX5_nets_121 : decode cX5_nets 121 = .ok (.iadd, 1) := by decide +kernel
theorem dX5_nets_122 : decode cX5_nets 122 = .ok (.iload_n 3, 1) := by decide +kernel
theorem dX5_nets_123 : decode cX5_nets 123 = .ok (.iload_n 1, 1) := by decide +kernel
theorem dX5_nets_124 : decode cX5_nets 124 = .ok (.if_icmp .ge 12, 3) := by decide +kernel
theorem dX5_nets_127 : decode cX5_nets 127 = .ok (.aload_n 0, 1) := by decide +kernel
theorem dX5_nets_128 : decode cX5_nets 128 = .ok (.getfield 51, 3) := by decide +kernel
theorem dX5_nets_131 : decode cX5_nets 131 = .ok (.iload_n 3, 1) := by decide +kernel
theorem dX5_nets_132 : decode cX5_nets 132 = .ok (.iaload, 1) := by decide +kernel
theorem dX5_nets_133 : decode cX5_nets 133 = .ok (.goto 4, 3) := by decide +kernel
theorem dX5_nets_136 : decode cX5_nets 136 = .ok (.iconst (-1), 1) := by decide +kernel
theorem dX5_nets_137 : decode cX5_nets 137 = .ok (.iastore, 1) := by decide +kernel
theorem dX5_nets_138 : decode cX5_nets 138 = .ok (.iinc 3 1, 3) := by decide +kernel
theorem dX5_nets_141 : decode cX5_nets 141 = .ok (.goto (-39), 3) := by decide +kernel
theorem dX5_nets_144 : decode cX5_nets 144 = .ok (.iconst 0, 1) := by decide +kernel
theorem dX5_nets_145 : decode cX5_nets 145 = .ok (.istore_n 3, 1) := by decide +kernel
theorem dX5_nets_146 : decode cX5_nets 146 = .ok (.iload_n 3, 1) := by decide +kernel
theorem dX5_nets_147 : decode cX5_nets 147 = .ok (.iload_n 1, 1) := by decide +kernel
theorem dX5_nets_148 : decode cX5_nets 148 = .ok (.if_icmp .ge 37, 3) := by decide +kernel
theorem dX5_nets_151 : decode cX5_nets 151 = .ok (.aload_n 0, 1) := by decide +kernel
theorem dX5_nets_152 : decode cX5_nets 152 = .ok (.getfield 13, 3) := by decide +kernel
theorem dX5_nets_155 : decode cX5_nets 155 = .ok (.aload_n 0, 1) := by decide +kernel
theorem dX5_nets_156 : decode cX5_nets 156 = .ok (.getfield 51, 3) := by decide +kernel
theorem dX5_nets_159 : decode cX5_nets 159 = .ok (.iload_n 3, 1) := by decide +kernel
theorem dX5_nets_160 : decode cX5_nets 160 = .ok (.iaload, 1) := by decide +kernel
theorem dX5_nets_161 : decode cX5_nets 161 = .ok (.aload_n 0, 1) := by decide +kernel
theorem dX5_nets_162 : decode cX5_nets 162 = .ok (.getfield 51, 3) := by decide +kernel
theorem dX5_nets_165 : decode cX5_nets 165 = .ok (.iload_n 3, 1) := by decide +kernel
theorem dX5_nets_166 : decode cX5_nets 166 = .ok (.iconst 1, 1) := by decide +kernel
theorem dX5_nets_167 : decode cX5_nets 167 = .ok (.iadd, 1) := by decide +kernel
theorem dX5_nets_168 : decode cX5_nets 168 = .ok (.iload_n 1, 1) := by decide +kernel
theorem dX5_nets_169 : decode cX5_nets 169 = .ok (.irem, 1) := by decide +kernel
theorem dX5_nets_170 : decode cX5_nets 170 = .ok (.iaload, 1) := by decide +kernel
theorem dX5_nets_171 : decode cX5_nets 171 = .ok (.invokestatic 64, 3) := by decide +kernel
theorem dX5_nets_174 : decode cX5_nets 174 = .ok (.dup2, 1) := by decide +kernel
theorem dX5_nets_175 : decode cX5_nets 175 = .ok (.iaload, 1) := by decide +kernel
theorem dX5_nets_176 : decode cX5_nets 176 = .ok (.iload_n 2, 1) := by decide +kernel
theorem dX5_nets_177 : decode cX5_nets 177 = .ok (.isub, 1) := by decide +kernel
theorem dX5_nets_178 : decode cX5_nets 178 = .ok (.iastore, 1) := by decide +kernel
theorem dX5_nets_179 : decode cX5_nets 179 = .ok (.iinc 3 1, 3) := by decide +kernel
theorem dX5_nets_182 : decode cX5_nets 182 = .ok (.goto (-36), 3) := by decide +kernel
theorem dX5_nets_185 : decode cX5_nets 185 = .ok (.aload_n 0, 1) := by decide +kernel
theorem dX5_nets_186 : decode cX5_nets 186 = .ok (.dup, 1) := by decide +kernel
theorem dX5_nets_187 : decode cX5_nets 187 = .ok (.getfield 127, 3) := by decide +kernel
theorem dX5_nets_190 : decode cX5_nets 190 = .ok (.iconst 1, 1) := by decide +kernel
theorem dX5_nets_191 : decode cX5_nets 191 = .ok (.iadd, 1) := by decide +kernel
theorem dX5_nets_192 : decode cX5_nets 192 = .ok (.putfield 127, 3) := by decide +kernel
theorem dX5_nets_195 : decode cX5_nets 195 = .ok (.iconst 1, 1) := by decide +kernel
theorem dX5_nets_196 : decode cX5_nets 196 = .ok (.ireturn, 1) := by decide +kernel
theorem dX5_nets_197 : decode cX5_nets 197 = .ok (.iinc 1 1, 3) := by decide +kernel
theorem dX5_nets_200 : decode cX5_nets 200 = .ok (.goto (-198), 3) := by decide +kernel
theorem dX5_nets_203 : decode cX5_nets 203 = .ok (.iconst 0, 1) := by decide +kernel
theorem dX5_nets_204 : decode cX5_nets 204 = .ok (.ireturn, 1) := by decide +kernel
set_option maxRecDepth 20000 in
theorem ggX5_isLazy_X5_balanceOf : GoodIn wsX5_isLazy wsX5_balanceOf := goodIn_r _ [8, 9, 10, 11, 7, 12, 19, 20, 21, 22, 23, 24, 25, 26, 27, 28, 29, 30, 31, 32, 33, 34, 35, 36, 37] (by decide +kernel) (by decide +kernel)
set_option maxRecDepth 20000 in
theorem gX5_isLazy_X5_balanceOf : GoodIn wsX5_isLazy (wsV RX5 103 RX5 yX5_balanceOf wsX5_balanceOf) := goodIn_app (goodIn_of _ (by decide +kernel)) ggX5_isLazy_X5_balanceOf
set_option maxRecDepth 20000 in
theorem ggX5_isLazy_X5_isOf : GoodIn wsX5_isLazy wsX5_isOf := goodIn_r _ [16, 17, 18, 19, 20, 21, 22, 23, 24, 25, 26, 27, 28, 29, 30, 31, 32, 33, 34, 35, 36, 37] (by decide +kernel) (by decide +kernel)
set_option maxRecDepth 20000 in
theorem gX5_isLazy_X5_isOf : GoodIn wsX5_isLazy (wsV RX5 71 RX5 yX5_isOf wsX5_isOf) := goodIn_app (goodIn_of _ (by decide +kernel)) ggX5_isLazy_X5_isOf
theorem dX5_isLazy_0 : decode cX5_isLazy 0 = .ok (.aload_n 0, 1) := by decide +kernel
theorem dX5_isLazy_1 : decode cX5_isLazy 1 = .ok (.iload_n 1, 1) := by decide +kernel
theorem dX5_isLazy_2 : decode cX5_isLazy 2 = .ok (.invokevirtual 103, 3) := by decide +kernel
theorem dX5_isLazy_5 : decode cX5_isLazy 5 = .ok (.ifCond .le 7, 3) := by decide +kernel
theorem dX5_isLazy_8 : decode cX5_isLazy 8 = .ok (.iconst 1, 1) := by decide +kernel
theorem dX5_isLazy_9 : decode cX5_isLazy 9 = .ok (.goto 4, 3) := by decide +kernel
theorem dX5_isLazy_12 : decode cX5_isLazy 12 = .ok (.iconst 0, 1) := by decide +kernel
theorem dX5_isLazy_13 : decode cX5_isLazy 13 = .ok (.istore_n 2, 1) := by decide +kernel
theorem dX5_isLazy_14 : decode cX5_isLazy 14 = .ok (.iconst 0, 1) := by decide +kernel
theorem dX5_isLazy_15 : decode cX5_isLazy 15 = .ok (.istore_n 3, 1) := by decide +kernel
theorem dX5_isLazy_16 : decode cX5_isLazy 16 = .ok (.iload_n 3, 1) := by decide +kernel
theorem dX5_isLazy_17 : decode cX5_isLazy 17 = .ok (.aload_n 0, 1) := by decide +kernel
theorem dX5_isLazy_18 : decode cX5_isLazy 18 = .ok (.getfield 68, 3) := by decide +kernel
theorem dX5_isLazy_21 : decode cX5_isLazy 21 = .ok (.if_icmp .ge 43, 3) := by decide +kernel
theorem dX5_isLazy_24 : decode cX5_isLazy 24 = .ok (.iload_n 2, 1) := by decide +kernel
theorem dX5_isLazy_25 : decode cX5_isLazy 25 = .ok (.ifCond .eq 31, 3) := by decide +kernel
theorem dX5_isLazy_28 : decode cX5_isLazy 28 = .ok (.aload_n 0, 1) := by decide +kernel
theorem dX5_isLazy_29 : decode cX5_isLazy 29 = .ok (.iload_n 3, 1) := by decide +kernel
theorem dX5_isLazy_30 : decode cX5_isLazy 30 = .ok (.iload_n 1, 1) := by decide +kernel
theorem dX5_isLazy_31 : decode cX5_isLazy 31 = .ok (.invokevirtual 71, 3) := by decide +kernel
theorem dX5_isLazy_34 : decode cX5_isLazy 34 = .ok (.ifCond .eq 18, 3) := by decide +kernel
theorem dX5_isLazy_37 : decode cX5_isLazy 37 = .ok (.aload_n 0, 1) := by decide +kernel
theorem dX5_isLazy_38 : decode cX5_isLazy 38 = .ok (.getfield 35, 3) := by decide +kernel
theorem dX5_isLazy_41 : decode cX5_isLazy 41 = .ok (.iload_n 3, 1) := by decide +kernel
theorem dX5_isLazy_42 : decode cX5_isLazy 42 = .ok (.iaload, 1) := by decide +kernel
theorem dX5_isLazy_43 : decode cX5_isLazy 43 = .ok (.aload_n 0, 1) := by decide +kernel
theorem dX5_isLazy_44 : decode cX5_isLazy 44 = .ok (.getfield 75, 3) := by decide +kernel
theorem dX5_isLazy_47 : decode cX5_isLazy 47 = .ok (.iconst 4, 1) := by decide +kernel
theorem dX5_isLazy_48 : decode cX5_isLazy 48 = .ok (.isub, 1) := by decide +kernel
theorem dX5_isLazy_49 : decode cX5_isLazy 49 = .ok (.if_icmp .ge 7, 3) := by decide +kernel
theorem dX5_isLazy_52 : decode cX5_isLazy 52 = .ok (.iconst 1, 1) := by decide +kernel
theorem dX5_isLazy_53 : decode cX5_isLazy 53 = .ok (.goto 4, 3) := by decide +kernel
theorem dX5_isLazy_56 : decode cX5_isLazy 56 = .ok (.iconst 0, 1) := by decide +kernel
theorem dX5_isLazy_57 : decode cX5_isLazy 57 = .ok (.istore_n 2, 1) := by decide +kernel
theorem dX5_isLazy_58 : decode cX5_isLazy 58 = .ok (.iinc 3 1, 3) := by decide +kernel
theorem dX5_isLazy_61 : decode cX5_isLazy 61 = .ok (.goto (-45), 3) := by decide +kernel
theorem dX5_isLazy_64 : decode cX5_isLazy 64 = .ok (.iload_n 2, 1) := by decide +kernel
theorem dX5_isLazy_65 : decode cX5_isLazy 65 = .ok (.ireturn, 1) := by decide +kernel
set_option maxRecDepth 20000 in
theorem ggX5_pays_X5_balanceOf : GoodIn wsX5_pays wsX5_balanceOf := goodIn_r _ [8, 3, 9, 10, 7, 11, 20, 21, 22, 23, 24, 25, 26, 27, 28, 29, 30, 31, 32, 33, 34, 35, 36, 37, 38] (by decide +kernel) (by decide +kernel)
set_option maxRecDepth 20000 in
theorem gX5_pays_X5_balanceOf : GoodIn wsX5_pays (wsV RX5 103 RX5 yX5_balanceOf wsX5_balanceOf) := goodIn_app (goodIn_of _ (by decide +kernel)) ggX5_pays_X5_balanceOf
set_option maxRecDepth 20000 in
theorem ggX5_pays_X5_free : GoodIn wsX5_pays wsX5_free := goodIn_r _ [15, 3, 16, 9, 10, 7, 11, 20, 21, 22, 23, 24, 25, 26, 27, 28, 29, 30, 31, 32, 33, 34, 35, 36, 37, 38] (by decide +kernel) (by decide +kernel)
set_option maxRecDepth 20000 in
theorem gX5_pays_X5_free : GoodIn wsX5_pays (wsV RX5 115 RX5 yX5_free wsX5_free) := goodIn_app (goodIn_of _ (by decide +kernel)) ggX5_pays_X5_free
set_option maxRecDepth 20000 in
theorem ggX5_pays_X5_least : GoodIn wsX5_pays wsX5_least := goodIn_r _ [19] (by decide +kernel) (by decide +kernel)
set_option maxRecDepth 20000 in
theorem gX5_pays_X5_least : GoodIn wsX5_pays (va_wsS RX5 85 yX5_least wsX5_least) := goodIn_app (goodIn_of _ (by decide +kernel)) ggX5_pays_X5_least
set_option maxRecDepth 20000 in
theorem ggX5_pays_X5_at : GoodIn wsX5_pays wsX5_at := goodIn_r _ [11] (by decide +kernel) (by decide +kernel)
set_option maxRecDepth 20000 in
theorem gX5_pays_X5_at : GoodIn wsX5_pays (va_wsS RX5 64 yX5_at wsX5_at) := goodIn_app (goodIn_of _ (by decide +kernel)) ggX5_pays_X5_at
theorem dX5_pays_0 : decode cX5_pays 0 = .ok (.aload_n 0, 1) := by decide +kernel
theorem dX5_pays_1 : decode cX5_pays 1 = .ok (.iload_n 1, 1) := by decide +kernel
theorem dX5_pays_2 : decode cX5_pays 2 = .ok (.invokevirtual 103, 3) := by decide +kernel
theorem dX5_pays_5 : decode cX5_pays 5 = .ok (.i2l, 1) := by decide +kernel
theorem dX5_pays_6 : decode cX5_pays 6 = .ok (.aload_n 0, 1) := by decide +kernel
theorem dX5_pays_7 : decode cX5_pays 7 = .ok (.getfield 44, 3) := by decide +kernel
theorem dX5_pays_10 : decode cX5_pays 10 = .ok (.i2l, 1) := by decide +kernel
theorem dX5_pays_11 : decode cX5_pays 11 = .ok (.lmul, 1) := by decide +kernel
theorem dX5_pays_12 : decode cX5_pays 12 = .ok (.ldc2_w 130, 3) := by decide +kernel
theorem dX5_pays_15 : decode cX5_pays 15 = .ok (.ldiv, 1) := by decide +kernel
theorem dX5_pays_16 : decode cX5_pays 16 = .ok (.l2i, 1) := by decide +kernel
theorem dX5_pays_17 : decode cX5_pays 17 = .ok (.istore_n 2, 1) := by decide +kernel
theorem dX5_pays_18 : decode cX5_pays 18 = .ok (.iload_n 2, 1) := by decide +kernel
theorem dX5_pays_19 : decode cX5_pays 19 = .ok (.ifCond .le 116, 3) := by decide +kernel
theorem dX5_pays_22 : decode cX5_pays 22 = .ok (.iconst (-1), 1) := by decide +kernel
theorem dX5_pays_23 : decode cX5_pays 23 = .ok (.istore_n 3, 1) := by decide +kernel
theorem dX5_pays_24 : decode cX5_pays 24 = .ok (.iconst 0, 1) := by decide +kernel
theorem dX5_pays_25 : decode cX5_pays 25 = .ok (.istore 4, 2) := by decide +kernel
theorem dX5_pays_27 : decode cX5_pays 27 = .ok (.iload 4, 2) := by decide +kernel
theorem dX5_pays_29 : decode cX5_pays 29 = .ok (.bipush 8, 2) := by decide +kernel
theorem dX5_pays_31 : decode cX5_pays 31 = .ok (.if_icmp .ge 47, 3) := by decide +kernel
theorem dX5_pays_34 : decode cX5_pays 34 = .ok (.aload_n 0, 1) := by decide +kernel
theorem dX5_pays_35 : decode cX5_pays 35 = .ok (.iload 4, 2) := by decide +kernel
theorem dX5_pays_37 : decode cX5_pays 37 = .ok (.iload_n 1, 1) := by decide +kernel
theorem dX5_pays_38 : decode cX5_pays 38 = .ok (.invokevirtual 115, 3) := by decide +kernel
theorem dX5_pays_41 : decode cX5_pays 41 = .ok (.ifCond .le 29, 3) := by decide +kernel
theorem dX5_pays_44 : decode cX5_pays 44 = .ok (.iload_n 3, 1) := by decide +kernel
theorem dX5_pays_45 : decode cX5_pays 45 = .ok (.iconst (-1), 1) := by decide +kernel
theorem dX5_pays_46 : decode cX5_pays 46 = .ok (.if_icmp .eq 19, 3) := by decide +kernel
theorem dX5_pays_49 : decode cX5_pays 49 = .ok (.aload_n 0, 1) := by decide +kernel
theorem dX5_pays_50 : decode cX5_pays 50 = .ok (.iload 4, 2) := by decide +kernel
theorem dX5_pays_52 : decode cX5_pays 52 = .ok (.iload_n 1, 1) := by decide +kernel
theorem dX5_pays_53 : decode cX5_pays 53 = .ok (.invokevirtual 115, 3) := by decide +kernel
theorem dX5_pays_56 : decode cX5_pays 56 = .ok (.aload_n 0, 1) := by decide +kernel
theorem dX5_pays_57 : decode cX5_pays 57 = .ok (.iload_n 3, 1) := by decide +kernel
theorem dX5_pays_58 : decode cX5_pays 58 = .ok (.iload_n 1, 1) := by decide +kernel
theorem dX5_pays_59 : decode cX5_pays 59 = .ok (.invokevirtual 115, 3) := by decide +kernel
theorem dX5_pays_62 : decode cX5_pays 62 = .ok (.if_icmp .le 8, 3) := by decide +kernel
theorem dX5_pays_65 : decode cX5_pays 65 = .ok (.iload 4, 2) := by decide +kernel
theorem dX5_pays_67 : decode cX5_pays 67 = .ok (.goto 4, 3) := by decide +kernel
theorem dX5_pays_70 : decode cX5_pays 70 = .ok (.iload_n 3, 1) := by decide +kernel
theorem dX5_pays_71 : decode cX5_pays 71 = .ok (.istore_n 3, 1) := by decide +kernel
theorem dX5_pays_72 : decode cX5_pays 72 = .ok (.iinc 4 1, 3) := by decide +kernel
theorem dX5_pays_75 : decode cX5_pays 75 = .ok (.goto (-48), 3) := by decide +kernel
theorem dX5_pays_78 : decode cX5_pays 78 = .ok (.iload_n 3, 1) := by decide +kernel
theorem dX5_pays_79 : decode cX5_pays 79 = .ok (.iconst (-1), 1) := by decide +kernel
theorem dX5_pays_80 : decode cX5_pays 80 = .ok (.if_icmp .ne 4, 3) := by decide +kernel
theorem dX5_pays_83 : decode cX5_pays 83 = .ok (.return_, 1) := by decide +kernel
theorem dX5_pays_84 : decode cX5_pays 84 = .ok (.iload_n 2, 1) := by decide +kernel
theorem dX5_pays_85 : decode cX5_pays 85 = .ok (.aload_n 0, 1) := by decide +kernel
theorem dX5_pays_86 : decode cX5_pays 86 = .ok (.iload_n 3, 1) := by decide +kernel
theorem dX5_pays_87 : decode cX5_pays 87 = .ok (.iload_n 1, 1) := by decide +kernel
theorem dX5_pays_88 : decode cX5_pays 88 = .ok (.invokevirtual 115, 3) := by decide +kernel
theorem dX5_pays_91 : decode cX5_pays 91 = .ok (.invokestatic 85, 3) := by decide +kernel
theorem dX5_pays_94 : decode cX5_pays 94 = .ok (.istore 4, 2) := by decide +kernel
theorem dX5_pays_96 : decode cX5_pays 96 = .ok (.aload_n 0, 1) := by decide +kernel
theorem dX5_pays_97 : decode cX5_pays 97 = .ok (.getfield 13, 3) := by decide +kernel
theorem dX5_pays_100 : decode cX5_pays 100 = .ok (.iload_n 3, 1) := by decide +kernel
theorem dX5_pays_101 : decode cX5_pays 101 = .ok (.iload_n 1, 1) := by decide +kernel
theorem dX5_pays_102 : decode cX5_pays 102 = .ok (.invokestatic 64, 3) := by decide +kernel
theorem dX5_pays_105 : decode cX5_pays 105 = .ok (.dup2, 1) := by decide +kernel
theorem dX5_pays_106 : decode cX5_pays 106 = .ok (.iaload, 1) := by decide +kernel
theorem dX5_pays_107 : decode cX5_pays 107 = .ok (.iload 4, 2) := by decide +kernel
theorem dX5_pays_109 : decode cX5_pays 109 = .ok (.isub, 1) := by decide +kernel
theorem dX5_pays_110 : decode cX5_pays 110 = .ok (.iastore, 1) := by decide +kernel
theorem dX5_pays_111 : decode cX5_pays 111 = .ok (.aload_n 0, 1) := by decide +kernel
theorem dX5_pays_112 : decode cX5_pays 112 = .ok (.getfield 13, 3) := by decide +kernel
theorem dX5_pays_115 : decode cX5_pays 115 = .ok (.iload_n 3, 1) := by decide +kernel
theorem dX5_pays_116 : decode cX5_pays 116 = .ok (.bipush 8, 2) := by decide +kernel
theorem dX5_pays_118 : decode cX5_pays 118 = .ok (.invokestatic 64, 3) := by decide +kernel
theorem dX5_pays_121 : decode cX5_pays 121 = .ok (.dup2, 1) := by decide +kernel
theorem dX5_pays_122 : decode cX5_pays 122 = .ok (.iaload, 1) := by decide +kernel
theorem dX5_pays_123 : decode cX5_pays 123 = .ok (.iload 4, 2) := by decide +kernel
theorem dX5_pays_125 : decode cX5_pays 125 = .ok (.iadd, 1) := by decide +kernel
theorem dX5_pays_126 : decode cX5_pays 126 = .ok (.iastore, 1) := by decide +kernel
theorem dX5_pays_127 : decode cX5_pays 127 = .ok (.iload_n 2, 1) := by decide +kernel
theorem dX5_pays_128 : decode cX5_pays 128 = .ok (.iload 4, 2) := by decide +kernel
theorem dX5_pays_130 : decode cX5_pays 130 = .ok (.isub, 1) := by decide +kernel
theorem dX5_pays_131 : decode cX5_pays 131 = .ok (.istore_n 2, 1) := by decide +kernel
theorem dX5_pays_132 : decode cX5_pays 132 = .ok (.goto (-114), 3) := by decide +kernel
theorem dX5_pays_135 : decode cX5_pays 135 = .ok (.return_, 1) := by decide +kernel
set_option maxRecDepth 20000 in
theorem ggX5_night_X5_in : GoodIn wsX5_night wsX5_in := goodIn_r _ [9] (by decide +kernel) (by decide +kernel)
set_option maxRecDepth 20000 in
theorem gX5_night_X5_in : GoodIn wsX5_night (va_wsS RX5 60 yX5_in wsX5_in) := goodIn_app (goodIn_of _ (by decide +kernel)) ggX5_night_X5_in
set_option maxRecDepth 20000 in
theorem ggX5_night_X5_nets : GoodIn wsX5_night wsX5_nets := goodIn_r _ [13, 14, 15, 2, 16, 17, 18, 19, 8, 20, 3, 21, 22, 23, 24, 25, 26, 27, 28, 29, 30, 31, 32, 33, 34, 35, 36, 37, 38, 39, 62, 63, 64, 65, 66, 67, 68, 69, 70, 71, 72, 73, 74, 75, 76, 77, 78, 79, 80] (by decide +kernel) (by decide +kernel)
set_option maxRecDepth 20000 in
theorem gX5_night_X5_nets : GoodIn wsX5_night (wsV RX5 132 RX5 yX5_nets wsX5_nets) := goodIn_app (goodIn_of _ (by decide +kernel)) ggX5_night_X5_nets
set_option maxRecDepth 20000 in
theorem ggX5_night_X5_isLazy : GoodIn wsX5_night wsX5_isLazy := goodIn_r _ [43, 44, 45, 5, 46, 47, 48, 8, 49, 16, 30, 31, 32, 50, 51, 52, 53, 54, 55, 62, 63, 64, 65, 66, 67, 68, 69, 70, 71, 72, 73, 74, 75, 76, 77, 78, 79, 80] (by decide +kernel) (by decide +kernel)
set_option maxRecDepth 20000 in
theorem gX5_night_X5_isLazy : GoodIn wsX5_night (wsV RX5 136 RX5 yX5_isLazy wsX5_isLazy) := goodIn_app (goodIn_of _ (by decide +kernel)) ggX5_night_X5_isLazy
set_option maxRecDepth 20000 in
theorem ggX5_night_X5_pays : GoodIn wsX5_night wsX5_pays := goodIn_r _ [59, 60, 61, 16, 46, 47, 48, 8, 49, 30, 31, 32, 25, 26, 27, 28, 29, 37, 38, 39, 62, 63, 64, 65, 66, 67, 68, 69, 70, 71, 72, 73, 74, 75, 76, 77, 78, 79, 80] (by decide +kernel) (by decide +kernel)
set_option maxRecDepth 20000 in
theorem gX5_night_X5_pays : GoodIn wsX5_night (wsV RX5 139 RX5 yX5_pays wsX5_pays) := goodIn_app (goodIn_of _ (by decide +kernel)) ggX5_night_X5_pays
theorem dX5_night_0 : decode cX5_night 0 = .ok (.aload_n 0, 1) := by decide +kernel
theorem dX5_night_1 : decode cX5_night 1 = .ok (.iload_n 1, 1) := by decide +kernel
theorem dX5_night_2 : decode cX5_night 2 = .ok (.iconst 1, 1) := by decide +kernel
theorem dX5_night_3 : decode cX5_night 3 = .ok (.bipush 20, 2) := by decide +kernel
theorem dX5_night_5 : decode cX5_night 5 = .ok (.invokestatic 60, 3) := by decide +kernel
theorem dX5_night_8 : decode cX5_night 8 = .ok (.ifCond .eq 7, 3) := by decide +kernel
theorem dX5_night_11 : decode cX5_night 11 = .ok (.iconst 0, 1) := by decide +kernel
theorem dX5_night_12 : decode cX5_night 12 = .ok (.goto 4, 3) := by decide +kernel
theorem dX5_night_15 : decode cX5_night 15 = .ok (.iconst 1, 1) := by decide +kernel
theorem dX5_night_16 : decode cX5_night 16 = .ok (.putfield 54, 3) := by decide +kernel
theorem dX5_night_19 : decode cX5_night 19 = .ok (.iconst 0, 1) := by decide +kernel
theorem dX5_night_20 : decode cX5_night 20 = .ok (.istore_n 2, 1) := by decide +kernel
theorem dX5_night_21 : decode cX5_night 21 = .ok (.iload_n 2, 1) := by decide +kernel
theorem dX5_night_22 : decode cX5_night 22 = .ok (.iload_n 1, 1) := by decide +kernel
theorem dX5_night_23 : decode cX5_night 23 = .ok (.if_icmp .ge 88, 3) := by decide +kernel
theorem dX5_night_26 : decode cX5_night 26 = .ok (.aload_n 0, 1) := by decide +kernel
theorem dX5_night_27 : decode cX5_night 27 = .ok (.getfield 54, 3) := by decide +kernel
theorem dX5_night_30 : decode cX5_night 30 = .ok (.ifCond .ne 81, 3) := by decide +kernel
theorem dX5_night_33 : decode cX5_night 33 = .ok (.aload_n 0, 1) := by decide +kernel
theorem dX5_night_34 : decode cX5_night 34 = .ok (.iconst 0, 1) := by decide +kernel
theorem dX5_night_35 : decode cX5_night 35 = .ok (.putfield 127, 3) := by decide +kernel
theorem dX5_night_38 : decode cX5_night 38 = .ok (.iconst 1, 1) := by decide +kernel
theorem dX5_night_39 : decode cX5_night 39 = .ok (.istore_n 3, 1) := by decide +kernel
theorem dX5_night_40 : decode cX5_night 40 = .ok (.iload_n 3, 1) := by decide +kernel
theorem dX5_night_41 : decode cX5_night 41 = .ok (.ifCond .eq 11, 3) := by decide +kernel
theorem dX5_night_44 : decode cX5_night 44 = .ok (.aload_n 0, 1) := by decide +kernel
theorem dX5_night_45 : decode cX5_night 45 = .ok (.invokevirtual 132, 3) := by decide +kernel
theorem dX5_night_48 : decode cX5_night 48 = .ok (.istore_n 3, 1) := by decide +kernel
theorem dX5_night_49 : decode cX5_night 49 = .ok (.goto (-9), 3) := by decide +kernel
theorem dX5_night_52 : decode cX5_night 52 = .ok (.iconst 0, 1) := by decide +kernel
theorem dX5_night_53 : decode cX5_night 53 = .ok (.istore 4, 2) := by decide +kernel
theorem dX5_night_55 : decode cX5_night 55 = .ok (.iload 4, 2) := by decide +kernel
theorem dX5_night_57 : decode cX5_night 57 = .ok (.aload_n 0, 1) := by decide +kernel
theorem dX5_night_58 : decode cX5_night 58 = .ok (.getfield 57, 3) := by decide +kernel
theorem dX5_night_61 : decode cX5_night 61 = .ok (.if_icmp .ge 34, 3) := by decide +kernel
theorem dX5_night_64 : decode cX5_night 64 = .ok (.aload_n 0, 1) := by decide +kernel
theorem dX5_night_65 : decode cX5_night 65 = .ok (.getfield 7, 3) := by decide +kernel
theorem dX5_night_68 : decode cX5_night 68 = .ok (.iload 4, 2) := by decide +kernel
theorem dX5_night_70 : decode cX5_night 70 = .ok (.baload, 1) := by decide +kernel
theorem dX5_night_71 : decode cX5_night 71 = .ok (.ifCond .eq 18, 3) := by decide +kernel
theorem dX5_night_74 : decode cX5_night 74 = .ok (.aload_n 0, 1) := by decide +kernel
theorem dX5_night_75 : decode cX5_night 75 = .ok (.iload 4, 2) := by decide +kernel
theorem dX5_night_77 : decode cX5_night 77 = .ok (.invokevirtual 136, 3) := by decide +kernel
theorem dX5_night_80 : decode cX5_night 80 = .ok (.ifCond .eq 9, 3) := by decide +kernel
theorem dX5_night_83 : decode cX5_night 83 = .ok (.aload_n 0, 1) := by decide +kernel
theorem dX5_night_84 : decode cX5_night 84 = .ok (.iload 4, 2) := by decide +kernel
theorem dX5_night_86 : decode cX5_night 86 = .ok (.invokevirtual 139, 3) := by decide +kernel
theorem dX5_night_89 : decode cX5_night 89 = .ok (.iinc 4 1, 3) := by decide +kernel
theorem dX5_night_92 : decode cX5_night 92 = .ok (.goto (-37), 3) := by decide +kernel
theorem dX5_night_95 : decode cX5_night 95 = .ok (.aload_n 0, 1) := by decide +kernel
theorem dX5_night_96 : decode cX5_night 96 = .ok (.dup, 1) := by decide +kernel
theorem dX5_night_97 : decode cX5_night 97 = .ok (.getfield 75, 3) := by decide +kernel
theorem dX5_night_100 : decode cX5_night 100 = .ok (.iconst 1, 1) := by decide +kernel
theorem dX5_night_101 : decode cX5_night 101 = .ok (.iadd, 1) := by decide +kernel
theorem dX5_night_102 : decode cX5_night 102 = .ok (.putfield 75, 3) := by decide +kernel
theorem dX5_night_105 : decode cX5_night 105 = .ok (.iinc 2 1, 3) := by decide +kernel
theorem dX5_night_108 : decode cX5_night 108 = .ok (.goto (-87), 3) := by decide +kernel
theorem dX5_night_111 : decode cX5_night 111 = .ok (.aload_n 0, 1) := by decide +kernel
theorem dX5_night_112 : decode cX5_night 112 = .ok (.getfield 54, 3) := by decide +kernel
theorem dX5_night_115 : decode cX5_night 115 = .ok (.ifCond .le 7, 3) := by decide +kernel
theorem dX5_night_118 : decode cX5_night 118 = .ok (.iconst 0, 1) := by decide +kernel
theorem dX5_night_119 : decode cX5_night 119 = .ok (.goto 7, 3) := by decide +kernel
theorem dX5_night_122 : decode cX5_night 122 = .ok (.aload_n 0, 1) := by decide +kernel
theorem dX5_night_123 : decode cX5_night 123 = .ok (.getfield 75, 3) := by decide +kernel
theorem dX5_night_126 : decode cX5_night 126 = .ok (.ireturn, 1) := by decide +kernel
set_option maxRecDepth 20000 in
theorem ggX5_balance_X5_was : GoodIn wsX5_balance wsX5_was := goodIn_r _ [6, 7, 8, 9, 5, 10, 19, 20, 21, 22, 23, 24, 25, 26, 27, 28, 29, 30, 31, 32, 33, 34, 35, 36, 37] (by decide +kernel) (by decide +kernel)
set_option maxRecDepth 20000 in
theorem gX5_balance_X5_was : GoodIn wsX5_balance (wsV RX5 142 RX5 yX5_was wsX5_was) := goodIn_app (goodIn_of _ (by decide +kernel)) ggX5_balance_X5_was
set_option maxRecDepth 20000 in
theorem ggX5_balance_X5_balanceOf : GoodIn wsX5_balance wsX5_balanceOf := goodIn_r _ [14, 15, 16, 17, 5, 18, 19, 20, 21, 22, 23, 24, 25, 26, 27, 28, 29, 30, 31, 32, 33, 34, 35, 36, 37] (by decide +kernel) (by decide +kernel)
set_option maxRecDepth 20000 in
theorem gX5_balance_X5_balanceOf : GoodIn wsX5_balance (wsV RX5 103 RX5 yX5_balanceOf wsX5_balanceOf) := goodIn_app (goodIn_of _ (by decide +kernel)) ggX5_balance_X5_balanceOf
theorem dX5_balance_0 : decode cX5_balance 0 = .ok (.aload_n 0, 1) := by decide +kernel
theorem dX5_balance_1 : decode cX5_balance 1 = .ok (.aload_n 0, 1) := by decide +kernel
theorem dX5_balance_2 : decode cX5_balance 2 = .ok (.iload_n 1, 1) := by decide +kernel
theorem dX5_balance_3 : decode cX5_balance 3 = .ok (.invokevirtual 142, 3) := by decide +kernel
theorem dX5_balance_6 : decode cX5_balance 6 = .ok (.ifCond .ne 9, 3) := by decide +kernel
theorem dX5_balance_9 : decode cX5_balance 9 = .ok (.iload_n 1, 1) := by decide +kernel
theorem dX5_balance_10 : decode cX5_balance 10 = .ok (.bipush 8, 2) := by decide +kernel
theorem dX5_balance_12 : decode cX5_balance 12 = .ok (.if_icmp .ne 7, 3) := by decide +kernel
theorem dX5_balance_15 : decode cX5_balance 15 = .ok (.iconst 0, 1) := by decide +kernel
theorem dX5_balance_16 : decode cX5_balance 16 = .ok (.goto 4, 3) := by decide +kernel
theorem dX5_balance_19 : decode cX5_balance 19 = .ok (.iconst 1, 1) := by decide +kernel
theorem dX5_balance_20 : decode cX5_balance 20 = .ok (.putfield 54, 3) := by decide +kernel
theorem dX5_balance_23 : decode cX5_balance 23 = .ok (.aload_n 0, 1) := by decide +kernel
theorem dX5_balance_24 : decode cX5_balance 24 = .ok (.getfield 54, 3) := by decide +kernel
theorem dX5_balance_27 : decode cX5_balance 27 = .ok (.ifCond .le 7, 3) := by decide +kernel
theorem dX5_balance_30 : decode cX5_balance 30 = .ok (.iconst 0, 1) := by decide +kernel
theorem dX5_balance_31 : decode cX5_balance 31 = .ok (.goto 8, 3) := by decide +kernel
theorem dX5_balance_34 : decode cX5_balance 34 = .ok (.aload_n 0, 1) := by decide +kernel
theorem dX5_balance_35 : decode cX5_balance 35 = .ok (.iload_n 1, 1) := by decide +kernel
theorem dX5_balance_36 : decode cX5_balance 36 = .ok (.invokevirtual 103, 3) := by decide +kernel
theorem dX5_balance_39 : decode cX5_balance 39 = .ok (.ireturn, 1) := by decide +kernel
set_option maxRecDepth 20000 in
theorem ggX5_balanceAnew_X5_balance : GoodIn wsX5_balanceAnew wsX5_balance := goodIn_r _ [5, 6, 7, 8, 9, 4, 10, 11, 12, 13, 14, 15, 16, 17, 18, 19, 20, 21, 22, 23, 24, 25, 26, 27, 28, 29, 30, 31, 32, 33, 34, 35, 36, 37, 38, 39, 40, 41] (by decide +kernel) (by decide +kernel)
set_option maxRecDepth 20000 in
theorem gX5_balanceAnew_X5_balance : GoodIn wsX5_balanceAnew (wsV RX5 145 RX5 yX5_balance wsX5_balance) := goodIn_app (goodIn_of _ (by decide +kernel)) ggX5_balanceAnew_X5_balance
theorem dX5_balanceAnew_0 : decode cX5_balanceAnew 0 = .ok (.aload_n 0, 1) := by decide +kernel
theorem dX5_balanceAnew_1 : decode cX5_balanceAnew 1 = .ok (.iload_n 1, 1) := by decide +kernel
theorem dX5_balanceAnew_2 : decode cX5_balanceAnew 2 = .ok (.invokevirtual 145, 3) := by decide +kernel
theorem dX5_balanceAnew_5 : decode cX5_balanceAnew 5 = .ok (.ireturn, 1) := by decide +kernel
set_option maxRecDepth 20000 in
theorem ggX5_limit_X5_isShop : GoodIn wsX5_limit wsX5_isShop := goodIn_r _ [6, 7, 8, 9, 10, 5, 11, 31, 32, 33, 34, 35, 36, 37, 38, 39, 40, 41, 42, 43, 44, 45, 46, 47, 48, 49] (by decide +kernel) (by decide +kernel)
set_option maxRecDepth 20000 in
theorem gX5_limit_X5_isShop : GoodIn wsX5_limit (wsV RX5 92 RX5 yX5_isShop wsX5_isShop) := goodIn_app (goodIn_of _ (by decide +kernel)) ggX5_limit_X5_isShop
set_option maxRecDepth 20000 in
theorem ggX5_limit_X5_limitOf : GoodIn wsX5_limit wsX5_limitOf := goodIn_r _ [15, 16, 17, 18, 19, 20, 21, 22, 23, 24, 5, 25, 26, 27, 28, 29, 30, 31, 32, 33, 34, 35, 36, 37, 38, 39, 40, 41, 42, 43, 44, 45, 46, 47, 48, 49] (by decide +kernel) (by decide +kernel)
set_option maxRecDepth 20000 in
theorem gX5_limit_X5_limitOf : GoodIn wsX5_limit (wsV RX5 106 RX5 yX5_limitOf wsX5_limitOf) := goodIn_app (goodIn_of _ (by decide +kernel)) ggX5_limit_X5_limitOf
theorem dX5_limit_0 : decode cX5_limit 0 = .ok (.aload_n 0, 1) := by decide +kernel
theorem dX5_limit_1 : decode cX5_limit 1 = .ok (.aload_n 0, 1) := by decide +kernel
theorem dX5_limit_2 : decode cX5_limit 2 = .ok (.iload_n 1, 1) := by decide +kernel
theorem dX5_limit_3 : decode cX5_limit 3 = .ok (.invokevirtual 92, 3) := by decide +kernel
theorem dX5_limit_6 : decode cX5_limit 6 = .ok (.ifCond .eq 7, 3) := by decide +kernel
theorem dX5_limit_9 : decode cX5_limit 9 = .ok (.iconst 0, 1) := by decide +kernel
theorem dX5_limit_10 : decode cX5_limit 10 = .ok (.goto 4, 3) := by decide +kernel
theorem dX5_limit_13 : decode cX5_limit 13 = .ok (.iconst 1, 1) := by decide +kernel
theorem dX5_limit_14 : decode cX5_limit 14 = .ok (.putfield 54, 3) := by decide +kernel
theorem dX5_limit_17 : decode cX5_limit 17 = .ok (.aload_n 0, 1) := by decide +kernel
theorem dX5_limit_18 : decode cX5_limit 18 = .ok (.getfield 54, 3) := by decide +kernel
theorem dX5_limit_21 : decode cX5_limit 21 = .ok (.ifCond .le 7, 3) := by decide +kernel
theorem dX5_limit_24 : decode cX5_limit 24 = .ok (.iconst 0, 1) := by decide +kernel
theorem dX5_limit_25 : decode cX5_limit 25 = .ok (.goto 8, 3) := by decide +kernel
theorem dX5_limit_28 : decode cX5_limit 28 = .ok (.aload_n 0, 1) := by decide +kernel
theorem dX5_limit_29 : decode cX5_limit 29 = .ok (.iload_n 1, 1) := by decide +kernel
theorem dX5_limit_30 : decode cX5_limit 30 = .ok (.invokevirtual 106, 3) := by decide +kernel
theorem dX5_limit_33 : decode cX5_limit 33 = .ok (.ireturn, 1) := by decide +kernel
set_option maxRecDepth 20000 in
theorem ggX5_owes_X5_was : GoodIn wsX5_owes wsX5_was := goodIn_r _ [7, 8, 9, 10, 6, 11, 15, 16, 17, 18, 19, 20, 21, 22, 23, 24, 25, 26, 27, 28, 29, 30, 31, 32, 33] (by decide +kernel) (by decide +kernel)
set_option maxRecDepth 20000 in
theorem gX5_owes_X5_was : GoodIn wsX5_owes (wsV RX5 142 RX5 yX5_was wsX5_was) := goodIn_app (goodIn_of _ (by decide +kernel)) ggX5_owes_X5_was
set_option maxRecDepth 20000 in
theorem ggX5_owes_X5_at : GoodIn wsX5_owes wsX5_at := goodIn_r _ [14] (by decide +kernel) (by decide +kernel)
set_option maxRecDepth 20000 in
theorem gX5_owes_X5_at : GoodIn wsX5_owes (va_wsS RX5 64 yX5_at wsX5_at) := goodIn_app (goodIn_of _ (by decide +kernel)) ggX5_owes_X5_at
theorem dX5_owes_0 : decode cX5_owes 0 = .ok (.aload_n 0, 1) := by decide +kernel
theorem dX5_owes_1 : decode cX5_owes 1 = .ok (.aload_n 0, 1) := by decide +kernel
theorem dX5_owes_2 : decode cX5_owes 2 = .ok (.iload_n 1, 1) := by decide +kernel
theorem dX5_owes_3 : decode cX5_owes 3 = .ok (.invokevirtual 142, 3) := by decide +kernel
theorem dX5_owes_6 : decode cX5_owes 6 = .ok (.ifCond .eq 21, 3) := by decide +kernel
theorem dX5_owes_9 : decode cX5_owes 9 = .ok (.aload_n 0, 1) := by decide +kernel
theorem dX5_owes_10 : decode cX5_owes 10 = .ok (.iload_n 2, 1) := by decide +kernel
theorem dX5_owes_11 : decode cX5_owes 11 = .ok (.invokevirtual 142, 3) := by decide +kernel
theorem dX5_owes_14 : decode cX5_owes 14 = .ok (.ifCond .ne 9, 3) := by decide +kernel
theorem dX5_owes_17 : decode cX5_owes 17 = .ok (.iload_n 2, 1) := by decide +kernel
theorem dX5_owes_18 : decode cX5_owes 18 = .ok (.bipush 8, 2) := by decide +kernel
theorem dX5_owes_20 : decode cX5_owes 20 = .ok (.if_icmp .ne 7, 3) := by decide +kernel
theorem dX5_owes_23 : decode cX5_owes 23 = .ok (.iconst 0, 1) := by decide +kernel
theorem dX5_owes_24 : decode cX5_owes 24 = .ok (.goto 4, 3) := by decide +kernel
theorem dX5_owes_27 : decode cX5_owes 27 = .ok (.iconst 1, 1) := by decide +kernel
theorem dX5_owes_28 : decode cX5_owes 28 = .ok (.putfield 54, 3) := by decide +kernel
theorem dX5_owes_31 : decode cX5_owes 31 = .ok (.aload_n 0, 1) := by decide +kernel
theorem dX5_owes_32 : decode cX5_owes 32 = .ok (.getfield 54, 3) := by decide +kernel
theorem dX5_owes_35 : decode cX5_owes 35 = .ok (.ifCond .le 7, 3) := by decide +kernel
theorem dX5_owes_38 : decode cX5_owes 38 = .ok (.iconst 0, 1) := by decide +kernel
theorem dX5_owes_39 : decode cX5_owes 39 = .ok (.goto 13, 3) := by decide +kernel
theorem dX5_owes_42 : decode cX5_owes 42 = .ok (.aload_n 0, 1) := by decide +kernel
theorem dX5_owes_43 : decode cX5_owes 43 = .ok (.getfield 13, 3) := by decide +kernel
theorem dX5_owes_46 : decode cX5_owes 46 = .ok (.iload_n 1, 1) := by decide +kernel
theorem dX5_owes_47 : decode cX5_owes 47 = .ok (.iload_n 2, 1) := by decide +kernel
theorem dX5_owes_48 : decode cX5_owes 48 = .ok (.invokestatic 64, 3) := by decide +kernel
theorem dX5_owes_51 : decode cX5_owes 51 = .ok (.iaload, 1) := by decide +kernel
theorem dX5_owes_52 : decode cX5_owes 52 = .ok (.ireturn, 1) := by decide +kernel
set_option maxRecDepth 20000 in
theorem ggX5_frozen_X5_was : GoodIn wsX5_frozen wsX5_was := goodIn_r _ [7, 8, 9, 10, 6, 11, 15, 16, 17, 18, 19, 20, 21, 22, 23, 24, 25, 26, 27, 28, 29, 30, 31, 32, 33] (by decide +kernel) (by decide +kernel)
set_option maxRecDepth 20000 in
theorem gX5_frozen_X5_was : GoodIn wsX5_frozen (wsV RX5 142 RX5 yX5_was wsX5_was) := goodIn_app (goodIn_of _ (by decide +kernel)) ggX5_frozen_X5_was
set_option maxRecDepth 20000 in
theorem ggX5_frozen_X5_at : GoodIn wsX5_frozen wsX5_at := goodIn_r _ [14] (by decide +kernel) (by decide +kernel)
set_option maxRecDepth 20000 in
theorem gX5_frozen_X5_at : GoodIn wsX5_frozen (va_wsS RX5 64 yX5_at wsX5_at) := goodIn_app (goodIn_of _ (by decide +kernel)) ggX5_frozen_X5_at
theorem dX5_frozen_0 : decode cX5_frozen 0 = .ok (.aload_n 0, 1) := by decide +kernel
theorem dX5_frozen_1 : decode cX5_frozen 1 = .ok (.aload_n 0, 1) := by decide +kernel
theorem dX5_frozen_2 : decode cX5_frozen 2 = .ok (.iload_n 1, 1) := by decide +kernel
theorem dX5_frozen_3 : decode cX5_frozen 3 = .ok (.invokevirtual 142, 3) := by decide +kernel
theorem dX5_frozen_6 : decode cX5_frozen 6 = .ok (.ifCond .eq 15, 3) := by decide +kernel
theorem dX5_frozen_9 : decode cX5_frozen 9 = .ok (.aload_n 0, 1) := by decide +kernel
theorem dX5_frozen_10 : decode cX5_frozen 10 = .ok (.iload_n 2, 1) := by decide +kernel
theorem dX5_frozen_11 : decode cX5_frozen 11 = .ok (.invokevirtual 142, 3) := by decide +kernel
theorem dX5_frozen_14 : decode cX5_frozen 14 = .ok (.ifCond .eq 7, 3) := by decide +kernel
theorem dX5_frozen_17 : decode cX5_frozen 17 = .ok (.iconst 0, 1) := by decide +kernel
theorem dX5_frozen_18 : decode cX5_frozen 18 = .ok (.goto 4, 3) := by decide +kernel
theorem dX5_frozen_21 : decode cX5_frozen 21 = .ok (.iconst 1, 1) := by decide +kernel
theorem dX5_frozen_22 : decode cX5_frozen 22 = .ok (.putfield 54, 3) := by decide +kernel
theorem dX5_frozen_25 : decode cX5_frozen 25 = .ok (.aload_n 0, 1) := by decide +kernel
theorem dX5_frozen_26 : decode cX5_frozen 26 = .ok (.getfield 54, 3) := by decide +kernel
theorem dX5_frozen_29 : decode cX5_frozen 29 = .ok (.ifCond .le 7, 3) := by decide +kernel
theorem dX5_frozen_32 : decode cX5_frozen 32 = .ok (.iconst 0, 1) := by decide +kernel
theorem dX5_frozen_33 : decode cX5_frozen 33 = .ok (.goto 13, 3) := by decide +kernel
theorem dX5_frozen_36 : decode cX5_frozen 36 = .ok (.aload_n 0, 1) := by decide +kernel
theorem dX5_frozen_37 : decode cX5_frozen 37 = .ok (.getfield 17, 3) := by decide +kernel
theorem dX5_frozen_40 : decode cX5_frozen 40 = .ok (.iload_n 1, 1) := by decide +kernel
theorem dX5_frozen_41 : decode cX5_frozen 41 = .ok (.iload_n 2, 1) := by decide +kernel
theorem dX5_frozen_42 : decode cX5_frozen 42 = .ok (.invokestatic 64, 3) := by decide +kernel
theorem dX5_frozen_45 : decode cX5_frozen 45 = .ok (.iaload, 1) := by decide +kernel
theorem dX5_frozen_46 : decode cX5_frozen 46 = .ok (.ireturn, 1) := by decide +kernel
set_option maxRecDepth 20000 in
theorem ggX5_ofTrade_X5_isTrade : GoodIn wsX5_ofTrade wsX5_isTrade := goodIn_r _ [12, 13, 14, 15, 11, 16, 17, 18, 19, 20, 21, 22, 23, 24, 25, 26, 27, 28, 29, 30, 31, 32, 33, 34, 35] (by decide +kernel) (by decide +kernel)
set_option maxRecDepth 20000 in
theorem gX5_ofTrade_X5_isTrade : GoodIn wsX5_ofTrade (wsV RX5 112 RX5 yX5_isTrade wsX5_isTrade) := goodIn_app (goodIn_of _ (by decide +kernel)) ggX5_ofTrade_X5_isTrade
set_option maxRecDepth 20000 in
theorem ggX5_ofTrade_X5_in : GoodIn wsX5_ofTrade wsX5_in := goodIn_r _ [16] (by decide +kernel) (by decide +kernel)
set_option maxRecDepth 20000 in
theorem gX5_ofTrade_X5_in : GoodIn wsX5_ofTrade (va_wsS RX5 60 yX5_in wsX5_in) := goodIn_app (goodIn_of _ (by decide +kernel)) ggX5_ofTrade_X5_in
theorem dX5_ofTrade_0 : decode cX5_ofTrade 0 = .ok (.aload_n 0, 1) := by decide +kernel
theorem dX5_ofTrade_1 : decode cX5_ofTrade 1 = .ok (.aload_n 0, 1) := by decide +kernel
theorem dX5_ofTrade_2 : decode cX5_ofTrade 2 = .ok (.iload_n 1, 1) := by decide +kernel
theorem dX5_ofTrade_3 : decode cX5_ofTrade 3 = .ok (.invokevirtual 112, 3) := by decide +kernel
theorem dX5_ofTrade_6 : decode cX5_ofTrade 6 = .ok (.ifCond .ne 7, 3) := by decide +kernel
theorem dX5_ofTrade_9 : decode cX5_ofTrade 9 = .ok (.iconst 1, 1) := by decide +kernel
theorem dX5_ofTrade_10 : decode cX5_ofTrade 10 = .ok (.goto 17, 3) := by decide +kernel
theorem dX5_ofTrade_13 : decode cX5_ofTrade 13 = .ok (.iload_n 2, 1) := by decide +kernel
theorem dX5_ofTrade_14 : decode cX5_ofTrade 14 = .ok (.iconst 0, 1) := by decide +kernel
theorem dX5_ofTrade_15 : decode cX5_ofTrade 15 = .ok (.iconst 5, 1) := by decide +kernel
theorem dX5_ofTrade_16 : decode cX5_ofTrade 16 = .ok (.invokestatic 60, 3) := by decide +kernel
theorem dX5_ofTrade_19 : decode cX5_ofTrade 19 = .ok (.ifCond .eq 7, 3) := by decide +kernel
theorem dX5_ofTrade_22 : decode cX5_ofTrade 22 = .ok (.iconst 0, 1) := by decide +kernel
theorem dX5_ofTrade_23 : decode cX5_ofTrade 23 = .ok (.goto 4, 3) := by decide +kernel
theorem dX5_ofTrade_26 : decode cX5_ofTrade 26 = .ok (.iconst 2, 1) := by decide +kernel
theorem dX5_ofTrade_27 : decode cX5_ofTrade 27 = .ok (.putfield 54, 3) := by decide +kernel
theorem dX5_ofTrade_30 : decode cX5_ofTrade 30 = .ok (.aload_n 0, 1) := by decide +kernel
theorem dX5_ofTrade_31 : decode cX5_ofTrade 31 = .ok (.getfield 54, 3) := by decide +kernel
theorem dX5_ofTrade_34 : decode cX5_ofTrade 34 = .ok (.ifCond .le 5, 3) := by decide +kernel
theorem dX5_ofTrade_37 : decode cX5_ofTrade 37 = .ok (.iconst 0, 1) := by decide +kernel
theorem dX5_ofTrade_38 : decode cX5_ofTrade 38 = .ok (.ireturn, 1) := by decide +kernel
theorem dX5_ofTrade_39 : decode cX5_ofTrade 39 = .ok (.iload_n 2, 1) := by decide +kernel
theorem dX5_ofTrade_40 : decode cX5_ofTrade 40 = .ok (.tableswitch 71 0 4 #[36, 43, 50, 57, 64], 36) := by decide +kernel
theorem dX5_ofTrade_76 : decode cX5_ofTrade 76 = .ok (.aload_n 0, 1) := by decide +kernel
theorem dX5_ofTrade_77 : decode cX5_ofTrade 77 = .ok (.getfield 38, 3) := by decide +kernel
theorem dX5_ofTrade_80 : decode cX5_ofTrade 80 = .ok (.iload_n 1, 1) := by decide +kernel
theorem dX5_ofTrade_81 : decode cX5_ofTrade 81 = .ok (.iaload, 1) := by decide +kernel
theorem dX5_ofTrade_82 : decode cX5_ofTrade 82 = .ok (.ireturn, 1) := by decide +kernel
theorem dX5_ofTrade_83 : decode cX5_ofTrade 83 = .ok (.aload_n 0, 1) := by decide +kernel
theorem dX5_ofTrade_84 : decode cX5_ofTrade 84 = .ok (.getfield 26, 3) := by decide +kernel
theorem dX5_ofTrade_87 : decode cX5_ofTrade 87 = .ok (.iload_n 1, 1) := by decide +kernel
theorem dX5_ofTrade_88 : decode cX5_ofTrade 88 = .ok (.iaload, 1) := by decide +kernel
theorem dX5_ofTrade_89 : decode cX5_ofTrade 89 = .ok (.ireturn, 1) := by decide +kernel
theorem dX5_ofTrade_90 : decode cX5_ofTrade 90 = .ok (.aload_n 0, 1) := by decide +kernel
theorem dX5_ofTrade_91 : decode cX5_ofTrade 91 = .ok (.getfield 29, 3) := by decide +kernel
theorem dX5_ofTrade_94 : decode cX5_ofTrade 94 = .ok (.iload_n 1, 1) := by decide +kernel
theorem dX5_ofTrade_95 : decode cX5_ofTrade 95 = .ok (.iaload, 1) := by decide +kernel
theorem dX5_ofTrade_96 : decode cX5_ofTrade 96 = .ok (.ireturn, 1) := by decide +kernel
theorem dX5_ofTrade_97 : decode cX5_ofTrade 97 = .ok (.aload_n 0, 1) := by decide +kernel
theorem dX5_ofTrade_98 : decode cX5_ofTrade 98 = .ok (.getfield 32, 3) := by decide +kernel
theorem dX5_ofTrade_101 : decode cX5_ofTrade 101 = .ok (.iload_n 1, 1) := by decide +kernel
theorem dX5_ofTrade_102 : decode cX5_ofTrade 102 = .ok (.iaload, 1) := by decide +kernel
theorem dX5_ofTrade_103 : decode cX5_ofTrade 103 = .ok (.ireturn, 1) := by decide +kernel
theorem dX5_ofTrade_104 : decode cX5_ofTrade 104 = .ok (.aload_n 0, 1) := by decide +kernel
theorem dX5_ofTrade_105 : decode cX5_ofTrade 105 = .ok (.getfield 35, 3) := by decide +kernel
theorem dX5_ofTrade_108 : decode cX5_ofTrade 108 = .ok (.iload_n 1, 1) := by decide +kernel
theorem dX5_ofTrade_109 : decode cX5_ofTrade 109 = .ok (.iaload, 1) := by decide +kernel
theorem dX5_ofTrade_110 : decode cX5_ofTrade 110 = .ok (.ireturn, 1) := by decide +kernel
theorem dX5_ofTrade_111 : decode cX5_ofTrade 111 = .ok (.aload_n 0, 1) := by decide +kernel
theorem dX5_ofTrade_112 : decode cX5_ofTrade 112 = .ok (.getfield 41, 3) := by decide +kernel
theorem dX5_ofTrade_115 : decode cX5_ofTrade 115 = .ok (.iload_n 1, 1) := by decide +kernel
theorem dX5_ofTrade_116 : decode cX5_ofTrade 116 = .ok (.iaload, 1) := by decide +kernel
theorem dX5_ofTrade_117 : decode cX5_ofTrade 117 = .ok (.ireturn, 1) := by decide +kernel
set_option maxRecDepth 20000 in
theorem ggX5_guaranteed_X5_was : GoodIn wsX5_guaranteed wsX5_was := goodIn_r _ [7, 8, 9, 10, 6, 11, 15, 16, 17, 18, 19, 20, 21, 22, 23, 24, 25, 26, 27, 28, 29, 30, 31, 32, 33] (by decide +kernel) (by decide +kernel)
set_option maxRecDepth 20000 in
theorem gX5_guaranteed_X5_was : GoodIn wsX5_guaranteed (wsV RX5 142 RX5 yX5_was wsX5_was) := goodIn_app (goodIn_of _ (by decide +kernel)) ggX5_guaranteed_X5_was
set_option maxRecDepth 20000 in
theorem ggX5_guaranteed_X5_at : GoodIn wsX5_guaranteed wsX5_at := goodIn_r _ [14] (by decide +kernel) (by decide +kernel)
set_option maxRecDepth 20000 in
theorem gX5_guaranteed_X5_at : GoodIn wsX5_guaranteed (va_wsS RX5 64 yX5_at wsX5_at) := goodIn_app (goodIn_of _ (by decide +kernel)) ggX5_guaranteed_X5_at
theorem dX5_guaranteed_0 : decode cX5_guaranteed 0 = .ok (.aload_n 0, 1) := by decide +kernel
theorem dX5_guaranteed_1 : decode cX5_guaranteed 1 = .ok (.aload_n 0, 1) := by decide +kernel
theorem dX5_guaranteed_2 : decode cX5_guaranteed 2 = .ok (.iload_n 1, 1) := by decide +kernel
theorem dX5_guaranteed_3 : decode cX5_guaranteed 3 = .ok (.invokevirtual 142, 3) := by decide +kernel
theorem dX5_guaranteed_6 : decode cX5_guaranteed 6 = .ok (.ifCond .eq 15, 3) := by decide +kernel
theorem dX5_guaranteed_9 : decode cX5_guaranteed 9 = .ok (.aload_n 0, 1) := by decide +kernel
theorem dX5_guaranteed_10 : decode cX5_guaranteed 10 = .ok (.iload_n 2, 1) := by decide +kernel
theorem dX5_guaranteed_11 : decode cX5_guaranteed 11 = .ok (.invokevirtual 142, 3) := by decide +kernel
theorem dX5_guaranteed_14 : decode cX5_guaranteed 14 = .ok (.ifCond .eq 7, 3) := by decide +kernel
theorem dX5_guaranteed_17 : decode cX5_guaranteed 17 = .ok (.iconst 0, 1) := by decide +kernel
theorem dX5_guaranteed_18 : decode cX5_guaranteed 18 = .ok (.goto 4, 3) := by decide +kernel
theorem dX5_guaranteed_21 : decode cX5_guaranteed 21 = .ok (.iconst 1, 1) := by decide +kernel
theorem dX5_guaranteed_22 : decode cX5_guaranteed 22 = .ok (.putfield 54, 3) := by decide +kernel
theorem dX5_guaranteed_25 : decode cX5_guaranteed 25 = .ok (.aload_n 0, 1) := by decide +kernel
theorem dX5_guaranteed_26 : decode cX5_guaranteed 26 = .ok (.getfield 54, 3) := by decide +kernel
theorem dX5_guaranteed_29 : decode cX5_guaranteed 29 = .ok (.ifCond .le 7, 3) := by decide +kernel
theorem dX5_guaranteed_32 : decode cX5_guaranteed 32 = .ok (.iconst 0, 1) := by decide +kernel
theorem dX5_guaranteed_33 : decode cX5_guaranteed 33 = .ok (.goto 13, 3) := by decide +kernel
theorem dX5_guaranteed_36 : decode cX5_guaranteed 36 = .ok (.aload_n 0, 1) := by decide +kernel
theorem dX5_guaranteed_37 : decode cX5_guaranteed 37 = .ok (.getfield 20, 3) := by decide +kernel
theorem dX5_guaranteed_40 : decode cX5_guaranteed 40 = .ok (.iload_n 1, 1) := by decide +kernel
theorem dX5_guaranteed_41 : decode cX5_guaranteed 41 = .ok (.iload_n 2, 1) := by decide +kernel
theorem dX5_guaranteed_42 : decode cX5_guaranteed 42 = .ok (.invokestatic 64, 3) := by decide +kernel
theorem dX5_guaranteed_45 : decode cX5_guaranteed 45 = .ok (.iaload, 1) := by decide +kernel
theorem dX5_guaranteed_46 : decode cX5_guaranteed 46 = .ok (.ireturn, 1) := by decide +kernel
set_option maxRecDepth 20000 in
theorem ggX5_goods_X5_was : GoodIn wsX5_goods wsX5_was := goodIn_r _ [7, 8, 9, 10, 6, 11, 12, 13, 14, 15, 16, 17, 18, 19, 20, 21, 22, 23, 24, 25, 26, 27, 28, 29, 30] (by decide +kernel) (by decide +kernel)
set_option maxRecDepth 20000 in
theorem gX5_goods_X5_was : GoodIn wsX5_goods (wsV RX5 142 RX5 yX5_was wsX5_was) := goodIn_app (goodIn_of _ (by decide +kernel)) ggX5_goods_X5_was
theorem dX5_goods_0 : decode cX5_goods 0 = .ok (.aload_n 0, 1) := by decide +kernel
theorem dX5_goods_1 : decode cX5_goods 1 = .ok (.aload_n 0, 1) := by decide +kernel
theorem dX5_goods_2 : decode cX5_goods 2 = .ok (.iload_n 1, 1) := by decide +kernel
theorem dX5_goods_3 : decode cX5_goods 3 = .ok (.invokevirtual 142, 3) := by decide +kernel
theorem dX5_goods_6 : decode cX5_goods 6 = .ok (.ifCond .eq 7, 3) := by decide +kernel
theorem dX5_goods_9 : decode cX5_goods 9 = .ok (.iconst 0, 1) := by decide +kernel
theorem dX5_goods_10 : decode cX5_goods 10 = .ok (.goto 4, 3) := by decide +kernel
theorem dX5_goods_13 : decode cX5_goods 13 = .ok (.iconst 1, 1) := by decide +kernel
theorem dX5_goods_14 : decode cX5_goods 14 = .ok (.putfield 54, 3) := by decide +kernel
theorem dX5_goods_17 : decode cX5_goods 17 = .ok (.aload_n 0, 1) := by decide +kernel
theorem dX5_goods_18 : decode cX5_goods 18 = .ok (.getfield 54, 3) := by decide +kernel
theorem dX5_goods_21 : decode cX5_goods 21 = .ok (.ifCond .le 7, 3) := by decide +kernel
theorem dX5_goods_24 : decode cX5_goods 24 = .ok (.iconst 0, 1) := by decide +kernel
theorem dX5_goods_25 : decode cX5_goods 25 = .ok (.goto 9, 3) := by decide +kernel
theorem dX5_goods_28 : decode cX5_goods 28 = .ok (.aload_n 0, 1) := by decide +kernel
theorem dX5_goods_29 : decode cX5_goods 29 = .ok (.getfield 23, 3) := by decide +kernel
theorem dX5_goods_32 : decode cX5_goods 32 = .ok (.iload_n 1, 1) := by decide +kernel
theorem dX5_goods_33 : decode cX5_goods 33 = .ok (.iaload, 1) := by decide +kernel
theorem dX5_goods_34 : decode cX5_goods 34 = .ok (.ireturn, 1) := by decide +kernel
set_option maxRecDepth 20000 in
theorem ggX5_isIdle_X5_isShop : GoodIn wsX5_isIdle wsX5_isShop := goodIn_r _ [6, 7, 8, 9, 10, 5, 11, 33, 34, 35, 36, 37, 38, 39, 40, 41, 42, 43, 44, 45, 46, 47, 48, 49, 50, 51] (by decide +kernel) (by decide +kernel)
set_option maxRecDepth 20000 in
theorem gX5_isIdle_X5_isShop : GoodIn wsX5_isIdle (wsV RX5 92 RX5 yX5_isShop wsX5_isShop) := goodIn_app (goodIn_of _ (by decide +kernel)) ggX5_isIdle_X5_isShop
set_option maxRecDepth 20000 in
theorem ggX5_isIdle_X5_isLazy : GoodIn wsX5_isIdle wsX5_isLazy := goodIn_r _ [15, 16, 17, 18, 19, 20, 21, 5, 22, 23, 24, 25, 26, 27, 28, 29, 30, 31, 32, 33, 34, 35, 36, 37, 38, 39, 40, 41, 42, 43, 44, 45, 46, 47, 48, 49, 50, 51] (by decide +kernel) (by decide +kernel)
set_option maxRecDepth 20000 in
theorem gX5_isIdle_X5_isLazy : GoodIn wsX5_isIdle (wsV RX5 136 RX5 yX5_isLazy wsX5_isLazy) := goodIn_app (goodIn_of _ (by decide +kernel)) ggX5_isIdle_X5_isLazy
theorem dX5_isIdle_0 : decode cX5_isIdle 0 = .ok (.aload_n 0, 1) := by decide +kernel
theorem dX5_isIdle_1 : decode cX5_isIdle 1 = .ok (.aload_n 0, 1) := by decide +kernel
theorem dX5_isIdle_2 : decode cX5_isIdle 2 = .ok (.iload_n 1, 1) := by decide +kernel
theorem dX5_isIdle_3 : decode cX5_isIdle 3 = .ok (.invokevirtual 92, 3) := by decide +kernel
theorem dX5_isIdle_6 : decode cX5_isIdle 6 = .ok (.ifCond .eq 7, 3) := by decide +kernel
theorem dX5_isIdle_9 : decode cX5_isIdle 9 = .ok (.iconst 0, 1) := by decide +kernel
theorem dX5_isIdle_10 : decode cX5_isIdle 10 = .ok (.goto 4, 3) := by decide +kernel
theorem dX5_isIdle_13 : decode cX5_isIdle 13 = .ok (.iconst 1, 1) := by decide +kernel
theorem dX5_isIdle_14 : decode cX5_isIdle 14 = .ok (.putfield 54, 3) := by decide +kernel
theorem dX5_isIdle_17 : decode cX5_isIdle 17 = .ok (.aload_n 0, 1) := by decide +kernel
theorem dX5_isIdle_18 : decode cX5_isIdle 18 = .ok (.getfield 54, 3) := by decide +kernel
theorem dX5_isIdle_21 : decode cX5_isIdle 21 = .ok (.ifCond .ne 15, 3) := by decide +kernel
theorem dX5_isIdle_24 : decode cX5_isIdle 24 = .ok (.aload_n 0, 1) := by decide +kernel
theorem dX5_isIdle_25 : decode cX5_isIdle 25 = .ok (.iload_n 1, 1) := by decide +kernel
theorem dX5_isIdle_26 : decode cX5_isIdle 26 = .ok (.invokevirtual 136, 3) := by decide +kernel
theorem dX5_isIdle_29 : decode cX5_isIdle 29 = .ok (.ifCond .eq 7, 3) := by decide +kernel
theorem dX5_isIdle_32 : decode cX5_isIdle 32 = .ok (.iconst 1, 1) := by decide +kernel
theorem dX5_isIdle_33 : decode cX5_isIdle 33 = .ok (.goto 4, 3) := by decide +kernel
theorem dX5_isIdle_36 : decode cX5_isIdle 36 = .ok (.iconst 0, 1) := by decide +kernel
theorem dX5_isIdle_37 : decode cX5_isIdle 37 = .ok (.ireturn, 1) := by decide +kernel
theorem dX5_rings_0 : decode cX5_rings 0 = .ok (.aload_n 0, 1) := by decide +kernel
theorem dX5_rings_1 : decode cX5_rings 1 = .ok (.iconst 0, 1) := by decide +kernel
theorem dX5_rings_2 : decode cX5_rings 2 = .ok (.putfield 54, 3) := by decide +kernel
theorem dX5_rings_5 : decode cX5_rings 5 = .ok (.aload_n 0, 1) := by decide +kernel
theorem dX5_rings_6 : decode cX5_rings 6 = .ok (.getfield 127, 3) := by decide +kernel
theorem dX5_rings_9 : decode cX5_rings 9 = .ok (.ireturn, 1) := by decide +kernel
set_option maxRecDepth 20000 in
theorem ggX5_ring_X5_in : GoodIn wsX5_ring wsX5_in := goodIn_r _ [7] (by decide +kernel) (by decide +kernel)
set_option maxRecDepth 20000 in
theorem gX5_ring_X5_in : GoodIn wsX5_ring (va_wsS RX5 60 yX5_in wsX5_in) := goodIn_app (goodIn_of _ (by decide +kernel)) ggX5_ring_X5_in
theorem dX5_ring_0 : decode cX5_ring 0 = .ok (.aload_n 0, 1) := by decide +kernel
theorem dX5_ring_1 : decode cX5_ring 1 = .ok (.iload_n 1, 1) := by decide +kernel
theorem dX5_ring_2 : decode cX5_ring 2 = .ok (.iconst 0, 1) := by decide +kernel
theorem dX5_ring_3 : decode cX5_ring 3 = .ok (.aload_n 0, 1) := by decide +kernel
theorem dX5_ring_4 : decode cX5_ring 4 = .ok (.getfield 127, 3) := by decide +kernel
theorem dX5_ring_7 : decode cX5_ring 7 = .ok (.iconst 1, 1) := by decide +kernel
theorem dX5_ring_8 : decode cX5_ring 8 = .ok (.isub, 1) := by decide +kernel
theorem dX5_ring_9 : decode cX5_ring 9 = .ok (.invokestatic 60, 3) := by decide +kernel
theorem dX5_ring_12 : decode cX5_ring 12 = .ok (.ifCond .ne 7, 3) := by decide +kernel
theorem dX5_ring_15 : decode cX5_ring 15 = .ok (.iconst 1, 1) := by decide +kernel
theorem dX5_ring_16 : decode cX5_ring 16 = .ok (.goto 18, 3) := by decide +kernel
theorem dX5_ring_19 : decode cX5_ring 19 = .ok (.iload_n 2, 1) := by decide +kernel
theorem dX5_ring_20 : decode cX5_ring 20 = .ok (.iconst 0, 1) := by decide +kernel
theorem dX5_ring_21 : decode cX5_ring 21 = .ok (.bipush 6, 2) := by decide +kernel
theorem dX5_ring_23 : decode cX5_ring 23 = .ok (.invokestatic 60, 3) := by decide +kernel
theorem dX5_ring_26 : decode cX5_ring 26 = .ok (.ifCond .eq 7, 3) := by decide +kernel
theorem dX5_ring_29 : decode cX5_ring 29 = .ok (.iconst 0, 1) := by decide +kernel
theorem dX5_ring_30 : decode cX5_ring 30 = .ok (.goto 4, 3) := by decide +kernel
theorem dX5_ring_33 : decode cX5_ring 33 = .ok (.iconst 2, 1) := by decide +kernel
theorem dX5_ring_34 : decode cX5_ring 34 = .ok (.putfield 54, 3) := by decide +kernel
theorem dX5_ring_37 : decode cX5_ring 37 = .ok (.aload_n 0, 1) := by decide +kernel
theorem dX5_ring_38 : decode cX5_ring 38 = .ok (.getfield 54, 3) := by decide +kernel
theorem dX5_ring_41 : decode cX5_ring 41 = .ok (.ifCond .le 7, 3) := by decide +kernel
theorem dX5_ring_44 : decode cX5_ring 44 = .ok (.iconst 0, 1) := by decide +kernel
theorem dX5_ring_45 : decode cX5_ring 45 = .ok (.goto 14, 3) := by decide +kernel
theorem dX5_ring_48 : decode cX5_ring 48 = .ok (.aload_n 0, 1) := by decide +kernel
theorem dX5_ring_49 : decode cX5_ring 49 = .ok (.getfield 48, 3) := by decide +kernel
theorem dX5_ring_52 : decode cX5_ring 52 = .ok (.bipush 7, 2) := by decide +kernel
theorem dX5_ring_54 : decode cX5_ring 54 = .ok (.iload_n 1, 1) := by decide +kernel
theorem dX5_ring_55 : decode cX5_ring 55 = .ok (.imul, 1) := by decide +kernel
theorem dX5_ring_56 : decode cX5_ring 56 = .ok (.iload_n 2, 1) := by decide +kernel
theorem dX5_ring_57 : decode cX5_ring 57 = .ok (.iadd, 1) := by decide +kernel
theorem dX5_ring_58 : decode cX5_ring 58 = .ok (.iaload, 1) := by decide +kernel
theorem dX5_ring_59 : decode cX5_ring 59 = .ok (.ireturn, 1) := by decide +kernel
