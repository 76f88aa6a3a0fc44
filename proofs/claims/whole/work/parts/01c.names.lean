theorem dX2_put_0 : decode cX2_put 0 = .ok (.iload_n 1, 1) := by decide +kernel
theorem dX2_put_1 : decode cX2_put 1 = .ok (.ldc 148, 2) := by decide +kernel
theorem dX2_put_3 : decode cX2_put 3 = .ok (.if_icmp .lt 4, 3) := by decide +kernel
theorem dX2_put_6 : decode cX2_put 6 = .ok (.return_, 1) := by decide +kernel
theorem dX2_put_7 : decode cX2_put 7 = .ok (.iload_n 1, 1) := by decide +kernel
theorem dX2_put_8 : decode cX2_put 8 = .ok (.ldc 48, 2) := by decide +kernel
theorem dX2_put_10 : decode cX2_put 10 = .ok (.if_icmp .lt 15, 3) := by decide +kernel
theorem dX2_put_13 : decode cX2_put 13 = .ok (.aload_n 0, 1) := by decide +kernel
theorem dX2_put_14 : decode cX2_put 14 = .ok (.iload_n 1, 1) := by decide +kernel
theorem dX2_put_15 : decode cX2_put 15 = .ok (.bipush 15, 2) := by decide +kernel
theorem dX2_put_17 : decode cX2_put 17 = .ok (.iand, 1) := by decide +kernel
theorem dX2_put_18 : decode cX2_put 18 = .ok (.iload_n 2, 1) := by decide +kernel
theorem dX2_put_19 : decode cX2_put 19 = .ok (.invokevirtual 44, 3) := by decide +kernel
theorem dX2_put_22 : decode cX2_put 22 = .ok (.goto 28, 3) := by decide +kernel
theorem dX2_put_25 : decode cX2_put 25 = .ok (.iload_n 3, 1) := by decide +kernel
theorem dX2_put_26 : decode cX2_put 26 = .ok (.ifCond .eq 15, 3) := by decide +kernel
theorem dX2_put_29 : decode cX2_put 29 = .ok (.aload_n 0, 1) := by decide +kernel
theorem dX2_put_30 : decode cX2_put 30 = .ok (.getfield 12, 3) := by decide +kernel
theorem dX2_put_33 : decode cX2_put 33 = .ok (.iload_n 1, 1) := by decide +kernel
theorem dX2_put_34 : decode cX2_put 34 = .ok (.iload_n 2, 1) := by decide +kernel
theorem dX2_put_35 : decode cX2_put 35 = .ok (.invokevirtual 153, 3) := by decide +kernel
theorem dX2_put_38 : decode cX2_put 38 = .ok (.goto 12, 3) := by decide +kernel
theorem dX2_put_41 : decode cX2_put 41 = .ok (.aload_n 0, 1) := by decide +kernel
theorem dX2_put_42 : decode cX2_put 42 = .ok (.getfield 12, 3) := by decide +kernel
theorem dX2_put_45 : decode cX2_put 45 = .ok (.iload_n 1, 1) := by decide +kernel
theorem dX2_put_46 : decode cX2_put 46 = .ok (.iload_n 2, 1) := by decide +kernel
theorem dX2_put_47 : decode cX2_put 47 = .ok (.invokevirtual 156, 3) := by decide +kernel
theorem dX2_put_50 : decode cX2_put 50 = .ok (.return_, 1) := by decide +kernel
set_option maxRecDepth 20000 in
theorem ggX2_combine_X2_add : GoodIn wsX2_combine wsX2_add := goodIn_r _ [7, 8, 9, 6, 10, 11, 12, 13, 14, 2, 15, 16, 17, 18, 19, 1, 28, 29, 30, 31] (by decide +kernel) (by decide +kernel)
set_option maxRecDepth 20000 in
theorem gX2_combine_X2_add : GoodIn wsX2_combine (wsV RX2 159 RX2 yX2_add wsX2_add) := goodIn_app (goodIn_of _ (by decide +kernel)) ggX2_combine_X2_add
set_option maxRecDepth 20000 in
theorem ggX2_combine_X2_addDecimal : GoodIn wsX2_combine wsX2_addDecimal := goodIn_r _ [23, 2, 11, 12, 13, 6, 14, 8, 9, 10, 15, 16, 17, 18, 19, 1, 28, 29, 30, 31] (by decide +kernel) (by decide +kernel)
set_option maxRecDepth 20000 in
theorem gX2_combine_X2_addDecimal : GoodIn wsX2_combine (wsV RX2 163 RX2 yX2_addDecimal wsX2_addDecimal) := goodIn_app (goodIn_of _ (by decide +kernel)) ggX2_combine_X2_addDecimal
set_option maxRecDepth 20000 in
theorem ggX2_combine_X2_isHighestSet : GoodIn wsX2_combine wsX2_isHighestSet := goodIn_r _ [10] (by decide +kernel) (by decide +kernel)
set_option maxRecDepth 20000 in
theorem gX2_combine_X2_isHighestSet : GoodIn wsX2_combine (va_wsS RX2 167 yX2_isHighestSet wsX2_isHighestSet) := goodIn_app (goodIn_of _ (by decide +kernel)) ggX2_combine_X2_isHighestSet
set_option maxRecDepth 20000 in
theorem ggX2_combine_X2_logical : GoodIn wsX2_combine wsX2_logical := goodIn_r _ [27, 11, 12, 13, 6, 14, 2, 8, 9, 10, 15, 16, 17, 18, 19, 1, 28, 29, 30, 31] (by decide +kernel) (by decide +kernel)
set_option maxRecDepth 20000 in
theorem gX2_combine_X2_logical : GoodIn wsX2_combine (wsV RX2 171 RX2 yX2_logical wsX2_logical) := goodIn_app (goodIn_of _ (by decide +kernel)) ggX2_combine_X2_logical
theorem dX2_combine_0 : decode cX2_combine 0 = .ok (.iload 4, 2) := by decide +kernel
theorem dX2_combine_2 : decode cX2_combine 2 = .ok (.ifCond .eq 9, 3) := by decide +kernel
theorem dX2_combine_5 : decode cX2_combine 5 = .ok (.sipush 255, 3) := by decide +kernel
theorem dX2_combine_8 : decode cX2_combine 8 = .ok (.goto 5, 3) := by decide +kernel
theorem dX2_combine_11 : decode cX2_combine 11 = .ok (.ldc 149, 2) := by decide +kernel
theorem dX2_combine_13 : decode cX2_combine 13 = .ok (.istore 5, 2) := by decide +kernel
theorem dX2_combine_15 : decode cX2_combine 15 = .ok (.iload_n 1, 1) := by decide +kernel
theorem dX2_combine_16 : decode cX2_combine 16 = .ok (.tableswitch 159 4 14 #[60, 62, 72, 89, 109, 109, 122, 159, 131, 137, 141], 60) := by decide +kernel
theorem dX2_combine_76 : decode cX2_combine 76 = .ok (.iload_n 2, 1) := by decide +kernel
theorem dX2_combine_77 : decode cX2_combine 77 = .ok (.ireturn, 1) := by decide +kernel
theorem dX2_combine_78 : decode cX2_combine 78 = .ok (.aload_n 0, 1) := by decide +kernel
theorem dX2_combine_79 : decode cX2_combine 79 = .ok (.iload_n 2, 1) := by decide +kernel
theorem dX2_combine_80 : decode cX2_combine 80 = .ok (.iload_n 3, 1) := by decide +kernel
theorem dX2_combine_81 : decode cX2_combine 81 = .ok (.iconst 0, 1) := by decide +kernel
theorem dX2_combine_82 : decode cX2_combine 82 = .ok (.iload 5, 2) := by decide +kernel
theorem dX2_combine_84 : decode cX2_combine 84 = .ok (.invokevirtual 159, 3) := by decide +kernel
theorem dX2_combine_87 : decode cX2_combine 87 = .ok (.ireturn, 1) := by decide +kernel
theorem dX2_combine_88 : decode cX2_combine 88 = .ok (.aload_n 0, 1) := by decide +kernel
theorem dX2_combine_89 : decode cX2_combine 89 = .ok (.iload_n 2, 1) := by decide +kernel
theorem dX2_combine_90 : decode cX2_combine 90 = .ok (.iload_n 3, 1) := by decide +kernel
theorem dX2_combine_91 : decode cX2_combine 91 = .ok (.aload_n 0, 1) := by decide +kernel
theorem dX2_combine_92 : decode cX2_combine 92 = .ok (.getfield 16, 3) := by decide +kernel
theorem dX2_combine_95 : decode cX2_combine 95 = .ok (.iconst 2, 1) := by decide +kernel
theorem dX2_combine_96 : decode cX2_combine 96 = .ok (.iaload, 1) := by decide +kernel
theorem dX2_combine_97 : decode cX2_combine 97 = .ok (.iconst 1, 1) := by decide +kernel
theorem dX2_combine_98 : decode cX2_combine 98 = .ok (.iand, 1) := by decide +kernel
theorem dX2_combine_99 : decode cX2_combine 99 = .ok (.iload 5, 2) := by decide +kernel
theorem dX2_combine_101 : decode cX2_combine 101 = .ok (.invokevirtual 159, 3) := by decide +kernel
theorem dX2_combine_104 : decode cX2_combine 104 = .ok (.ireturn, 1) := by decide +kernel
theorem dX2_combine_105 : decode cX2_combine 105 = .ok (.aload_n 0, 1) := by decide +kernel
theorem dX2_combine_106 : decode cX2_combine 106 = .ok (.iload_n 2, 1) := by decide +kernel
theorem dX2_combine_107 : decode cX2_combine 107 = .ok (.iload 5, 2) := by decide +kernel
theorem dX2_combine_109 : decode cX2_combine 109 = .ok (.ixor, 1) := by decide +kernel
theorem dX2_combine_110 : decode cX2_combine 110 = .ok (.iload_n 3, 1) := by decide +kernel
theorem dX2_combine_111 : decode cX2_combine 111 = .ok (.aload_n 0, 1) := by decide +kernel
theorem dX2_combine_112 : decode cX2_combine 112 = .ok (.getfield 16, 3) := by decide +kernel
theorem dX2_combine_115 : decode cX2_combine 115 = .ok (.iconst 2, 1) := by decide +kernel
theorem dX2_combine_116 : decode cX2_combine 116 = .ok (.iaload, 1) := by decide +kernel
theorem dX2_combine_117 : decode cX2_combine 117 = .ok (.iconst 1, 1) := by decide +kernel
theorem dX2_combine_118 : decode cX2_combine 118 = .ok (.iand, 1) := by decide +kernel
theorem dX2_combine_119 : decode cX2_combine 119 = .ok (.iload 5, 2) := by decide +kernel
theorem dX2_combine_121 : decode cX2_combine 121 = .ok (.invokevirtual 159, 3) := by decide +kernel
theorem dX2_combine_124 : decode cX2_combine 124 = .ok (.ireturn, 1) := by decide +kernel
theorem dX2_combine_125 : decode cX2_combine 125 = .ok (.aload_n 0, 1) := by decide +kernel
theorem dX2_combine_126 : decode cX2_combine 126 = .ok (.iload_n 2, 1) := by decide +kernel
theorem dX2_combine_127 : decode cX2_combine 127 = .ok (.iload 5, 2) := by decide +kernel
theorem dX2_combine_129 : decode cX2_combine 129 = .ok (.ixor, 1) := by decide +kernel
theorem dX2_combine_130 : decode cX2_combine 130 = .ok (.iload_n 3, 1) := by decide +kernel
theorem dX2_combine_131 : decode cX2_combine 131 = .ok (.iconst 1, 1) := by decide +kernel
theorem dX2_combine_132 : decode cX2_combine 132 = .ok (.iload 5, 2) := by decide +kernel
theorem dX2_combine_134 : decode cX2_combine 134 = .ok (.invokevirtual 159, 3) := by decide +kernel
theorem dX2_combine_137 : decode cX2_combine 137 = .ok (.ireturn, 1) := by decide +kernel
theorem dX2_combine_138 : decode cX2_combine 138 = .ok (.aload_n 0, 1) := by decide +kernel
theorem dX2_combine_139 : decode cX2_combine 139 = .ok (.iload_n 2, 1) := by decide +kernel
theorem dX2_combine_140 : decode cX2_combine 140 = .ok (.iload_n 3, 1) := by decide +kernel
theorem dX2_combine_141 : decode cX2_combine 141 = .ok (.iload 5, 2) := by decide +kernel
theorem dX2_combine_143 : decode cX2_combine 143 = .ok (.invokevirtual 163, 3) := by decide +kernel
theorem dX2_combine_146 : decode cX2_combine 146 = .ok (.ireturn, 1) := by decide +kernel
theorem dX2_combine_147 : decode cX2_combine 147 = .ok (.iload_n 3, 1) := by decide +kernel
theorem dX2_combine_148 : decode cX2_combine 148 = .ok (.iload_n 2, 1) := by decide +kernel
theorem dX2_combine_149 : decode cX2_combine 149 = .ok (.iconst (-1), 1) := by decide +kernel
theorem dX2_combine_150 : decode cX2_combine 150 = .ok (.ixor, 1) := by decide +kernel
theorem dX2_combine_151 : decode cX2_combine 151 = .ok (.iand, 1) := by decide +kernel
theorem dX2_combine_152 : decode cX2_combine 152 = .ok (.ireturn, 1) := by decide +kernel
theorem dX2_combine_153 : decode cX2_combine 153 = .ok (.iload_n 3, 1) := by decide +kernel
theorem dX2_combine_154 : decode cX2_combine 154 = .ok (.iload_n 2, 1) := by decide +kernel
theorem dX2_combine_155 : decode cX2_combine 155 = .ok (.ior, 1) := by decide +kernel
theorem dX2_combine_156 : decode cX2_combine 156 = .ok (.ireturn, 1) := by decide +kernel
theorem dX2_combine_157 : decode cX2_combine 157 = .ok (.aload_n 0, 1) := by decide +kernel
theorem dX2_combine_158 : decode cX2_combine 158 = .ok (.iload_n 2, 1) := by decide +kernel
theorem dX2_combine_159 : decode cX2_combine 159 = .ok (.iload_n 3, 1) := by decide +kernel
theorem dX2_combine_160 : decode cX2_combine 160 = .ok (.ixor, 1) := by decide +kernel
theorem dX2_combine_161 : decode cX2_combine 161 = .ok (.iload_n 2, 1) := by decide +kernel
theorem dX2_combine_162 : decode cX2_combine 162 = .ok (.iload_n 3, 1) := by decide +kernel
theorem dX2_combine_163 : decode cX2_combine 163 = .ok (.iand, 1) := by decide +kernel
theorem dX2_combine_164 : decode cX2_combine 164 = .ok (.iload 5, 2) := by decide +kernel
theorem dX2_combine_166 : decode cX2_combine 166 = .ok (.invokestatic 167, 3) := by decide +kernel
theorem dX2_combine_169 : decode cX2_combine 169 = .ok (.iload 5, 2) := by decide +kernel
theorem dX2_combine_171 : decode cX2_combine 171 = .ok (.invokevirtual 171, 3) := by decide +kernel
theorem dX2_combine_174 : decode cX2_combine 174 = .ok (.ireturn, 1) := by decide +kernel
theorem dX2_combine_175 : decode cX2_combine 175 = .ok (.aload_n 0, 1) := by decide +kernel
theorem dX2_combine_176 : decode cX2_combine 176 = .ok (.iload_n 2, 1) := by decide +kernel
theorem dX2_combine_177 : decode cX2_combine 177 = .ok (.iload_n 3, 1) := by decide +kernel
theorem dX2_combine_178 : decode cX2_combine 178 = .ok (.iand, 1) := by decide +kernel
theorem dX2_combine_179 : decode cX2_combine 179 = .ok (.iconst 0, 1) := by decide +kernel
theorem dX2_combine_180 : decode cX2_combine 180 = .ok (.iload 5, 2) := by decide +kernel
theorem dX2_combine_182 : decode cX2_combine 182 = .ok (.invokevirtual 171, 3) := by decide +kernel
theorem dX2_combine_185 : decode cX2_combine 185 = .ok (.ireturn, 1) := by decide +kernel
set_option maxRecDepth 20000 in
theorem ggX2_add_X2_isHighestSet : GoodIn wsX2_add wsX2_isHighestSet := goodIn_r _ [4] (by decide +kernel) (by decide +kernel)
set_option maxRecDepth 20000 in
theorem gX2_add_X2_isHighestSet : GoodIn wsX2_add (va_wsS RX2 167 yX2_isHighestSet wsX2_isHighestSet) := goodIn_app (goodIn_of _ (by decide +kernel)) ggX2_add_X2_isHighestSet
set_option maxRecDepth 20000 in
theorem ggX2_add_X2_setFlags : GoodIn wsX2_add wsX2_setFlags := goodIn_r _ [8, 9, 1, 2, 3, 4, 10, 11, 12, 13, 14, 15, 16, 17, 18, 19] (by decide +kernel) (by decide +kernel)
set_option maxRecDepth 20000 in
theorem gX2_add_X2_setFlags : GoodIn wsX2_add (wsV RX2 175 RX2 yX2_setFlags wsX2_setFlags) := goodIn_app (goodIn_of _ (by decide +kernel)) ggX2_add_X2_setFlags
theorem dX2_add_0 : decode cX2_add 0 = .ok (.iload_n 1, 1) := by decide +kernel
theorem dX2_add_1 : decode cX2_add 1 = .ok (.iload_n 2, 1) := by decide +kernel
theorem dX2_add_2 : decode cX2_add 2 = .ok (.iadd, 1) := by decide +kernel
theorem dX2_add_3 : decode cX2_add 3 = .ok (.iload_n 3, 1) := by decide +kernel
theorem dX2_add_4 : decode cX2_add 4 = .ok (.iadd, 1) := by decide +kernel
theorem dX2_add_5 : decode cX2_add 5 = .ok (.istore 5, 2) := by decide +kernel
theorem dX2_add_7 : decode cX2_add 7 = .ok (.iload 5, 2) := by decide +kernel
theorem dX2_add_9 : decode cX2_add 9 = .ok (.iload 4, 2) := by decide +kernel
theorem dX2_add_11 : decode cX2_add 11 = .ok (.iand, 1) := by decide +kernel
theorem dX2_add_12 : decode cX2_add 12 = .ok (.istore 6, 2) := by decide +kernel
theorem dX2_add_14 : decode cX2_add 14 = .ok (.iload_n 1, 1) := by decide +kernel
theorem dX2_add_15 : decode cX2_add 15 = .ok (.iload_n 2, 1) := by decide +kernel
theorem dX2_add_16 : decode cX2_add 16 = .ok (.ixor, 1) := by decide +kernel
theorem dX2_add_17 : decode cX2_add 17 = .ok (.iconst (-1), 1) := by decide +kernel
theorem dX2_add_18 : decode cX2_add 18 = .ok (.ixor, 1) := by decide +kernel
theorem dX2_add_19 : decode cX2_add 19 = .ok (.iload_n 1, 1) := by decide +kernel
theorem dX2_add_20 : decode cX2_add 20 = .ok (.iload 6, 2) := by decide +kernel
theorem dX2_add_22 : decode cX2_add 22 = .ok (.ixor, 1) := by decide +kernel
theorem dX2_add_23 : decode cX2_add 23 = .ok (.iand, 1) := by decide +kernel
theorem dX2_add_24 : decode cX2_add 24 = .ok (.iload 4, 2) := by decide +kernel
theorem dX2_add_26 : decode cX2_add 26 = .ok (.invokestatic 167, 3) := by decide +kernel
theorem dX2_add_29 : decode cX2_add 29 = .ok (.istore 7, 2) := by decide +kernel
theorem dX2_add_31 : decode cX2_add 31 = .ok (.aload_n 0, 1) := by decide +kernel
theorem dX2_add_32 : decode cX2_add 32 = .ok (.iload 6, 2) := by decide +kernel
theorem dX2_add_34 : decode cX2_add 34 = .ok (.iload 5, 2) := by decide +kernel
theorem dX2_add_36 : decode cX2_add 36 = .ok (.iload 4, 2) := by decide +kernel
theorem dX2_add_38 : decode cX2_add 38 = .ok (.if_icmp .le 7, 3) := by decide +kernel
theorem dX2_add_41 : decode cX2_add 41 = .ok (.iconst 1, 1) := by decide +kernel
theorem dX2_add_42 : decode cX2_add 42 = .ok (.goto 4, 3) := by decide +kernel
theorem dX2_add_45 : decode cX2_add 45 = .ok (.iconst 0, 1) := by decide +kernel
theorem dX2_add_46 : decode cX2_add 46 = .ok (.iload 7, 2) := by decide +kernel
theorem dX2_add_48 : decode cX2_add 48 = .ok (.iload 4, 2) := by decide +kernel
theorem dX2_add_50 : decode cX2_add 50 = .ok (.invokevirtual 175, 3) := by decide +kernel
theorem dX2_add_53 : decode cX2_add 53 = .ok (.iload 6, 2) := by decide +kernel
theorem dX2_add_55 : decode cX2_add 55 = .ok (.ireturn, 1) := by decide +kernel
set_option maxRecDepth 20000 in
theorem ggX2_addDecimal_X2_setFlags : GoodIn wsX2_addDecimal wsX2_setFlags := goodIn_r _ [6, 1, 7, 8, 5, 9, 10, 11, 12, 13, 14, 15, 16, 17, 18, 19] (by decide +kernel) (by decide +kernel)
set_option maxRecDepth 20000 in
theorem gX2_addDecimal_X2_setFlags : GoodIn wsX2_addDecimal (wsV RX2 175 RX2 yX2_setFlags wsX2_setFlags) := goodIn_app (goodIn_of _ (by decide +kernel)) ggX2_addDecimal_X2_setFlags
theorem dX2_addDecimal_0 : decode cX2_addDecimal 0 = .ok (.iconst 0, 1) := by decide +kernel
theorem dX2_addDecimal_1 : decode cX2_addDecimal 1 = .ok (.istore 4, 2) := by decide +kernel
theorem dX2_addDecimal_3 : decode cX2_addDecimal 3 = .ok (.aload_n 0, 1) := by decide +kernel
theorem dX2_addDecimal_4 : decode cX2_addDecimal 4 = .ok (.getfield 16, 3) := by decide +kernel
theorem dX2_addDecimal_7 : decode cX2_addDecimal 7 = .ok (.iconst 2, 1) := by decide +kernel
theorem dX2_addDecimal_8 : decode cX2_addDecimal 8 = .ok (.iaload, 1) := by decide +kernel
theorem dX2_addDecimal_9 : decode cX2_addDecimal 9 = .ok (.iconst 1, 1) := by decide +kernel
theorem dX2_addDecimal_10 : decode cX2_addDecimal 10 = .ok (.iand, 1) := by decide +kernel
theorem dX2_addDecimal_11 : decode cX2_addDecimal 11 = .ok (.istore 5, 2) := by decide +kernel
theorem dX2_addDecimal_13 : decode cX2_addDecimal 13 = .ok (.iconst 0, 1) := by decide +kernel
theorem dX2_addDecimal_14 : decode cX2_addDecimal 14 = .ok (.istore 6, 2) := by decide +kernel
theorem dX2_addDecimal_16 : decode cX2_addDecimal 16 = .ok (.iload 6, 2) := by decide +kernel
theorem dX2_addDecimal_18 : decode cX2_addDecimal 18 = .ok (.bipush 16, 2) := by decide +kernel
theorem dX2_addDecimal_20 : decode cX2_addDecimal 20 = .ok (.if_icmp .ge 69, 3) := by decide +kernel
theorem dX2_addDecimal_23 : decode cX2_addDecimal 23 = .ok (.iload_n 3, 1) := by decide +kernel
theorem dX2_addDecimal_24 : decode cX2_addDecimal 24 = .ok (.iload 6, 2) := by decide +kernel
theorem dX2_addDecimal_26 : decode cX2_addDecimal 26 = .ok (.ishr, 1) := by decide +kernel
theorem dX2_addDecimal_27 : decode cX2_addDecimal 27 = .ok (.ifCond .eq 62, 3) := by decide +kernel
theorem dX2_addDecimal_30 : decode cX2_addDecimal 30 = .ok (.iload_n 1, 1) := by decide +kernel
theorem dX2_addDecimal_31 : decode cX2_addDecimal 31 = .ok (.iload 6, 2) := by decide +kernel
theorem dX2_addDecimal_33 : decode cX2_addDecimal 33 = .ok (.ishr, 1) := by decide +kernel
theorem dX2_addDecimal_34 : decode cX2_addDecimal 34 = .ok (.bipush 15, 2) := by decide +kernel
theorem dX2_addDecimal_36 : decode cX2_addDecimal 36 = .ok (.iand, 1) := by decide +kernel
theorem dX2_addDecimal_37 : decode cX2_addDecimal 37 = .ok (.iload_n 2, 1) := by decide +kernel
theorem dX2_addDecimal_38 : decode cX2_addDecimal 38 = .ok (.iload 6, 2) := by decide +kernel
theorem dX2_addDecimal_40 : decode cX2_addDecimal 40 = .ok (.ishr, 1) := by decide +kernel
theorem dX2_addDecimal_41 : decode cX2_addDecimal 41 = .ok (.bipush 15, 2) := by decide +kernel
theorem dX2_addDecimal_43 : decode cX2_addDecimal 43 = .ok (.iand, 1) := by decide +kernel
theorem dX2_addDecimal_44 : decode cX2_addDecimal 44 = .ok (.iadd, 1) := by decide +kernel
theorem dX2_addDecimal_45 : decode cX2_addDecimal 45 = .ok (.iload 5, 2) := by decide +kernel
theorem dX2_addDecimal_47 : decode cX2_addDecimal 47 = .ok (.iadd, 1) := by decide +kernel
theorem dX2_addDecimal_48 : decode cX2_addDecimal 48 = .ok (.istore 7, 2) := by decide +kernel
theorem dX2_addDecimal_50 : decode cX2_addDecimal 50 = .ok (.iload 7, 2) := by decide +kernel
theorem dX2_addDecimal_52 : decode cX2_addDecimal 52 = .ok (.bipush 9, 2) := by decide +kernel
theorem dX2_addDecimal_54 : decode cX2_addDecimal 54 = .ok (.if_icmp .le 7, 3) := by decide +kernel
theorem dX2_addDecimal_57 : decode cX2_addDecimal 57 = .ok (.iconst 1, 1) := by decide +kernel
theorem dX2_addDecimal_58 : decode cX2_addDecimal 58 = .ok (.goto 4, 3) := by decide +kernel
theorem dX2_addDecimal_61 : decode cX2_addDecimal 61 = .ok (.iconst 0, 1) := by decide +kernel
theorem dX2_addDecimal_62 : decode cX2_addDecimal 62 = .ok (.istore 5, 2) := by decide +kernel
theorem dX2_addDecimal_64 : decode cX2_addDecimal 64 = .ok (.iload 4, 2) := by decide +kernel
theorem dX2_addDecimal_66 : decode cX2_addDecimal 66 = .ok (.iload 7, 2) := by decide +kernel
theorem dX2_addDecimal_68 : decode cX2_addDecimal 68 = .ok (.bipush 10, 2) := by decide +kernel
theorem dX2_addDecimal_70 : decode cX2_addDecimal 70 = .ok (.iload 5, 2) := by decide +kernel
theorem dX2_addDecimal_72 : decode cX2_addDecimal 72 = .ok (.imul, 1) := by decide +kernel
theorem dX2_addDecimal_73 : decode cX2_addDecimal 73 = .ok (.isub, 1) := by decide +kernel
theorem dX2_addDecimal_74 : decode cX2_addDecimal 74 = .ok (.bipush 15, 2) := by decide +kernel
theorem dX2_addDecimal_76 : decode cX2_addDecimal 76 = .ok (.iand, 1) := by decide +kernel
theorem dX2_addDecimal_77 : decode cX2_addDecimal 77 = .ok (.iload 6, 2) := by decide +kernel
theorem dX2_addDecimal_79 : decode cX2_addDecimal 79 = .ok (.ishl, 1) := by decide +kernel
theorem dX2_addDecimal_80 : decode cX2_addDecimal 80 = .ok (.ior, 1) := by decide +kernel
theorem dX2_addDecimal_81 : decode cX2_addDecimal 81 = .ok (.istore 4, 2) := by decide +kernel
theorem dX2_addDecimal_83 : decode cX2_addDecimal 83 = .ok (.iinc 6 4, 3) := by decide +kernel
theorem dX2_addDecimal_86 : decode cX2_addDecimal 86 = .ok (.goto (-70), 3) := by decide +kernel
theorem dX2_addDecimal_89 : decode cX2_addDecimal 89 = .ok (.aload_n 0, 1) := by decide +kernel
theorem dX2_addDecimal_90 : decode cX2_addDecimal 90 = .ok (.iload 4, 2) := by decide +kernel
theorem dX2_addDecimal_92 : decode cX2_addDecimal 92 = .ok (.iload 5, 2) := by decide +kernel
theorem dX2_addDecimal_94 : decode cX2_addDecimal 94 = .ok (.iconst 1, 1) := by decide +kernel
theorem dX2_addDecimal_95 : decode cX2_addDecimal 95 = .ok (.if_icmp .ne 7, 3) := by decide +kernel
theorem dX2_addDecimal_98 : decode cX2_addDecimal 98 = .ok (.iconst 1, 1) := by decide +kernel
theorem dX2_addDecimal_99 : decode cX2_addDecimal 99 = .ok (.goto 4, 3) := by decide +kernel
theorem dX2_addDecimal_102 : decode cX2_addDecimal 102 = .ok (.iconst 0, 1) := by decide +kernel
theorem dX2_addDecimal_103 : decode cX2_addDecimal 103 = .ok (.iconst 0, 1) := by decide +kernel
theorem dX2_addDecimal_104 : decode cX2_addDecimal 104 = .ok (.iload_n 3, 1) := by decide +kernel
theorem dX2_addDecimal_105 : decode cX2_addDecimal 105 = .ok (.invokevirtual 175, 3) := by decide +kernel
theorem dX2_addDecimal_108 : decode cX2_addDecimal 108 = .ok (.iload 4, 2) := by decide +kernel
theorem dX2_addDecimal_110 : decode cX2_addDecimal 110 = .ok (.ireturn, 1) := by decide +kernel
set_option maxRecDepth 20000 in
theorem ggX2_logical_X2_setFlags : GoodIn wsX2_logical wsX2_setFlags := goodIn_r _ [5, 6, 7, 8, 4, 9, 10, 11, 12, 13, 14, 15, 16, 17, 18, 19] (by decide +kernel) (by decide +kernel)
set_option maxRecDepth 20000 in
theorem gX2_logical_X2_setFlags : GoodIn wsX2_logical (wsV RX2 175 RX2 yX2_setFlags wsX2_setFlags) := goodIn_app (goodIn_of _ (by decide +kernel)) ggX2_logical_X2_setFlags
theorem dX2_logical_0 : decode cX2_logical 0 = .ok (.aload_n 0, 1) := by decide +kernel
theorem dX2_logical_1 : decode cX2_logical 1 = .ok (.iload_n 1, 1) := by decide +kernel
theorem dX2_logical_2 : decode cX2_logical 2 = .ok (.iload_n 1, 1) := by decide +kernel
theorem dX2_logical_3 : decode cX2_logical 3 = .ok (.ifCond .eq 7, 3) := by decide +kernel
theorem dX2_logical_6 : decode cX2_logical 6 = .ok (.iconst 1, 1) := by decide +kernel
theorem dX2_logical_7 : decode cX2_logical 7 = .ok (.goto 4, 3) := by decide +kernel
theorem dX2_logical_10 : decode cX2_logical 10 = .ok (.iconst 0, 1) := by decide +kernel
theorem dX2_logical_11 : decode cX2_logical 11 = .ok (.iload_n 2, 1) := by decide +kernel
theorem dX2_logical_12 : decode cX2_logical 12 = .ok (.iload_n 3, 1) := by decide +kernel
theorem dX2_logical_13 : decode cX2_logical 13 = .ok (.invokevirtual 175, 3) := by decide +kernel
theorem dX2_logical_16 : decode cX2_logical 16 = .ok (.iload_n 1, 1) := by decide +kernel
theorem dX2_logical_17 : decode cX2_logical 17 = .ok (.ireturn, 1) := by decide +kernel
set_option maxRecDepth 20000 in
theorem ggX2_change_X2_isSet : GoodIn wsX2_change wsX2_isSet := goodIn_r _ [6, 7, 28, 29, 30, 31] (by decide +kernel) (by decide +kernel)
set_option maxRecDepth 20000 in
theorem gX2_change_X2_isSet : GoodIn wsX2_change (wsV RX2 142 RX2 yX2_isSet wsX2_isSet) := goodIn_app (goodIn_of _ (by decide +kernel)) ggX2_change_X2_isSet
set_option maxRecDepth 20000 in
theorem ggX2_change_X2_shifted : GoodIn wsX2_change wsX2_shifted := goodIn_r _ [11, 12, 13, 14, 5, 15, 7, 16, 17, 18, 19, 20, 21, 22, 23, 1, 28, 29, 30, 31] (by decide +kernel) (by decide +kernel)
set_option maxRecDepth 20000 in
theorem gX2_change_X2_shifted : GoodIn wsX2_change (wsV RX2 179 RX2 yX2_shifted wsX2_shifted) := goodIn_app (goodIn_of _ (by decide +kernel)) ggX2_change_X2_shifted
set_option maxRecDepth 20000 in
theorem ggX2_change_X2_logical : GoodIn wsX2_change wsX2_logical := goodIn_r _ [27, 12, 13, 14, 5, 15, 7, 16, 17, 18, 19, 20, 21, 22, 23, 1, 28, 29, 30, 31] (by decide +kernel) (by decide +kernel)
set_option maxRecDepth 20000 in
theorem gX2_change_X2_logical : GoodIn wsX2_change (wsV RX2 171 RX2 yX2_logical wsX2_logical) := goodIn_app (goodIn_of _ (by decide +kernel)) ggX2_change_X2_logical
theorem dX2_change_0 : decode cX2_change 0 = .ok (.iload_n 3, 1) := by decide +kernel
theorem dX2_change_1 : decode cX2_change 1 = .ok (.ifCond .eq 9, 3) := by decide +kernel
theorem dX2_change_4 : decode cX2_change 4 = .ok (.sipush 255, 3) := by decide +kernel
theorem dX2_change_7 : decode cX2_change 7 = .ok (.goto 5, 3) := by decide +kernel
theorem dX2_change_10 : decode cX2_change 10 = .ok (.ldc 149, 2) := by decide +kernel
theorem dX2_change_12 : decode cX2_change 12 = .ok (.istore 4, 2) := by decide +kernel
theorem dX2_change_14 : decode cX2_change 14 = .ok (.iload 4, 2) := by decide +kernel
theorem dX2_change_16 : decode cX2_change 16 = .ok (.iconst 1, 1) := by decide +kernel
theorem dX2_change_17 : decode cX2_change 17 = .ok (.iadd, 1) := by decide +kernel
theorem dX2_change_18 : decode cX2_change 18 = .ok (.iconst 1, 1) := by decide +kernel
theorem dX2_change_19 : decode cX2_change 19 = .ok (.ishr, 1) := by decide +kernel
theorem dX2_change_20 : decode cX2_change 20 = .ok (.istore 5, 2) := by decide +kernel
theorem dX2_change_22 : decode cX2_change 22 = .ok (.iload_n 1, 1) := by decide +kernel
theorem dX2_change_23 : decode cX2_change 23 = .ok (.tableswitch 73 0 2 #[25, 47, 61], 25) := by decide +kernel
theorem dX2_change_48 : decode cX2_change 48 = .ok (.aload_n 0, 1) := by decide +kernel
theorem dX2_change_49 : decode cX2_change 49 = .ok (.iload_n 2, 1) := by decide +kernel
theorem dX2_change_50 : decode cX2_change 50 = .ok (.aload_n 0, 1) := by decide +kernel
theorem dX2_change_51 : decode cX2_change 51 = .ok (.iconst 1, 1) := by decide +kernel
theorem dX2_change_52 : decode cX2_change 52 = .ok (.invokevirtual 142, 3) := by decide +kernel
theorem dX2_change_55 : decode cX2_change 55 = .ok (.ifCond .eq 8, 3) := by decide +kernel
theorem dX2_change_58 : decode cX2_change 58 = .ok (.iload 5, 2) := by decide +kernel
theorem dX2_change_60 : decode cX2_change 60 = .ok (.goto 4, 3) := by decide +kernel
theorem dX2_change_63 : decode cX2_change 63 = .ok (.iconst 0, 1) := by decide +kernel
theorem dX2_change_64 : decode cX2_change 64 = .ok (.iload 4, 2) := by decide +kernel
theorem dX2_change_66 : decode cX2_change 66 = .ok (.invokevirtual 179, 3) := by decide +kernel
theorem dX2_change_69 : decode cX2_change 69 = .ok (.ireturn, 1) := by decide +kernel
theorem dX2_change_70 : decode cX2_change 70 = .ok (.iload_n 2, 1) := by decide +kernel
theorem dX2_change_71 : decode cX2_change 71 = .ok (.sipush 255, 3) := by decide +kernel
theorem dX2_change_74 : decode cX2_change 74 = .ok (.iand, 1) := by decide +kernel
theorem dX2_change_75 : decode cX2_change 75 = .ok (.bipush 8, 2) := by decide +kernel
theorem dX2_change_77 : decode cX2_change 77 = .ok (.ishl, 1) := by decide +kernel
theorem dX2_change_78 : decode cX2_change 78 = .ok (.iload_n 2, 1) := by decide +kernel
theorem dX2_change_79 : decode cX2_change 79 = .ok (.bipush 8, 2) := by decide +kernel
theorem dX2_change_81 : decode cX2_change 81 = .ok (.ishr, 1) := by decide +kernel
theorem dX2_change_82 : decode cX2_change 82 = .ok (.ior, 1) := by decide +kernel
theorem dX2_change_83 : decode cX2_change 83 = .ok (.ireturn, 1) := by decide +kernel
theorem dX2_change_84 : decode cX2_change 84 = .ok (.aload_n 0, 1) := by decide +kernel
theorem dX2_change_85 : decode cX2_change 85 = .ok (.iload_n 2, 1) := by decide +kernel
theorem dX2_change_86 : decode cX2_change 86 = .ok (.iload_n 2, 1) := by decide +kernel
theorem dX2_change_87 : decode cX2_change 87 = .ok (.iload 5, 2) := by decide +kernel
theorem dX2_change_89 : decode cX2_change 89 = .ok (.iand, 1) := by decide +kernel
theorem dX2_change_90 : decode cX2_change 90 = .ok (.iload 4, 2) := by decide +kernel
theorem dX2_change_92 : decode cX2_change 92 = .ok (.invokevirtual 179, 3) := by decide +kernel
theorem dX2_change_95 : decode cX2_change 95 = .ok (.ireturn, 1) := by decide +kernel
theorem dX2_change_96 : decode cX2_change 96 = .ok (.aload_n 0, 1) := by decide +kernel
theorem dX2_change_97 : decode cX2_change 97 = .ok (.iload_n 2, 1) := by decide +kernel
theorem dX2_change_98 : decode cX2_change 98 = .ok (.sipush 255, 3) := by decide +kernel
theorem dX2_change_101 : decode cX2_change 101 = .ok (.iand, 1) := by decide +kernel
theorem dX2_change_102 : decode cX2_change 102 = .ok (.sipush 128, 3) := by decide +kernel
theorem dX2_change_105 : decode cX2_change 105 = .ok (.ixor, 1) := by decide +kernel
theorem dX2_change_106 : decode cX2_change 106 = .ok (.sipush 128, 3) := by decide +kernel
theorem dX2_change_109 : decode cX2_change 109 = .ok (.isub, 1) := by decide +kernel
theorem dX2_change_110 : decode cX2_change 110 = .ok (.ldc 149, 2) := by decide +kernel
theorem dX2_change_112 : decode cX2_change 112 = .ok (.iand, 1) := by decide +kernel
theorem dX2_change_113 : decode cX2_change 113 = .ok (.iconst 0, 1) := by decide +kernel
theorem dX2_change_114 : decode cX2_change 114 = .ok (.iload 4, 2) := by decide +kernel
theorem dX2_change_116 : decode cX2_change 116 = .ok (.invokevirtual 171, 3) := by decide +kernel
theorem dX2_change_119 : decode cX2_change 119 = .ok (.ireturn, 1) := by decide +kernel
set_option maxRecDepth 20000 in
theorem ggX2_shifted_X2_setFlags : GoodIn wsX2_shifted wsX2_setFlags := goodIn_r _ [5, 6, 7, 8, 4, 9, 10, 11, 12, 13, 14, 15, 16, 17, 18, 19] (by decide +kernel) (by decide +kernel)
set_option maxRecDepth 20000 in
theorem gX2_shifted_X2_setFlags : GoodIn wsX2_shifted (wsV RX2 175 RX2 yX2_setFlags wsX2_setFlags) := goodIn_app (goodIn_of _ (by decide +kernel)) ggX2_shifted_X2_setFlags
theorem dX2_shifted_0 : decode cX2_shifted 0 = .ok (.iload_n 1, 1) := by decide +kernel
theorem dX2_shifted_1 : decode cX2_shifted 1 = .ok (.iconst 1, 1) := by decide +kernel
theorem dX2_shifted_2 : decode cX2_shifted 2 = .ok (.ishr, 1) := by decide +kernel
theorem dX2_shifted_3 : decode cX2_shifted 3 = .ok (.iload_n 2, 1) := by decide +kernel
theorem dX2_shifted_4 : decode cX2_shifted 4 = .ok (.ior, 1) := by decide +kernel
theorem dX2_shifted_5 : decode cX2_shifted 5 = .ok (.istore 4, 2) := by decide +kernel
theorem dX2_shifted_7 : decode cX2_shifted 7 = .ok (.aload_n 0, 1) := by decide +kernel
theorem dX2_shifted_8 : decode cX2_shifted 8 = .ok (.iload 4, 2) := by decide +kernel
theorem dX2_shifted_10 : decode cX2_shifted 10 = .ok (.iload_n 1, 1) := by decide +kernel
theorem dX2_shifted_11 : decode cX2_shifted 11 = .ok (.iconst 1, 1) := by decide +kernel
theorem dX2_shifted_12 : decode cX2_shifted 12 = .ok (.iand, 1) := by decide +kernel
theorem dX2_shifted_13 : decode cX2_shifted 13 = .ok (.ifCond .eq 7, 3) := by decide +kernel
theorem dX2_shifted_16 : decode cX2_shifted 16 = .ok (.iconst 1, 1) := by decide +kernel
theorem dX2_shifted_17 : decode cX2_shifted 17 = .ok (.goto 4, 3) := by decide +kernel
theorem dX2_shifted_20 : decode cX2_shifted 20 = .ok (.iconst 0, 1) := by decide +kernel
theorem dX2_shifted_21 : decode cX2_shifted 21 = .ok (.iconst 0, 1) := by decide +kernel
theorem dX2_shifted_22 : decode cX2_shifted 22 = .ok (.iload_n 3, 1) := by decide +kernel
theorem dX2_shifted_23 : decode cX2_shifted 23 = .ok (.invokevirtual 175, 3) := by decide +kernel
theorem dX2_shifted_26 : decode cX2_shifted 26 = .ok (.iload 4, 2) := by decide +kernel
theorem dX2_shifted_28 : decode cX2_shifted 28 = .ok (.ireturn, 1) := by decide +kernel
theorem dX2_isHighestSet_0 : decode cX2_isHighestSet 0 = .ok (.iload_n 0, 1) := by decide +kernel
theorem dX2_isHighestSet_1 : decode cX2_isHighestSet 1 = .ok (.iload_n 1, 1) := by decide +kernel
theorem dX2_isHighestSet_2 : decode cX2_isHighestSet 2 = .ok (.iconst 1, 1) := by decide +kernel
theorem dX2_isHighestSet_3 : decode cX2_isHighestSet 3 = .ok (.iadd, 1) := by decide +kernel
theorem dX2_isHighestSet_4 : decode cX2_isHighestSet 4 = .ok (.iconst 1, 1) := by decide +kernel
theorem dX2_isHighestSet_5 : decode cX2_isHighestSet 5 = .ok (.ishr, 1) := by decide +kernel
theorem dX2_isHighestSet_6 : decode cX2_isHighestSet 6 = .ok (.iand, 1) := by decide +kernel
theorem dX2_isHighestSet_7 : decode cX2_isHighestSet 7 = .ok (.ifCond .eq 7, 3) := by decide +kernel
theorem dX2_isHighestSet_10 : decode cX2_isHighestSet 10 = .ok (.iconst 1, 1) := by decide +kernel
theorem dX2_isHighestSet_11 : decode cX2_isHighestSet 11 = .ok (.goto 4, 3) := by decide +kernel
theorem dX2_isHighestSet_14 : decode cX2_isHighestSet 14 = .ok (.iconst 0, 1) := by decide +kernel
theorem dX2_isHighestSet_15 : decode cX2_isHighestSet 15 = .ok (.ireturn, 1) := by decide +kernel
set_option maxRecDepth 20000 in
theorem ggX2_setFlags_X2_isHighestSet : GoodIn wsX2_setFlags wsX2_isHighestSet := goodIn_r _ [5] (by decide +kernel) (by decide +kernel)
set_option maxRecDepth 20000 in
theorem gX2_setFlags_X2_isHighestSet : GoodIn wsX2_setFlags (va_wsS RX2 167 yX2_isHighestSet wsX2_isHighestSet) := goodIn_app (goodIn_of _ (by decide +kernel)) ggX2_setFlags_X2_isHighestSet
set_option maxRecDepth 20000 in
theorem ggX2_setFlags_X2_setRegister : GoodIn wsX2_setFlags wsX2_setRegister := goodIn_r _ [9, 1, 10, 11, 12, 13, 14, 15] (by decide +kernel) (by decide +kernel)
set_option maxRecDepth 20000 in
theorem gX2_setFlags_X2_setRegister : GoodIn wsX2_setFlags (wsV RX2 44 RX2 yX2_setRegister wsX2_setRegister) := goodIn_app (goodIn_of _ (by decide +kernel)) ggX2_setFlags_X2_setRegister
theorem dX2_setFlags_0 : decode cX2_setFlags 0 = .ok (.iload_n 2, 1) := by decide +kernel
theorem dX2_setFlags_1 : decode cX2_setFlags 1 = .ok (.ifCond .eq 7, 3) := by decide +kernel
theorem dX2_setFlags_4 : decode cX2_setFlags 4 = .ok (.iconst 1, 1) := by decide +kernel
theorem dX2_setFlags_5 : decode cX2_setFlags 5 = .ok (.goto 4, 3) := by decide +kernel
theorem dX2_setFlags_8 : decode cX2_setFlags 8 = .ok (.iconst 0, 1) := by decide +kernel
theorem dX2_setFlags_9 : decode cX2_setFlags 9 = .ok (.istore 5, 2) := by decide +kernel
theorem dX2_setFlags_11 : decode cX2_setFlags 11 = .ok (.iload_n 1, 1) := by decide +kernel
theorem dX2_setFlags_12 : decode cX2_setFlags 12 = .ok (.ifCond .ne 9, 3) := by decide +kernel
theorem dX2_setFlags_15 : decode cX2_setFlags 15 = .ok (.iload 5, 2) := by decide +kernel
theorem dX2_setFlags_17 : decode cX2_setFlags 17 = .ok (.iconst 2, 1) := by decide +kernel
theorem dX2_setFlags_18 : decode cX2_setFlags 18 = .ok (.ior, 1) := by decide +kernel
theorem dX2_setFlags_19 : decode cX2_setFlags 19 = .ok (.istore 5, 2) := by decide +kernel
theorem dX2_setFlags_21 : decode cX2_setFlags 21 = .ok (.iload_n 1, 1) := by decide +kernel
theorem dX2_setFlags_22 : decode cX2_setFlags 22 = .ok (.iload 4, 2) := by decide +kernel
theorem dX2_setFlags_24 : decode cX2_setFlags 24 = .ok (.invokestatic 167, 3) := by decide +kernel
theorem dX2_setFlags_27 : decode cX2_setFlags 27 = .ok (.ifCond .eq 9, 3) := by decide +kernel
theorem dX2_setFlags_30 : decode cX2_setFlags 30 = .ok (.iload 5, 2) := by decide +kernel
theorem dX2_setFlags_32 : decode cX2_setFlags 32 = .ok (.iconst 4, 1) := by decide +kernel
theorem dX2_setFlags_33 : decode cX2_setFlags 33 = .ok (.ior, 1) := by decide +kernel
theorem dX2_setFlags_34 : decode cX2_setFlags 34 = .ok (.istore 5, 2) := by decide +kernel
theorem dX2_setFlags_36 : decode cX2_setFlags 36 = .ok (.iload_n 3, 1) := by decide +kernel
theorem dX2_setFlags_37 : decode cX2_setFlags 37 = .ok (.ifCond .eq 11, 3) := by decide +kernel
theorem dX2_setFlags_40 : decode cX2_setFlags 40 = .ok (.iload 5, 2) := by decide +kernel
theorem dX2_setFlags_42 : decode cX2_setFlags 42 = .ok (.sipush 256, 3) := by decide +kernel
theorem dX2_setFlags_45 : decode cX2_setFlags 45 = .ok (.ior, 1) := by decide +kernel
theorem dX2_setFlags_46 : decode cX2_setFlags 46 = .ok (.istore 5, 2) := by decide +kernel
theorem dX2_setFlags_48 : decode cX2_setFlags 48 = .ok (.aload_n 0, 1) := by decide +kernel
theorem dX2_setFlags_49 : decode cX2_setFlags 49 = .ok (.iconst 2, 1) := by decide +kernel
theorem dX2_setFlags_50 : decode cX2_setFlags 50 = .ok (.aload_n 0, 1) := by decide +kernel
theorem dX2_setFlags_51 : decode cX2_setFlags 51 = .ok (.getfield 16, 3) := by decide +kernel
theorem dX2_setFlags_54 : decode cX2_setFlags 54 = .ok (.iconst 2, 1) := by decide +kernel
theorem dX2_setFlags_55 : decode cX2_setFlags 55 = .ok (.iaload, 1) := by decide +kernel
theorem dX2_setFlags_56 : decode cX2_setFlags 56 = .ok (.sipush (-264), 3) := by decide +kernel
theorem dX2_setFlags_59 : decode cX2_setFlags 59 = .ok (.iand, 1) := by decide +kernel
theorem dX2_setFlags_60 : decode cX2_setFlags 60 = .ok (.iload 5, 2) := by decide +kernel
theorem dX2_setFlags_62 : decode cX2_setFlags 62 = .ok (.ior, 1) := by decide +kernel
theorem dX2_setFlags_63 : decode cX2_setFlags 63 = .ok (.invokevirtual 44, 3) := by decide +kernel
theorem dX2_setFlags_66 : decode cX2_setFlags 66 = .ok (.return_, 1) := by decide +kernel
theorem dX2_isSet_0 : decode cX2_isSet 0 = .ok (.aload_n 0, 1) := by decide +kernel
theorem dX2_isSet_1 : decode cX2_isSet 1 = .ok (.getfield 16, 3) := by decide +kernel
theorem dX2_isSet_4 : decode cX2_isSet 4 = .ok (.iconst 2, 1) := by decide +kernel
theorem dX2_isSet_5 : decode cX2_isSet 5 = .ok (.iaload, 1) := by decide +kernel
theorem dX2_isSet_6 : decode cX2_isSet 6 = .ok (.iload_n 1, 1) := by decide +kernel
theorem dX2_isSet_7 : decode cX2_isSet 7 = .ok (.iand, 1) := by decide +kernel
theorem dX2_isSet_8 : decode cX2_isSet 8 = .ok (.ifCond .eq 7, 3) := by decide +kernel
theorem dX2_isSet_11 : decode cX2_isSet 11 = .ok (.iconst 1, 1) := by decide +kernel
theorem dX2_isSet_12 : decode cX2_isSet 12 = .ok (.goto 4, 3) := by decide +kernel
theorem dX2_isSet_15 : decode cX2_isSet 15 = .ok (.iconst 0, 1) := by decide +kernel
theorem dX2_isSet_16 : decode cX2_isSet 16 = .ok (.ireturn, 1) := by decide +kernel
set_option maxRecDepth 20000 in
theorem ggX2_push_X2_addToRegister : GoodIn wsX2_push wsX2_addToRegister := goodIn_r _ [7, 2, 8, 9, 10, 6, 11, 12, 13, 73, 74, 75, 76] (by decide +kernel) (by decide +kernel)
set_option maxRecDepth 20000 in
theorem gX2_push_X2_addToRegister : GoodIn wsX2_push (wsV RX2 62 RX2 yX2_addToRegister wsX2_addToRegister) := goodIn_app (goodIn_of _ (by decide +kernel)) ggX2_push_X2_addToRegister
set_option maxRecDepth 20000 in
theorem ggX2_push_X0_writeByte : GoodIn wsX2_push wsX0_writeByte := goodIn_r _ [17, 18, 19, 20, 15, 21, 22, 23, 24, 25, 26, 27, 28, 29, 30, 31, 32, 33, 34, 35, 36, 37, 38, 39, 40, 41, 42, 43, 44, 45, 46, 47, 48, 49, 50, 51, 52, 53, 54, 55, 56, 57, 58, 59, 60, 61, 62, 63, 64, 65, 66, 67, 68, 69, 77, 78, 79, 80, 81, 82, 83, 84] (by decide +kernel) (by decide +kernel)
set_option maxRecDepth 20000 in
theorem gX2_push_X0_writeByte_n153 : GoodIn wsX2_push (wsX0_writeByte) := ggX2_push_X0_writeByte
set_option maxRecDepth 20000 in
theorem ggX2_push_X0_writeWord : GoodIn wsX2_push wsX0_writeWord := goodIn_r _ [72, 18, 19, 20, 15, 21, 22, 34, 35, 36, 58, 38, 59, 60, 61, 62, 49, 50, 51, 41, 42, 43, 44, 45, 63, 64, 65, 66, 67, 68, 69, 52, 53, 54, 55, 32, 56, 57, 46, 47, 48, 33, 77, 78, 79, 80, 81, 82, 83, 84] (by decide +kernel) (by decide +kernel)
set_option maxRecDepth 20000 in
theorem gX2_push_X0_writeWord_n156 : GoodIn wsX2_push (wsX0_writeWord) := ggX2_push_X0_writeWord
theorem dX2_push_0 : decode cX2_push 0 = .ok (.aload_n 0, 1) := by decide +kernel
theorem dX2_push_1 : decode cX2_push 1 = .ok (.iconst 1, 1) := by decide +kernel
theorem dX2_push_2 : decode cX2_push 2 = .ok (.bipush (-2), 2) := by decide +kernel
theorem dX2_push_4 : decode cX2_push 4 = .ok (.invokevirtual 62, 3) := by decide +kernel
theorem dX2_push_7 : decode cX2_push 7 = .ok (.iload_n 2, 1) := by decide +kernel
theorem dX2_push_8 : decode cX2_push 8 = .ok (.ifCond .eq 20, 3) := by decide +kernel
theorem dX2_push_11 : decode cX2_push 11 = .ok (.aload_n 0, 1) := by decide +kernel
theorem dX2_push_12 : decode cX2_push 12 = .ok (.getfield 12, 3) := by decide +kernel
theorem dX2_push_15 : decode cX2_push 15 = .ok (.aload_n 0, 1) := by decide +kernel
theorem dX2_push_16 : decode cX2_push 16 = .ok (.getfield 16, 3) := by decide +kernel
theorem dX2_push_19 : decode cX2_push 19 = .ok (.iconst 1, 1) := by decide +kernel
theorem dX2_push_20 : decode cX2_push 20 = .ok (.iaload, 1) := by decide +kernel
theorem dX2_push_21 : decode cX2_push 21 = .ok (.iload_n 1, 1) := by decide +kernel
theorem dX2_push_22 : decode cX2_push 22 = .ok (.invokevirtual 153, 3) := by decide +kernel
theorem dX2_push_25 : decode cX2_push 25 = .ok (.goto 17, 3) := by decide +kernel
theorem dX2_push_28 : decode cX2_push 28 = .ok (.aload_n 0, 1) := by decide +kernel
theorem dX2_push_29 : decode cX2_push 29 = .ok (.getfield 12, 3) := by decide +kernel
theorem dX2_push_32 : decode cX2_push 32 = .ok (.aload_n 0, 1) := by decide +kernel
theorem dX2_push_33 : decode cX2_push 33 = .ok (.getfield 16, 3) := by decide +kernel
theorem dX2_push_36 : decode cX2_push 36 = .ok (.iconst 1, 1) := by decide +kernel
theorem dX2_push_37 : decode cX2_push 37 = .ok (.iaload, 1) := by decide +kernel
theorem dX2_push_38 : decode cX2_push 38 = .ok (.iload_n 1, 1) := by decide +kernel
theorem dX2_push_39 : decode cX2_push 39 = .ok (.invokevirtual 156, 3) := by decide +kernel
theorem dX2_push_42 : decode cX2_push 42 = .ok (.return_, 1) := by decide +kernel
set_option maxRecDepth 20000 in
theorem ggX2_pop_X0_wordAt : GoodIn wsX2_pop wsX0_wordAt := goodIn_r _ [6, 7, 8, 9, 10, 11, 4, 12, 13, 14, 15, 16, 17, 18, 19, 20, 21, 22, 23, 24, 25, 26, 27, 28, 44, 45, 46, 47, 48, 49, 50, 51] (by decide +kernel) (by decide +kernel)
set_option maxRecDepth 20000 in
theorem gX2_pop_X0_wordAt_n40 : GoodIn wsX2_pop (wsX0_wordAt) := ggX2_pop_X0_wordAt
set_option maxRecDepth 20000 in
theorem ggX2_pop_X2_addToRegister : GoodIn wsX2_pop wsX2_addToRegister := goodIn_r _ [33, 2, 34, 35, 36, 32, 37, 38, 39, 40, 41, 42, 43] (by decide +kernel) (by decide +kernel)
set_option maxRecDepth 20000 in
theorem gX2_pop_X2_addToRegister : GoodIn wsX2_pop (wsV RX2 62 RX2 yX2_addToRegister wsX2_addToRegister) := goodIn_app (goodIn_of _ (by decide +kernel)) ggX2_pop_X2_addToRegister
theorem dX2_pop_0 : decode cX2_pop 0 = .ok (.aload_n 0, 1) := by decide +kernel
theorem dX2_pop_1 : decode cX2_pop 1 = .ok (.getfield 12, 3) := by decide +kernel
theorem dX2_pop_4 : decode cX2_pop 4 = .ok (.aload_n 0, 1) := by decide +kernel
theorem dX2_pop_5 : decode cX2_pop 5 = .ok (.getfield 16, 3) := by decide +kernel
theorem dX2_pop_8 : decode cX2_pop 8 = .ok (.iconst 1, 1) := by decide +kernel
theorem dX2_pop_9 : decode cX2_pop 9 = .ok (.iaload, 1) := by decide +kernel
theorem dX2_pop_10 : decode cX2_pop 10 = .ok (.invokevirtual 40, 3) := by decide +kernel
theorem dX2_pop_13 : decode cX2_pop 13 = .ok (.istore_n 1, 1) := by decide +kernel
theorem dX2_pop_14 : decode cX2_pop 14 = .ok (.aload_n 0, 1) := by decide +kernel
theorem dX2_pop_15 : decode cX2_pop 15 = .ok (.iconst 1, 1) := by decide +kernel
theorem dX2_pop_16 : decode cX2_pop 16 = .ok (.iconst 2, 1) := by decide +kernel
theorem dX2_pop_17 : decode cX2_pop 17 = .ok (.invokevirtual 62, 3) := by decide +kernel
theorem dX2_pop_20 : decode cX2_pop 20 = .ok (.iload_n 1, 1) := by decide +kernel
theorem dX2_pop_21 : decode cX2_pop 21 = .ok (.ireturn, 1) := by decide +kernel
set_option maxRecDepth 20000 in
theorem ggX2_addToRegister_X2_setRegister : GoodIn wsX2_addToRegister wsX2_setRegister := goodIn_r _ [6, 1, 7, 8, 9, 10, 11, 12] (by decide +kernel) (by decide +kernel)
set_option maxRecDepth 20000 in
theorem gX2_addToRegister_X2_setRegister : GoodIn wsX2_addToRegister (wsV RX2 44 RX2 yX2_setRegister wsX2_setRegister) := goodIn_app (goodIn_of _ (by decide +kernel)) ggX2_addToRegister_X2_setRegister
theorem dX2_addToRegister_0 : decode cX2_addToRegister 0 = .ok (.aload_n 0, 1) := by decide +kernel
theorem dX2_addToRegister_1 : decode cX2_addToRegister 1 = .ok (.iload_n 1, 1) := by decide +kernel
theorem dX2_addToRegister_2 : decode cX2_addToRegister 2 = .ok (.aload_n 0, 1) := by decide +kernel
theorem dX2_addToRegister_3 : decode cX2_addToRegister 3 = .ok (.getfield 16, 3) := by decide +kernel
theorem dX2_addToRegister_6 : decode cX2_addToRegister 6 = .ok (.iload_n 1, 1) := by decide +kernel
theorem dX2_addToRegister_7 : decode cX2_addToRegister 7 = .ok (.bipush 15, 2) := by decide +kernel
theorem dX2_addToRegister_9 : decode cX2_addToRegister 9 = .ok (.iand, 1) := by decide +kernel
theorem dX2_addToRegister_10 : decode cX2_addToRegister 10 = .ok (.iaload, 1) := by decide +kernel
theorem dX2_addToRegister_11 : decode cX2_addToRegister 11 = .ok (.iload_n 2, 1) := by decide +kernel
theorem dX2_addToRegister_12 : decode cX2_addToRegister 12 = .ok (.iadd, 1) := by decide +kernel
theorem dX2_addToRegister_13 : decode cX2_addToRegister 13 = .ok (.invokevirtual 44, 3) := by decide +kernel
theorem dX2_addToRegister_16 : decode cX2_addToRegister 16 = .ok (.return_, 1) := by decide +kernel
theorem dX2_setRegister_0 : decode cX2_setRegister 0 = .ok (.iload_n 1, 1) := by decide +kernel
theorem dX2_setRegister_1 : decode cX2_setRegister 1 = .ok (.iconst 3, 1) := by decide +kernel
theorem dX2_setRegister_2 : decode cX2_setRegister 2 = .ok (.if_icmp .ne 4, 3) := by decide +kernel
theorem dX2_setRegister_5 : decode cX2_setRegister 5 = .ok (.return_, 1) := by decide +kernel
theorem dX2_setRegister_6 : decode cX2_setRegister 6 = .ok (.aload_n 0, 1) := by decide +kernel
theorem dX2_setRegister_7 : decode cX2_setRegister 7 = .ok (.getfield 16, 3) := by decide +kernel
theorem dX2_setRegister_10 : decode cX2_setRegister 10 = .ok (.iload_n 1, 1) := by decide +kernel
theorem dX2_setRegister_11 : decode cX2_setRegister 11 = .ok (.bipush 15, 2) := by decide +kernel
theorem dX2_setRegister_13 : decode cX2_setRegister 13 = .ok (.iand, 1) := by decide +kernel
theorem dX2_setRegister_14 : decode cX2_setRegister 14 = .ok (.iload_n 2, 1) := by decide +kernel
theorem dX2_setRegister_15 : decode cX2_setRegister 15 = .ok (.iload_n 1, 1) := by decide +kernel
theorem dX2_setRegister_16 : decode cX2_setRegister 16 = .ok (.ifCond .ne 8, 3) := by decide +kernel
theorem dX2_setRegister_19 : decode cX2_setRegister 19 = .ok (.ldc 39, 2) := by decide +kernel
theorem dX2_setRegister_21 : decode cX2_setRegister 21 = .ok (.goto 5, 3) := by decide +kernel
theorem dX2_setRegister_24 : decode cX2_setRegister 24 = .ok (.ldc 149, 2) := by decide +kernel
theorem dX2_setRegister_26 : decode cX2_setRegister 26 = .ok (.iand, 1) := by decide +kernel
theorem dX2_setRegister_27 : decode cX2_setRegister 27 = .ok (.iastore, 1) := by decide +kernel
theorem dX2_setRegister_28 : decode cX2_setRegister 28 = .ok (.return_, 1) := by decide +kernel
theorem dX2_kindOfSource_0 : decode cX2_kindOfSource 0 = .ok (.iload_n 0, 1) := by decide +kernel
theorem dX2_kindOfSource_1 : decode cX2_kindOfSource 1 = .ok (.ldc 48, 2) := by decide +kernel
theorem dX2_kindOfSource_3 : decode cX2_kindOfSource 3 = .ok (.if_icmp .lt 7, 3) := by decide +kernel
theorem dX2_kindOfSource_6 : decode cX2_kindOfSource 6 = .ok (.iconst 0, 1) := by decide +kernel
theorem dX2_kindOfSource_7 : decode cX2_kindOfSource 7 = .ok (.goto 12, 3) := by decide +kernel
theorem dX2_kindOfSource_10 : decode cX2_kindOfSource 10 = .ok (.getstatic 182, 3) := by decide +kernel
theorem dX2_kindOfSource_13 : decode cX2_kindOfSource 13 = .ok (.iload_n 1, 1) := by decide +kernel
theorem dX2_kindOfSource_14 : decode cX2_kindOfSource 14 = .ok (.iconst 4, 1) := by decide +kernel
theorem dX2_kindOfSource_15 : decode cX2_kindOfSource 15 = .ok (.ishr, 1) := by decide +kernel
theorem dX2_kindOfSource_16 : decode cX2_kindOfSource 16 = .ok (.iconst 3, 1) := by decide +kernel
theorem dX2_kindOfSource_17 : decode cX2_kindOfSource 17 = .ok (.iand, 1) := by decide +kernel
theorem dX2_kindOfSource_18 : decode cX2_kindOfSource 18 = .ok (.iaload, 1) := by decide +kernel
theorem dX2_kindOfSource_19 : decode cX2_kindOfSource 19 = .ok (.ireturn, 1) := by decide +kernel
theorem dX2_twoPartsCycles_0 : decode cX2_twoPartsCycles 0 = .ok (.iload_n 0, 1) := by decide +kernel
theorem dX2_twoPartsCycles_1 : decode cX2_twoPartsCycles 1 = .ok (.ldc 48, 2) := by decide +kernel
theorem dX2_twoPartsCycles_3 : decode cX2_twoPartsCycles 3 = .ok (.if_icmp .ge 7, 3) := by decide +kernel
theorem dX2_twoPartsCycles_6 : decode cX2_twoPartsCycles 6 = .ok (.getstatic 185, 3) := by decide +kernel
theorem dX2_twoPartsCycles_9 : decode cX2_twoPartsCycles 9 = .ok (.areturn, 1) := by decide +kernel
theorem dX2_twoPartsCycles_10 : decode cX2_twoPartsCycles 10 = .ok (.iload_n 0, 1) := by decide +kernel
theorem dX2_twoPartsCycles_11 : decode cX2_twoPartsCycles 11 = .ok (.ldc 48, 2) := by decide +kernel
theorem dX2_twoPartsCycles_13 : decode cX2_twoPartsCycles 13 = .ok (.if_icmp .ne 9, 3) := by decide +kernel
theorem dX2_twoPartsCycles_16 : decode cX2_twoPartsCycles 16 = .ok (.getstatic 188, 3) := by decide +kernel
theorem dX2_twoPartsCycles_19 : decode cX2_twoPartsCycles 19 = .ok (.goto 6, 3) := by decide +kernel
theorem dX2_twoPartsCycles_22 : decode cX2_twoPartsCycles 22 = .ok (.getstatic 191, 3) := by decide +kernel
theorem dX2_twoPartsCycles_25 : decode cX2_twoPartsCycles 25 = .ok (.areturn, 1) := by decide +kernel
set_option maxRecDepth 20000 in
theorem ggX2_spendByKind_X2_spend : GoodIn wsX2_spendByKind wsX2_spend := goodIn_r _ [5, 6, 7, 8, 9, 10, 11] (by decide +kernel) (by decide +kernel)
set_option maxRecDepth 20000 in
theorem gX2_spendByKind_X2_spend : GoodIn wsX2_spendByKind (wsV RX2 93 RX2 yX2_spend wsX2_spend) := goodIn_app (goodIn_of _ (by decide +kernel)) ggX2_spendByKind_X2_spend
theorem dX2_spendByKind_0 : decode cX2_spendByKind 0 = .ok (.aload_n 0, 1) := by decide +kernel
theorem dX2_spendByKind_1 : decode cX2_spendByKind 1 = .ok (.aload_n 1, 1) := by decide +kernel
theorem dX2_spendByKind_2 : decode cX2_spendByKind 2 = .ok (.iload_n 2, 1) := by decide +kernel
theorem dX2_spendByKind_3 : decode cX2_spendByKind 3 = .ok (.iconst 3, 1) := by decide +kernel
theorem dX2_spendByKind_4 : decode cX2_spendByKind 4 = .ok (.iand, 1) := by decide +kernel
theorem dX2_spendByKind_5 : decode cX2_spendByKind 5 = .ok (.iaload, 1) := by decide +kernel
theorem dX2_spendByKind_6 : decode cX2_spendByKind 6 = .ok (.invokevirtual 93, 3) := by decide +kernel
theorem dX2_spendByKind_9 : decode cX2_spendByKind 9 = .ok (.return_, 1) := by decide +kernel
theorem dX2_spend_0 : decode cX2_spend 0 = .ok (.aload_n 0, 1) := by decide +kernel
theorem dX2_spend_1 : decode cX2_spend 1 = .ok (.aload_n 0, 1) := by decide +kernel
theorem dX2_spend_2 : decode cX2_spend 2 = .ok (.getfield 27, 3) := by decide +kernel
theorem dX2_spend_5 : decode cX2_spend 5 = .ok (.iload_n 1, 1) := by decide +kernel
theorem dX2_spend_6 : decode cX2_spend 6 = .ok (.iadd, 1) := by decide +kernel
theorem dX2_spend_7 : decode cX2_spend 7 = .ok (.ldc 194, 2) := by decide +kernel
theorem dX2_spend_9 : decode cX2_spend 9 = .ok (.iand, 1) := by decide +kernel
theorem dX2_spend_10 : decode cX2_spend 10 = .ok (.putfield 27, 3) := by decide +kernel
theorem dX2_spend_13 : decode cX2_spend 13 = .ok (.return_, 1) := by decide +kernel
set_option maxRecDepth 20000 in
theorem ggX3_init_X3_init_ : GoodIn wsX3_init wsX3_init_ := goodIn_r _ [14, 8, 9, 15, 16, 17, 18, 19, 20, 21, 13, 22, 6, 23, 24, 25, 26, 27, 28, 29, 30, 31, 32, 33, 34, 35, 36, 37, 38, 39, 40, 41, 42] (by decide +kernel) (by decide +kernel)
set_option maxRecDepth 20000 in
theorem gX3_init_X3_init_ : GoodIn wsX3_init (wsV RX3 21 RX3 yX3_init_ wsX3_init_) := goodIn_app (goodIn_of _ (by decide +kernel)) ggX3_init_X3_init_
theorem dX3_init_0 : decode cX3_init 0 = .ok (.aload_n 0, 1) := by decide +kernel
theorem dX3_init_1 : decode cX3_init 1 = .ok (.invokespecial 1, 3) := by decide +kernel
theorem dX3_init_4 : decode cX3_init 4 = .ok (.aload_n 0, 1) := by decide +kernel
theorem dX3_init_5 : decode cX3_init 5 = .ok (.ldc 7, 2) := by decide +kernel
theorem dX3_init_7 : decode cX3_init 7 = .ok (.newarray .short, 2) := by decide +kernel
theorem dX3_init_9 : decode cX3_init 9 = .ok (.putfield 8, 3) := by decide +kernel
theorem dX3_init_12 : decode cX3_init 12 = .ok (.aload_n 0, 1) := by decide +kernel
theorem dX3_init_13 : decode cX3_init 13 = .ok (.bipush 16, 2) := by decide +kernel
theorem dX3_init_15 : decode cX3_init 15 = .ok (.newarray .int, 2) := by decide +kernel
theorem dX3_init_17 : decode cX3_init 17 = .ok (.putfield 14, 3) := by decide +kernel
theorem dX3_init_20 : decode cX3_init 20 = .ok (.aload_n 0, 1) := by decide +kernel
theorem dX3_init_21 : decode cX3_init 21 = .ok (.iconst 5, 1) := by decide +kernel
theorem dX3_init_22 : decode cX3_init 22 = .ok (.newarray .int, 2) := by decide +kernel
theorem dX3_init_24 : decode cX3_init 24 = .ok (.putfield 18, 3) := by decide +kernel
theorem dX3_init_27 : decode cX3_init 27 = .ok (.aload_n 0, 1) := by decide +kernel
theorem dX3_init_28 : decode cX3_init 28 = .ok (.invokevirtual 21, 3) := by decide +kernel
theorem dX3_init_31 : decode cX3_init 31 = .ok (.return_, 1) := by decide +kernel
set_option maxRecDepth 20000 in
theorem ggX3_init__X3_wordAt : GoodIn wsX3_init_ wsX3_wordAt := goodIn_r _ [11, 2, 12, 13, 14, 15, 10, 16, 17, 18, 19, 24, 25, 26, 27, 28, 29, 30, 31, 32] (by decide +kernel) (by decide +kernel)
set_option maxRecDepth 20000 in
theorem gX3_init__X3_wordAt : GoodIn wsX3_init_ (wsV RX3 35 RX3 yX3_wordAt wsX3_wordAt) := goodIn_app (goodIn_of _ (by decide +kernel)) ggX3_init__X3_wordAt
set_option maxRecDepth 20000 in
theorem ggX3_init__X3_setRegister : GoodIn wsX3_init_ wsX3_setRegister := goodIn_r _ [23, 1, 6, 13, 24, 25, 26, 27, 28, 29, 30, 31, 32] (by decide +kernel) (by decide +kernel)
set_option maxRecDepth 20000 in
theorem gX3_init__X3_setRegister : GoodIn wsX3_init_ (wsV RX3 39 RX3 yX3_setRegister wsX3_setRegister) := goodIn_app (goodIn_of _ (by decide +kernel)) ggX3_init__X3_setRegister
theorem dX3_init__0 : decode cX3_init_ 0 = .ok (.iconst 0, 1) := by decide +kernel
theorem dX3_init__1 : decode cX3_init_ 1 = .ok (.istore_n 1, 1) := by decide +kernel
theorem dX3_init__2 : decode cX3_init_ 2 = .ok (.iload_n 1, 1) := by decide +kernel
theorem dX3_init__3 : decode cX3_init_ 3 = .ok (.bipush 16, 2) := by decide +kernel
theorem dX3_init__5 : decode cX3_init_ 5 = .ok (.if_icmp .ge 16, 3) := by decide +kernel
theorem dX3_init__8 : decode cX3_init_ 8 = .ok (.aload_n 0, 1) := by decide +kernel
theorem dX3_init__9 : decode cX3_init_ 9 = .ok (.getfield 14, 3) := by decide +kernel
theorem dX3_init__12 : decode cX3_init_ 12 = .ok (.iload_n 1, 1) := by decide +kernel
theorem dX3_init__13 : decode cX3_init_ 13 = .ok (.iconst 0, 1) := by decide +kernel
theorem dX3_init__14 : decode cX3_init_ 14 = .ok (.iastore, 1) := by decide +kernel
theorem dX3_init__15 : decode cX3_init_ 15 = .ok (.iinc 1 1, 3) := by decide +kernel
theorem dX3_init__18 : decode cX3_init_ 18 = .ok (.goto (-16), 3) := by decide +kernel
theorem dX3_init__21 : decode cX3_init_ 21 = .ok (.iconst 0, 1) := by decide +kernel
theorem dX3_init__22 : decode cX3_init_ 22 = .ok (.istore_n 1, 1) := by decide +kernel
theorem dX3_init__23 : decode cX3_init_ 23 = .ok (.iload_n 1, 1) := by decide +kernel
theorem dX3_init__24 : decode cX3_init_ 24 = .ok (.iconst 5, 1) := by decide +kernel
theorem dX3_init__25 : decode cX3_init_ 25 = .ok (.if_icmp .ge 16, 3) := by decide +kernel
theorem dX3_init__28 : decode cX3_init_ 28 = .ok (.aload_n 0, 1) := by decide +kernel
theorem dX3_init__29 : decode cX3_init_ 29 = .ok (.getfield 18, 3) := by decide +kernel
theorem dX3_init__32 : decode cX3_init_ 32 = .ok (.iload_n 1, 1) := by decide +kernel
theorem dX3_init__33 : decode cX3_init_ 33 = .ok (.iconst 0, 1) := by decide +kernel
theorem dX3_init__34 : decode cX3_init_ 34 = .ok (.iastore, 1) := by decide +kernel
theorem dX3_init__35 : decode cX3_init_ 35 = .ok (.iinc 1 1, 3) := by decide +kernel
theorem dX3_init__38 : decode cX3_init_ 38 = .ok (.goto (-15), 3) := by decide +kernel
theorem dX3_init__41 : decode cX3_init_ 41 = .ok (.aload_n 0, 1) := by decide +kernel
theorem dX3_init__42 : decode cX3_init_ 42 = .ok (.iconst 0, 1) := by decide +kernel
theorem dX3_init__43 : decode cX3_init_ 43 = .ok (.putfield 24, 3) := by decide +kernel
theorem dX3_init__46 : decode cX3_init_ 46 = .ok (.aload_n 0, 1) := by decide +kernel
theorem dX3_init__47 : decode cX3_init_ 47 = .ok (.iconst 0, 1) := by decide +kernel
theorem dX3_init__48 : decode cX3_init_ 48 = .ok (.putfield 28, 3) := by decide +kernel
theorem dX3_init__51 : decode cX3_init_ 51 = .ok (.aload_n 0, 1) := by decide +kernel
theorem dX3_init__52 : decode cX3_init_ 52 = .ok (.iconst 0, 1) := by decide +kernel
theorem dX3_init__53 : decode cX3_init_ 53 = .ok (.putfield 31, 3) := by decide +kernel
theorem dX3_init__56 : decode cX3_init_ 56 = .ok (.aload_n 0, 1) := by decide +kernel
theorem dX3_init__57 : decode cX3_init_ 57 = .ok (.iconst 0, 1) := by decide +kernel
theorem dX3_init__58 : decode cX3_init_ 58 = .ok (.aload_n 0, 1) := by decide +kernel
theorem dX3_init__59 : decode cX3_init_ 59 = .ok (.ldc 34, 2) := by decide +kernel
theorem dX3_init__61 : decode cX3_init_ 61 = .ok (.invokevirtual 35, 3) := by decide +kernel
theorem dX3_init__64 : decode cX3_init_ 64 = .ok (.invokevirtual 39, 3) := by decide +kernel
theorem dX3_init__67 : decode cX3_init_ 67 = .ok (.return_, 1) := by decide +kernel
theorem dX3_isMultiplier_0 : decode cX3_isMultiplier 0 = .ok (.iload_n 0, 1) := by decide +kernel
theorem dX3_isMultiplier_1 : decode cX3_isMultiplier 1 = .ok (.sipush 304, 3) := by decide +kernel
theorem dX3_isMultiplier_4 : decode cX3_isMultiplier 4 = .ok (.if_icmp .lt 14, 3) := by decide +kernel
theorem dX3_isMultiplier_7 : decode cX3_isMultiplier 7 = .ok (.iload_n 0, 1) := by decide +kernel
theorem dX3_isMultiplier_8 : decode cX3_isMultiplier 8 = .ok (.sipush 320, 3) := by decide +kernel
theorem dX3_isMultiplier_11 : decode cX3_isMultiplier 11 = .ok (.if_icmp .ge 7, 3) := by decide +kernel
theorem dX3_isMultiplier_14 : decode cX3_isMultiplier 14 = .ok (.iconst 1, 1) := by decide +kernel
theorem dX3_isMultiplier_15 : decode cX3_isMultiplier 15 = .ok (.goto 4, 3) := by decide +kernel
theorem dX3_isMultiplier_18 : decode cX3_isMultiplier 18 = .ok (.iconst 0, 1) := by decide +kernel
theorem dX3_isMultiplier_19 : decode cX3_isMultiplier 19 = .ok (.ireturn, 1) := by decide +kernel
theorem dX3_which_0 : decode cX3_which 0 = .ok (.iload_n 0, 1) := by decide +kernel
theorem dX3_which_1 : decode cX3_which 1 = .ok (.sipush 312, 3) := by decide +kernel
theorem dX3_which_4 : decode cX3_which 4 = .ok (.if_icmp .ge 7, 3) := by decide +kernel
theorem dX3_which_7 : decode cX3_which 7 = .ok (.iconst 0, 1) := by decide +kernel
theorem dX3_which_8 : decode cX3_which 8 = .ok (.goto 12, 3) := by decide +kernel
theorem dX3_which_11 : decode cX3_which 11 = .ok (.iload_n 0, 1) := by decide +kernel
theorem dX3_which_12 : decode cX3_which 12 = .ok (.sipush 304, 3) := by decide +kernel
theorem dX3_which_15 : decode cX3_which 15 = .ok (.isub, 1) := by decide +kernel
theorem dX3_which_16 : decode cX3_which 16 = .ok (.iconst 2, 1) := by decide +kernel
theorem dX3_which_17 : decode cX3_which 17 = .ok (.idiv, 1) := by decide +kernel
theorem dX3_which_18 : decode cX3_which 18 = .ok (.iconst 3, 1) := by decide +kernel
theorem dX3_which_19 : decode cX3_which 19 = .ok (.isub, 1) := by decide +kernel
theorem dX3_which_20 : decode cX3_which 20 = .ok (.ireturn, 1) := by decide +kernel
set_option maxRecDepth 20000 in
theorem ggX3_wordAt_X3_isMultiplier : GoodIn wsX3_wordAt wsX3_isMultiplier := goodIn_r _ [7] (by decide +kernel) (by decide +kernel)
set_option maxRecDepth 20000 in
theorem gX3_wordAt_X3_isMultiplier : GoodIn wsX3_wordAt (va_wsS RX3 43 yX3_isMultiplier wsX3_isMultiplier) := goodIn_app (goodIn_of _ (by decide +kernel)) ggX3_wordAt_X3_isMultiplier
set_option maxRecDepth 20000 in
theorem ggX3_wordAt_X3_which : GoodIn wsX3_wordAt wsX3_which := goodIn_r _ [10] (by decide +kernel) (by decide +kernel)
set_option maxRecDepth 20000 in
theorem gX3_wordAt_X3_which : GoodIn wsX3_wordAt (va_wsS RX3 47 yX3_which wsX3_which) := goodIn_app (goodIn_of _ (by decide +kernel)) ggX3_wordAt_X3_which
theorem dX3_wordAt_0 : decode cX3_wordAt 0 = .ok (.iload_n 1, 1) := by decide +kernel
theorem dX3_wordAt_1 : decode cX3_wordAt 1 = .ok (.invokestatic 43, 3) := by decide +kernel
theorem dX3_wordAt_4 : decode cX3_wordAt 4 = .ok (.ifCond .eq 13, 3) := by decide +kernel
theorem dX3_wordAt_7 : decode cX3_wordAt 7 = .ok (.aload_n 0, 1) := by decide +kernel
theorem dX3_wordAt_8 : decode cX3_wordAt 8 = .ok (.getfield 18, 3) := by decide +kernel
theorem dX3_wordAt_11 : decode cX3_wordAt 11 = .ok (.iload_n 1, 1) := by decide +kernel
theorem dX3_wordAt_12 : decode cX3_wordAt 12 = .ok (.invokestatic 47, 3) := by decide +kernel
theorem dX3_wordAt_15 : decode cX3_wordAt 15 = .ok (.iaload, 1) := by decide +kernel
theorem dX3_wordAt_16 : decode cX3_wordAt 16 = .ok (.ireturn, 1) := by decide +kernel
theorem dX3_wordAt_17 : decode cX3_wordAt 17 = .ok (.aload_n 0, 1) := by decide +kernel
theorem dX3_wordAt_18 : decode cX3_wordAt 18 = .ok (.getfield 8, 3) := by decide +kernel
theorem dX3_wordAt_21 : decode cX3_wordAt 21 = .ok (.iload_n 1, 1) := by decide +kernel
theorem dX3_wordAt_22 : decode cX3_wordAt 22 = .ok (.iconst 1, 1) := by decide +kernel
theorem dX3_wordAt_23 : decode cX3_wordAt 23 = .ok (.ishr, 1) := by decide +kernel
theorem dX3_wordAt_24 : decode cX3_wordAt 24 = .ok (.saload, 1) := by decide +kernel
theorem dX3_wordAt_25 : decode cX3_wordAt 25 = .ok (.ldc 50, 2) := by decide +kernel
theorem dX3_wordAt_27 : decode cX3_wordAt 27 = .ok (.iand, 1) := by decide +kernel
theorem dX3_wordAt_28 : decode cX3_wordAt 28 = .ok (.ireturn, 1) := by decide +kernel
set_option maxRecDepth 20000 in
theorem ggX3_byteAt_X3_wordAt : GoodIn wsX3_byteAt wsX3_wordAt := goodIn_r _ [5, 6, 7, 8, 9, 10, 4, 11, 12, 13, 14, 15, 16, 17, 18, 19, 20, 21, 22, 23] (by decide +kernel) (by decide +kernel)
set_option maxRecDepth 20000 in
theorem gX3_byteAt_X3_wordAt : GoodIn wsX3_byteAt (wsV RX3 35 RX3 yX3_wordAt wsX3_wordAt) := goodIn_app (goodIn_of _ (by decide +kernel)) ggX3_byteAt_X3_wordAt
theorem dX3_byteAt_0 : decode cX3_byteAt 0 = .ok (.aload_n 0, 1) := by decide +kernel
theorem dX3_byteAt_1 : decode cX3_byteAt 1 = .ok (.iload_n 1, 1) := by decide +kernel
theorem dX3_byteAt_2 : decode cX3_byteAt 2 = .ok (.invokevirtual 35, 3) := by decide +kernel
theorem dX3_byteAt_5 : decode cX3_byteAt 5 = .ok (.bipush 8, 2) := by decide +kernel
theorem dX3_byteAt_7 : decode cX3_byteAt 7 = .ok (.iload_n 1, 1) := by decide +kernel
theorem dX3_byteAt_8 : decode cX3_byteAt 8 = .ok (.iconst 1, 1) := by decide +kernel
theorem dX3_byteAt_9 : decode cX3_byteAt 9 = .ok (.iand, 1) := by decide +kernel
theorem dX3_byteAt_10 : decode cX3_byteAt 10 = .ok (.imul, 1) := by decide +kernel
theorem dX3_byteAt_11 : decode cX3_byteAt 11 = .ok (.ishr, 1) := by decide +kernel
theorem dX3_byteAt_12 : decode cX3_byteAt 12 = .ok (.sipush 255, 3) := by decide +kernel
theorem dX3_byteAt_15 : decode cX3_byteAt 15 = .ok (.iand, 1) := by decide +kernel
theorem dX3_byteAt_16 : decode cX3_byteAt 16 = .ok (.ireturn, 1) := by decide +kernel
set_option maxRecDepth 20000 in
theorem ggX3_valueAt_X3_byteAt : GoodIn wsX3_valueAt wsX3_byteAt := goodIn_r _ [6, 7, 8, 9, 5, 10, 11, 12, 13, 14, 15, 16, 17, 18, 19, 20, 21, 22, 23, 24, 25, 26, 27, 28] (by decide +kernel) (by decide +kernel)
set_option maxRecDepth 20000 in
theorem gX3_valueAt_X3_byteAt : GoodIn wsX3_valueAt (wsV RX3 55 RX3 yX3_byteAt wsX3_byteAt) := goodIn_app (goodIn_of _ (by decide +kernel)) ggX3_valueAt_X3_byteAt
set_option maxRecDepth 20000 in
theorem ggX3_valueAt_X3_wordAt : GoodIn wsX3_valueAt wsX3_wordAt := goodIn_r _ [10, 11, 12, 13, 14, 15, 5, 16, 17, 18, 19, 20, 21, 22, 23, 24, 25, 26, 27, 28] (by decide +kernel) (by decide +kernel)
set_option maxRecDepth 20000 in
theorem gX3_valueAt_X3_wordAt : GoodIn wsX3_valueAt (wsV RX3 35 RX3 yX3_wordAt wsX3_wordAt) := goodIn_app (goodIn_of _ (by decide +kernel)) ggX3_valueAt_X3_wordAt
theorem dX3_valueAt_0 : decode cX3_valueAt 0 = .ok (.aload_n 0, 1) := by decide +kernel
theorem dX3_valueAt_1 : decode cX3_valueAt 1 = .ok (.getfield 51, 3) := by decide +kernel
theorem dX3_valueAt_4 : decode cX3_valueAt 4 = .ok (.ifCond .eq 11, 3) := by decide +kernel
theorem dX3_valueAt_7 : decode cX3_valueAt 7 = .ok (.aload_n 0, 1) := by decide +kernel
theorem dX3_valueAt_8 : decode cX3_valueAt 8 = .ok (.iload_n 1, 1) := by decide +kernel
theorem dX3_valueAt_9 : decode cX3_valueAt 9 = .ok (.invokevirtual 55, 3) := by decide +kernel
theorem dX3_valueAt_12 : decode cX3_valueAt 12 = .ok (.goto 8, 3) := by decide +kernel
theorem dX3_valueAt_15 : decode cX3_valueAt 15 = .ok (.aload_n 0, 1) := by decide +kernel
theorem dX3_valueAt_16 : decode cX3_valueAt 16 = .ok (.iload_n 1, 1) := by decide +kernel
theorem dX3_valueAt_17 : decode cX3_valueAt 17 = .ok (.invokevirtual 35, 3) := by decide +kernel
theorem dX3_valueAt_20 : decode cX3_valueAt 20 = .ok (.ireturn, 1) := by decide +kernel
theorem dX3_withByte_0 : decode cX3_withByte 0 = .ok (.iload_n 1, 1) := by decide +kernel
theorem dX3_withByte_1 : decode cX3_withByte 1 = .ok (.iconst 1, 1) := by decide +kernel
theorem dX3_withByte_2 : decode cX3_withByte 2 = .ok (.iand, 1) := by decide +kernel
theorem dX3_withByte_3 : decode cX3_withByte 3 = .ok (.ifCond .ne 12, 3) := by decide +kernel
theorem dX3_withByte_6 : decode cX3_withByte 6 = .ok (.iload_n 0, 1) := by decide +kernel
theorem dX3_withByte_7 : decode cX3_withByte 7 = .ok (.ldc 58, 2) := by decide +kernel
theorem dX3_withByte_9 : decode cX3_withByte 9 = .ok (.iand, 1) := by decide +kernel
theorem dX3_withByte_10 : decode cX3_withByte 10 = .ok (.iload_n 2, 1) := by decide +kernel
theorem dX3_withByte_11 : decode cX3_withByte 11 = .ok (.ior, 1) := by decide +kernel
theorem dX3_withByte_12 : decode cX3_withByte 12 = .ok (.goto 13, 3) := by decide +kernel
theorem dX3_withByte_15 : decode cX3_withByte 15 = .ok (.iload_n 0, 1) := by decide +kernel
theorem dX3_withByte_16 : decode cX3_withByte 16 = .ok (.sipush 255, 3) := by decide +kernel
theorem dX3_withByte_19 : decode cX3_withByte 19 = .ok (.iand, 1) := by decide +kernel
theorem dX3_withByte_20 : decode cX3_withByte 20 = .ok (.iload_n 2, 1) := by decide +kernel
theorem dX3_withByte_21 : decode cX3_withByte 21 = .ok (.bipush 8, 2) := by decide +kernel
theorem dX3_withByte_23 : decode cX3_withByte 23 = .ok (.ishl, 1) := by decide +kernel
theorem dX3_withByte_24 : decode cX3_withByte 24 = .ok (.ior, 1) := by decide +kernel
theorem dX3_withByte_25 : decode cX3_withByte 25 = .ok (.ireturn, 1) := by decide +kernel
set_option maxRecDepth 20000 in
theorem ggX3_setWord_X3_isMultiplier : GoodIn wsX3_setWord wsX3_isMultiplier := goodIn_r _ [5] (by decide +kernel) (by decide +kernel)
set_option maxRecDepth 20000 in
theorem gX3_setWord_X3_isMultiplier : GoodIn wsX3_setWord (va_wsS RX3 43 yX3_isMultiplier wsX3_isMultiplier) := goodIn_app (goodIn_of _ (by decide +kernel)) ggX3_setWord_X3_isMultiplier
set_option maxRecDepth 20000 in
theorem ggX3_setWord_X3_multiply : GoodIn wsX3_setWord wsX3_multiply := goodIn_r _ [9, 10, 11, 12, 13, 14, 4, 15, 16, 17, 18, 19, 20, 21, 22, 23, 24, 25, 26, 27] (by decide +kernel) (by decide +kernel)
set_option maxRecDepth 20000 in
theorem gX3_setWord_X3_multiply : GoodIn wsX3_setWord (wsV RX3 59 RX3 yX3_multiply wsX3_multiply) := goodIn_app (goodIn_of _ (by decide +kernel)) ggX3_setWord_X3_multiply
theorem dX3_setWord_0 : decode cX3_setWord 0 = .ok (.iload_n 1, 1) := by decide +kernel
theorem dX3_setWord_1 : decode cX3_setWord 1 = .ok (.invokestatic 43, 3) := by decide +kernel
theorem dX3_setWord_4 : decode cX3_setWord 4 = .ok (.ifCond .eq 18, 3) := by decide +kernel
theorem dX3_setWord_7 : decode cX3_setWord 7 = .ok (.aload_n 0, 1) := by decide +kernel
theorem dX3_setWord_8 : decode cX3_setWord 8 = .ok (.iload_n 1, 1) := by decide +kernel
theorem dX3_setWord_9 : decode cX3_setWord 9 = .ok (.sipush 304, 3) := by decide +kernel
theorem dX3_setWord_12 : decode cX3_setWord 12 = .ok (.isub, 1) := by decide +kernel
theorem dX3_setWord_13 : decode cX3_setWord 13 = .ok (.iconst 2, 1) := by decide +kernel
theorem dX3_setWord_14 : decode cX3_setWord 14 = .ok (.idiv, 1) := by decide +kernel
theorem dX3_setWord_15 : decode cX3_setWord 15 = .ok (.iload_n 2, 1) := by decide +kernel
theorem dX3_setWord_16 : decode cX3_setWord 16 = .ok (.invokevirtual 59, 3) := by decide +kernel
theorem dX3_setWord_19 : decode cX3_setWord 19 = .ok (.goto 13, 3) := by decide +kernel
theorem dX3_setWord_22 : decode cX3_setWord 22 = .ok (.aload_n 0, 1) := by decide +kernel
theorem dX3_setWord_23 : decode cX3_setWord 23 = .ok (.getfield 8, 3) := by decide +kernel
theorem dX3_setWord_26 : decode cX3_setWord 26 = .ok (.iload_n 1, 1) := by decide +kernel
theorem dX3_setWord_27 : decode cX3_setWord 27 = .ok (.iconst 1, 1) := by decide +kernel
theorem dX3_setWord_28 : decode cX3_setWord 28 = .ok (.ishr, 1) := by decide +kernel
theorem dX3_setWord_29 : decode cX3_setWord 29 = .ok (.iload_n 2, 1) := by decide +kernel
theorem dX3_setWord_30 : decode cX3_setWord 30 = .ok (.i2s, 1) := by decide +kernel
theorem dX3_setWord_31 : decode cX3_setWord 31 = .ok (.sastore, 1) := by decide +kernel
theorem dX3_setWord_32 : decode cX3_setWord 32 = .ok (.return_, 1) := by decide +kernel
set_option maxRecDepth 20000 in
theorem ggX3_setByte_X3_isMultiplier : GoodIn wsX3_setByte wsX3_isMultiplier := goodIn_r _ [6] (by decide +kernel) (by decide +kernel)
set_option maxRecDepth 20000 in
theorem gX3_setByte_X3_isMultiplier : GoodIn wsX3_setByte (va_wsS RX3 43 yX3_isMultiplier wsX3_isMultiplier) := goodIn_app (goodIn_of _ (by decide +kernel)) ggX3_setByte_X3_isMultiplier
set_option maxRecDepth 20000 in
theorem ggX3_setByte_X3_withByte : GoodIn wsX3_setByte wsX3_withByte := goodIn_r _ [9, 10] (by decide +kernel) (by decide +kernel)
set_option maxRecDepth 20000 in
theorem gX3_setByte_X3_withByte : GoodIn wsX3_setByte (va_wsS RX3 62 yX3_withByte wsX3_withByte) := goodIn_app (goodIn_of _ (by decide +kernel)) ggX3_setByte_X3_withByte
set_option maxRecDepth 20000 in
theorem ggX3_setByte_X3_multiply : GoodIn wsX3_setByte wsX3_multiply := goodIn_r _ [14, 15, 16, 17, 18, 19, 5, 20, 21, 22, 2, 23, 24, 25, 26, 27, 28, 29, 30, 31] (by decide +kernel) (by decide +kernel)
set_option maxRecDepth 20000 in
theorem gX3_setByte_X3_multiply : GoodIn wsX3_setByte (wsV RX3 59 RX3 yX3_multiply wsX3_multiply) := goodIn_app (goodIn_of _ (by decide +kernel)) ggX3_setByte_X3_multiply
theorem dX3_setByte_0 : decode cX3_setByte 0 = .ok (.iload_n 1, 1) := by decide +kernel
theorem dX3_setByte_1 : decode cX3_setByte 1 = .ok (.invokestatic 43, 3) := by decide +kernel
theorem dX3_setByte_4 : decode cX3_setByte 4 = .ok (.ifCond .ne 31, 3) := by decide +kernel
theorem dX3_setByte_7 : decode cX3_setByte 7 = .ok (.aload_n 0, 1) := by decide +kernel
theorem dX3_setByte_8 : decode cX3_setByte 8 = .ok (.getfield 8, 3) := by decide +kernel
theorem dX3_setByte_11 : decode cX3_setByte 11 = .ok (.iload_n 1, 1) := by decide +kernel
theorem dX3_setByte_12 : decode cX3_setByte 12 = .ok (.iconst 1, 1) := by decide +kernel
theorem dX3_setByte_13 : decode cX3_setByte 13 = .ok (.ishr, 1) := by decide +kernel
theorem dX3_setByte_14 : decode cX3_setByte 14 = .ok (.aload_n 0, 1) := by decide +kernel
theorem dX3_setByte_15 : decode cX3_setByte 15 = .ok (.getfield 8, 3) := by decide +kernel
theorem dX3_setByte_18 : decode cX3_setByte 18 = .ok (.iload_n 1, 1) := by decide +kernel
theorem dX3_setByte_19 : decode cX3_setByte 19 = .ok (.iconst 1, 1) := by decide +kernel
theorem dX3_setByte_20 : decode cX3_setByte 20 = .ok (.ishr, 1) := by decide +kernel
theorem dX3_setByte_21 : decode cX3_setByte 21 = .ok (.saload, 1) := by decide +kernel
theorem dX3_setByte_22 : decode cX3_setByte 22 = .ok (.ldc 50, 2) := by decide +kernel
theorem dX3_setByte_24 : decode cX3_setByte 24 = .ok (.iand, 1) := by decide +kernel
theorem dX3_setByte_25 : decode cX3_setByte 25 = .ok (.iload_n 1, 1) := by decide +kernel
theorem dX3_setByte_26 : decode cX3_setByte 26 = .ok (.iload_n 2, 1) := by decide +kernel
theorem dX3_setByte_27 : decode cX3_setByte 27 = .ok (.invokestatic 62, 3) := by decide +kernel
theorem dX3_setByte_30 : decode cX3_setByte 30 = .ok (.i2s, 1) := by decide +kernel
theorem dX3_setByte_31 : decode cX3_setByte 31 = .ok (.sastore, 1) := by decide +kernel
theorem dX3_setByte_32 : decode cX3_setByte 32 = .ok (.goto 21, 3) := by decide +kernel
theorem dX3_setByte_35 : decode cX3_setByte 35 = .ok (.iload_n 1, 1) := by decide +kernel
theorem dX3_setByte_36 : decode cX3_setByte 36 = .ok (.iconst 1, 1) := by decide +kernel
theorem dX3_setByte_37 : decode cX3_setByte 37 = .ok (.iand, 1) := by decide +kernel
theorem dX3_setByte_38 : decode cX3_setByte 38 = .ok (.ifCond .ne 15, 3) := by decide +kernel
theorem dX3_setByte_41 : decode cX3_setByte 41 = .ok (.aload_n 0, 1) := by decide +kernel
theorem dX3_setByte_42 : decode cX3_setByte 42 = .ok (.iload_n 1, 1) := by decide +kernel
theorem dX3_setByte_43 : decode cX3_setByte 43 = .ok (.sipush 304, 3) := by decide +kernel
theorem dX3_setByte_46 : decode cX3_setByte 46 = .ok (.isub, 1) := by decide +kernel
theorem dX3_setByte_47 : decode cX3_setByte 47 = .ok (.iconst 2, 1) := by decide +kernel
theorem dX3_setByte_48 : decode cX3_setByte 48 = .ok (.idiv, 1) := by decide +kernel
theorem dX3_setByte_49 : decode cX3_setByte 49 = .ok (.iload_n 2, 1) := by decide +kernel
theorem dX3_setByte_50 : decode cX3_setByte 50 = .ok (.invokevirtual 59, 3) := by decide +kernel
theorem dX3_setByte_53 : decode cX3_setByte 53 = .ok (.return_, 1) := by decide +kernel
set_option maxRecDepth 20000 in
theorem ggX3_multiply_X3_product : GoodIn wsX3_multiply wsX3_product := goodIn_r _ [7, 2, 1, 8, 9, 10, 11, 12, 13, 14, 15, 16, 17, 18, 19] (by decide +kernel) (by decide +kernel)
set_option maxRecDepth 20000 in
theorem gX3_multiply_X3_product : GoodIn wsX3_multiply (wsV RX3 66 RX3 yX3_product wsX3_product) := goodIn_app (goodIn_of _ (by decide +kernel)) ggX3_multiply_X3_product
theorem dX3_multiply_0 : decode cX3_multiply 0 = .ok (.iload_n 1, 1) := by decide +kernel
theorem dX3_multiply_1 : decode cX3_multiply 1 = .ok (.iconst 4, 1) := by decide +kernel
theorem dX3_multiply_2 : decode cX3_multiply 2 = .ok (.if_icmp .ge 18, 3) := by decide +kernel
theorem dX3_multiply_5 : decode cX3_multiply 5 = .ok (.aload_n 0, 1) := by decide +kernel
theorem dX3_multiply_6 : decode cX3_multiply 6 = .ok (.getfield 18, 3) := by decide +kernel
theorem dX3_multiply_9 : decode cX3_multiply 9 = .ok (.iconst 0, 1) := by decide +kernel
theorem dX3_multiply_10 : decode cX3_multiply 10 = .ok (.iload_n 2, 1) := by decide +kernel
theorem dX3_multiply_11 : decode cX3_multiply 11 = .ok (.iastore, 1) := by decide +kernel
theorem dX3_multiply_12 : decode cX3_multiply 12 = .ok (.aload_n 0, 1) := by decide +kernel
theorem dX3_multiply_13 : decode cX3_multiply 13 = .ok (.iload_n 1, 1) := by decide +kernel
theorem dX3_multiply_14 : decode cX3_multiply 14 = .ok (.putfield 24, 3) := by decide +kernel
theorem dX3_multiply_17 : decode cX3_multiply 17 = .ok (.goto 37, 3) := by decide +kernel
theorem dX3_multiply_20 : decode cX3_multiply 20 = .ok (.iload_n 1, 1) := by decide +kernel
theorem dX3_multiply_21 : decode cX3_multiply 21 = .ok (.iconst 4, 1) := by decide +kernel
theorem dX3_multiply_22 : decode cX3_multiply 22 = .ok (.if_icmp .ne 17, 3) := by decide +kernel
theorem dX3_multiply_25 : decode cX3_multiply 25 = .ok (.aload_n 0, 1) := by decide +kernel
theorem dX3_multiply_26 : decode cX3_multiply 26 = .ok (.getfield 18, 3) := by decide +kernel
theorem dX3_multiply_29 : decode cX3_multiply 29 = .ok (.iconst 1, 1) := by decide +kernel
theorem dX3_multiply_30 : decode cX3_multiply 30 = .ok (.iload_n 2, 1) := by decide +kernel
theorem dX3_multiply_31 : decode cX3_multiply 31 = .ok (.iastore, 1) := by decide +kernel
theorem dX3_multiply_32 : decode cX3_multiply 32 = .ok (.aload_n 0, 1) := by decide +kernel
theorem dX3_multiply_33 : decode cX3_multiply 33 = .ok (.invokevirtual 66, 3) := by decide +kernel
theorem dX3_multiply_36 : decode cX3_multiply 36 = .ok (.goto 18, 3) := by decide +kernel
theorem dX3_multiply_39 : decode cX3_multiply 39 = .ok (.iload_n 1, 1) := by decide +kernel
theorem dX3_multiply_40 : decode cX3_multiply 40 = .ok (.bipush 7, 2) := by decide +kernel
theorem dX3_multiply_42 : decode cX3_multiply 42 = .ok (.if_icmp .ge 12, 3) := by decide +kernel
theorem dX3_multiply_45 : decode cX3_multiply 45 = .ok (.aload_n 0, 1) := by decide +kernel
theorem dX3_multiply_46 : decode cX3_multiply 46 = .ok (.getfield 18, 3) := by decide +kernel
theorem dX3_multiply_49 : decode cX3_multiply 49 = .ok (.iload_n 1, 1) := by decide +kernel
theorem dX3_multiply_50 : decode cX3_multiply 50 = .ok (.iconst 3, 1) := by decide +kernel
theorem dX3_multiply_51 : decode cX3_multiply 51 = .ok (.isub, 1) := by decide +kernel
theorem dX3_multiply_52 : decode cX3_multiply 52 = .ok (.iload_n 2, 1) := by decide +kernel
theorem dX3_multiply_53 : decode cX3_multiply 53 = .ok (.iastore, 1) := by decide +kernel
theorem dX3_multiply_54 : decode cX3_multiply 54 = .ok (.return_, 1) := by decide +kernel
theorem dX3_product_0 : decode cX3_product 0 = .ok (.aload_n 0, 1) := by decide +kernel
theorem dX3_product_1 : decode cX3_product 1 = .ok (.getfield 24, 3) := by decide +kernel
theorem dX3_product_4 : decode cX3_product 4 = .ok (.iconst 2, 1) := by decide +kernel
theorem dX3_product_5 : decode cX3_product 5 = .ok (.irem, 1) := by decide +kernel
theorem dX3_product_6 : decode cX3_product 6 = .ok (.ifCond .ne 13, 3) := by decide +kernel
theorem dX3_product_9 : decode cX3_product 9 = .ok (.aload_n 0, 1) := by decide +kernel
theorem dX3_product_10 : decode cX3_product 10 = .ok (.getfield 18, 3) := by decide +kernel
theorem dX3_product_13 : decode cX3_product 13 = .ok (.iconst 0, 1) := by decide +kernel
theorem dX3_product_14 : decode cX3_product 14 = .ok (.iaload, 1) := by decide +kernel
theorem dX3_product_15 : decode cX3_product 15 = .ok (.i2l, 1) := by decide +kernel
theorem dX3_product_16 : decode cX3_product 16 = .ok (.goto 11, 3) := by decide +kernel
theorem dX3_product_19 : decode cX3_product 19 = .ok (.aload_n 0, 1) := by decide +kernel
theorem dX3_product_20 : decode cX3_product 20 = .ok (.getfield 18, 3) := by decide +kernel
theorem dX3_product_23 : decode cX3_product 23 = .ok (.iconst 0, 1) := by decide +kernel
theorem dX3_product_24 : decode cX3_product 24 = .ok (.iaload, 1) := by decide +kernel
theorem dX3_product_25 : decode cX3_product 25 = .ok (.i2s, 1) := by decide +kernel
theorem dX3_product_26 : decode cX3_product 26 = .ok (.i2l, 1) := by decide +kernel
theorem dX3_product_27 : decode cX3_product 27 = .ok (.lstore_n 1, 1) := by decide +kernel
theorem dX3_product_28 : decode cX3_product 28 = .ok (.aload_n 0, 1) := by decide +kernel
theorem dX3_product_29 : decode cX3_product 29 = .ok (.getfield 24, 3) := by decide +kernel
theorem dX3_product_32 : decode cX3_product 32 = .ok (.iconst 2, 1) := by decide +kernel
theorem dX3_product_33 : decode cX3_product 33 = .ok (.irem, 1) := by decide +kernel
theorem dX3_product_34 : decode cX3_product 34 = .ok (.ifCond .ne 13, 3) := by decide +kernel
theorem dX3_product_37 : decode cX3_product 37 = .ok (.aload_n 0, 1) := by decide +kernel
theorem dX3_product_38 : decode cX3_product 38 = .ok (.getfield 18, 3) := by decide +kernel
theorem dX3_product_41 : decode cX3_product 41 = .ok (.iconst 1, 1) := by decide +kernel
theorem dX3_product_42 : decode cX3_product 42 = .ok (.iaload, 1) := by decide +kernel
theorem dX3_product_43 : decode cX3_product 43 = .ok (.i2l, 1) := by decide +kernel
theorem dX3_product_44 : decode cX3_product 44 = .ok (.goto 11, 3) := by decide +kernel
theorem dX3_product_47 : decode cX3_product 47 = .ok (.aload_n 0, 1) := by decide +kernel
theorem dX3_product_48 : decode cX3_product 48 = .ok (.getfield 18, 3) := by decide +kernel
theorem dX3_product_51 : decode cX3_product 51 = .ok (.iconst 1, 1) := by decide +kernel
theorem dX3_product_52 : decode cX3_product 52 = .ok (.iaload, 1) := by decide +kernel
theorem dX3_product_53 : decode cX3_product 53 = .ok (.i2s, 1) := by decide +kernel
theorem dX3_product_54 : decode cX3_product 54 = .ok (.i2l, 1) := by decide +kernel
theorem dX3_product_55 : decode cX3_product 55 = .ok (.lstore_n 3, 1) := by decide +kernel
theorem dX3_product_56 : decode cX3_product 56 = .ok (.lload_n 1, 1) := by decide +kernel
theorem dX3_product_57 : decode cX3_product 57 = .ok (.lload_n 3, 1) := by decide +kernel
theorem dX3_product_58 : decode cX3_product 58 = .ok (.lmul, 1) := by decide +kernel
theorem dX3_product_59 : decode cX3_product 59 = .ok (.lstore 5, 2) := by decide +kernel
theorem dX3_product_61 : decode cX3_product 61 = .ok (.aload_n 0, 1) := by decide +kernel
theorem dX3_product_62 : decode cX3_product 62 = .ok (.getfield 24, 3) := by decide +kernel
theorem dX3_product_65 : decode cX3_product 65 = .ok (.iconst 2, 1) := by decide +kernel
theorem dX3_product_66 : decode cX3_product 66 = .ok (.if_icmp .ge 7, 3) := by decide +kernel
theorem dX3_product_69 : decode cX3_product 69 = .ok (.lconst 0, 1) := by decide +kernel
theorem dX3_product_70 : decode cX3_product 70 = .ok (.goto 21, 3) := by decide +kernel
theorem dX3_product_73 : decode cX3_product 73 = .ok (.aload_n 0, 1) := by decide +kernel
theorem dX3_product_74 : decode cX3_product 74 = .ok (.getfield 18, 3) := by decide +kernel
theorem dX3_product_77 : decode cX3_product 77 = .ok (.iconst 3, 1) := by decide +kernel
theorem dX3_product_78 : decode cX3_product 78 = .ok (.iaload, 1) := by decide +kernel
theorem dX3_product_79 : decode cX3_product 79 = .ok (.i2l, 1) := by decide +kernel
theorem dX3_product_80 : decode cX3_product 80 = .ok (.bipush 16, 2) := by decide +kernel
theorem dX3_product_82 : decode cX3_product 82 = .ok (.lshl, 1) := by decide +kernel
theorem dX3_product_83 : decode cX3_product 83 = .ok (.aload_n 0, 1) := by decide +kernel
theorem dX3_product_84 : decode cX3_product 84 = .ok (.getfield 18, 3) := by decide +kernel
theorem dX3_product_87 : decode cX3_product 87 = .ok (.iconst 2, 1) := by decide +kernel
theorem dX3_product_88 : decode cX3_product 88 = .ok (.iaload, 1) := by decide +kernel
theorem dX3_product_89 : decode cX3_product 89 = .ok (.i2l, 1) := by decide +kernel
theorem dX3_product_90 : decode cX3_product 90 = .ok (.lor, 1) := by decide +kernel
theorem dX3_product_91 : decode cX3_product 91 = .ok (.lstore 7, 2) := by decide +kernel
theorem dX3_product_93 : decode cX3_product 93 = .ok (.lload 7, 2) := by decide +kernel
theorem dX3_product_95 : decode cX3_product 95 = .ok (.lload 5, 2) := by decide +kernel
theorem dX3_product_97 : decode cX3_product 97 = .ok (.ldc2_w 69, 3) := by decide +kernel
theorem dX3_product_100 : decode cX3_product 100 = .ok (.land, 1) := by decide +kernel
theorem dX3_product_101 : decode cX3_product 101 = .ok (.ladd, 1) := by decide +kernel
theorem dX3_product_102 : decode cX3_product 102 = .ok (.lstore 9, 2) := by decide +kernel
theorem dX3_product_104 : decode cX3_product 104 = .ok (.aload_n 0, 1) := by decide +kernel
theorem dX3_product_105 : decode cX3_product 105 = .ok (.getfield 18, 3) := by decide +kernel
theorem dX3_product_108 : decode cX3_product 108 = .ok (.iconst 2, 1) := by decide +kernel
theorem dX3_product_109 : decode cX3_product 109 = .ok (.lload 9, 2) := by decide +kernel
theorem dX3_product_111 : decode cX3_product 111 = .ok (.ldc2_w 71, 3) := by decide +kernel
theorem dX3_product_114 : decode cX3_product 114 = .ok (.land, 1) := by decide +kernel
theorem dX3_product_115 : decode cX3_product 115 = .ok (.l2i, 1) := by decide +kernel
theorem dX3_product_116 : decode cX3_product 116 = .ok (.iastore, 1) := by decide +kernel
theorem dX3_product_117 : decode cX3_product 117 = .ok (.aload_n 0, 1) := by decide +kernel
theorem dX3_product_118 : decode cX3_product 118 = .ok (.getfield 18, 3) := by decide +kernel
theorem dX3_product_121 : decode cX3_product 121 = .ok (.iconst 3, 1) := by decide +kernel
theorem dX3_product_122 : decode cX3_product 122 = .ok (.lload 9, 2) := by decide +kernel
theorem dX3_product_124 : decode cX3_product 124 = .ok (.bipush 16, 2) := by decide +kernel
theorem dX3_product_126 : decode cX3_product 126 = .ok (.lshr, 1) := by decide +kernel
theorem dX3_product_127 : decode cX3_product 127 = .ok (.ldc2_w 71, 3) := by decide +kernel
theorem dX3_product_130 : decode cX3_product 130 = .ok (.land, 1) := by decide +kernel
theorem dX3_product_131 : decode cX3_product 131 = .ok (.l2i, 1) := by decide +kernel
theorem dX3_product_132 : decode cX3_product 132 = .ok (.iastore, 1) := by decide +kernel
theorem dX3_product_133 : decode cX3_product 133 = .ok (.aload_n 0, 1) := by decide +kernel
theorem dX3_product_134 : decode cX3_product 134 = .ok (.getfield 24, 3) := by decide +kernel
theorem dX3_product_137 : decode cX3_product 137 = .ok (.iconst 2, 1) := by decide +kernel
theorem dX3_product_138 : decode cX3_product 138 = .ok (.if_icmp .ne 18, 3) := by decide +kernel
theorem dX3_product_141 : decode cX3_product 141 = .ok (.aload_n 0, 1) := by decide +kernel
theorem dX3_product_142 : decode cX3_product 142 = .ok (.getfield 18, 3) := by decide +kernel
theorem dX3_product_145 : decode cX3_product 145 = .ok (.iconst 4, 1) := by decide +kernel
theorem dX3_product_146 : decode cX3_product 146 = .ok (.lload 9, 2) := by decide +kernel
theorem dX3_product_148 : decode cX3_product 148 = .ok (.bipush 32, 2) := by decide +kernel
theorem dX3_product_150 : decode cX3_product 150 = .ok (.lshr, 1) := by decide +kernel
theorem dX3_product_151 : decode cX3_product 151 = .ok (.l2i, 1) := by decide +kernel
theorem dX3_product_152 : decode cX3_product 152 = .ok (.iastore, 1) := by decide +kernel
theorem dX3_product_153 : decode cX3_product 153 = .ok (.goto 55, 3) := by decide +kernel
theorem dX3_product_156 : decode cX3_product 156 = .ok (.aload_n 0, 1) := by decide +kernel
theorem dX3_product_157 : decode cX3_product 157 = .ok (.getfield 18, 3) := by decide +kernel
theorem dX3_product_160 : decode cX3_product 160 = .ok (.iconst 4, 1) := by decide +kernel
theorem dX3_product_161 : decode cX3_product 161 = .ok (.aload_n 0, 1) := by decide +kernel
theorem dX3_product_162 : decode cX3_product 162 = .ok (.getfield 24, 3) := by decide +kernel
theorem dX3_product_165 : decode cX3_product 165 = .ok (.iconst 2, 1) := by decide +kernel
theorem dX3_product_166 : decode cX3_product 166 = .ok (.irem, 1) := by decide +kernel
theorem dX3_product_167 : decode cX3_product 167 = .ok (.iconst 1, 1) := by decide +kernel
theorem dX3_product_168 : decode cX3_product 168 = .ok (.if_icmp .ne 38, 3) := by decide +kernel
theorem dX3_product_171 : decode cX3_product 171 = .ok (.aload_n 0, 1) := by decide +kernel
theorem dX3_product_172 : decode cX3_product 172 = .ok (.getfield 24, 3) := by decide +kernel
theorem dX3_product_175 : decode cX3_product 175 = .ok (.iconst 1, 1) := by decide +kernel
theorem dX3_product_176 : decode cX3_product 176 = .ok (.if_icmp .ne 13, 3) := by decide +kernel
theorem dX3_product_179 : decode cX3_product 179 = .ok (.lload 5, 2) := by decide +kernel
theorem dX3_product_181 : decode cX3_product 181 = .ok (.lconst 0, 1) := by decide +kernel
theorem dX3_product_182 : decode cX3_product 182 = .ok (.lcmp, 1) := by decide +kernel
theorem dX3_product_183 : decode cX3_product 183 = .ok (.ifCond .ge 23, 3) := by decide +kernel
theorem dX3_product_186 : decode cX3_product 186 = .ok (.goto 15, 3) := by decide +kernel
theorem dX3_product_189 : decode cX3_product 189 = .ok (.aload_n 0, 1) := by decide +kernel
theorem dX3_product_190 : decode cX3_product 190 = .ok (.getfield 18, 3) := by decide +kernel
theorem dX3_product_193 : decode cX3_product 193 = .ok (.iconst 3, 1) := by decide +kernel
theorem dX3_product_194 : decode cX3_product 194 = .ok (.iaload, 1) := by decide +kernel
theorem dX3_product_195 : decode cX3_product 195 = .ok (.sipush 32767, 3) := by decide +kernel
theorem dX3_product_198 : decode cX3_product 198 = .ok (.if_icmp .le 8, 3) := by decide +kernel
theorem dX3_product_201 : decode cX3_product 201 = .ok (.ldc 50, 2) := by decide +kernel
theorem dX3_product_203 : decode cX3_product 203 = .ok (.goto 4, 3) := by decide +kernel
theorem dX3_product_206 : decode cX3_product 206 = .ok (.iconst 0, 1) := by decide +kernel
theorem dX3_product_207 : decode cX3_product 207 = .ok (.iastore, 1) := by decide +kernel
theorem dX3_product_208 : decode cX3_product 208 = .ok (.return_, 1) := by decide +kernel
theorem dX3_setRegister_0 : decode cX3_setRegister 0 = .ok (.iload_n 1, 1) := by decide +kernel
theorem dX3_setRegister_1 : decode cX3_setRegister 1 = .ok (.iconst 3, 1) := by decide +kernel
theorem dX3_setRegister_2 : decode cX3_setRegister 2 = .ok (.if_icmp .eq 24, 3) := by decide +kernel
theorem dX3_setRegister_5 : decode cX3_setRegister 5 = .ok (.aload_n 0, 1) := by decide +kernel
theorem dX3_setRegister_6 : decode cX3_setRegister 6 = .ok (.getfield 14, 3) := by decide +kernel
theorem dX3_setRegister_9 : decode cX3_setRegister 9 = .ok (.iload_n 1, 1) := by decide +kernel
theorem dX3_setRegister_10 : decode cX3_setRegister 10 = .ok (.iload_n 1, 1) := by decide +kernel
theorem dX3_setRegister_11 : decode cX3_setRegister 11 = .ok (.ifCond .ne 10, 3) := by decide +kernel
theorem dX3_setRegister_14 : decode cX3_setRegister 14 = .ok (.iload_n 2, 1) := by decide +kernel
theorem dX3_setRegister_15 : decode cX3_setRegister 15 = .ok (.ldc 34, 2) := by decide +kernel
theorem dX3_setRegister_17 : decode cX3_setRegister 17 = .ok (.iand, 1) := by decide +kernel
theorem dX3_setRegister_18 : decode cX3_setRegister 18 = .ok (.goto 7, 3) := by decide +kernel
theorem dX3_setRegister_21 : decode cX3_setRegister 21 = .ok (.iload_n 2, 1) := by decide +kernel
theorem dX3_setRegister_22 : decode cX3_setRegister 22 = .ok (.ldc 50, 2) := by decide +kernel
theorem dX3_setRegister_24 : decode cX3_setRegister 24 = .ok (.iand, 1) := by decide +kernel
theorem dX3_setRegister_25 : decode cX3_setRegister 25 = .ok (.iastore, 1) := by decide +kernel
theorem dX3_setRegister_26 : decode cX3_setRegister 26 = .ok (.return_, 1) := by decide +kernel
set_option maxRecDepth 20000 in
theorem ggX3_write_X3_setRegister : GoodIn wsX3_write wsX3_setRegister := goodIn_r _ [7, 8, 9, 10, 39, 40, 41, 42, 43, 44, 45, 46, 47] (by decide +kernel) (by decide +kernel)
set_option maxRecDepth 20000 in
theorem gX3_write_X3_setRegister : GoodIn wsX3_write (wsV RX3 39 RX3 yX3_setRegister wsX3_setRegister) := goodIn_app (goodIn_of _ (by decide +kernel)) ggX3_write_X3_setRegister
set_option maxRecDepth 20000 in
theorem ggX3_write_X3_setByte : GoodIn wsX3_write wsX3_setByte := goodIn_r _ [14, 15, 10, 16, 17, 6, 18, 19, 20, 21, 22, 23, 24, 25, 26, 27, 28, 29, 30, 31, 32, 33, 34, 39, 40, 41, 42, 43, 44, 45, 46, 47] (by decide +kernel) (by decide +kernel)
set_option maxRecDepth 20000 in
theorem gX3_write_X3_setByte : GoodIn wsX3_write (wsV RX3 74 RX3 yX3_setByte wsX3_setByte) := goodIn_app (goodIn_of _ (by decide +kernel)) ggX3_write_X3_setByte
set_option maxRecDepth 20000 in
theorem ggX3_write_X3_setWord : GoodIn wsX3_write wsX3_setWord := goodIn_r _ [38, 15, 16, 17, 6, 18, 23, 24, 25, 26, 27, 28, 29, 30, 31, 32, 33, 34, 10, 39, 40, 41, 42, 43, 44, 45, 46, 47] (by decide +kernel) (by decide +kernel)
set_option maxRecDepth 20000 in
theorem gX3_write_X3_setWord : GoodIn wsX3_write (wsV RX3 77 RX3 yX3_setWord wsX3_setWord) := goodIn_app (goodIn_of _ (by decide +kernel)) ggX3_write_X3_setWord
theorem dX3_write_0 : decode cX3_write 0 = .ok (.iload_n 1, 1) := by decide +kernel
theorem dX3_write_1 : decode cX3_write 1 = .ok (.bipush 16, 2) := by decide +kernel
theorem dX3_write_3 : decode cX3_write 3 = .ok (.if_icmp .ge 12, 3) := by decide +kernel
theorem dX3_write_6 : decode cX3_write 6 = .ok (.aload_n 0, 1) := by decide +kernel
theorem dX3_write_7 : decode cX3_write 7 = .ok (.iload_n 1, 1) := by decide +kernel
theorem dX3_write_8 : decode cX3_write 8 = .ok (.iload_n 2, 1) := by decide +kernel
theorem dX3_write_9 : decode cX3_write 9 = .ok (.invokevirtual 39, 3) := by decide +kernel
theorem dX3_write_12 : decode cX3_write 12 = .ok (.goto 43, 3) := by decide +kernel
theorem dX3_write_15 : decode cX3_write 15 = .ok (.iload_n 1, 1) := by decide +kernel
theorem dX3_write_16 : decode cX3_write 16 = .ok (.ldc 73, 2) := by decide +kernel
theorem dX3_write_18 : decode cX3_write 18 = .ok (.if_icmp .lt 22, 3) := by decide +kernel
theorem dX3_write_21 : decode cX3_write 21 = .ok (.aload_n 0, 1) := by decide +kernel
theorem dX3_write_22 : decode cX3_write 22 = .ok (.getfield 51, 3) := by decide +kernel
theorem dX3_write_25 : decode cX3_write 25 = .ok (.ifCond .eq 15, 3) := by decide +kernel
theorem dX3_write_28 : decode cX3_write 28 = .ok (.aload_n 0, 1) := by decide +kernel
theorem dX3_write_29 : decode cX3_write 29 = .ok (.iload_n 1, 1) := by decide +kernel
theorem dX3_write_30 : decode cX3_write 30 = .ok (.ldc 73, 2) := by decide +kernel
theorem dX3_write_32 : decode cX3_write 32 = .ok (.isub, 1) := by decide +kernel
theorem dX3_write_33 : decode cX3_write 33 = .ok (.iload_n 2, 1) := by decide +kernel
theorem dX3_write_34 : decode cX3_write 34 = .ok (.invokevirtual 74, 3) := by decide +kernel
theorem dX3_write_37 : decode cX3_write 37 = .ok (.goto 18, 3) := by decide +kernel
theorem dX3_write_40 : decode cX3_write 40 = .ok (.iload_n 1, 1) := by decide +kernel
theorem dX3_write_41 : decode cX3_write 41 = .ok (.ldc 73, 2) := by decide +kernel
theorem dX3_write_43 : decode cX3_write 43 = .ok (.if_icmp .lt 12, 3) := by decide +kernel
theorem dX3_write_46 : decode cX3_write 46 = .ok (.aload_n 0, 1) := by decide +kernel
theorem dX3_write_47 : decode cX3_write 47 = .ok (.iload_n 1, 1) := by decide +kernel
theorem dX3_write_48 : decode cX3_write 48 = .ok (.ldc 73, 2) := by decide +kernel
theorem dX3_write_50 : decode cX3_write 50 = .ok (.isub, 1) := by decide +kernel
theorem dX3_write_51 : decode cX3_write 51 = .ok (.iload_n 2, 1) := by decide +kernel
theorem dX3_write_52 : decode cX3_write 52 = .ok (.invokevirtual 77, 3) := by decide +kernel
theorem dX3_write_55 : decode cX3_write 55 = .ok (.return_, 1) := by decide +kernel
set_option maxRecDepth 20000 in
theorem ggX3_taken_X3_wordAt : GoodIn wsX3_taken wsX3_wordAt := goodIn_r _ [6, 7, 8, 9, 10, 11, 5, 12, 13, 14, 15, 21, 22, 23, 24, 25, 26, 27, 28, 29] (by decide +kernel) (by decide +kernel)
set_option maxRecDepth 20000 in
theorem gX3_taken_X3_wordAt : GoodIn wsX3_taken (wsV RX3 35 RX3 yX3_wordAt wsX3_wordAt) := goodIn_app (goodIn_of _ (by decide +kernel)) ggX3_taken_X3_wordAt
set_option maxRecDepth 20000 in
theorem ggX3_taken_X3_setRegister : GoodIn wsX3_taken wsX3_setRegister := goodIn_r _ [19, 1, 20, 9, 21, 22, 23, 24, 25, 26, 27, 28, 29] (by decide +kernel) (by decide +kernel)
set_option maxRecDepth 20000 in
theorem gX3_taken_X3_setRegister : GoodIn wsX3_taken (wsV RX3 39 RX3 yX3_setRegister wsX3_setRegister) := goodIn_app (goodIn_of _ (by decide +kernel)) ggX3_taken_X3_setRegister
theorem dX3_taken_0 : decode cX3_taken 0 = .ok (.aload_n 0, 1) := by decide +kernel
theorem dX3_taken_1 : decode cX3_taken 1 = .ok (.aload_n 0, 1) := by decide +kernel
theorem dX3_taken_2 : decode cX3_taken 2 = .ok (.getfield 14, 3) := by decide +kernel
theorem dX3_taken_5 : decode cX3_taken 5 = .ok (.iconst 0, 1) := by decide +kernel
theorem dX3_taken_6 : decode cX3_taken 6 = .ok (.iaload, 1) := by decide +kernel
theorem dX3_taken_7 : decode cX3_taken 7 = .ok (.invokevirtual 35, 3) := by decide +kernel
theorem dX3_taken_10 : decode cX3_taken 10 = .ok (.istore_n 1, 1) := by decide +kernel
theorem dX3_taken_11 : decode cX3_taken 11 = .ok (.aload_n 0, 1) := by decide +kernel
theorem dX3_taken_12 : decode cX3_taken 12 = .ok (.iconst 0, 1) := by decide +kernel
theorem dX3_taken_13 : decode cX3_taken 13 = .ok (.aload_n 0, 1) := by decide +kernel
theorem dX3_taken_14 : decode cX3_taken 14 = .ok (.getfield 14, 3) := by decide +kernel
theorem dX3_taken_17 : decode cX3_taken 17 = .ok (.iconst 0, 1) := by decide +kernel
theorem dX3_taken_18 : decode cX3_taken 18 = .ok (.iaload, 1) := by decide +kernel
theorem dX3_taken_19 : decode cX3_taken 19 = .ok (.iconst 2, 1) := by decide +kernel
theorem dX3_taken_20 : decode cX3_taken 20 = .ok (.iadd, 1) := by decide +kernel
theorem dX3_taken_21 : decode cX3_taken 21 = .ok (.invokevirtual 39, 3) := by decide +kernel
theorem dX3_taken_24 : decode cX3_taken 24 = .ok (.iload_n 1, 1) := by decide +kernel
theorem dX3_taken_25 : decode cX3_taken 25 = .ok (.ireturn, 1) := by decide +kernel
theorem dX3_number_0 : decode cX3_number 0 = .ok (.aload_n 0, 1) := by decide +kernel
theorem dX3_number_1 : decode cX3_number 1 = .ok (.aload_n 0, 1) := by decide +kernel
theorem dX3_number_2 : decode cX3_number 2 = .ok (.getfield 51, 3) := by decide +kernel
theorem dX3_number_5 : decode cX3_number 5 = .ok (.ifCond .eq 11, 3) := by decide +kernel
theorem dX3_number_8 : decode cX3_number 8 = .ok (.iload_n 1, 1) := by decide +kernel
theorem dX3_number_9 : decode cX3_number 9 = .ok (.sipush 255, 3) := by decide +kernel
theorem dX3_number_12 : decode cX3_number 12 = .ok (.iand, 1) := by decide +kernel
theorem dX3_number_13 : decode cX3_number 13 = .ok (.goto 4, 3) := by decide +kernel
theorem dX3_number_16 : decode cX3_number 16 = .ok (.iload_n 1, 1) := by decide +kernel
theorem dX3_number_17 : decode cX3_number 17 = .ok (.putfield 80, 3) := by decide +kernel
theorem dX3_number_20 : decode cX3_number 20 = .ok (.aload_n 0, 1) := by decide +kernel
theorem dX3_number_21 : decode cX3_number 21 = .ok (.bipush 16, 2) := by decide +kernel
theorem dX3_number_23 : decode cX3_number 23 = .ok (.putfield 83, 3) := by decide +kernel
theorem dX3_number_26 : decode cX3_number 26 = .ok (.return_, 1) := by decide +kernel
theorem dX3_register_0 : decode cX3_register 0 = .ok (.aload_n 0, 1) := by decide +kernel
theorem dX3_register_1 : decode cX3_register 1 = .ok (.aload_n 0, 1) := by decide +kernel
theorem dX3_register_2 : decode cX3_register 2 = .ok (.getfield 51, 3) := by decide +kernel
theorem dX3_register_5 : decode cX3_register 5 = .ok (.ifCond .eq 16, 3) := by decide +kernel
theorem dX3_register_8 : decode cX3_register 8 = .ok (.aload_n 0, 1) := by decide +kernel
theorem dX3_register_9 : decode cX3_register 9 = .ok (.getfield 14, 3) := by decide +kernel
theorem dX3_register_12 : decode cX3_register 12 = .ok (.iload_n 1, 1) := by decide +kernel
theorem dX3_register_13 : decode cX3_register 13 = .ok (.iaload, 1) := by decide +kernel
theorem dX3_register_14 : decode cX3_register 14 = .ok (.sipush 255, 3) := by decide +kernel
theorem dX3_register_17 : decode cX3_register 17 = .ok (.iand, 1) := by decide +kernel
theorem dX3_register_18 : decode cX3_register 18 = .ok (.goto 9, 3) := by decide +kernel
theorem dX3_register_21 : decode cX3_register 21 = .ok (.aload_n 0, 1) := by decide +kernel
theorem dX3_register_22 : decode cX3_register 22 = .ok (.getfield 14, 3) := by decide +kernel
theorem dX3_register_25 : decode cX3_register 25 = .ok (.iload_n 1, 1) := by decide +kernel
theorem dX3_register_26 : decode cX3_register 26 = .ok (.iaload, 1) := by decide +kernel
theorem dX3_register_27 : decode cX3_register 27 = .ok (.putfield 80, 3) := by decide +kernel
theorem dX3_register_30 : decode cX3_register 30 = .ok (.aload_n 0, 1) := by decide +kernel
theorem dX3_register_31 : decode cX3_register 31 = .ok (.iload_n 1, 1) := by decide +kernel
theorem dX3_register_32 : decode cX3_register 32 = .ok (.iconst 3, 1) := by decide +kernel
theorem dX3_register_33 : decode cX3_register 33 = .ok (.if_icmp .ne 8, 3) := by decide +kernel
theorem dX3_register_36 : decode cX3_register 36 = .ok (.bipush 16, 2) := by decide +kernel
theorem dX3_register_38 : decode cX3_register 38 = .ok (.goto 4, 3) := by decide +kernel
theorem dX3_register_41 : decode cX3_register 41 = .ok (.iload_n 1, 1) := by decide +kernel
theorem dX3_register_42 : decode cX3_register 42 = .ok (.putfield 83, 3) := by decide +kernel
theorem dX3_register_45 : decode cX3_register 45 = .ok (.return_, 1) := by decide +kernel
set_option maxRecDepth 20000 in
theorem ggX3_memory_X3_valueAt : GoodIn wsX3_memory wsX3_valueAt := goodIn_r _ [9, 10, 11, 12, 13, 8, 14, 15, 16, 17, 18, 19, 20, 1, 21, 22, 23, 24, 25, 26, 27, 28, 29, 30, 31, 32, 33, 34, 35] (by decide +kernel) (by decide +kernel)
set_option maxRecDepth 20000 in
theorem gX3_memory_X3_valueAt : GoodIn wsX3_memory (wsV RX3 86 RX3 yX3_valueAt wsX3_valueAt) := goodIn_app (goodIn_of _ (by decide +kernel)) ggX3_memory_X3_valueAt
theorem dX3_memory_0 : decode cX3_memory 0 = .ok (.aload_n 0, 1) := by decide +kernel
theorem dX3_memory_1 : decode cX3_memory 1 = .ok (.aload_n 0, 1) := by decide +kernel
theorem dX3_memory_2 : decode cX3_memory 2 = .ok (.iload_n 1, 1) := by decide +kernel
theorem dX3_memory_3 : decode cX3_memory 3 = .ok (.ldc 50, 2) := by decide +kernel
theorem dX3_memory_5 : decode cX3_memory 5 = .ok (.iand, 1) := by decide +kernel
theorem dX3_memory_6 : decode cX3_memory 6 = .ok (.invokevirtual 86, 3) := by decide +kernel
theorem dX3_memory_9 : decode cX3_memory 9 = .ok (.putfield 80, 3) := by decide +kernel
theorem dX3_memory_12 : decode cX3_memory 12 = .ok (.aload_n 0, 1) := by decide +kernel
theorem dX3_memory_13 : decode cX3_memory 13 = .ok (.ldc 73, 2) := by decide +kernel
theorem dX3_memory_15 : decode cX3_memory 15 = .ok (.iload_n 1, 1) := by decide +kernel
theorem dX3_memory_16 : decode cX3_memory 16 = .ok (.ldc 50, 2) := by decide +kernel
theorem dX3_memory_18 : decode cX3_memory 18 = .ok (.iand, 1) := by decide +kernel
theorem dX3_memory_19 : decode cX3_memory 19 = .ok (.iadd, 1) := by decide +kernel
theorem dX3_memory_20 : decode cX3_memory 20 = .ok (.putfield 83, 3) := by decide +kernel
theorem dX3_memory_23 : decode cX3_memory 23 = .ok (.return_, 1) := by decide +kernel
set_option maxRecDepth 20000 in
theorem ggX3_indexed_X3_taken : GoodIn wsX3_indexed wsX3_taken := goodIn_r _ [6, 1, 7, 8, 9, 5, 10, 11, 12, 13, 14, 15, 16, 17, 18, 19, 20, 21, 22, 23, 24, 41, 42, 43, 44, 45, 46, 47, 48, 49] (by decide +kernel) (by decide +kernel)
set_option maxRecDepth 20000 in
theorem gX3_indexed_X3_taken : GoodIn wsX3_indexed (wsV RX3 89 RX3 yX3_taken wsX3_taken) := goodIn_app (goodIn_of _ (by decide +kernel)) ggX3_indexed_X3_taken
set_option maxRecDepth 20000 in
theorem ggX3_indexed_X3_memory : GoodIn wsX3_indexed wsX3_memory := goodIn_r _ [28, 13, 29, 30, 31, 32, 33, 34, 5, 35, 36, 37, 38, 39, 40, 7, 8, 9, 10, 11, 12, 14, 15, 16, 17, 18, 19, 41, 42, 43, 44, 45, 46, 47, 48, 49] (by decide +kernel) (by decide +kernel)
set_option maxRecDepth 20000 in
theorem gX3_indexed_X3_memory : GoodIn wsX3_indexed (wsV RX3 93 RX3 yX3_memory wsX3_memory) := goodIn_app (goodIn_of _ (by decide +kernel)) ggX3_indexed_X3_memory
theorem dX3_indexed_0 : decode cX3_indexed 0 = .ok (.iload_n 1, 1) := by decide +kernel
theorem dX3_indexed_1 : decode cX3_indexed 1 = .ok (.ifCond .ne 12, 3) := by decide +kernel
theorem dX3_indexed_4 : decode cX3_indexed 4 = .ok (.aload_n 0, 1) := by decide +kernel
theorem dX3_indexed_5 : decode cX3_indexed 5 = .ok (.getfield 14, 3) := by decide +kernel
theorem dX3_indexed_8 : decode cX3_indexed 8 = .ok (.iconst 0, 1) := by decide +kernel
theorem dX3_indexed_9 : decode cX3_indexed 9 = .ok (.iaload, 1) := by decide +kernel
theorem dX3_indexed_10 : decode cX3_indexed 10 = .ok (.goto 23, 3) := by decide +kernel
theorem dX3_indexed_13 : decode cX3_indexed 13 = .ok (.iload_n 1, 1) := by decide +kernel
theorem dX3_indexed_14 : decode cX3_indexed 14 = .ok (.iconst 4, 1) := by decide +kernel
theorem dX3_indexed_15 : decode cX3_indexed 15 = .ok (.if_icmp .ge 12, 3) := by decide +kernel
theorem dX3_indexed_18 : decode cX3_indexed 18 = .ok (.iload_n 1, 1) := by decide +kernel
theorem dX3_indexed_19 : decode cX3_indexed 19 = .ok (.iconst 1, 1) := by decide +kernel
theorem dX3_indexed_20 : decode cX3_indexed 20 = .ok (.if_icmp .eq 7, 3) := by decide +kernel
theorem dX3_indexed_23 : decode cX3_indexed 23 = .ok (.iconst 0, 1) := by decide +kernel
theorem dX3_indexed_24 : decode cX3_indexed 24 = .ok (.goto 9, 3) := by decide +kernel
theorem dX3_indexed_27 : decode cX3_indexed 27 = .ok (.aload_n 0, 1) := by decide +kernel
theorem dX3_indexed_28 : decode cX3_indexed 28 = .ok (.getfield 14, 3) := by decide +kernel
theorem dX3_indexed_31 : decode cX3_indexed 31 = .ok (.iload_n 1, 1) := by decide +kernel
theorem dX3_indexed_32 : decode cX3_indexed 32 = .ok (.iaload, 1) := by decide +kernel
theorem dX3_indexed_33 : decode cX3_indexed 33 = .ok (.istore_n 2, 1) := by decide +kernel
theorem dX3_indexed_34 : decode cX3_indexed 34 = .ok (.aload_n 0, 1) := by decide +kernel
theorem dX3_indexed_35 : decode cX3_indexed 35 = .ok (.iload_n 2, 1) := by decide +kernel
theorem dX3_indexed_36 : decode cX3_indexed 36 = .ok (.aload_n 0, 1) := by decide +kernel
theorem dX3_indexed_37 : decode cX3_indexed 37 = .ok (.invokevirtual 89, 3) := by decide +kernel
theorem dX3_indexed_40 : decode cX3_indexed 40 = .ok (.iadd, 1) := by decide +kernel
theorem dX3_indexed_41 : decode cX3_indexed 41 = .ok (.invokevirtual 93, 3) := by decide +kernel
theorem dX3_indexed_44 : decode cX3_indexed 44 = .ok (.return_, 1) := by decide +kernel
set_option maxRecDepth 20000 in
theorem ggX3_source_X3_register : GoodIn wsX3_source wsX3_register := goodIn_r _ [8, 3, 2, 9, 10, 53, 54, 55, 56, 57, 58, 59, 60, 61] (by decide +kernel) (by decide +kernel)
set_option maxRecDepth 20000 in
theorem gX3_source_X3_register : GoodIn wsX3_source (wsV RX3 97 RX3 yX3_register wsX3_register) := goodIn_app (goodIn_of _ (by decide +kernel)) ggX3_source_X3_register
set_option maxRecDepth 20000 in
theorem ggX3_source_X3_indexed : GoodIn wsX3_source wsX3_indexed := goodIn_r _ [14, 2, 15, 16, 17, 7, 18, 19, 20, 21, 22, 23, 24, 1, 25, 26, 27, 28, 29, 30, 31, 32, 33, 34, 35, 36, 37, 38, 39, 9, 40, 10, 41, 42, 43, 44, 3, 45, 46, 47, 48, 53, 54, 55, 56, 57, 58, 59, 60, 61] (by decide +kernel) (by decide +kernel)
set_option maxRecDepth 20000 in
theorem gX3_source_X3_indexed : GoodIn wsX3_source (wsV RX3 100 RX3 yX3_indexed wsX3_indexed) := goodIn_app (goodIn_of _ (by decide +kernel)) ggX3_source_X3_indexed
set_option maxRecDepth 20000 in
theorem ggX3_source_X3_number : GoodIn wsX3_source wsX3_number := goodIn_r _ [52, 3, 9, 10, 53, 54, 55, 56, 57, 58, 59, 60, 61] (by decide +kernel) (by decide +kernel)
set_option maxRecDepth 20000 in
theorem gX3_source_X3_number : GoodIn wsX3_source (wsV RX3 103 RX3 yX3_number wsX3_number) := goodIn_app (goodIn_of _ (by decide +kernel)) ggX3_source_X3_number
set_option maxRecDepth 20000 in
theorem ggX3_source_X3_memory : GoodIn wsX3_source wsX3_memory := goodIn_r _ [39, 1, 9, 40, 10, 41, 42, 43, 7, 44, 3, 45, 46, 47, 48, 19, 20, 21, 22, 23, 24, 25, 26, 27, 28, 29, 30, 53, 54, 55, 56, 57, 58, 59, 60, 61] (by decide +kernel) (by decide +kernel)
set_option maxRecDepth 20000 in
theorem gX3_source_X3_memory : GoodIn wsX3_source (wsV RX3 93 RX3 yX3_memory wsX3_memory) := goodIn_app (goodIn_of _ (by decide +kernel)) ggX3_source_X3_memory
set_option maxRecDepth 20000 in
theorem ggX3_source_X3_setRegister : GoodIn wsX3_source wsX3_setRegister := goodIn_r _ [34, 2, 35, 1, 53, 54, 55, 56, 57, 58, 59, 60, 61] (by decide +kernel) (by decide +kernel)
set_option maxRecDepth 20000 in
theorem gX3_source_X3_setRegister : GoodIn wsX3_source (wsV RX3 39 RX3 yX3_setRegister wsX3_setRegister) := goodIn_app (goodIn_of _ (by decide +kernel)) ggX3_source_X3_setRegister
theorem dX3_source_0 : decode cX3_source 0 = .ok (.iload_n 1, 1) := by decide +kernel
theorem dX3_source_1 : decode cX3_source 1 = .ok (.ifCond .ne 11, 3) := by decide +kernel
theorem dX3_source_4 : decode cX3_source 4 = .ok (.aload_n 0, 1) := by decide +kernel
theorem dX3_source_5 : decode cX3_source 5 = .ok (.iload_n 2, 1) := by decide +kernel
theorem dX3_source_6 : decode cX3_source 6 = .ok (.invokevirtual 97, 3) := by decide +kernel
theorem dX3_source_9 : decode cX3_source 9 = .ok (.goto 90, 3) := by decide +kernel
theorem dX3_source_12 : decode cX3_source 12 = .ok (.iload_n 1, 1) := by decide +kernel
theorem dX3_source_13 : decode cX3_source 13 = .ok (.iconst 1, 1) := by decide +kernel
theorem dX3_source_14 : decode cX3_source 14 = .ok (.if_icmp .ne 16, 3) := by decide +kernel
theorem dX3_source_17 : decode cX3_source 17 = .ok (.iload_n 2, 1) := by decide +kernel
theorem dX3_source_18 : decode cX3_source 18 = .ok (.iconst 3, 1) := by decide +kernel
theorem dX3_source_19 : decode cX3_source 19 = .ok (.if_icmp .eq 11, 3) := by decide +kernel
theorem dX3_source_22 : decode cX3_source 22 = .ok (.aload_n 0, 1) := by decide +kernel
theorem dX3_source_23 : decode cX3_source 23 = .ok (.iload_n 2, 1) := by decide +kernel
theorem dX3_source_24 : decode cX3_source 24 = .ok (.invokevirtual 100, 3) := by decide +kernel
theorem dX3_source_27 : decode cX3_source 27 = .ok (.goto 72, 3) := by decide +kernel
theorem dX3_source_30 : decode cX3_source 30 = .ok (.iload_n 1, 1) := by decide +kernel
theorem dX3_source_31 : decode cX3_source 31 = .ok (.iconst 1, 1) := by decide +kernel
theorem dX3_source_32 : decode cX3_source 32 = .ok (.if_icmp .ne 11, 3) := by decide +kernel
theorem dX3_source_35 : decode cX3_source 35 = .ok (.aload_n 0, 1) := by decide +kernel
theorem dX3_source_36 : decode cX3_source 36 = .ok (.iconst 1, 1) := by decide +kernel
theorem dX3_source_37 : decode cX3_source 37 = .ok (.invokevirtual 103, 3) := by decide +kernel
theorem dX3_source_40 : decode cX3_source 40 = .ok (.goto 59, 3) := by decide +kernel
theorem dX3_source_43 : decode cX3_source 43 = .ok (.iload_n 2, 1) := by decide +kernel
theorem dX3_source_44 : decode cX3_source 44 = .ok (.iconst 2, 1) := by decide +kernel
theorem dX3_source_45 : decode cX3_source 45 = .ok (.if_icmp .ne 21, 3) := by decide +kernel
theorem dX3_source_48 : decode cX3_source 48 = .ok (.aload_n 0, 1) := by decide +kernel
theorem dX3_source_49 : decode cX3_source 49 = .ok (.iload_n 1, 1) := by decide +kernel
theorem dX3_source_50 : decode cX3_source 50 = .ok (.iconst 2, 1) := by decide +kernel
theorem dX3_source_51 : decode cX3_source 51 = .ok (.if_icmp .ne 7, 3) := by decide +kernel
theorem dX3_source_54 : decode cX3_source 54 = .ok (.iconst 4, 1) := by decide +kernel
theorem dX3_source_55 : decode cX3_source 55 = .ok (.goto 5, 3) := by decide +kernel
theorem dX3_source_58 : decode cX3_source 58 = .ok (.bipush 8, 2) := by decide +kernel
theorem dX3_source_60 : decode cX3_source 60 = .ok (.invokevirtual 103, 3) := by decide +kernel
theorem dX3_source_63 : decode cX3_source 63 = .ok (.goto 36, 3) := by decide +kernel
theorem dX3_source_66 : decode cX3_source 66 = .ok (.iload_n 2, 1) := by decide +kernel
theorem dX3_source_67 : decode cX3_source 67 = .ok (.iconst 3, 1) := by decide +kernel
theorem dX3_source_68 : decode cX3_source 68 = .ok (.if_icmp .ne 21, 3) := by decide +kernel
theorem dX3_source_71 : decode cX3_source 71 = .ok (.aload_n 0, 1) := by decide +kernel
theorem dX3_source_72 : decode cX3_source 72 = .ok (.iload_n 1, 1) := by decide +kernel
theorem dX3_source_73 : decode cX3_source 73 = .ok (.iconst 2, 1) := by decide +kernel
theorem dX3_source_74 : decode cX3_source 74 = .ok (.if_icmp .ne 7, 3) := by decide +kernel
theorem dX3_source_77 : decode cX3_source 77 = .ok (.iconst 2, 1) := by decide +kernel
theorem dX3_source_78 : decode cX3_source 78 = .ok (.goto 5, 3) := by decide +kernel
theorem dX3_source_81 : decode cX3_source 81 = .ok (.ldc 50, 2) := by decide +kernel
theorem dX3_source_83 : decode cX3_source 83 = .ok (.invokevirtual 103, 3) := by decide +kernel
theorem dX3_source_86 : decode cX3_source 86 = .ok (.goto 13, 3) := by decide +kernel
theorem dX3_source_89 : decode cX3_source 89 = .ok (.aload_n 0, 1) := by decide +kernel
theorem dX3_source_90 : decode cX3_source 90 = .ok (.aload_n 0, 1) := by decide +kernel
theorem dX3_source_91 : decode cX3_source 91 = .ok (.getfield 14, 3) := by decide +kernel
theorem dX3_source_94 : decode cX3_source 94 = .ok (.iload_n 2, 1) := by decide +kernel
theorem dX3_source_95 : decode cX3_source 95 = .ok (.iaload, 1) := by decide +kernel
theorem dX3_source_96 : decode cX3_source 96 = .ok (.invokevirtual 93, 3) := by decide +kernel
theorem dX3_source_99 : decode cX3_source 99 = .ok (.iload_n 1, 1) := by decide +kernel
theorem dX3_source_100 : decode cX3_source 100 = .ok (.iconst 3, 1) := by decide +kernel
theorem dX3_source_101 : decode cX3_source 101 = .ok (.if_icmp .ne 42, 3) := by decide +kernel
theorem dX3_source_104 : decode cX3_source 104 = .ok (.iload_n 2, 1) := by decide +kernel
theorem dX3_source_105 : decode cX3_source 105 = .ok (.iconst 2, 1) := by decide +kernel
theorem dX3_source_106 : decode cX3_source 106 = .ok (.if_icmp .eq 37, 3) := by decide +kernel
theorem dX3_source_109 : decode cX3_source 109 = .ok (.iload_n 2, 1) := by decide +kernel
theorem dX3_source_110 : decode cX3_source 110 = .ok (.iconst 3, 1) := by decide +kernel
theorem dX3_source_111 : decode cX3_source 111 = .ok (.if_icmp .eq 32, 3) := by decide +kernel
theorem dX3_source_114 : decode cX3_source 114 = .ok (.aload_n 0, 1) := by decide +kernel
theorem dX3_source_115 : decode cX3_source 115 = .ok (.iload_n 2, 1) := by decide +kernel
theorem dX3_source_116 : decode cX3_source 116 = .ok (.aload_n 0, 1) := by decide +kernel
theorem dX3_source_117 : decode cX3_source 117 = .ok (.getfield 14, 3) := by decide +kernel
theorem dX3_source_120 : decode cX3_source 120 = .ok (.iload_n 2, 1) := by decide +kernel
theorem dX3_source_121 : decode cX3_source 121 = .ok (.iaload, 1) := by decide +kernel
theorem dX3_source_122 : decode cX3_source 122 = .ok (.aload_n 0, 1) := by decide +kernel
theorem dX3_source_123 : decode cX3_source 123 = .ok (.getfield 51, 3) := by decide +kernel
theorem dX3_source_126 : decode cX3_source 126 = .ok (.ifCond .eq 12, 3) := by decide +kernel
theorem dX3_source_129 : decode cX3_source 129 = .ok (.iload_n 2, 1) := by decide +kernel
theorem dX3_source_130 : decode cX3_source 130 = .ok (.iconst 1, 1) := by decide +kernel
theorem dX3_source_131 : decode cX3_source 131 = .ok (.if_icmp .le 7, 3) := by decide +kernel
theorem dX3_source_134 : decode cX3_source 134 = .ok (.iconst 1, 1) := by decide +kernel
theorem dX3_source_135 : decode cX3_source 135 = .ok (.goto 4, 3) := by decide +kernel
theorem dX3_source_138 : decode cX3_source 138 = .ok (.iconst 2, 1) := by decide +kernel
theorem dX3_source_139 : decode cX3_source 139 = .ok (.iadd, 1) := by decide +kernel
theorem dX3_source_140 : decode cX3_source 140 = .ok (.invokevirtual 39, 3) := by decide +kernel
theorem dX3_source_143 : decode cX3_source 143 = .ok (.return_, 1) := by decide +kernel
theorem dX3_sort_0 : decode cX3_sort 0 = .ok (.iload_n 0, 1) := by decide +kernel
theorem dX3_sort_1 : decode cX3_sort 1 = .ok (.ifCond .eq 18, 3) := by decide +kernel
theorem dX3_sort_4 : decode cX3_sort 4 = .ok (.iload_n 1, 1) := by decide +kernel
theorem dX3_sort_5 : decode cX3_sort 5 = .ok (.iconst 3, 1) := by decide +kernel
theorem dX3_sort_6 : decode cX3_sort 6 = .ok (.if_icmp .eq 13, 3) := by decide +kernel
theorem dX3_sort_9 : decode cX3_sort 9 = .ok (.iload_n 1, 1) := by decide +kernel
theorem dX3_sort_10 : decode cX3_sort 10 = .ok (.iconst 2, 1) := by decide +kernel
theorem dX3_sort_11 : decode cX3_sort 11 = .ok (.if_icmp .ne 10, 3) := by decide +kernel
theorem dX3_sort_14 : decode cX3_sort 14 = .ok (.iload_n 0, 1) := by decide +kernel
theorem dX3_sort_15 : decode cX3_sort 15 = .ok (.iconst 1, 1) := by decide +kernel
theorem dX3_sort_16 : decode cX3_sort 16 = .ok (.if_icmp .le 5, 3) := by decide +kernel
theorem dX3_sort_19 : decode cX3_sort 19 = .ok (.iconst 0, 1) := by decide +kernel
theorem dX3_sort_20 : decode cX3_sort 20 = .ok (.ireturn, 1) := by decide +kernel
theorem dX3_sort_21 : decode cX3_sort 21 = .ok (.iload_n 0, 1) := by decide +kernel
theorem dX3_sort_22 : decode cX3_sort 22 = .ok (.iconst 1, 1) := by decide +kernel
theorem dX3_sort_23 : decode cX3_sort 23 = .ok (.if_icmp .ne 7, 3) := by decide +kernel
theorem dX3_sort_26 : decode cX3_sort 26 = .ok (.iconst 3, 1) := by decide +kernel
theorem dX3_sort_27 : decode cX3_sort 27 = .ok (.goto 6, 3) := by decide +kernel
theorem dX3_sort_30 : decode cX3_sort 30 = .ok (.iload_n 0, 1) := by decide +kernel
theorem dX3_sort_31 : decode cX3_sort 31 = .ok (.iconst 1, 1) := by decide +kernel
theorem dX3_sort_32 : decode cX3_sort 32 = .ok (.isub, 1) := by decide +kernel
theorem dX3_sort_33 : decode cX3_sort 33 = .ok (.ireturn, 1) := by decide +kernel
theorem dX3_pick_0 : decode cX3_pick 0 = .ok (.iload_n 0, 1) := by decide +kernel
theorem dX3_pick_1 : decode cX3_pick 1 = .ok (.iconst 4, 1) := by decide +kernel
theorem dX3_pick_2 : decode cX3_pick 2 = .ok (.iload_n 1, 1) := by decide +kernel
theorem dX3_pick_3 : decode cX3_pick 3 = .ok (.imul, 1) := by decide +kernel
theorem dX3_pick_4 : decode cX3_pick 4 = .ok (.ishr, 1) := by decide +kernel
theorem dX3_pick_5 : decode cX3_pick 5 = .ok (.bipush 15, 2) := by decide +kernel
theorem dX3_pick_7 : decode cX3_pick 7 = .ok (.iand, 1) := by decide +kernel
theorem dX3_pick_8 : decode cX3_pick 8 = .ok (.ireturn, 1) := by decide +kernel
theorem dX3_spend_0 : decode cX3_spend 0 = .ok (.aload_n 0, 1) := by decide +kernel
theorem dX3_spend_1 : decode cX3_spend 1 = .ok (.aload_n 0, 1) := by decide +kernel
theorem dX3_spend_2 : decode cX3_spend 2 = .ok (.getfield 31, 3) := by decide +kernel
theorem dX3_spend_5 : decode cX3_spend 5 = .ok (.iload_n 1, 1) := by decide +kernel
theorem dX3_spend_6 : decode cX3_spend 6 = .ok (.iadd, 1) := by decide +kernel
theorem dX3_spend_7 : decode cX3_spend 7 = .ok (.ldc 106, 2) := by decide +kernel
theorem dX3_spend_9 : decode cX3_spend 9 = .ok (.iand, 1) := by decide +kernel
theorem dX3_spend_10 : decode cX3_spend 10 = .ok (.putfield 31, 3) := by decide +kernel
theorem dX3_spend_13 : decode cX3_spend 13 = .ok (.return_, 1) := by decide +kernel
theorem dX3_flag_0 : decode cX3_flag 0 = .ok (.aload_n 0, 1) := by decide +kernel
theorem dX3_flag_1 : decode cX3_flag 1 = .ok (.getfield 14, 3) := by decide +kernel
theorem dX3_flag_4 : decode cX3_flag 4 = .ok (.iconst 2, 1) := by decide +kernel
theorem dX3_flag_5 : decode cX3_flag 5 = .ok (.iaload, 1) := by decide +kernel
theorem dX3_flag_6 : decode cX3_flag 6 = .ok (.iload_n 1, 1) := by decide +kernel
theorem dX3_flag_7 : decode cX3_flag 7 = .ok (.iand, 1) := by decide +kernel
theorem dX3_flag_8 : decode cX3_flag 8 = .ok (.ifCond .eq 7, 3) := by decide +kernel
theorem dX3_flag_11 : decode cX3_flag 11 = .ok (.iconst 1, 1) := by decide +kernel
theorem dX3_flag_12 : decode cX3_flag 12 = .ok (.goto 4, 3) := by decide +kernel
theorem dX3_flag_15 : decode cX3_flag 15 = .ok (.iconst 0, 1) := by decide +kernel
theorem dX3_flag_16 : decode cX3_flag 16 = .ok (.ireturn, 1) := by decide +kernel
theorem dX3_setFlag_0 : decode cX3_setFlag 0 = .ok (.aload_n 0, 1) := by decide +kernel
theorem dX3_setFlag_1 : decode cX3_setFlag 1 = .ok (.getfield 14, 3) := by decide +kernel
theorem dX3_setFlag_4 : decode cX3_setFlag 4 = .ok (.iconst 2, 1) := by decide +kernel
theorem dX3_setFlag_5 : decode cX3_setFlag 5 = .ok (.iload_n 2, 1) := by decide +kernel
theorem dX3_setFlag_6 : decode cX3_setFlag 6 = .ok (.ifCond .eq 14, 3) := by decide +kernel
theorem dX3_setFlag_9 : decode cX3_setFlag 9 = .ok (.aload_n 0, 1) := by decide +kernel
theorem dX3_setFlag_10 : decode cX3_setFlag 10 = .ok (.getfield 14, 3) := by decide +kernel
theorem dX3_setFlag_13 : decode cX3_setFlag 13 = .ok (.iconst 2, 1) := by decide +kernel
theorem dX3_setFlag_14 : decode cX3_setFlag 14 = .ok (.iaload, 1) := by decide +kernel
theorem dX3_setFlag_15 : decode cX3_setFlag 15 = .ok (.iload_n 1, 1) := by decide +kernel
theorem dX3_setFlag_16 : decode cX3_setFlag 16 = .ok (.ior, 1) := by decide +kernel
theorem dX3_setFlag_17 : decode cX3_setFlag 17 = .ok (.goto 13, 3) := by decide +kernel
theorem dX3_setFlag_20 : decode cX3_setFlag 20 = .ok (.aload_n 0, 1) := by decide +kernel
theorem dX3_setFlag_21 : decode cX3_setFlag 21 = .ok (.getfield 14, 3) := by decide +kernel
theorem dX3_setFlag_24 : decode cX3_setFlag 24 = .ok (.iconst 2, 1) := by decide +kernel
theorem dX3_setFlag_25 : decode cX3_setFlag 25 = .ok (.iaload, 1) := by decide +kernel
theorem dX3_setFlag_26 : decode cX3_setFlag 26 = .ok (.iload_n 1, 1) := by decide +kernel
theorem dX3_setFlag_27 : decode cX3_setFlag 27 = .ok (.iconst (-1), 1) := by decide +kernel
theorem dX3_setFlag_28 : decode cX3_setFlag 28 = .ok (.ixor, 1) := by decide +kernel
theorem dX3_setFlag_29 : decode cX3_setFlag 29 = .ok (.iand, 1) := by decide +kernel
theorem dX3_setFlag_30 : decode cX3_setFlag 30 = .ok (.iastore, 1) := by decide +kernel
theorem dX3_setFlag_31 : decode cX3_setFlag 31 = .ok (.return_, 1) := by decide +kernel
theorem dX3_high_0 : decode cX3_high 0 = .ok (.aload_n 0, 1) := by decide +kernel
theorem dX3_high_1 : decode cX3_high 1 = .ok (.getfield 51, 3) := by decide +kernel
theorem dX3_high_4 : decode cX3_high 4 = .ok (.ifCond .eq 9, 3) := by decide +kernel
theorem dX3_high_7 : decode cX3_high 7 = .ok (.sipush 128, 3) := by decide +kernel
theorem dX3_high_10 : decode cX3_high 10 = .ok (.goto 5, 3) := by decide +kernel
theorem dX3_high_13 : decode cX3_high 13 = .ok (.ldc 7, 2) := by decide +kernel
theorem dX3_high_15 : decode cX3_high 15 = .ok (.ireturn, 1) := by decide +kernel
theorem dX3_all_0 : decode cX3_all 0 = .ok (.aload_n 0, 1) := by decide +kernel
theorem dX3_all_1 : decode cX3_all 1 = .ok (.getfield 51, 3) := by decide +kernel
theorem dX3_all_4 : decode cX3_all 4 = .ok (.ifCond .eq 9, 3) := by decide +kernel
theorem dX3_all_7 : decode cX3_all 7 = .ok (.sipush 255, 3) := by decide +kernel
theorem dX3_all_10 : decode cX3_all 10 = .ok (.goto 5, 3) := by decide +kernel
theorem dX3_all_13 : decode cX3_all 13 = .ok (.ldc 50, 2) := by decide +kernel
theorem dX3_all_15 : decode cX3_all 15 = .ok (.ireturn, 1) := by decide +kernel
set_option maxRecDepth 20000 in
theorem ggX3_flags_X3_setFlag : GoodIn wsX3_flags wsX3_setFlag := goodIn_r _ [5, 6, 13, 14, 15, 16, 17, 18, 19, 20, 21] (by decide +kernel) (by decide +kernel)
set_option maxRecDepth 20000 in
theorem gX3_flags_X3_setFlag : GoodIn wsX3_flags (wsV RX3 107 RX3 yX3_setFlag wsX3_setFlag) := goodIn_app (goodIn_of _ (by decide +kernel)) ggX3_flags_X3_setFlag
set_option maxRecDepth 20000 in
theorem ggX3_flags_X3_high : GoodIn wsX3_flags wsX3_high := goodIn_r _ [10, 11, 12, 13, 14, 15, 16, 17, 18, 19, 20, 21] (by decide +kernel) (by decide +kernel)
set_option maxRecDepth 20000 in
theorem gX3_flags_X3_high : GoodIn wsX3_flags (wsV RX3 111 RX3 yX3_high wsX3_high) := goodIn_app (goodIn_of _ (by decide +kernel)) ggX3_flags_X3_high
theorem dX3_flags_0 : decode cX3_flags 0 = .ok (.aload_n 0, 1) := by decide +kernel
theorem dX3_flags_1 : decode cX3_flags 1 = .ok (.iconst 1, 1) := by decide +kernel
theorem dX3_flags_2 : decode cX3_flags 2 = .ok (.iload_n 2, 1) := by decide +kernel
theorem dX3_flags_3 : decode cX3_flags 3 = .ok (.invokevirtual 107, 3) := by decide +kernel
theorem dX3_flags_6 : decode cX3_flags 6 = .ok (.aload_n 0, 1) := by decide +kernel
theorem dX3_flags_7 : decode cX3_flags 7 = .ok (.iconst 2, 1) := by decide +kernel
theorem dX3_flags_8 : decode cX3_flags 8 = .ok (.iload_n 1, 1) := by decide +kernel
theorem dX3_flags_9 : decode cX3_flags 9 = .ok (.ifCond .ne 7, 3) := by decide +kernel
theorem dX3_flags_12 : decode cX3_flags 12 = .ok (.iconst 1, 1) := by decide +kernel
