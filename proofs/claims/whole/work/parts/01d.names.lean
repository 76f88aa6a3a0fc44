theorem dX3_flags_13 : decode cX3_flags 13 = .ok (.goto 4, 3) := by decide +kernel
theorem dX3_flags_16 : decode cX3_flags 16 = .ok (.iconst 0, 1) := by decide +kernel
theorem dX3_flags_17 : decode cX3_flags 17 = .ok (.invokevirtual 107, 3) := by decide +kernel
theorem dX3_flags_20 : decode cX3_flags 20 = .ok (.aload_n 0, 1) := by decide +kernel
theorem dX3_flags_21 : decode cX3_flags 21 = .ok (.iconst 4, 1) := by decide +kernel
theorem dX3_flags_22 : decode cX3_flags 22 = .ok (.iload_n 1, 1) := by decide +kernel
theorem dX3_flags_23 : decode cX3_flags 23 = .ok (.aload_n 0, 1) := by decide +kernel
theorem dX3_flags_24 : decode cX3_flags 24 = .ok (.invokevirtual 111, 3) := by decide +kernel
theorem dX3_flags_27 : decode cX3_flags 27 = .ok (.iand, 1) := by decide +kernel
theorem dX3_flags_28 : decode cX3_flags 28 = .ok (.ifCond .eq 7, 3) := by decide +kernel
theorem dX3_flags_31 : decode cX3_flags 31 = .ok (.iconst 1, 1) := by decide +kernel
theorem dX3_flags_32 : decode cX3_flags 32 = .ok (.goto 4, 3) := by decide +kernel
theorem dX3_flags_35 : decode cX3_flags 35 = .ok (.iconst 0, 1) := by decide +kernel
theorem dX3_flags_36 : decode cX3_flags 36 = .ok (.invokevirtual 107, 3) := by decide +kernel
theorem dX3_flags_39 : decode cX3_flags 39 = .ok (.aload_n 0, 1) := by decide +kernel
theorem dX3_flags_40 : decode cX3_flags 40 = .ok (.sipush 256, 3) := by decide +kernel
theorem dX3_flags_43 : decode cX3_flags 43 = .ok (.iload_n 3, 1) := by decide +kernel
theorem dX3_flags_44 : decode cX3_flags 44 = .ok (.invokevirtual 107, 3) := by decide +kernel
theorem dX3_flags_47 : decode cX3_flags 47 = .ok (.return_, 1) := by decide +kernel
set_option maxRecDepth 20000 in
theorem ggX3_sum_X3_all : GoodIn wsX3_sum wsX3_all := goodIn_r _ [5, 6, 7, 22, 23, 24, 25, 26, 27, 28, 29, 30] (by decide +kernel) (by decide +kernel)
set_option maxRecDepth 20000 in
theorem gX3_sum_X3_all : GoodIn wsX3_sum (wsV RX3 114 RX3 yX3_all wsX3_all) := goodIn_app (goodIn_of _ (by decide +kernel)) ggX3_sum_X3_all
set_option maxRecDepth 20000 in
theorem ggX3_sum_X3_high : GoodIn wsX3_sum wsX3_high := goodIn_r _ [11, 6, 12, 22, 23, 24, 25, 26, 27, 28, 29, 30] (by decide +kernel) (by decide +kernel)
set_option maxRecDepth 20000 in
theorem gX3_sum_X3_high : GoodIn wsX3_sum (wsV RX3 111 RX3 yX3_high wsX3_high) := goodIn_app (goodIn_of _ (by decide +kernel)) ggX3_sum_X3_high
set_option maxRecDepth 20000 in
theorem ggX3_sum_X3_flags : GoodIn wsX3_sum wsX3_flags := goodIn_r _ [16, 17, 18, 19, 4, 20, 21, 8, 9, 10, 11, 6, 12, 22, 23, 24, 25, 26, 27, 28, 29, 30] (by decide +kernel) (by decide +kernel)
set_option maxRecDepth 20000 in
theorem gX3_sum_X3_flags : GoodIn wsX3_sum (wsV RX3 117 RX3 yX3_flags wsX3_flags) := goodIn_app (goodIn_of _ (by decide +kernel)) ggX3_sum_X3_flags
theorem dX3_sum_0 : decode cX3_sum 0 = .ok (.iload_n 1, 1) := by decide +kernel
theorem dX3_sum_1 : decode cX3_sum 1 = .ok (.iload_n 2, 1) := by decide +kernel
theorem dX3_sum_2 : decode cX3_sum 2 = .ok (.iadd, 1) := by decide +kernel
theorem dX3_sum_3 : decode cX3_sum 3 = .ok (.iload_n 3, 1) := by decide +kernel
theorem dX3_sum_4 : decode cX3_sum 4 = .ok (.iadd, 1) := by decide +kernel
theorem dX3_sum_5 : decode cX3_sum 5 = .ok (.istore 4, 2) := by decide +kernel
theorem dX3_sum_7 : decode cX3_sum 7 = .ok (.iload 4, 2) := by decide +kernel
theorem dX3_sum_9 : decode cX3_sum 9 = .ok (.aload_n 0, 1) := by decide +kernel
theorem dX3_sum_10 : decode cX3_sum 10 = .ok (.invokevirtual 114, 3) := by decide +kernel
theorem dX3_sum_13 : decode cX3_sum 13 = .ok (.iand, 1) := by decide +kernel
theorem dX3_sum_14 : decode cX3_sum 14 = .ok (.istore 5, 2) := by decide +kernel
theorem dX3_sum_16 : decode cX3_sum 16 = .ok (.aload_n 0, 1) := by decide +kernel
theorem dX3_sum_17 : decode cX3_sum 17 = .ok (.iload 5, 2) := by decide +kernel
theorem dX3_sum_19 : decode cX3_sum 19 = .ok (.iload 4, 2) := by decide +kernel
theorem dX3_sum_21 : decode cX3_sum 21 = .ok (.aload_n 0, 1) := by decide +kernel
theorem dX3_sum_22 : decode cX3_sum 22 = .ok (.invokevirtual 114, 3) := by decide +kernel
theorem dX3_sum_25 : decode cX3_sum 25 = .ok (.if_icmp .le 7, 3) := by decide +kernel
theorem dX3_sum_28 : decode cX3_sum 28 = .ok (.iconst 1, 1) := by decide +kernel
theorem dX3_sum_29 : decode cX3_sum 29 = .ok (.goto 4, 3) := by decide +kernel
theorem dX3_sum_32 : decode cX3_sum 32 = .ok (.iconst 0, 1) := by decide +kernel
theorem dX3_sum_33 : decode cX3_sum 33 = .ok (.iload_n 1, 1) := by decide +kernel
theorem dX3_sum_34 : decode cX3_sum 34 = .ok (.iload_n 2, 1) := by decide +kernel
theorem dX3_sum_35 : decode cX3_sum 35 = .ok (.ixor, 1) := by decide +kernel
theorem dX3_sum_36 : decode cX3_sum 36 = .ok (.aload_n 0, 1) := by decide +kernel
theorem dX3_sum_37 : decode cX3_sum 37 = .ok (.invokevirtual 111, 3) := by decide +kernel
theorem dX3_sum_40 : decode cX3_sum 40 = .ok (.iand, 1) := by decide +kernel
theorem dX3_sum_41 : decode cX3_sum 41 = .ok (.ifCond .ne 19, 3) := by decide +kernel
theorem dX3_sum_44 : decode cX3_sum 44 = .ok (.iload_n 1, 1) := by decide +kernel
theorem dX3_sum_45 : decode cX3_sum 45 = .ok (.iload 5, 2) := by decide +kernel
theorem dX3_sum_47 : decode cX3_sum 47 = .ok (.ixor, 1) := by decide +kernel
theorem dX3_sum_48 : decode cX3_sum 48 = .ok (.aload_n 0, 1) := by decide +kernel
theorem dX3_sum_49 : decode cX3_sum 49 = .ok (.invokevirtual 111, 3) := by decide +kernel
theorem dX3_sum_52 : decode cX3_sum 52 = .ok (.iand, 1) := by decide +kernel
theorem dX3_sum_53 : decode cX3_sum 53 = .ok (.ifCond .eq 7, 3) := by decide +kernel
theorem dX3_sum_56 : decode cX3_sum 56 = .ok (.iconst 1, 1) := by decide +kernel
theorem dX3_sum_57 : decode cX3_sum 57 = .ok (.goto 4, 3) := by decide +kernel
theorem dX3_sum_60 : decode cX3_sum 60 = .ok (.iconst 0, 1) := by decide +kernel
theorem dX3_sum_61 : decode cX3_sum 61 = .ok (.invokevirtual 117, 3) := by decide +kernel
theorem dX3_sum_64 : decode cX3_sum 64 = .ok (.iload 5, 2) := by decide +kernel
theorem dX3_sum_66 : decode cX3_sum 66 = .ok (.ireturn, 1) := by decide +kernel
set_option maxRecDepth 20000 in
theorem ggX3_decimal_X3_flag : GoodIn wsX3_decimal wsX3_flag := goodIn_r _ [6, 7, 21, 22, 23, 24, 25, 26, 27, 28, 29] (by decide +kernel) (by decide +kernel)
set_option maxRecDepth 20000 in
theorem gX3_decimal_X3_flag : GoodIn wsX3_decimal (wsV RX3 121 RX3 yX3_flag wsX3_flag) := goodIn_app (goodIn_of _ (by decide +kernel)) ggX3_decimal_X3_flag
set_option maxRecDepth 20000 in
theorem ggX3_decimal_X3_flags : GoodIn wsX3_decimal wsX3_flags := goodIn_r _ [11, 12, 13, 14, 5, 15, 7, 16, 17, 18, 19, 1, 20, 21, 22, 23, 24, 25, 26, 27, 28, 29] (by decide +kernel) (by decide +kernel)
set_option maxRecDepth 20000 in
theorem gX3_decimal_X3_flags : GoodIn wsX3_decimal (wsV RX3 117 RX3 yX3_flags wsX3_flags) := goodIn_app (goodIn_of _ (by decide +kernel)) ggX3_decimal_X3_flags
theorem dX3_decimal_0 : decode cX3_decimal 0 = .ok (.aload_n 0, 1) := by decide +kernel
theorem dX3_decimal_1 : decode cX3_decimal 1 = .ok (.iconst 1, 1) := by decide +kernel
theorem dX3_decimal_2 : decode cX3_decimal 2 = .ok (.invokevirtual 121, 3) := by decide +kernel
theorem dX3_decimal_5 : decode cX3_decimal 5 = .ok (.istore_n 3, 1) := by decide +kernel
theorem dX3_decimal_6 : decode cX3_decimal 6 = .ok (.iconst 0, 1) := by decide +kernel
theorem dX3_decimal_7 : decode cX3_decimal 7 = .ok (.istore 4, 2) := by decide +kernel
theorem dX3_decimal_9 : decode cX3_decimal 9 = .ok (.iconst 0, 1) := by decide +kernel
theorem dX3_decimal_10 : decode cX3_decimal 10 = .ok (.istore 5, 2) := by decide +kernel
theorem dX3_decimal_12 : decode cX3_decimal 12 = .ok (.iload 5, 2) := by decide +kernel
theorem dX3_decimal_14 : decode cX3_decimal 14 = .ok (.aload_n 0, 1) := by decide +kernel
theorem dX3_decimal_15 : decode cX3_decimal 15 = .ok (.getfield 51, 3) := by decide +kernel
theorem dX3_decimal_18 : decode cX3_decimal 18 = .ok (.ifCond .eq 8, 3) := by decide +kernel
theorem dX3_decimal_21 : decode cX3_decimal 21 = .ok (.bipush 8, 2) := by decide +kernel
theorem dX3_decimal_23 : decode cX3_decimal 23 = .ok (.goto 5, 3) := by decide +kernel
theorem dX3_decimal_26 : decode cX3_decimal 26 = .ok (.bipush 16, 2) := by decide +kernel
theorem dX3_decimal_28 : decode cX3_decimal 28 = .ok (.if_icmp .ge 59, 3) := by decide +kernel
theorem dX3_decimal_31 : decode cX3_decimal 31 = .ok (.iload_n 1, 1) := by decide +kernel
theorem dX3_decimal_32 : decode cX3_decimal 32 = .ok (.iload 5, 2) := by decide +kernel
theorem dX3_decimal_34 : decode cX3_decimal 34 = .ok (.ishr, 1) := by decide +kernel
theorem dX3_decimal_35 : decode cX3_decimal 35 = .ok (.bipush 15, 2) := by decide +kernel
theorem dX3_decimal_37 : decode cX3_decimal 37 = .ok (.iand, 1) := by decide +kernel
theorem dX3_decimal_38 : decode cX3_decimal 38 = .ok (.iload_n 2, 1) := by decide +kernel
theorem dX3_decimal_39 : decode cX3_decimal 39 = .ok (.iload 5, 2) := by decide +kernel
theorem dX3_decimal_41 : decode cX3_decimal 41 = .ok (.ishr, 1) := by decide +kernel
theorem dX3_decimal_42 : decode cX3_decimal 42 = .ok (.bipush 15, 2) := by decide +kernel
theorem dX3_decimal_44 : decode cX3_decimal 44 = .ok (.iand, 1) := by decide +kernel
theorem dX3_decimal_45 : decode cX3_decimal 45 = .ok (.iadd, 1) := by decide +kernel
theorem dX3_decimal_46 : decode cX3_decimal 46 = .ok (.iload_n 3, 1) := by decide +kernel
theorem dX3_decimal_47 : decode cX3_decimal 47 = .ok (.iadd, 1) := by decide +kernel
theorem dX3_decimal_48 : decode cX3_decimal 48 = .ok (.istore 6, 2) := by decide +kernel
theorem dX3_decimal_50 : decode cX3_decimal 50 = .ok (.iload 6, 2) := by decide +kernel
theorem dX3_decimal_52 : decode cX3_decimal 52 = .ok (.bipush 9, 2) := by decide +kernel
theorem dX3_decimal_54 : decode cX3_decimal 54 = .ok (.if_icmp .le 7, 3) := by decide +kernel
theorem dX3_decimal_57 : decode cX3_decimal 57 = .ok (.iconst 1, 1) := by decide +kernel
theorem dX3_decimal_58 : decode cX3_decimal 58 = .ok (.goto 4, 3) := by decide +kernel
theorem dX3_decimal_61 : decode cX3_decimal 61 = .ok (.iconst 0, 1) := by decide +kernel
theorem dX3_decimal_62 : decode cX3_decimal 62 = .ok (.istore_n 3, 1) := by decide +kernel
theorem dX3_decimal_63 : decode cX3_decimal 63 = .ok (.iload 4, 2) := by decide +kernel
theorem dX3_decimal_65 : decode cX3_decimal 65 = .ok (.iload 6, 2) := by decide +kernel
theorem dX3_decimal_67 : decode cX3_decimal 67 = .ok (.bipush 10, 2) := by decide +kernel
theorem dX3_decimal_69 : decode cX3_decimal 69 = .ok (.iload_n 3, 1) := by decide +kernel
theorem dX3_decimal_70 : decode cX3_decimal 70 = .ok (.imul, 1) := by decide +kernel
theorem dX3_decimal_71 : decode cX3_decimal 71 = .ok (.isub, 1) := by decide +kernel
theorem dX3_decimal_72 : decode cX3_decimal 72 = .ok (.bipush 15, 2) := by decide +kernel
theorem dX3_decimal_74 : decode cX3_decimal 74 = .ok (.iand, 1) := by decide +kernel
theorem dX3_decimal_75 : decode cX3_decimal 75 = .ok (.iload 5, 2) := by decide +kernel
theorem dX3_decimal_77 : decode cX3_decimal 77 = .ok (.ishl, 1) := by decide +kernel
theorem dX3_decimal_78 : decode cX3_decimal 78 = .ok (.ior, 1) := by decide +kernel
theorem dX3_decimal_79 : decode cX3_decimal 79 = .ok (.istore 4, 2) := by decide +kernel
theorem dX3_decimal_81 : decode cX3_decimal 81 = .ok (.iinc 5 4, 3) := by decide +kernel
theorem dX3_decimal_84 : decode cX3_decimal 84 = .ok (.goto (-72), 3) := by decide +kernel
theorem dX3_decimal_87 : decode cX3_decimal 87 = .ok (.aload_n 0, 1) := by decide +kernel
theorem dX3_decimal_88 : decode cX3_decimal 88 = .ok (.iload 4, 2) := by decide +kernel
theorem dX3_decimal_90 : decode cX3_decimal 90 = .ok (.iload_n 3, 1) := by decide +kernel
theorem dX3_decimal_91 : decode cX3_decimal 91 = .ok (.iconst 1, 1) := by decide +kernel
theorem dX3_decimal_92 : decode cX3_decimal 92 = .ok (.if_icmp .ne 7, 3) := by decide +kernel
theorem dX3_decimal_95 : decode cX3_decimal 95 = .ok (.iconst 1, 1) := by decide +kernel
theorem dX3_decimal_96 : decode cX3_decimal 96 = .ok (.goto 4, 3) := by decide +kernel
theorem dX3_decimal_99 : decode cX3_decimal 99 = .ok (.iconst 0, 1) := by decide +kernel
theorem dX3_decimal_100 : decode cX3_decimal 100 = .ok (.iconst 0, 1) := by decide +kernel
theorem dX3_decimal_101 : decode cX3_decimal 101 = .ok (.invokevirtual 117, 3) := by decide +kernel
theorem dX3_decimal_104 : decode cX3_decimal 104 = .ok (.iload 4, 2) := by decide +kernel
theorem dX3_decimal_106 : decode cX3_decimal 106 = .ok (.ireturn, 1) := by decide +kernel
set_option maxRecDepth 20000 in
theorem ggX3_joined_X3_all : GoodIn wsX3_joined wsX3_all := goodIn_r _ [5, 6, 7, 34, 35, 36, 37, 38, 39, 40, 41, 42] (by decide +kernel) (by decide +kernel)
set_option maxRecDepth 20000 in
theorem gX3_joined_X3_all : GoodIn wsX3_joined (wsV RX3 114 RX3 yX3_all wsX3_all) := goodIn_app (goodIn_of _ (by decide +kernel)) ggX3_joined_X3_all
set_option maxRecDepth 20000 in
theorem ggX3_joined_X3_sum : GoodIn wsX3_joined wsX3_sum := goodIn_r _ [11, 1, 2, 3, 4, 5, 6, 7, 12, 13, 14, 15, 16, 17, 18, 19, 20, 21, 22, 23, 24, 25, 34, 35, 36, 37, 38, 39, 40, 41, 42] (by decide +kernel) (by decide +kernel)
set_option maxRecDepth 20000 in
theorem gX3_joined_X3_sum : GoodIn wsX3_joined (wsV RX3 124 RX3 yX3_sum wsX3_sum) := goodIn_app (goodIn_of _ (by decide +kernel)) ggX3_joined_X3_sum
set_option maxRecDepth 20000 in
theorem ggX3_joined_X3_flag : GoodIn wsX3_joined wsX3_flag := goodIn_r _ [29, 25, 34, 35, 36, 37, 38, 39, 40, 41, 42] (by decide +kernel) (by decide +kernel)
set_option maxRecDepth 20000 in
theorem gX3_joined_X3_flag : GoodIn wsX3_joined (wsV RX3 121 RX3 yX3_flag wsX3_flag) := goodIn_app (goodIn_of _ (by decide +kernel)) ggX3_joined_X3_flag
set_option maxRecDepth 20000 in
theorem ggX3_joined_X3_decimal : GoodIn wsX3_joined wsX3_decimal := goodIn_r _ [33, 6, 26, 27, 28, 4, 29, 25, 17, 18, 19, 20, 21, 22, 23, 24, 12, 13, 14, 15, 16, 34, 35, 36, 37, 38, 39, 40, 41, 42] (by decide +kernel) (by decide +kernel)
set_option maxRecDepth 20000 in
theorem gX3_joined_X3_decimal : GoodIn wsX3_joined (wsV RX3 127 RX3 yX3_decimal wsX3_decimal) := goodIn_app (goodIn_of _ (by decide +kernel)) ggX3_joined_X3_decimal
set_option maxRecDepth 20000 in
theorem ggX3_joined_X3_high : GoodIn wsX3_joined wsX3_high := goodIn_r _ [15, 6, 16, 34, 35, 36, 37, 38, 39, 40, 41, 42] (by decide +kernel) (by decide +kernel)
set_option maxRecDepth 20000 in
theorem gX3_joined_X3_high : GoodIn wsX3_joined (wsV RX3 111 RX3 yX3_high wsX3_high) := goodIn_app (goodIn_of _ (by decide +kernel)) ggX3_joined_X3_high
set_option maxRecDepth 20000 in
theorem ggX3_joined_X3_flags : GoodIn wsX3_joined wsX3_flags := goodIn_r _ [20, 21, 22, 23, 4, 24, 25, 12, 13, 14, 15, 6, 16, 34, 35, 36, 37, 38, 39, 40, 41, 42] (by decide +kernel) (by decide +kernel)
set_option maxRecDepth 20000 in
theorem gX3_joined_X3_flags : GoodIn wsX3_joined (wsV RX3 117 RX3 yX3_flags wsX3_flags) := goodIn_app (goodIn_of _ (by decide +kernel)) ggX3_joined_X3_flags
theorem dX3_joined_0 : decode cX3_joined 0 = .ok (.iload_n 2, 1) := by decide +kernel
theorem dX3_joined_1 : decode cX3_joined 1 = .ok (.aload_n 0, 1) := by decide +kernel
theorem dX3_joined_2 : decode cX3_joined 2 = .ok (.invokevirtual 114, 3) := by decide +kernel
theorem dX3_joined_5 : decode cX3_joined 5 = .ok (.ixor, 1) := by decide +kernel
theorem dX3_joined_6 : decode cX3_joined 6 = .ok (.istore 4, 2) := by decide +kernel
theorem dX3_joined_8 : decode cX3_joined 8 = .ok (.iload_n 1, 1) := by decide +kernel
theorem dX3_joined_9 : decode cX3_joined 9 = .ok (.tableswitch 159 4 14 #[59, 61, 69, 81, 94, 94, 103, 159, 110, 115, 119], 59) := by decide +kernel
theorem dX3_joined_68 : decode cX3_joined 68 = .ok (.iload_n 2, 1) := by decide +kernel
theorem dX3_joined_69 : decode cX3_joined 69 = .ok (.ireturn, 1) := by decide +kernel
theorem dX3_joined_70 : decode cX3_joined 70 = .ok (.aload_n 0, 1) := by decide +kernel
theorem dX3_joined_71 : decode cX3_joined 71 = .ok (.iload_n 2, 1) := by decide +kernel
theorem dX3_joined_72 : decode cX3_joined 72 = .ok (.iload_n 3, 1) := by decide +kernel
theorem dX3_joined_73 : decode cX3_joined 73 = .ok (.iconst 0, 1) := by decide +kernel
theorem dX3_joined_74 : decode cX3_joined 74 = .ok (.invokevirtual 124, 3) := by decide +kernel
theorem dX3_joined_77 : decode cX3_joined 77 = .ok (.ireturn, 1) := by decide +kernel
theorem dX3_joined_78 : decode cX3_joined 78 = .ok (.aload_n 0, 1) := by decide +kernel
theorem dX3_joined_79 : decode cX3_joined 79 = .ok (.iload_n 2, 1) := by decide +kernel
theorem dX3_joined_80 : decode cX3_joined 80 = .ok (.iload_n 3, 1) := by decide +kernel
theorem dX3_joined_81 : decode cX3_joined 81 = .ok (.aload_n 0, 1) := by decide +kernel
theorem dX3_joined_82 : decode cX3_joined 82 = .ok (.iconst 1, 1) := by decide +kernel
theorem dX3_joined_83 : decode cX3_joined 83 = .ok (.invokevirtual 121, 3) := by decide +kernel
theorem dX3_joined_86 : decode cX3_joined 86 = .ok (.invokevirtual 124, 3) := by decide +kernel
theorem dX3_joined_89 : decode cX3_joined 89 = .ok (.ireturn, 1) := by decide +kernel
theorem dX3_joined_90 : decode cX3_joined 90 = .ok (.aload_n 0, 1) := by decide +kernel
theorem dX3_joined_91 : decode cX3_joined 91 = .ok (.iload 4, 2) := by decide +kernel
theorem dX3_joined_93 : decode cX3_joined 93 = .ok (.iload_n 3, 1) := by decide +kernel
theorem dX3_joined_94 : decode cX3_joined 94 = .ok (.aload_n 0, 1) := by decide +kernel
theorem dX3_joined_95 : decode cX3_joined 95 = .ok (.iconst 1, 1) := by decide +kernel
theorem dX3_joined_96 : decode cX3_joined 96 = .ok (.invokevirtual 121, 3) := by decide +kernel
theorem dX3_joined_99 : decode cX3_joined 99 = .ok (.invokevirtual 124, 3) := by decide +kernel
theorem dX3_joined_102 : decode cX3_joined 102 = .ok (.ireturn, 1) := by decide +kernel
theorem dX3_joined_103 : decode cX3_joined 103 = .ok (.aload_n 0, 1) := by decide +kernel
theorem dX3_joined_104 : decode cX3_joined 104 = .ok (.iload 4, 2) := by decide +kernel
theorem dX3_joined_106 : decode cX3_joined 106 = .ok (.iload_n 3, 1) := by decide +kernel
theorem dX3_joined_107 : decode cX3_joined 107 = .ok (.iconst 1, 1) := by decide +kernel
theorem dX3_joined_108 : decode cX3_joined 108 = .ok (.invokevirtual 124, 3) := by decide +kernel
theorem dX3_joined_111 : decode cX3_joined 111 = .ok (.ireturn, 1) := by decide +kernel
theorem dX3_joined_112 : decode cX3_joined 112 = .ok (.aload_n 0, 1) := by decide +kernel
theorem dX3_joined_113 : decode cX3_joined 113 = .ok (.iload_n 2, 1) := by decide +kernel
theorem dX3_joined_114 : decode cX3_joined 114 = .ok (.iload_n 3, 1) := by decide +kernel
theorem dX3_joined_115 : decode cX3_joined 115 = .ok (.invokevirtual 127, 3) := by decide +kernel
theorem dX3_joined_118 : decode cX3_joined 118 = .ok (.ireturn, 1) := by decide +kernel
theorem dX3_joined_119 : decode cX3_joined 119 = .ok (.iload_n 3, 1) := by decide +kernel
theorem dX3_joined_120 : decode cX3_joined 120 = .ok (.iload 4, 2) := by decide +kernel
theorem dX3_joined_122 : decode cX3_joined 122 = .ok (.iand, 1) := by decide +kernel
theorem dX3_joined_123 : decode cX3_joined 123 = .ok (.ireturn, 1) := by decide +kernel
theorem dX3_joined_124 : decode cX3_joined 124 = .ok (.iload_n 3, 1) := by decide +kernel
theorem dX3_joined_125 : decode cX3_joined 125 = .ok (.iload_n 2, 1) := by decide +kernel
theorem dX3_joined_126 : decode cX3_joined 126 = .ok (.ior, 1) := by decide +kernel
theorem dX3_joined_127 : decode cX3_joined 127 = .ok (.ireturn, 1) := by decide +kernel
theorem dX3_joined_128 : decode cX3_joined 128 = .ok (.iload_n 2, 1) := by decide +kernel
theorem dX3_joined_129 : decode cX3_joined 129 = .ok (.iload_n 3, 1) := by decide +kernel
theorem dX3_joined_130 : decode cX3_joined 130 = .ok (.ixor, 1) := by decide +kernel
theorem dX3_joined_131 : decode cX3_joined 131 = .ok (.istore 5, 2) := by decide +kernel
theorem dX3_joined_133 : decode cX3_joined 133 = .ok (.aload_n 0, 1) := by decide +kernel
theorem dX3_joined_134 : decode cX3_joined 134 = .ok (.iload 5, 2) := by decide +kernel
theorem dX3_joined_136 : decode cX3_joined 136 = .ok (.iload 5, 2) := by decide +kernel
theorem dX3_joined_138 : decode cX3_joined 138 = .ok (.ifCond .eq 7, 3) := by decide +kernel
theorem dX3_joined_141 : decode cX3_joined 141 = .ok (.iconst 1, 1) := by decide +kernel
theorem dX3_joined_142 : decode cX3_joined 142 = .ok (.goto 4, 3) := by decide +kernel
theorem dX3_joined_145 : decode cX3_joined 145 = .ok (.iconst 0, 1) := by decide +kernel
theorem dX3_joined_146 : decode cX3_joined 146 = .ok (.iload_n 2, 1) := by decide +kernel
theorem dX3_joined_147 : decode cX3_joined 147 = .ok (.iload_n 3, 1) := by decide +kernel
theorem dX3_joined_148 : decode cX3_joined 148 = .ok (.iand, 1) := by decide +kernel
theorem dX3_joined_149 : decode cX3_joined 149 = .ok (.aload_n 0, 1) := by decide +kernel
theorem dX3_joined_150 : decode cX3_joined 150 = .ok (.invokevirtual 111, 3) := by decide +kernel
theorem dX3_joined_153 : decode cX3_joined 153 = .ok (.iand, 1) := by decide +kernel
theorem dX3_joined_154 : decode cX3_joined 154 = .ok (.ifCond .eq 7, 3) := by decide +kernel
theorem dX3_joined_157 : decode cX3_joined 157 = .ok (.iconst 1, 1) := by decide +kernel
theorem dX3_joined_158 : decode cX3_joined 158 = .ok (.goto 4, 3) := by decide +kernel
theorem dX3_joined_161 : decode cX3_joined 161 = .ok (.iconst 0, 1) := by decide +kernel
theorem dX3_joined_162 : decode cX3_joined 162 = .ok (.invokevirtual 117, 3) := by decide +kernel
theorem dX3_joined_165 : decode cX3_joined 165 = .ok (.iload 5, 2) := by decide +kernel
theorem dX3_joined_167 : decode cX3_joined 167 = .ok (.ireturn, 1) := by decide +kernel
theorem dX3_joined_168 : decode cX3_joined 168 = .ok (.iload_n 2, 1) := by decide +kernel
theorem dX3_joined_169 : decode cX3_joined 169 = .ok (.iload_n 3, 1) := by decide +kernel
theorem dX3_joined_170 : decode cX3_joined 170 = .ok (.iand, 1) := by decide +kernel
theorem dX3_joined_171 : decode cX3_joined 171 = .ok (.istore 5, 2) := by decide +kernel
theorem dX3_joined_173 : decode cX3_joined 173 = .ok (.aload_n 0, 1) := by decide +kernel
theorem dX3_joined_174 : decode cX3_joined 174 = .ok (.iload 5, 2) := by decide +kernel
theorem dX3_joined_176 : decode cX3_joined 176 = .ok (.iload 5, 2) := by decide +kernel
theorem dX3_joined_178 : decode cX3_joined 178 = .ok (.ifCond .eq 7, 3) := by decide +kernel
theorem dX3_joined_181 : decode cX3_joined 181 = .ok (.iconst 1, 1) := by decide +kernel
theorem dX3_joined_182 : decode cX3_joined 182 = .ok (.goto 4, 3) := by decide +kernel
theorem dX3_joined_185 : decode cX3_joined 185 = .ok (.iconst 0, 1) := by decide +kernel
theorem dX3_joined_186 : decode cX3_joined 186 = .ok (.iconst 0, 1) := by decide +kernel
theorem dX3_joined_187 : decode cX3_joined 187 = .ok (.invokevirtual 117, 3) := by decide +kernel
theorem dX3_joined_190 : decode cX3_joined 190 = .ok (.iload 5, 2) := by decide +kernel
theorem dX3_joined_192 : decode cX3_joined 192 = .ok (.ireturn, 1) := by decide +kernel
set_option maxRecDepth 20000 in
theorem ggX3_twoParts_X3_source : GoodIn wsX3_twoParts wsX3_source := goodIn_r _ [7, 8, 9, 10, 11, 12, 13, 6, 14, 1, 2, 15, 16, 17, 18, 19, 20, 21, 22, 23, 24, 25, 26, 27, 28, 29, 30, 31, 32, 33, 34, 35, 36, 37, 38, 39, 40, 41, 42, 43, 44, 45, 46, 47, 48, 49, 50, 51, 52, 53, 54, 55, 56, 129, 130, 131, 132, 133, 134, 135, 136, 137] (by decide +kernel) (by decide +kernel)
set_option maxRecDepth 20000 in
theorem gX3_twoParts_X3_source : GoodIn wsX3_twoParts (wsV RX3 131 RX3 yX3_source wsX3_source) := goodIn_app (goodIn_of _ (by decide +kernel)) ggX3_twoParts_X3_source
set_option maxRecDepth 20000 in
theorem ggX3_twoParts_X3_indexed : GoodIn wsX3_twoParts wsX3_indexed := goodIn_r _ [18, 9, 19, 20, 21, 6, 22, 23, 24, 25, 26, 27, 28, 8, 29, 30, 31, 32, 33, 34, 35, 36, 37, 38, 39, 40, 41, 42, 43, 1, 44, 2, 45, 46, 47, 48, 10, 49, 50, 51, 52, 129, 130, 131, 132, 133, 134, 135, 136, 137] (by decide +kernel) (by decide +kernel)
set_option maxRecDepth 20000 in
theorem gX3_twoParts_X3_indexed : GoodIn wsX3_twoParts (wsV RX3 100 RX3 yX3_indexed wsX3_indexed) := goodIn_app (goodIn_of _ (by decide +kernel)) ggX3_twoParts_X3_indexed
set_option maxRecDepth 20000 in
theorem ggX3_twoParts_X3_register : GoodIn wsX3_twoParts wsX3_register := goodIn_r _ [14, 10, 9, 1, 2, 129, 130, 131, 132, 133, 134, 135, 136, 137] (by decide +kernel) (by decide +kernel)
set_option maxRecDepth 20000 in
theorem gX3_twoParts_X3_register : GoodIn wsX3_twoParts (wsV RX3 97 RX3 yX3_register wsX3_register) := goodIn_app (goodIn_of _ (by decide +kernel)) ggX3_twoParts_X3_register
set_option maxRecDepth 20000 in
theorem ggX3_twoParts_X3_joined : GoodIn wsX3_twoParts wsX3_joined := goodIn_r _ [60, 61, 62, 63, 6, 64, 10, 8, 65, 66, 67, 68, 69, 70, 71, 72, 73, 74, 75, 76, 77, 78, 79, 80, 81, 9, 82, 83, 84, 85, 86, 87, 88, 89, 129, 130, 131, 132, 133, 134, 135, 136, 137] (by decide +kernel) (by decide +kernel)
set_option maxRecDepth 20000 in
theorem gX3_twoParts_X3_joined : GoodIn wsX3_twoParts (wsV RX3 134 RX3 yX3_joined wsX3_joined) := goodIn_app (goodIn_of _ (by decide +kernel)) ggX3_twoParts_X3_joined
set_option maxRecDepth 20000 in
theorem ggX3_twoParts_X3_write : GoodIn wsX3_twoParts wsX3_write := goodIn_r _ [93, 44, 10, 35, 36, 37, 6, 38, 9, 39, 8, 94, 95, 96, 97, 28, 29, 30, 31, 98, 99, 100, 101, 102, 103, 104, 105, 27, 106, 107, 108, 109, 110, 111, 112, 113, 114, 115, 116, 129, 130, 131, 132, 133, 134, 135, 136, 137] (by decide +kernel) (by decide +kernel)
set_option maxRecDepth 20000 in
theorem gX3_twoParts_X3_write : GoodIn wsX3_twoParts (wsV RX3 137 RX3 yX3_write wsX3_write) := goodIn_app (goodIn_of _ (by decide +kernel)) ggX3_twoParts_X3_write
set_option maxRecDepth 20000 in
theorem ggX3_twoParts_X3_sort : GoodIn wsX3_twoParts wsX3_sort := goodIn_r _ [119] (by decide +kernel) (by decide +kernel)
set_option maxRecDepth 20000 in
theorem gX3_twoParts_X3_sort : GoodIn wsX3_twoParts (va_wsS RX3 140 yX3_sort wsX3_sort) := goodIn_app (goodIn_of _ (by decide +kernel)) ggX3_twoParts_X3_sort
set_option maxRecDepth 20000 in
theorem ggX3_twoParts_X3_pick : GoodIn wsX3_twoParts wsX3_pick := goodIn_r _ [122] (by decide +kernel) (by decide +kernel)
set_option maxRecDepth 20000 in
theorem gX3_twoParts_X3_pick : GoodIn wsX3_twoParts (va_wsS RX3 143 yX3_pick wsX3_pick) := goodIn_app (goodIn_of _ (by decide +kernel)) ggX3_twoParts_X3_pick
set_option maxRecDepth 20000 in
theorem ggX3_twoParts_X3_spend : GoodIn wsX3_twoParts wsX3_spend := goodIn_r _ [126, 127, 128, 129, 130, 131, 132, 133, 134, 135, 136, 137] (by decide +kernel) (by decide +kernel)
set_option maxRecDepth 20000 in
theorem gX3_twoParts_X3_spend : GoodIn wsX3_twoParts (wsV RX3 146 RX3 yX3_spend wsX3_spend) := goodIn_app (goodIn_of _ (by decide +kernel)) ggX3_twoParts_X3_spend
theorem dX3_twoParts_0 : decode cX3_twoParts 0 = .ok (.iload_n 1, 1) := by decide +kernel
theorem dX3_twoParts_1 : decode cX3_twoParts 1 = .ok (.iconst 4, 1) := by decide +kernel
theorem dX3_twoParts_2 : decode cX3_twoParts 2 = .ok (.ishr, 1) := by decide +kernel
theorem dX3_twoParts_3 : decode cX3_twoParts 3 = .ok (.iconst 3, 1) := by decide +kernel
theorem dX3_twoParts_4 : decode cX3_twoParts 4 = .ok (.iand, 1) := by decide +kernel
theorem dX3_twoParts_5 : decode cX3_twoParts 5 = .ok (.istore_n 2, 1) := by decide +kernel
theorem dX3_twoParts_6 : decode cX3_twoParts 6 = .ok (.iload_n 1, 1) := by decide +kernel
theorem dX3_twoParts_7 : decode cX3_twoParts 7 = .ok (.bipush 8, 2) := by decide +kernel
theorem dX3_twoParts_9 : decode cX3_twoParts 9 = .ok (.ishr, 1) := by decide +kernel
theorem dX3_twoParts_10 : decode cX3_twoParts 10 = .ok (.bipush 15, 2) := by decide +kernel
theorem dX3_twoParts_12 : decode cX3_twoParts 12 = .ok (.iand, 1) := by decide +kernel
theorem dX3_twoParts_13 : decode cX3_twoParts 13 = .ok (.istore_n 3, 1) := by decide +kernel
theorem dX3_twoParts_14 : decode cX3_twoParts 14 = .ok (.iload_n 1, 1) := by decide +kernel
theorem dX3_twoParts_15 : decode cX3_twoParts 15 = .ok (.bipush 15, 2) := by decide +kernel
theorem dX3_twoParts_17 : decode cX3_twoParts 17 = .ok (.iand, 1) := by decide +kernel
theorem dX3_twoParts_18 : decode cX3_twoParts 18 = .ok (.istore 4, 2) := by decide +kernel
theorem dX3_twoParts_20 : decode cX3_twoParts 20 = .ok (.iload_n 1, 1) := by decide +kernel
theorem dX3_twoParts_21 : decode cX3_twoParts 21 = .ok (.sipush 128, 3) := by decide +kernel
theorem dX3_twoParts_24 : decode cX3_twoParts 24 = .ok (.iand, 1) := by decide +kernel
theorem dX3_twoParts_25 : decode cX3_twoParts 25 = .ok (.ifCond .eq 7, 3) := by decide +kernel
theorem dX3_twoParts_28 : decode cX3_twoParts 28 = .ok (.iconst 1, 1) := by decide +kernel
theorem dX3_twoParts_29 : decode cX3_twoParts 29 = .ok (.goto 4, 3) := by decide +kernel
theorem dX3_twoParts_32 : decode cX3_twoParts 32 = .ok (.iconst 0, 1) := by decide +kernel
theorem dX3_twoParts_33 : decode cX3_twoParts 33 = .ok (.istore 5, 2) := by decide +kernel
theorem dX3_twoParts_35 : decode cX3_twoParts 35 = .ok (.aload_n 0, 1) := by decide +kernel
theorem dX3_twoParts_36 : decode cX3_twoParts 36 = .ok (.iload_n 2, 1) := by decide +kernel
theorem dX3_twoParts_37 : decode cX3_twoParts 37 = .ok (.iload_n 3, 1) := by decide +kernel
theorem dX3_twoParts_38 : decode cX3_twoParts 38 = .ok (.invokevirtual 131, 3) := by decide +kernel
theorem dX3_twoParts_41 : decode cX3_twoParts 41 = .ok (.aload_n 0, 1) := by decide +kernel
theorem dX3_twoParts_42 : decode cX3_twoParts 42 = .ok (.getfield 80, 3) := by decide +kernel
theorem dX3_twoParts_45 : decode cX3_twoParts 45 = .ok (.istore 6, 2) := by decide +kernel
theorem dX3_twoParts_47 : decode cX3_twoParts 47 = .ok (.iload 5, 2) := by decide +kernel
theorem dX3_twoParts_49 : decode cX3_twoParts 49 = .ok (.ifCond .eq 12, 3) := by decide +kernel
theorem dX3_twoParts_52 : decode cX3_twoParts 52 = .ok (.aload_n 0, 1) := by decide +kernel
theorem dX3_twoParts_53 : decode cX3_twoParts 53 = .ok (.iload 4, 2) := by decide +kernel
theorem dX3_twoParts_55 : decode cX3_twoParts 55 = .ok (.invokevirtual 100, 3) := by decide +kernel
theorem dX3_twoParts_58 : decode cX3_twoParts 58 = .ok (.goto 9, 3) := by decide +kernel
theorem dX3_twoParts_61 : decode cX3_twoParts 61 = .ok (.aload_n 0, 1) := by decide +kernel
theorem dX3_twoParts_62 : decode cX3_twoParts 62 = .ok (.iload 4, 2) := by decide +kernel
theorem dX3_twoParts_64 : decode cX3_twoParts 64 = .ok (.invokevirtual 97, 3) := by decide +kernel
theorem dX3_twoParts_67 : decode cX3_twoParts 67 = .ok (.iload_n 1, 1) := by decide +kernel
theorem dX3_twoParts_68 : decode cX3_twoParts 68 = .ok (.bipush 12, 2) := by decide +kernel
theorem dX3_twoParts_70 : decode cX3_twoParts 70 = .ok (.ishr, 1) := by decide +kernel
theorem dX3_twoParts_71 : decode cX3_twoParts 71 = .ok (.istore 7, 2) := by decide +kernel
theorem dX3_twoParts_73 : decode cX3_twoParts 73 = .ok (.aload_n 0, 1) := by decide +kernel
theorem dX3_twoParts_74 : decode cX3_twoParts 74 = .ok (.iload 7, 2) := by decide +kernel
theorem dX3_twoParts_76 : decode cX3_twoParts 76 = .ok (.iload 6, 2) := by decide +kernel
theorem dX3_twoParts_78 : decode cX3_twoParts 78 = .ok (.aload_n 0, 1) := by decide +kernel
theorem dX3_twoParts_79 : decode cX3_twoParts 79 = .ok (.getfield 80, 3) := by decide +kernel
theorem dX3_twoParts_82 : decode cX3_twoParts 82 = .ok (.invokevirtual 134, 3) := by decide +kernel
theorem dX3_twoParts_85 : decode cX3_twoParts 85 = .ok (.istore 8, 2) := by decide +kernel
theorem dX3_twoParts_87 : decode cX3_twoParts 87 = .ok (.iload 7, 2) := by decide +kernel
theorem dX3_twoParts_89 : decode cX3_twoParts 89 = .ok (.bipush 9, 2) := by decide +kernel
theorem dX3_twoParts_91 : decode cX3_twoParts 91 = .ok (.if_icmp .eq 20, 3) := by decide +kernel
theorem dX3_twoParts_94 : decode cX3_twoParts 94 = .ok (.iload 7, 2) := by decide +kernel
theorem dX3_twoParts_96 : decode cX3_twoParts 96 = .ok (.bipush 11, 2) := by decide +kernel
theorem dX3_twoParts_98 : decode cX3_twoParts 98 = .ok (.if_icmp .eq 13, 3) := by decide +kernel
theorem dX3_twoParts_101 : decode cX3_twoParts 101 = .ok (.aload_n 0, 1) := by decide +kernel
theorem dX3_twoParts_102 : decode cX3_twoParts 102 = .ok (.aload_n 0, 1) := by decide +kernel
theorem dX3_twoParts_103 : decode cX3_twoParts 103 = .ok (.getfield 83, 3) := by decide +kernel
theorem dX3_twoParts_106 : decode cX3_twoParts 106 = .ok (.iload 8, 2) := by decide +kernel
theorem dX3_twoParts_108 : decode cX3_twoParts 108 = .ok (.invokevirtual 137, 3) := by decide +kernel
theorem dX3_twoParts_111 : decode cX3_twoParts 111 = .ok (.aload_n 0, 1) := by decide +kernel
theorem dX3_twoParts_112 : decode cX3_twoParts 112 = .ok (.iload 5, 2) := by decide +kernel
theorem dX3_twoParts_114 : decode cX3_twoParts 114 = .ok (.ifCond .eq 9, 3) := by decide +kernel
theorem dX3_twoParts_117 : decode cX3_twoParts 117 = .ok (.sipush 25940, 3) := by decide +kernel
theorem dX3_twoParts_120 : decode cX3_twoParts 120 = .ok (.goto 17, 3) := by decide +kernel
theorem dX3_twoParts_123 : decode cX3_twoParts 123 = .ok (.iload 4, 2) := by decide +kernel
theorem dX3_twoParts_125 : decode cX3_twoParts 125 = .ok (.ifCond .ne 9, 3) := by decide +kernel
theorem dX3_twoParts_128 : decode cX3_twoParts 128 = .ok (.sipush 13090, 3) := by decide +kernel
theorem dX3_twoParts_131 : decode cX3_twoParts 131 = .ok (.goto 6, 3) := by decide +kernel
theorem dX3_twoParts_134 : decode cX3_twoParts 134 = .ok (.sipush 12833, 3) := by decide +kernel
theorem dX3_twoParts_137 : decode cX3_twoParts 137 = .ok (.iload_n 2, 1) := by decide +kernel
theorem dX3_twoParts_138 : decode cX3_twoParts 138 = .ok (.iload_n 3, 1) := by decide +kernel
theorem dX3_twoParts_139 : decode cX3_twoParts 139 = .ok (.invokestatic 140, 3) := by decide +kernel
theorem dX3_twoParts_142 : decode cX3_twoParts 142 = .ok (.invokestatic 143, 3) := by decide +kernel
theorem dX3_twoParts_145 : decode cX3_twoParts 145 = .ok (.invokevirtual 146, 3) := by decide +kernel
theorem dX3_twoParts_148 : decode cX3_twoParts 148 = .ok (.return_, 1) := by decide +kernel
set_option maxRecDepth 20000 in
theorem ggX3_push_X3_setRegister : GoodIn wsX3_push wsX3_setRegister := goodIn_r _ [7, 1, 8, 9, 43, 44, 45, 46, 47, 48, 49, 50, 51] (by decide +kernel) (by decide +kernel)
set_option maxRecDepth 20000 in
theorem gX3_push_X3_setRegister : GoodIn wsX3_push (wsV RX3 39 RX3 yX3_setRegister wsX3_setRegister) := goodIn_app (goodIn_of _ (by decide +kernel)) ggX3_push_X3_setRegister
set_option maxRecDepth 20000 in
theorem ggX3_push_X3_write : GoodIn wsX3_push wsX3_write := goodIn_r _ [13, 2, 14, 3, 4, 5, 6, 7, 1, 8, 9, 15, 16, 17, 18, 19, 20, 21, 22, 23, 24, 25, 26, 27, 28, 29, 30, 31, 32, 33, 34, 35, 36, 37, 38, 39, 40, 41, 42, 43, 44, 45, 46, 47, 48, 49, 50, 51] (by decide +kernel) (by decide +kernel)
set_option maxRecDepth 20000 in
theorem gX3_push_X3_write : GoodIn wsX3_push (wsV RX3 137 RX3 yX3_write wsX3_write) := goodIn_app (goodIn_of _ (by decide +kernel)) ggX3_push_X3_write
theorem dX3_push_0 : decode cX3_push 0 = .ok (.aload_n 0, 1) := by decide +kernel
theorem dX3_push_1 : decode cX3_push 1 = .ok (.iconst 1, 1) := by decide +kernel
theorem dX3_push_2 : decode cX3_push 2 = .ok (.aload_n 0, 1) := by decide +kernel
theorem dX3_push_3 : decode cX3_push 3 = .ok (.getfield 14, 3) := by decide +kernel
theorem dX3_push_6 : decode cX3_push 6 = .ok (.iconst 1, 1) := by decide +kernel
theorem dX3_push_7 : decode cX3_push 7 = .ok (.iaload, 1) := by decide +kernel
theorem dX3_push_8 : decode cX3_push 8 = .ok (.iconst 2, 1) := by decide +kernel
theorem dX3_push_9 : decode cX3_push 9 = .ok (.isub, 1) := by decide +kernel
theorem dX3_push_10 : decode cX3_push 10 = .ok (.invokevirtual 39, 3) := by decide +kernel
theorem dX3_push_13 : decode cX3_push 13 = .ok (.aload_n 0, 1) := by decide +kernel
theorem dX3_push_14 : decode cX3_push 14 = .ok (.ldc 73, 2) := by decide +kernel
theorem dX3_push_16 : decode cX3_push 16 = .ok (.aload_n 0, 1) := by decide +kernel
theorem dX3_push_17 : decode cX3_push 17 = .ok (.getfield 14, 3) := by decide +kernel
theorem dX3_push_20 : decode cX3_push 20 = .ok (.iconst 1, 1) := by decide +kernel
theorem dX3_push_21 : decode cX3_push 21 = .ok (.iaload, 1) := by decide +kernel
theorem dX3_push_22 : decode cX3_push 22 = .ok (.iadd, 1) := by decide +kernel
theorem dX3_push_23 : decode cX3_push 23 = .ok (.iload_n 1, 1) := by decide +kernel
theorem dX3_push_24 : decode cX3_push 24 = .ok (.invokevirtual 137, 3) := by decide +kernel
theorem dX3_push_27 : decode cX3_push 27 = .ok (.return_, 1) := by decide +kernel
set_option maxRecDepth 20000 in
theorem ggX3_popped_X3_wordAt : GoodIn wsX3_popped wsX3_wordAt := goodIn_r _ [6, 7, 8, 9, 10, 11, 5, 12, 13, 14, 15, 21, 22, 23, 24, 25, 26, 27, 28, 29] (by decide +kernel) (by decide +kernel)
set_option maxRecDepth 20000 in
theorem gX3_popped_X3_wordAt : GoodIn wsX3_popped (wsV RX3 35 RX3 yX3_wordAt wsX3_wordAt) := goodIn_app (goodIn_of _ (by decide +kernel)) ggX3_popped_X3_wordAt
set_option maxRecDepth 20000 in
theorem ggX3_popped_X3_setRegister : GoodIn wsX3_popped wsX3_setRegister := goodIn_r _ [19, 1, 20, 9, 21, 22, 23, 24, 25, 26, 27, 28, 29] (by decide +kernel) (by decide +kernel)
set_option maxRecDepth 20000 in
theorem gX3_popped_X3_setRegister : GoodIn wsX3_popped (wsV RX3 39 RX3 yX3_setRegister wsX3_setRegister) := goodIn_app (goodIn_of _ (by decide +kernel)) ggX3_popped_X3_setRegister
theorem dX3_popped_0 : decode cX3_popped 0 = .ok (.aload_n 0, 1) := by decide +kernel
theorem dX3_popped_1 : decode cX3_popped 1 = .ok (.aload_n 0, 1) := by decide +kernel
theorem dX3_popped_2 : decode cX3_popped 2 = .ok (.getfield 14, 3) := by decide +kernel
theorem dX3_popped_5 : decode cX3_popped 5 = .ok (.iconst 1, 1) := by decide +kernel
theorem dX3_popped_6 : decode cX3_popped 6 = .ok (.iaload, 1) := by decide +kernel
theorem dX3_popped_7 : decode cX3_popped 7 = .ok (.invokevirtual 35, 3) := by decide +kernel
theorem dX3_popped_10 : decode cX3_popped 10 = .ok (.istore_n 1, 1) := by decide +kernel
theorem dX3_popped_11 : decode cX3_popped 11 = .ok (.aload_n 0, 1) := by decide +kernel
theorem dX3_popped_12 : decode cX3_popped 12 = .ok (.iconst 1, 1) := by decide +kernel
theorem dX3_popped_13 : decode cX3_popped 13 = .ok (.aload_n 0, 1) := by decide +kernel
theorem dX3_popped_14 : decode cX3_popped 14 = .ok (.getfield 14, 3) := by decide +kernel
theorem dX3_popped_17 : decode cX3_popped 17 = .ok (.iconst 1, 1) := by decide +kernel
theorem dX3_popped_18 : decode cX3_popped 18 = .ok (.iaload, 1) := by decide +kernel
theorem dX3_popped_19 : decode cX3_popped 19 = .ok (.iconst 2, 1) := by decide +kernel
theorem dX3_popped_20 : decode cX3_popped 20 = .ok (.iadd, 1) := by decide +kernel
theorem dX3_popped_21 : decode cX3_popped 21 = .ok (.invokevirtual 39, 3) := by decide +kernel
theorem dX3_popped_24 : decode cX3_popped 24 = .ok (.iload_n 1, 1) := by decide +kernel
theorem dX3_popped_25 : decode cX3_popped 25 = .ok (.ireturn, 1) := by decide +kernel
set_option maxRecDepth 20000 in
theorem ggX3_shifted_X3_write : GoodIn wsX3_shifted wsX3_write := goodIn_r _ [8, 9, 10, 11, 12, 13, 7, 14, 15, 16, 3, 17, 18, 19, 20, 21, 22, 23, 24, 25, 26, 27, 28, 29, 30, 31, 32, 33, 34, 35, 36, 37, 38, 39, 40, 41, 42, 43, 44, 62, 63, 64, 65, 66, 67, 68, 69, 70] (by decide +kernel) (by decide +kernel)
set_option maxRecDepth 20000 in
theorem gX3_shifted_X3_write : GoodIn wsX3_shifted (wsV RX3 137 RX3 yX3_write wsX3_write) := goodIn_app (goodIn_of _ (by decide +kernel)) ggX3_shifted_X3_write
set_option maxRecDepth 20000 in
theorem ggX3_shifted_X3_flag : GoodIn wsX3_shifted wsX3_flag := goodIn_r _ [48, 15, 62, 63, 64, 65, 66, 67, 68, 69, 70] (by decide +kernel) (by decide +kernel)
set_option maxRecDepth 20000 in
theorem gX3_shifted_X3_flag : GoodIn wsX3_shifted (wsV RX3 121 RX3 yX3_flag wsX3_flag) := goodIn_app (goodIn_of _ (by decide +kernel)) ggX3_shifted_X3_flag
set_option maxRecDepth 20000 in
theorem ggX3_shifted_X3_high : GoodIn wsX3_shifted wsX3_high := goodIn_r _ [52, 10, 53, 62, 63, 64, 65, 66, 67, 68, 69, 70] (by decide +kernel) (by decide +kernel)
set_option maxRecDepth 20000 in
theorem gX3_shifted_X3_high : GoodIn wsX3_shifted (wsV RX3 111 RX3 yX3_high wsX3_high) := goodIn_app (goodIn_of _ (by decide +kernel)) ggX3_shifted_X3_high
set_option maxRecDepth 20000 in
theorem ggX3_shifted_X3_flags : GoodIn wsX3_shifted wsX3_flags := goodIn_r _ [57, 58, 59, 60, 7, 61, 15, 49, 50, 51, 52, 10, 53, 62, 63, 64, 65, 66, 67, 68, 69, 70] (by decide +kernel) (by decide +kernel)
set_option maxRecDepth 20000 in
theorem gX3_shifted_X3_flags : GoodIn wsX3_shifted (wsV RX3 117 RX3 yX3_flags wsX3_flags) := goodIn_app (goodIn_of _ (by decide +kernel)) ggX3_shifted_X3_flags
theorem dX3_shifted_0 : decode cX3_shifted 0 = .ok (.aload_n 0, 1) := by decide +kernel
theorem dX3_shifted_1 : decode cX3_shifted 1 = .ok (.getfield 80, 3) := by decide +kernel
theorem dX3_shifted_4 : decode cX3_shifted 4 = .ok (.istore_n 2, 1) := by decide +kernel
theorem dX3_shifted_5 : decode cX3_shifted 5 = .ok (.aload_n 0, 1) := by decide +kernel
theorem dX3_shifted_6 : decode cX3_shifted 6 = .ok (.getfield 83, 3) := by decide +kernel
theorem dX3_shifted_9 : decode cX3_shifted 9 = .ok (.istore_n 3, 1) := by decide +kernel
theorem dX3_shifted_10 : decode cX3_shifted 10 = .ok (.iload_n 1, 1) := by decide +kernel
theorem dX3_shifted_11 : decode cX3_shifted 11 = .ok (.iconst 1, 1) := by decide +kernel
theorem dX3_shifted_12 : decode cX3_shifted 12 = .ok (.if_icmp .ne 21, 3) := by decide +kernel
theorem dX3_shifted_15 : decode cX3_shifted 15 = .ok (.aload_n 0, 1) := by decide +kernel
theorem dX3_shifted_16 : decode cX3_shifted 16 = .ok (.iload_n 3, 1) := by decide +kernel
theorem dX3_shifted_17 : decode cX3_shifted 17 = .ok (.iload_n 2, 1) := by decide +kernel
theorem dX3_shifted_18 : decode cX3_shifted 18 = .ok (.bipush 8, 2) := by decide +kernel
theorem dX3_shifted_20 : decode cX3_shifted 20 = .ok (.ishl, 1) := by decide +kernel
theorem dX3_shifted_21 : decode cX3_shifted 21 = .ok (.iload_n 2, 1) := by decide +kernel
theorem dX3_shifted_22 : decode cX3_shifted 22 = .ok (.bipush 8, 2) := by decide +kernel
theorem dX3_shifted_24 : decode cX3_shifted 24 = .ok (.ishr, 1) := by decide +kernel
theorem dX3_shifted_25 : decode cX3_shifted 25 = .ok (.ior, 1) := by decide +kernel
theorem dX3_shifted_26 : decode cX3_shifted 26 = .ok (.ldc 50, 2) := by decide +kernel
theorem dX3_shifted_28 : decode cX3_shifted 28 = .ok (.iand, 1) := by decide +kernel
theorem dX3_shifted_29 : decode cX3_shifted 29 = .ok (.invokevirtual 137, 3) := by decide +kernel
theorem dX3_shifted_32 : decode cX3_shifted 32 = .ok (.return_, 1) := by decide +kernel
theorem dX3_shifted_33 : decode cX3_shifted 33 = .ok (.iload_n 2, 1) := by decide +kernel
theorem dX3_shifted_34 : decode cX3_shifted 34 = .ok (.iconst 1, 1) := by decide +kernel
theorem dX3_shifted_35 : decode cX3_shifted 35 = .ok (.ishr, 1) := by decide +kernel
theorem dX3_shifted_36 : decode cX3_shifted 36 = .ok (.iload_n 1, 1) := by decide +kernel
theorem dX3_shifted_37 : decode cX3_shifted 37 = .ok (.ifCond .ne 16, 3) := by decide +kernel
theorem dX3_shifted_40 : decode cX3_shifted 40 = .ok (.aload_n 0, 1) := by decide +kernel
theorem dX3_shifted_41 : decode cX3_shifted 41 = .ok (.iconst 1, 1) := by decide +kernel
theorem dX3_shifted_42 : decode cX3_shifted 42 = .ok (.invokevirtual 121, 3) := by decide +kernel
theorem dX3_shifted_45 : decode cX3_shifted 45 = .ok (.aload_n 0, 1) := by decide +kernel
theorem dX3_shifted_46 : decode cX3_shifted 46 = .ok (.invokevirtual 111, 3) := by decide +kernel
theorem dX3_shifted_49 : decode cX3_shifted 49 = .ok (.imul, 1) := by decide +kernel
theorem dX3_shifted_50 : decode cX3_shifted 50 = .ok (.goto 9, 3) := by decide +kernel
theorem dX3_shifted_53 : decode cX3_shifted 53 = .ok (.iload_n 2, 1) := by decide +kernel
theorem dX3_shifted_54 : decode cX3_shifted 54 = .ok (.aload_n 0, 1) := by decide +kernel
theorem dX3_shifted_55 : decode cX3_shifted 55 = .ok (.invokevirtual 111, 3) := by decide +kernel
theorem dX3_shifted_58 : decode cX3_shifted 58 = .ok (.iand, 1) := by decide +kernel
theorem dX3_shifted_59 : decode cX3_shifted 59 = .ok (.ior, 1) := by decide +kernel
theorem dX3_shifted_60 : decode cX3_shifted 60 = .ok (.istore 4, 2) := by decide +kernel
theorem dX3_shifted_62 : decode cX3_shifted 62 = .ok (.iload_n 1, 1) := by decide +kernel
theorem dX3_shifted_63 : decode cX3_shifted 63 = .ok (.iconst 3, 1) := by decide +kernel
theorem dX3_shifted_64 : decode cX3_shifted 64 = .ok (.if_icmp .ne 10, 3) := by decide +kernel
theorem dX3_shifted_67 : decode cX3_shifted 67 = .ok (.iload_n 2, 1) := by decide +kernel
theorem dX3_shifted_68 : decode cX3_shifted 68 = .ok (.i2b, 1) := by decide +kernel
theorem dX3_shifted_69 : decode cX3_shifted 69 = .ok (.ldc 50, 2) := by decide +kernel
theorem dX3_shifted_71 : decode cX3_shifted 71 = .ok (.iand, 1) := by decide +kernel
theorem dX3_shifted_72 : decode cX3_shifted 72 = .ok (.istore 4, 2) := by decide +kernel
theorem dX3_shifted_74 : decode cX3_shifted 74 = .ok (.aload_n 0, 1) := by decide +kernel
theorem dX3_shifted_75 : decode cX3_shifted 75 = .ok (.iload 4, 2) := by decide +kernel
theorem dX3_shifted_77 : decode cX3_shifted 77 = .ok (.iload_n 1, 1) := by decide +kernel
theorem dX3_shifted_78 : decode cX3_shifted 78 = .ok (.iconst 3, 1) := by decide +kernel
theorem dX3_shifted_79 : decode cX3_shifted 79 = .ok (.if_icmp .ne 16, 3) := by decide +kernel
theorem dX3_shifted_82 : decode cX3_shifted 82 = .ok (.iload 4, 2) := by decide +kernel
theorem dX3_shifted_84 : decode cX3_shifted 84 = .ok (.ifCond .eq 7, 3) := by decide +kernel
theorem dX3_shifted_87 : decode cX3_shifted 87 = .ok (.iconst 1, 1) := by decide +kernel
theorem dX3_shifted_88 : decode cX3_shifted 88 = .ok (.goto 18, 3) := by decide +kernel
theorem dX3_shifted_91 : decode cX3_shifted 91 = .ok (.iconst 0, 1) := by decide +kernel
theorem dX3_shifted_92 : decode cX3_shifted 92 = .ok (.goto 14, 3) := by decide +kernel
theorem dX3_shifted_95 : decode cX3_shifted 95 = .ok (.iload_n 2, 1) := by decide +kernel
theorem dX3_shifted_96 : decode cX3_shifted 96 = .ok (.iconst 1, 1) := by decide +kernel
theorem dX3_shifted_97 : decode cX3_shifted 97 = .ok (.iand, 1) := by decide +kernel
theorem dX3_shifted_98 : decode cX3_shifted 98 = .ok (.ifCond .eq 7, 3) := by decide +kernel
theorem dX3_shifted_101 : decode cX3_shifted 101 = .ok (.iconst 1, 1) := by decide +kernel
theorem dX3_shifted_102 : decode cX3_shifted 102 = .ok (.goto 4, 3) := by decide +kernel
theorem dX3_shifted_105 : decode cX3_shifted 105 = .ok (.iconst 0, 1) := by decide +kernel
theorem dX3_shifted_106 : decode cX3_shifted 106 = .ok (.iconst 0, 1) := by decide +kernel
theorem dX3_shifted_107 : decode cX3_shifted 107 = .ok (.invokevirtual 117, 3) := by decide +kernel
theorem dX3_shifted_110 : decode cX3_shifted 110 = .ok (.aload_n 0, 1) := by decide +kernel
theorem dX3_shifted_111 : decode cX3_shifted 111 = .ok (.iload_n 3, 1) := by decide +kernel
theorem dX3_shifted_112 : decode cX3_shifted 112 = .ok (.iload 4, 2) := by decide +kernel
theorem dX3_shifted_114 : decode cX3_shifted 114 = .ok (.invokevirtual 137, 3) := by decide +kernel
theorem dX3_shifted_117 : decode cX3_shifted 117 = .ok (.return_, 1) := by decide +kernel
set_option maxRecDepth 20000 in
theorem ggX3_onePart_X3_popped : GoodIn wsX3_onePart wsX3_popped := goodIn_r _ [7, 2, 8, 9, 10, 6, 11, 12, 13, 14, 15, 16, 17, 18, 19, 20, 21, 22, 23, 24, 25, 125, 126, 127, 128, 129, 130, 131, 132, 133] (by decide +kernel) (by decide +kernel)
set_option maxRecDepth 20000 in
theorem gX3_onePart_X3_popped : GoodIn wsX3_onePart (wsV RX3 149 RX3 yX3_popped wsX3_popped) := goodIn_app (goodIn_of _ (by decide +kernel)) ggX3_onePart_X3_popped
set_option maxRecDepth 20000 in
theorem ggX3_onePart_X3_setRegister : GoodIn wsX3_onePart wsX3_setRegister := goodIn_r _ [24, 2, 25, 14, 125, 126, 127, 128, 129, 130, 131, 132, 133] (by decide +kernel) (by decide +kernel)
set_option maxRecDepth 20000 in
theorem gX3_onePart_X3_setRegister : GoodIn wsX3_onePart (wsV RX3 39 RX3 yX3_setRegister wsX3_setRegister) := goodIn_app (goodIn_of _ (by decide +kernel)) ggX3_onePart_X3_setRegister
set_option maxRecDepth 20000 in
theorem ggX3_onePart_X3_spend : GoodIn wsX3_onePart wsX3_spend := goodIn_r _ [29, 30, 31, 125, 126, 127, 128, 129, 130, 131, 132, 133] (by decide +kernel) (by decide +kernel)
set_option maxRecDepth 20000 in
theorem gX3_onePart_X3_spend : GoodIn wsX3_onePart (wsV RX3 146 RX3 yX3_spend wsX3_spend) := goodIn_app (goodIn_of _ (by decide +kernel)) ggX3_onePart_X3_spend
set_option maxRecDepth 20000 in
theorem ggX3_onePart_X3_source : GoodIn wsX3_onePart wsX3_source := goodIn_r _ [35, 14, 2, 36, 37, 38, 39, 6, 40, 1, 41, 42, 43, 44, 45, 46, 47, 48, 49, 8, 9, 10, 11, 12, 13, 15, 16, 17, 18, 19, 20, 21, 22, 23, 24, 25, 50, 51, 52, 53, 54, 55, 56, 57, 58, 59, 60, 61, 62, 63, 64, 65, 66, 125, 126, 127, 128, 129, 130, 131, 132, 133] (by decide +kernel) (by decide +kernel)
set_option maxRecDepth 20000 in
theorem gX3_onePart_X3_source : GoodIn wsX3_onePart (wsV RX3 131 RX3 yX3_source wsX3_source) := goodIn_app (goodIn_of _ (by decide +kernel)) ggX3_onePart_X3_source
set_option maxRecDepth 20000 in
theorem ggX3_onePart_X3_sort : GoodIn wsX3_onePart wsX3_sort := goodIn_r _ [69] (by decide +kernel) (by decide +kernel)
set_option maxRecDepth 20000 in
theorem gX3_onePart_X3_sort : GoodIn wsX3_onePart (va_wsS RX3 140 yX3_sort wsX3_sort) := goodIn_app (goodIn_of _ (by decide +kernel)) ggX3_onePart_X3_sort
set_option maxRecDepth 20000 in
theorem ggX3_onePart_X3_shifted : GoodIn wsX3_onePart wsX3_shifted := goodIn_r _ [73, 1, 41, 14, 74, 75, 76, 6, 77, 54, 36, 21, 22, 23, 24, 2, 25, 78, 79, 80, 81, 13, 15, 16, 17, 82, 83, 84, 85, 86, 87, 88, 89, 12, 90, 91, 92, 93, 94, 95, 96, 97, 98, 99, 100, 101, 102, 103, 104, 105, 106, 107, 108, 109, 110, 111, 112, 113, 114, 115, 116, 117, 125, 126, 127, 128, 129, 130, 131, 132, 133] (by decide +kernel) (by decide +kernel)
set_option maxRecDepth 20000 in
theorem gX3_onePart_X3_shifted : GoodIn wsX3_onePart (wsV RX3 152 RX3 yX3_shifted wsX3_shifted) := goodIn_app (goodIn_of _ (by decide +kernel)) ggX3_onePart_X3_shifted
set_option maxRecDepth 20000 in
theorem ggX3_onePart_X3_pick : GoodIn wsX3_onePart wsX3_pick := goodIn_r _ [120] (by decide +kernel) (by decide +kernel)
set_option maxRecDepth 20000 in
theorem gX3_onePart_X3_pick : GoodIn wsX3_onePart (va_wsS RX3 143 yX3_pick wsX3_pick) := goodIn_app (goodIn_of _ (by decide +kernel)) ggX3_onePart_X3_pick
set_option maxRecDepth 20000 in
theorem ggX3_onePart_X3_push : GoodIn wsX3_onePart wsX3_push := goodIn_r _ [124, 2, 54, 21, 22, 23, 6, 24, 25, 14, 74, 75, 76, 77, 36, 78, 79, 80, 81, 13, 15, 16, 17, 82, 83, 84, 85, 86, 87, 88, 89, 12, 90, 91, 92, 93, 94, 95, 96, 97, 98, 99, 100, 125, 126, 127, 128, 129, 130, 131, 132, 133] (by decide +kernel) (by decide +kernel)
set_option maxRecDepth 20000 in
theorem gX3_onePart_X3_push : GoodIn wsX3_onePart (wsV RX3 155 RX3 yX3_push wsX3_push) := goodIn_app (goodIn_of _ (by decide +kernel)) ggX3_onePart_X3_push
theorem dX3_onePart_0 : decode cX3_onePart 0 = .ok (.iload_n 1, 1) := by decide +kernel
theorem dX3_onePart_1 : decode cX3_onePart 1 = .ok (.bipush 7, 2) := by decide +kernel
theorem dX3_onePart_3 : decode cX3_onePart 3 = .ok (.ishr, 1) := by decide +kernel
theorem dX3_onePart_4 : decode cX3_onePart 4 = .ok (.bipush 7, 2) := by decide +kernel
theorem dX3_onePart_6 : decode cX3_onePart 6 = .ok (.iand, 1) := by decide +kernel
theorem dX3_onePart_7 : decode cX3_onePart 7 = .ok (.istore_n 2, 1) := by decide +kernel
theorem dX3_onePart_8 : decode cX3_onePart 8 = .ok (.iload_n 1, 1) := by decide +kernel
theorem dX3_onePart_9 : decode cX3_onePart 9 = .ok (.iconst 4, 1) := by decide +kernel
theorem dX3_onePart_10 : decode cX3_onePart 10 = .ok (.ishr, 1) := by decide +kernel
theorem dX3_onePart_11 : decode cX3_onePart 11 = .ok (.iconst 3, 1) := by decide +kernel
theorem dX3_onePart_12 : decode cX3_onePart 12 = .ok (.iand, 1) := by decide +kernel
theorem dX3_onePart_13 : decode cX3_onePart 13 = .ok (.istore_n 3, 1) := by decide +kernel
theorem dX3_onePart_14 : decode cX3_onePart 14 = .ok (.iload_n 1, 1) := by decide +kernel
theorem dX3_onePart_15 : decode cX3_onePart 15 = .ok (.bipush 15, 2) := by decide +kernel
theorem dX3_onePart_17 : decode cX3_onePart 17 = .ok (.iand, 1) := by decide +kernel
theorem dX3_onePart_18 : decode cX3_onePart 18 = .ok (.istore 4, 2) := by decide +kernel
theorem dX3_onePart_20 : decode cX3_onePart 20 = .ok (.iload_n 2, 1) := by decide +kernel
theorem dX3_onePart_21 : decode cX3_onePart 21 = .ok (.bipush 6, 2) := by decide +kernel
theorem dX3_onePart_23 : decode cX3_onePart 23 = .ok (.if_icmp .ne 27, 3) := by decide +kernel
theorem dX3_onePart_26 : decode cX3_onePart 26 = .ok (.aload_n 0, 1) := by decide +kernel
theorem dX3_onePart_27 : decode cX3_onePart 27 = .ok (.iconst 2, 1) := by decide +kernel
theorem dX3_onePart_28 : decode cX3_onePart 28 = .ok (.aload_n 0, 1) := by decide +kernel
theorem dX3_onePart_29 : decode cX3_onePart 29 = .ok (.invokevirtual 149, 3) := by decide +kernel
theorem dX3_onePart_32 : decode cX3_onePart 32 = .ok (.invokevirtual 39, 3) := by decide +kernel
theorem dX3_onePart_35 : decode cX3_onePart 35 = .ok (.aload_n 0, 1) := by decide +kernel
theorem dX3_onePart_36 : decode cX3_onePart 36 = .ok (.iconst 0, 1) := by decide +kernel
theorem dX3_onePart_37 : decode cX3_onePart 37 = .ok (.aload_n 0, 1) := by decide +kernel
theorem dX3_onePart_38 : decode cX3_onePart 38 = .ok (.invokevirtual 149, 3) := by decide +kernel
theorem dX3_onePart_41 : decode cX3_onePart 41 = .ok (.invokevirtual 39, 3) := by decide +kernel
theorem dX3_onePart_44 : decode cX3_onePart 44 = .ok (.aload_n 0, 1) := by decide +kernel
theorem dX3_onePart_45 : decode cX3_onePart 45 = .ok (.iconst 5, 1) := by decide +kernel
theorem dX3_onePart_46 : decode cX3_onePart 46 = .ok (.invokevirtual 146, 3) := by decide +kernel
theorem dX3_onePart_49 : decode cX3_onePart 49 = .ok (.return_, 1) := by decide +kernel
theorem dX3_onePart_50 : decode cX3_onePart 50 = .ok (.aload_n 0, 1) := by decide +kernel
theorem dX3_onePart_51 : decode cX3_onePart 51 = .ok (.iload_n 3, 1) := by decide +kernel
theorem dX3_onePart_52 : decode cX3_onePart 52 = .ok (.iload 4, 2) := by decide +kernel
theorem dX3_onePart_54 : decode cX3_onePart 54 = .ok (.invokevirtual 131, 3) := by decide +kernel
theorem dX3_onePart_57 : decode cX3_onePart 57 = .ok (.iload_n 3, 1) := by decide +kernel
theorem dX3_onePart_58 : decode cX3_onePart 58 = .ok (.iload 4, 2) := by decide +kernel
theorem dX3_onePart_60 : decode cX3_onePart 60 = .ok (.invokestatic 140, 3) := by decide +kernel
theorem dX3_onePart_63 : decode cX3_onePart 63 = .ok (.istore 5, 2) := by decide +kernel
theorem dX3_onePart_65 : decode cX3_onePart 65 = .ok (.iload_n 2, 1) := by decide +kernel
theorem dX3_onePart_66 : decode cX3_onePart 66 = .ok (.iconst 4, 1) := by decide +kernel
theorem dX3_onePart_67 : decode cX3_onePart 67 = .ok (.if_icmp .ge 23, 3) := by decide +kernel
theorem dX3_onePart_70 : decode cX3_onePart 70 = .ok (.aload_n 0, 1) := by decide +kernel
theorem dX3_onePart_71 : decode cX3_onePart 71 = .ok (.iload_n 2, 1) := by decide +kernel
theorem dX3_onePart_72 : decode cX3_onePart 72 = .ok (.invokevirtual 152, 3) := by decide +kernel
theorem dX3_onePart_75 : decode cX3_onePart 75 = .ok (.aload_n 0, 1) := by decide +kernel
theorem dX3_onePart_76 : decode cX3_onePart 76 = .ok (.sipush 17201, 3) := by decide +kernel
theorem dX3_onePart_79 : decode cX3_onePart 79 = .ok (.iload 5, 2) := by decide +kernel
theorem dX3_onePart_81 : decode cX3_onePart 81 = .ok (.invokestatic 143, 3) := by decide +kernel
theorem dX3_onePart_84 : decode cX3_onePart 84 = .ok (.invokevirtual 146, 3) := by decide +kernel
theorem dX3_onePart_87 : decode cX3_onePart 87 = .ok (.goto 80, 3) := by decide +kernel
theorem dX3_onePart_90 : decode cX3_onePart 90 = .ok (.iload_n 2, 1) := by decide +kernel
theorem dX3_onePart_91 : decode cX3_onePart 91 = .ok (.iconst 4, 1) := by decide +kernel
theorem dX3_onePart_92 : decode cX3_onePart 92 = .ok (.if_icmp .ne 40, 3) := by decide +kernel
theorem dX3_onePart_95 : decode cX3_onePart 95 = .ok (.aload_n 0, 1) := by decide +kernel
theorem dX3_onePart_96 : decode cX3_onePart 96 = .ok (.aload_n 0, 1) := by decide +kernel
theorem dX3_onePart_97 : decode cX3_onePart 97 = .ok (.getfield 80, 3) := by decide +kernel
theorem dX3_onePart_100 : decode cX3_onePart 100 = .ok (.invokevirtual 155, 3) := by decide +kernel
theorem dX3_onePart_103 : decode cX3_onePart 103 = .ok (.aload_n 0, 1) := by decide +kernel
theorem dX3_onePart_104 : decode cX3_onePart 104 = .ok (.iload_n 3, 1) := by decide +kernel
theorem dX3_onePart_105 : decode cX3_onePart 105 = .ok (.iconst 3, 1) := by decide +kernel
theorem dX3_onePart_106 : decode cX3_onePart 106 = .ok (.if_icmp .ne 12, 3) := by decide +kernel
theorem dX3_onePart_109 : decode cX3_onePart 109 = .ok (.iload 4, 2) := by decide +kernel
theorem dX3_onePart_111 : decode cX3_onePart 111 = .ok (.ifCond .ne 7, 3) := by decide +kernel
theorem dX3_onePart_114 : decode cX3_onePart 114 = .ok (.iconst 4, 1) := by decide +kernel
theorem dX3_onePart_115 : decode cX3_onePart 115 = .ok (.goto 11, 3) := by decide +kernel
theorem dX3_onePart_118 : decode cX3_onePart 118 = .ok (.sipush 21827, 3) := by decide +kernel
theorem dX3_onePart_121 : decode cX3_onePart 121 = .ok (.iload 5, 2) := by decide +kernel
theorem dX3_onePart_123 : decode cX3_onePart 123 = .ok (.invokestatic 143, 3) := by decide +kernel
theorem dX3_onePart_126 : decode cX3_onePart 126 = .ok (.invokevirtual 146, 3) := by decide +kernel
theorem dX3_onePart_129 : decode cX3_onePart 129 = .ok (.goto 38, 3) := by decide +kernel
theorem dX3_onePart_132 : decode cX3_onePart 132 = .ok (.aload_n 0, 1) := by decide +kernel
theorem dX3_onePart_133 : decode cX3_onePart 133 = .ok (.getfield 80, 3) := by decide +kernel
theorem dX3_onePart_136 : decode cX3_onePart 136 = .ok (.istore 6, 2) := by decide +kernel
theorem dX3_onePart_138 : decode cX3_onePart 138 = .ok (.aload_n 0, 1) := by decide +kernel
theorem dX3_onePart_139 : decode cX3_onePart 139 = .ok (.aload_n 0, 1) := by decide +kernel
theorem dX3_onePart_140 : decode cX3_onePart 140 = .ok (.getfield 14, 3) := by decide +kernel
theorem dX3_onePart_143 : decode cX3_onePart 143 = .ok (.iconst 0, 1) := by decide +kernel
theorem dX3_onePart_144 : decode cX3_onePart 144 = .ok (.iaload, 1) := by decide +kernel
theorem dX3_onePart_145 : decode cX3_onePart 145 = .ok (.invokevirtual 155, 3) := by decide +kernel
theorem dX3_onePart_148 : decode cX3_onePart 148 = .ok (.aload_n 0, 1) := by decide +kernel
theorem dX3_onePart_149 : decode cX3_onePart 149 = .ok (.iconst 0, 1) := by decide +kernel
theorem dX3_onePart_150 : decode cX3_onePart 150 = .ok (.iload 6, 2) := by decide +kernel
theorem dX3_onePart_152 : decode cX3_onePart 152 = .ok (.invokevirtual 39, 3) := by decide +kernel
theorem dX3_onePart_155 : decode cX3_onePart 155 = .ok (.aload_n 0, 1) := by decide +kernel
theorem dX3_onePart_156 : decode cX3_onePart 156 = .ok (.sipush 21828, 3) := by decide +kernel
theorem dX3_onePart_159 : decode cX3_onePart 159 = .ok (.iload 5, 2) := by decide +kernel
theorem dX3_onePart_161 : decode cX3_onePart 161 = .ok (.invokestatic 143, 3) := by decide +kernel
theorem dX3_onePart_164 : decode cX3_onePart 164 = .ok (.invokevirtual 146, 3) := by decide +kernel
theorem dX3_onePart_167 : decode cX3_onePart 167 = .ok (.return_, 1) := by decide +kernel
set_option maxRecDepth 20000 in
theorem ggX3_jumps_X3_flag : GoodIn wsX3_jumps wsX3_flag := goodIn_r _ [5, 6, 7, 8, 9, 10, 11, 12, 13, 14, 15] (by decide +kernel) (by decide +kernel)
set_option maxRecDepth 20000 in
theorem gX3_jumps_X3_flag : GoodIn wsX3_jumps (wsV RX3 121 RX3 yX3_flag wsX3_flag) := goodIn_app (goodIn_of _ (by decide +kernel)) ggX3_jumps_X3_flag
theorem dX3_jumps_0 : decode cX3_jumps 0 = .ok (.iload_n 1, 1) := by decide +kernel
theorem dX3_jumps_1 : decode cX3_jumps 1 = .ok (.tableswitch 158 0 6 #[43, 57, 72, 86, 101, 116, 137], 43) := by decide +kernel
theorem dX3_jumps_44 : decode cX3_jumps 44 = .ok (.aload_n 0, 1) := by decide +kernel
theorem dX3_jumps_45 : decode cX3_jumps 45 = .ok (.iconst 2, 1) := by decide +kernel
theorem dX3_jumps_46 : decode cX3_jumps 46 = .ok (.invokevirtual 121, 3) := by decide +kernel
theorem dX3_jumps_49 : decode cX3_jumps 49 = .ok (.ifCond .ne 7, 3) := by decide +kernel
theorem dX3_jumps_52 : decode cX3_jumps 52 = .ok (.iconst 1, 1) := by decide +kernel
theorem dX3_jumps_53 : decode cX3_jumps 53 = .ok (.goto 4, 3) := by decide +kernel
theorem dX3_jumps_56 : decode cX3_jumps 56 = .ok (.iconst 0, 1) := by decide +kernel
theorem dX3_jumps_57 : decode cX3_jumps 57 = .ok (.ireturn, 1) := by decide +kernel
theorem dX3_jumps_58 : decode cX3_jumps 58 = .ok (.aload_n 0, 1) := by decide +kernel
theorem dX3_jumps_59 : decode cX3_jumps 59 = .ok (.iconst 2, 1) := by decide +kernel
theorem dX3_jumps_60 : decode cX3_jumps 60 = .ok (.invokevirtual 121, 3) := by decide +kernel
theorem dX3_jumps_63 : decode cX3_jumps 63 = .ok (.iconst 1, 1) := by decide +kernel
theorem dX3_jumps_64 : decode cX3_jumps 64 = .ok (.if_icmp .ne 7, 3) := by decide +kernel
theorem dX3_jumps_67 : decode cX3_jumps 67 = .ok (.iconst 1, 1) := by decide +kernel
theorem dX3_jumps_68 : decode cX3_jumps 68 = .ok (.goto 4, 3) := by decide +kernel
theorem dX3_jumps_71 : decode cX3_jumps 71 = .ok (.iconst 0, 1) := by decide +kernel
theorem dX3_jumps_72 : decode cX3_jumps 72 = .ok (.ireturn, 1) := by decide +kernel
theorem dX3_jumps_73 : decode cX3_jumps 73 = .ok (.aload_n 0, 1) := by decide +kernel
theorem dX3_jumps_74 : decode cX3_jumps 74 = .ok (.iconst 1, 1) := by decide +kernel
theorem dX3_jumps_75 : decode cX3_jumps 75 = .ok (.invokevirtual 121, 3) := by decide +kernel
theorem dX3_jumps_78 : decode cX3_jumps 78 = .ok (.ifCond .ne 7, 3) := by decide +kernel
theorem dX3_jumps_81 : decode cX3_jumps 81 = .ok (.iconst 1, 1) := by decide +kernel
theorem dX3_jumps_82 : decode cX3_jumps 82 = .ok (.goto 4, 3) := by decide +kernel
theorem dX3_jumps_85 : decode cX3_jumps 85 = .ok (.iconst 0, 1) := by decide +kernel
theorem dX3_jumps_86 : decode cX3_jumps 86 = .ok (.ireturn, 1) := by decide +kernel
theorem dX3_jumps_87 : decode cX3_jumps 87 = .ok (.aload_n 0, 1) := by decide +kernel
theorem dX3_jumps_88 : decode cX3_jumps 88 = .ok (.iconst 1, 1) := by decide +kernel
theorem dX3_jumps_89 : decode cX3_jumps 89 = .ok (.invokevirtual 121, 3) := by decide +kernel
theorem dX3_jumps_92 : decode cX3_jumps 92 = .ok (.iconst 1, 1) := by decide +kernel
theorem dX3_jumps_93 : decode cX3_jumps 93 = .ok (.if_icmp .ne 7, 3) := by decide +kernel
theorem dX3_jumps_96 : decode cX3_jumps 96 = .ok (.iconst 1, 1) := by decide +kernel
theorem dX3_jumps_97 : decode cX3_jumps 97 = .ok (.goto 4, 3) := by decide +kernel
theorem dX3_jumps_100 : decode cX3_jumps 100 = .ok (.iconst 0, 1) := by decide +kernel
theorem dX3_jumps_101 : decode cX3_jumps 101 = .ok (.ireturn, 1) := by decide +kernel
theorem dX3_jumps_102 : decode cX3_jumps 102 = .ok (.aload_n 0, 1) := by decide +kernel
theorem dX3_jumps_103 : decode cX3_jumps 103 = .ok (.iconst 4, 1) := by decide +kernel
theorem dX3_jumps_104 : decode cX3_jumps 104 = .ok (.invokevirtual 121, 3) := by decide +kernel
theorem dX3_jumps_107 : decode cX3_jumps 107 = .ok (.iconst 1, 1) := by decide +kernel
theorem dX3_jumps_108 : decode cX3_jumps 108 = .ok (.if_icmp .ne 7, 3) := by decide +kernel
theorem dX3_jumps_111 : decode cX3_jumps 111 = .ok (.iconst 1, 1) := by decide +kernel
theorem dX3_jumps_112 : decode cX3_jumps 112 = .ok (.goto 4, 3) := by decide +kernel
theorem dX3_jumps_115 : decode cX3_jumps 115 = .ok (.iconst 0, 1) := by decide +kernel
theorem dX3_jumps_116 : decode cX3_jumps 116 = .ok (.ireturn, 1) := by decide +kernel
theorem dX3_jumps_117 : decode cX3_jumps 117 = .ok (.aload_n 0, 1) := by decide +kernel
theorem dX3_jumps_118 : decode cX3_jumps 118 = .ok (.iconst 4, 1) := by decide +kernel
theorem dX3_jumps_119 : decode cX3_jumps 119 = .ok (.invokevirtual 121, 3) := by decide +kernel
theorem dX3_jumps_122 : decode cX3_jumps 122 = .ok (.aload_n 0, 1) := by decide +kernel
theorem dX3_jumps_123 : decode cX3_jumps 123 = .ok (.sipush 256, 3) := by decide +kernel
theorem dX3_jumps_126 : decode cX3_jumps 126 = .ok (.invokevirtual 121, 3) := by decide +kernel
theorem dX3_jumps_129 : decode cX3_jumps 129 = .ok (.if_icmp .ne 7, 3) := by decide +kernel
theorem dX3_jumps_132 : decode cX3_jumps 132 = .ok (.iconst 1, 1) := by decide +kernel
theorem dX3_jumps_133 : decode cX3_jumps 133 = .ok (.goto 4, 3) := by decide +kernel
theorem dX3_jumps_136 : decode cX3_jumps 136 = .ok (.iconst 0, 1) := by decide +kernel
theorem dX3_jumps_137 : decode cX3_jumps 137 = .ok (.ireturn, 1) := by decide +kernel
theorem dX3_jumps_138 : decode cX3_jumps 138 = .ok (.aload_n 0, 1) := by decide +kernel
theorem dX3_jumps_139 : decode cX3_jumps 139 = .ok (.iconst 4, 1) := by decide +kernel
theorem dX3_jumps_140 : decode cX3_jumps 140 = .ok (.invokevirtual 121, 3) := by decide +kernel
theorem dX3_jumps_143 : decode cX3_jumps 143 = .ok (.aload_n 0, 1) := by decide +kernel
theorem dX3_jumps_144 : decode cX3_jumps 144 = .ok (.sipush 256, 3) := by decide +kernel
theorem dX3_jumps_147 : decode cX3_jumps 147 = .ok (.invokevirtual 121, 3) := by decide +kernel
theorem dX3_jumps_150 : decode cX3_jumps 150 = .ok (.if_icmp .eq 7, 3) := by decide +kernel
theorem dX3_jumps_153 : decode cX3_jumps 153 = .ok (.iconst 1, 1) := by decide +kernel
theorem dX3_jumps_154 : decode cX3_jumps 154 = .ok (.goto 4, 3) := by decide +kernel
theorem dX3_jumps_157 : decode cX3_jumps 157 = .ok (.iconst 0, 1) := by decide +kernel
theorem dX3_jumps_158 : decode cX3_jumps 158 = .ok (.ireturn, 1) := by decide +kernel
theorem dX3_jumps_159 : decode cX3_jumps 159 = .ok (.iconst 1, 1) := by decide +kernel
theorem dX3_jumps_160 : decode cX3_jumps 160 = .ok (.ireturn, 1) := by decide +kernel
set_option maxRecDepth 20000 in
theorem ggX3_jump_X3_jumps : GoodIn wsX3_jump wsX3_jumps := goodIn_r _ [6, 7, 8, 9, 5, 10, 1, 23, 24, 25, 26, 27, 28, 29, 30, 31] (by decide +kernel) (by decide +kernel)
set_option maxRecDepth 20000 in
theorem gX3_jump_X3_jumps : GoodIn wsX3_jump (wsV RX3 158 RX3 yX3_jumps wsX3_jumps) := goodIn_app (goodIn_of _ (by decide +kernel)) ggX3_jump_X3_jumps
set_option maxRecDepth 20000 in
theorem ggX3_jump_X3_setRegister : GoodIn wsX3_jump wsX3_setRegister := goodIn_r _ [14, 1, 15, 16, 23, 24, 25, 26, 27, 28, 29, 30, 31] (by decide +kernel) (by decide +kernel)
set_option maxRecDepth 20000 in
theorem gX3_jump_X3_setRegister : GoodIn wsX3_jump (wsV RX3 39 RX3 yX3_setRegister wsX3_setRegister) := goodIn_app (goodIn_of _ (by decide +kernel)) ggX3_jump_X3_setRegister
set_option maxRecDepth 20000 in
theorem ggX3_jump_X3_spend : GoodIn wsX3_jump wsX3_spend := goodIn_r _ [20, 21, 22, 23, 24, 25, 26, 27, 28, 29, 30, 31] (by decide +kernel) (by decide +kernel)
set_option maxRecDepth 20000 in
theorem gX3_jump_X3_spend : GoodIn wsX3_jump (wsV RX3 146 RX3 yX3_spend wsX3_spend) := goodIn_app (goodIn_of _ (by decide +kernel)) ggX3_jump_X3_spend
theorem dX3_jump_0 : decode cX3_jump 0 = .ok (.iload_n 1, 1) := by decide +kernel
theorem dX3_jump_1 : decode cX3_jump 1 = .ok (.sipush 1023, 3) := by decide +kernel
theorem dX3_jump_4 : decode cX3_jump 4 = .ok (.iand, 1) := by decide +kernel
theorem dX3_jump_5 : decode cX3_jump 5 = .ok (.iconst 2, 1) := by decide +kernel
theorem dX3_jump_6 : decode cX3_jump 6 = .ok (.iload_n 1, 1) := by decide +kernel
theorem dX3_jump_7 : decode cX3_jump 7 = .ok (.sipush 512, 3) := by decide +kernel
theorem dX3_jump_10 : decode cX3_jump 10 = .ok (.iand, 1) := by decide +kernel
theorem dX3_jump_11 : decode cX3_jump 11 = .ok (.imul, 1) := by decide +kernel
theorem dX3_jump_12 : decode cX3_jump 12 = .ok (.isub, 1) := by decide +kernel
theorem dX3_jump_13 : decode cX3_jump 13 = .ok (.istore_n 2, 1) := by decide +kernel
theorem dX3_jump_14 : decode cX3_jump 14 = .ok (.aload_n 0, 1) := by decide +kernel
theorem dX3_jump_15 : decode cX3_jump 15 = .ok (.iload_n 1, 1) := by decide +kernel
theorem dX3_jump_16 : decode cX3_jump 16 = .ok (.bipush 10, 2) := by decide +kernel
theorem dX3_jump_18 : decode cX3_jump 18 = .ok (.ishr, 1) := by decide +kernel
theorem dX3_jump_19 : decode cX3_jump 19 = .ok (.bipush 7, 2) := by decide +kernel
theorem dX3_jump_21 : decode cX3_jump 21 = .ok (.iand, 1) := by decide +kernel
theorem dX3_jump_22 : decode cX3_jump 22 = .ok (.invokevirtual 158, 3) := by decide +kernel
theorem dX3_jump_25 : decode cX3_jump 25 = .ok (.ifCond .eq 18, 3) := by decide +kernel
theorem dX3_jump_28 : decode cX3_jump 28 = .ok (.aload_n 0, 1) := by decide +kernel
theorem dX3_jump_29 : decode cX3_jump 29 = .ok (.iconst 0, 1) := by decide +kernel
theorem dX3_jump_30 : decode cX3_jump 30 = .ok (.aload_n 0, 1) := by decide +kernel
theorem dX3_jump_31 : decode cX3_jump 31 = .ok (.getfield 14, 3) := by decide +kernel
theorem dX3_jump_34 : decode cX3_jump 34 = .ok (.iconst 0, 1) := by decide +kernel
theorem dX3_jump_35 : decode cX3_jump 35 = .ok (.iaload, 1) := by decide +kernel
theorem dX3_jump_36 : decode cX3_jump 36 = .ok (.iconst 2, 1) := by decide +kernel
theorem dX3_jump_37 : decode cX3_jump 37 = .ok (.iload_n 2, 1) := by decide +kernel
theorem dX3_jump_38 : decode cX3_jump 38 = .ok (.imul, 1) := by decide +kernel
theorem dX3_jump_39 : decode cX3_jump 39 = .ok (.iadd, 1) := by decide +kernel
theorem dX3_jump_40 : decode cX3_jump 40 = .ok (.invokevirtual 39, 3) := by decide +kernel
theorem dX3_jump_43 : decode cX3_jump 43 = .ok (.aload_n 0, 1) := by decide +kernel
theorem dX3_jump_44 : decode cX3_jump 44 = .ok (.iconst 2, 1) := by decide +kernel
theorem dX3_jump_45 : decode cX3_jump 45 = .ok (.invokevirtual 146, 3) := by decide +kernel
theorem dX3_jump_48 : decode cX3_jump 48 = .ok (.return_, 1) := by decide +kernel
theorem dX3_isAssigned_0 : decode cX3_isAssigned 0 = .ok (.iload_n 0, 1) := by decide +kernel
theorem dX3_isAssigned_1 : decode cX3_isAssigned 1 = .ok (.sipush 8192, 3) := by decide +kernel
theorem dX3_isAssigned_4 : decode cX3_isAssigned 4 = .ok (.if_icmp .lt 5, 3) := by decide +kernel
theorem dX3_isAssigned_7 : decode cX3_isAssigned 7 = .ok (.iconst 1, 1) := by decide +kernel
theorem dX3_isAssigned_8 : decode cX3_isAssigned 8 = .ok (.ireturn, 1) := by decide +kernel
theorem dX3_isAssigned_9 : decode cX3_isAssigned 9 = .ok (.iload_n 0, 1) := by decide +kernel
theorem dX3_isAssigned_10 : decode cX3_isAssigned 10 = .ok (.sipush 4096, 3) := by decide +kernel
theorem dX3_isAssigned_13 : decode cX3_isAssigned 13 = .ok (.if_icmp .lt 10, 3) := by decide +kernel
theorem dX3_isAssigned_16 : decode cX3_isAssigned 16 = .ok (.iload_n 0, 1) := by decide +kernel
theorem dX3_isAssigned_17 : decode cX3_isAssigned 17 = .ok (.sipush 4864, 3) := by decide +kernel
theorem dX3_isAssigned_20 : decode cX3_isAssigned 20 = .ok (.if_icmp .le 5, 3) := by decide +kernel
theorem dX3_isAssigned_23 : decode cX3_isAssigned 23 = .ok (.iconst 0, 1) := by decide +kernel
theorem dX3_isAssigned_24 : decode cX3_isAssigned 24 = .ok (.ireturn, 1) := by decide +kernel
theorem dX3_isAssigned_25 : decode cX3_isAssigned 25 = .ok (.iload_n 0, 1) := by decide +kernel
theorem dX3_isAssigned_26 : decode cX3_isAssigned 26 = .ok (.bipush 7, 2) := by decide +kernel
theorem dX3_isAssigned_28 : decode cX3_isAssigned 28 = .ok (.ishr, 1) := by decide +kernel
theorem dX3_isAssigned_29 : decode cX3_isAssigned 29 = .ok (.bipush 7, 2) := by decide +kernel
theorem dX3_isAssigned_31 : decode cX3_isAssigned 31 = .ok (.iand, 1) := by decide +kernel
theorem dX3_isAssigned_32 : decode cX3_isAssigned 32 = .ok (.istore_n 1, 1) := by decide +kernel
theorem dX3_isAssigned_33 : decode cX3_isAssigned 33 = .ok (.iload_n 0, 1) := by decide +kernel
theorem dX3_isAssigned_34 : decode cX3_isAssigned 34 = .ok (.sipush 4864, 3) := by decide +kernel
theorem dX3_isAssigned_37 : decode cX3_isAssigned 37 = .ok (.if_icmp .eq 24, 3) := by decide +kernel
theorem dX3_isAssigned_40 : decode cX3_isAssigned 40 = .ok (.iload_n 0, 1) := by decide +kernel
theorem dX3_isAssigned_41 : decode cX3_isAssigned 41 = .ok (.bipush 64, 2) := by decide +kernel
theorem dX3_isAssigned_43 : decode cX3_isAssigned 43 = .ok (.iand, 1) := by decide +kernel
theorem dX3_isAssigned_44 : decode cX3_isAssigned 44 = .ok (.ifCond .eq 17, 3) := by decide +kernel
theorem dX3_isAssigned_47 : decode cX3_isAssigned 47 = .ok (.iload_n 1, 1) := by decide +kernel
theorem dX3_isAssigned_48 : decode cX3_isAssigned 48 = .ok (.ifCond .eq 13, 3) := by decide +kernel
theorem dX3_isAssigned_51 : decode cX3_isAssigned 51 = .ok (.iload_n 1, 1) := by decide +kernel
theorem dX3_isAssigned_52 : decode cX3_isAssigned 52 = .ok (.iconst 2, 1) := by decide +kernel
theorem dX3_isAssigned_53 : decode cX3_isAssigned 53 = .ok (.if_icmp .eq 8, 3) := by decide +kernel
theorem dX3_isAssigned_56 : decode cX3_isAssigned 56 = .ok (.iload_n 1, 1) := by decide +kernel
theorem dX3_isAssigned_57 : decode cX3_isAssigned 57 = .ok (.iconst 4, 1) := by decide +kernel
theorem dX3_isAssigned_58 : decode cX3_isAssigned 58 = .ok (.if_icmp .ne 7, 3) := by decide +kernel
theorem dX3_isAssigned_61 : decode cX3_isAssigned 61 = .ok (.iconst 1, 1) := by decide +kernel
theorem dX3_isAssigned_62 : decode cX3_isAssigned 62 = .ok (.goto 4, 3) := by decide +kernel
theorem dX3_isAssigned_65 : decode cX3_isAssigned 65 = .ok (.iconst 0, 1) := by decide +kernel
theorem dX3_isAssigned_66 : decode cX3_isAssigned 66 = .ok (.ireturn, 1) := by decide +kernel
set_option maxRecDepth 20000 in
theorem ggX3_interrupt_X3_push : GoodIn wsX3_interrupt wsX3_push := goodIn_r _ [9, 3, 10, 11, 12, 13, 8, 14, 15, 16, 17, 18, 19, 20, 2, 21, 22, 23, 24, 25, 26, 27, 28, 29, 30, 31, 32, 33, 34, 35, 36, 37, 38, 39, 40, 41, 42, 43, 44, 45, 46, 47, 48, 62, 63, 64, 65, 66, 67, 68, 69, 70] (by decide +kernel) (by decide +kernel)
set_option maxRecDepth 20000 in
theorem gX3_interrupt_X3_push : GoodIn wsX3_interrupt (wsV RX3 155 RX3 yX3_push wsX3_push) := goodIn_app (goodIn_of _ (by decide +kernel)) ggX3_interrupt_X3_push
set_option maxRecDepth 20000 in
theorem ggX3_interrupt_X3_wordAt : GoodIn wsX3_interrupt wsX3_wordAt := goodIn_r _ [52, 37, 25, 16, 26, 27, 8, 28, 53, 54, 55, 62, 63, 64, 65, 66, 67, 68, 69, 70] (by decide +kernel) (by decide +kernel)
set_option maxRecDepth 20000 in
theorem gX3_interrupt_X3_wordAt : GoodIn wsX3_interrupt (wsV RX3 35 RX3 yX3_wordAt wsX3_wordAt) := goodIn_app (goodIn_of _ (by decide +kernel)) ggX3_interrupt_X3_wordAt
set_option maxRecDepth 20000 in
theorem ggX3_interrupt_X3_setRegister : GoodIn wsX3_interrupt wsX3_setRegister := goodIn_r _ [14, 3, 15, 16, 62, 63, 64, 65, 66, 67, 68, 69, 70] (by decide +kernel) (by decide +kernel)
set_option maxRecDepth 20000 in
theorem gX3_interrupt_X3_setRegister : GoodIn wsX3_interrupt (wsV RX3 39 RX3 yX3_setRegister wsX3_setRegister) := goodIn_app (goodIn_of _ (by decide +kernel)) ggX3_interrupt_X3_setRegister
set_option maxRecDepth 20000 in
theorem ggX3_interrupt_X3_spend : GoodIn wsX3_interrupt wsX3_spend := goodIn_r _ [59, 60, 61, 62, 63, 64, 65, 66, 67, 68, 69, 70] (by decide +kernel) (by decide +kernel)
set_option maxRecDepth 20000 in
theorem gX3_interrupt_X3_spend : GoodIn wsX3_interrupt (wsV RX3 146 RX3 yX3_spend wsX3_spend) := goodIn_app (goodIn_of _ (by decide +kernel)) ggX3_interrupt_X3_spend
theorem dX3_interrupt_0 : decode cX3_interrupt 0 = .ok (.bipush 13, 2) := by decide +kernel
theorem dX3_interrupt_2 : decode cX3_interrupt 2 = .ok (.istore_n 1, 1) := by decide +kernel
theorem dX3_interrupt_3 : decode cX3_interrupt 3 = .ok (.aload_n 0, 1) := by decide +kernel
theorem dX3_interrupt_4 : decode cX3_interrupt 4 = .ok (.getfield 28, 3) := by decide +kernel
theorem dX3_interrupt_7 : decode cX3_interrupt 7 = .ok (.iload_n 1, 1) := by decide +kernel
theorem dX3_interrupt_8 : decode cX3_interrupt 8 = .ok (.ishr, 1) := by decide +kernel
theorem dX3_interrupt_9 : decode cX3_interrupt 9 = .ok (.iconst 1, 1) := by decide +kernel
theorem dX3_interrupt_10 : decode cX3_interrupt 10 = .ok (.iand, 1) := by decide +kernel
theorem dX3_interrupt_11 : decode cX3_interrupt 11 = .ok (.ifCond .ne 9, 3) := by decide +kernel
theorem dX3_interrupt_14 : decode cX3_interrupt 14 = .ok (.iinc 1 (-1), 3) := by decide +kernel
theorem dX3_interrupt_17 : decode cX3_interrupt 17 = .ok (.goto (-14), 3) := by decide +kernel
theorem dX3_interrupt_20 : decode cX3_interrupt 20 = .ok (.aload_n 0, 1) := by decide +kernel
theorem dX3_interrupt_21 : decode cX3_interrupt 21 = .ok (.iconst 0, 1) := by decide +kernel
theorem dX3_interrupt_22 : decode cX3_interrupt 22 = .ok (.putfield 51, 3) := by decide +kernel
theorem dX3_interrupt_25 : decode cX3_interrupt 25 = .ok (.aload_n 0, 1) := by decide +kernel
theorem dX3_interrupt_26 : decode cX3_interrupt 26 = .ok (.aload_n 0, 1) := by decide +kernel
theorem dX3_interrupt_27 : decode cX3_interrupt 27 = .ok (.getfield 14, 3) := by decide +kernel
theorem dX3_interrupt_30 : decode cX3_interrupt 30 = .ok (.iconst 0, 1) := by decide +kernel
theorem dX3_interrupt_31 : decode cX3_interrupt 31 = .ok (.iaload, 1) := by decide +kernel
theorem dX3_interrupt_32 : decode cX3_interrupt 32 = .ok (.invokevirtual 155, 3) := by decide +kernel
theorem dX3_interrupt_35 : decode cX3_interrupt 35 = .ok (.aload_n 0, 1) := by decide +kernel
theorem dX3_interrupt_36 : decode cX3_interrupt 36 = .ok (.aload_n 0, 1) := by decide +kernel
theorem dX3_interrupt_37 : decode cX3_interrupt 37 = .ok (.getfield 14, 3) := by decide +kernel
theorem dX3_interrupt_40 : decode cX3_interrupt 40 = .ok (.iconst 2, 1) := by decide +kernel
theorem dX3_interrupt_41 : decode cX3_interrupt 41 = .ok (.iaload, 1) := by decide +kernel
theorem dX3_interrupt_42 : decode cX3_interrupt 42 = .ok (.invokevirtual 155, 3) := by decide +kernel
theorem dX3_interrupt_45 : decode cX3_interrupt 45 = .ok (.aload_n 0, 1) := by decide +kernel
theorem dX3_interrupt_46 : decode cX3_interrupt 46 = .ok (.dup, 1) := by decide +kernel
theorem dX3_interrupt_47 : decode cX3_interrupt 47 = .ok (.getfield 28, 3) := by decide +kernel
theorem dX3_interrupt_50 : decode cX3_interrupt 50 = .ok (.iconst 1, 1) := by decide +kernel
theorem dX3_interrupt_51 : decode cX3_interrupt 51 = .ok (.iload_n 1, 1) := by decide +kernel
theorem dX3_interrupt_52 : decode cX3_interrupt 52 = .ok (.ishl, 1) := by decide +kernel
theorem dX3_interrupt_53 : decode cX3_interrupt 53 = .ok (.ixor, 1) := by decide +kernel
theorem dX3_interrupt_54 : decode cX3_interrupt 54 = .ok (.putfield 28, 3) := by decide +kernel
theorem dX3_interrupt_57 : decode cX3_interrupt 57 = .ok (.aload_n 0, 1) := by decide +kernel
theorem dX3_interrupt_58 : decode cX3_interrupt 58 = .ok (.getfield 14, 3) := by decide +kernel
theorem dX3_interrupt_61 : decode cX3_interrupt 61 = .ok (.iconst 2, 1) := by decide +kernel
theorem dX3_interrupt_62 : decode cX3_interrupt 62 = .ok (.dup2, 1) := by decide +kernel
theorem dX3_interrupt_63 : decode cX3_interrupt 63 = .ok (.iaload, 1) := by decide +kernel
theorem dX3_interrupt_64 : decode cX3_interrupt 64 = .ok (.bipush 64, 2) := by decide +kernel
theorem dX3_interrupt_66 : decode cX3_interrupt 66 = .ok (.iand, 1) := by decide +kernel
theorem dX3_interrupt_67 : decode cX3_interrupt 67 = .ok (.iastore, 1) := by decide +kernel
theorem dX3_interrupt_68 : decode cX3_interrupt 68 = .ok (.aload_n 0, 1) := by decide +kernel
theorem dX3_interrupt_69 : decode cX3_interrupt 69 = .ok (.iconst 0, 1) := by decide +kernel
theorem dX3_interrupt_70 : decode cX3_interrupt 70 = .ok (.aload_n 0, 1) := by decide +kernel
theorem dX3_interrupt_71 : decode cX3_interrupt 71 = .ok (.ldc 161, 2) := by decide +kernel
theorem dX3_interrupt_73 : decode cX3_interrupt 73 = .ok (.iconst 2, 1) := by decide +kernel
theorem dX3_interrupt_74 : decode cX3_interrupt 74 = .ok (.iload_n 1, 1) := by decide +kernel
theorem dX3_interrupt_75 : decode cX3_interrupt 75 = .ok (.imul, 1) := by decide +kernel
theorem dX3_interrupt_76 : decode cX3_interrupt 76 = .ok (.iadd, 1) := by decide +kernel
theorem dX3_interrupt_77 : decode cX3_interrupt 77 = .ok (.invokevirtual 35, 3) := by decide +kernel
theorem dX3_interrupt_80 : decode cX3_interrupt 80 = .ok (.invokevirtual 39, 3) := by decide +kernel
theorem dX3_interrupt_83 : decode cX3_interrupt 83 = .ok (.aload_n 0, 1) := by decide +kernel
theorem dX3_interrupt_84 : decode cX3_interrupt 84 = .ok (.bipush 6, 2) := by decide +kernel
theorem dX3_interrupt_86 : decode cX3_interrupt 86 = .ok (.invokevirtual 146, 3) := by decide +kernel
theorem dX3_interrupt_89 : decode cX3_interrupt 89 = .ok (.return_, 1) := by decide +kernel
set_option maxRecDepth 20000 in
theorem ggX3_step_X3_flag : GoodIn wsX3_step wsX3_flag := goodIn_r _ [8, 2, 166, 167, 168, 169, 170, 171, 172, 173, 174] (by decide +kernel) (by decide +kernel)
set_option maxRecDepth 20000 in
theorem gX3_step_X3_flag : GoodIn wsX3_step (wsV RX3 121 RX3 yX3_flag wsX3_flag) := goodIn_app (goodIn_of _ (by decide +kernel)) ggX3_step_X3_flag
set_option maxRecDepth 20000 in
theorem ggX3_step_X3_interrupt : GoodIn wsX3_step wsX3_interrupt := goodIn_r _ [12, 1, 3, 2, 13, 14, 15, 16, 7, 17, 18, 19, 20, 21, 22, 23, 24, 25, 26, 27, 28, 29, 30, 31, 32, 33, 34, 35, 36, 37, 38, 39, 40, 41, 42, 43, 44, 45, 46, 47, 48, 49, 50, 51, 52, 53, 54, 55, 56, 57, 58, 59, 60, 61, 62, 63, 64, 65, 66, 67, 68, 69, 166, 167, 168, 169, 170, 171, 172, 173, 174] (by decide +kernel) (by decide +kernel)
set_option maxRecDepth 20000 in
theorem gX3_step_X3_interrupt : GoodIn wsX3_step (wsV RX3 162 RX3 yX3_interrupt wsX3_interrupt) := goodIn_app (goodIn_of _ (by decide +kernel)) ggX3_step_X3_interrupt
set_option maxRecDepth 20000 in
theorem ggX3_step_X3_wordAt : GoodIn wsX3_step wsX3_wordAt := goodIn_r _ [60, 45, 33, 24, 34, 35, 7, 36, 61, 62, 63, 166, 167, 168, 169, 170, 171, 172, 173, 174] (by decide +kernel) (by decide +kernel)
set_option maxRecDepth 20000 in
theorem gX3_step_X3_wordAt : GoodIn wsX3_step (wsV RX3 35 RX3 yX3_wordAt wsX3_wordAt) := goodIn_app (goodIn_of _ (by decide +kernel)) ggX3_step_X3_wordAt
set_option maxRecDepth 20000 in
theorem ggX3_step_X3_isAssigned : GoodIn wsX3_step wsX3_isAssigned := goodIn_r _ [72] (by decide +kernel) (by decide +kernel)
set_option maxRecDepth 20000 in
theorem gX3_step_X3_isAssigned : GoodIn wsX3_step (va_wsS RX3 165 yX3_isAssigned wsX3_isAssigned) := goodIn_app (goodIn_of _ (by decide +kernel)) ggX3_step_X3_isAssigned
set_option maxRecDepth 20000 in
theorem ggX3_step_X3_taken : GoodIn wsX3_step wsX3_taken := goodIn_r _ [76, 2, 57, 58, 59, 7, 60, 45, 33, 24, 34, 35, 36, 61, 62, 63, 19, 20, 21, 22, 23, 166, 167, 168, 169, 170, 171, 172, 173, 174] (by decide +kernel) (by decide +kernel)
set_option maxRecDepth 20000 in
theorem gX3_step_X3_taken : GoodIn wsX3_step (wsV RX3 89 RX3 yX3_taken wsX3_taken) := goodIn_app (goodIn_of _ (by decide +kernel)) ggX3_step_X3_taken
set_option maxRecDepth 20000 in
theorem ggX3_step_X3_twoParts : GoodIn wsX3_step wsX3_twoParts := goodIn_r _ [80, 81, 82, 83, 84, 85, 7, 86, 24, 2, 3, 87, 88, 89, 90, 91, 92, 93, 94, 73, 74, 75, 76, 57, 58, 59, 60, 45, 33, 34, 35, 36, 61, 62, 63, 19, 20, 21, 22, 23, 95, 96, 97, 98, 18, 99, 100, 101, 102, 103, 104, 105, 106, 107, 108, 109, 110, 111, 112, 113, 114, 115, 116, 117, 118, 119, 120, 121, 122, 123, 124, 125, 126, 127, 128, 129, 130, 131, 132, 133, 134, 135, 4, 5, 6, 8, 136, 137, 138, 139, 25, 26, 27, 28, 29, 30, 31, 32, 37, 38, 39, 40, 41, 42, 43, 44, 46, 47, 48, 49, 50, 51, 52, 53, 54, 55, 56, 140, 141, 142, 143, 144, 145, 64, 65, 66, 67, 68, 69, 166, 167, 168, 169, 170, 171, 172, 173, 174] (by decide +kernel) (by decide +kernel)
set_option maxRecDepth 20000 in
theorem gX3_step_X3_twoParts : GoodIn wsX3_step (wsV RX3 168 RX3 yX3_twoParts wsX3_twoParts) := goodIn_app (goodIn_of _ (by decide +kernel)) ggX3_step_X3_twoParts
set_option maxRecDepth 20000 in
theorem ggX3_step_X3_jump : GoodIn wsX3_step wsX3_jump := goodIn_r _ [149, 2, 150, 151, 152, 7, 153, 4, 5, 6, 8, 19, 20, 21, 22, 23, 24, 64, 65, 66, 67, 68, 69, 166, 167, 168, 169, 170, 171, 172, 173, 174] (by decide +kernel) (by decide +kernel)
set_option maxRecDepth 20000 in
theorem gX3_step_X3_jump : GoodIn wsX3_step (wsV RX3 171 RX3 yX3_jump wsX3_jump) := goodIn_app (goodIn_of _ (by decide +kernel)) ggX3_step_X3_jump
set_option maxRecDepth 20000 in
theorem ggX3_step_X3_onePart : GoodIn wsX3_step wsX3_onePart := goodIn_r _ [157, 81, 2, 158, 159, 160, 7, 161, 57, 58, 59, 60, 45, 33, 24, 34, 35, 36, 61, 62, 63, 19, 20, 21, 22, 23, 64, 65, 66, 67, 68, 69, 83, 84, 85, 86, 3, 87, 88, 89, 90, 82, 91, 92, 93, 94, 73, 74, 75, 76, 95, 96, 97, 98, 18, 99, 100, 101, 102, 103, 104, 105, 106, 107, 108, 109, 110, 140, 141, 142, 162, 163, 164, 165, 25, 26, 27, 28, 29, 30, 31, 32, 37, 38, 39, 40, 41, 42, 43, 44, 46, 47, 48, 49, 50, 51, 52, 53, 54, 55, 56, 4, 5, 6, 8, 123, 124, 125, 126, 127, 128, 129, 130, 131, 132, 133, 134, 135, 143, 144, 145, 14, 15, 16, 17, 166, 167, 168, 169, 170, 171, 172, 173, 174] (by decide +kernel) (by decide +kernel)
set_option maxRecDepth 20000 in
theorem gX3_step_X3_onePart : GoodIn wsX3_step (wsV RX3 174 RX3 yX3_onePart wsX3_onePart) := goodIn_app (goodIn_of _ (by decide +kernel)) ggX3_step_X3_onePart
theorem dX3_step_0 : decode cX3_step 0 = .ok (.aload_n 0, 1) := by decide +kernel
theorem dX3_step_1 : decode cX3_step 1 = .ok (.bipush 8, 2) := by decide +kernel
theorem dX3_step_3 : decode cX3_step 3 = .ok (.invokevirtual 121, 3) := by decide +kernel
theorem dX3_step_6 : decode cX3_step 6 = .ok (.iconst 1, 1) := by decide +kernel
theorem dX3_step_7 : decode cX3_step 7 = .ok (.if_icmp .ne 16, 3) := by decide +kernel
theorem dX3_step_10 : decode cX3_step 10 = .ok (.aload_n 0, 1) := by decide +kernel
theorem dX3_step_11 : decode cX3_step 11 = .ok (.getfield 28, 3) := by decide +kernel
theorem dX3_step_14 : decode cX3_step 14 = .ok (.ifCond .eq 9, 3) := by decide +kernel
theorem dX3_step_17 : decode cX3_step 17 = .ok (.aload_n 0, 1) := by decide +kernel
theorem dX3_step_18 : decode cX3_step 18 = .ok (.invokevirtual 162, 3) := by decide +kernel
theorem dX3_step_21 : decode cX3_step 21 = .ok (.iconst 0, 1) := by decide +kernel
theorem dX3_step_22 : decode cX3_step 22 = .ok (.ireturn, 1) := by decide +kernel
theorem dX3_step_23 : decode cX3_step 23 = .ok (.aload_n 0, 1) := by decide +kernel
theorem dX3_step_24 : decode cX3_step 24 = .ok (.bipush 16, 2) := by decide +kernel
theorem dX3_step_26 : decode cX3_step 26 = .ok (.invokevirtual 121, 3) := by decide +kernel
theorem dX3_step_29 : decode cX3_step 29 = .ok (.iconst 1, 1) := by decide +kernel
theorem dX3_step_30 : decode cX3_step 30 = .ok (.if_icmp .ne 5, 3) := by decide +kernel
theorem dX3_step_33 : decode cX3_step 33 = .ok (.iconst 1, 1) := by decide +kernel
theorem dX3_step_34 : decode cX3_step 34 = .ok (.ireturn, 1) := by decide +kernel
theorem dX3_step_35 : decode cX3_step 35 = .ok (.aload_n 0, 1) := by decide +kernel
theorem dX3_step_36 : decode cX3_step 36 = .ok (.aload_n 0, 1) := by decide +kernel
theorem dX3_step_37 : decode cX3_step 37 = .ok (.getfield 14, 3) := by decide +kernel
theorem dX3_step_40 : decode cX3_step 40 = .ok (.iconst 0, 1) := by decide +kernel
theorem dX3_step_41 : decode cX3_step 41 = .ok (.iaload, 1) := by decide +kernel
theorem dX3_step_42 : decode cX3_step 42 = .ok (.invokevirtual 35, 3) := by decide +kernel
theorem dX3_step_45 : decode cX3_step 45 = .ok (.istore_n 1, 1) := by decide +kernel
theorem dX3_step_46 : decode cX3_step 46 = .ok (.iload_n 1, 1) := by decide +kernel
theorem dX3_step_47 : decode cX3_step 47 = .ok (.invokestatic 165, 3) := by decide +kernel
theorem dX3_step_50 : decode cX3_step 50 = .ok (.ifCond .ne 5, 3) := by decide +kernel
theorem dX3_step_53 : decode cX3_step 53 = .ok (.iconst 2, 1) := by decide +kernel
theorem dX3_step_54 : decode cX3_step 54 = .ok (.ireturn, 1) := by decide +kernel
theorem dX3_step_55 : decode cX3_step 55 = .ok (.aload_n 0, 1) := by decide +kernel
theorem dX3_step_56 : decode cX3_step 56 = .ok (.invokevirtual 89, 3) := by decide +kernel
theorem dX3_step_59 : decode cX3_step 59 = .ok (.pop, 1) := by decide +kernel
theorem dX3_step_60 : decode cX3_step 60 = .ok (.aload_n 0, 1) := by decide +kernel
theorem dX3_step_61 : decode cX3_step 61 = .ok (.iload_n 1, 1) := by decide +kernel
theorem dX3_step_62 : decode cX3_step 62 = .ok (.sipush 16384, 3) := by decide +kernel
theorem dX3_step_65 : decode cX3_step 65 = .ok (.if_icmp .ge 10, 3) := by decide +kernel
theorem dX3_step_68 : decode cX3_step 68 = .ok (.iload_n 1, 1) := by decide +kernel
theorem dX3_step_69 : decode cX3_step 69 = .ok (.sipush 8192, 3) := by decide +kernel
theorem dX3_step_72 : decode cX3_step 72 = .ok (.if_icmp .ge 14, 3) := by decide +kernel
theorem dX3_step_75 : decode cX3_step 75 = .ok (.iload_n 1, 1) := by decide +kernel
theorem dX3_step_76 : decode cX3_step 76 = .ok (.bipush 64, 2) := by decide +kernel
theorem dX3_step_78 : decode cX3_step 78 = .ok (.iand, 1) := by decide +kernel
theorem dX3_step_79 : decode cX3_step 79 = .ok (.ifCond .eq 7, 3) := by decide +kernel
theorem dX3_step_82 : decode cX3_step 82 = .ok (.iconst 1, 1) := by decide +kernel
theorem dX3_step_83 : decode cX3_step 83 = .ok (.goto 4, 3) := by decide +kernel
theorem dX3_step_86 : decode cX3_step 86 = .ok (.iconst 0, 1) := by decide +kernel
theorem dX3_step_87 : decode cX3_step 87 = .ok (.putfield 51, 3) := by decide +kernel
theorem dX3_step_90 : decode cX3_step 90 = .ok (.iload_n 1, 1) := by decide +kernel
theorem dX3_step_91 : decode cX3_step 91 = .ok (.sipush 16384, 3) := by decide +kernel
theorem dX3_step_94 : decode cX3_step 94 = .ok (.if_icmp .lt 11, 3) := by decide +kernel
theorem dX3_step_97 : decode cX3_step 97 = .ok (.aload_n 0, 1) := by decide +kernel
theorem dX3_step_98 : decode cX3_step 98 = .ok (.iload_n 1, 1) := by decide +kernel
theorem dX3_step_99 : decode cX3_step 99 = .ok (.invokevirtual 168, 3) := by decide +kernel
theorem dX3_step_102 : decode cX3_step 102 = .ok (.goto 23, 3) := by decide +kernel
theorem dX3_step_105 : decode cX3_step 105 = .ok (.iload_n 1, 1) := by decide +kernel
theorem dX3_step_106 : decode cX3_step 106 = .ok (.sipush 8192, 3) := by decide +kernel
theorem dX3_step_109 : decode cX3_step 109 = .ok (.if_icmp .lt 11, 3) := by decide +kernel
theorem dX3_step_112 : decode cX3_step 112 = .ok (.aload_n 0, 1) := by decide +kernel
theorem dX3_step_113 : decode cX3_step 113 = .ok (.iload_n 1, 1) := by decide +kernel
theorem dX3_step_114 : decode cX3_step 114 = .ok (.invokevirtual 171, 3) := by decide +kernel
theorem dX3_step_117 : decode cX3_step 117 = .ok (.goto 8, 3) := by decide +kernel
theorem dX3_step_120 : decode cX3_step 120 = .ok (.aload_n 0, 1) := by decide +kernel
theorem dX3_step_121 : decode cX3_step 121 = .ok (.iload_n 1, 1) := by decide +kernel
theorem dX3_step_122 : decode cX3_step 122 = .ok (.invokevirtual 174, 3) := by decide +kernel
theorem dX3_step_125 : decode cX3_step 125 = .ok (.iconst 0, 1) := by decide +kernel
theorem dX3_step_126 : decode cX3_step 126 = .ok (.ireturn, 1) := by decide +kernel
set_option maxRecDepth 20000 in
theorem ggX3_run_X3_step : GoodIn wsX3_run wsX3_step := goodIn_r _ [5, 6, 7, 8, 9, 10, 11, 4, 12, 13, 14, 15, 16, 17, 18, 19, 20, 21, 22, 23, 24, 25, 26, 27, 28, 29, 30, 31, 32, 33, 34, 35, 36, 37, 38, 39, 40, 41, 42, 43, 44, 45, 46, 47, 48, 49, 50, 51, 52, 53, 54, 55, 56, 57, 58, 59, 60, 61, 62, 63, 64, 65, 66, 67, 68, 69, 70, 71, 72, 73, 74, 75, 76, 77, 78, 79, 80, 81, 82, 83, 84, 85, 86, 87, 88, 89, 90, 91, 92, 93, 94, 95, 96, 97, 98, 99, 100, 101, 102, 103, 104, 105, 106, 107, 108, 109, 110, 111, 112, 113, 114, 115, 116, 117, 118, 119, 120, 121, 122, 123, 124, 125, 126, 127, 128, 129, 130, 131, 132, 133, 134, 135, 136, 137, 138, 139, 140, 141, 142, 143, 144, 145, 146, 147, 148, 149, 150, 151, 152, 153, 154, 155, 156, 157, 158, 159, 160, 161, 162, 163, 164, 165, 166, 167, 168, 169, 170, 171, 172, 173, 174, 175, 176, 177, 178] (by decide +kernel) (by decide +kernel)
set_option maxRecDepth 20000 in
theorem gX3_run_X3_step : GoodIn wsX3_run (wsV RX3 177 RX3 yX3_step wsX3_step) := goodIn_app (goodIn_of _ (by decide +kernel)) ggX3_run_X3_step
theorem dX3_run_0 : decode cX3_run 0 = .ok (.iload_n 1, 1) := by decide +kernel
theorem dX3_run_1 : decode cX3_run 1 = .ok (.ifCond .lt 10, 3) := by decide +kernel
theorem dX3_run_4 : decode cX3_run 4 = .ok (.iload_n 1, 1) := by decide +kernel
theorem dX3_run_5 : decode cX3_run 5 = .ok (.sipush 2000, 3) := by decide +kernel
theorem dX3_run_8 : decode cX3_run 8 = .ok (.if_icmp .le 5, 3) := by decide +kernel
theorem dX3_run_11 : decode cX3_run 11 = .ok (.iconst (-1), 1) := by decide +kernel
theorem dX3_run_12 : decode cX3_run 12 = .ok (.ireturn, 1) := by decide +kernel
theorem dX3_run_13 : decode cX3_run 13 = .ok (.iconst 0, 1) := by decide +kernel
theorem dX3_run_14 : decode cX3_run 14 = .ok (.istore_n 2, 1) := by decide +kernel
theorem dX3_run_15 : decode cX3_run 15 = .ok (.iconst 0, 1) := by decide +kernel
theorem dX3_run_16 : decode cX3_run 16 = .ok (.istore_n 3, 1) := by decide +kernel
theorem dX3_run_17 : decode cX3_run 17 = .ok (.iload_n 3, 1) := by decide +kernel
theorem dX3_run_18 : decode cX3_run 18 = .ok (.iload_n 1, 1) := by decide +kernel
theorem dX3_run_19 : decode cX3_run 19 = .ok (.if_icmp .ge 19, 3) := by decide +kernel
theorem dX3_run_22 : decode cX3_run 22 = .ok (.iload_n 2, 1) := by decide +kernel
theorem dX3_run_23 : decode cX3_run 23 = .ok (.iconst 2, 1) := by decide +kernel
theorem dX3_run_24 : decode cX3_run 24 = .ok (.if_icmp .eq 14, 3) := by decide +kernel
theorem dX3_run_27 : decode cX3_run 27 = .ok (.aload_n 0, 1) := by decide +kernel
theorem dX3_run_28 : decode cX3_run 28 = .ok (.invokevirtual 177, 3) := by decide +kernel
theorem dX3_run_31 : decode cX3_run 31 = .ok (.istore_n 2, 1) := by decide +kernel
theorem dX3_run_32 : decode cX3_run 32 = .ok (.iinc 3 1, 3) := by decide +kernel
theorem dX3_run_35 : decode cX3_run 35 = .ok (.goto (-18), 3) := by decide +kernel
theorem dX3_run_38 : decode cX3_run 38 = .ok (.iload_n 2, 1) := by decide +kernel
theorem dX3_run_39 : decode cX3_run 39 = .ok (.ireturn, 1) := by decide +kernel
theorem dX3_isAddress_0 : decode cX3_isAddress 0 = .ok (.iload_n 0, 1) := by decide +kernel
theorem dX3_isAddress_1 : decode cX3_isAddress 1 = .ok (.ifCond .lt 13, 3) := by decide +kernel
theorem dX3_isAddress_4 : decode cX3_isAddress 4 = .ok (.iload_n 0, 1) := by decide +kernel
theorem dX3_isAddress_5 : decode cX3_isAddress 5 = .ok (.ldc 73, 2) := by decide +kernel
theorem dX3_isAddress_7 : decode cX3_isAddress 7 = .ok (.if_icmp .ge 7, 3) := by decide +kernel
theorem dX3_isAddress_10 : decode cX3_isAddress 10 = .ok (.iconst 1, 1) := by decide +kernel
theorem dX3_isAddress_11 : decode cX3_isAddress 11 = .ok (.goto 4, 3) := by decide +kernel
theorem dX3_isAddress_14 : decode cX3_isAddress 14 = .ok (.iconst 0, 1) := by decide +kernel
theorem dX3_isAddress_15 : decode cX3_isAddress 15 = .ok (.ireturn, 1) := by decide +kernel
set_option maxRecDepth 20000 in
theorem ggX3_poke_X3_isAddress : GoodIn wsX3_poke wsX3_isAddress := goodIn_r _ [7, 8] (by decide +kernel) (by decide +kernel)
set_option maxRecDepth 20000 in
theorem gX3_poke_X3_isAddress : GoodIn wsX3_poke (va_wsS RX3 180 yX3_isAddress wsX3_isAddress) := goodIn_app (goodIn_of _ (by decide +kernel)) ggX3_poke_X3_isAddress
set_option maxRecDepth 20000 in
theorem ggX3_poke_X3_isMultiplier : GoodIn wsX3_poke wsX3_isMultiplier := goodIn_r _ [11] (by decide +kernel) (by decide +kernel)
set_option maxRecDepth 20000 in
theorem gX3_poke_X3_isMultiplier : GoodIn wsX3_poke (va_wsS RX3 43 yX3_isMultiplier wsX3_isMultiplier) := goodIn_app (goodIn_of _ (by decide +kernel)) ggX3_poke_X3_isMultiplier
set_option maxRecDepth 20000 in
theorem ggX3_poke_X3_which : GoodIn wsX3_poke wsX3_which := goodIn_r _ [14] (by decide +kernel) (by decide +kernel)
set_option maxRecDepth 20000 in
theorem gX3_poke_X3_which : GoodIn wsX3_poke (va_wsS RX3 47 yX3_which wsX3_which) := goodIn_app (goodIn_of _ (by decide +kernel)) ggX3_poke_X3_which
set_option maxRecDepth 20000 in
theorem ggX3_poke_X3_withByte : GoodIn wsX3_poke wsX3_withByte := goodIn_r _ [17, 18] (by decide +kernel) (by decide +kernel)
set_option maxRecDepth 20000 in
theorem gX3_poke_X3_withByte : GoodIn wsX3_poke (va_wsS RX3 62 yX3_withByte wsX3_withByte) := goodIn_app (goodIn_of _ (by decide +kernel)) ggX3_poke_X3_withByte
theorem dX3_poke_0 : decode cX3_poke 0 = .ok (.iload_n 1, 1) := by decide +kernel
theorem dX3_poke_1 : decode cX3_poke 1 = .ok (.invokestatic 180, 3) := by decide +kernel
theorem dX3_poke_4 : decode cX3_poke 4 = .ok (.ifCond .eq 14, 3) := by decide +kernel
theorem dX3_poke_7 : decode cX3_poke 7 = .ok (.iload_n 2, 1) := by decide +kernel
theorem dX3_poke_8 : decode cX3_poke 8 = .ok (.ifCond .lt 10, 3) := by decide +kernel
theorem dX3_poke_11 : decode cX3_poke 11 = .ok (.iload_n 2, 1) := by decide +kernel
theorem dX3_poke_12 : decode cX3_poke 12 = .ok (.sipush 255, 3) := by decide +kernel
theorem dX3_poke_15 : decode cX3_poke 15 = .ok (.if_icmp .le 5, 3) := by decide +kernel
theorem dX3_poke_18 : decode cX3_poke 18 = .ok (.iconst 0, 1) := by decide +kernel
theorem dX3_poke_19 : decode cX3_poke 19 = .ok (.ireturn, 1) := by decide +kernel
theorem dX3_poke_20 : decode cX3_poke 20 = .ok (.iload_n 1, 1) := by decide +kernel
theorem dX3_poke_21 : decode cX3_poke 21 = .ok (.invokestatic 43, 3) := by decide +kernel
theorem dX3_poke_24 : decode cX3_poke 24 = .ok (.ifCond .eq 29, 3) := by decide +kernel
theorem dX3_poke_27 : decode cX3_poke 27 = .ok (.aload_n 0, 1) := by decide +kernel
theorem dX3_poke_28 : decode cX3_poke 28 = .ok (.getfield 18, 3) := by decide +kernel
theorem dX3_poke_31 : decode cX3_poke 31 = .ok (.iload_n 1, 1) := by decide +kernel
theorem dX3_poke_32 : decode cX3_poke 32 = .ok (.invokestatic 47, 3) := by decide +kernel
theorem dX3_poke_35 : decode cX3_poke 35 = .ok (.aload_n 0, 1) := by decide +kernel
theorem dX3_poke_36 : decode cX3_poke 36 = .ok (.getfield 18, 3) := by decide +kernel
theorem dX3_poke_39 : decode cX3_poke 39 = .ok (.iload_n 1, 1) := by decide +kernel
theorem dX3_poke_40 : decode cX3_poke 40 = .ok (.invokestatic 47, 3) := by decide +kernel
theorem dX3_poke_43 : decode cX3_poke 43 = .ok (.iaload, 1) := by decide +kernel
theorem dX3_poke_44 : decode cX3_poke 44 = .ok (.iload_n 1, 1) := by decide +kernel
theorem dX3_poke_45 : decode cX3_poke 45 = .ok (.iload_n 2, 1) := by decide +kernel
theorem dX3_poke_46 : decode cX3_poke 46 = .ok (.invokestatic 62, 3) := by decide +kernel
theorem dX3_poke_49 : decode cX3_poke 49 = .ok (.iastore, 1) := by decide +kernel
theorem dX3_poke_50 : decode cX3_poke 50 = .ok (.goto 28, 3) := by decide +kernel
theorem dX3_poke_53 : decode cX3_poke 53 = .ok (.aload_n 0, 1) := by decide +kernel
theorem dX3_poke_54 : decode cX3_poke 54 = .ok (.getfield 8, 3) := by decide +kernel
theorem dX3_poke_57 : decode cX3_poke 57 = .ok (.iload_n 1, 1) := by decide +kernel
theorem dX3_poke_58 : decode cX3_poke 58 = .ok (.iconst 1, 1) := by decide +kernel
theorem dX3_poke_59 : decode cX3_poke 59 = .ok (.ishr, 1) := by decide +kernel
theorem dX3_poke_60 : decode cX3_poke 60 = .ok (.aload_n 0, 1) := by decide +kernel
theorem dX3_poke_61 : decode cX3_poke 61 = .ok (.getfield 8, 3) := by decide +kernel
theorem dX3_poke_64 : decode cX3_poke 64 = .ok (.iload_n 1, 1) := by decide +kernel
theorem dX3_poke_65 : decode cX3_poke 65 = .ok (.iconst 1, 1) := by decide +kernel
theorem dX3_poke_66 : decode cX3_poke 66 = .ok (.ishr, 1) := by decide +kernel
theorem dX3_poke_67 : decode cX3_poke 67 = .ok (.saload, 1) := by decide +kernel
theorem dX3_poke_68 : decode cX3_poke 68 = .ok (.ldc 50, 2) := by decide +kernel
theorem dX3_poke_70 : decode cX3_poke 70 = .ok (.iand, 1) := by decide +kernel
theorem dX3_poke_71 : decode cX3_poke 71 = .ok (.iload_n 1, 1) := by decide +kernel
theorem dX3_poke_72 : decode cX3_poke 72 = .ok (.iload_n 2, 1) := by decide +kernel
theorem dX3_poke_73 : decode cX3_poke 73 = .ok (.invokestatic 62, 3) := by decide +kernel
theorem dX3_poke_76 : decode cX3_poke 76 = .ok (.i2s, 1) := by decide +kernel
theorem dX3_poke_77 : decode cX3_poke 77 = .ok (.sastore, 1) := by decide +kernel
theorem dX3_poke_78 : decode cX3_poke 78 = .ok (.iconst 1, 1) := by decide +kernel
theorem dX3_poke_79 : decode cX3_poke 79 = .ok (.ireturn, 1) := by decide +kernel
set_option maxRecDepth 20000 in
theorem ggX3_peek_X3_isAddress : GoodIn wsX3_peek wsX3_isAddress := goodIn_r _ [4, 5] (by decide +kernel) (by decide +kernel)
set_option maxRecDepth 20000 in
theorem gX3_peek_X3_isAddress : GoodIn wsX3_peek (va_wsS RX3 180 yX3_isAddress wsX3_isAddress) := goodIn_app (goodIn_of _ (by decide +kernel)) ggX3_peek_X3_isAddress
set_option maxRecDepth 20000 in
theorem ggX3_peek_X3_byteAt : GoodIn wsX3_peek wsX3_byteAt := goodIn_r _ [9, 10, 11, 12, 3, 13, 14, 15, 16, 17, 18, 19, 20, 21, 22, 23, 24, 25, 26, 27, 28, 29, 30, 31] (by decide +kernel) (by decide +kernel)
set_option maxRecDepth 20000 in
theorem gX3_peek_X3_byteAt : GoodIn wsX3_peek (wsV RX3 55 RX3 yX3_byteAt wsX3_byteAt) := goodIn_app (goodIn_of _ (by decide +kernel)) ggX3_peek_X3_byteAt
theorem dX3_peek_0 : decode cX3_peek 0 = .ok (.iload_n 1, 1) := by decide +kernel
theorem dX3_peek_1 : decode cX3_peek 1 = .ok (.invokestatic 180, 3) := by decide +kernel
theorem dX3_peek_4 : decode cX3_peek 4 = .ok (.ifCond .eq 11, 3) := by decide +kernel
theorem dX3_peek_7 : decode cX3_peek 7 = .ok (.aload_n 0, 1) := by decide +kernel
theorem dX3_peek_8 : decode cX3_peek 8 = .ok (.iload_n 1, 1) := by decide +kernel
theorem dX3_peek_9 : decode cX3_peek 9 = .ok (.invokevirtual 55, 3) := by decide +kernel
theorem dX3_peek_12 : decode cX3_peek 12 = .ok (.goto 4, 3) := by decide +kernel
theorem dX3_peek_15 : decode cX3_peek 15 = .ok (.iconst (-1), 1) := by decide +kernel
theorem dX3_peek_16 : decode cX3_peek 16 = .ok (.ireturn, 1) := by decide +kernel
theorem dX3_reg_0 : decode cX3_reg 0 = .ok (.iload_n 1, 1) := by decide +kernel
theorem dX3_reg_1 : decode cX3_reg 1 = .ok (.ifCond .lt 18, 3) := by decide +kernel
theorem dX3_reg_4 : decode cX3_reg 4 = .ok (.iload_n 1, 1) := by decide +kernel
theorem dX3_reg_5 : decode cX3_reg 5 = .ok (.bipush 16, 2) := by decide +kernel
theorem dX3_reg_7 : decode cX3_reg 7 = .ok (.if_icmp .ge 12, 3) := by decide +kernel
theorem dX3_reg_10 : decode cX3_reg 10 = .ok (.aload_n 0, 1) := by decide +kernel
theorem dX3_reg_11 : decode cX3_reg 11 = .ok (.getfield 14, 3) := by decide +kernel
theorem dX3_reg_14 : decode cX3_reg 14 = .ok (.iload_n 1, 1) := by decide +kernel
theorem dX3_reg_15 : decode cX3_reg 15 = .ok (.iaload, 1) := by decide +kernel
theorem dX3_reg_16 : decode cX3_reg 16 = .ok (.goto 4, 3) := by decide +kernel
theorem dX3_reg_19 : decode cX3_reg 19 = .ok (.iconst (-1), 1) := by decide +kernel
theorem dX3_reg_20 : decode cX3_reg 20 = .ok (.ireturn, 1) := by decide +kernel
theorem dX3_raise_0 : decode cX3_raise 0 = .ok (.iload_n 1, 1) := by decide +kernel
theorem dX3_raise_1 : decode cX3_raise 1 = .ok (.ifCond .lt 9, 3) := by decide +kernel
theorem dX3_raise_4 : decode cX3_raise 4 = .ok (.iload_n 1, 1) := by decide +kernel
theorem dX3_raise_5 : decode cX3_raise 5 = .ok (.bipush 13, 2) := by decide +kernel
theorem dX3_raise_7 : decode cX3_raise 7 = .ok (.if_icmp .le 5, 3) := by decide +kernel
theorem dX3_raise_10 : decode cX3_raise 10 = .ok (.iconst 0, 1) := by decide +kernel
theorem dX3_raise_11 : decode cX3_raise 11 = .ok (.ireturn, 1) := by decide +kernel
theorem dX3_raise_12 : decode cX3_raise 12 = .ok (.aload_n 0, 1) := by decide +kernel
theorem dX3_raise_13 : decode cX3_raise 13 = .ok (.dup, 1) := by decide +kernel
theorem dX3_raise_14 : decode cX3_raise 14 = .ok (.getfield 28, 3) := by decide +kernel
theorem dX3_raise_17 : decode cX3_raise 17 = .ok (.iconst 1, 1) := by decide +kernel
theorem dX3_raise_18 : decode cX3_raise 18 = .ok (.iload_n 1, 1) := by decide +kernel
theorem dX3_raise_19 : decode cX3_raise 19 = .ok (.ishl, 1) := by decide +kernel
theorem dX3_raise_20 : decode cX3_raise 20 = .ok (.ior, 1) := by decide +kernel
theorem dX3_raise_21 : decode cX3_raise 21 = .ok (.putfield 28, 3) := by decide +kernel
theorem dX3_raise_24 : decode cX3_raise 24 = .ok (.iconst 1, 1) := by decide +kernel
theorem dX3_raise_25 : decode cX3_raise 25 = .ok (.ireturn, 1) := by decide +kernel
theorem dX3_cyclesOf_0 : decode cX3_cyclesOf 0 = .ok (.aload_n 0, 1) := by decide +kernel
theorem dX3_cyclesOf_1 : decode cX3_cyclesOf 1 = .ok (.getfield 31, 3) := by decide +kernel
theorem dX3_cyclesOf_4 : decode cX3_cyclesOf 4 = .ok (.ireturn, 1) := by decide +kernel
theorem dX3_pending_0 : decode cX3_pending 0 = .ok (.aload_n 0, 1) := by decide +kernel
theorem dX3_pending_1 : decode cX3_pending 1 = .ok (.getfield 28, 3) := by decide +kernel
theorem dX3_pending_4 : decode cX3_pending 4 = .ok (.ireturn, 1) := by decide +kernel
theorem dX3_mode_0 : decode cX3_mode 0 = .ok (.aload_n 0, 1) := by decide +kernel
theorem dX3_mode_1 : decode cX3_mode 1 = .ok (.getfield 24, 3) := by decide +kernel
theorem dX3_mode_4 : decode cX3_mode 4 = .ok (.ireturn, 1) := by decide +kernel
set_option maxRecDepth 20000 in
theorem ggL_law_X2_init : GoodIn wsL_law wsX2_init := goodIn_r _ [8, 9, 10, 11, 12, 13, 14, 15, 16, 17, 18, 19, 20, 21, 22, 23, 24, 25, 26, 27, 28, 29, 30, 31, 32, 2, 33, 34, 35, 36, 37, 38, 39, 40, 41, 42, 43, 44, 45, 46, 47, 48, 49, 50, 51, 52, 53, 54, 55, 56, 57, 58, 59, 60, 61, 62, 63, 64, 65, 66, 67, 491, 492, 478, 479, 480, 481, 493, 494, 495, 496, 497, 498] (by decide +kernel) (by decide +kernel)
set_option maxRecDepth 20000 in
theorem gL_law_X2_init : GoodIn wsL_law (wsX2_init) := ggL_law_X2_init
set_option maxRecDepth 20000 in
theorem ggL_law_X3_init : GoodIn wsL_law wsX3_init := goodIn_r _ [70, 71, 10, 11, 72, 73, 74, 16, 75, 76, 77, 78, 79, 5, 80, 81, 82, 83, 84, 85, 86, 87, 88, 89, 90, 91, 92, 93, 94, 95, 96, 97, 98, 99, 482, 483, 484, 485, 486, 487, 488, 489, 490] (by decide +kernel) (by decide +kernel)
set_option maxRecDepth 20000 in
theorem gL_law_X3_init : GoodIn wsL_law (wsX3_init) := ggL_law_X3_init
set_option maxRecDepth 20000 in
theorem ggL_law_X2_init_ : GoodIn wsL_law wsX2_init_ := goodIn_r _ [33, 17, 34, 35, 15, 36, 37, 25, 38, 39, 40, 41, 42, 43, 44, 45, 46, 14, 47, 48, 26, 22, 49, 50, 51, 52, 53, 54, 55, 56, 57, 58, 59, 60, 61, 62, 63, 64, 65, 2, 66, 67, 478, 479, 480, 481, 491, 492, 493, 494, 495, 496, 497, 498] (by decide +kernel) (by decide +kernel)
set_option maxRecDepth 20000 in
theorem gL_law_X2_init_ : GoodIn wsL_law (wsV RL 13 RX2 yX2_init_ wsX2_init_) := goodIn_app (goodIn_of _ (by decide +kernel)) ggL_law_X2_init_
set_option maxRecDepth 20000 in
theorem ggL_law_X3_init_ : GoodIn wsL_law wsX3_init_ := goodIn_r _ [80, 75, 76, 81, 82, 83, 84, 85, 86, 87, 5, 88, 74, 89, 90, 91, 92, 93, 94, 95, 96, 97, 98, 99, 482, 483, 484, 485, 486, 487, 488, 489, 490] (by decide +kernel) (by decide +kernel)
set_option maxRecDepth 20000 in
theorem gL_law_X3_init_ : GoodIn wsL_law (wsV RL 16 RX3 yX3_init_ wsX3_init_) := goodIn_app (goodIn_of _ (by decide +kernel)) ggL_law_X3_init_
set_option maxRecDepth 20000 in
theorem ggL_law_X2_poke : GoodIn wsL_law wsX2_poke := goodIn_r _ [105, 106, 15, 107, 14, 108, 109, 110, 26, 111, 46, 47, 48, 22, 49, 50, 51, 52, 53, 54, 55, 56, 57, 25, 58, 59, 41, 42, 43, 44, 40, 60, 61, 62, 112, 113, 114, 115, 116, 117, 118, 119, 120, 478, 479, 480, 481, 491, 492, 493, 494, 495, 496, 497, 498] (by decide +kernel) (by decide +kernel)
set_option maxRecDepth 20000 in
theorem gL_law_X2_poke : GoodIn wsL_law (wsV RL 17 RX2 yX2_poke wsX2_poke) := goodIn_app (goodIn_of _ (by decide +kernel)) ggL_law_X2_poke
set_option maxRecDepth 20000 in
theorem ggL_law_X3_poke : GoodIn wsL_law wsX3_poke := goodIn_r _ [124, 76, 74, 89, 125, 126, 5, 127, 128, 90, 91, 92, 93, 94, 95, 129, 130, 131, 132, 482, 483, 484, 485, 486, 487, 488, 489, 490] (by decide +kernel) (by decide +kernel)
set_option maxRecDepth 20000 in
theorem gL_law_X3_poke : GoodIn wsL_law (wsV RL 21 RX3 yX3_poke wsX3_poke) := goodIn_app (goodIn_of _ (by decide +kernel)) ggL_law_X3_poke
set_option maxRecDepth 20000 in
theorem ggL_law_X2_peek : GoodIn wsL_law wsX2_peek := goodIn_r _ [136, 106, 15, 137, 14, 138, 139, 111, 46, 47, 48, 26, 22, 49, 50, 51, 52, 53, 54, 55, 56, 57, 25, 58, 59, 41, 42, 43, 44, 40, 60, 61, 62, 478, 479, 480, 481, 491, 492, 493, 494, 495, 496, 497, 498] (by decide +kernel) (by decide +kernel)
set_option maxRecDepth 20000 in
theorem gL_law_X2_peek : GoodIn wsL_law (wsV RL 22 RX2 yX2_peek wsX2_peek) := goodIn_app (goodIn_of _ (by decide +kernel)) ggL_law_X2_peek
set_option maxRecDepth 20000 in
theorem ggL_law_X3_peek : GoodIn wsL_law wsX3_peek := goodIn_r _ [143, 125, 126, 5, 127, 128, 144, 145, 146, 147, 85, 86, 87, 88, 76, 74, 89, 90, 91, 92, 93, 94, 95, 482, 483, 484, 485, 486, 487, 488, 489, 490] (by decide +kernel) (by decide +kernel)
set_option maxRecDepth 20000 in
theorem gL_law_X3_peek : GoodIn wsL_law (wsV RL 26 RX3 yX3_peek wsX3_peek) := goodIn_app (goodIn_of _ (by decide +kernel)) ggL_law_X3_peek
set_option maxRecDepth 20000 in
theorem ggL_law_X2_step : GoodIn wsL_law wsX2_step := goodIn_r _ [151, 17, 34, 15, 152, 153, 154, 2, 155, 156, 157, 158, 159, 160, 161, 162, 163, 164, 165, 166, 167, 168, 63, 64, 65, 66, 36, 67, 169, 14, 170, 171, 26, 50, 51, 52, 53, 172, 107, 108, 109, 110, 111, 46, 47, 48, 22, 49, 54, 55, 56, 57, 25, 58, 59, 41, 42, 43, 44, 40, 60, 61, 62, 112, 113, 114, 115, 116, 117, 118, 119, 120, 173, 174, 175, 45, 176, 177, 178, 179, 180, 181, 182, 183, 184, 185, 186, 187, 188, 189, 190, 35, 191, 192, 193, 194, 195, 196, 197, 198, 199, 200, 201, 202, 203, 106, 204, 205, 206, 207, 208, 209, 210, 211, 137, 138, 139, 212, 213, 214, 215, 216, 217, 218, 219, 220, 221, 222, 223, 224, 225, 226, 227, 228, 229, 230, 231, 232, 233, 234, 235, 236, 237, 238, 239, 240, 241, 242, 243, 244, 245, 246, 247, 248, 249, 250, 251, 252, 253, 254, 255, 256, 257, 258, 259, 260, 261, 262, 263, 264, 265, 266, 267, 268, 269, 270, 271, 272, 273, 274, 275, 276, 277, 278, 279, 280, 281, 282, 283, 284, 285, 286, 287, 288, 289, 290, 291, 478, 479, 480, 481, 491, 492, 493, 494, 495, 496, 497, 498] (by decide +kernel) (by decide +kernel)
set_option maxRecDepth 20000 in
theorem gL_law_X2_step : GoodIn wsL_law (wsV RL 27 RX2 yX2_step wsX2_step) := goodIn_app (goodIn_of _ (by decide +kernel)) ggL_law_X2_step
set_option maxRecDepth 20000 in
theorem ggL_law_X3_step : GoodIn wsL_law wsX3_step := goodIn_r _ [295, 82, 75, 296, 297, 298, 299, 5, 300, 301, 302, 303, 304, 305, 306, 307, 308, 309, 128, 96, 97, 98, 99, 84, 89, 310, 311, 312, 313, 314, 315, 316, 317, 74, 90, 91, 92, 129, 130, 131, 132, 318, 319, 320, 321, 76, 81, 322, 323, 324, 325, 326, 327, 328, 329, 330, 331, 85, 86, 87, 88, 93, 94, 95, 332, 333, 334, 335, 83, 336, 337, 338, 339, 340, 341, 342, 343, 344, 345, 346, 347, 348, 349, 350, 351, 352, 353, 354, 355, 356, 357, 358, 359, 360, 361, 362, 363, 364, 365, 366, 367, 368, 369, 144, 145, 146, 147, 370, 371, 372, 373, 374, 375, 376, 377, 378, 379, 380, 381, 382, 383, 384, 385, 386, 387, 388, 389, 72, 390, 391, 392, 393, 394, 395, 396, 397, 398, 399, 400, 401, 402, 403, 404, 405, 406, 407, 408, 409, 410, 411, 412, 413, 414, 415, 416, 417, 418, 419, 420, 421, 422, 423, 424, 425, 426, 427, 482, 483, 484, 485, 486, 487, 488, 489, 490] (by decide +kernel) (by decide +kernel)
set_option maxRecDepth 20000 in
theorem gL_law_X3_step : GoodIn wsL_law (wsV RL 31 RX3 yX3_step wsX3_step) := goodIn_app (goodIn_of _ (by decide +kernel)) ggL_law_X3_step
set_option maxRecDepth 20000 in
theorem ggL_law_X2_run : GoodIn wsL_law wsX2_run := goodIn_r _ [431, 432, 149, 150, 2, 151, 17, 34, 15, 152, 153, 154, 155, 156, 157, 158, 159, 160, 161, 162, 163, 164, 165, 166, 167, 168, 63, 64, 65, 66, 36, 67, 169, 14, 170, 171, 26, 50, 51, 52, 53, 172, 107, 108, 109, 110, 111, 46, 47, 48, 22, 49, 54, 55, 56, 57, 25, 58, 59, 41, 42, 43, 44, 40, 60, 61, 62, 112, 113, 114, 115, 116, 117, 118, 119, 120, 173, 174, 175, 45, 176, 177, 178, 179, 180, 181, 182, 183, 184, 185, 186, 187, 188, 189, 190, 35, 191, 192, 193, 194, 195, 196, 197, 198, 199, 200, 201, 202, 203, 106, 204, 205, 206, 207, 208, 209, 210, 211, 137, 138, 139, 212, 213, 214, 215, 216, 217, 218, 219, 220, 221, 222, 223, 224, 225, 226, 227, 228, 229, 230, 231, 232, 233, 234, 235, 236, 237, 238, 239, 240, 241, 242, 243, 244, 245, 246, 247, 248, 249, 250, 251, 252, 253, 254, 255, 256, 257, 258, 259, 260, 261, 262, 263, 264, 265, 266, 267, 268, 269, 270, 271, 272, 273, 274, 275, 276, 277, 278, 279, 280, 281, 282, 283, 284, 285, 286, 287, 288, 289, 290, 291, 478, 479, 480, 481, 491, 492, 493, 494, 495, 496, 497, 498] (by decide +kernel) (by decide +kernel)
set_option maxRecDepth 20000 in
theorem gL_law_X2_run : GoodIn wsL_law (wsV RL 32 RX2 yX2_run wsX2_run) := goodIn_app (goodIn_of _ (by decide +kernel)) ggL_law_X2_run
set_option maxRecDepth 20000 in
theorem ggL_law_X3_run : GoodIn wsL_law wsX3_run := goodIn_r _ [436, 437, 293, 294, 5, 295, 82, 75, 296, 297, 298, 299, 300, 301, 302, 303, 304, 305, 306, 307, 308, 309, 128, 96, 97, 98, 99, 84, 89, 310, 311, 312, 313, 314, 315, 316, 317, 74, 90, 91, 92, 129, 130, 131, 132, 318, 319, 320, 321, 76, 81, 322, 323, 324, 325, 326, 327, 328, 329, 330, 331, 85, 86, 87, 88, 93, 94, 95, 332, 333, 334, 335, 83, 336, 337, 338, 339, 340, 341, 342, 343, 344, 345, 346, 347, 348, 349, 350, 351, 352, 353, 354, 355, 356, 357, 358, 359, 360, 361, 362, 363, 364, 365, 366, 367, 368, 369, 144, 145, 146, 147, 370, 371, 372, 373, 374, 375, 376, 377, 378, 379, 380, 381, 382, 383, 384, 385, 386, 387, 388, 389, 72, 390, 391, 392, 393, 394, 395, 396, 397, 398, 399, 400, 401, 402, 403, 404, 405, 406, 407, 408, 409, 410, 411, 412, 413, 414, 415, 416, 417, 418, 419, 420, 421, 422, 423, 424, 425, 426, 427, 482, 483, 484, 485, 486, 487, 488, 489, 490] (by decide +kernel) (by decide +kernel)
set_option maxRecDepth 20000 in
theorem gL_law_X3_run : GoodIn wsL_law (wsV RL 35 RX3 yX3_run wsX3_run) := goodIn_app (goodIn_of _ (by decide +kernel)) ggL_law_X3_run
set_option maxRecDepth 20000 in
theorem ggL_law_X2_reg : GoodIn wsL_law wsX2_reg := goodIn_r _ [441, 17, 478, 479, 480, 481] (by decide +kernel) (by decide +kernel)
set_option maxRecDepth 20000 in
theorem gL_law_X2_reg : GoodIn wsL_law (wsV RL 36 RX2 yX2_reg wsX2_reg) := goodIn_app (goodIn_of _ (by decide +kernel)) ggL_law_X2_reg
set_option maxRecDepth 20000 in
theorem ggL_law_X3_reg : GoodIn wsL_law wsX3_reg := goodIn_r _ [445, 75, 482, 483, 484, 485, 486, 487, 488, 489, 490] (by decide +kernel) (by decide +kernel)
set_option maxRecDepth 20000 in
theorem gL_law_X3_reg : GoodIn wsL_law (wsV RL 39 RX3 yX3_reg wsX3_reg) := goodIn_app (goodIn_of _ (by decide +kernel)) ggL_law_X3_reg
set_option maxRecDepth 20000 in
theorem ggL_law_X2_raise : GoodIn wsL_law wsX2_raise := goodIn_r _ [449, 34, 478, 479, 480, 481] (by decide +kernel) (by decide +kernel)
set_option maxRecDepth 20000 in
theorem gL_law_X2_raise : GoodIn wsL_law (wsV RL 40 RX2 yX2_raise wsX2_raise) := goodIn_app (goodIn_of _ (by decide +kernel)) ggL_law_X2_raise
set_option maxRecDepth 20000 in
theorem ggL_law_X3_raise : GoodIn wsL_law wsX3_raise := goodIn_r _ [453, 82, 482, 483, 484, 485, 486, 487, 488, 489, 490] (by decide +kernel) (by decide +kernel)
set_option maxRecDepth 20000 in
theorem gL_law_X3_raise : GoodIn wsL_law (wsV RL 44 RX3 yX3_raise wsX3_raise) := goodIn_app (goodIn_of _ (by decide +kernel)) ggL_law_X3_raise
set_option maxRecDepth 20000 in
theorem ggL_law_X2_cyclesOf : GoodIn wsL_law wsX2_cyclesOf := goodIn_r _ [457, 35, 478, 479, 480, 481] (by decide +kernel) (by decide +kernel)
set_option maxRecDepth 20000 in
theorem gL_law_X2_cyclesOf : GoodIn wsL_law (wsV RL 45 RX2 yX2_cyclesOf wsX2_cyclesOf) := goodIn_app (goodIn_of _ (by decide +kernel)) ggL_law_X2_cyclesOf
set_option maxRecDepth 20000 in
theorem ggL_law_X3_cyclesOf : GoodIn wsL_law wsX3_cyclesOf := goodIn_r _ [461, 83, 482, 483, 484, 485, 486, 487, 488, 489, 490] (by decide +kernel) (by decide +kernel)
set_option maxRecDepth 20000 in
theorem gL_law_X3_cyclesOf : GoodIn wsL_law (wsV RL 48 RX3 yX3_cyclesOf wsX3_cyclesOf) := goodIn_app (goodIn_of _ (by decide +kernel)) ggL_law_X3_cyclesOf
set_option maxRecDepth 20000 in
theorem ggL_law_X2_pending : GoodIn wsL_law wsX2_pending := goodIn_r _ [465, 34, 478, 479, 480, 481] (by decide +kernel) (by decide +kernel)
set_option maxRecDepth 20000 in
theorem gL_law_X2_pending : GoodIn wsL_law (wsV RL 49 RX2 yX2_pending wsX2_pending) := goodIn_app (goodIn_of _ (by decide +kernel)) ggL_law_X2_pending
set_option maxRecDepth 20000 in
theorem ggL_law_X3_pending : GoodIn wsL_law wsX3_pending := goodIn_r _ [469, 82, 482, 483, 484, 485, 486, 487, 488, 489, 490] (by decide +kernel) (by decide +kernel)
set_option maxRecDepth 20000 in
theorem gL_law_X3_pending : GoodIn wsL_law (wsV RL 52 RX3 yX3_pending wsX3_pending) := goodIn_app (goodIn_of _ (by decide +kernel)) ggL_law_X3_pending
set_option maxRecDepth 20000 in
theorem ggL_law_X2_mode : GoodIn wsL_law wsX2_mode := goodIn_r _ [473, 15, 478, 479, 480, 481, 491, 492, 493, 494, 495, 496, 497, 498] (by decide +kernel) (by decide +kernel)
set_option maxRecDepth 20000 in
theorem gL_law_X2_mode : GoodIn wsL_law (wsV RL 53 RX2 yX2_mode wsX2_mode) := goodIn_app (goodIn_of _ (by decide +kernel)) ggL_law_X2_mode
set_option maxRecDepth 20000 in
theorem ggL_law_X3_mode : GoodIn wsL_law wsX3_mode := goodIn_r _ [477, 81, 482, 483, 484, 485, 486, 487, 488, 489, 490] (by decide +kernel) (by decide +kernel)
set_option maxRecDepth 20000 in
theorem gL_law_X3_mode : GoodIn wsL_law (wsV RL 56 RX3 yX3_mode wsX3_mode) := goodIn_app (goodIn_of _ (by decide +kernel)) ggL_law_X3_mode
theorem dL_law_0 : decode cL_law 0 = .ok (.new 7, 3) := by decide +kernel
theorem dL_law_3 : decode cL_law 3 = .ok (.dup, 1) := by decide +kernel
theorem dL_law_4 : decode cL_law 4 = .ok (.invokespecial 9, 3) := by decide +kernel
theorem dL_law_7 : decode cL_law 7 = .ok (.astore_n 1, 1) := by decide +kernel
theorem dL_law_8 : decode cL_law 8 = .ok (.new 10, 3) := by decide +kernel
theorem dL_law_11 : decode cL_law 11 = .ok (.dup, 1) := by decide +kernel
theorem dL_law_12 : decode cL_law 12 = .ok (.invokespecial 12, 3) := by decide +kernel
theorem dL_law_15 : decode cL_law 15 = .ok (.astore_n 2, 1) := by decide +kernel
theorem dL_law_16 : decode cL_law 16 = .ok (.iconst 0, 1) := by decide +kernel
theorem dL_law_17 : decode cL_law 17 = .ok (.istore_n 3, 1) := by decide +kernel
theorem dL_law_18 : decode cL_law 18 = .ok (.iload_n 3, 1) := by decide +kernel
theorem dL_law_19 : decode cL_law 19 = .ok (.aload_n 0, 1) := by decide +kernel
theorem dL_law_20 : decode cL_law 20 = .ok (.arraylength, 1) := by decide +kernel
theorem dL_law_21 : decode cL_law 21 = .ok (.iconst 3, 1) := by decide +kernel
theorem dL_law_22 : decode cL_law 22 = .ok (.isub, 1) := by decide +kernel
theorem dL_law_23 : decode cL_law 23 = .ok (.if_icmp .gt 259, 3) := by decide +kernel
theorem dL_law_26 : decode cL_law 26 = .ok (.aload_n 0, 1) := by decide +kernel
theorem dL_law_27 : decode cL_law 27 = .ok (.iload_n 3, 1) := by decide +kernel
theorem dL_law_28 : decode cL_law 28 = .ok (.iaload, 1) := by decide +kernel
theorem dL_law_29 : decode cL_law 29 = .ok (.bipush 15, 2) := by decide +kernel
theorem dL_law_31 : decode cL_law 31 = .ok (.iand, 1) := by decide +kernel
theorem dL_law_32 : decode cL_law 32 = .ok (.tableswitch 244 0 9 #[56, 67, 100, 123, 136, 159, 182, 205, 218, 231], 56) := by decide +kernel
theorem dL_law_88 : decode cL_law 88 = .ok (.aload_n 1, 1) := by decide +kernel
theorem dL_law_89 : decode cL_law 89 = .ok (.invokevirtual 13, 3) := by decide +kernel
theorem dL_law_92 : decode cL_law 92 = .ok (.aload_n 2, 1) := by decide +kernel
theorem dL_law_93 : decode cL_law 93 = .ok (.invokevirtual 16, 3) := by decide +kernel
theorem dL_law_96 : decode cL_law 96 = .ok (.goto 180, 3) := by decide +kernel
theorem dL_law_99 : decode cL_law 99 = .ok (.aload_n 1, 1) := by decide +kernel
theorem dL_law_100 : decode cL_law 100 = .ok (.aload_n 0, 1) := by decide +kernel
theorem dL_law_101 : decode cL_law 101 = .ok (.iload_n 3, 1) := by decide +kernel
theorem dL_law_102 : decode cL_law 102 = .ok (.iconst 1, 1) := by decide +kernel
theorem dL_law_103 : decode cL_law 103 = .ok (.iadd, 1) := by decide +kernel
theorem dL_law_104 : decode cL_law 104 = .ok (.iaload, 1) := by decide +kernel
theorem dL_law_105 : decode cL_law 105 = .ok (.aload_n 0, 1) := by decide +kernel
theorem dL_law_106 : decode cL_law 106 = .ok (.iload_n 3, 1) := by decide +kernel
theorem dL_law_107 : decode cL_law 107 = .ok (.iconst 2, 1) := by decide +kernel
theorem dL_law_108 : decode cL_law 108 = .ok (.iadd, 1) := by decide +kernel
theorem dL_law_109 : decode cL_law 109 = .ok (.iaload, 1) := by decide +kernel
theorem dL_law_110 : decode cL_law 110 = .ok (.invokevirtual 17, 3) := by decide +kernel
theorem dL_law_113 : decode cL_law 113 = .ok (.aload_n 2, 1) := by decide +kernel
theorem dL_law_114 : decode cL_law 114 = .ok (.aload_n 0, 1) := by decide +kernel
theorem dL_law_115 : decode cL_law 115 = .ok (.iload_n 3, 1) := by decide +kernel
theorem dL_law_116 : decode cL_law 116 = .ok (.iconst 1, 1) := by decide +kernel
theorem dL_law_117 : decode cL_law 117 = .ok (.iadd, 1) := by decide +kernel
theorem dL_law_118 : decode cL_law 118 = .ok (.iaload, 1) := by decide +kernel
theorem dL_law_119 : decode cL_law 119 = .ok (.aload_n 0, 1) := by decide +kernel
theorem dL_law_120 : decode cL_law 120 = .ok (.iload_n 3, 1) := by decide +kernel
theorem dL_law_121 : decode cL_law 121 = .ok (.iconst 2, 1) := by decide +kernel
theorem dL_law_122 : decode cL_law 122 = .ok (.iadd, 1) := by decide +kernel
theorem dL_law_123 : decode cL_law 123 = .ok (.iaload, 1) := by decide +kernel
theorem dL_law_124 : decode cL_law 124 = .ok (.invokevirtual 21, 3) := by decide +kernel
theorem dL_law_127 : decode cL_law 127 = .ok (.if_icmp .eq 149, 3) := by decide +kernel
theorem dL_law_130 : decode cL_law 130 = .ok (.iconst 0, 1) := by decide +kernel
theorem dL_law_131 : decode cL_law 131 = .ok (.ireturn, 1) := by decide +kernel
theorem dL_law_132 : decode cL_law 132 = .ok (.aload_n 1, 1) := by decide +kernel
theorem dL_law_133 : decode cL_law 133 = .ok (.aload_n 0, 1) := by decide +kernel
theorem dL_law_134 : decode cL_law 134 = .ok (.iload_n 3, 1) := by decide +kernel
theorem dL_law_135 : decode cL_law 135 = .ok (.iconst 1, 1) := by decide +kernel
theorem dL_law_136 : decode cL_law 136 = .ok (.iadd, 1) := by decide +kernel
theorem dL_law_137 : decode cL_law 137 = .ok (.iaload, 1) := by decide +kernel
theorem dL_law_138 : decode cL_law 138 = .ok (.invokevirtual 22, 3) := by decide +kernel
theorem dL_law_141 : decode cL_law 141 = .ok (.aload_n 2, 1) := by decide +kernel
theorem dL_law_142 : decode cL_law 142 = .ok (.aload_n 0, 1) := by decide +kernel
theorem dL_law_143 : decode cL_law 143 = .ok (.iload_n 3, 1) := by decide +kernel
theorem dL_law_144 : decode cL_law 144 = .ok (.iconst 1, 1) := by decide +kernel
theorem dL_law_145 : decode cL_law 145 = .ok (.iadd, 1) := by decide +kernel
theorem dL_law_146 : decode cL_law 146 = .ok (.iaload, 1) := by decide +kernel
theorem dL_law_147 : decode cL_law 147 = .ok (.invokevirtual 26, 3) := by decide +kernel
theorem dL_law_150 : decode cL_law 150 = .ok (.if_icmp .eq 126, 3) := by decide +kernel
theorem dL_law_153 : decode cL_law 153 = .ok (.iconst 0, 1) := by decide +kernel
theorem dL_law_154 : decode cL_law 154 = .ok (.ireturn, 1) := by decide +kernel
theorem dL_law_155 : decode cL_law 155 = .ok (.aload_n 1, 1) := by decide +kernel
theorem dL_law_156 : decode cL_law 156 = .ok (.invokevirtual 27, 3) := by decide +kernel
theorem dL_law_159 : decode cL_law 159 = .ok (.aload_n 2, 1) := by decide +kernel
theorem dL_law_160 : decode cL_law 160 = .ok (.invokevirtual 31, 3) := by decide +kernel
theorem dL_law_163 : decode cL_law 163 = .ok (.if_icmp .eq 113, 3) := by decide +kernel
theorem dL_law_166 : decode cL_law 166 = .ok (.iconst 0, 1) := by decide +kernel
theorem dL_law_167 : decode cL_law 167 = .ok (.ireturn, 1) := by decide +kernel
theorem dL_law_168 : decode cL_law 168 = .ok (.aload_n 1, 1) := by decide +kernel
theorem dL_law_169 : decode cL_law 169 = .ok (.aload_n 0, 1) := by decide +kernel
theorem dL_law_170 : decode cL_law 170 = .ok (.iload_n 3, 1) := by decide +kernel
theorem dL_law_171 : decode cL_law 171 = .ok (.iconst 1, 1) := by decide +kernel
theorem dL_law_172 : decode cL_law 172 = .ok (.iadd, 1) := by decide +kernel
theorem dL_law_173 : decode cL_law 173 = .ok (.iaload, 1) := by decide +kernel
theorem dL_law_174 : decode cL_law 174 = .ok (.invokevirtual 32, 3) := by decide +kernel
theorem dL_law_177 : decode cL_law 177 = .ok (.aload_n 2, 1) := by decide +kernel
theorem dL_law_178 : decode cL_law 178 = .ok (.aload_n 0, 1) := by decide +kernel
theorem dL_law_179 : decode cL_law 179 = .ok (.iload_n 3, 1) := by decide +kernel
theorem dL_law_180 : decode cL_law 180 = .ok (.iconst 1, 1) := by decide +kernel
theorem dL_law_181 : decode cL_law 181 = .ok (.iadd, 1) := by decide +kernel
theorem dL_law_182 : decode cL_law 182 = .ok (.iaload, 1) := by decide +kernel
theorem dL_law_183 : decode cL_law 183 = .ok (.invokevirtual 35, 3) := by decide +kernel
theorem dL_law_186 : decode cL_law 186 = .ok (.if_icmp .eq 90, 3) := by decide +kernel
theorem dL_law_189 : decode cL_law 189 = .ok (.iconst 0, 1) := by decide +kernel
theorem dL_law_190 : decode cL_law 190 = .ok (.ireturn, 1) := by decide +kernel
theorem dL_law_191 : decode cL_law 191 = .ok (.aload_n 1, 1) := by decide +kernel
theorem dL_law_192 : decode cL_law 192 = .ok (.aload_n 0, 1) := by decide +kernel
theorem dL_law_193 : decode cL_law 193 = .ok (.iload_n 3, 1) := by decide +kernel
theorem dL_law_194 : decode cL_law 194 = .ok (.iconst 1, 1) := by decide +kernel
theorem dL_law_195 : decode cL_law 195 = .ok (.iadd, 1) := by decide +kernel
theorem dL_law_196 : decode cL_law 196 = .ok (.iaload, 1) := by decide +kernel
theorem dL_law_197 : decode cL_law 197 = .ok (.invokevirtual 36, 3) := by decide +kernel
theorem dL_law_200 : decode cL_law 200 = .ok (.aload_n 2, 1) := by decide +kernel
theorem dL_law_201 : decode cL_law 201 = .ok (.aload_n 0, 1) := by decide +kernel
theorem dL_law_202 : decode cL_law 202 = .ok (.iload_n 3, 1) := by decide +kernel
theorem dL_law_203 : decode cL_law 203 = .ok (.iconst 1, 1) := by decide +kernel
theorem dL_law_204 : decode cL_law 204 = .ok (.iadd, 1) := by decide +kernel
theorem dL_law_205 : decode cL_law 205 = .ok (.iaload, 1) := by decide +kernel
theorem dL_law_206 : decode cL_law 206 = .ok (.invokevirtual 39, 3) := by decide +kernel
theorem dL_law_209 : decode cL_law 209 = .ok (.if_icmp .eq 67, 3) := by decide +kernel
theorem dL_law_212 : decode cL_law 212 = .ok (.iconst 0, 1) := by decide +kernel
theorem dL_law_213 : decode cL_law 213 = .ok (.ireturn, 1) := by decide +kernel
theorem dL_law_214 : decode cL_law 214 = .ok (.aload_n 1, 1) := by decide +kernel
theorem dL_law_215 : decode cL_law 215 = .ok (.aload_n 0, 1) := by decide +kernel
theorem dL_law_216 : decode cL_law 216 = .ok (.iload_n 3, 1) := by decide +kernel
theorem dL_law_217 : decode cL_law 217 = .ok (.iconst 1, 1) := by decide +kernel
theorem dL_law_218 : decode cL_law 218 = .ok (.iadd, 1) := by decide +kernel
theorem dL_law_219 : decode cL_law 219 = .ok (.iaload, 1) := by decide +kernel
theorem dL_law_220 : decode cL_law 220 = .ok (.invokevirtual 40, 3) := by decide +kernel
theorem dL_law_223 : decode cL_law 223 = .ok (.aload_n 2, 1) := by decide +kernel
theorem dL_law_224 : decode cL_law 224 = .ok (.aload_n 0, 1) := by decide +kernel
theorem dL_law_225 : decode cL_law 225 = .ok (.iload_n 3, 1) := by decide +kernel
theorem dL_law_226 : decode cL_law 226 = .ok (.iconst 1, 1) := by decide +kernel
theorem dL_law_227 : decode cL_law 227 = .ok (.iadd, 1) := by decide +kernel
theorem dL_law_228 : decode cL_law 228 = .ok (.iaload, 1) := by decide +kernel
theorem dL_law_229 : decode cL_law 229 = .ok (.invokevirtual 44, 3) := by decide +kernel
theorem dL_law_232 : decode cL_law 232 = .ok (.if_icmp .eq 44, 3) := by decide +kernel
theorem dL_law_235 : decode cL_law 235 = .ok (.iconst 0, 1) := by decide +kernel
theorem dL_law_236 : decode cL_law 236 = .ok (.ireturn, 1) := by decide +kernel
theorem dL_law_237 : decode cL_law 237 = .ok (.aload_n 1, 1) := by decide +kernel
theorem dL_law_238 : decode cL_law 238 = .ok (.invokevirtual 45, 3) := by decide +kernel
theorem dL_law_241 : decode cL_law 241 = .ok (.aload_n 2, 1) := by decide +kernel
theorem dL_law_242 : decode cL_law 242 = .ok (.invokevirtual 48, 3) := by decide +kernel
theorem dL_law_245 : decode cL_law 245 = .ok (.if_icmp .eq 31, 3) := by decide +kernel
theorem dL_law_248 : decode cL_law 248 = .ok (.iconst 0, 1) := by decide +kernel
theorem dL_law_249 : decode cL_law 249 = .ok (.ireturn, 1) := by decide +kernel
theorem dL_law_250 : decode cL_law 250 = .ok (.aload_n 1, 1) := by decide +kernel
theorem dL_law_251 : decode cL_law 251 = .ok (.invokevirtual 49, 3) := by decide +kernel
theorem dL_law_254 : decode cL_law 254 = .ok (.aload_n 2, 1) := by decide +kernel
theorem dL_law_255 : decode cL_law 255 = .ok (.invokevirtual 52, 3) := by decide +kernel
theorem dL_law_258 : decode cL_law 258 = .ok (.if_icmp .eq 18, 3) := by decide +kernel
theorem dL_law_261 : decode cL_law 261 = .ok (.iconst 0, 1) := by decide +kernel
theorem dL_law_262 : decode cL_law 262 = .ok (.ireturn, 1) := by decide +kernel
theorem dL_law_263 : decode cL_law 263 = .ok (.aload_n 1, 1) := by decide +kernel
theorem dL_law_264 : decode cL_law 264 = .ok (.invokevirtual 53, 3) := by decide +kernel
theorem dL_law_267 : decode cL_law 267 = .ok (.aload_n 2, 1) := by decide +kernel
theorem dL_law_268 : decode cL_law 268 = .ok (.invokevirtual 56, 3) := by decide +kernel
theorem dL_law_271 : decode cL_law 271 = .ok (.if_icmp .eq 5, 3) := by decide +kernel
theorem dL_law_274 : decode cL_law 274 = .ok (.iconst 0, 1) := by decide +kernel
theorem dL_law_275 : decode cL_law 275 = .ok (.ireturn, 1) := by decide +kernel
theorem dL_law_276 : decode cL_law 276 = .ok (.iinc 3 3, 3) := by decide +kernel
theorem dL_law_279 : decode cL_law 279 = .ok (.goto (-261), 3) := by decide +kernel
theorem dL_law_282 : decode cL_law 282 = .ok (.iconst 1, 1) := by decide +kernel
theorem dL_law_283 : decode cL_law 283 = .ok (.ireturn, 1) := by decide +kernel
