theorem dX6_init_25 : decode cX6_init 25 = .ok (.putfield 16, 3) := by decide +kernel
theorem dX6_init_28 : decode cX6_init 28 = .ok (.aload_n 0, 1) := by decide +kernel
theorem dX6_init_29 : decode cX6_init 29 = .ok (.bipush 12, 2) := by decide +kernel
theorem dX6_init_31 : decode cX6_init 31 = .ok (.newarray .int, 2) := by decide +kernel
theorem dX6_init_33 : decode cX6_init 33 = .ok (.putfield 19, 3) := by decide +kernel
theorem dX6_init_36 : decode cX6_init 36 = .ok (.aload_n 0, 1) := by decide +kernel
theorem dX6_init_37 : decode cX6_init 37 = .ok (.bipush 16, 2) := by decide +kernel
theorem dX6_init_39 : decode cX6_init 39 = .ok (.newarray .int, 2) := by decide +kernel
theorem dX6_init_41 : decode cX6_init 41 = .ok (.putfield 22, 3) := by decide +kernel
theorem dX6_init_44 : decode cX6_init 44 = .ok (.aload_n 0, 1) := by decide +kernel
theorem dX6_init_45 : decode cX6_init 45 = .ok (.bipush 60, 2) := by decide +kernel
theorem dX6_init_47 : decode cX6_init 47 = .ok (.newarray .int, 2) := by decide +kernel
theorem dX6_init_49 : decode cX6_init 49 = .ok (.putfield 25, 3) := by decide +kernel
theorem dX6_init_52 : decode cX6_init 52 = .ok (.aload_n 0, 1) := by decide +kernel
theorem dX6_init_53 : decode cX6_init 53 = .ok (.sipush 288, 3) := by decide +kernel
theorem dX6_init_56 : decode cX6_init 56 = .ok (.newarray .int, 2) := by decide +kernel
theorem dX6_init_58 : decode cX6_init 58 = .ok (.putfield 28, 3) := by decide +kernel
theorem dX6_init_61 : decode cX6_init 61 = .ok (.aload_n 0, 1) := by decide +kernel
theorem dX6_init_62 : decode cX6_init 62 = .ok (.bipush 12, 2) := by decide +kernel
theorem dX6_init_64 : decode cX6_init 64 = .ok (.newarray .int, 2) := by decide +kernel
theorem dX6_init_66 : decode cX6_init 66 = .ok (.putfield 31, 3) := by decide +kernel
theorem dX6_init_69 : decode cX6_init 69 = .ok (.aload_n 0, 1) := by decide +kernel
theorem dX6_init_70 : decode cX6_init 70 = .ok (.bipush 12, 2) := by decide +kernel
theorem dX6_init_72 : decode cX6_init 72 = .ok (.newarray .int, 2) := by decide +kernel
theorem dX6_init_74 : decode cX6_init 74 = .ok (.putfield 34, 3) := by decide +kernel
theorem dX6_init_77 : decode cX6_init 77 = .ok (.aload_n 0, 1) := by decide +kernel
theorem dX6_init_78 : decode cX6_init 78 = .ok (.sipush 1000, 3) := by decide +kernel
theorem dX6_init_81 : decode cX6_init 81 = .ok (.newarray .int, 2) := by decide +kernel
theorem dX6_init_83 : decode cX6_init 83 = .ok (.putfield 37, 3) := by decide +kernel
theorem dX6_init_86 : decode cX6_init 86 = .ok (.aload_n 0, 1) := by decide +kernel
theorem dX6_init_87 : decode cX6_init 87 = .ok (.bipush 13, 2) := by decide +kernel
theorem dX6_init_89 : decode cX6_init 89 = .ok (.newarray .int, 2) := by decide +kernel
theorem dX6_init_91 : decode cX6_init 91 = .ok (.putfield 40, 3) := by decide +kernel
theorem dX6_init_94 : decode cX6_init 94 = .ok (.aload_n 0, 1) := by decide +kernel
theorem dX6_init_95 : decode cX6_init 95 = .ok (.bipush 32, 2) := by decide +kernel
theorem dX6_init_97 : decode cX6_init 97 = .ok (.newarray .boolean, 2) := by decide +kernel
theorem dX6_init_99 : decode cX6_init 99 = .ok (.putfield 43, 3) := by decide +kernel
theorem dX6_init_102 : decode cX6_init 102 = .ok (.aload_n 0, 1) := by decide +kernel
theorem dX6_init_103 : decode cX6_init 103 = .ok (.sipush 240, 3) := by decide +kernel
theorem dX6_init_106 : decode cX6_init 106 = .ok (.newarray .int, 2) := by decide +kernel
theorem dX6_init_108 : decode cX6_init 108 = .ok (.putfield 47, 3) := by decide +kernel
theorem dX6_init_111 : decode cX6_init 111 = .ok (.aload_n 0, 1) := by decide +kernel
theorem dX6_init_112 : decode cX6_init 112 = .ok (.iconst 2, 1) := by decide +kernel
theorem dX6_init_113 : decode cX6_init 113 = .ok (.newarray .boolean, 2) := by decide +kernel
theorem dX6_init_115 : decode cX6_init 115 = .ok (.putfield 50, 3) := by decide +kernel
theorem dX6_init_118 : decode cX6_init 118 = .ok (.iconst 0, 1) := by decide +kernel
theorem dX6_init_119 : decode cX6_init 119 = .ok (.istore_n 1, 1) := by decide +kernel
theorem dX6_init_120 : decode cX6_init 120 = .ok (.iload_n 1, 1) := by decide +kernel
theorem dX6_init_121 : decode cX6_init 121 = .ok (.bipush 12, 2) := by decide +kernel
theorem dX6_init_123 : decode cX6_init 123 = .ok (.if_icmp .ge 21, 3) := by decide +kernel
theorem dX6_init_126 : decode cX6_init 126 = .ok (.aload_n 0, 1) := by decide +kernel
theorem dX6_init_127 : decode cX6_init 127 = .ok (.getfield 7, 3) := by decide +kernel
theorem dX6_init_130 : decode cX6_init 130 = .ok (.bipush 48, 2) := by decide +kernel
theorem dX6_init_132 : decode cX6_init 132 = .ok (.iload_n 1, 1) := by decide +kernel
theorem dX6_init_133 : decode cX6_init 133 = .ok (.iadd, 1) := by decide +kernel
theorem dX6_init_134 : decode cX6_init 134 = .ok (.iconst 1, 1) := by decide +kernel
theorem dX6_init_135 : decode cX6_init 135 = .ok (.iload_n 1, 1) := by decide +kernel
theorem dX6_init_136 : decode cX6_init 136 = .ok (.ishl, 1) := by decide +kernel
theorem dX6_init_137 : decode cX6_init 137 = .ok (.iastore, 1) := by decide +kernel
theorem dX6_init_138 : decode cX6_init 138 = .ok (.iinc 1 1, 3) := by decide +kernel
theorem dX6_init_141 : decode cX6_init 141 = .ok (.goto (-21), 3) := by decide +kernel
theorem dX6_init_144 : decode cX6_init 144 = .ok (.iconst 0, 1) := by decide +kernel
theorem dX6_init_145 : decode cX6_init 145 = .ok (.istore_n 1, 1) := by decide +kernel
theorem dX6_init_146 : decode cX6_init 146 = .ok (.iload_n 1, 1) := by decide +kernel
theorem dX6_init_147 : decode cX6_init 147 = .ok (.bipush 6, 2) := by decide +kernel
theorem dX6_init_149 : decode cX6_init 149 = .ok (.if_icmp .ge 20, 3) := by decide +kernel
theorem dX6_init_152 : decode cX6_init 152 = .ok (.aload_n 0, 1) := by decide +kernel
theorem dX6_init_153 : decode cX6_init 153 = .ok (.getfield 7, 3) := by decide +kernel
theorem dX6_init_156 : decode cX6_init 156 = .ok (.bipush 60, 2) := by decide +kernel
theorem dX6_init_158 : decode cX6_init 158 = .ok (.iload_n 1, 1) := by decide +kernel
theorem dX6_init_159 : decode cX6_init 159 = .ok (.iadd, 1) := by decide +kernel
theorem dX6_init_160 : decode cX6_init 160 = .ok (.bipush 100, 2) := by decide +kernel
theorem dX6_init_162 : decode cX6_init 162 = .ok (.iastore, 1) := by decide +kernel
theorem dX6_init_163 : decode cX6_init 163 = .ok (.iinc 1 1, 3) := by decide +kernel
theorem dX6_init_166 : decode cX6_init 166 = .ok (.goto (-20), 3) := by decide +kernel
theorem dX6_init_169 : decode cX6_init 169 = .ok (.aload_n 0, 1) := by decide +kernel
theorem dX6_init_170 : decode cX6_init 170 = .ok (.getfield 7, 3) := by decide +kernel
theorem dX6_init_173 : decode cX6_init 173 = .ok (.bipush 67, 2) := by decide +kernel
theorem dX6_init_175 : decode cX6_init 175 = .ok (.bipush 20, 2) := by decide +kernel
theorem dX6_init_177 : decode cX6_init 177 = .ok (.iastore, 1) := by decide +kernel
theorem dX6_init_178 : decode cX6_init 178 = .ok (.return_, 1) := by decide +kernel
theorem dX6_in_0 : decode cX6_in 0 = .ok (.iload_n 0, 1) := by decide +kernel
theorem dX6_in_1 : decode cX6_in 1 = .ok (.iload_n 1, 1) := by decide +kernel
theorem dX6_in_2 : decode cX6_in 2 = .ok (.if_icmp .lt 12, 3) := by decide +kernel
theorem dX6_in_5 : decode cX6_in 5 = .ok (.iload_n 0, 1) := by decide +kernel
theorem dX6_in_6 : decode cX6_in 6 = .ok (.iload_n 2, 1) := by decide +kernel
theorem dX6_in_7 : decode cX6_in 7 = .ok (.if_icmp .gt 7, 3) := by decide +kernel
theorem dX6_in_10 : decode cX6_in 10 = .ok (.iconst 1, 1) := by decide +kernel
theorem dX6_in_11 : decode cX6_in 11 = .ok (.goto 4, 3) := by decide +kernel
theorem dX6_in_14 : decode cX6_in 14 = .ok (.iconst 0, 1) := by decide +kernel
theorem dX6_in_15 : decode cX6_in 15 = .ok (.ireturn, 1) := by decide +kernel
theorem dX6_isIn_0 : decode cX6_isIn 0 = .ok (.iload_n 0, 1) := by decide +kernel
theorem dX6_isIn_1 : decode cX6_isIn 1 = .ok (.iload_n 1, 1) := by decide +kernel
theorem dX6_isIn_2 : decode cX6_isIn 2 = .ok (.ishr, 1) := by decide +kernel
theorem dX6_isIn_3 : decode cX6_isIn 3 = .ok (.iconst 1, 1) := by decide +kernel
theorem dX6_isIn_4 : decode cX6_isIn 4 = .ok (.iand, 1) := by decide +kernel
theorem dX6_isIn_5 : decode cX6_isIn 5 = .ok (.iconst 1, 1) := by decide +kernel
theorem dX6_isIn_6 : decode cX6_isIn 6 = .ok (.if_icmp .ne 7, 3) := by decide +kernel
theorem dX6_isIn_9 : decode cX6_isIn 9 = .ok (.iconst 1, 1) := by decide +kernel
theorem dX6_isIn_10 : decode cX6_isIn 10 = .ok (.goto 4, 3) := by decide +kernel
theorem dX6_isIn_13 : decode cX6_isIn 13 = .ok (.iconst 0, 1) := by decide +kernel
theorem dX6_isIn_14 : decode cX6_isIn 14 = .ok (.ireturn, 1) := by decide +kernel
theorem dX6_bits_0 : decode cX6_bits 0 = .ok (.iconst 0, 1) := by decide +kernel
theorem dX6_bits_1 : decode cX6_bits 1 = .ok (.istore_n 1, 1) := by decide +kernel
theorem dX6_bits_2 : decode cX6_bits 2 = .ok (.iconst 0, 1) := by decide +kernel
theorem dX6_bits_3 : decode cX6_bits 3 = .ok (.istore_n 2, 1) := by decide +kernel
theorem dX6_bits_4 : decode cX6_bits 4 = .ok (.iload_n 2, 1) := by decide +kernel
theorem dX6_bits_5 : decode cX6_bits 5 = .ok (.bipush 12, 2) := by decide +kernel
theorem dX6_bits_7 : decode cX6_bits 7 = .ok (.if_icmp .ge 17, 3) := by decide +kernel
theorem dX6_bits_10 : decode cX6_bits 10 = .ok (.iload_n 1, 1) := by decide +kernel
theorem dX6_bits_11 : decode cX6_bits 11 = .ok (.iload_n 0, 1) := by decide +kernel
theorem dX6_bits_12 : decode cX6_bits 12 = .ok (.iload_n 2, 1) := by decide +kernel
theorem dX6_bits_13 : decode cX6_bits 13 = .ok (.ishr, 1) := by decide +kernel
theorem dX6_bits_14 : decode cX6_bits 14 = .ok (.iconst 1, 1) := by decide +kernel
theorem dX6_bits_15 : decode cX6_bits 15 = .ok (.iand, 1) := by decide +kernel
theorem dX6_bits_16 : decode cX6_bits 16 = .ok (.iadd, 1) := by decide +kernel
theorem dX6_bits_17 : decode cX6_bits 17 = .ok (.istore_n 1, 1) := by decide +kernel
theorem dX6_bits_18 : decode cX6_bits 18 = .ok (.iinc 2 1, 3) := by decide +kernel
theorem dX6_bits_21 : decode cX6_bits 21 = .ok (.goto (-17), 3) := by decide +kernel
theorem dX6_bits_24 : decode cX6_bits 24 = .ok (.iload_n 1, 1) := by decide +kernel
theorem dX6_bits_25 : decode cX6_bits 25 = .ok (.ireturn, 1) := by decide +kernel
set_option maxRecDepth 20000 in
theorem ggX6_isCandle_X6_in : GoodIn wsX6_isCandle wsX6_in := goodIn_r _ [4] (by decide +kernel) (by decide +kernel)
set_option maxRecDepth 20000 in
theorem gX6_isCandle_X6_in : GoodIn wsX6_isCandle (va_wsS RX6 53 yX6_in wsX6_in) := goodIn_app (goodIn_of _ (by decide +kernel)) ggX6_isCandle_X6_in
theorem dX6_isCandle_0 : decode cX6_isCandle 0 = .ok (.iload_n 0, 1) := by decide +kernel
theorem dX6_isCandle_1 : decode cX6_isCandle 1 = .ok (.iconst 0, 1) := by decide +kernel
theorem dX6_isCandle_2 : decode cX6_isCandle 2 = .ok (.bipush 11, 2) := by decide +kernel
theorem dX6_isCandle_4 : decode cX6_isCandle 4 = .ok (.invokestatic 53, 3) := by decide +kernel
theorem dX6_isCandle_7 : decode cX6_isCandle 7 = .ok (.ireturn, 1) := by decide +kernel
set_option maxRecDepth 20000 in
theorem ggX6_isOne_X6_in : GoodIn wsX6_isOne wsX6_in := goodIn_r _ [4] (by decide +kernel) (by decide +kernel)
set_option maxRecDepth 20000 in
theorem gX6_isOne_X6_in : GoodIn wsX6_isOne (va_wsS RX6 53 yX6_in wsX6_in) := goodIn_app (goodIn_of _ (by decide +kernel)) ggX6_isOne_X6_in
theorem dX6_isOne_0 : decode cX6_isOne 0 = .ok (.iload_n 0, 1) := by decide +kernel
theorem dX6_isOne_1 : decode cX6_isOne 1 = .ok (.iconst 0, 1) := by decide +kernel
theorem dX6_isOne_2 : decode cX6_isOne 2 = .ok (.iconst 5, 1) := by decide +kernel
theorem dX6_isOne_3 : decode cX6_isOne 3 = .ok (.invokestatic 53, 3) := by decide +kernel
theorem dX6_isOne_6 : decode cX6_isOne 6 = .ok (.ireturn, 1) := by decide +kernel
set_option maxRecDepth 20000 in
theorem ggX6_candle_X6_isCandle : GoodIn wsX6_candle wsX6_isCandle := goodIn_r _ [8, 9, 10, 7, 11] (by decide +kernel) (by decide +kernel)
set_option maxRecDepth 20000 in
theorem gX6_candle_X6_isCandle : GoodIn wsX6_candle (va_wsS RX6 57 yX6_isCandle wsX6_isCandle) := goodIn_app (goodIn_of _ (by decide +kernel)) ggX6_candle_X6_isCandle
set_option maxRecDepth 20000 in
theorem ggX6_candle_X6_isOne : GoodIn wsX6_candle wsX6_isOne := goodIn_r _ [14, 9, 10, 7, 11] (by decide +kernel) (by decide +kernel)
set_option maxRecDepth 20000 in
theorem gX6_candle_X6_isOne : GoodIn wsX6_candle (va_wsS RX6 61 yX6_isOne wsX6_isOne) := goodIn_app (goodIn_of _ (by decide +kernel)) ggX6_candle_X6_isOne
set_option maxRecDepth 20000 in
theorem ggX6_candle_X6_in : GoodIn wsX6_candle wsX6_in := goodIn_r _ [11] (by decide +kernel) (by decide +kernel)
set_option maxRecDepth 20000 in
theorem gX6_candle_X6_in : GoodIn wsX6_candle (va_wsS RX6 53 yX6_in wsX6_in) := goodIn_app (goodIn_of _ (by decide +kernel)) ggX6_candle_X6_in
set_option maxRecDepth 20000 in
theorem ggX6_candle_X6_asNow : GoodIn wsX6_candle wsX6_asNow := goodIn_r _ [18, 2, 1, 19, 20, 21, 26, 27, 28, 29, 30, 31, 32, 33, 34, 35, 36, 37, 38, 39, 40, 41, 42, 43, 44, 45, 46, 47] (by decide +kernel) (by decide +kernel)
set_option maxRecDepth 20000 in
theorem gX6_candle_X6_asNow : GoodIn wsX6_candle (wsV RX6 64 RX6 yX6_asNow wsX6_asNow) := goodIn_app (goodIn_of _ (by decide +kernel)) ggX6_candle_X6_asNow
set_option maxRecDepth 20000 in
theorem ggX6_candle_X6_leaveJoined : GoodIn wsX6_candle wsX6_leaveJoined := goodIn_r _ [25, 2, 26, 27, 28, 29, 30, 31, 32, 33, 34, 35, 36, 37, 38, 39, 40, 41, 42, 43, 44, 45, 46, 47] (by decide +kernel) (by decide +kernel)
set_option maxRecDepth 20000 in
theorem gX6_candle_X6_leaveJoined : GoodIn wsX6_candle (wsV RX6 67 RX6 yX6_leaveJoined wsX6_leaveJoined) := goodIn_app (goodIn_of _ (by decide +kernel)) ggX6_candle_X6_leaveJoined
theorem dX6_candle_0 : decode cX6_candle 0 = .ok (.iload_n 1, 1) := by decide +kernel
theorem dX6_candle_1 : decode cX6_candle 1 = .ok (.invokestatic 57, 3) := by decide +kernel
theorem dX6_candle_4 : decode cX6_candle 4 = .ok (.ifCond .eq 18, 3) := by decide +kernel
theorem dX6_candle_7 : decode cX6_candle 7 = .ok (.iload_n 3, 1) := by decide +kernel
theorem dX6_candle_8 : decode cX6_candle 8 = .ok (.invokestatic 61, 3) := by decide +kernel
theorem dX6_candle_11 : decode cX6_candle 11 = .ok (.ifCond .eq 11, 3) := by decide +kernel
theorem dX6_candle_14 : decode cX6_candle 14 = .ok (.iload 4, 2) := by decide +kernel
theorem dX6_candle_16 : decode cX6_candle 16 = .ok (.invokestatic 61, 3) := by decide +kernel
theorem dX6_candle_19 : decode cX6_candle 19 = .ok (.ifCond .ne 5, 3) := by decide +kernel
theorem dX6_candle_22 : decode cX6_candle 22 = .ok (.iconst (-1), 1) := by decide +kernel
theorem dX6_candle_23 : decode cX6_candle 23 = .ok (.ireturn, 1) := by decide +kernel
theorem dX6_candle_24 : decode cX6_candle 24 = .ok (.iload_n 2, 1) := by decide +kernel
theorem dX6_candle_25 : decode cX6_candle 25 = .ok (.iconst 0, 1) := by decide +kernel
theorem dX6_candle_26 : decode cX6_candle 26 = .ok (.sipush 999, 3) := by decide +kernel
theorem dX6_candle_29 : decode cX6_candle 29 = .ok (.invokestatic 53, 3) := by decide +kernel
theorem dX6_candle_32 : decode cX6_candle 32 = .ok (.ifCond .eq 15, 3) := by decide +kernel
theorem dX6_candle_35 : decode cX6_candle 35 = .ok (.iload 5, 2) := by decide +kernel
theorem dX6_candle_37 : decode cX6_candle 37 = .ok (.iconst 0, 1) := by decide +kernel
theorem dX6_candle_38 : decode cX6_candle 38 = .ok (.sipush 999, 3) := by decide +kernel
theorem dX6_candle_41 : decode cX6_candle 41 = .ok (.invokestatic 53, 3) := by decide +kernel
theorem dX6_candle_44 : decode cX6_candle 44 = .ok (.ifCond .ne 6, 3) := by decide +kernel
theorem dX6_candle_47 : decode cX6_candle 47 = .ok (.bipush (-2), 2) := by decide +kernel
theorem dX6_candle_49 : decode cX6_candle 49 = .ok (.ireturn, 1) := by decide +kernel
theorem dX6_candle_50 : decode cX6_candle 50 = .ok (.aload_n 0, 1) := by decide +kernel
theorem dX6_candle_51 : decode cX6_candle 51 = .ok (.getfield 7, 3) := by decide +kernel
theorem dX6_candle_54 : decode cX6_candle 54 = .ok (.iload_n 1, 1) := by decide +kernel
theorem dX6_candle_55 : decode cX6_candle 55 = .ok (.iaload, 1) := by decide +kernel
theorem dX6_candle_56 : decode cX6_candle 56 = .ok (.istore 6, 2) := by decide +kernel
theorem dX6_candle_58 : decode cX6_candle 58 = .ok (.aload_n 0, 1) := by decide +kernel
theorem dX6_candle_59 : decode cX6_candle 59 = .ok (.invokevirtual 64, 3) := by decide +kernel
theorem dX6_candle_62 : decode cX6_candle 62 = .ok (.aload_n 0, 1) := by decide +kernel
theorem dX6_candle_63 : decode cX6_candle 63 = .ok (.iload_n 1, 1) := by decide +kernel
theorem dX6_candle_64 : decode cX6_candle 64 = .ok (.invokevirtual 67, 3) := by decide +kernel
theorem dX6_candle_67 : decode cX6_candle 67 = .ok (.bipush 48, 2) := by decide +kernel
theorem dX6_candle_69 : decode cX6_candle 69 = .ok (.istore 7, 2) := by decide +kernel
theorem dX6_candle_71 : decode cX6_candle 71 = .ok (.iload 7, 2) := by decide +kernel
theorem dX6_candle_73 : decode cX6_candle 73 = .ok (.bipush 60, 2) := by decide +kernel
theorem dX6_candle_75 : decode cX6_candle 75 = .ok (.if_icmp .ge 23, 3) := by decide +kernel
theorem dX6_candle_78 : decode cX6_candle 78 = .ok (.aload_n 0, 1) := by decide +kernel
theorem dX6_candle_79 : decode cX6_candle 79 = .ok (.getfield 7, 3) := by decide +kernel
theorem dX6_candle_82 : decode cX6_candle 82 = .ok (.iload 7, 2) := by decide +kernel
theorem dX6_candle_84 : decode cX6_candle 84 = .ok (.aload_n 0, 1) := by decide +kernel
theorem dX6_candle_85 : decode cX6_candle 85 = .ok (.getfield 13, 3) := by decide +kernel
theorem dX6_candle_88 : decode cX6_candle 88 = .ok (.iload 7, 2) := by decide +kernel
theorem dX6_candle_90 : decode cX6_candle 90 = .ok (.iaload, 1) := by decide +kernel
theorem dX6_candle_91 : decode cX6_candle 91 = .ok (.iastore, 1) := by decide +kernel
theorem dX6_candle_92 : decode cX6_candle 92 = .ok (.iinc 7 1, 3) := by decide +kernel
theorem dX6_candle_95 : decode cX6_candle 95 = .ok (.goto (-24), 3) := by decide +kernel
theorem dX6_candle_98 : decode cX6_candle 98 = .ok (.aload_n 0, 1) := by decide +kernel
theorem dX6_candle_99 : decode cX6_candle 99 = .ok (.getfield 7, 3) := by decide +kernel
theorem dX6_candle_102 : decode cX6_candle 102 = .ok (.iload_n 1, 1) := by decide +kernel
theorem dX6_candle_103 : decode cX6_candle 103 = .ok (.iload_n 2, 1) := by decide +kernel
theorem dX6_candle_104 : decode cX6_candle 104 = .ok (.iastore, 1) := by decide +kernel
theorem dX6_candle_105 : decode cX6_candle 105 = .ok (.aload_n 0, 1) := by decide +kernel
theorem dX6_candle_106 : decode cX6_candle 106 = .ok (.getfield 7, 3) := by decide +kernel
theorem dX6_candle_109 : decode cX6_candle 109 = .ok (.bipush 12, 2) := by decide +kernel
theorem dX6_candle_111 : decode cX6_candle 111 = .ok (.iload_n 1, 1) := by decide +kernel
theorem dX6_candle_112 : decode cX6_candle 112 = .ok (.iadd, 1) := by decide +kernel
theorem dX6_candle_113 : decode cX6_candle 113 = .ok (.iload 5, 2) := by decide +kernel
theorem dX6_candle_115 : decode cX6_candle 115 = .ok (.iastore, 1) := by decide +kernel
theorem dX6_candle_116 : decode cX6_candle 116 = .ok (.aload_n 0, 1) := by decide +kernel
theorem dX6_candle_117 : decode cX6_candle 117 = .ok (.getfield 7, 3) := by decide +kernel
theorem dX6_candle_120 : decode cX6_candle 120 = .ok (.bipush 24, 2) := by decide +kernel
theorem dX6_candle_122 : decode cX6_candle 122 = .ok (.iload_n 1, 1) := by decide +kernel
theorem dX6_candle_123 : decode cX6_candle 123 = .ok (.iadd, 1) := by decide +kernel
theorem dX6_candle_124 : decode cX6_candle 124 = .ok (.iconst 0, 1) := by decide +kernel
theorem dX6_candle_125 : decode cX6_candle 125 = .ok (.iastore, 1) := by decide +kernel
theorem dX6_candle_126 : decode cX6_candle 126 = .ok (.aload_n 0, 1) := by decide +kernel
theorem dX6_candle_127 : decode cX6_candle 127 = .ok (.getfield 7, 3) := by decide +kernel
theorem dX6_candle_130 : decode cX6_candle 130 = .ok (.bipush 66, 2) := by decide +kernel
theorem dX6_candle_132 : decode cX6_candle 132 = .ok (.dup2, 1) := by decide +kernel
theorem dX6_candle_133 : decode cX6_candle 133 = .ok (.iaload, 1) := by decide +kernel
theorem dX6_candle_134 : decode cX6_candle 134 = .ok (.iconst 1, 1) := by decide +kernel
theorem dX6_candle_135 : decode cX6_candle 135 = .ok (.iload_n 1, 1) := by decide +kernel
theorem dX6_candle_136 : decode cX6_candle 136 = .ok (.ishl, 1) := by decide +kernel
theorem dX6_candle_137 : decode cX6_candle 137 = .ok (.iconst (-1), 1) := by decide +kernel
theorem dX6_candle_138 : decode cX6_candle 138 = .ok (.ixor, 1) := by decide +kernel
theorem dX6_candle_139 : decode cX6_candle 139 = .ok (.iand, 1) := by decide +kernel
theorem dX6_candle_140 : decode cX6_candle 140 = .ok (.iastore, 1) := by decide +kernel
theorem dX6_candle_141 : decode cX6_candle 141 = .ok (.aload_n 0, 1) := by decide +kernel
theorem dX6_candle_142 : decode cX6_candle 142 = .ok (.getfield 16, 3) := by decide +kernel
theorem dX6_candle_145 : decode cX6_candle 145 = .ok (.iload_n 1, 1) := by decide +kernel
theorem dX6_candle_146 : decode cX6_candle 146 = .ok (.iload_n 3, 1) := by decide +kernel
theorem dX6_candle_147 : decode cX6_candle 147 = .ok (.iastore, 1) := by decide +kernel
theorem dX6_candle_148 : decode cX6_candle 148 = .ok (.aload_n 0, 1) := by decide +kernel
theorem dX6_candle_149 : decode cX6_candle 149 = .ok (.getfield 19, 3) := by decide +kernel
theorem dX6_candle_152 : decode cX6_candle 152 = .ok (.iload_n 1, 1) := by decide +kernel
theorem dX6_candle_153 : decode cX6_candle 153 = .ok (.iload 4, 2) := by decide +kernel
theorem dX6_candle_155 : decode cX6_candle 155 = .ok (.iastore, 1) := by decide +kernel
theorem dX6_candle_156 : decode cX6_candle 156 = .ok (.iload 6, 2) := by decide +kernel
theorem dX6_candle_158 : decode cX6_candle 158 = .ok (.ireturn, 1) := by decide +kernel
set_option maxRecDepth 20000 in
theorem ggX6_draught_X6_isCandle : GoodIn wsX6_draught wsX6_isCandle := goodIn_r _ [5, 6, 7, 4, 8] (by decide +kernel) (by decide +kernel)
set_option maxRecDepth 20000 in
theorem gX6_draught_X6_isCandle : GoodIn wsX6_draught (va_wsS RX6 57 yX6_isCandle wsX6_isCandle) := goodIn_app (goodIn_of _ (by decide +kernel)) ggX6_draught_X6_isCandle
set_option maxRecDepth 20000 in
theorem ggX6_draught_X6_in : GoodIn wsX6_draught wsX6_in := goodIn_r _ [8] (by decide +kernel) (by decide +kernel)
set_option maxRecDepth 20000 in
theorem gX6_draught_X6_in : GoodIn wsX6_draught (va_wsS RX6 53 yX6_in wsX6_in) := goodIn_app (goodIn_of _ (by decide +kernel)) ggX6_draught_X6_in
theorem dX6_draught_0 : decode cX6_draught 0 = .ok (.iload_n 1, 1) := by decide +kernel
theorem dX6_draught_1 : decode cX6_draught 1 = .ok (.invokestatic 57, 3) := by decide +kernel
theorem dX6_draught_4 : decode cX6_draught 4 = .ok (.ifCond .ne 5, 3) := by decide +kernel
theorem dX6_draught_7 : decode cX6_draught 7 = .ok (.iconst (-1), 1) := by decide +kernel
theorem dX6_draught_8 : decode cX6_draught 8 = .ok (.ireturn, 1) := by decide +kernel
theorem dX6_draught_9 : decode cX6_draught 9 = .ok (.iload_n 2, 1) := by decide +kernel
theorem dX6_draught_10 : decode cX6_draught 10 = .ok (.iconst 0, 1) := by decide +kernel
theorem dX6_draught_11 : decode cX6_draught 11 = .ok (.bipush 9, 2) := by decide +kernel
theorem dX6_draught_13 : decode cX6_draught 13 = .ok (.invokestatic 53, 3) := by decide +kernel
theorem dX6_draught_16 : decode cX6_draught 16 = .ok (.ifCond .ne 6, 3) := by decide +kernel
theorem dX6_draught_19 : decode cX6_draught 19 = .ok (.bipush (-2), 2) := by decide +kernel
theorem dX6_draught_21 : decode cX6_draught 21 = .ok (.ireturn, 1) := by decide +kernel
theorem dX6_draught_22 : decode cX6_draught 22 = .ok (.aload_n 0, 1) := by decide +kernel
theorem dX6_draught_23 : decode cX6_draught 23 = .ok (.getfield 7, 3) := by decide +kernel
theorem dX6_draught_26 : decode cX6_draught 26 = .ok (.bipush 36, 2) := by decide +kernel
theorem dX6_draught_28 : decode cX6_draught 28 = .ok (.iload_n 1, 1) := by decide +kernel
theorem dX6_draught_29 : decode cX6_draught 29 = .ok (.iadd, 1) := by decide +kernel
theorem dX6_draught_30 : decode cX6_draught 30 = .ok (.iaload, 1) := by decide +kernel
theorem dX6_draught_31 : decode cX6_draught 31 = .ok (.istore_n 3, 1) := by decide +kernel
theorem dX6_draught_32 : decode cX6_draught 32 = .ok (.aload_n 0, 1) := by decide +kernel
theorem dX6_draught_33 : decode cX6_draught 33 = .ok (.getfield 7, 3) := by decide +kernel
theorem dX6_draught_36 : decode cX6_draught 36 = .ok (.bipush 36, 2) := by decide +kernel
theorem dX6_draught_38 : decode cX6_draught 38 = .ok (.iload_n 1, 1) := by decide +kernel
theorem dX6_draught_39 : decode cX6_draught 39 = .ok (.iadd, 1) := by decide +kernel
theorem dX6_draught_40 : decode cX6_draught 40 = .ok (.iload_n 2, 1) := by decide +kernel
theorem dX6_draught_41 : decode cX6_draught 41 = .ok (.iastore, 1) := by decide +kernel
theorem dX6_draught_42 : decode cX6_draught 42 = .ok (.iload_n 3, 1) := by decide +kernel
theorem dX6_draught_43 : decode cX6_draught 43 = .ok (.ireturn, 1) := by decide +kernel
set_option maxRecDepth 20000 in
theorem ggX6_purse_X6_isOne : GoodIn wsX6_purse wsX6_isOne := goodIn_r _ [5, 6, 7, 4, 8] (by decide +kernel) (by decide +kernel)
set_option maxRecDepth 20000 in
theorem gX6_purse_X6_isOne : GoodIn wsX6_purse (va_wsS RX6 61 yX6_isOne wsX6_isOne) := goodIn_app (goodIn_of _ (by decide +kernel)) ggX6_purse_X6_isOne
set_option maxRecDepth 20000 in
theorem ggX6_purse_X6_in : GoodIn wsX6_purse wsX6_in := goodIn_r _ [8] (by decide +kernel) (by decide +kernel)
set_option maxRecDepth 20000 in
theorem gX6_purse_X6_in : GoodIn wsX6_purse (va_wsS RX6 53 yX6_in wsX6_in) := goodIn_app (goodIn_of _ (by decide +kernel)) ggX6_purse_X6_in
theorem dX6_purse_0 : decode cX6_purse 0 = .ok (.iload_n 1, 1) := by decide +kernel
theorem dX6_purse_1 : decode cX6_purse 1 = .ok (.invokestatic 61, 3) := by decide +kernel
theorem dX6_purse_4 : decode cX6_purse 4 = .ok (.ifCond .ne 5, 3) := by decide +kernel
theorem dX6_purse_7 : decode cX6_purse 7 = .ok (.iconst (-1), 1) := by decide +kernel
theorem dX6_purse_8 : decode cX6_purse 8 = .ok (.ireturn, 1) := by decide +kernel
theorem dX6_purse_9 : decode cX6_purse 9 = .ok (.iload_n 2, 1) := by decide +kernel
theorem dX6_purse_10 : decode cX6_purse 10 = .ok (.iconst 0, 1) := by decide +kernel
theorem dX6_purse_11 : decode cX6_purse 11 = .ok (.sipush 9999, 3) := by decide +kernel
theorem dX6_purse_14 : decode cX6_purse 14 = .ok (.invokestatic 53, 3) := by decide +kernel
theorem dX6_purse_17 : decode cX6_purse 17 = .ok (.ifCond .ne 6, 3) := by decide +kernel
theorem dX6_purse_20 : decode cX6_purse 20 = .ok (.bipush (-2), 2) := by decide +kernel
theorem dX6_purse_22 : decode cX6_purse 22 = .ok (.ireturn, 1) := by decide +kernel
theorem dX6_purse_23 : decode cX6_purse 23 = .ok (.aload_n 0, 1) := by decide +kernel
theorem dX6_purse_24 : decode cX6_purse 24 = .ok (.getfield 7, 3) := by decide +kernel
theorem dX6_purse_27 : decode cX6_purse 27 = .ok (.bipush 60, 2) := by decide +kernel
theorem dX6_purse_29 : decode cX6_purse 29 = .ok (.iload_n 1, 1) := by decide +kernel
theorem dX6_purse_30 : decode cX6_purse 30 = .ok (.iadd, 1) := by decide +kernel
theorem dX6_purse_31 : decode cX6_purse 31 = .ok (.iaload, 1) := by decide +kernel
theorem dX6_purse_32 : decode cX6_purse 32 = .ok (.istore_n 3, 1) := by decide +kernel
theorem dX6_purse_33 : decode cX6_purse 33 = .ok (.aload_n 0, 1) := by decide +kernel
theorem dX6_purse_34 : decode cX6_purse 34 = .ok (.getfield 7, 3) := by decide +kernel
theorem dX6_purse_37 : decode cX6_purse 37 = .ok (.bipush 60, 2) := by decide +kernel
theorem dX6_purse_39 : decode cX6_purse 39 = .ok (.iload_n 1, 1) := by decide +kernel
theorem dX6_purse_40 : decode cX6_purse 40 = .ok (.iadd, 1) := by decide +kernel
theorem dX6_purse_41 : decode cX6_purse 41 = .ok (.iload_n 2, 1) := by decide +kernel
theorem dX6_purse_42 : decode cX6_purse 42 = .ok (.iastore, 1) := by decide +kernel
theorem dX6_purse_43 : decode cX6_purse 43 = .ok (.iload_n 3, 1) := by decide +kernel
theorem dX6_purse_44 : decode cX6_purse 44 = .ok (.ireturn, 1) := by decide +kernel
set_option maxRecDepth 20000 in
theorem ggX6_matches_X6_in : GoodIn wsX6_matches wsX6_in := goodIn_r _ [5] (by decide +kernel) (by decide +kernel)
set_option maxRecDepth 20000 in
theorem gX6_matches_X6_in : GoodIn wsX6_matches (va_wsS RX6 53 yX6_in wsX6_in) := goodIn_app (goodIn_of _ (by decide +kernel)) ggX6_matches_X6_in
theorem dX6_matches_0 : decode cX6_matches 0 = .ok (.iload_n 1, 1) := by decide +kernel
theorem dX6_matches_1 : decode cX6_matches 1 = .ok (.iconst 0, 1) := by decide +kernel
theorem dX6_matches_2 : decode cX6_matches 2 = .ok (.bipush 99, 2) := by decide +kernel
theorem dX6_matches_4 : decode cX6_matches 4 = .ok (.invokestatic 53, 3) := by decide +kernel
theorem dX6_matches_7 : decode cX6_matches 7 = .ok (.ifCond .ne 6, 3) := by decide +kernel
theorem dX6_matches_10 : decode cX6_matches 10 = .ok (.bipush (-2), 2) := by decide +kernel
theorem dX6_matches_12 : decode cX6_matches 12 = .ok (.ireturn, 1) := by decide +kernel
theorem dX6_matches_13 : decode cX6_matches 13 = .ok (.aload_n 0, 1) := by decide +kernel
theorem dX6_matches_14 : decode cX6_matches 14 = .ok (.getfield 7, 3) := by decide +kernel
theorem dX6_matches_17 : decode cX6_matches 17 = .ok (.bipush 67, 2) := by decide +kernel
theorem dX6_matches_19 : decode cX6_matches 19 = .ok (.iaload, 1) := by decide +kernel
theorem dX6_matches_20 : decode cX6_matches 20 = .ok (.istore_n 2, 1) := by decide +kernel
theorem dX6_matches_21 : decode cX6_matches 21 = .ok (.aload_n 0, 1) := by decide +kernel
theorem dX6_matches_22 : decode cX6_matches 22 = .ok (.getfield 7, 3) := by decide +kernel
theorem dX6_matches_25 : decode cX6_matches 25 = .ok (.bipush 67, 2) := by decide +kernel
theorem dX6_matches_27 : decode cX6_matches 27 = .ok (.iload_n 1, 1) := by decide +kernel
theorem dX6_matches_28 : decode cX6_matches 28 = .ok (.iastore, 1) := by decide +kernel
theorem dX6_matches_29 : decode cX6_matches 29 = .ok (.iload_n 2, 1) := by decide +kernel
theorem dX6_matches_30 : decode cX6_matches 30 = .ok (.ireturn, 1) := by decide +kernel
set_option maxRecDepth 20000 in
theorem ggX6_say_X6_in : GoodIn wsX6_say wsX6_in := goodIn_r _ [6] (by decide +kernel) (by decide +kernel)
set_option maxRecDepth 20000 in
theorem gX6_say_X6_in : GoodIn wsX6_say (va_wsS RX6 53 yX6_in wsX6_in) := goodIn_app (goodIn_of _ (by decide +kernel)) ggX6_say_X6_in
theorem dX6_say_0 : decode cX6_say 0 = .ok (.iload_n 1, 1) := by decide +kernel
theorem dX6_say_1 : decode cX6_say 1 = .ok (.bipush 33, 2) := by decide +kernel
theorem dX6_say_3 : decode cX6_say 3 = .ok (.bipush 126, 2) := by decide +kernel
theorem dX6_say_5 : decode cX6_say 5 = .ok (.invokestatic 53, 3) := by decide +kernel
theorem dX6_say_8 : decode cX6_say 8 = .ok (.ifCond .ne 6, 3) := by decide +kernel
theorem dX6_say_11 : decode cX6_say 11 = .ok (.bipush (-2), 2) := by decide +kernel
theorem dX6_say_13 : decode cX6_say 13 = .ok (.ireturn, 1) := by decide +kernel
theorem dX6_say_14 : decode cX6_say 14 = .ok (.aload_n 0, 1) := by decide +kernel
theorem dX6_say_15 : decode cX6_say 15 = .ok (.getfield 71, 3) := by decide +kernel
theorem dX6_say_18 : decode cX6_say 18 = .ok (.bipush 60, 2) := by decide +kernel
theorem dX6_say_20 : decode cX6_say 20 = .ok (.if_icmp .ne 6, 3) := by decide +kernel
theorem dX6_say_23 : decode cX6_say 23 = .ok (.bipush (-4), 2) := by decide +kernel
theorem dX6_say_25 : decode cX6_say 25 = .ok (.ireturn, 1) := by decide +kernel
theorem dX6_say_26 : decode cX6_say 26 = .ok (.aload_n 0, 1) := by decide +kernel
theorem dX6_say_27 : decode cX6_say 27 = .ok (.getfield 25, 3) := by decide +kernel
theorem dX6_say_30 : decode cX6_say 30 = .ok (.aload_n 0, 1) := by decide +kernel
theorem dX6_say_31 : decode cX6_say 31 = .ok (.getfield 71, 3) := by decide +kernel
theorem dX6_say_34 : decode cX6_say 34 = .ok (.iload_n 1, 1) := by decide +kernel
theorem dX6_say_35 : decode cX6_say 35 = .ok (.iastore, 1) := by decide +kernel
theorem dX6_say_36 : decode cX6_say 36 = .ok (.aload_n 0, 1) := by decide +kernel
theorem dX6_say_37 : decode cX6_say 37 = .ok (.dup, 1) := by decide +kernel
theorem dX6_say_38 : decode cX6_say 38 = .ok (.getfield 71, 3) := by decide +kernel
theorem dX6_say_41 : decode cX6_say 41 = .ok (.iconst 1, 1) := by decide +kernel
theorem dX6_say_42 : decode cX6_say 42 = .ok (.iadd, 1) := by decide +kernel
theorem dX6_say_43 : decode cX6_say 43 = .ok (.putfield 71, 3) := by decide +kernel
theorem dX6_say_46 : decode cX6_say 46 = .ok (.aload_n 0, 1) := by decide +kernel
theorem dX6_say_47 : decode cX6_say 47 = .ok (.getfield 71, 3) := by decide +kernel
theorem dX6_say_50 : decode cX6_say 50 = .ok (.ireturn, 1) := by decide +kernel
theorem dX6_wipe_0 : decode cX6_wipe 0 = .ok (.aload_n 0, 1) := by decide +kernel
theorem dX6_wipe_1 : decode cX6_wipe 1 = .ok (.getfield 71, 3) := by decide +kernel
theorem dX6_wipe_4 : decode cX6_wipe 4 = .ok (.istore_n 1, 1) := by decide +kernel
theorem dX6_wipe_5 : decode cX6_wipe 5 = .ok (.aload_n 0, 1) := by decide +kernel
theorem dX6_wipe_6 : decode cX6_wipe 6 = .ok (.iconst 0, 1) := by decide +kernel
theorem dX6_wipe_7 : decode cX6_wipe 7 = .ok (.putfield 71, 3) := by decide +kernel
theorem dX6_wipe_10 : decode cX6_wipe 10 = .ok (.iload_n 1, 1) := by decide +kernel
theorem dX6_wipe_11 : decode cX6_wipe 11 = .ok (.ireturn, 1) := by decide +kernel
set_option maxRecDepth 20000 in
theorem ggX6_isLetter_X6_in : GoodIn wsX6_isLetter wsX6_in := goodIn_r _ [4] (by decide +kernel) (by decide +kernel)
set_option maxRecDepth 20000 in
theorem gX6_isLetter_X6_in : GoodIn wsX6_isLetter (va_wsS RX6 53 yX6_in wsX6_in) := goodIn_app (goodIn_of _ (by decide +kernel)) ggX6_isLetter_X6_in
theorem dX6_isLetter_0 : decode cX6_isLetter 0 = .ok (.iload_n 0, 1) := by decide +kernel
theorem dX6_isLetter_1 : decode cX6_isLetter 1 = .ok (.bipush 97, 2) := by decide +kernel
theorem dX6_isLetter_3 : decode cX6_isLetter 3 = .ok (.bipush 108, 2) := by decide +kernel
theorem dX6_isLetter_5 : decode cX6_isLetter 5 = .ok (.invokestatic 53, 3) := by decide +kernel
theorem dX6_isLetter_8 : decode cX6_isLetter 8 = .ok (.ireturn, 1) := by decide +kernel
set_option maxRecDepth 20000 in
theorem ggX6_faultOf_X6_isLetter : GoodIn wsX6_faultOf wsX6_isLetter := goodIn_r _ [6, 7, 8, 5, 9] (by decide +kernel) (by decide +kernel)
set_option maxRecDepth 20000 in
theorem gX6_faultOf_X6_isLetter : GoodIn wsX6_faultOf (va_wsS RX6 75 yX6_isLetter wsX6_isLetter) := goodIn_app (goodIn_of _ (by decide +kernel)) ggX6_faultOf_X6_isLetter
set_option maxRecDepth 20000 in
theorem ggX6_faultOf_X6_in : GoodIn wsX6_faultOf wsX6_in := goodIn_r _ [9] (by decide +kernel) (by decide +kernel)
set_option maxRecDepth 20000 in
theorem gX6_faultOf_X6_in : GoodIn wsX6_faultOf (va_wsS RX6 53 yX6_in wsX6_in) := goodIn_app (goodIn_of _ (by decide +kernel)) ggX6_faultOf_X6_in
theorem dX6_faultOf_0 : decode cX6_faultOf 0 = .ok (.iconst 0, 1) := by decide +kernel
theorem dX6_faultOf_1 : decode cX6_faultOf 1 = .ok (.istore_n 1, 1) := by decide +kernel
theorem dX6_faultOf_2 : decode cX6_faultOf 2 = .ok (.iconst 0, 1) := by decide +kernel
theorem dX6_faultOf_3 : decode cX6_faultOf 3 = .ok (.istore_n 2, 1) := by decide +kernel
theorem dX6_faultOf_4 : decode cX6_faultOf 4 = .ok (.iload_n 2, 1) := by decide +kernel
theorem dX6_faultOf_5 : decode cX6_faultOf 5 = .ok (.aload_n 0, 1) := by decide +kernel
theorem dX6_faultOf_6 : decode cX6_faultOf 6 = .ok (.getfield 71, 3) := by decide +kernel
theorem dX6_faultOf_9 : decode cX6_faultOf 9 = .ok (.if_icmp .ge 180, 3) := by decide +kernel
theorem dX6_faultOf_12 : decode cX6_faultOf 12 = .ok (.aload_n 0, 1) := by decide +kernel
theorem dX6_faultOf_13 : decode cX6_faultOf 13 = .ok (.getfield 25, 3) := by decide +kernel
theorem dX6_faultOf_16 : decode cX6_faultOf 16 = .ok (.iload_n 2, 1) := by decide +kernel
theorem dX6_faultOf_17 : decode cX6_faultOf 17 = .ok (.iaload, 1) := by decide +kernel
theorem dX6_faultOf_18 : decode cX6_faultOf 18 = .ok (.istore_n 3, 1) := by decide +kernel
theorem dX6_faultOf_19 : decode cX6_faultOf 19 = .ok (.iconst 0, 1) := by decide +kernel
theorem dX6_faultOf_20 : decode cX6_faultOf 20 = .ok (.istore 5, 2) := by decide +kernel
theorem dX6_faultOf_22 : decode cX6_faultOf 22 = .ok (.iload_n 1, 1) := by decide +kernel
theorem dX6_faultOf_23 : decode cX6_faultOf 23 = .ok (.ifCond .ne 56, 3) := by decide +kernel
theorem dX6_faultOf_26 : decode cX6_faultOf 26 = .ok (.iload_n 3, 1) := by decide +kernel
theorem dX6_faultOf_27 : decode cX6_faultOf 27 = .ok (.invokestatic 75, 3) := by decide +kernel
theorem dX6_faultOf_30 : decode cX6_faultOf 30 = .ok (.ifCond .ne 15, 3) := by decide +kernel
theorem dX6_faultOf_33 : decode cX6_faultOf 33 = .ok (.iload_n 3, 1) := by decide +kernel
theorem dX6_faultOf_34 : decode cX6_faultOf 34 = .ok (.bipush 119, 2) := by decide +kernel
theorem dX6_faultOf_36 : decode cX6_faultOf 36 = .ok (.if_icmp .eq 9, 3) := by decide +kernel
theorem dX6_faultOf_39 : decode cX6_faultOf 39 = .ok (.iload_n 3, 1) := by decide +kernel
theorem dX6_faultOf_40 : decode cX6_faultOf 40 = .ok (.bipush 46, 2) := by decide +kernel
theorem dX6_faultOf_42 : decode cX6_faultOf 42 = .ok (.if_icmp .ne 7, 3) := by decide +kernel
theorem dX6_faultOf_45 : decode cX6_faultOf 45 = .ok (.iconst 1, 1) := by decide +kernel
theorem dX6_faultOf_46 : decode cX6_faultOf 46 = .ok (.goto 4, 3) := by decide +kernel
theorem dX6_faultOf_49 : decode cX6_faultOf 49 = .ok (.iconst 0, 1) := by decide +kernel
theorem dX6_faultOf_50 : decode cX6_faultOf 50 = .ok (.istore 4, 2) := by decide +kernel
theorem dX6_faultOf_52 : decode cX6_faultOf 52 = .ok (.iload_n 3, 1) := by decide +kernel
theorem dX6_faultOf_53 : decode cX6_faultOf 53 = .ok (.invokestatic 75, 3) := by decide +kernel
theorem dX6_faultOf_56 : decode cX6_faultOf 56 = .ok (.ifCond .eq 7, 3) := by decide +kernel
theorem dX6_faultOf_59 : decode cX6_faultOf 59 = .ok (.iconst 1, 1) := by decide +kernel
theorem dX6_faultOf_60 : decode cX6_faultOf 60 = .ok (.goto 14, 3) := by decide +kernel
theorem dX6_faultOf_63 : decode cX6_faultOf 63 = .ok (.iload_n 3, 1) := by decide +kernel
theorem dX6_faultOf_64 : decode cX6_faultOf 64 = .ok (.bipush 119, 2) := by decide +kernel
theorem dX6_faultOf_66 : decode cX6_faultOf 66 = .ok (.if_icmp .ne 7, 3) := by decide +kernel
theorem dX6_faultOf_69 : decode cX6_faultOf 69 = .ok (.iconst 3, 1) := by decide +kernel
theorem dX6_faultOf_70 : decode cX6_faultOf 70 = .ok (.goto 4, 3) := by decide +kernel
theorem dX6_faultOf_73 : decode cX6_faultOf 73 = .ok (.iconst 0, 1) := by decide +kernel
theorem dX6_faultOf_74 : decode cX6_faultOf 74 = .ok (.istore 5, 2) := by decide +kernel
theorem dX6_faultOf_76 : decode cX6_faultOf 76 = .ok (.goto 97, 3) := by decide +kernel
theorem dX6_faultOf_79 : decode cX6_faultOf 79 = .ok (.iload_n 1, 1) := by decide +kernel
theorem dX6_faultOf_80 : decode cX6_faultOf 80 = .ok (.iconst 1, 1) := by decide +kernel
theorem dX6_faultOf_81 : decode cX6_faultOf 81 = .ok (.if_icmp .ne 56, 3) := by decide +kernel
theorem dX6_faultOf_84 : decode cX6_faultOf 84 = .ok (.iload_n 3, 1) := by decide +kernel
theorem dX6_faultOf_85 : decode cX6_faultOf 85 = .ok (.bipush 42, 2) := by decide +kernel
theorem dX6_faultOf_87 : decode cX6_faultOf 87 = .ok (.if_icmp .eq 27, 3) := by decide +kernel
theorem dX6_faultOf_90 : decode cX6_faultOf 90 = .ok (.iload_n 3, 1) := by decide +kernel
theorem dX6_faultOf_91 : decode cX6_faultOf 91 = .ok (.bipush 45, 2) := by decide +kernel
theorem dX6_faultOf_93 : decode cX6_faultOf 93 = .ok (.if_icmp .eq 21, 3) := by decide +kernel
theorem dX6_faultOf_96 : decode cX6_faultOf 96 = .ok (.iload_n 3, 1) := by decide +kernel
theorem dX6_faultOf_97 : decode cX6_faultOf 97 = .ok (.bipush 33, 2) := by decide +kernel
theorem dX6_faultOf_99 : decode cX6_faultOf 99 = .ok (.if_icmp .eq 15, 3) := by decide +kernel
theorem dX6_faultOf_102 : decode cX6_faultOf 102 = .ok (.iload_n 3, 1) := by decide +kernel
theorem dX6_faultOf_103 : decode cX6_faultOf 103 = .ok (.bipush 94, 2) := by decide +kernel
theorem dX6_faultOf_105 : decode cX6_faultOf 105 = .ok (.if_icmp .eq 9, 3) := by decide +kernel
theorem dX6_faultOf_108 : decode cX6_faultOf 108 = .ok (.iload_n 3, 1) := by decide +kernel
theorem dX6_faultOf_109 : decode cX6_faultOf 109 = .ok (.bipush 62, 2) := by decide +kernel
theorem dX6_faultOf_111 : decode cX6_faultOf 111 = .ok (.if_icmp .ne 7, 3) := by decide +kernel
theorem dX6_faultOf_114 : decode cX6_faultOf 114 = .ok (.iconst 1, 1) := by decide +kernel
theorem dX6_faultOf_115 : decode cX6_faultOf 115 = .ok (.goto 4, 3) := by decide +kernel
theorem dX6_faultOf_118 : decode cX6_faultOf 118 = .ok (.iconst 0, 1) := by decide +kernel
theorem dX6_faultOf_119 : decode cX6_faultOf 119 = .ok (.istore 4, 2) := by decide +kernel
theorem dX6_faultOf_121 : decode cX6_faultOf 121 = .ok (.iload_n 3, 1) := by decide +kernel
theorem dX6_faultOf_122 : decode cX6_faultOf 122 = .ok (.bipush 62, 2) := by decide +kernel
theorem dX6_faultOf_124 : decode cX6_faultOf 124 = .ok (.if_icmp .ne 7, 3) := by decide +kernel
theorem dX6_faultOf_127 : decode cX6_faultOf 127 = .ok (.iconst 2, 1) := by decide +kernel
theorem dX6_faultOf_128 : decode cX6_faultOf 128 = .ok (.goto 4, 3) := by decide +kernel
theorem dX6_faultOf_131 : decode cX6_faultOf 131 = .ok (.iconst 0, 1) := by decide +kernel
theorem dX6_faultOf_132 : decode cX6_faultOf 132 = .ok (.istore 5, 2) := by decide +kernel
theorem dX6_faultOf_134 : decode cX6_faultOf 134 = .ok (.goto 39, 3) := by decide +kernel
theorem dX6_faultOf_137 : decode cX6_faultOf 137 = .ok (.iload_n 1, 1) := by decide +kernel
theorem dX6_faultOf_138 : decode cX6_faultOf 138 = .ok (.iconst 4, 1) := by decide +kernel
theorem dX6_faultOf_139 : decode cX6_faultOf 139 = .ok (.if_icmp .ne 16, 3) := by decide +kernel
theorem dX6_faultOf_142 : decode cX6_faultOf 142 = .ok (.iload_n 3, 1) := by decide +kernel
theorem dX6_faultOf_143 : decode cX6_faultOf 143 = .ok (.bipush 48, 2) := by decide +kernel
theorem dX6_faultOf_145 : decode cX6_faultOf 145 = .ok (.bipush 57, 2) := by decide +kernel
theorem dX6_faultOf_147 : decode cX6_faultOf 147 = .ok (.invokestatic 53, 3) := by decide +kernel
theorem dX6_faultOf_150 : decode cX6_faultOf 150 = .ok (.istore 4, 2) := by decide +kernel
theorem dX6_faultOf_152 : decode cX6_faultOf 152 = .ok (.goto 21, 3) := by decide +kernel
theorem dX6_faultOf_155 : decode cX6_faultOf 155 = .ok (.iload_n 3, 1) := by decide +kernel
theorem dX6_faultOf_156 : decode cX6_faultOf 156 = .ok (.invokestatic 75, 3) := by decide +kernel
theorem dX6_faultOf_159 : decode cX6_faultOf 159 = .ok (.istore 4, 2) := by decide +kernel
theorem dX6_faultOf_161 : decode cX6_faultOf 161 = .ok (.iload_n 1, 1) := by decide +kernel
theorem dX6_faultOf_162 : decode cX6_faultOf 162 = .ok (.iconst 3, 1) := by decide +kernel
theorem dX6_faultOf_163 : decode cX6_faultOf 163 = .ok (.if_icmp .ne 7, 3) := by decide +kernel
theorem dX6_faultOf_166 : decode cX6_faultOf 166 = .ok (.iconst 4, 1) := by decide +kernel
theorem dX6_faultOf_167 : decode cX6_faultOf 167 = .ok (.goto 4, 3) := by decide +kernel
theorem dX6_faultOf_170 : decode cX6_faultOf 170 = .ok (.iconst 0, 1) := by decide +kernel
theorem dX6_faultOf_171 : decode cX6_faultOf 171 = .ok (.istore 5, 2) := by decide +kernel
theorem dX6_faultOf_173 : decode cX6_faultOf 173 = .ok (.iload 4, 2) := by decide +kernel
theorem dX6_faultOf_175 : decode cX6_faultOf 175 = .ok (.ifCond .ne 5, 3) := by decide +kernel
theorem dX6_faultOf_178 : decode cX6_faultOf 178 = .ok (.iload_n 2, 1) := by decide +kernel
theorem dX6_faultOf_179 : decode cX6_faultOf 179 = .ok (.ireturn, 1) := by decide +kernel
theorem dX6_faultOf_180 : decode cX6_faultOf 180 = .ok (.iload 5, 2) := by decide +kernel
theorem dX6_faultOf_182 : decode cX6_faultOf 182 = .ok (.istore_n 1, 1) := by decide +kernel
theorem dX6_faultOf_183 : decode cX6_faultOf 183 = .ok (.iinc 2 1, 3) := by decide +kernel
theorem dX6_faultOf_186 : decode cX6_faultOf 186 = .ok (.goto (-182), 3) := by decide +kernel
theorem dX6_faultOf_189 : decode cX6_faultOf 189 = .ok (.iload_n 1, 1) := by decide +kernel
theorem dX6_faultOf_190 : decode cX6_faultOf 190 = .ok (.ifCond .ne 8, 3) := by decide +kernel
theorem dX6_faultOf_193 : decode cX6_faultOf 193 = .ok (.bipush (-6), 2) := by decide +kernel
theorem dX6_faultOf_195 : decode cX6_faultOf 195 = .ok (.goto 7, 3) := by decide +kernel
theorem dX6_faultOf_198 : decode cX6_faultOf 198 = .ok (.aload_n 0, 1) := by decide +kernel
theorem dX6_faultOf_199 : decode cX6_faultOf 199 = .ok (.getfield 71, 3) := by decide +kernel
theorem dX6_faultOf_202 : decode cX6_faultOf 202 = .ok (.ireturn, 1) := by decide +kernel
set_option maxRecDepth 20000 in
theorem ggX6_fault_X6_faultOf : GoodIn wsX6_fault wsX6_faultOf := goodIn_r _ [5, 6, 7, 8, 9, 4, 10, 11, 12, 13, 14, 15, 16, 17, 18, 19, 20, 21, 22, 23, 24, 25, 26, 27, 28, 29, 30, 31, 32, 33, 34, 35] (by decide +kernel) (by decide +kernel)
set_option maxRecDepth 20000 in
theorem gX6_fault_X6_faultOf : GoodIn wsX6_fault (wsV RX6 78 RX6 yX6_faultOf wsX6_faultOf) := goodIn_app (goodIn_of _ (by decide +kernel)) ggX6_fault_X6_faultOf
theorem dX6_fault_0 : decode cX6_fault 0 = .ok (.aload_n 0, 1) := by decide +kernel
theorem dX6_fault_1 : decode cX6_fault 1 = .ok (.invokevirtual 78, 3) := by decide +kernel
theorem dX6_fault_4 : decode cX6_fault 4 = .ok (.ireturn, 1) := by decide +kernel
theorem dX6_asNow_0 : decode cX6_asNow 0 = .ok (.iconst 0, 1) := by decide +kernel
theorem dX6_asNow_1 : decode cX6_asNow 1 = .ok (.istore_n 1, 1) := by decide +kernel
theorem dX6_asNow_2 : decode cX6_asNow 2 = .ok (.iload_n 1, 1) := by decide +kernel
theorem dX6_asNow_3 : decode cX6_asNow 3 = .ok (.bipush 69, 2) := by decide +kernel
theorem dX6_asNow_5 : decode cX6_asNow 5 = .ok (.if_icmp .ge 21, 3) := by decide +kernel
theorem dX6_asNow_8 : decode cX6_asNow 8 = .ok (.aload_n 0, 1) := by decide +kernel
theorem dX6_asNow_9 : decode cX6_asNow 9 = .ok (.getfield 13, 3) := by decide +kernel
theorem dX6_asNow_12 : decode cX6_asNow 12 = .ok (.iload_n 1, 1) := by decide +kernel
theorem dX6_asNow_13 : decode cX6_asNow 13 = .ok (.aload_n 0, 1) := by decide +kernel
theorem dX6_asNow_14 : decode cX6_asNow 14 = .ok (.getfield 7, 3) := by decide +kernel
theorem dX6_asNow_17 : decode cX6_asNow 17 = .ok (.iload_n 1, 1) := by decide +kernel
theorem dX6_asNow_18 : decode cX6_asNow 18 = .ok (.iaload, 1) := by decide +kernel
theorem dX6_asNow_19 : decode cX6_asNow 19 = .ok (.iastore, 1) := by decide +kernel
theorem dX6_asNow_20 : decode cX6_asNow 20 = .ok (.iinc 1 1, 3) := by decide +kernel
theorem dX6_asNow_23 : decode cX6_asNow 23 = .ok (.goto (-21), 3) := by decide +kernel
theorem dX6_asNow_26 : decode cX6_asNow 26 = .ok (.aload_n 0, 1) := by decide +kernel
theorem dX6_asNow_27 : decode cX6_asNow 27 = .ok (.iconst 0, 1) := by decide +kernel
theorem dX6_asNow_28 : decode cX6_asNow 28 = .ok (.putfield 82, 3) := by decide +kernel
theorem dX6_asNow_31 : decode cX6_asNow 31 = .ok (.aload_n 0, 1) := by decide +kernel
theorem dX6_asNow_32 : decode cX6_asNow 32 = .ok (.bipush (-6), 2) := by decide +kernel
theorem dX6_asNow_34 : decode cX6_asNow 34 = .ok (.putfield 85, 3) := by decide +kernel
theorem dX6_asNow_37 : decode cX6_asNow 37 = .ok (.aload_n 0, 1) := by decide +kernel
theorem dX6_asNow_38 : decode cX6_asNow 38 = .ok (.bipush (-6), 2) := by decide +kernel
theorem dX6_asNow_40 : decode cX6_asNow 40 = .ok (.putfield 88, 3) := by decide +kernel
theorem dX6_asNow_43 : decode cX6_asNow 43 = .ok (.return_, 1) := by decide +kernel
theorem dX6_leaveJoined_0 : decode cX6_leaveJoined 0 = .ok (.iconst 0, 1) := by decide +kernel
theorem dX6_leaveJoined_1 : decode cX6_leaveJoined 1 = .ok (.istore_n 2, 1) := by decide +kernel
theorem dX6_leaveJoined_2 : decode cX6_leaveJoined 2 = .ok (.iload_n 2, 1) := by decide +kernel
theorem dX6_leaveJoined_3 : decode cX6_leaveJoined 3 = .ok (.bipush 12, 2) := by decide +kernel
theorem dX6_leaveJoined_5 : decode cX6_leaveJoined 5 = .ok (.if_icmp .ge 26, 3) := by decide +kernel
theorem dX6_leaveJoined_8 : decode cX6_leaveJoined 8 = .ok (.aload_n 0, 1) := by decide +kernel
theorem dX6_leaveJoined_9 : decode cX6_leaveJoined 9 = .ok (.getfield 13, 3) := by decide +kernel
theorem dX6_leaveJoined_12 : decode cX6_leaveJoined 12 = .ok (.bipush 48, 2) := by decide +kernel
theorem dX6_leaveJoined_14 : decode cX6_leaveJoined 14 = .ok (.iload_n 2, 1) := by decide +kernel
theorem dX6_leaveJoined_15 : decode cX6_leaveJoined 15 = .ok (.iadd, 1) := by decide +kernel
theorem dX6_leaveJoined_16 : decode cX6_leaveJoined 16 = .ok (.dup2, 1) := by decide +kernel
theorem dX6_leaveJoined_17 : decode cX6_leaveJoined 17 = .ok (.iaload, 1) := by decide +kernel
theorem dX6_leaveJoined_18 : decode cX6_leaveJoined 18 = .ok (.iconst 1, 1) := by decide +kernel
theorem dX6_leaveJoined_19 : decode cX6_leaveJoined 19 = .ok (.iload_n 1, 1) := by decide +kernel
theorem dX6_leaveJoined_20 : decode cX6_leaveJoined 20 = .ok (.ishl, 1) := by decide +kernel
theorem dX6_leaveJoined_21 : decode cX6_leaveJoined 21 = .ok (.iconst (-1), 1) := by decide +kernel
theorem dX6_leaveJoined_22 : decode cX6_leaveJoined 22 = .ok (.ixor, 1) := by decide +kernel
theorem dX6_leaveJoined_23 : decode cX6_leaveJoined 23 = .ok (.iand, 1) := by decide +kernel
theorem dX6_leaveJoined_24 : decode cX6_leaveJoined 24 = .ok (.iastore, 1) := by decide +kernel
theorem dX6_leaveJoined_25 : decode cX6_leaveJoined 25 = .ok (.iinc 2 1, 3) := by decide +kernel
theorem dX6_leaveJoined_28 : decode cX6_leaveJoined 28 = .ok (.goto (-26), 3) := by decide +kernel
theorem dX6_leaveJoined_31 : decode cX6_leaveJoined 31 = .ok (.aload_n 0, 1) := by decide +kernel
theorem dX6_leaveJoined_32 : decode cX6_leaveJoined 32 = .ok (.getfield 13, 3) := by decide +kernel
theorem dX6_leaveJoined_35 : decode cX6_leaveJoined 35 = .ok (.bipush 48, 2) := by decide +kernel
theorem dX6_leaveJoined_37 : decode cX6_leaveJoined 37 = .ok (.iload_n 1, 1) := by decide +kernel
theorem dX6_leaveJoined_38 : decode cX6_leaveJoined 38 = .ok (.iadd, 1) := by decide +kernel
theorem dX6_leaveJoined_39 : decode cX6_leaveJoined 39 = .ok (.iconst 1, 1) := by decide +kernel
theorem dX6_leaveJoined_40 : decode cX6_leaveJoined 40 = .ok (.iload_n 1, 1) := by decide +kernel
theorem dX6_leaveJoined_41 : decode cX6_leaveJoined 41 = .ok (.ishl, 1) := by decide +kernel
theorem dX6_leaveJoined_42 : decode cX6_leaveJoined 42 = .ok (.iastore, 1) := by decide +kernel
theorem dX6_leaveJoined_43 : decode cX6_leaveJoined 43 = .ok (.return_, 1) := by decide +kernel
set_option maxRecDepth 20000 in
theorem ggX6_isLit_X6_isIn : GoodIn wsX6_isLit wsX6_isIn := goodIn_r _ [5] (by decide +kernel) (by decide +kernel)
set_option maxRecDepth 20000 in
theorem gX6_isLit_X6_isIn : GoodIn wsX6_isLit (va_wsS RX6 91 yX6_isIn wsX6_isIn) := goodIn_app (goodIn_of _ (by decide +kernel)) ggX6_isLit_X6_isIn
theorem dX6_isLit_0 : decode cX6_isLit 0 = .ok (.aload_n 0, 1) := by decide +kernel
theorem dX6_isLit_1 : decode cX6_isLit 1 = .ok (.getfield 13, 3) := by decide +kernel
theorem dX6_isLit_4 : decode cX6_isLit 4 = .ok (.bipush 66, 2) := by decide +kernel
theorem dX6_isLit_6 : decode cX6_isLit 6 = .ok (.iaload, 1) := by decide +kernel
theorem dX6_isLit_7 : decode cX6_isLit 7 = .ok (.iload_n 1, 1) := by decide +kernel
theorem dX6_isLit_8 : decode cX6_isLit 8 = .ok (.invokestatic 91, 3) := by decide +kernel
theorem dX6_isLit_11 : decode cX6_isLit 11 = .ok (.ireturn, 1) := by decide +kernel
set_option maxRecDepth 20000 in
theorem ggX6_strike_X6_isLit : GoodIn wsX6_strike wsX6_isLit := goodIn_r _ [6, 1, 7, 8, 5, 9, 14, 15, 16, 17, 18, 19, 20, 21, 22, 23, 24, 25, 26, 27, 28, 29, 30, 31, 32, 33, 34, 35] (by decide +kernel) (by decide +kernel)
set_option maxRecDepth 20000 in
theorem gX6_strike_X6_isLit : GoodIn wsX6_strike (wsV RX6 95 RX6 yX6_isLit wsX6_isLit) := goodIn_app (goodIn_of _ (by decide +kernel)) ggX6_strike_X6_isLit
set_option maxRecDepth 20000 in
theorem ggX6_strike_X6_leaveJoined : GoodIn wsX6_strike wsX6_leaveJoined := goodIn_r _ [13, 1, 14, 15, 16, 17, 18, 19, 20, 21, 22, 23, 24, 25, 26, 27, 28, 29, 30, 31, 32, 33, 34, 35] (by decide +kernel) (by decide +kernel)
set_option maxRecDepth 20000 in
theorem gX6_strike_X6_leaveJoined : GoodIn wsX6_strike (wsV RX6 67 RX6 yX6_leaveJoined wsX6_leaveJoined) := goodIn_app (goodIn_of _ (by decide +kernel)) ggX6_strike_X6_leaveJoined
theorem dX6_strike_0 : decode cX6_strike 0 = .ok (.aload_n 0, 1) := by decide +kernel
theorem dX6_strike_1 : decode cX6_strike 1 = .ok (.getfield 13, 3) := by decide +kernel
theorem dX6_strike_4 : decode cX6_strike 4 = .ok (.iload_n 1, 1) := by decide +kernel
theorem dX6_strike_5 : decode cX6_strike 5 = .ok (.iaload, 1) := by decide +kernel
theorem dX6_strike_6 : decode cX6_strike 6 = .ok (.ifCond .ne 5, 3) := by decide +kernel
theorem dX6_strike_9 : decode cX6_strike 9 = .ok (.iconst 1, 1) := by decide +kernel
theorem dX6_strike_10 : decode cX6_strike 10 = .ok (.ireturn, 1) := by decide +kernel
theorem dX6_strike_11 : decode cX6_strike 11 = .ok (.aload_n 0, 1) := by decide +kernel
theorem dX6_strike_12 : decode cX6_strike 12 = .ok (.iload_n 1, 1) := by decide +kernel
theorem dX6_strike_13 : decode cX6_strike 13 = .ok (.invokevirtual 95, 3) := by decide +kernel
theorem dX6_strike_16 : decode cX6_strike 16 = .ok (.ifCond .eq 5, 3) := by decide +kernel
theorem dX6_strike_19 : decode cX6_strike 19 = .ok (.iconst 2, 1) := by decide +kernel
theorem dX6_strike_20 : decode cX6_strike 20 = .ok (.ireturn, 1) := by decide +kernel
theorem dX6_strike_21 : decode cX6_strike 21 = .ok (.aload_n 0, 1) := by decide +kernel
theorem dX6_strike_22 : decode cX6_strike 22 = .ok (.getfield 13, 3) := by decide +kernel
theorem dX6_strike_25 : decode cX6_strike 25 = .ok (.bipush 67, 2) := by decide +kernel
theorem dX6_strike_27 : decode cX6_strike 27 = .ok (.iaload, 1) := by decide +kernel
theorem dX6_strike_28 : decode cX6_strike 28 = .ok (.ifCond .ne 5, 3) := by decide +kernel
theorem dX6_strike_31 : decode cX6_strike 31 = .ok (.iconst 3, 1) := by decide +kernel
theorem dX6_strike_32 : decode cX6_strike 32 = .ok (.ireturn, 1) := by decide +kernel
theorem dX6_strike_33 : decode cX6_strike 33 = .ok (.aload_n 0, 1) := by decide +kernel
theorem dX6_strike_34 : decode cX6_strike 34 = .ok (.getfield 13, 3) := by decide +kernel
theorem dX6_strike_37 : decode cX6_strike 37 = .ok (.bipush 67, 2) := by decide +kernel
theorem dX6_strike_39 : decode cX6_strike 39 = .ok (.dup2, 1) := by decide +kernel
theorem dX6_strike_40 : decode cX6_strike 40 = .ok (.iaload, 1) := by decide +kernel
theorem dX6_strike_41 : decode cX6_strike 41 = .ok (.iconst 1, 1) := by decide +kernel
theorem dX6_strike_42 : decode cX6_strike 42 = .ok (.isub, 1) := by decide +kernel
theorem dX6_strike_43 : decode cX6_strike 43 = .ok (.iastore, 1) := by decide +kernel
theorem dX6_strike_44 : decode cX6_strike 44 = .ok (.aload_n 0, 1) := by decide +kernel
theorem dX6_strike_45 : decode cX6_strike 45 = .ok (.getfield 13, 3) := by decide +kernel
theorem dX6_strike_48 : decode cX6_strike 48 = .ok (.bipush 66, 2) := by decide +kernel
theorem dX6_strike_50 : decode cX6_strike 50 = .ok (.dup2, 1) := by decide +kernel
theorem dX6_strike_51 : decode cX6_strike 51 = .ok (.iaload, 1) := by decide +kernel
theorem dX6_strike_52 : decode cX6_strike 52 = .ok (.iconst 1, 1) := by decide +kernel
theorem dX6_strike_53 : decode cX6_strike 53 = .ok (.iload_n 1, 1) := by decide +kernel
theorem dX6_strike_54 : decode cX6_strike 54 = .ok (.ishl, 1) := by decide +kernel
theorem dX6_strike_55 : decode cX6_strike 55 = .ok (.ior, 1) := by decide +kernel
theorem dX6_strike_56 : decode cX6_strike 56 = .ok (.iastore, 1) := by decide +kernel
theorem dX6_strike_57 : decode cX6_strike 57 = .ok (.aload_n 0, 1) := by decide +kernel
theorem dX6_strike_58 : decode cX6_strike 58 = .ok (.iload_n 1, 1) := by decide +kernel
theorem dX6_strike_59 : decode cX6_strike 59 = .ok (.invokevirtual 67, 3) := by decide +kernel
theorem dX6_strike_62 : decode cX6_strike 62 = .ok (.iconst 0, 1) := by decide +kernel
theorem dX6_strike_63 : decode cX6_strike 63 = .ok (.ireturn, 1) := by decide +kernel
set_option maxRecDepth 20000 in
theorem ggX6_snuffOut_X6_isLit : GoodIn wsX6_snuffOut wsX6_isLit := goodIn_r _ [6, 1, 7, 8, 5, 9, 10, 11, 12, 13, 14, 15, 16, 17, 18, 19, 20, 21, 22, 23, 24, 25, 26, 27, 28, 29, 30, 31] (by decide +kernel) (by decide +kernel)
set_option maxRecDepth 20000 in
theorem gX6_snuffOut_X6_isLit : GoodIn wsX6_snuffOut (wsV RX6 95 RX6 yX6_isLit wsX6_isLit) := goodIn_app (goodIn_of _ (by decide +kernel)) ggX6_snuffOut_X6_isLit
theorem dX6_snuffOut_0 : decode cX6_snuffOut 0 = .ok (.aload_n 0, 1) := by decide +kernel
theorem dX6_snuffOut_1 : decode cX6_snuffOut 1 = .ok (.iload_n 1, 1) := by decide +kernel
theorem dX6_snuffOut_2 : decode cX6_snuffOut 2 = .ok (.invokevirtual 95, 3) := by decide +kernel
theorem dX6_snuffOut_5 : decode cX6_snuffOut 5 = .ok (.ifCond .ne 5, 3) := by decide +kernel
theorem dX6_snuffOut_8 : decode cX6_snuffOut 8 = .ok (.iconst 2, 1) := by decide +kernel
theorem dX6_snuffOut_9 : decode cX6_snuffOut 9 = .ok (.ireturn, 1) := by decide +kernel
theorem dX6_snuffOut_10 : decode cX6_snuffOut 10 = .ok (.aload_n 0, 1) := by decide +kernel
theorem dX6_snuffOut_11 : decode cX6_snuffOut 11 = .ok (.getfield 13, 3) := by decide +kernel
theorem dX6_snuffOut_14 : decode cX6_snuffOut 14 = .ok (.bipush 66, 2) := by decide +kernel
theorem dX6_snuffOut_16 : decode cX6_snuffOut 16 = .ok (.dup2, 1) := by decide +kernel
theorem dX6_snuffOut_17 : decode cX6_snuffOut 17 = .ok (.iaload, 1) := by decide +kernel
theorem dX6_snuffOut_18 : decode cX6_snuffOut 18 = .ok (.aload_n 0, 1) := by decide +kernel
theorem dX6_snuffOut_19 : decode cX6_snuffOut 19 = .ok (.getfield 13, 3) := by decide +kernel
theorem dX6_snuffOut_22 : decode cX6_snuffOut 22 = .ok (.bipush 48, 2) := by decide +kernel
theorem dX6_snuffOut_24 : decode cX6_snuffOut 24 = .ok (.iload_n 1, 1) := by decide +kernel
theorem dX6_snuffOut_25 : decode cX6_snuffOut 25 = .ok (.iadd, 1) := by decide +kernel
theorem dX6_snuffOut_26 : decode cX6_snuffOut 26 = .ok (.iaload, 1) := by decide +kernel
theorem dX6_snuffOut_27 : decode cX6_snuffOut 27 = .ok (.iconst (-1), 1) := by decide +kernel
theorem dX6_snuffOut_28 : decode cX6_snuffOut 28 = .ok (.ixor, 1) := by decide +kernel
theorem dX6_snuffOut_29 : decode cX6_snuffOut 29 = .ok (.iand, 1) := by decide +kernel
theorem dX6_snuffOut_30 : decode cX6_snuffOut 30 = .ok (.iastore, 1) := by decide +kernel
theorem dX6_snuffOut_31 : decode cX6_snuffOut 31 = .ok (.iconst 0, 1) := by decide +kernel
theorem dX6_snuffOut_32 : decode cX6_snuffOut 32 = .ok (.ireturn, 1) := by decide +kernel
set_option maxRecDepth 20000 in
theorem ggX6_askFor_X6_isLit : GoodIn wsX6_askFor wsX6_isLit := goodIn_r _ [9, 1, 10, 11, 8, 12, 13, 14, 15, 16, 17, 18, 19, 20, 21, 22, 23, 24, 25, 26, 27, 28, 29, 30, 31, 32, 33, 34] (by decide +kernel) (by decide +kernel)
set_option maxRecDepth 20000 in
theorem gX6_askFor_X6_isLit : GoodIn wsX6_askFor (wsV RX6 95 RX6 yX6_isLit wsX6_isLit) := goodIn_app (goodIn_of _ (by decide +kernel)) ggX6_askFor_X6_isLit
theorem dX6_askFor_0 : decode cX6_askFor 0 = .ok (.aload_n 0, 1) := by decide +kernel
theorem dX6_askFor_1 : decode cX6_askFor 1 = .ok (.iload_n 1, 1) := by decide +kernel
theorem dX6_askFor_2 : decode cX6_askFor 2 = .ok (.invokevirtual 95, 3) := by decide +kernel
theorem dX6_askFor_5 : decode cX6_askFor 5 = .ok (.ifCond .ne 5, 3) := by decide +kernel
theorem dX6_askFor_8 : decode cX6_askFor 8 = .ok (.iconst 2, 1) := by decide +kernel
theorem dX6_askFor_9 : decode cX6_askFor 9 = .ok (.ireturn, 1) := by decide +kernel
theorem dX6_askFor_10 : decode cX6_askFor 10 = .ok (.aload_n 0, 1) := by decide +kernel
theorem dX6_askFor_11 : decode cX6_askFor 11 = .ok (.getfield 13, 3) := by decide +kernel
theorem dX6_askFor_14 : decode cX6_askFor 14 = .ok (.bipush 12, 2) := by decide +kernel
theorem dX6_askFor_16 : decode cX6_askFor 16 = .ok (.iload_n 1, 1) := by decide +kernel
theorem dX6_askFor_17 : decode cX6_askFor 17 = .ok (.iadd, 1) := by decide +kernel
theorem dX6_askFor_18 : decode cX6_askFor 18 = .ok (.iaload, 1) := by decide +kernel
theorem dX6_askFor_19 : decode cX6_askFor 19 = .ok (.ifCond .ne 5, 3) := by decide +kernel
theorem dX6_askFor_22 : decode cX6_askFor 22 = .ok (.iconst 5, 1) := by decide +kernel
theorem dX6_askFor_23 : decode cX6_askFor 23 = .ok (.ireturn, 1) := by decide +kernel
theorem dX6_askFor_24 : decode cX6_askFor 24 = .ok (.bipush 60, 2) := by decide +kernel
theorem dX6_askFor_26 : decode cX6_askFor 26 = .ok (.aload_n 0, 1) := by decide +kernel
theorem dX6_askFor_27 : decode cX6_askFor 27 = .ok (.getfield 19, 3) := by decide +kernel
theorem dX6_askFor_30 : decode cX6_askFor 30 = .ok (.iload_n 1, 1) := by decide +kernel
theorem dX6_askFor_31 : decode cX6_askFor 31 = .ok (.iaload, 1) := by decide +kernel
theorem dX6_askFor_32 : decode cX6_askFor 32 = .ok (.iadd, 1) := by decide +kernel
theorem dX6_askFor_33 : decode cX6_askFor 33 = .ok (.istore_n 2, 1) := by decide +kernel
theorem dX6_askFor_34 : decode cX6_askFor 34 = .ok (.bipush 60, 2) := by decide +kernel
theorem dX6_askFor_36 : decode cX6_askFor 36 = .ok (.aload_n 0, 1) := by decide +kernel
theorem dX6_askFor_37 : decode cX6_askFor 37 = .ok (.getfield 16, 3) := by decide +kernel
theorem dX6_askFor_40 : decode cX6_askFor 40 = .ok (.iload_n 1, 1) := by decide +kernel
theorem dX6_askFor_41 : decode cX6_askFor 41 = .ok (.iaload, 1) := by decide +kernel
theorem dX6_askFor_42 : decode cX6_askFor 42 = .ok (.iadd, 1) := by decide +kernel
theorem dX6_askFor_43 : decode cX6_askFor 43 = .ok (.istore_n 3, 1) := by decide +kernel
theorem dX6_askFor_44 : decode cX6_askFor 44 = .ok (.aload_n 0, 1) := by decide +kernel
theorem dX6_askFor_45 : decode cX6_askFor 45 = .ok (.getfield 13, 3) := by decide +kernel
theorem dX6_askFor_48 : decode cX6_askFor 48 = .ok (.bipush 12, 2) := by decide +kernel
theorem dX6_askFor_50 : decode cX6_askFor 50 = .ok (.iload_n 1, 1) := by decide +kernel
theorem dX6_askFor_51 : decode cX6_askFor 51 = .ok (.iadd, 1) := by decide +kernel
theorem dX6_askFor_52 : decode cX6_askFor 52 = .ok (.iaload, 1) := by decide +kernel
theorem dX6_askFor_53 : decode cX6_askFor 53 = .ok (.aload_n 0, 1) := by decide +kernel
theorem dX6_askFor_54 : decode cX6_askFor 54 = .ok (.getfield 13, 3) := by decide +kernel
theorem dX6_askFor_57 : decode cX6_askFor 57 = .ok (.iload_n 2, 1) := by decide +kernel
theorem dX6_askFor_58 : decode cX6_askFor 58 = .ok (.iaload, 1) := by decide +kernel
theorem dX6_askFor_59 : decode cX6_askFor 59 = .ok (.if_icmp .ge 15, 3) := by decide +kernel
theorem dX6_askFor_62 : decode cX6_askFor 62 = .ok (.aload_n 0, 1) := by decide +kernel
theorem dX6_askFor_63 : decode cX6_askFor 63 = .ok (.getfield 13, 3) := by decide +kernel
theorem dX6_askFor_66 : decode cX6_askFor 66 = .ok (.bipush 12, 2) := by decide +kernel
theorem dX6_askFor_68 : decode cX6_askFor 68 = .ok (.iload_n 1, 1) := by decide +kernel
theorem dX6_askFor_69 : decode cX6_askFor 69 = .ok (.iadd, 1) := by decide +kernel
theorem dX6_askFor_70 : decode cX6_askFor 70 = .ok (.iaload, 1) := by decide +kernel
theorem dX6_askFor_71 : decode cX6_askFor 71 = .ok (.goto 9, 3) := by decide +kernel
theorem dX6_askFor_74 : decode cX6_askFor 74 = .ok (.aload_n 0, 1) := by decide +kernel
theorem dX6_askFor_75 : decode cX6_askFor 75 = .ok (.getfield 13, 3) := by decide +kernel
theorem dX6_askFor_78 : decode cX6_askFor 78 = .ok (.iload_n 2, 1) := by decide +kernel
theorem dX6_askFor_79 : decode cX6_askFor 79 = .ok (.iaload, 1) := by decide +kernel
theorem dX6_askFor_80 : decode cX6_askFor 80 = .ok (.istore 4, 2) := by decide +kernel
theorem dX6_askFor_82 : decode cX6_askFor 82 = .ok (.iload_n 2, 1) := by decide +kernel
theorem dX6_askFor_83 : decode cX6_askFor 83 = .ok (.iload_n 3, 1) := by decide +kernel
theorem dX6_askFor_84 : decode cX6_askFor 84 = .ok (.if_icmp .eq 21, 3) := by decide +kernel
theorem dX6_askFor_87 : decode cX6_askFor 87 = .ok (.aload_n 0, 1) := by decide +kernel
theorem dX6_askFor_88 : decode cX6_askFor 88 = .ok (.getfield 13, 3) := by decide +kernel
theorem dX6_askFor_91 : decode cX6_askFor 91 = .ok (.iload_n 3, 1) := by decide +kernel
theorem dX6_askFor_92 : decode cX6_askFor 92 = .ok (.iaload, 1) := by decide +kernel
theorem dX6_askFor_93 : decode cX6_askFor 93 = .ok (.iload 4, 2) := by decide +kernel
theorem dX6_askFor_95 : decode cX6_askFor 95 = .ok (.iadd, 1) := by decide +kernel
theorem dX6_askFor_96 : decode cX6_askFor 96 = .ok (.sipush 9999, 3) := by decide +kernel
theorem dX6_askFor_99 : decode cX6_askFor 99 = .ok (.if_icmp .le 6, 3) := by decide +kernel
theorem dX6_askFor_102 : decode cX6_askFor 102 = .ok (.bipush 6, 2) := by decide +kernel
theorem dX6_askFor_104 : decode cX6_askFor 104 = .ok (.ireturn, 1) := by decide +kernel
theorem dX6_askFor_105 : decode cX6_askFor 105 = .ok (.aload_n 0, 1) := by decide +kernel
theorem dX6_askFor_106 : decode cX6_askFor 106 = .ok (.getfield 13, 3) := by decide +kernel
theorem dX6_askFor_109 : decode cX6_askFor 109 = .ok (.bipush 12, 2) := by decide +kernel
theorem dX6_askFor_111 : decode cX6_askFor 111 = .ok (.iload_n 1, 1) := by decide +kernel
theorem dX6_askFor_112 : decode cX6_askFor 112 = .ok (.iadd, 1) := by decide +kernel
theorem dX6_askFor_113 : decode cX6_askFor 113 = .ok (.dup2, 1) := by decide +kernel
theorem dX6_askFor_114 : decode cX6_askFor 114 = .ok (.iaload, 1) := by decide +kernel
theorem dX6_askFor_115 : decode cX6_askFor 115 = .ok (.iload 4, 2) := by decide +kernel
theorem dX6_askFor_117 : decode cX6_askFor 117 = .ok (.isub, 1) := by decide +kernel
theorem dX6_askFor_118 : decode cX6_askFor 118 = .ok (.iastore, 1) := by decide +kernel
theorem dX6_askFor_119 : decode cX6_askFor 119 = .ok (.aload_n 0, 1) := by decide +kernel
theorem dX6_askFor_120 : decode cX6_askFor 120 = .ok (.getfield 13, 3) := by decide +kernel
theorem dX6_askFor_123 : decode cX6_askFor 123 = .ok (.iload_n 2, 1) := by decide +kernel
theorem dX6_askFor_124 : decode cX6_askFor 124 = .ok (.dup2, 1) := by decide +kernel
theorem dX6_askFor_125 : decode cX6_askFor 125 = .ok (.iaload, 1) := by decide +kernel
theorem dX6_askFor_126 : decode cX6_askFor 126 = .ok (.iload 4, 2) := by decide +kernel
theorem dX6_askFor_128 : decode cX6_askFor 128 = .ok (.isub, 1) := by decide +kernel
theorem dX6_askFor_129 : decode cX6_askFor 129 = .ok (.iastore, 1) := by decide +kernel
theorem dX6_askFor_130 : decode cX6_askFor 130 = .ok (.aload_n 0, 1) := by decide +kernel
theorem dX6_askFor_131 : decode cX6_askFor 131 = .ok (.getfield 13, 3) := by decide +kernel
theorem dX6_askFor_134 : decode cX6_askFor 134 = .ok (.iload_n 3, 1) := by decide +kernel
theorem dX6_askFor_135 : decode cX6_askFor 135 = .ok (.dup2, 1) := by decide +kernel
theorem dX6_askFor_136 : decode cX6_askFor 136 = .ok (.iaload, 1) := by decide +kernel
theorem dX6_askFor_137 : decode cX6_askFor 137 = .ok (.iload 4, 2) := by decide +kernel
theorem dX6_askFor_139 : decode cX6_askFor 139 = .ok (.iadd, 1) := by decide +kernel
theorem dX6_askFor_140 : decode cX6_askFor 140 = .ok (.iastore, 1) := by decide +kernel
theorem dX6_askFor_141 : decode cX6_askFor 141 = .ok (.aload_n 0, 1) := by decide +kernel
theorem dX6_askFor_142 : decode cX6_askFor 142 = .ok (.dup, 1) := by decide +kernel
theorem dX6_askFor_143 : decode cX6_askFor 143 = .ok (.getfield 82, 3) := by decide +kernel
theorem dX6_askFor_146 : decode cX6_askFor 146 = .ok (.iload 4, 2) := by decide +kernel
theorem dX6_askFor_148 : decode cX6_askFor 148 = .ok (.iadd, 1) := by decide +kernel
theorem dX6_askFor_149 : decode cX6_askFor 149 = .ok (.putfield 82, 3) := by decide +kernel
theorem dX6_askFor_152 : decode cX6_askFor 152 = .ok (.iconst 0, 1) := by decide +kernel
theorem dX6_askFor_153 : decode cX6_askFor 153 = .ok (.ireturn, 1) := by decide +kernel
theorem dX6_trim_0 : decode cX6_trim 0 = .ok (.aload_n 0, 1) := by decide +kernel
theorem dX6_trim_1 : decode cX6_trim 1 = .ok (.getfield 13, 3) := by decide +kernel
theorem dX6_trim_4 : decode cX6_trim 4 = .ok (.bipush 24, 2) := by decide +kernel
theorem dX6_trim_6 : decode cX6_trim 6 = .ok (.iload_n 1, 1) := by decide +kernel
theorem dX6_trim_7 : decode cX6_trim 7 = .ok (.iadd, 1) := by decide +kernel
theorem dX6_trim_8 : decode cX6_trim 8 = .ok (.iaload, 1) := by decide +kernel
theorem dX6_trim_9 : decode cX6_trim 9 = .ok (.bipush 9, 2) := by decide +kernel
theorem dX6_trim_11 : decode cX6_trim 11 = .ok (.if_icmp .ne 5, 3) := by decide +kernel
theorem dX6_trim_14 : decode cX6_trim 14 = .ok (.iconst 5, 1) := by decide +kernel
theorem dX6_trim_15 : decode cX6_trim 15 = .ok (.ireturn, 1) := by decide +kernel
theorem dX6_trim_16 : decode cX6_trim 16 = .ok (.aload_n 0, 1) := by decide +kernel
theorem dX6_trim_17 : decode cX6_trim 17 = .ok (.getfield 13, 3) := by decide +kernel
theorem dX6_trim_20 : decode cX6_trim 20 = .ok (.bipush 24, 2) := by decide +kernel
theorem dX6_trim_22 : decode cX6_trim 22 = .ok (.iload_n 1, 1) := by decide +kernel
theorem dX6_trim_23 : decode cX6_trim 23 = .ok (.iadd, 1) := by decide +kernel
theorem dX6_trim_24 : decode cX6_trim 24 = .ok (.dup2, 1) := by decide +kernel
theorem dX6_trim_25 : decode cX6_trim 25 = .ok (.iaload, 1) := by decide +kernel
theorem dX6_trim_26 : decode cX6_trim 26 = .ok (.iconst 1, 1) := by decide +kernel
theorem dX6_trim_27 : decode cX6_trim 27 = .ok (.iadd, 1) := by decide +kernel
theorem dX6_trim_28 : decode cX6_trim 28 = .ok (.iastore, 1) := by decide +kernel
theorem dX6_trim_29 : decode cX6_trim 29 = .ok (.iconst 0, 1) := by decide +kernel
theorem dX6_trim_30 : decode cX6_trim 30 = .ok (.ireturn, 1) := by decide +kernel
set_option maxRecDepth 20000 in
theorem ggX6_lightFrom_X6_isLit : GoodIn wsX6_lightFrom wsX6_isLit := goodIn_r _ [6, 1, 7, 8, 5, 9, 10, 11, 12, 13, 14, 15, 16, 17, 18, 19, 20, 21, 22, 23, 24, 25, 26, 27, 28, 29, 30, 31] (by decide +kernel) (by decide +kernel)
set_option maxRecDepth 20000 in
theorem gX6_lightFrom_X6_isLit : GoodIn wsX6_lightFrom (wsV RX6 95 RX6 yX6_isLit wsX6_isLit) := goodIn_app (goodIn_of _ (by decide +kernel)) ggX6_lightFrom_X6_isLit
set_option maxRecDepth 20000 in
theorem ggX6_lightFrom_X6_isIn : GoodIn wsX6_lightFrom wsX6_isIn := goodIn_r _ [9] (by decide +kernel) (by decide +kernel)
set_option maxRecDepth 20000 in
theorem gX6_lightFrom_X6_isIn : GoodIn wsX6_lightFrom (va_wsS RX6 91 yX6_isIn wsX6_isIn) := goodIn_app (goodIn_of _ (by decide +kernel)) ggX6_lightFrom_X6_isIn
theorem dX6_lightFrom_0 : decode cX6_lightFrom 0 = .ok (.aload_n 0, 1) := by decide +kernel
theorem dX6_lightFrom_1 : decode cX6_lightFrom 1 = .ok (.getfield 13, 3) := by decide +kernel
theorem dX6_lightFrom_4 : decode cX6_lightFrom 4 = .ok (.iload_n 2, 1) := by decide +kernel
theorem dX6_lightFrom_5 : decode cX6_lightFrom 5 = .ok (.iaload, 1) := by decide +kernel
theorem dX6_lightFrom_6 : decode cX6_lightFrom 6 = .ok (.ifCond .ne 5, 3) := by decide +kernel
theorem dX6_lightFrom_9 : decode cX6_lightFrom 9 = .ok (.iconst 1, 1) := by decide +kernel
theorem dX6_lightFrom_10 : decode cX6_lightFrom 10 = .ok (.ireturn, 1) := by decide +kernel
theorem dX6_lightFrom_11 : decode cX6_lightFrom 11 = .ok (.aload_n 0, 1) := by decide +kernel
theorem dX6_lightFrom_12 : decode cX6_lightFrom 12 = .ok (.iload_n 1, 1) := by decide +kernel
theorem dX6_lightFrom_13 : decode cX6_lightFrom 13 = .ok (.invokevirtual 95, 3) := by decide +kernel
theorem dX6_lightFrom_16 : decode cX6_lightFrom 16 = .ok (.ifCond .eq 11, 3) := by decide +kernel
theorem dX6_lightFrom_19 : decode cX6_lightFrom 19 = .ok (.aload_n 0, 1) := by decide +kernel
theorem dX6_lightFrom_20 : decode cX6_lightFrom 20 = .ok (.iload_n 2, 1) := by decide +kernel
theorem dX6_lightFrom_21 : decode cX6_lightFrom 21 = .ok (.invokevirtual 95, 3) := by decide +kernel
theorem dX6_lightFrom_24 : decode cX6_lightFrom 24 = .ok (.ifCond .eq 5, 3) := by decide +kernel
theorem dX6_lightFrom_27 : decode cX6_lightFrom 27 = .ok (.iconst 2, 1) := by decide +kernel
theorem dX6_lightFrom_28 : decode cX6_lightFrom 28 = .ok (.ireturn, 1) := by decide +kernel
theorem dX6_lightFrom_29 : decode cX6_lightFrom 29 = .ok (.iload_n 2, 1) := by decide +kernel
theorem dX6_lightFrom_30 : decode cX6_lightFrom 30 = .ok (.iload_n 1, 1) := by decide +kernel
theorem dX6_lightFrom_31 : decode cX6_lightFrom 31 = .ok (.iconst 1, 1) := by decide +kernel
theorem dX6_lightFrom_32 : decode cX6_lightFrom 32 = .ok (.iadd, 1) := by decide +kernel
theorem dX6_lightFrom_33 : decode cX6_lightFrom 33 = .ok (.if_icmp .eq 12, 3) := by decide +kernel
theorem dX6_lightFrom_36 : decode cX6_lightFrom 36 = .ok (.iload_n 2, 1) := by decide +kernel
theorem dX6_lightFrom_37 : decode cX6_lightFrom 37 = .ok (.iload_n 1, 1) := by decide +kernel
theorem dX6_lightFrom_38 : decode cX6_lightFrom 38 = .ok (.iconst 1, 1) := by decide +kernel
theorem dX6_lightFrom_39 : decode cX6_lightFrom 39 = .ok (.isub, 1) := by decide +kernel
theorem dX6_lightFrom_40 : decode cX6_lightFrom 40 = .ok (.if_icmp .eq 5, 3) := by decide +kernel
theorem dX6_lightFrom_43 : decode cX6_lightFrom 43 = .ok (.iconst 4, 1) := by decide +kernel
theorem dX6_lightFrom_44 : decode cX6_lightFrom 44 = .ok (.ireturn, 1) := by decide +kernel
theorem dX6_lightFrom_45 : decode cX6_lightFrom 45 = .ok (.aload_n 0, 1) := by decide +kernel
theorem dX6_lightFrom_46 : decode cX6_lightFrom 46 = .ok (.getfield 13, 3) := by decide +kernel
theorem dX6_lightFrom_49 : decode cX6_lightFrom 49 = .ok (.bipush 66, 2) := by decide +kernel
theorem dX6_lightFrom_51 : decode cX6_lightFrom 51 = .ok (.dup2, 1) := by decide +kernel
theorem dX6_lightFrom_52 : decode cX6_lightFrom 52 = .ok (.iaload, 1) := by decide +kernel
theorem dX6_lightFrom_53 : decode cX6_lightFrom 53 = .ok (.iconst 1, 1) := by decide +kernel
theorem dX6_lightFrom_54 : decode cX6_lightFrom 54 = .ok (.iload_n 2, 1) := by decide +kernel
theorem dX6_lightFrom_55 : decode cX6_lightFrom 55 = .ok (.ishl, 1) := by decide +kernel
theorem dX6_lightFrom_56 : decode cX6_lightFrom 56 = .ok (.ior, 1) := by decide +kernel
theorem dX6_lightFrom_57 : decode cX6_lightFrom 57 = .ok (.iastore, 1) := by decide +kernel
theorem dX6_lightFrom_58 : decode cX6_lightFrom 58 = .ok (.aload_n 0, 1) := by decide +kernel
theorem dX6_lightFrom_59 : decode cX6_lightFrom 59 = .ok (.getfield 13, 3) := by decide +kernel
theorem dX6_lightFrom_62 : decode cX6_lightFrom 62 = .ok (.bipush 48, 2) := by decide +kernel
theorem dX6_lightFrom_64 : decode cX6_lightFrom 64 = .ok (.iload_n 1, 1) := by decide +kernel
theorem dX6_lightFrom_65 : decode cX6_lightFrom 65 = .ok (.iadd, 1) := by decide +kernel
theorem dX6_lightFrom_66 : decode cX6_lightFrom 66 = .ok (.iaload, 1) := by decide +kernel
theorem dX6_lightFrom_67 : decode cX6_lightFrom 67 = .ok (.aload_n 0, 1) := by decide +kernel
theorem dX6_lightFrom_68 : decode cX6_lightFrom 68 = .ok (.getfield 13, 3) := by decide +kernel
theorem dX6_lightFrom_71 : decode cX6_lightFrom 71 = .ok (.bipush 48, 2) := by decide +kernel
theorem dX6_lightFrom_73 : decode cX6_lightFrom 73 = .ok (.iload_n 2, 1) := by decide +kernel
theorem dX6_lightFrom_74 : decode cX6_lightFrom 74 = .ok (.iadd, 1) := by decide +kernel
theorem dX6_lightFrom_75 : decode cX6_lightFrom 75 = .ok (.iaload, 1) := by decide +kernel
theorem dX6_lightFrom_76 : decode cX6_lightFrom 76 = .ok (.ior, 1) := by decide +kernel
theorem dX6_lightFrom_77 : decode cX6_lightFrom 77 = .ok (.istore_n 3, 1) := by decide +kernel
theorem dX6_lightFrom_78 : decode cX6_lightFrom 78 = .ok (.iconst 0, 1) := by decide +kernel
theorem dX6_lightFrom_79 : decode cX6_lightFrom 79 = .ok (.istore 4, 2) := by decide +kernel
theorem dX6_lightFrom_81 : decode cX6_lightFrom 81 = .ok (.iload 4, 2) := by decide +kernel
theorem dX6_lightFrom_83 : decode cX6_lightFrom 83 = .ok (.bipush 12, 2) := by decide +kernel
theorem dX6_lightFrom_85 : decode cX6_lightFrom 85 = .ok (.if_icmp .ge 42, 3) := by decide +kernel
theorem dX6_lightFrom_88 : decode cX6_lightFrom 88 = .ok (.aload_n 0, 1) := by decide +kernel
theorem dX6_lightFrom_89 : decode cX6_lightFrom 89 = .ok (.getfield 13, 3) := by decide +kernel
theorem dX6_lightFrom_92 : decode cX6_lightFrom 92 = .ok (.bipush 48, 2) := by decide +kernel
theorem dX6_lightFrom_94 : decode cX6_lightFrom 94 = .ok (.iload 4, 2) := by decide +kernel
theorem dX6_lightFrom_96 : decode cX6_lightFrom 96 = .ok (.iadd, 1) := by decide +kernel
theorem dX6_lightFrom_97 : decode cX6_lightFrom 97 = .ok (.iload_n 3, 1) := by decide +kernel
theorem dX6_lightFrom_98 : decode cX6_lightFrom 98 = .ok (.iload 4, 2) := by decide +kernel
theorem dX6_lightFrom_100 : decode cX6_lightFrom 100 = .ok (.invokestatic 91, 3) := by decide +kernel
theorem dX6_lightFrom_103 : decode cX6_lightFrom 103 = .ok (.ifCond .eq 7, 3) := by decide +kernel
theorem dX6_lightFrom_106 : decode cX6_lightFrom 106 = .ok (.iload_n 3, 1) := by decide +kernel
theorem dX6_lightFrom_107 : decode cX6_lightFrom 107 = .ok (.goto 13, 3) := by decide +kernel
theorem dX6_lightFrom_110 : decode cX6_lightFrom 110 = .ok (.aload_n 0, 1) := by decide +kernel
theorem dX6_lightFrom_111 : decode cX6_lightFrom 111 = .ok (.getfield 13, 3) := by decide +kernel
theorem dX6_lightFrom_114 : decode cX6_lightFrom 114 = .ok (.bipush 48, 2) := by decide +kernel
theorem dX6_lightFrom_116 : decode cX6_lightFrom 116 = .ok (.iload 4, 2) := by decide +kernel
theorem dX6_lightFrom_118 : decode cX6_lightFrom 118 = .ok (.iadd, 1) := by decide +kernel
theorem dX6_lightFrom_119 : decode cX6_lightFrom 119 = .ok (.iaload, 1) := by decide +kernel
theorem dX6_lightFrom_120 : decode cX6_lightFrom 120 = .ok (.iastore, 1) := by decide +kernel
theorem dX6_lightFrom_121 : decode cX6_lightFrom 121 = .ok (.iinc 4 1, 3) := by decide +kernel
theorem dX6_lightFrom_124 : decode cX6_lightFrom 124 = .ok (.goto (-43), 3) := by decide +kernel
theorem dX6_lightFrom_127 : decode cX6_lightFrom 127 = .ok (.iconst 0, 1) := by decide +kernel
theorem dX6_lightFrom_128 : decode cX6_lightFrom 128 = .ok (.ireturn, 1) := by decide +kernel
theorem dX6_blow_0 : decode cX6_blow 0 = .ok (.aload_n 0, 1) := by decide +kernel
theorem dX6_blow_1 : decode cX6_blow 1 = .ok (.getfield 13, 3) := by decide +kernel
theorem dX6_blow_4 : decode cX6_blow 4 = .ok (.bipush 36, 2) := by decide +kernel
theorem dX6_blow_6 : decode cX6_blow 6 = .ok (.iload_n 1, 1) := by decide +kernel
theorem dX6_blow_7 : decode cX6_blow 7 = .ok (.iadd, 1) := by decide +kernel
theorem dX6_blow_8 : decode cX6_blow 8 = .ok (.iaload, 1) := by decide +kernel
theorem dX6_blow_9 : decode cX6_blow 9 = .ok (.iload_n 2, 1) := by decide +kernel
theorem dX6_blow_10 : decode cX6_blow 10 = .ok (.if_icmp .ne 6, 3) := by decide +kernel
theorem dX6_blow_13 : decode cX6_blow 13 = .ok (.bipush 7, 2) := by decide +kernel
theorem dX6_blow_15 : decode cX6_blow 15 = .ok (.ireturn, 1) := by decide +kernel
theorem dX6_blow_16 : decode cX6_blow 16 = .ok (.aload_n 0, 1) := by decide +kernel
theorem dX6_blow_17 : decode cX6_blow 17 = .ok (.getfield 13, 3) := by decide +kernel
theorem dX6_blow_20 : decode cX6_blow 20 = .ok (.bipush 36, 2) := by decide +kernel
theorem dX6_blow_22 : decode cX6_blow 22 = .ok (.iload_n 1, 1) := by decide +kernel
theorem dX6_blow_23 : decode cX6_blow 23 = .ok (.iadd, 1) := by decide +kernel
theorem dX6_blow_24 : decode cX6_blow 24 = .ok (.iload_n 2, 1) := by decide +kernel
theorem dX6_blow_25 : decode cX6_blow 25 = .ok (.iastore, 1) := by decide +kernel
theorem dX6_blow_26 : decode cX6_blow 26 = .ok (.iconst 0, 1) := by decide +kernel
theorem dX6_blow_27 : decode cX6_blow 27 = .ok (.ireturn, 1) := by decide +kernel
theorem dX6_burnOf_0 : decode cX6_burnOf 0 = .ok (.iconst 1, 1) := by decide +kernel
theorem dX6_burnOf_1 : decode cX6_burnOf 1 = .ok (.aload_n 0, 1) := by decide +kernel
theorem dX6_burnOf_2 : decode cX6_burnOf 2 = .ok (.getfield 13, 3) := by decide +kernel
theorem dX6_burnOf_5 : decode cX6_burnOf 5 = .ok (.bipush 36, 2) := by decide +kernel
theorem dX6_burnOf_7 : decode cX6_burnOf 7 = .ok (.iload_n 1, 1) := by decide +kernel
theorem dX6_burnOf_8 : decode cX6_burnOf 8 = .ok (.iadd, 1) := by decide +kernel
theorem dX6_burnOf_9 : decode cX6_burnOf 9 = .ok (.iaload, 1) := by decide +kernel
theorem dX6_burnOf_10 : decode cX6_burnOf 10 = .ok (.iadd, 1) := by decide +kernel
theorem dX6_burnOf_11 : decode cX6_burnOf 11 = .ok (.aload_n 0, 1) := by decide +kernel
theorem dX6_burnOf_12 : decode cX6_burnOf 12 = .ok (.getfield 13, 3) := by decide +kernel
theorem dX6_burnOf_15 : decode cX6_burnOf 15 = .ok (.bipush 24, 2) := by decide +kernel
theorem dX6_burnOf_17 : decode cX6_burnOf 17 = .ok (.iload_n 1, 1) := by decide +kernel
theorem dX6_burnOf_18 : decode cX6_burnOf 18 = .ok (.iadd, 1) := by decide +kernel
theorem dX6_burnOf_19 : decode cX6_burnOf 19 = .ok (.iaload, 1) := by decide +kernel
theorem dX6_burnOf_20 : decode cX6_burnOf 20 = .ok (.isub, 1) := by decide +kernel
theorem dX6_burnOf_21 : decode cX6_burnOf 21 = .ok (.istore_n 2, 1) := by decide +kernel
theorem dX6_burnOf_22 : decode cX6_burnOf 22 = .ok (.iload_n 2, 1) := by decide +kernel
theorem dX6_burnOf_23 : decode cX6_burnOf 23 = .ok (.iconst 1, 1) := by decide +kernel
theorem dX6_burnOf_24 : decode cX6_burnOf 24 = .ok (.if_icmp .ge 7, 3) := by decide +kernel
theorem dX6_burnOf_27 : decode cX6_burnOf 27 = .ok (.iconst 1, 1) := by decide +kernel
theorem dX6_burnOf_28 : decode cX6_burnOf 28 = .ok (.goto 4, 3) := by decide +kernel
theorem dX6_burnOf_31 : decode cX6_burnOf 31 = .ok (.iload_n 2, 1) := by decide +kernel
theorem dX6_burnOf_32 : decode cX6_burnOf 32 = .ok (.ireturn, 1) := by decide +kernel
set_option maxRecDepth 20000 in
theorem ggX6_minute_X6_isLit : GoodIn wsX6_minute wsX6_isLit := goodIn_r _ [7, 1, 8, 9, 6, 10, 15, 16, 17, 18, 19, 20, 21, 22, 23, 24, 25, 26, 27, 28, 29, 30, 31, 32, 33, 34, 35, 36] (by decide +kernel) (by decide +kernel)
set_option maxRecDepth 20000 in
theorem gX6_minute_X6_isLit : GoodIn wsX6_minute (wsV RX6 95 RX6 yX6_isLit wsX6_isLit) := goodIn_app (goodIn_of _ (by decide +kernel)) ggX6_minute_X6_isLit
set_option maxRecDepth 20000 in
theorem ggX6_minute_X6_burnOf : GoodIn wsX6_minute wsX6_burnOf := goodIn_r _ [14, 1, 15, 16, 17, 18, 19, 20, 21, 22, 23, 24, 25, 26, 27, 28, 29, 30, 31, 32, 33, 34, 35, 36] (by decide +kernel) (by decide +kernel)
set_option maxRecDepth 20000 in
theorem gX6_minute_X6_burnOf : GoodIn wsX6_minute (wsV RX6 98 RX6 yX6_burnOf wsX6_burnOf) := goodIn_app (goodIn_of _ (by decide +kernel)) ggX6_minute_X6_burnOf
theorem dX6_minute_0 : decode cX6_minute 0 = .ok (.aload_n 0, 1) := by decide +kernel
theorem dX6_minute_1 : decode cX6_minute 1 = .ok (.getfield 13, 3) := by decide +kernel
theorem dX6_minute_4 : decode cX6_minute 4 = .ok (.bipush 68, 2) := by decide +kernel
theorem dX6_minute_6 : decode cX6_minute 6 = .ok (.iaload, 1) := by decide +kernel
theorem dX6_minute_7 : decode cX6_minute 7 = .ok (.sipush 999, 3) := by decide +kernel
theorem dX6_minute_10 : decode cX6_minute 10 = .ok (.if_icmp .ne 6, 3) := by decide +kernel
theorem dX6_minute_13 : decode cX6_minute 13 = .ok (.bipush 8, 2) := by decide +kernel
theorem dX6_minute_15 : decode cX6_minute 15 = .ok (.ireturn, 1) := by decide +kernel
theorem dX6_minute_16 : decode cX6_minute 16 = .ok (.aload_n 0, 1) := by decide +kernel
theorem dX6_minute_17 : decode cX6_minute 17 = .ok (.getfield 13, 3) := by decide +kernel
theorem dX6_minute_20 : decode cX6_minute 20 = .ok (.bipush 68, 2) := by decide +kernel
theorem dX6_minute_22 : decode cX6_minute 22 = .ok (.dup2, 1) := by decide +kernel
theorem dX6_minute_23 : decode cX6_minute 23 = .ok (.iaload, 1) := by decide +kernel
theorem dX6_minute_24 : decode cX6_minute 24 = .ok (.iconst 1, 1) := by decide +kernel
theorem dX6_minute_25 : decode cX6_minute 25 = .ok (.iadd, 1) := by decide +kernel
theorem dX6_minute_26 : decode cX6_minute 26 = .ok (.iastore, 1) := by decide +kernel
theorem dX6_minute_27 : decode cX6_minute 27 = .ok (.iconst 0, 1) := by decide +kernel
theorem dX6_minute_28 : decode cX6_minute 28 = .ok (.istore_n 1, 1) := by decide +kernel
theorem dX6_minute_29 : decode cX6_minute 29 = .ok (.iload_n 1, 1) := by decide +kernel
theorem dX6_minute_30 : decode cX6_minute 30 = .ok (.bipush 12, 2) := by decide +kernel
theorem dX6_minute_32 : decode cX6_minute 32 = .ok (.if_icmp .ge 84, 3) := by decide +kernel
theorem dX6_minute_35 : decode cX6_minute 35 = .ok (.aload_n 0, 1) := by decide +kernel
theorem dX6_minute_36 : decode cX6_minute 36 = .ok (.iload_n 1, 1) := by decide +kernel
theorem dX6_minute_37 : decode cX6_minute 37 = .ok (.invokevirtual 95, 3) := by decide +kernel
theorem dX6_minute_40 : decode cX6_minute 40 = .ok (.ifCond .eq 70, 3) := by decide +kernel
theorem dX6_minute_43 : decode cX6_minute 43 = .ok (.aload_n 0, 1) := by decide +kernel
theorem dX6_minute_44 : decode cX6_minute 44 = .ok (.getfield 13, 3) := by decide +kernel
theorem dX6_minute_47 : decode cX6_minute 47 = .ok (.iload_n 1, 1) := by decide +kernel
theorem dX6_minute_48 : decode cX6_minute 48 = .ok (.dup2, 1) := by decide +kernel
theorem dX6_minute_49 : decode cX6_minute 49 = .ok (.iaload, 1) := by decide +kernel
theorem dX6_minute_50 : decode cX6_minute 50 = .ok (.aload_n 0, 1) := by decide +kernel
theorem dX6_minute_51 : decode cX6_minute 51 = .ok (.iload_n 1, 1) := by decide +kernel
theorem dX6_minute_52 : decode cX6_minute 52 = .ok (.invokevirtual 98, 3) := by decide +kernel
theorem dX6_minute_55 : decode cX6_minute 55 = .ok (.isub, 1) := by decide +kernel
theorem dX6_minute_56 : decode cX6_minute 56 = .ok (.iastore, 1) := by decide +kernel
theorem dX6_minute_57 : decode cX6_minute 57 = .ok (.aload_n 0, 1) := by decide +kernel
theorem dX6_minute_58 : decode cX6_minute 58 = .ok (.getfield 13, 3) := by decide +kernel
theorem dX6_minute_61 : decode cX6_minute 61 = .ok (.iload_n 1, 1) := by decide +kernel
theorem dX6_minute_62 : decode cX6_minute 62 = .ok (.iaload, 1) := by decide +kernel
theorem dX6_minute_63 : decode cX6_minute 63 = .ok (.ifCond .gt 47, 3) := by decide +kernel
theorem dX6_minute_66 : decode cX6_minute 66 = .ok (.aload_n 0, 1) := by decide +kernel
theorem dX6_minute_67 : decode cX6_minute 67 = .ok (.getfield 13, 3) := by decide +kernel
theorem dX6_minute_70 : decode cX6_minute 70 = .ok (.iload_n 1, 1) := by decide +kernel
theorem dX6_minute_71 : decode cX6_minute 71 = .ok (.iconst 0, 1) := by decide +kernel
theorem dX6_minute_72 : decode cX6_minute 72 = .ok (.iastore, 1) := by decide +kernel
theorem dX6_minute_73 : decode cX6_minute 73 = .ok (.aload_n 0, 1) := by decide +kernel
theorem dX6_minute_74 : decode cX6_minute 74 = .ok (.getfield 13, 3) := by decide +kernel
theorem dX6_minute_77 : decode cX6_minute 77 = .ok (.bipush 12, 2) := by decide +kernel
theorem dX6_minute_79 : decode cX6_minute 79 = .ok (.iload_n 1, 1) := by decide +kernel
theorem dX6_minute_80 : decode cX6_minute 80 = .ok (.iadd, 1) := by decide +kernel
theorem dX6_minute_81 : decode cX6_minute 81 = .ok (.iconst 0, 1) := by decide +kernel
theorem dX6_minute_82 : decode cX6_minute 82 = .ok (.iastore, 1) := by decide +kernel
theorem dX6_minute_83 : decode cX6_minute 83 = .ok (.aload_n 0, 1) := by decide +kernel
theorem dX6_minute_84 : decode cX6_minute 84 = .ok (.getfield 13, 3) := by decide +kernel
theorem dX6_minute_87 : decode cX6_minute 87 = .ok (.bipush 66, 2) := by decide +kernel
theorem dX6_minute_89 : decode cX6_minute 89 = .ok (.dup2, 1) := by decide +kernel
theorem dX6_minute_90 : decode cX6_minute 90 = .ok (.iaload, 1) := by decide +kernel
theorem dX6_minute_91 : decode cX6_minute 91 = .ok (.iconst 1, 1) := by decide +kernel
theorem dX6_minute_92 : decode cX6_minute 92 = .ok (.iload_n 1, 1) := by decide +kernel
theorem dX6_minute_93 : decode cX6_minute 93 = .ok (.ishl, 1) := by decide +kernel
theorem dX6_minute_94 : decode cX6_minute 94 = .ok (.iconst (-1), 1) := by decide +kernel
theorem dX6_minute_95 : decode cX6_minute 95 = .ok (.ixor, 1) := by decide +kernel
theorem dX6_minute_96 : decode cX6_minute 96 = .ok (.iand, 1) := by decide +kernel
theorem dX6_minute_97 : decode cX6_minute 97 = .ok (.iastore, 1) := by decide +kernel
theorem dX6_minute_98 : decode cX6_minute 98 = .ok (.aload_n 0, 1) := by decide +kernel
theorem dX6_minute_99 : decode cX6_minute 99 = .ok (.dup, 1) := by decide +kernel
theorem dX6_minute_100 : decode cX6_minute 100 = .ok (.getfield 102, 3) := by decide +kernel
theorem dX6_minute_103 : decode cX6_minute 103 = .ok (.iconst 1, 1) := by decide +kernel
theorem dX6_minute_104 : decode cX6_minute 104 = .ok (.iload_n 1, 1) := by decide +kernel
theorem dX6_minute_105 : decode cX6_minute 105 = .ok (.ishl, 1) := by decide +kernel
theorem dX6_minute_106 : decode cX6_minute 106 = .ok (.ior, 1) := by decide +kernel
theorem dX6_minute_107 : decode cX6_minute 107 = .ok (.putfield 102, 3) := by decide +kernel
theorem dX6_minute_110 : decode cX6_minute 110 = .ok (.iinc 1 1, 3) := by decide +kernel
theorem dX6_minute_113 : decode cX6_minute 113 = .ok (.goto (-84), 3) := by decide +kernel
theorem dX6_minute_116 : decode cX6_minute 116 = .ok (.iconst 0, 1) := by decide +kernel
theorem dX6_minute_117 : decode cX6_minute 117 = .ok (.ireturn, 1) := by decide +kernel
set_option maxRecDepth 20000 in
theorem ggX6_candleAct_X6_strike : GoodIn wsX6_candleAct wsX6_strike := goodIn_r _ [5, 6, 7, 8, 9, 4, 10, 11, 12, 13, 14, 15, 16, 17, 37, 38, 39, 40, 41, 42, 43, 44, 45, 46, 47, 48, 49, 50, 51, 52, 53, 54, 55, 56, 57, 58] (by decide +kernel) (by decide +kernel)
set_option maxRecDepth 20000 in
theorem gX6_candleAct_X6_strike : GoodIn wsX6_candleAct (wsV RX6 105 RX6 yX6_strike wsX6_strike) := goodIn_app (goodIn_of _ (by decide +kernel)) ggX6_candleAct_X6_strike
set_option maxRecDepth 20000 in
theorem ggX6_candleAct_X6_snuffOut : GoodIn wsX6_candleAct wsX6_snuffOut := goodIn_r _ [21, 6, 7, 8, 9, 4, 10, 11, 12, 13, 37, 38, 39, 40, 41, 42, 43, 44, 45, 46, 47, 48, 49, 50, 51, 52, 53, 54, 55, 56, 57, 58] (by decide +kernel) (by decide +kernel)
set_option maxRecDepth 20000 in
theorem gX6_candleAct_X6_snuffOut : GoodIn wsX6_candleAct (wsV RX6 108 RX6 yX6_snuffOut wsX6_snuffOut) := goodIn_app (goodIn_of _ (by decide +kernel)) ggX6_candleAct_X6_snuffOut
set_option maxRecDepth 20000 in
theorem ggX6_candleAct_X6_askFor : GoodIn wsX6_candleAct wsX6_askFor := goodIn_r _ [25, 6, 26, 27, 28, 7, 8, 9, 4, 10, 11, 12, 13, 37, 38, 39, 40, 41, 42, 43, 44, 45, 46, 47, 48, 49, 50, 51, 52, 53, 54, 55, 56, 57, 58] (by decide +kernel) (by decide +kernel)
set_option maxRecDepth 20000 in
theorem gX6_candleAct_X6_askFor : GoodIn wsX6_candleAct (wsV RX6 111 RX6 yX6_askFor wsX6_askFor) := goodIn_app (goodIn_of _ (by decide +kernel)) ggX6_candleAct_X6_askFor
set_option maxRecDepth 20000 in
theorem ggX6_candleAct_X6_trim : GoodIn wsX6_candleAct wsX6_trim := goodIn_r _ [32, 6, 37, 38, 39, 40, 41, 42, 43, 44, 45, 46, 47, 48, 49, 50, 51, 52, 53, 54, 55, 56, 57, 58] (by decide +kernel) (by decide +kernel)
set_option maxRecDepth 20000 in
theorem gX6_candleAct_X6_trim : GoodIn wsX6_candleAct (wsV RX6 114 RX6 yX6_trim wsX6_trim) := goodIn_app (goodIn_of _ (by decide +kernel)) ggX6_candleAct_X6_trim
set_option maxRecDepth 20000 in
theorem ggX6_candleAct_X6_lightFrom : GoodIn wsX6_candleAct wsX6_lightFrom := goodIn_r _ [36, 6, 7, 8, 9, 4, 10, 11, 12, 13, 37, 38, 39, 40, 41, 42, 43, 44, 45, 46, 47, 48, 49, 50, 51, 52, 53, 54, 55, 56, 57, 58] (by decide +kernel) (by decide +kernel)
set_option maxRecDepth 20000 in
theorem gX6_candleAct_X6_lightFrom : GoodIn wsX6_candleAct (wsV RX6 117 RX6 yX6_lightFrom wsX6_lightFrom) := goodIn_app (goodIn_of _ (by decide +kernel)) ggX6_candleAct_X6_lightFrom
theorem dX6_candleAct_0 : decode cX6_candleAct 0 = .ok (.iload_n 2, 1) := by decide +kernel
theorem dX6_candleAct_1 : decode cX6_candleAct 1 = .ok (.lookupswitch 67 #[(33, 55), (42, 43), (45, 49), (94, 61)], 43) := by decide +kernel
theorem dX6_candleAct_44 : decode cX6_candleAct 44 = .ok (.aload_n 0, 1) := by decide +kernel
theorem dX6_candleAct_45 : decode cX6_candleAct 45 = .ok (.iload_n 1, 1) := by decide +kernel
theorem dX6_candleAct_46 : decode cX6_candleAct 46 = .ok (.invokevirtual 105, 3) := by decide +kernel
theorem dX6_candleAct_49 : decode cX6_candleAct 49 = .ok (.ireturn, 1) := by decide +kernel
theorem dX6_candleAct_50 : decode cX6_candleAct 50 = .ok (.aload_n 0, 1) := by decide +kernel
theorem dX6_candleAct_51 : decode cX6_candleAct 51 = .ok (.iload_n 1, 1) := by decide +kernel
theorem dX6_candleAct_52 : decode cX6_candleAct 52 = .ok (.invokevirtual 108, 3) := by decide +kernel
theorem dX6_candleAct_55 : decode cX6_candleAct 55 = .ok (.ireturn, 1) := by decide +kernel
theorem dX6_candleAct_56 : decode cX6_candleAct 56 = .ok (.aload_n 0, 1) := by decide +kernel
theorem dX6_candleAct_57 : decode cX6_candleAct 57 = .ok (.iload_n 1, 1) := by decide +kernel
theorem dX6_candleAct_58 : decode cX6_candleAct 58 = .ok (.invokevirtual 111, 3) := by decide +kernel
theorem dX6_candleAct_61 : decode cX6_candleAct 61 = .ok (.ireturn, 1) := by decide +kernel
theorem dX6_candleAct_62 : decode cX6_candleAct 62 = .ok (.aload_n 0, 1) := by decide +kernel
theorem dX6_candleAct_63 : decode cX6_candleAct 63 = .ok (.iload_n 1, 1) := by decide +kernel
theorem dX6_candleAct_64 : decode cX6_candleAct 64 = .ok (.invokevirtual 114, 3) := by decide +kernel
theorem dX6_candleAct_67 : decode cX6_candleAct 67 = .ok (.ireturn, 1) := by decide +kernel
theorem dX6_candleAct_68 : decode cX6_candleAct 68 = .ok (.aload_n 0, 1) := by decide +kernel
theorem dX6_candleAct_69 : decode cX6_candleAct 69 = .ok (.iload_n 1, 1) := by decide +kernel
theorem dX6_candleAct_70 : decode cX6_candleAct 70 = .ok (.iload_n 3, 1) := by decide +kernel
theorem dX6_candleAct_71 : decode cX6_candleAct 71 = .ok (.bipush 97, 2) := by decide +kernel
theorem dX6_candleAct_73 : decode cX6_candleAct 73 = .ok (.isub, 1) := by decide +kernel
theorem dX6_candleAct_74 : decode cX6_candleAct 74 = .ok (.invokevirtual 117, 3) := by decide +kernel
theorem dX6_candleAct_77 : decode cX6_candleAct 77 = .ok (.ireturn, 1) := by decide +kernel
set_option maxRecDepth 20000 in
theorem ggX6_goNights_X6_asNow : GoodIn wsX6_goNights wsX6_asNow := goodIn_r _ [12, 13, 14, 15, 6, 7, 65, 66, 67, 68, 69, 70, 71, 72, 73, 74, 75, 76, 77, 78, 79, 80, 81, 82, 83, 84, 85, 86] (by decide +kernel) (by decide +kernel)
set_option maxRecDepth 20000 in
theorem gX6_goNights_X6_asNow : GoodIn wsX6_goNights (wsV RX6 64 RX6 yX6_asNow wsX6_asNow) := goodIn_app (goodIn_of _ (by decide +kernel)) ggX6_goNights_X6_asNow
set_option maxRecDepth 20000 in
theorem ggX6_goNights_X6_minute : GoodIn wsX6_goNights wsX6_minute := goodIn_r _ [19, 13, 4, 20, 21, 22, 11, 23, 24, 25, 26, 27, 28, 29, 30, 65, 66, 67, 68, 69, 70, 71, 72, 73, 74, 75, 76, 77, 78, 79, 80, 81, 82, 83, 84, 85, 86] (by decide +kernel) (by decide +kernel)
set_option maxRecDepth 20000 in
theorem gX6_goNights_X6_minute : GoodIn wsX6_goNights (wsV RX6 124 RX6 yX6_minute wsX6_minute) := goodIn_app (goodIn_of _ (by decide +kernel)) ggX6_goNights_X6_minute
set_option maxRecDepth 20000 in
theorem ggX6_goNights_X6_blow : GoodIn wsX6_goNights wsX6_blow := goodIn_r _ [34, 13, 65, 66, 67, 68, 69, 70, 71, 72, 73, 74, 75, 76, 77, 78, 79, 80, 81, 82, 83, 84, 85, 86] (by decide +kernel) (by decide +kernel)
set_option maxRecDepth 20000 in
theorem gX6_goNights_X6_blow : GoodIn wsX6_goNights (wsV RX6 130 RX6 yX6_blow wsX6_blow) := goodIn_app (goodIn_of _ (by decide +kernel)) ggX6_goNights_X6_blow
set_option maxRecDepth 20000 in
theorem ggX6_goNights_X6_candleAct : GoodIn wsX6_goNights wsX6_candleAct := goodIn_r _ [38, 39, 40, 41, 11, 42, 13, 20, 21, 22, 23, 24, 25, 26, 43, 44, 45, 46, 47, 48, 49, 50, 51, 52, 53, 54, 55, 56, 15, 57, 58, 59, 60, 61, 62, 63, 64, 65, 66, 67, 68, 69, 70, 71, 72, 73, 74, 75, 76, 77, 78, 79, 80, 81, 82, 83, 84, 85, 86] (by decide +kernel) (by decide +kernel)
set_option maxRecDepth 20000 in
theorem gX6_goNights_X6_candleAct : GoodIn wsX6_goNights (wsV RX6 133 RX6 yX6_candleAct wsX6_candleAct) := goodIn_app (goodIn_of _ (by decide +kernel)) ggX6_goNights_X6_candleAct
set_option maxRecDepth 20000 in
theorem ggX6_goNights_X6_isIn : GoodIn wsX6_goNights wsX6_isIn := goodIn_r _ [26] (by decide +kernel) (by decide +kernel)
set_option maxRecDepth 20000 in
theorem gX6_goNights_X6_isIn : GoodIn wsX6_goNights (va_wsS RX6 91 yX6_isIn wsX6_isIn) := goodIn_app (goodIn_of _ (by decide +kernel)) ggX6_goNights_X6_isIn
theorem dX6_goNights_0 : decode cX6_goNights 0 = .ok (.aload_n 0, 1) := by decide +kernel
theorem dX6_goNights_1 : decode cX6_goNights 1 = .ok (.invokevirtual 64, 3) := by decide +kernel
theorem dX6_goNights_4 : decode cX6_goNights 4 = .ok (.aload_n 0, 1) := by decide +kernel
theorem dX6_goNights_5 : decode cX6_goNights 5 = .ok (.iconst 0, 1) := by decide +kernel
theorem dX6_goNights_6 : decode cX6_goNights 6 = .ok (.putfield 121, 3) := by decide +kernel
theorem dX6_goNights_9 : decode cX6_goNights 9 = .ok (.iconst 0, 1) := by decide +kernel
theorem dX6_goNights_10 : decode cX6_goNights 10 = .ok (.istore_n 1, 1) := by decide +kernel
theorem dX6_goNights_11 : decode cX6_goNights 11 = .ok (.iload_n 1, 1) := by decide +kernel
theorem dX6_goNights_12 : decode cX6_goNights 12 = .ok (.aload_n 0, 1) := by decide +kernel
theorem dX6_goNights_13 : decode cX6_goNights 13 = .ok (.getfield 71, 3) := by decide +kernel
theorem dX6_goNights_16 : decode cX6_goNights 16 = .ok (.if_icmp .ge 212, 3) := by decide +kernel
theorem dX6_goNights_19 : decode cX6_goNights 19 = .ok (.aload_n 0, 1) := by decide +kernel
theorem dX6_goNights_20 : decode cX6_goNights 20 = .ok (.getfield 25, 3) := by decide +kernel
theorem dX6_goNights_23 : decode cX6_goNights 23 = .ok (.iload_n 1, 1) := by decide +kernel
theorem dX6_goNights_24 : decode cX6_goNights 24 = .ok (.iaload, 1) := by decide +kernel
theorem dX6_goNights_25 : decode cX6_goNights 25 = .ok (.istore_n 2, 1) := by decide +kernel
theorem dX6_goNights_26 : decode cX6_goNights 26 = .ok (.aload_n 0, 1) := by decide +kernel
theorem dX6_goNights_27 : decode cX6_goNights 27 = .ok (.iconst 0, 1) := by decide +kernel
theorem dX6_goNights_28 : decode cX6_goNights 28 = .ok (.putfield 102, 3) := by decide +kernel
theorem dX6_goNights_31 : decode cX6_goNights 31 = .ok (.iload_n 2, 1) := by decide +kernel
theorem dX6_goNights_32 : decode cX6_goNights 32 = .ok (.bipush 46, 2) := by decide +kernel
theorem dX6_goNights_34 : decode cX6_goNights 34 = .ok (.if_icmp .ne 17, 3) := by decide +kernel
theorem dX6_goNights_37 : decode cX6_goNights 37 = .ok (.aload_n 0, 1) := by decide +kernel
theorem dX6_goNights_38 : decode cX6_goNights 38 = .ok (.aload_n 0, 1) := by decide +kernel
theorem dX6_goNights_39 : decode cX6_goNights 39 = .ok (.invokevirtual 124, 3) := by decide +kernel
theorem dX6_goNights_42 : decode cX6_goNights 42 = .ok (.putfield 127, 3) := by decide +kernel
theorem dX6_goNights_45 : decode cX6_goNights 45 = .ok (.iinc 1 1, 3) := by decide +kernel
theorem dX6_goNights_48 : decode cX6_goNights 48 = .ok (.goto 100, 3) := by decide +kernel
theorem dX6_goNights_51 : decode cX6_goNights 51 = .ok (.iload_n 2, 1) := by decide +kernel
theorem dX6_goNights_52 : decode cX6_goNights 52 = .ok (.bipush 119, 2) := by decide +kernel
theorem dX6_goNights_54 : decode cX6_goNights 54 = .ok (.if_icmp .ne 39, 3) := by decide +kernel
theorem dX6_goNights_57 : decode cX6_goNights 57 = .ok (.aload_n 0, 1) := by decide +kernel
theorem dX6_goNights_58 : decode cX6_goNights 58 = .ok (.aload_n 0, 1) := by decide +kernel
theorem dX6_goNights_59 : decode cX6_goNights 59 = .ok (.aload_n 0, 1) := by decide +kernel
theorem dX6_goNights_60 : decode cX6_goNights 60 = .ok (.getfield 25, 3) := by decide +kernel
theorem dX6_goNights_63 : decode cX6_goNights 63 = .ok (.iload_n 1, 1) := by decide +kernel
theorem dX6_goNights_64 : decode cX6_goNights 64 = .ok (.iconst 1, 1) := by decide +kernel
theorem dX6_goNights_65 : decode cX6_goNights 65 = .ok (.iadd, 1) := by decide +kernel
theorem dX6_goNights_66 : decode cX6_goNights 66 = .ok (.iaload, 1) := by decide +kernel
theorem dX6_goNights_67 : decode cX6_goNights 67 = .ok (.bipush 97, 2) := by decide +kernel
theorem dX6_goNights_69 : decode cX6_goNights 69 = .ok (.isub, 1) := by decide +kernel
theorem dX6_goNights_70 : decode cX6_goNights 70 = .ok (.aload_n 0, 1) := by decide +kernel
theorem dX6_goNights_71 : decode cX6_goNights 71 = .ok (.getfield 25, 3) := by decide +kernel
theorem dX6_goNights_74 : decode cX6_goNights 74 = .ok (.iload_n 1, 1) := by decide +kernel
theorem dX6_goNights_75 : decode cX6_goNights 75 = .ok (.iconst 2, 1) := by decide +kernel
theorem dX6_goNights_76 : decode cX6_goNights 76 = .ok (.iadd, 1) := by decide +kernel
theorem dX6_goNights_77 : decode cX6_goNights 77 = .ok (.iaload, 1) := by decide +kernel
theorem dX6_goNights_78 : decode cX6_goNights 78 = .ok (.bipush 48, 2) := by decide +kernel
theorem dX6_goNights_80 : decode cX6_goNights 80 = .ok (.isub, 1) := by decide +kernel
theorem dX6_goNights_81 : decode cX6_goNights 81 = .ok (.invokevirtual 130, 3) := by decide +kernel
theorem dX6_goNights_84 : decode cX6_goNights 84 = .ok (.putfield 127, 3) := by decide +kernel
theorem dX6_goNights_87 : decode cX6_goNights 87 = .ok (.iinc 1 3, 3) := by decide +kernel
theorem dX6_goNights_90 : decode cX6_goNights 90 = .ok (.goto 58, 3) := by decide +kernel
theorem dX6_goNights_93 : decode cX6_goNights 93 = .ok (.aload_n 0, 1) := by decide +kernel
theorem dX6_goNights_94 : decode cX6_goNights 94 = .ok (.getfield 25, 3) := by decide +kernel
theorem dX6_goNights_97 : decode cX6_goNights 97 = .ok (.iload_n 1, 1) := by decide +kernel
theorem dX6_goNights_98 : decode cX6_goNights 98 = .ok (.iconst 1, 1) := by decide +kernel
theorem dX6_goNights_99 : decode cX6_goNights 99 = .ok (.iadd, 1) := by decide +kernel
theorem dX6_goNights_100 : decode cX6_goNights 100 = .ok (.iaload, 1) := by decide +kernel
theorem dX6_goNights_101 : decode cX6_goNights 101 = .ok (.istore_n 3, 1) := by decide +kernel
theorem dX6_goNights_102 : decode cX6_goNights 102 = .ok (.aload_n 0, 1) := by decide +kernel
theorem dX6_goNights_103 : decode cX6_goNights 103 = .ok (.aload_n 0, 1) := by decide +kernel
theorem dX6_goNights_104 : decode cX6_goNights 104 = .ok (.iload_n 2, 1) := by decide +kernel
theorem dX6_goNights_105 : decode cX6_goNights 105 = .ok (.bipush 97, 2) := by decide +kernel
theorem dX6_goNights_107 : decode cX6_goNights 107 = .ok (.isub, 1) := by decide +kernel
theorem dX6_goNights_108 : decode cX6_goNights 108 = .ok (.iload_n 3, 1) := by decide +kernel
theorem dX6_goNights_109 : decode cX6_goNights 109 = .ok (.iload_n 3, 1) := by decide +kernel
theorem dX6_goNights_110 : decode cX6_goNights 110 = .ok (.bipush 62, 2) := by decide +kernel
theorem dX6_goNights_112 : decode cX6_goNights 112 = .ok (.if_icmp .ne 14, 3) := by decide +kernel
theorem dX6_goNights_115 : decode cX6_goNights 115 = .ok (.aload_n 0, 1) := by decide +kernel
theorem dX6_goNights_116 : decode cX6_goNights 116 = .ok (.getfield 25, 3) := by decide +kernel
theorem dX6_goNights_119 : decode cX6_goNights 119 = .ok (.iload_n 1, 1) := by decide +kernel
theorem dX6_goNights_120 : decode cX6_goNights 120 = .ok (.iconst 2, 1) := by decide +kernel
theorem dX6_goNights_121 : decode cX6_goNights 121 = .ok (.iadd, 1) := by decide +kernel
theorem dX6_goNights_122 : decode cX6_goNights 122 = .ok (.iaload, 1) := by decide +kernel
theorem dX6_goNights_123 : decode cX6_goNights 123 = .ok (.goto 5, 3) := by decide +kernel
theorem dX6_goNights_126 : decode cX6_goNights 126 = .ok (.bipush 97, 2) := by decide +kernel
theorem dX6_goNights_128 : decode cX6_goNights 128 = .ok (.invokevirtual 133, 3) := by decide +kernel
theorem dX6_goNights_131 : decode cX6_goNights 131 = .ok (.putfield 127, 3) := by decide +kernel
theorem dX6_goNights_134 : decode cX6_goNights 134 = .ok (.iload_n 1, 1) := by decide +kernel
theorem dX6_goNights_135 : decode cX6_goNights 135 = .ok (.iload_n 3, 1) := by decide +kernel
theorem dX6_goNights_136 : decode cX6_goNights 136 = .ok (.bipush 62, 2) := by decide +kernel
theorem dX6_goNights_138 : decode cX6_goNights 138 = .ok (.if_icmp .ne 7, 3) := by decide +kernel
theorem dX6_goNights_141 : decode cX6_goNights 141 = .ok (.iconst 3, 1) := by decide +kernel
theorem dX6_goNights_142 : decode cX6_goNights 142 = .ok (.goto 4, 3) := by decide +kernel
theorem dX6_goNights_145 : decode cX6_goNights 145 = .ok (.iconst 2, 1) := by decide +kernel
theorem dX6_goNights_146 : decode cX6_goNights 146 = .ok (.iadd, 1) := by decide +kernel
theorem dX6_goNights_147 : decode cX6_goNights 147 = .ok (.istore_n 1, 1) := by decide +kernel
theorem dX6_goNights_148 : decode cX6_goNights 148 = .ok (.aload_n 0, 1) := by decide +kernel
theorem dX6_goNights_149 : decode cX6_goNights 149 = .ok (.getfield 127, 3) := by decide +kernel
theorem dX6_goNights_152 : decode cX6_goNights 152 = .ok (.ifCond .le 8, 3) := by decide +kernel
theorem dX6_goNights_155 : decode cX6_goNights 155 = .ok (.aload_n 0, 1) := by decide +kernel
theorem dX6_goNights_156 : decode cX6_goNights 156 = .ok (.getfield 121, 3) := by decide +kernel
theorem dX6_goNights_159 : decode cX6_goNights 159 = .ok (.ireturn, 1) := by decide +kernel
theorem dX6_goNights_160 : decode cX6_goNights 160 = .ok (.bipush 11, 2) := by decide +kernel
theorem dX6_goNights_162 : decode cX6_goNights 162 = .ok (.istore_n 3, 1) := by decide +kernel
theorem dX6_goNights_163 : decode cX6_goNights 163 = .ok (.iload_n 3, 1) := by decide +kernel
theorem dX6_goNights_164 : decode cX6_goNights 164 = .ok (.ifCond .lt 51, 3) := by decide +kernel
theorem dX6_goNights_167 : decode cX6_goNights 167 = .ok (.aload_n 0, 1) := by decide +kernel
theorem dX6_goNights_168 : decode cX6_goNights 168 = .ok (.getfield 85, 3) := by decide +kernel
theorem dX6_goNights_171 : decode cX6_goNights 171 = .ok (.ifCond .lt 14, 3) := by decide +kernel
theorem dX6_goNights_174 : decode cX6_goNights 174 = .ok (.aload_n 0, 1) := by decide +kernel
theorem dX6_goNights_175 : decode cX6_goNights 175 = .ok (.getfield 85, 3) := by decide +kernel
theorem dX6_goNights_178 : decode cX6_goNights 178 = .ok (.aload_n 0, 1) := by decide +kernel
theorem dX6_goNights_179 : decode cX6_goNights 179 = .ok (.getfield 121, 3) := by decide +kernel
theorem dX6_goNights_182 : decode cX6_goNights 182 = .ok (.if_icmp .ne 33, 3) := by decide +kernel
theorem dX6_goNights_185 : decode cX6_goNights 185 = .ok (.aload_n 0, 1) := by decide +kernel
theorem dX6_goNights_186 : decode cX6_goNights 186 = .ok (.getfield 102, 3) := by decide +kernel
theorem dX6_goNights_189 : decode cX6_goNights 189 = .ok (.iload_n 3, 1) := by decide +kernel
theorem dX6_goNights_190 : decode cX6_goNights 190 = .ok (.invokestatic 91, 3) := by decide +kernel
theorem dX6_goNights_193 : decode cX6_goNights 193 = .ok (.ifCond .eq 16, 3) := by decide +kernel
theorem dX6_goNights_196 : decode cX6_goNights 196 = .ok (.aload_n 0, 1) := by decide +kernel
theorem dX6_goNights_197 : decode cX6_goNights 197 = .ok (.aload_n 0, 1) := by decide +kernel
theorem dX6_goNights_198 : decode cX6_goNights 198 = .ok (.getfield 121, 3) := by decide +kernel
theorem dX6_goNights_201 : decode cX6_goNights 201 = .ok (.putfield 85, 3) := by decide +kernel
theorem dX6_goNights_204 : decode cX6_goNights 204 = .ok (.aload_n 0, 1) := by decide +kernel
theorem dX6_goNights_205 : decode cX6_goNights 205 = .ok (.iload_n 3, 1) := by decide +kernel
theorem dX6_goNights_206 : decode cX6_goNights 206 = .ok (.putfield 88, 3) := by decide +kernel
theorem dX6_goNights_209 : decode cX6_goNights 209 = .ok (.iinc 3 (-1), 3) := by decide +kernel
theorem dX6_goNights_212 : decode cX6_goNights 212 = .ok (.goto (-49), 3) := by decide +kernel
theorem dX6_goNights_215 : decode cX6_goNights 215 = .ok (.aload_n 0, 1) := by decide +kernel
theorem dX6_goNights_216 : decode cX6_goNights 216 = .ok (.dup, 1) := by decide +kernel
theorem dX6_goNights_217 : decode cX6_goNights 217 = .ok (.getfield 121, 3) := by decide +kernel
theorem dX6_goNights_220 : decode cX6_goNights 220 = .ok (.iconst 1, 1) := by decide +kernel
theorem dX6_goNights_221 : decode cX6_goNights 221 = .ok (.iadd, 1) := by decide +kernel
theorem dX6_goNights_222 : decode cX6_goNights 222 = .ok (.putfield 121, 3) := by decide +kernel
theorem dX6_goNights_225 : decode cX6_goNights 225 = .ok (.goto (-214), 3) := by decide +kernel
theorem dX6_goNights_228 : decode cX6_goNights 228 = .ok (.bipush (-6), 2) := by decide +kernel
theorem dX6_goNights_230 : decode cX6_goNights 230 = .ok (.ireturn, 1) := by decide +kernel
set_option maxRecDepth 20000 in
theorem ggX6_judge_X6_in : GoodIn wsX6_judge wsX6_in := goodIn_r _ [5] (by decide +kernel) (by decide +kernel)
set_option maxRecDepth 20000 in
theorem gX6_judge_X6_in : GoodIn wsX6_judge (va_wsS RX6 53 yX6_in wsX6_in) := goodIn_app (goodIn_of _ (by decide +kernel)) ggX6_judge_X6_in
set_option maxRecDepth 20000 in
theorem ggX6_judge_X6_faultOf : GoodIn wsX6_judge wsX6_faultOf := goodIn_r _ [9, 10, 11, 12, 13, 4, 14, 2, 3, 5, 79, 80, 81, 82, 83, 84, 85, 86, 87, 88, 89, 90, 91, 92, 93, 94, 95, 96, 97, 98, 99, 100] (by decide +kernel) (by decide +kernel)
set_option maxRecDepth 20000 in
theorem gX6_judge_X6_faultOf : GoodIn wsX6_judge (wsV RX6 78 RX6 yX6_faultOf wsX6_faultOf) := goodIn_app (goodIn_of _ (by decide +kernel)) ggX6_judge_X6_faultOf
set_option maxRecDepth 20000 in
theorem ggX6_judge_X6_goNights : GoodIn wsX6_judge wsX6_goNights := goodIn_r _ [18, 19, 10, 11, 20, 1, 21, 22, 23, 24, 25, 4, 26, 27, 28, 29, 30, 31, 32, 33, 34, 35, 36, 37, 38, 39, 40, 41, 42, 43, 44, 45, 46, 47, 48, 49, 50, 51, 52, 53, 54, 55, 56, 57, 58, 59, 60, 61, 62, 63, 64, 65, 66, 67, 68, 69, 70, 71, 72, 73, 74, 75, 76, 77, 78, 79, 80, 81, 82, 83, 84, 85, 86, 87, 88, 89, 90, 91, 92, 93, 94, 95, 96, 97, 98, 99, 100] (by decide +kernel) (by decide +kernel)
set_option maxRecDepth 20000 in
theorem gX6_judge_X6_goNights : GoodIn wsX6_judge (wsV RX6 137 RX6 yX6_goNights wsX6_goNights) := goodIn_app (goodIn_of _ (by decide +kernel)) ggX6_judge_X6_goNights
theorem dX6_judge_0 : decode cX6_judge 0 = .ok (.iload_n 1, 1) := by decide +kernel
theorem dX6_judge_1 : decode cX6_judge 1 = .ok (.iconst 0, 1) := by decide +kernel
theorem dX6_judge_2 : decode cX6_judge 2 = .ok (.iconst 1, 1) := by decide +kernel
theorem dX6_judge_3 : decode cX6_judge 3 = .ok (.invokestatic 53, 3) := by decide +kernel
theorem dX6_judge_6 : decode cX6_judge 6 = .ok (.ifCond .ne 6, 3) := by decide +kernel
theorem dX6_judge_9 : decode cX6_judge 9 = .ok (.bipush (-2), 2) := by decide +kernel
theorem dX6_judge_11 : decode cX6_judge 11 = .ok (.ireturn, 1) := by decide +kernel
theorem dX6_judge_12 : decode cX6_judge 12 = .ok (.aload_n 0, 1) := by decide +kernel
theorem dX6_judge_13 : decode cX6_judge 13 = .ok (.invokevirtual 78, 3) := by decide +kernel
theorem dX6_judge_16 : decode cX6_judge 16 = .ok (.ifCond .lt 6, 3) := by decide +kernel
theorem dX6_judge_19 : decode cX6_judge 19 = .ok (.bipush (-5), 2) := by decide +kernel
theorem dX6_judge_21 : decode cX6_judge 21 = .ok (.ireturn, 1) := by decide +kernel
theorem dX6_judge_22 : decode cX6_judge 22 = .ok (.aload_n 0, 1) := by decide +kernel
theorem dX6_judge_23 : decode cX6_judge 23 = .ok (.invokevirtual 137, 3) := by decide +kernel
theorem dX6_judge_26 : decode cX6_judge 26 = .ok (.istore_n 2, 1) := by decide +kernel
theorem dX6_judge_27 : decode cX6_judge 27 = .ok (.iload_n 2, 1) := by decide +kernel
theorem dX6_judge_28 : decode cX6_judge 28 = .ok (.ifCond .lt 7, 3) := by decide +kernel
theorem dX6_judge_31 : decode cX6_judge 31 = .ok (.iload_n 1, 1) := by decide +kernel
theorem dX6_judge_32 : decode cX6_judge 32 = .ok (.ifCond .ne 7, 3) := by decide +kernel
theorem dX6_judge_35 : decode cX6_judge 35 = .ok (.iload_n 2, 1) := by decide +kernel
theorem dX6_judge_36 : decode cX6_judge 36 = .ok (.goto 7, 3) := by decide +kernel
theorem dX6_judge_39 : decode cX6_judge 39 = .ok (.aload_n 0, 1) := by decide +kernel
theorem dX6_judge_40 : decode cX6_judge 40 = .ok (.getfield 127, 3) := by decide +kernel
theorem dX6_judge_43 : decode cX6_judge 43 = .ok (.ireturn, 1) := by decide +kernel
set_option maxRecDepth 20000 in
theorem ggX6_barOfNights_X6_faultOf : GoodIn wsX6_barOfNights wsX6_faultOf := goodIn_r _ [5, 6, 7, 8, 9, 4, 10, 11, 12, 13, 79, 80, 81, 82, 83, 84, 85, 86, 87, 88, 89, 90, 91, 92, 93, 94, 95, 96, 97, 98, 99, 100] (by decide +kernel) (by decide +kernel)
set_option maxRecDepth 20000 in
theorem gX6_barOfNights_X6_faultOf : GoodIn wsX6_barOfNights (wsV RX6 78 RX6 yX6_faultOf wsX6_faultOf) := goodIn_app (goodIn_of _ (by decide +kernel)) ggX6_barOfNights_X6_faultOf
set_option maxRecDepth 20000 in
theorem ggX6_barOfNights_X6_goNights : GoodIn wsX6_barOfNights wsX6_goNights := goodIn_r _ [17, 18, 6, 7, 19, 20, 21, 22, 23, 24, 25, 4, 26, 27, 28, 29, 30, 31, 32, 33, 34, 35, 36, 37, 38, 39, 40, 41, 42, 43, 44, 45, 46, 47, 48, 49, 50, 51, 52, 53, 54, 55, 56, 57, 58, 59, 60, 61, 62, 63, 64, 65, 66, 67, 68, 69, 70, 71, 72, 73, 74, 75, 76, 77, 78, 79, 80, 81, 82, 83, 84, 85, 86, 87, 88, 89, 90, 91, 92, 93, 94, 95, 96, 97, 98, 99, 100] (by decide +kernel) (by decide +kernel)
set_option maxRecDepth 20000 in
theorem gX6_barOfNights_X6_goNights : GoodIn wsX6_barOfNights (wsV RX6 137 RX6 yX6_goNights wsX6_goNights) := goodIn_app (goodIn_of _ (by decide +kernel)) ggX6_barOfNights_X6_goNights
theorem dX6_barOfNights_0 : decode cX6_barOfNights 0 = .ok (.aload_n 0, 1) := by decide +kernel
theorem dX6_barOfNights_1 : decode cX6_barOfNights 1 = .ok (.invokevirtual 78, 3) := by decide +kernel
theorem dX6_barOfNights_4 : decode cX6_barOfNights 4 = .ok (.ifCond .ge 10, 3) := by decide +kernel
theorem dX6_barOfNights_7 : decode cX6_barOfNights 7 = .ok (.aload_n 0, 1) := by decide +kernel
theorem dX6_barOfNights_8 : decode cX6_barOfNights 8 = .ok (.invokevirtual 137, 3) := by decide +kernel
theorem dX6_barOfNights_11 : decode cX6_barOfNights 11 = .ok (.ifCond .lt 8, 3) := by decide +kernel
theorem dX6_barOfNights_14 : decode cX6_barOfNights 14 = .ok (.bipush (-5), 2) := by decide +kernel
theorem dX6_barOfNights_16 : decode cX6_barOfNights 16 = .ok (.goto 4, 3) := by decide +kernel
theorem dX6_barOfNights_19 : decode cX6_barOfNights 19 = .ok (.iconst 0, 1) := by decide +kernel
theorem dX6_barOfNights_20 : decode cX6_barOfNights 20 = .ok (.ireturn, 1) := by decide +kernel
set_option maxRecDepth 20000 in
theorem ggX6_done_X6_barOfNights : GoodIn wsX6_done wsX6_barOfNights := goodIn_r _ [9, 10, 11, 12, 8, 13, 3, 14, 15, 16, 17, 18, 19, 20, 21, 22, 23, 24, 4, 25, 26, 27, 28, 29, 30, 31, 32, 2, 1, 33, 34, 35, 36, 37, 38, 39, 40, 41, 42, 43, 44, 45, 46, 47, 48, 49, 50, 51, 52, 53, 54, 55, 56, 57, 58, 59, 60, 61, 62, 63, 64, 65, 66, 67, 68, 69, 70, 71, 72, 73, 74, 75, 76, 77, 78, 79, 80, 81, 82, 83, 84, 85, 86, 87, 88, 89, 90, 91, 92, 93, 94, 95, 96, 97, 98, 99, 100, 101, 102, 103, 104] (by decide +kernel) (by decide +kernel)
set_option maxRecDepth 20000 in
theorem gX6_done_X6_barOfNights : GoodIn wsX6_done (wsV RX6 140 RX6 yX6_barOfNights wsX6_barOfNights) := goodIn_app (goodIn_of _ (by decide +kernel)) ggX6_done_X6_barOfNights
theorem dX6_done_0 : decode cX6_done 0 = .ok (.aload_n 0, 1) := by decide +kernel
theorem dX6_done_1 : decode cX6_done 1 = .ok (.invokevirtual 140, 3) := by decide +kernel
theorem dX6_done_4 : decode cX6_done 4 = .ok (.ifCond .ge 6, 3) := by decide +kernel
theorem dX6_done_7 : decode cX6_done 7 = .ok (.bipush (-5), 2) := by decide +kernel
theorem dX6_done_9 : decode cX6_done 9 = .ok (.ireturn, 1) := by decide +kernel
theorem dX6_done_10 : decode cX6_done 10 = .ok (.iconst 0, 1) := by decide +kernel
theorem dX6_done_11 : decode cX6_done 11 = .ok (.istore_n 1, 1) := by decide +kernel
theorem dX6_done_12 : decode cX6_done 12 = .ok (.iload_n 1, 1) := by decide +kernel
theorem dX6_done_13 : decode cX6_done 13 = .ok (.bipush 69, 2) := by decide +kernel
theorem dX6_done_15 : decode cX6_done 15 = .ok (.if_icmp .ge 21, 3) := by decide +kernel
theorem dX6_done_18 : decode cX6_done 18 = .ok (.aload_n 0, 1) := by decide +kernel
theorem dX6_done_19 : decode cX6_done 19 = .ok (.getfield 7, 3) := by decide +kernel
theorem dX6_done_22 : decode cX6_done 22 = .ok (.iload_n 1, 1) := by decide +kernel
theorem dX6_done_23 : decode cX6_done 23 = .ok (.aload_n 0, 1) := by decide +kernel
theorem dX6_done_24 : decode cX6_done 24 = .ok (.getfield 13, 3) := by decide +kernel
theorem dX6_done_27 : decode cX6_done 27 = .ok (.iload_n 1, 1) := by decide +kernel
theorem dX6_done_28 : decode cX6_done 28 = .ok (.iaload, 1) := by decide +kernel
theorem dX6_done_29 : decode cX6_done 29 = .ok (.iastore, 1) := by decide +kernel
theorem dX6_done_30 : decode cX6_done 30 = .ok (.iinc 1 1, 3) := by decide +kernel
theorem dX6_done_33 : decode cX6_done 33 = .ok (.goto (-21), 3) := by decide +kernel
theorem dX6_done_36 : decode cX6_done 36 = .ok (.aload_n 0, 1) := by decide +kernel
theorem dX6_done_37 : decode cX6_done 37 = .ok (.iconst 0, 1) := by decide +kernel
theorem dX6_done_38 : decode cX6_done 38 = .ok (.putfield 71, 3) := by decide +kernel
theorem dX6_done_41 : decode cX6_done 41 = .ok (.aload_n 0, 1) := by decide +kernel
theorem dX6_done_42 : decode cX6_done 42 = .ok (.getfield 121, 3) := by decide +kernel
theorem dX6_done_45 : decode cX6_done 45 = .ok (.ireturn, 1) := by decide +kernel
set_option maxRecDepth 20000 in
theorem ggX6_behind_X6_isCandle : GoodIn wsX6_behind wsX6_isCandle := goodIn_r _ [5, 6, 7, 4, 8] (by decide +kernel) (by decide +kernel)
set_option maxRecDepth 20000 in
theorem gX6_behind_X6_isCandle : GoodIn wsX6_behind (va_wsS RX6 57 yX6_isCandle wsX6_isCandle) := goodIn_app (goodIn_of _ (by decide +kernel)) ggX6_behind_X6_isCandle
set_option maxRecDepth 20000 in
theorem ggX6_behind_X6_in : GoodIn wsX6_behind wsX6_in := goodIn_r _ [8] (by decide +kernel) (by decide +kernel)
set_option maxRecDepth 20000 in
theorem gX6_behind_X6_in : GoodIn wsX6_behind (va_wsS RX6 53 yX6_in wsX6_in) := goodIn_app (goodIn_of _ (by decide +kernel)) ggX6_behind_X6_in
set_option maxRecDepth 20000 in
theorem ggX6_behind_X6_barOfNights : GoodIn wsX6_behind wsX6_barOfNights := goodIn_r _ [12, 13, 14, 15, 4, 16, 17, 18, 19, 20, 21, 6, 7, 8, 22, 23, 24, 25, 26, 27, 28, 29, 30, 31, 32, 33, 34, 1, 35, 36, 37, 38, 39, 40, 41, 42, 43, 44, 45, 46, 47, 48, 49, 50, 51, 52, 53, 54, 55, 56, 57, 58, 59, 60, 61, 62, 63, 64, 65, 66, 67, 68, 69, 70, 71, 72, 73, 74, 75, 76, 77, 78, 79, 80, 81, 82, 83, 84, 85, 86, 87, 88, 89, 90, 91, 92, 93, 94, 95, 96, 97, 98, 99, 100, 101, 102, 103, 104, 105, 106, 107] (by decide +kernel) (by decide +kernel)
set_option maxRecDepth 20000 in
theorem gX6_behind_X6_barOfNights : GoodIn wsX6_behind (wsV RX6 140 RX6 yX6_barOfNights wsX6_barOfNights) := goodIn_app (goodIn_of _ (by decide +kernel)) ggX6_behind_X6_barOfNights
theorem dX6_behind_0 : decode cX6_behind 0 = .ok (.iload_n 1, 1) := by decide +kernel
theorem dX6_behind_1 : decode cX6_behind 1 = .ok (.invokestatic 57, 3) := by decide +kernel
theorem dX6_behind_4 : decode cX6_behind 4 = .ok (.ifCond .ne 5, 3) := by decide +kernel
theorem dX6_behind_7 : decode cX6_behind 7 = .ok (.iconst (-1), 1) := by decide +kernel
theorem dX6_behind_8 : decode cX6_behind 8 = .ok (.ireturn, 1) := by decide +kernel
theorem dX6_behind_9 : decode cX6_behind 9 = .ok (.iload_n 2, 1) := by decide +kernel
theorem dX6_behind_10 : decode cX6_behind 10 = .ok (.iconst 0, 1) := by decide +kernel
theorem dX6_behind_11 : decode cX6_behind 11 = .ok (.iconst 3, 1) := by decide +kernel
theorem dX6_behind_12 : decode cX6_behind 12 = .ok (.invokestatic 53, 3) := by decide +kernel
theorem dX6_behind_15 : decode cX6_behind 15 = .ok (.ifCond .ne 6, 3) := by decide +kernel
