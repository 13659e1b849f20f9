theorem dX6_look_153 : decode cX6_look 153 = .ok (.ifCond .eq 8, 3) := by decide +kernel
theorem dX6_look_156 : decode cX6_look 156 = .ok (.iload 4, 2) := by decide +kernel
theorem dX6_look_158 : decode cX6_look 158 = .ok (.goto 4, 3) := by decide +kernel
theorem dX6_look_161 : decode cX6_look 161 = .ok (.iload_n 2, 1) := by decide +kernel
theorem dX6_look_162 : decode cX6_look 162 = .ok (.istore_n 2, 1) := by decide +kernel
theorem dX6_look_163 : decode cX6_look 163 = .ok (.iload 6, 2) := by decide +kernel
theorem dX6_look_165 : decode cX6_look 165 = .ok (.ifCond .eq 8, 3) := by decide +kernel
theorem dX6_look_168 : decode cX6_look 168 = .ok (.iload 5, 2) := by decide +kernel
theorem dX6_look_170 : decode cX6_look 170 = .ok (.goto 4, 3) := by decide +kernel
theorem dX6_look_173 : decode cX6_look 173 = .ok (.iload_n 3, 1) := by decide +kernel
theorem dX6_look_174 : decode cX6_look 174 = .ok (.istore_n 3, 1) := by decide +kernel
theorem dX6_look_175 : decode cX6_look 175 = .ok (.iinc 4 1, 3) := by decide +kernel
theorem dX6_look_178 : decode cX6_look 178 = .ok (.goto (-153), 3) := by decide +kernel
theorem dX6_look_181 : decode cX6_look 181 = .ok (.iload_n 2, 1) := by decide +kernel
theorem dX6_look_182 : decode cX6_look 182 = .ok (.ifCond .lt 7, 3) := by decide +kernel
theorem dX6_look_185 : decode cX6_look 185 = .ok (.iload_n 1, 1) := by decide +kernel
theorem dX6_look_186 : decode cX6_look 186 = .ok (.ifCond .ne 7, 3) := by decide +kernel
theorem dX6_look_189 : decode cX6_look 189 = .ok (.iload_n 2, 1) := by decide +kernel
theorem dX6_look_190 : decode cX6_look 190 = .ok (.goto 4, 3) := by decide +kernel
theorem dX6_look_193 : decode cX6_look 193 = .ok (.iload_n 3, 1) := by decide +kernel
theorem dX6_look_194 : decode cX6_look 194 = .ok (.ireturn, 1) := by decide +kernel
theorem dX6_layRows_0 : decode cX6_layRows 0 = .ok (.aload_n 0, 1) := by decide +kernel
theorem dX6_layRows_1 : decode cX6_layRows 1 = .ok (.getfield 40, 3) := by decide +kernel
theorem dX6_layRows_4 : decode cX6_layRows 4 = .ok (.iconst 0, 1) := by decide +kernel
theorem dX6_layRows_5 : decode cX6_layRows 5 = .ok (.iconst 0, 1) := by decide +kernel
theorem dX6_layRows_6 : decode cX6_layRows 6 = .ok (.iastore, 1) := by decide +kernel
theorem dX6_layRows_7 : decode cX6_layRows 7 = .ok (.iconst 1, 1) := by decide +kernel
theorem dX6_layRows_8 : decode cX6_layRows 8 = .ok (.istore_n 1, 1) := by decide +kernel
theorem dX6_layRows_9 : decode cX6_layRows 9 = .ok (.iload_n 1, 1) := by decide +kernel
theorem dX6_layRows_10 : decode cX6_layRows 10 = .ok (.bipush 13, 2) := by decide +kernel
theorem dX6_layRows_12 : decode cX6_layRows 12 = .ok (.if_icmp .ge 119, 3) := by decide +kernel
theorem dX6_layRows_15 : decode cX6_layRows 15 = .ok (.iconst 0, 1) := by decide +kernel
theorem dX6_layRows_16 : decode cX6_layRows 16 = .ok (.istore_n 2, 1) := by decide +kernel
theorem dX6_layRows_17 : decode cX6_layRows 17 = .ok (.iload_n 2, 1) := by decide +kernel
theorem dX6_layRows_18 : decode cX6_layRows 18 = .ok (.bipush 32, 2) := by decide +kernel
theorem dX6_layRows_20 : decode cX6_layRows 20 = .ok (.if_icmp .ge 16, 3) := by decide +kernel
theorem dX6_layRows_23 : decode cX6_layRows 23 = .ok (.aload_n 0, 1) := by decide +kernel
theorem dX6_layRows_24 : decode cX6_layRows 24 = .ok (.getfield 43, 3) := by decide +kernel
theorem dX6_layRows_27 : decode cX6_layRows 27 = .ok (.iload_n 2, 1) := by decide +kernel
theorem dX6_layRows_28 : decode cX6_layRows 28 = .ok (.iconst 0, 1) := by decide +kernel
theorem dX6_layRows_29 : decode cX6_layRows 29 = .ok (.bastore, 1) := by decide +kernel
theorem dX6_layRows_30 : decode cX6_layRows 30 = .ok (.iinc 2 1, 3) := by decide +kernel
theorem dX6_layRows_33 : decode cX6_layRows 33 = .ok (.goto (-16), 3) := by decide +kernel
theorem dX6_layRows_36 : decode cX6_layRows 36 = .ok (.iconst 0, 1) := by decide +kernel
theorem dX6_layRows_37 : decode cX6_layRows 37 = .ok (.istore_n 2, 1) := by decide +kernel
theorem dX6_layRows_38 : decode cX6_layRows 38 = .ok (.iload_n 2, 1) := by decide +kernel
theorem dX6_layRows_39 : decode cX6_layRows 39 = .ok (.iload_n 1, 1) := by decide +kernel
theorem dX6_layRows_40 : decode cX6_layRows 40 = .ok (.if_icmp .ge 61, 3) := by decide +kernel
theorem dX6_layRows_43 : decode cX6_layRows 43 = .ok (.iload_n 2, 1) := by decide +kernel
theorem dX6_layRows_44 : decode cX6_layRows 44 = .ok (.iconst 1, 1) := by decide +kernel
theorem dX6_layRows_45 : decode cX6_layRows 45 = .ok (.if_icmp .le 9, 3) := by decide +kernel
theorem dX6_layRows_48 : decode cX6_layRows 48 = .ok (.iload_n 2, 1) := by decide +kernel
theorem dX6_layRows_49 : decode cX6_layRows 49 = .ok (.iconst 1, 1) := by decide +kernel
theorem dX6_layRows_50 : decode cX6_layRows 50 = .ok (.isub, 1) := by decide +kernel
theorem dX6_layRows_51 : decode cX6_layRows 51 = .ok (.goto 4, 3) := by decide +kernel
theorem dX6_layRows_54 : decode cX6_layRows 54 = .ok (.iconst 0, 1) := by decide +kernel
theorem dX6_layRows_55 : decode cX6_layRows 55 = .ok (.istore_n 3, 1) := by decide +kernel
theorem dX6_layRows_56 : decode cX6_layRows 56 = .ok (.iload_n 1, 1) := by decide +kernel
theorem dX6_layRows_57 : decode cX6_layRows 57 = .ok (.iload_n 2, 1) := by decide +kernel
theorem dX6_layRows_58 : decode cX6_layRows 58 = .ok (.isub, 1) := by decide +kernel
theorem dX6_layRows_59 : decode cX6_layRows 59 = .ok (.iconst 2, 1) := by decide +kernel
theorem dX6_layRows_60 : decode cX6_layRows 60 = .ok (.isub, 1) := by decide +kernel
theorem dX6_layRows_61 : decode cX6_layRows 61 = .ok (.ifCond .le 11, 3) := by decide +kernel
theorem dX6_layRows_64 : decode cX6_layRows 64 = .ok (.iload_n 1, 1) := by decide +kernel
theorem dX6_layRows_65 : decode cX6_layRows 65 = .ok (.iload_n 2, 1) := by decide +kernel
theorem dX6_layRows_66 : decode cX6_layRows 66 = .ok (.isub, 1) := by decide +kernel
theorem dX6_layRows_67 : decode cX6_layRows 67 = .ok (.iconst 2, 1) := by decide +kernel
theorem dX6_layRows_68 : decode cX6_layRows 68 = .ok (.isub, 1) := by decide +kernel
theorem dX6_layRows_69 : decode cX6_layRows 69 = .ok (.goto 4, 3) := by decide +kernel
theorem dX6_layRows_72 : decode cX6_layRows 72 = .ok (.iconst 0, 1) := by decide +kernel
theorem dX6_layRows_73 : decode cX6_layRows 73 = .ok (.istore 4, 2) := by decide +kernel
theorem dX6_layRows_75 : decode cX6_layRows 75 = .ok (.aload_n 0, 1) := by decide +kernel
theorem dX6_layRows_76 : decode cX6_layRows 76 = .ok (.getfield 43, 3) := by decide +kernel
theorem dX6_layRows_79 : decode cX6_layRows 79 = .ok (.aload_n 0, 1) := by decide +kernel
theorem dX6_layRows_80 : decode cX6_layRows 80 = .ok (.getfield 40, 3) := by decide +kernel
theorem dX6_layRows_83 : decode cX6_layRows 83 = .ok (.iload_n 3, 1) := by decide +kernel
theorem dX6_layRows_84 : decode cX6_layRows 84 = .ok (.iaload, 1) := by decide +kernel
theorem dX6_layRows_85 : decode cX6_layRows 85 = .ok (.aload_n 0, 1) := by decide +kernel
theorem dX6_layRows_86 : decode cX6_layRows 86 = .ok (.getfield 40, 3) := by decide +kernel
theorem dX6_layRows_89 : decode cX6_layRows 89 = .ok (.iload 4, 2) := by decide +kernel
theorem dX6_layRows_91 : decode cX6_layRows 91 = .ok (.iaload, 1) := by decide +kernel
theorem dX6_layRows_92 : decode cX6_layRows 92 = .ok (.ixor, 1) := by decide +kernel
theorem dX6_layRows_93 : decode cX6_layRows 93 = .ok (.iconst 1, 1) := by decide +kernel
theorem dX6_layRows_94 : decode cX6_layRows 94 = .ok (.bastore, 1) := by decide +kernel
theorem dX6_layRows_95 : decode cX6_layRows 95 = .ok (.iinc 2 1, 3) := by decide +kernel
theorem dX6_layRows_98 : decode cX6_layRows 98 = .ok (.goto (-60), 3) := by decide +kernel
theorem dX6_layRows_101 : decode cX6_layRows 101 = .ok (.iconst 0, 1) := by decide +kernel
theorem dX6_layRows_102 : decode cX6_layRows 102 = .ok (.istore_n 2, 1) := by decide +kernel
theorem dX6_layRows_103 : decode cX6_layRows 103 = .ok (.aload_n 0, 1) := by decide +kernel
theorem dX6_layRows_104 : decode cX6_layRows 104 = .ok (.getfield 43, 3) := by decide +kernel
theorem dX6_layRows_107 : decode cX6_layRows 107 = .ok (.iload_n 2, 1) := by decide +kernel
theorem dX6_layRows_108 : decode cX6_layRows 108 = .ok (.baload, 1) := by decide +kernel
theorem dX6_layRows_109 : decode cX6_layRows 109 = .ok (.ifCond .eq 9, 3) := by decide +kernel
theorem dX6_layRows_112 : decode cX6_layRows 112 = .ok (.iinc 2 1, 3) := by decide +kernel
theorem dX6_layRows_115 : decode cX6_layRows 115 = .ok (.goto (-12), 3) := by decide +kernel
theorem dX6_layRows_118 : decode cX6_layRows 118 = .ok (.aload_n 0, 1) := by decide +kernel
theorem dX6_layRows_119 : decode cX6_layRows 119 = .ok (.getfield 40, 3) := by decide +kernel
theorem dX6_layRows_122 : decode cX6_layRows 122 = .ok (.iload_n 1, 1) := by decide +kernel
theorem dX6_layRows_123 : decode cX6_layRows 123 = .ok (.iload_n 2, 1) := by decide +kernel
theorem dX6_layRows_124 : decode cX6_layRows 124 = .ok (.iastore, 1) := by decide +kernel
theorem dX6_layRows_125 : decode cX6_layRows 125 = .ok (.iinc 1 1, 3) := by decide +kernel
theorem dX6_layRows_128 : decode cX6_layRows 128 = .ok (.goto (-119), 3) := by decide +kernel
theorem dX6_layRows_131 : decode cX6_layRows 131 = .ok (.return_, 1) := by decide +kernel
set_option maxRecDepth 20000 in
theorem ggX6_worthOf_X6_isIn : GoodIn wsX6_worthOf wsX6_isIn := goodIn_r _ [5] (by decide +kernel) (by decide +kernel)
set_option maxRecDepth 20000 in
theorem gX6_worthOf_X6_isIn : GoodIn wsX6_worthOf (va_wsS RX6 91 yX6_isIn wsX6_isIn) := goodIn_app (goodIn_of _ (by decide +kernel)) ggX6_worthOf_X6_isIn
theorem dX6_worthOf_0 : decode cX6_worthOf 0 = .ok (.iconst 0, 1) := by decide +kernel
theorem dX6_worthOf_1 : decode cX6_worthOf 1 = .ok (.istore_n 2, 1) := by decide +kernel
theorem dX6_worthOf_2 : decode cX6_worthOf 2 = .ok (.iconst 0, 1) := by decide +kernel
theorem dX6_worthOf_3 : decode cX6_worthOf 3 = .ok (.istore_n 3, 1) := by decide +kernel
theorem dX6_worthOf_4 : decode cX6_worthOf 4 = .ok (.iconst 0, 1) := by decide +kernel
theorem dX6_worthOf_5 : decode cX6_worthOf 5 = .ok (.istore 4, 2) := by decide +kernel
theorem dX6_worthOf_7 : decode cX6_worthOf 7 = .ok (.iload 4, 2) := by decide +kernel
theorem dX6_worthOf_9 : decode cX6_worthOf 9 = .ok (.bipush 13, 2) := by decide +kernel
theorem dX6_worthOf_11 : decode cX6_worthOf 11 = .ok (.if_icmp .ge 35, 3) := by decide +kernel
theorem dX6_worthOf_14 : decode cX6_worthOf 14 = .ok (.iload_n 1, 1) := by decide +kernel
theorem dX6_worthOf_15 : decode cX6_worthOf 15 = .ok (.iload 4, 2) := by decide +kernel
theorem dX6_worthOf_17 : decode cX6_worthOf 17 = .ok (.invokestatic 91, 3) := by decide +kernel
theorem dX6_worthOf_20 : decode cX6_worthOf 20 = .ok (.ifCond .eq 9, 3) := by decide +kernel
theorem dX6_worthOf_23 : decode cX6_worthOf 23 = .ok (.iinc 3 1, 3) := by decide +kernel
theorem dX6_worthOf_26 : decode cX6_worthOf 26 = .ok (.goto 14, 3) := by decide +kernel
theorem dX6_worthOf_29 : decode cX6_worthOf 29 = .ok (.iload_n 2, 1) := by decide +kernel
theorem dX6_worthOf_30 : decode cX6_worthOf 30 = .ok (.aload_n 0, 1) := by decide +kernel
theorem dX6_worthOf_31 : decode cX6_worthOf 31 = .ok (.getfield 40, 3) := by decide +kernel
theorem dX6_worthOf_34 : decode cX6_worthOf 34 = .ok (.iload_n 3, 1) := by decide +kernel
theorem dX6_worthOf_35 : decode cX6_worthOf 35 = .ok (.iaload, 1) := by decide +kernel
theorem dX6_worthOf_36 : decode cX6_worthOf 36 = .ok (.ixor, 1) := by decide +kernel
theorem dX6_worthOf_37 : decode cX6_worthOf 37 = .ok (.istore_n 2, 1) := by decide +kernel
theorem dX6_worthOf_38 : decode cX6_worthOf 38 = .ok (.iconst 0, 1) := by decide +kernel
theorem dX6_worthOf_39 : decode cX6_worthOf 39 = .ok (.istore_n 3, 1) := by decide +kernel
theorem dX6_worthOf_40 : decode cX6_worthOf 40 = .ok (.iinc 4 1, 3) := by decide +kernel
theorem dX6_worthOf_43 : decode cX6_worthOf 43 = .ok (.goto (-36), 3) := by decide +kernel
theorem dX6_worthOf_46 : decode cX6_worthOf 46 = .ok (.iload_n 2, 1) := by decide +kernel
theorem dX6_worthOf_47 : decode cX6_worthOf 47 = .ok (.ireturn, 1) := by decide +kernel
set_option maxRecDepth 20000 in
theorem ggX6_snuff_X6_in : GoodIn wsX6_snuff wsX6_in := goodIn_r _ [5] (by decide +kernel) (by decide +kernel)
set_option maxRecDepth 20000 in
theorem gX6_snuff_X6_in : GoodIn wsX6_snuff (va_wsS RX6 53 yX6_in wsX6_in) := goodIn_app (goodIn_of _ (by decide +kernel)) ggX6_snuff_X6_in
set_option maxRecDepth 20000 in
theorem ggX6_snuff_X6_layRows : GoodIn wsX6_snuff wsX6_layRows := goodIn_r _ [9, 10, 11, 19, 20, 21, 22, 23, 24, 25, 26, 27, 28, 29, 30, 31, 32, 33, 34, 35, 36, 37, 38, 39, 40] (by decide +kernel) (by decide +kernel)
set_option maxRecDepth 20000 in
theorem gX6_snuff_X6_layRows : GoodIn wsX6_snuff (wsV RX6 179 RX6 yX6_layRows wsX6_layRows) := goodIn_app (goodIn_of _ (by decide +kernel)) ggX6_snuff_X6_layRows
set_option maxRecDepth 20000 in
theorem ggX6_snuff_X6_isIn : GoodIn wsX6_snuff wsX6_isIn := goodIn_r _ [14] (by decide +kernel) (by decide +kernel)
set_option maxRecDepth 20000 in
theorem gX6_snuff_X6_isIn : GoodIn wsX6_snuff (va_wsS RX6 91 yX6_isIn wsX6_isIn) := goodIn_app (goodIn_of _ (by decide +kernel)) ggX6_snuff_X6_isIn
set_option maxRecDepth 20000 in
theorem ggX6_snuff_X6_worthOf : GoodIn wsX6_snuff wsX6_worthOf := goodIn_r _ [18, 10, 12, 13, 4, 14, 19, 20, 21, 22, 23, 24, 25, 26, 27, 28, 29, 30, 31, 32, 33, 34, 35, 36, 37, 38, 39, 40] (by decide +kernel) (by decide +kernel)
set_option maxRecDepth 20000 in
theorem gX6_snuff_X6_worthOf : GoodIn wsX6_snuff (wsV RX6 182 RX6 yX6_worthOf wsX6_worthOf) := goodIn_app (goodIn_of _ (by decide +kernel)) ggX6_snuff_X6_worthOf
theorem dX6_snuff_0 : decode cX6_snuff 0 = .ok (.iload_n 1, 1) := by decide +kernel
theorem dX6_snuff_1 : decode cX6_snuff 1 = .ok (.iconst 0, 1) := by decide +kernel
theorem dX6_snuff_2 : decode cX6_snuff 2 = .ok (.iconst 1, 1) := by decide +kernel
theorem dX6_snuff_3 : decode cX6_snuff 3 = .ok (.invokestatic 53, 3) := by decide +kernel
theorem dX6_snuff_6 : decode cX6_snuff 6 = .ok (.ifCond .ne 6, 3) := by decide +kernel
theorem dX6_snuff_9 : decode cX6_snuff 9 = .ok (.bipush (-2), 2) := by decide +kernel
theorem dX6_snuff_11 : decode cX6_snuff 11 = .ok (.ireturn, 1) := by decide +kernel
theorem dX6_snuff_12 : decode cX6_snuff 12 = .ok (.aload_n 0, 1) := by decide +kernel
theorem dX6_snuff_13 : decode cX6_snuff 13 = .ok (.invokevirtual 179, 3) := by decide +kernel
theorem dX6_snuff_16 : decode cX6_snuff 16 = .ok (.bipush (-6), 2) := by decide +kernel
theorem dX6_snuff_18 : decode cX6_snuff 18 = .ok (.istore_n 2, 1) := by decide +kernel
theorem dX6_snuff_19 : decode cX6_snuff 19 = .ok (.bipush 11, 2) := by decide +kernel
theorem dX6_snuff_21 : decode cX6_snuff 21 = .ok (.istore_n 3, 1) := by decide +kernel
theorem dX6_snuff_22 : decode cX6_snuff 22 = .ok (.iload_n 3, 1) := by decide +kernel
theorem dX6_snuff_23 : decode cX6_snuff 23 = .ok (.ifCond .lt 56, 3) := by decide +kernel
theorem dX6_snuff_26 : decode cX6_snuff 26 = .ok (.bipush 7, 2) := by decide +kernel
theorem dX6_snuff_28 : decode cX6_snuff 28 = .ok (.iload_n 3, 1) := by decide +kernel
theorem dX6_snuff_29 : decode cX6_snuff 29 = .ok (.ishl, 1) := by decide +kernel
theorem dX6_snuff_30 : decode cX6_snuff 30 = .ok (.iconst 1, 1) := by decide +kernel
theorem dX6_snuff_31 : decode cX6_snuff 31 = .ok (.ishr, 1) := by decide +kernel
theorem dX6_snuff_32 : decode cX6_snuff 32 = .ok (.istore 4, 2) := by decide +kernel
theorem dX6_snuff_34 : decode cX6_snuff 34 = .ok (.aload_n 0, 1) := by decide +kernel
theorem dX6_snuff_35 : decode cX6_snuff 35 = .ok (.getfield 7, 3) := by decide +kernel
theorem dX6_snuff_38 : decode cX6_snuff 38 = .ok (.bipush 66, 2) := by decide +kernel
theorem dX6_snuff_40 : decode cX6_snuff 40 = .ok (.iaload, 1) := by decide +kernel
theorem dX6_snuff_41 : decode cX6_snuff 41 = .ok (.iload_n 3, 1) := by decide +kernel
theorem dX6_snuff_42 : decode cX6_snuff 42 = .ok (.invokestatic 91, 3) := by decide +kernel
theorem dX6_snuff_45 : decode cX6_snuff 45 = .ok (.ifCond .eq 26, 3) := by decide +kernel
theorem dX6_snuff_48 : decode cX6_snuff 48 = .ok (.aload_n 0, 1) := by decide +kernel
theorem dX6_snuff_49 : decode cX6_snuff 49 = .ok (.aload_n 0, 1) := by decide +kernel
theorem dX6_snuff_50 : decode cX6_snuff 50 = .ok (.getfield 7, 3) := by decide +kernel
theorem dX6_snuff_53 : decode cX6_snuff 53 = .ok (.bipush 66, 2) := by decide +kernel
theorem dX6_snuff_55 : decode cX6_snuff 55 = .ok (.iaload, 1) := by decide +kernel
theorem dX6_snuff_56 : decode cX6_snuff 56 = .ok (.iload 4, 2) := by decide +kernel
theorem dX6_snuff_58 : decode cX6_snuff 58 = .ok (.iconst (-1), 1) := by decide +kernel
theorem dX6_snuff_59 : decode cX6_snuff 59 = .ok (.ixor, 1) := by decide +kernel
theorem dX6_snuff_60 : decode cX6_snuff 60 = .ok (.iand, 1) := by decide +kernel
theorem dX6_snuff_61 : decode cX6_snuff 61 = .ok (.invokevirtual 182, 3) := by decide +kernel
theorem dX6_snuff_64 : decode cX6_snuff 64 = .ok (.ifCond .ne 7, 3) := by decide +kernel
theorem dX6_snuff_67 : decode cX6_snuff 67 = .ok (.iload_n 3, 1) := by decide +kernel
theorem dX6_snuff_68 : decode cX6_snuff 68 = .ok (.goto 4, 3) := by decide +kernel
theorem dX6_snuff_71 : decode cX6_snuff 71 = .ok (.iload_n 2, 1) := by decide +kernel
theorem dX6_snuff_72 : decode cX6_snuff 72 = .ok (.istore_n 2, 1) := by decide +kernel
theorem dX6_snuff_73 : decode cX6_snuff 73 = .ok (.iinc 3 (-1), 3) := by decide +kernel
theorem dX6_snuff_76 : decode cX6_snuff 76 = .ok (.goto (-54), 3) := by decide +kernel
theorem dX6_snuff_79 : decode cX6_snuff 79 = .ok (.iload_n 1, 1) := by decide +kernel
theorem dX6_snuff_80 : decode cX6_snuff 80 = .ok (.iconst 1, 1) := by decide +kernel
theorem dX6_snuff_81 : decode cX6_snuff 81 = .ok (.if_icmp .ne 7, 3) := by decide +kernel
theorem dX6_snuff_84 : decode cX6_snuff 84 = .ok (.iload_n 2, 1) := by decide +kernel
theorem dX6_snuff_85 : decode cX6_snuff 85 = .ok (.goto 12, 3) := by decide +kernel
theorem dX6_snuff_88 : decode cX6_snuff 88 = .ok (.iload_n 2, 1) := by decide +kernel
theorem dX6_snuff_89 : decode cX6_snuff 89 = .ok (.ifCond .ge 7, 3) := by decide +kernel
theorem dX6_snuff_92 : decode cX6_snuff 92 = .ok (.iconst 0, 1) := by decide +kernel
theorem dX6_snuff_93 : decode cX6_snuff 93 = .ok (.goto 4, 3) := by decide +kernel
theorem dX6_snuff_96 : decode cX6_snuff 96 = .ok (.iconst 1, 1) := by decide +kernel
theorem dX6_snuff_97 : decode cX6_snuff 97 = .ok (.ireturn, 1) := by decide +kernel
theorem dX6_lowest_0 : decode cX6_lowest 0 = .ok (.lload_n 0, 1) := by decide +kernel
theorem dX6_lowest_1 : decode cX6_lowest 1 = .ok (.lstore 5, 2) := by decide +kernel
theorem dX6_lowest_3 : decode cX6_lowest 3 = .ok (.lload_n 2, 1) := by decide +kernel
theorem dX6_lowest_4 : decode cX6_lowest 4 = .ok (.lstore 7, 2) := by decide +kernel
theorem dX6_lowest_6 : decode cX6_lowest 6 = .ok (.lload 7, 2) := by decide +kernel
theorem dX6_lowest_8 : decode cX6_lowest 8 = .ok (.lconst 0, 1) := by decide +kernel
theorem dX6_lowest_9 : decode cX6_lowest 9 = .ok (.lcmp, 1) := by decide +kernel
theorem dX6_lowest_10 : decode cX6_lowest 10 = .ok (.ifCond .eq 21, 3) := by decide +kernel
theorem dX6_lowest_13 : decode cX6_lowest 13 = .ok (.lload 5, 2) := by decide +kernel
theorem dX6_lowest_15 : decode cX6_lowest 15 = .ok (.lload 7, 2) := by decide +kernel
theorem dX6_lowest_17 : decode cX6_lowest 17 = .ok (.lrem, 1) := by decide +kernel
theorem dX6_lowest_18 : decode cX6_lowest 18 = .ok (.lstore 9, 2) := by decide +kernel
theorem dX6_lowest_20 : decode cX6_lowest 20 = .ok (.lload 7, 2) := by decide +kernel
theorem dX6_lowest_22 : decode cX6_lowest 22 = .ok (.lstore 5, 2) := by decide +kernel
theorem dX6_lowest_24 : decode cX6_lowest 24 = .ok (.lload 9, 2) := by decide +kernel
theorem dX6_lowest_26 : decode cX6_lowest 26 = .ok (.lstore 7, 2) := by decide +kernel
theorem dX6_lowest_28 : decode cX6_lowest 28 = .ok (.goto (-22), 3) := by decide +kernel
theorem dX6_lowest_31 : decode cX6_lowest 31 = .ok (.iload 4, 2) := by decide +kernel
theorem dX6_lowest_33 : decode cX6_lowest 33 = .ok (.ifCond .ne 10, 3) := by decide +kernel
theorem dX6_lowest_36 : decode cX6_lowest 36 = .ok (.lload_n 0, 1) := by decide +kernel
theorem dX6_lowest_37 : decode cX6_lowest 37 = .ok (.lload 5, 2) := by decide +kernel
theorem dX6_lowest_39 : decode cX6_lowest 39 = .ok (.ldiv, 1) := by decide +kernel
theorem dX6_lowest_40 : decode cX6_lowest 40 = .ok (.goto 7, 3) := by decide +kernel
theorem dX6_lowest_43 : decode cX6_lowest 43 = .ok (.lload_n 2, 1) := by decide +kernel
theorem dX6_lowest_44 : decode cX6_lowest 44 = .ok (.lload 5, 2) := by decide +kernel
theorem dX6_lowest_46 : decode cX6_lowest 46 = .ok (.ldiv, 1) := by decide +kernel
theorem dX6_lowest_47 : decode cX6_lowest 47 = .ok (.lreturn, 1) := by decide +kernel
set_option maxRecDepth 20000 in
theorem ggX6_moths_X6_isCandle : GoodIn wsX6_moths wsX6_isCandle := goodIn_r _ [8, 9, 10, 7, 11] (by decide +kernel) (by decide +kernel)
set_option maxRecDepth 20000 in
theorem gX6_moths_X6_isCandle : GoodIn wsX6_moths (va_wsS RX6 57 yX6_isCandle wsX6_isCandle) := goodIn_app (goodIn_of _ (by decide +kernel)) ggX6_moths_X6_isCandle
set_option maxRecDepth 20000 in
theorem ggX6_moths_X6_isIn : GoodIn wsX6_moths wsX6_isIn := goodIn_r _ [14] (by decide +kernel) (by decide +kernel)
set_option maxRecDepth 20000 in
theorem gX6_moths_X6_isIn : GoodIn wsX6_moths (va_wsS RX6 91 yX6_isIn wsX6_isIn) := goodIn_app (goodIn_of _ (by decide +kernel)) ggX6_moths_X6_isIn
set_option maxRecDepth 20000 in
theorem ggX6_moths_X6_in : GoodIn wsX6_moths wsX6_in := goodIn_r _ [11] (by decide +kernel) (by decide +kernel)
set_option maxRecDepth 20000 in
theorem gX6_moths_X6_in : GoodIn wsX6_moths (va_wsS RX6 53 yX6_in wsX6_in) := goodIn_app (goodIn_of _ (by decide +kernel)) ggX6_moths_X6_in
set_option maxRecDepth 20000 in
theorem ggX6_moths_X6_lastsOf : GoodIn wsX6_moths wsX6_lastsOf := goodIn_r _ [18, 1, 19, 20, 21, 7, 22, 23, 24, 25, 26, 27, 28, 29, 30, 34, 35, 36, 37, 38, 39, 40, 41, 42, 43, 44, 45, 46, 47, 48, 49, 50, 51, 52, 53, 54, 55] (by decide +kernel) (by decide +kernel)
set_option maxRecDepth 20000 in
theorem gX6_moths_X6_lastsOf : GoodIn wsX6_moths (wsV RX6 143 RX6 yX6_lastsOf wsX6_lastsOf) := goodIn_app (goodIn_of _ (by decide +kernel)) ggX6_moths_X6_lastsOf
set_option maxRecDepth 20000 in
theorem ggX6_moths_X6_lowest : GoodIn wsX6_moths wsX6_lowest := goodIn_r _ [33] (by decide +kernel) (by decide +kernel)
set_option maxRecDepth 20000 in
theorem gX6_moths_X6_lowest : GoodIn wsX6_moths (va_wsS RX6 191 yX6_lowest wsX6_lowest) := goodIn_app (goodIn_of _ (by decide +kernel)) ggX6_moths_X6_lowest
theorem dX6_moths_0 : decode cX6_moths 0 = .ok (.iload_n 1, 1) := by decide +kernel
theorem dX6_moths_1 : decode cX6_moths 1 = .ok (.iconst (-1), 1) := by decide +kernel
theorem dX6_moths_2 : decode cX6_moths 2 = .ok (.if_icmp .eq 28, 3) := by decide +kernel
theorem dX6_moths_5 : decode cX6_moths 5 = .ok (.iload_n 1, 1) := by decide +kernel
theorem dX6_moths_6 : decode cX6_moths 6 = .ok (.invokestatic 57, 3) := by decide +kernel
theorem dX6_moths_9 : decode cX6_moths 9 = .ok (.ifCond .eq 17, 3) := by decide +kernel
theorem dX6_moths_12 : decode cX6_moths 12 = .ok (.aload_n 0, 1) := by decide +kernel
theorem dX6_moths_13 : decode cX6_moths 13 = .ok (.getfield 7, 3) := by decide +kernel
theorem dX6_moths_16 : decode cX6_moths 16 = .ok (.bipush 66, 2) := by decide +kernel
theorem dX6_moths_18 : decode cX6_moths 18 = .ok (.iaload, 1) := by decide +kernel
theorem dX6_moths_19 : decode cX6_moths 19 = .ok (.iload_n 1, 1) := by decide +kernel
theorem dX6_moths_20 : decode cX6_moths 20 = .ok (.invokestatic 91, 3) := by decide +kernel
theorem dX6_moths_23 : decode cX6_moths 23 = .ok (.ifCond .ne 7, 3) := by decide +kernel
theorem dX6_moths_26 : decode cX6_moths 26 = .ok (.ldc2_w 185, 3) := by decide +kernel
theorem dX6_moths_29 : decode cX6_moths 29 = .ok (.lreturn, 1) := by decide +kernel
theorem dX6_moths_30 : decode cX6_moths 30 = .ok (.iload_n 2, 1) := by decide +kernel
theorem dX6_moths_31 : decode cX6_moths 31 = .ok (.iconst 0, 1) := by decide +kernel
theorem dX6_moths_32 : decode cX6_moths 32 = .ok (.bipush 10, 2) := by decide +kernel
theorem dX6_moths_34 : decode cX6_moths 34 = .ok (.invokestatic 53, 3) := by decide +kernel
theorem dX6_moths_37 : decode cX6_moths 37 = .ok (.ifCond .eq 23, 3) := by decide +kernel
theorem dX6_moths_40 : decode cX6_moths 40 = .ok (.iload_n 3, 1) := by decide +kernel
theorem dX6_moths_41 : decode cX6_moths 41 = .ok (.iconst 0, 1) := by decide +kernel
theorem dX6_moths_42 : decode cX6_moths 42 = .ok (.bipush 15, 2) := by decide +kernel
theorem dX6_moths_44 : decode cX6_moths 44 = .ok (.invokestatic 53, 3) := by decide +kernel
theorem dX6_moths_47 : decode cX6_moths 47 = .ok (.ifCond .eq 13, 3) := by decide +kernel
theorem dX6_moths_50 : decode cX6_moths 50 = .ok (.iload 4, 2) := by decide +kernel
theorem dX6_moths_52 : decode cX6_moths 52 = .ok (.iconst 0, 1) := by decide +kernel
theorem dX6_moths_53 : decode cX6_moths 53 = .ok (.iconst 1, 1) := by decide +kernel
theorem dX6_moths_54 : decode cX6_moths 54 = .ok (.invokestatic 53, 3) := by decide +kernel
theorem dX6_moths_57 : decode cX6_moths 57 = .ok (.ifCond .ne 7, 3) := by decide +kernel
theorem dX6_moths_60 : decode cX6_moths 60 = .ok (.ldc2_w 187, 3) := by decide +kernel
theorem dX6_moths_63 : decode cX6_moths 63 = .ok (.lreturn, 1) := by decide +kernel
theorem dX6_moths_64 : decode cX6_moths 64 = .ok (.lconst 1, 1) := by decide +kernel
theorem dX6_moths_65 : decode cX6_moths 65 = .ok (.lstore 5, 2) := by decide +kernel
theorem dX6_moths_67 : decode cX6_moths 67 = .ok (.lconst 1, 1) := by decide +kernel
theorem dX6_moths_68 : decode cX6_moths 68 = .ok (.lstore 7, 2) := by decide +kernel
theorem dX6_moths_70 : decode cX6_moths 70 = .ok (.iconst 0, 1) := by decide +kernel
theorem dX6_moths_71 : decode cX6_moths 71 = .ok (.istore 9, 2) := by decide +kernel
theorem dX6_moths_73 : decode cX6_moths 73 = .ok (.iload 9, 2) := by decide +kernel
theorem dX6_moths_75 : decode cX6_moths 75 = .ok (.iload_n 3, 1) := by decide +kernel
theorem dX6_moths_76 : decode cX6_moths 76 = .ok (.if_icmp .ge 28, 3) := by decide +kernel
theorem dX6_moths_79 : decode cX6_moths 79 = .ok (.lload 5, 2) := by decide +kernel
theorem dX6_moths_81 : decode cX6_moths 81 = .ok (.ldc2_w 189, 3) := by decide +kernel
theorem dX6_moths_84 : decode cX6_moths 84 = .ok (.lmul, 1) := by decide +kernel
theorem dX6_moths_85 : decode cX6_moths 85 = .ok (.lstore 5, 2) := by decide +kernel
theorem dX6_moths_87 : decode cX6_moths 87 = .ok (.lload 7, 2) := by decide +kernel
theorem dX6_moths_89 : decode cX6_moths 89 = .ok (.ldc2_w 189, 3) := by decide +kernel
theorem dX6_moths_92 : decode cX6_moths 92 = .ok (.iload_n 2, 1) := by decide +kernel
theorem dX6_moths_93 : decode cX6_moths 93 = .ok (.i2l, 1) := by decide +kernel
theorem dX6_moths_94 : decode cX6_moths 94 = .ok (.lsub, 1) := by decide +kernel
theorem dX6_moths_95 : decode cX6_moths 95 = .ok (.lmul, 1) := by decide +kernel
theorem dX6_moths_96 : decode cX6_moths 96 = .ok (.lstore 7, 2) := by decide +kernel
theorem dX6_moths_98 : decode cX6_moths 98 = .ok (.iinc 9 1, 3) := by decide +kernel
theorem dX6_moths_101 : decode cX6_moths 101 = .ok (.goto (-28), 3) := by decide +kernel
theorem dX6_moths_104 : decode cX6_moths 104 = .ok (.iconst 0, 1) := by decide +kernel
theorem dX6_moths_105 : decode cX6_moths 105 = .ok (.istore 9, 2) := by decide +kernel
theorem dX6_moths_107 : decode cX6_moths 107 = .ok (.iconst 0, 1) := by decide +kernel
theorem dX6_moths_108 : decode cX6_moths 108 = .ok (.istore 10, 2) := by decide +kernel
theorem dX6_moths_110 : decode cX6_moths 110 = .ok (.iload 10, 2) := by decide +kernel
theorem dX6_moths_112 : decode cX6_moths 112 = .ok (.bipush 12, 2) := by decide +kernel
theorem dX6_moths_114 : decode cX6_moths 114 = .ok (.if_icmp .ge 55, 3) := by decide +kernel
theorem dX6_moths_117 : decode cX6_moths 117 = .ok (.iload 9, 2) := by decide +kernel
theorem dX6_moths_119 : decode cX6_moths 119 = .ok (.iload_n 1, 1) := by decide +kernel
theorem dX6_moths_120 : decode cX6_moths 120 = .ok (.iconst (-1), 1) := by decide +kernel
theorem dX6_moths_121 : decode cX6_moths 121 = .ok (.if_icmp .eq 9, 3) := by decide +kernel
theorem dX6_moths_124 : decode cX6_moths 124 = .ok (.iload 10, 2) := by decide +kernel
theorem dX6_moths_126 : decode cX6_moths 126 = .ok (.iload_n 1, 1) := by decide +kernel
theorem dX6_moths_127 : decode cX6_moths 127 = .ok (.if_icmp .ne 32, 3) := by decide +kernel
theorem dX6_moths_130 : decode cX6_moths 130 = .ok (.aload_n 0, 1) := by decide +kernel
theorem dX6_moths_131 : decode cX6_moths 131 = .ok (.getfield 7, 3) := by decide +kernel
theorem dX6_moths_134 : decode cX6_moths 134 = .ok (.bipush 66, 2) := by decide +kernel
theorem dX6_moths_136 : decode cX6_moths 136 = .ok (.iaload, 1) := by decide +kernel
theorem dX6_moths_137 : decode cX6_moths 137 = .ok (.iload 10, 2) := by decide +kernel
theorem dX6_moths_139 : decode cX6_moths 139 = .ok (.invokestatic 91, 3) := by decide +kernel
theorem dX6_moths_142 : decode cX6_moths 142 = .ok (.ifCond .eq 17, 3) := by decide +kernel
theorem dX6_moths_145 : decode cX6_moths 145 = .ok (.iload_n 3, 1) := by decide +kernel
theorem dX6_moths_146 : decode cX6_moths 146 = .ok (.aload_n 0, 1) := by decide +kernel
theorem dX6_moths_147 : decode cX6_moths 147 = .ok (.iload 10, 2) := by decide +kernel
theorem dX6_moths_149 : decode cX6_moths 149 = .ok (.invokevirtual 143, 3) := by decide +kernel
theorem dX6_moths_152 : decode cX6_moths 152 = .ok (.if_icmp .ge 7, 3) := by decide +kernel
theorem dX6_moths_155 : decode cX6_moths 155 = .ok (.iconst 1, 1) := by decide +kernel
theorem dX6_moths_156 : decode cX6_moths 156 = .ok (.goto 4, 3) := by decide +kernel
theorem dX6_moths_159 : decode cX6_moths 159 = .ok (.iconst 0, 1) := by decide +kernel
theorem dX6_moths_160 : decode cX6_moths 160 = .ok (.iadd, 1) := by decide +kernel
theorem dX6_moths_161 : decode cX6_moths 161 = .ok (.istore 9, 2) := by decide +kernel
theorem dX6_moths_163 : decode cX6_moths 163 = .ok (.iinc 10 1, 3) := by decide +kernel
theorem dX6_moths_166 : decode cX6_moths 166 = .ok (.goto (-56), 3) := by decide +kernel
theorem dX6_moths_169 : decode cX6_moths 169 = .ok (.iload 9, 2) := by decide +kernel
theorem dX6_moths_171 : decode cX6_moths 171 = .ok (.i2l, 1) := by decide +kernel
theorem dX6_moths_172 : decode cX6_moths 172 = .ok (.lload 7, 2) := by decide +kernel
theorem dX6_moths_174 : decode cX6_moths 174 = .ok (.lmul, 1) := by decide +kernel
theorem dX6_moths_175 : decode cX6_moths 175 = .ok (.lload 5, 2) := by decide +kernel
theorem dX6_moths_177 : decode cX6_moths 177 = .ok (.iload 4, 2) := by decide +kernel
theorem dX6_moths_179 : decode cX6_moths 179 = .ok (.invokestatic 191, 3) := by decide +kernel
theorem dX6_moths_182 : decode cX6_moths 182 = .ok (.lreturn, 1) := by decide +kernel
set_option maxRecDepth 20000 in
theorem ggX6_ship_X6_in : GoodIn wsX6_ship wsX6_in := goodIn_r _ [6] (by decide +kernel) (by decide +kernel)
set_option maxRecDepth 20000 in
theorem gX6_ship_X6_in : GoodIn wsX6_ship (va_wsS RX6 53 yX6_in wsX6_in) := goodIn_app (goodIn_of _ (by decide +kernel)) ggX6_ship_X6_in
set_option maxRecDepth 20000 in
theorem ggX6_ship_X6_lowest : GoodIn wsX6_ship wsX6_lowest := goodIn_r _ [9] (by decide +kernel) (by decide +kernel)
set_option maxRecDepth 20000 in
theorem gX6_ship_X6_lowest : GoodIn wsX6_ship (va_wsS RX6 191 yX6_lowest wsX6_lowest) := goodIn_app (goodIn_of _ (by decide +kernel)) ggX6_ship_X6_lowest
theorem dX6_ship_0 : decode cX6_ship 0 = .ok (.iload_n 1, 1) := by decide +kernel
theorem dX6_ship_1 : decode cX6_ship 1 = .ok (.iconst 1, 1) := by decide +kernel
theorem dX6_ship_2 : decode cX6_ship 2 = .ok (.bipush 9, 2) := by decide +kernel
theorem dX6_ship_4 : decode cX6_ship 4 = .ok (.invokestatic 53, 3) := by decide +kernel
theorem dX6_ship_7 : decode cX6_ship 7 = .ok (.ifCond .eq 33, 3) := by decide +kernel
theorem dX6_ship_10 : decode cX6_ship 10 = .ok (.iload_n 2, 1) := by decide +kernel
theorem dX6_ship_11 : decode cX6_ship 11 = .ok (.iconst 0, 1) := by decide +kernel
theorem dX6_ship_12 : decode cX6_ship 12 = .ok (.bipush 99, 2) := by decide +kernel
theorem dX6_ship_14 : decode cX6_ship 14 = .ok (.invokestatic 53, 3) := by decide +kernel
theorem dX6_ship_17 : decode cX6_ship 17 = .ok (.ifCond .eq 23, 3) := by decide +kernel
theorem dX6_ship_20 : decode cX6_ship 20 = .ok (.iload_n 3, 1) := by decide +kernel
theorem dX6_ship_21 : decode cX6_ship 21 = .ok (.iconst 0, 1) := by decide +kernel
theorem dX6_ship_22 : decode cX6_ship 22 = .ok (.bipush 99, 2) := by decide +kernel
theorem dX6_ship_24 : decode cX6_ship 24 = .ok (.invokestatic 53, 3) := by decide +kernel
theorem dX6_ship_27 : decode cX6_ship 27 = .ok (.ifCond .eq 13, 3) := by decide +kernel
theorem dX6_ship_30 : decode cX6_ship 30 = .ok (.iload 4, 2) := by decide +kernel
theorem dX6_ship_32 : decode cX6_ship 32 = .ok (.iconst 0, 1) := by decide +kernel
theorem dX6_ship_33 : decode cX6_ship 33 = .ok (.iconst 1, 1) := by decide +kernel
theorem dX6_ship_34 : decode cX6_ship 34 = .ok (.invokestatic 53, 3) := by decide +kernel
theorem dX6_ship_37 : decode cX6_ship 37 = .ok (.ifCond .ne 7, 3) := by decide +kernel
theorem dX6_ship_40 : decode cX6_ship 40 = .ok (.ldc2_w 187, 3) := by decide +kernel
theorem dX6_ship_43 : decode cX6_ship 43 = .ok (.lreturn, 1) := by decide +kernel
theorem dX6_ship_44 : decode cX6_ship 44 = .ok (.ldc2_w 195, 3) := by decide +kernel
theorem dX6_ship_47 : decode cX6_ship 47 = .ok (.iload_n 2, 1) := by decide +kernel
theorem dX6_ship_48 : decode cX6_ship 48 = .ok (.iload_n 1, 1) := by decide +kernel
theorem dX6_ship_49 : decode cX6_ship 49 = .ok (.imul, 1) := by decide +kernel
theorem dX6_ship_50 : decode cX6_ship 50 = .ok (.i2l, 1) := by decide +kernel
theorem dX6_ship_51 : decode cX6_ship 51 = .ok (.lsub, 1) := by decide +kernel
theorem dX6_ship_52 : decode cX6_ship 52 = .ok (.lconst 0, 1) := by decide +kernel
theorem dX6_ship_53 : decode cX6_ship 53 = .ok (.lcmp, 1) := by decide +kernel
theorem dX6_ship_54 : decode cX6_ship 54 = .ok (.ifCond .le 14, 3) := by decide +kernel
theorem dX6_ship_57 : decode cX6_ship 57 = .ok (.ldc2_w 195, 3) := by decide +kernel
theorem dX6_ship_60 : decode cX6_ship 60 = .ok (.iload_n 2, 1) := by decide +kernel
theorem dX6_ship_61 : decode cX6_ship 61 = .ok (.iload_n 1, 1) := by decide +kernel
theorem dX6_ship_62 : decode cX6_ship 62 = .ok (.imul, 1) := by decide +kernel
theorem dX6_ship_63 : decode cX6_ship 63 = .ok (.i2l, 1) := by decide +kernel
theorem dX6_ship_64 : decode cX6_ship 64 = .ok (.lsub, 1) := by decide +kernel
theorem dX6_ship_65 : decode cX6_ship 65 = .ok (.goto 4, 3) := by decide +kernel
theorem dX6_ship_68 : decode cX6_ship 68 = .ok (.lconst 0, 1) := by decide +kernel
theorem dX6_ship_69 : decode cX6_ship 69 = .ok (.lstore 5, 2) := by decide +kernel
theorem dX6_ship_71 : decode cX6_ship 71 = .ok (.ldc2_w 195, 3) := by decide +kernel
theorem dX6_ship_74 : decode cX6_ship 74 = .ok (.iload_n 2, 1) := by decide +kernel
theorem dX6_ship_75 : decode cX6_ship 75 = .ok (.iload_n 3, 1) := by decide +kernel
theorem dX6_ship_76 : decode cX6_ship 76 = .ok (.iadd, 1) := by decide +kernel
theorem dX6_ship_77 : decode cX6_ship 77 = .ok (.iload_n 1, 1) := by decide +kernel
theorem dX6_ship_78 : decode cX6_ship 78 = .ok (.imul, 1) := by decide +kernel
theorem dX6_ship_79 : decode cX6_ship 79 = .ok (.i2l, 1) := by decide +kernel
theorem dX6_ship_80 : decode cX6_ship 80 = .ok (.lsub, 1) := by decide +kernel
theorem dX6_ship_81 : decode cX6_ship 81 = .ok (.lconst 0, 1) := by decide +kernel
theorem dX6_ship_82 : decode cX6_ship 82 = .ok (.lcmp, 1) := by decide +kernel
theorem dX6_ship_83 : decode cX6_ship 83 = .ok (.ifCond .le 16, 3) := by decide +kernel
theorem dX6_ship_86 : decode cX6_ship 86 = .ok (.ldc2_w 195, 3) := by decide +kernel
theorem dX6_ship_89 : decode cX6_ship 89 = .ok (.iload_n 2, 1) := by decide +kernel
theorem dX6_ship_90 : decode cX6_ship 90 = .ok (.iload_n 3, 1) := by decide +kernel
theorem dX6_ship_91 : decode cX6_ship 91 = .ok (.iadd, 1) := by decide +kernel
theorem dX6_ship_92 : decode cX6_ship 92 = .ok (.iload_n 1, 1) := by decide +kernel
theorem dX6_ship_93 : decode cX6_ship 93 = .ok (.imul, 1) := by decide +kernel
theorem dX6_ship_94 : decode cX6_ship 94 = .ok (.i2l, 1) := by decide +kernel
theorem dX6_ship_95 : decode cX6_ship 95 = .ok (.lsub, 1) := by decide +kernel
theorem dX6_ship_96 : decode cX6_ship 96 = .ok (.goto 4, 3) := by decide +kernel
theorem dX6_ship_99 : decode cX6_ship 99 = .ok (.lconst 0, 1) := by decide +kernel
theorem dX6_ship_100 : decode cX6_ship 100 = .ok (.lstore 7, 2) := by decide +kernel
theorem dX6_ship_102 : decode cX6_ship 102 = .ok (.lload 5, 2) := by decide +kernel
theorem dX6_ship_104 : decode cX6_ship 104 = .ok (.lconst 0, 1) := by decide +kernel
theorem dX6_ship_105 : decode cX6_ship 105 = .ok (.lcmp, 1) := by decide +kernel
theorem dX6_ship_106 : decode cX6_ship 106 = .ok (.ifCond .ne 9, 3) := by decide +kernel
theorem dX6_ship_109 : decode cX6_ship 109 = .ok (.iload 4, 2) := by decide +kernel
theorem dX6_ship_111 : decode cX6_ship 111 = .ok (.i2l, 1) := by decide +kernel
theorem dX6_ship_112 : decode cX6_ship 112 = .ok (.goto 12, 3) := by decide +kernel
theorem dX6_ship_115 : decode cX6_ship 115 = .ok (.lload 7, 2) := by decide +kernel
theorem dX6_ship_117 : decode cX6_ship 117 = .ok (.lload 5, 2) := by decide +kernel
theorem dX6_ship_119 : decode cX6_ship 119 = .ok (.iload 4, 2) := by decide +kernel
theorem dX6_ship_121 : decode cX6_ship 121 = .ok (.invokestatic 191, 3) := by decide +kernel
theorem dX6_ship_124 : decode cX6_ship 124 = .ok (.lreturn, 1) := by decide +kernel
set_option maxRecDepth 20000 in
theorem ggX6_year_X6_in : GoodIn wsX6_year wsX6_in := goodIn_r _ [7] (by decide +kernel) (by decide +kernel)
set_option maxRecDepth 20000 in
theorem gX6_year_X6_in : GoodIn wsX6_year (va_wsS RX6 53 yX6_in wsX6_in) := goodIn_app (goodIn_of _ (by decide +kernel)) ggX6_year_X6_in
set_option maxRecDepth 20000 in
theorem ggX6_year_X6_asNow : GoodIn wsX6_year wsX6_asNow := goodIn_r _ [11, 2, 12, 3, 13, 14, 64, 65, 66, 67, 68, 69, 70, 71, 72, 73, 74, 75, 76, 77, 78, 79, 80, 81, 82, 83, 84, 85] (by decide +kernel) (by decide +kernel)
set_option maxRecDepth 20000 in
theorem gX6_year_X6_asNow : GoodIn wsX6_year (wsV RX6 64 RX6 yX6_asNow wsX6_asNow) := goodIn_app (goodIn_of _ (by decide +kernel)) ggX6_year_X6_asNow
set_option maxRecDepth 20000 in
theorem ggX6_year_X6_lightFrom : GoodIn wsX6_year wsX6_lightFrom := goodIn_r _ [18, 2, 19, 20, 21, 6, 22, 23, 24, 25, 64, 65, 66, 67, 68, 69, 70, 71, 72, 73, 74, 75, 76, 77, 78, 79, 80, 81, 82, 83, 84, 85] (by decide +kernel) (by decide +kernel)
set_option maxRecDepth 20000 in
theorem gX6_year_X6_lightFrom : GoodIn wsX6_year (wsV RX6 117 RX6 yX6_lightFrom wsX6_lightFrom) := goodIn_app (goodIn_of _ (by decide +kernel)) ggX6_year_X6_lightFrom
set_option maxRecDepth 20000 in
theorem ggX6_year_X6_strike : GoodIn wsX6_year wsX6_strike := goodIn_r _ [29, 2, 19, 20, 21, 6, 22, 23, 24, 25, 30, 31, 32, 33, 64, 65, 66, 67, 68, 69, 70, 71, 72, 73, 74, 75, 76, 77, 78, 79, 80, 81, 82, 83, 84, 85] (by decide +kernel) (by decide +kernel)
set_option maxRecDepth 20000 in
theorem gX6_year_X6_strike : GoodIn wsX6_year (wsV RX6 105 RX6 yX6_strike wsX6_strike) := goodIn_app (goodIn_of _ (by decide +kernel)) ggX6_year_X6_strike
set_option maxRecDepth 20000 in
theorem ggX6_year_X6_snuffOut : GoodIn wsX6_year wsX6_snuffOut := goodIn_r _ [37, 2, 19, 20, 21, 6, 22, 23, 24, 25, 64, 65, 66, 67, 68, 69, 70, 71, 72, 73, 74, 75, 76, 77, 78, 79, 80, 81, 82, 83, 84, 85] (by decide +kernel) (by decide +kernel)
set_option maxRecDepth 20000 in
theorem gX6_year_X6_snuffOut : GoodIn wsX6_year (wsV RX6 108 RX6 yX6_snuffOut wsX6_snuffOut) := goodIn_app (goodIn_of _ (by decide +kernel)) ggX6_year_X6_snuffOut
set_option maxRecDepth 20000 in
theorem ggX6_year_X6_askFor : GoodIn wsX6_year wsX6_askFor := goodIn_r _ [41, 2, 42, 43, 3, 19, 20, 21, 6, 22, 23, 24, 25, 64, 65, 66, 67, 68, 69, 70, 71, 72, 73, 74, 75, 76, 77, 78, 79, 80, 81, 82, 83, 84, 85] (by decide +kernel) (by decide +kernel)
set_option maxRecDepth 20000 in
theorem gX6_year_X6_askFor : GoodIn wsX6_year (wsV RX6 111 RX6 yX6_askFor wsX6_askFor) := goodIn_app (goodIn_of _ (by decide +kernel)) ggX6_year_X6_askFor
set_option maxRecDepth 20000 in
theorem ggX6_year_X6_trim : GoodIn wsX6_year wsX6_trim := goodIn_r _ [47, 2, 64, 65, 66, 67, 68, 69, 70, 71, 72, 73, 74, 75, 76, 77, 78, 79, 80, 81, 82, 83, 84, 85] (by decide +kernel) (by decide +kernel)
set_option maxRecDepth 20000 in
theorem gX6_year_X6_trim : GoodIn wsX6_year (wsV RX6 114 RX6 yX6_trim wsX6_trim) := goodIn_app (goodIn_of _ (by decide +kernel)) ggX6_year_X6_trim
set_option maxRecDepth 20000 in
theorem ggX6_year_X6_blow : GoodIn wsX6_year wsX6_blow := goodIn_r _ [51, 2, 64, 65, 66, 67, 68, 69, 70, 71, 72, 73, 74, 75, 76, 77, 78, 79, 80, 81, 82, 83, 84, 85] (by decide +kernel) (by decide +kernel)
set_option maxRecDepth 20000 in
theorem gX6_year_X6_blow : GoodIn wsX6_year (wsV RX6 130 RX6 yX6_blow wsX6_blow) := goodIn_app (goodIn_of _ (by decide +kernel)) ggX6_year_X6_blow
set_option maxRecDepth 20000 in
theorem ggX6_year_X6_minute : GoodIn wsX6_year wsX6_minute := goodIn_r _ [55, 2, 56, 19, 20, 21, 6, 22, 23, 24, 25, 57, 58, 59, 60, 64, 65, 66, 67, 68, 69, 70, 71, 72, 73, 74, 75, 76, 77, 78, 79, 80, 81, 82, 83, 84, 85] (by decide +kernel) (by decide +kernel)
set_option maxRecDepth 20000 in
theorem gX6_year_X6_minute : GoodIn wsX6_year (wsV RX6 124 RX6 yX6_minute wsX6_minute) := goodIn_app (goodIn_of _ (by decide +kernel)) ggX6_year_X6_minute
set_option maxRecDepth 20000 in
theorem ggX6_year_X6_bits : GoodIn wsX6_year wsX6_bits := goodIn_r _ [63] (by decide +kernel) (by decide +kernel)
set_option maxRecDepth 20000 in
theorem gX6_year_X6_bits : GoodIn wsX6_year (va_wsS RX6 161 yX6_bits wsX6_bits) := goodIn_app (goodIn_of _ (by decide +kernel)) ggX6_year_X6_bits
theorem dX6_year_0 : decode cX6_year 0 = .ok (.iload_n 1, 1) := by decide +kernel
theorem dX6_year_1 : decode cX6_year 1 = .ok (.iconst 0, 1) := by decide +kernel
theorem dX6_year_2 : decode cX6_year 2 = .ok (.sipush 9999, 3) := by decide +kernel
theorem dX6_year_5 : decode cX6_year 5 = .ok (.invokestatic 53, 3) := by decide +kernel
theorem dX6_year_8 : decode cX6_year 8 = .ok (.ifCond .eq 22, 3) := by decide +kernel
theorem dX6_year_11 : decode cX6_year 11 = .ok (.iload_n 2, 1) := by decide +kernel
theorem dX6_year_12 : decode cX6_year 12 = .ok (.iconst 1, 1) := by decide +kernel
theorem dX6_year_13 : decode cX6_year 13 = .ok (.bipush 99, 2) := by decide +kernel
theorem dX6_year_15 : decode cX6_year 15 = .ok (.invokestatic 53, 3) := by decide +kernel
theorem dX6_year_18 : decode cX6_year 18 = .ok (.ifCond .eq 12, 3) := by decide +kernel
theorem dX6_year_21 : decode cX6_year 21 = .ok (.iload_n 3, 1) := by decide +kernel
theorem dX6_year_22 : decode cX6_year 22 = .ok (.iconst 0, 1) := by decide +kernel
theorem dX6_year_23 : decode cX6_year 23 = .ok (.iconst 2, 1) := by decide +kernel
theorem dX6_year_24 : decode cX6_year 24 = .ok (.invokestatic 53, 3) := by decide +kernel
theorem dX6_year_27 : decode cX6_year 27 = .ok (.ifCond .ne 6, 3) := by decide +kernel
theorem dX6_year_30 : decode cX6_year 30 = .ok (.bipush (-2), 2) := by decide +kernel
theorem dX6_year_32 : decode cX6_year 32 = .ok (.ireturn, 1) := by decide +kernel
theorem dX6_year_33 : decode cX6_year 33 = .ok (.aload_n 0, 1) := by decide +kernel
theorem dX6_year_34 : decode cX6_year 34 = .ok (.invokevirtual 64, 3) := by decide +kernel
theorem dX6_year_37 : decode cX6_year 37 = .ok (.iload_n 1, 1) := by decide +kernel
theorem dX6_year_38 : decode cX6_year 38 = .ok (.istore 4, 2) := by decide +kernel
theorem dX6_year_40 : decode cX6_year 40 = .ok (.iconst 0, 1) := by decide +kernel
theorem dX6_year_41 : decode cX6_year 41 = .ok (.istore 5, 2) := by decide +kernel
theorem dX6_year_43 : decode cX6_year 43 = .ok (.iload 5, 2) := by decide +kernel
theorem dX6_year_45 : decode cX6_year 45 = .ok (.iload_n 2, 1) := by decide +kernel
theorem dX6_year_46 : decode cX6_year 46 = .ok (.if_icmp .ge 159, 3) := by decide +kernel
theorem dX6_year_49 : decode cX6_year 49 = .ok (.bipush 75, 2) := by decide +kernel
theorem dX6_year_51 : decode cX6_year 51 = .ok (.iload 4, 2) := by decide +kernel
theorem dX6_year_53 : decode cX6_year 53 = .ok (.imul, 1) := by decide +kernel
theorem dX6_year_54 : decode cX6_year 54 = .ok (.bipush 74, 2) := by decide +kernel
theorem dX6_year_56 : decode cX6_year 56 = .ok (.iadd, 1) := by decide +kernel
theorem dX6_year_57 : decode cX6_year 57 = .ok (.ldc 197, 2) := by decide +kernel
theorem dX6_year_59 : decode cX6_year 59 = .ok (.irem, 1) := by decide +kernel
theorem dX6_year_60 : decode cX6_year 60 = .ok (.istore 4, 2) := by decide +kernel
theorem dX6_year_62 : decode cX6_year 62 = .ok (.iload 4, 2) := by decide +kernel
theorem dX6_year_64 : decode cX6_year 64 = .ok (.bipush 8, 2) := by decide +kernel
theorem dX6_year_66 : decode cX6_year 66 = .ok (.irem, 1) := by decide +kernel
theorem dX6_year_67 : decode cX6_year 67 = .ok (.istore 6, 2) := by decide +kernel
theorem dX6_year_69 : decode cX6_year 69 = .ok (.iload 4, 2) := by decide +kernel
theorem dX6_year_71 : decode cX6_year 71 = .ok (.bipush 8, 2) := by decide +kernel
theorem dX6_year_73 : decode cX6_year 73 = .ok (.idiv, 1) := by decide +kernel
theorem dX6_year_74 : decode cX6_year 74 = .ok (.bipush 12, 2) := by decide +kernel
theorem dX6_year_76 : decode cX6_year 76 = .ok (.irem, 1) := by decide +kernel
theorem dX6_year_77 : decode cX6_year 77 = .ok (.istore 7, 2) := by decide +kernel
theorem dX6_year_79 : decode cX6_year 79 = .ok (.iload 6, 2) := by decide +kernel
theorem dX6_year_81 : decode cX6_year 81 = .ok (.iconst 4, 1) := by decide +kernel
theorem dX6_year_82 : decode cX6_year 82 = .ok (.if_icmp .ne 29, 3) := by decide +kernel
theorem dX6_year_85 : decode cX6_year 85 = .ok (.iload 7, 2) := by decide +kernel
theorem dX6_year_87 : decode cX6_year 87 = .ok (.bipush 11, 2) := by decide +kernel
theorem dX6_year_89 : decode cX6_year 89 = .ok (.if_icmp .ge 16, 3) := by decide +kernel
theorem dX6_year_92 : decode cX6_year 92 = .ok (.aload_n 0, 1) := by decide +kernel
theorem dX6_year_93 : decode cX6_year 93 = .ok (.iload 7, 2) := by decide +kernel
theorem dX6_year_95 : decode cX6_year 95 = .ok (.iload 7, 2) := by decide +kernel
theorem dX6_year_97 : decode cX6_year 97 = .ok (.iconst 1, 1) := by decide +kernel
theorem dX6_year_98 : decode cX6_year 98 = .ok (.iadd, 1) := by decide +kernel
theorem dX6_year_99 : decode cX6_year 99 = .ok (.invokevirtual 117, 3) := by decide +kernel
theorem dX6_year_102 : decode cX6_year 102 = .ok (.goto 4, 3) := by decide +kernel
theorem dX6_year_105 : decode cX6_year 105 = .ok (.iconst 0, 1) := by decide +kernel
theorem dX6_year_106 : decode cX6_year 106 = .ok (.istore 8, 2) := by decide +kernel
theorem dX6_year_108 : decode cX6_year 108 = .ok (.goto 91, 3) := by decide +kernel
theorem dX6_year_111 : decode cX6_year 111 = .ok (.iload 6, 2) := by decide +kernel
theorem dX6_year_113 : decode cX6_year 113 = .ok (.ifCond .ne 12, 3) := by decide +kernel
theorem dX6_year_116 : decode cX6_year 116 = .ok (.aload_n 0, 1) := by decide +kernel
theorem dX6_year_117 : decode cX6_year 117 = .ok (.iload 7, 2) := by decide +kernel
theorem dX6_year_119 : decode cX6_year 119 = .ok (.invokevirtual 105, 3) := by decide +kernel
theorem dX6_year_122 : decode cX6_year 122 = .ok (.goto 75, 3) := by decide +kernel
theorem dX6_year_125 : decode cX6_year 125 = .ok (.iload 6, 2) := by decide +kernel
theorem dX6_year_127 : decode cX6_year 127 = .ok (.iconst 1, 1) := by decide +kernel
theorem dX6_year_128 : decode cX6_year 128 = .ok (.if_icmp .ne 12, 3) := by decide +kernel
theorem dX6_year_131 : decode cX6_year 131 = .ok (.aload_n 0, 1) := by decide +kernel
theorem dX6_year_132 : decode cX6_year 132 = .ok (.iload 7, 2) := by decide +kernel
theorem dX6_year_134 : decode cX6_year 134 = .ok (.invokevirtual 108, 3) := by decide +kernel
theorem dX6_year_137 : decode cX6_year 137 = .ok (.goto 60, 3) := by decide +kernel
theorem dX6_year_140 : decode cX6_year 140 = .ok (.iload 6, 2) := by decide +kernel
theorem dX6_year_142 : decode cX6_year 142 = .ok (.iconst 2, 1) := by decide +kernel
theorem dX6_year_143 : decode cX6_year 143 = .ok (.if_icmp .ne 12, 3) := by decide +kernel
theorem dX6_year_146 : decode cX6_year 146 = .ok (.aload_n 0, 1) := by decide +kernel
theorem dX6_year_147 : decode cX6_year 147 = .ok (.iload 7, 2) := by decide +kernel
theorem dX6_year_149 : decode cX6_year 149 = .ok (.invokevirtual 111, 3) := by decide +kernel
theorem dX6_year_152 : decode cX6_year 152 = .ok (.goto 45, 3) := by decide +kernel
theorem dX6_year_155 : decode cX6_year 155 = .ok (.iload 6, 2) := by decide +kernel
theorem dX6_year_157 : decode cX6_year 157 = .ok (.iconst 3, 1) := by decide +kernel
theorem dX6_year_158 : decode cX6_year 158 = .ok (.if_icmp .ne 12, 3) := by decide +kernel
theorem dX6_year_161 : decode cX6_year 161 = .ok (.aload_n 0, 1) := by decide +kernel
theorem dX6_year_162 : decode cX6_year 162 = .ok (.iload 7, 2) := by decide +kernel
theorem dX6_year_164 : decode cX6_year 164 = .ok (.invokevirtual 114, 3) := by decide +kernel
theorem dX6_year_167 : decode cX6_year 167 = .ok (.goto 30, 3) := by decide +kernel
theorem dX6_year_170 : decode cX6_year 170 = .ok (.iload 6, 2) := by decide +kernel
theorem dX6_year_172 : decode cX6_year 172 = .ok (.iconst 5, 1) := by decide +kernel
theorem dX6_year_173 : decode cX6_year 173 = .ok (.if_icmp .ne 20, 3) := by decide +kernel
theorem dX6_year_176 : decode cX6_year 176 = .ok (.aload_n 0, 1) := by decide +kernel
theorem dX6_year_177 : decode cX6_year 177 = .ok (.iload 7, 2) := by decide +kernel
theorem dX6_year_179 : decode cX6_year 179 = .ok (.iload 4, 2) := by decide +kernel
theorem dX6_year_181 : decode cX6_year 181 = .ok (.bipush 96, 2) := by decide +kernel
theorem dX6_year_183 : decode cX6_year 183 = .ok (.idiv, 1) := by decide +kernel
theorem dX6_year_184 : decode cX6_year 184 = .ok (.bipush 10, 2) := by decide +kernel
theorem dX6_year_186 : decode cX6_year 186 = .ok (.irem, 1) := by decide +kernel
theorem dX6_year_187 : decode cX6_year 187 = .ok (.invokevirtual 130, 3) := by decide +kernel
theorem dX6_year_190 : decode cX6_year 190 = .ok (.goto 7, 3) := by decide +kernel
theorem dX6_year_193 : decode cX6_year 193 = .ok (.aload_n 0, 1) := by decide +kernel
theorem dX6_year_194 : decode cX6_year 194 = .ok (.invokevirtual 124, 3) := by decide +kernel
theorem dX6_year_197 : decode cX6_year 197 = .ok (.istore 8, 2) := by decide +kernel
theorem dX6_year_199 : decode cX6_year 199 = .ok (.iinc 5 1, 3) := by decide +kernel
theorem dX6_year_202 : decode cX6_year 202 = .ok (.goto (-159), 3) := by decide +kernel
theorem dX6_year_205 : decode cX6_year 205 = .ok (.iconst 0, 1) := by decide +kernel
theorem dX6_year_206 : decode cX6_year 206 = .ok (.istore 5, 2) := by decide +kernel
theorem dX6_year_208 : decode cX6_year 208 = .ok (.iconst 0, 1) := by decide +kernel
theorem dX6_year_209 : decode cX6_year 209 = .ok (.istore 6, 2) := by decide +kernel
theorem dX6_year_211 : decode cX6_year 211 = .ok (.iload 6, 2) := by decide +kernel
theorem dX6_year_213 : decode cX6_year 213 = .ok (.bipush 12, 2) := by decide +kernel
theorem dX6_year_215 : decode cX6_year 215 = .ok (.if_icmp .ge 21, 3) := by decide +kernel
theorem dX6_year_218 : decode cX6_year 218 = .ok (.iload 5, 2) := by decide +kernel
theorem dX6_year_220 : decode cX6_year 220 = .ok (.aload_n 0, 1) := by decide +kernel
theorem dX6_year_221 : decode cX6_year 221 = .ok (.getfield 13, 3) := by decide +kernel
theorem dX6_year_224 : decode cX6_year 224 = .ok (.iload 6, 2) := by decide +kernel
theorem dX6_year_226 : decode cX6_year 226 = .ok (.iaload, 1) := by decide +kernel
theorem dX6_year_227 : decode cX6_year 227 = .ok (.iadd, 1) := by decide +kernel
theorem dX6_year_228 : decode cX6_year 228 = .ok (.istore 5, 2) := by decide +kernel
theorem dX6_year_230 : decode cX6_year 230 = .ok (.iinc 6 1, 3) := by decide +kernel
theorem dX6_year_233 : decode cX6_year 233 = .ok (.goto (-22), 3) := by decide +kernel
theorem dX6_year_236 : decode cX6_year 236 = .ok (.iload_n 3, 1) := by decide +kernel
theorem dX6_year_237 : decode cX6_year 237 = .ok (.ifCond .ne 10, 3) := by decide +kernel
theorem dX6_year_240 : decode cX6_year 240 = .ok (.aload_n 0, 1) := by decide +kernel
theorem dX6_year_241 : decode cX6_year 241 = .ok (.getfield 82, 3) := by decide +kernel
theorem dX6_year_244 : decode cX6_year 244 = .ok (.goto 23, 3) := by decide +kernel
theorem dX6_year_247 : decode cX6_year 247 = .ok (.iload_n 3, 1) := by decide +kernel
theorem dX6_year_248 : decode cX6_year 248 = .ok (.iconst 1, 1) := by decide +kernel
theorem dX6_year_249 : decode cX6_year 249 = .ok (.if_icmp .ne 8, 3) := by decide +kernel
theorem dX6_year_252 : decode cX6_year 252 = .ok (.iload 5, 2) := by decide +kernel
theorem dX6_year_254 : decode cX6_year 254 = .ok (.goto 13, 3) := by decide +kernel
theorem dX6_year_257 : decode cX6_year 257 = .ok (.aload_n 0, 1) := by decide +kernel
theorem dX6_year_258 : decode cX6_year 258 = .ok (.getfield 13, 3) := by decide +kernel
theorem dX6_year_261 : decode cX6_year 261 = .ok (.bipush 66, 2) := by decide +kernel
theorem dX6_year_263 : decode cX6_year 263 = .ok (.iaload, 1) := by decide +kernel
theorem dX6_year_264 : decode cX6_year 264 = .ok (.invokestatic 161, 3) := by decide +kernel
theorem dX6_year_267 : decode cX6_year 267 = .ok (.ireturn, 1) := by decide +kernel
set_option maxRecDepth 20000 in
theorem ggX6_image_X6_in : GoodIn wsX6_image wsX6_in := goodIn_r _ [11] (by decide +kernel) (by decide +kernel)
set_option maxRecDepth 20000 in
theorem gX6_image_X6_in : GoodIn wsX6_image (va_wsS RX6 53 yX6_in wsX6_in) := goodIn_app (goodIn_of _ (by decide +kernel)) ggX6_image_X6_in
theorem dX6_image_0 : decode cX6_image 0 = .ok (.iload_n 1, 1) := by decide +kernel
theorem dX6_image_1 : decode cX6_image 1 = .ok (.iconst 0, 1) := by decide +kernel
theorem dX6_image_2 : decode cX6_image 2 = .ok (.iconst 1, 1) := by decide +kernel
theorem dX6_image_3 : decode cX6_image 3 = .ok (.invokestatic 53, 3) := by decide +kernel
theorem dX6_image_6 : decode cX6_image 6 = .ok (.ifCond .ne 6, 3) := by decide +kernel
theorem dX6_image_9 : decode cX6_image 9 = .ok (.bipush (-2), 2) := by decide +kernel
theorem dX6_image_11 : decode cX6_image 11 = .ok (.ireturn, 1) := by decide +kernel
theorem dX6_image_12 : decode cX6_image 12 = .ok (.bipush 120, 2) := by decide +kernel
theorem dX6_image_14 : decode cX6_image 14 = .ok (.iload_n 1, 1) := by decide +kernel
theorem dX6_image_15 : decode cX6_image 15 = .ok (.imul, 1) := by decide +kernel
theorem dX6_image_16 : decode cX6_image 16 = .ok (.istore_n 2, 1) := by decide +kernel
theorem dX6_image_17 : decode cX6_image 17 = .ok (.iconst 0, 1) := by decide +kernel
theorem dX6_image_18 : decode cX6_image 18 = .ok (.istore_n 3, 1) := by decide +kernel
theorem dX6_image_19 : decode cX6_image 19 = .ok (.iload_n 3, 1) := by decide +kernel
theorem dX6_image_20 : decode cX6_image 20 = .ok (.bipush 69, 2) := by decide +kernel
theorem dX6_image_22 : decode cX6_image 22 = .ok (.if_icmp .ge 23, 3) := by decide +kernel
theorem dX6_image_25 : decode cX6_image 25 = .ok (.aload_n 0, 1) := by decide +kernel
theorem dX6_image_26 : decode cX6_image 26 = .ok (.getfield 47, 3) := by decide +kernel
theorem dX6_image_29 : decode cX6_image 29 = .ok (.iload_n 2, 1) := by decide +kernel
theorem dX6_image_30 : decode cX6_image 30 = .ok (.iload_n 3, 1) := by decide +kernel
theorem dX6_image_31 : decode cX6_image 31 = .ok (.iadd, 1) := by decide +kernel
theorem dX6_image_32 : decode cX6_image 32 = .ok (.aload_n 0, 1) := by decide +kernel
theorem dX6_image_33 : decode cX6_image 33 = .ok (.getfield 7, 3) := by decide +kernel
theorem dX6_image_36 : decode cX6_image 36 = .ok (.iload_n 3, 1) := by decide +kernel
theorem dX6_image_37 : decode cX6_image 37 = .ok (.iaload, 1) := by decide +kernel
theorem dX6_image_38 : decode cX6_image 38 = .ok (.iastore, 1) := by decide +kernel
theorem dX6_image_39 : decode cX6_image 39 = .ok (.iinc 3 1, 3) := by decide +kernel
theorem dX6_image_42 : decode cX6_image 42 = .ok (.goto (-23), 3) := by decide +kernel
theorem dX6_image_45 : decode cX6_image 45 = .ok (.iconst 0, 1) := by decide +kernel
theorem dX6_image_46 : decode cX6_image 46 = .ok (.istore_n 3, 1) := by decide +kernel
theorem dX6_image_47 : decode cX6_image 47 = .ok (.iload_n 3, 1) := by decide +kernel
theorem dX6_image_48 : decode cX6_image 48 = .ok (.bipush 12, 2) := by decide +kernel
theorem dX6_image_50 : decode cX6_image 50 = .ok (.if_icmp .ge 43, 3) := by decide +kernel
theorem dX6_image_53 : decode cX6_image 53 = .ok (.aload_n 0, 1) := by decide +kernel
theorem dX6_image_54 : decode cX6_image 54 = .ok (.getfield 47, 3) := by decide +kernel
theorem dX6_image_57 : decode cX6_image 57 = .ok (.iload_n 2, 1) := by decide +kernel
theorem dX6_image_58 : decode cX6_image 58 = .ok (.bipush 69, 2) := by decide +kernel
theorem dX6_image_60 : decode cX6_image 60 = .ok (.iadd, 1) := by decide +kernel
theorem dX6_image_61 : decode cX6_image 61 = .ok (.iload_n 3, 1) := by decide +kernel
theorem dX6_image_62 : decode cX6_image 62 = .ok (.iadd, 1) := by decide +kernel
theorem dX6_image_63 : decode cX6_image 63 = .ok (.aload_n 0, 1) := by decide +kernel
theorem dX6_image_64 : decode cX6_image 64 = .ok (.getfield 16, 3) := by decide +kernel
theorem dX6_image_67 : decode cX6_image 67 = .ok (.iload_n 3, 1) := by decide +kernel
theorem dX6_image_68 : decode cX6_image 68 = .ok (.iaload, 1) := by decide +kernel
theorem dX6_image_69 : decode cX6_image 69 = .ok (.iastore, 1) := by decide +kernel
theorem dX6_image_70 : decode cX6_image 70 = .ok (.aload_n 0, 1) := by decide +kernel
theorem dX6_image_71 : decode cX6_image 71 = .ok (.getfield 47, 3) := by decide +kernel
theorem dX6_image_74 : decode cX6_image 74 = .ok (.iload_n 2, 1) := by decide +kernel
theorem dX6_image_75 : decode cX6_image 75 = .ok (.bipush 81, 2) := by decide +kernel
theorem dX6_image_77 : decode cX6_image 77 = .ok (.iadd, 1) := by decide +kernel
theorem dX6_image_78 : decode cX6_image 78 = .ok (.iload_n 3, 1) := by decide +kernel
theorem dX6_image_79 : decode cX6_image 79 = .ok (.iadd, 1) := by decide +kernel
theorem dX6_image_80 : decode cX6_image 80 = .ok (.aload_n 0, 1) := by decide +kernel
theorem dX6_image_81 : decode cX6_image 81 = .ok (.getfield 19, 3) := by decide +kernel
theorem dX6_image_84 : decode cX6_image 84 = .ok (.iload_n 3, 1) := by decide +kernel
theorem dX6_image_85 : decode cX6_image 85 = .ok (.iaload, 1) := by decide +kernel
theorem dX6_image_86 : decode cX6_image 86 = .ok (.iastore, 1) := by decide +kernel
theorem dX6_image_87 : decode cX6_image 87 = .ok (.iinc 3 1, 3) := by decide +kernel
theorem dX6_image_90 : decode cX6_image 90 = .ok (.goto (-43), 3) := by decide +kernel
theorem dX6_image_93 : decode cX6_image 93 = .ok (.iconst 0, 1) := by decide +kernel
theorem dX6_image_94 : decode cX6_image 94 = .ok (.istore_n 3, 1) := by decide +kernel
theorem dX6_image_95 : decode cX6_image 95 = .ok (.iload_n 3, 1) := by decide +kernel
theorem dX6_image_96 : decode cX6_image 96 = .ok (.bipush 16, 2) := by decide +kernel
theorem dX6_image_98 : decode cX6_image 98 = .ok (.if_icmp .ge 26, 3) := by decide +kernel
theorem dX6_image_101 : decode cX6_image 101 = .ok (.aload_n 0, 1) := by decide +kernel
theorem dX6_image_102 : decode cX6_image 102 = .ok (.getfield 47, 3) := by decide +kernel
theorem dX6_image_105 : decode cX6_image 105 = .ok (.iload_n 2, 1) := by decide +kernel
theorem dX6_image_106 : decode cX6_image 106 = .ok (.bipush 93, 2) := by decide +kernel
theorem dX6_image_108 : decode cX6_image 108 = .ok (.iadd, 1) := by decide +kernel
theorem dX6_image_109 : decode cX6_image 109 = .ok (.iload_n 3, 1) := by decide +kernel
theorem dX6_image_110 : decode cX6_image 110 = .ok (.iadd, 1) := by decide +kernel
theorem dX6_image_111 : decode cX6_image 111 = .ok (.aload_n 0, 1) := by decide +kernel
theorem dX6_image_112 : decode cX6_image 112 = .ok (.getfield 22, 3) := by decide +kernel
theorem dX6_image_115 : decode cX6_image 115 = .ok (.iload_n 3, 1) := by decide +kernel
theorem dX6_image_116 : decode cX6_image 116 = .ok (.iaload, 1) := by decide +kernel
theorem dX6_image_117 : decode cX6_image 117 = .ok (.iastore, 1) := by decide +kernel
theorem dX6_image_118 : decode cX6_image 118 = .ok (.iinc 3 1, 3) := by decide +kernel
theorem dX6_image_121 : decode cX6_image 121 = .ok (.goto (-26), 3) := by decide +kernel
theorem dX6_image_124 : decode cX6_image 124 = .ok (.aload_n 0, 1) := by decide +kernel
theorem dX6_image_125 : decode cX6_image 125 = .ok (.getfield 47, 3) := by decide +kernel
theorem dX6_image_128 : decode cX6_image 128 = .ok (.iload_n 2, 1) := by decide +kernel
theorem dX6_image_129 : decode cX6_image 129 = .ok (.bipush 110, 2) := by decide +kernel
theorem dX6_image_131 : decode cX6_image 131 = .ok (.iadd, 1) := by decide +kernel
theorem dX6_image_132 : decode cX6_image 132 = .ok (.aload_n 0, 1) := by decide +kernel
theorem dX6_image_133 : decode cX6_image 133 = .ok (.getfield 167, 3) := by decide +kernel
theorem dX6_image_136 : decode cX6_image 136 = .ok (.iastore, 1) := by decide +kernel
theorem dX6_image_137 : decode cX6_image 137 = .ok (.aload_n 0, 1) := by decide +kernel
theorem dX6_image_138 : decode cX6_image 138 = .ok (.getfield 50, 3) := by decide +kernel
theorem dX6_image_141 : decode cX6_image 141 = .ok (.iload_n 1, 1) := by decide +kernel
theorem dX6_image_142 : decode cX6_image 142 = .ok (.iconst 1, 1) := by decide +kernel
theorem dX6_image_143 : decode cX6_image 143 = .ok (.bastore, 1) := by decide +kernel
theorem dX6_image_144 : decode cX6_image 144 = .ok (.iconst 1, 1) := by decide +kernel
theorem dX6_image_145 : decode cX6_image 145 = .ok (.ireturn, 1) := by decide +kernel
set_option maxRecDepth 20000 in
theorem ggX6_restore_X6_in : GoodIn wsX6_restore wsX6_in := goodIn_r _ [11] (by decide +kernel) (by decide +kernel)
set_option maxRecDepth 20000 in
theorem gX6_restore_X6_in : GoodIn wsX6_restore (va_wsS RX6 53 yX6_in wsX6_in) := goodIn_app (goodIn_of _ (by decide +kernel)) ggX6_restore_X6_in
theorem dX6_restore_0 : decode cX6_restore 0 = .ok (.iload_n 1, 1) := by decide +kernel
theorem dX6_restore_1 : decode cX6_restore 1 = .ok (.iconst 0, 1) := by decide +kernel
theorem dX6_restore_2 : decode cX6_restore 2 = .ok (.iconst 1, 1) := by decide +kernel
theorem dX6_restore_3 : decode cX6_restore 3 = .ok (.invokestatic 53, 3) := by decide +kernel
theorem dX6_restore_6 : decode cX6_restore 6 = .ok (.ifCond .ne 6, 3) := by decide +kernel
theorem dX6_restore_9 : decode cX6_restore 9 = .ok (.bipush (-2), 2) := by decide +kernel
theorem dX6_restore_11 : decode cX6_restore 11 = .ok (.ireturn, 1) := by decide +kernel
theorem dX6_restore_12 : decode cX6_restore 12 = .ok (.aload_n 0, 1) := by decide +kernel
theorem dX6_restore_13 : decode cX6_restore 13 = .ok (.getfield 50, 3) := by decide +kernel
theorem dX6_restore_16 : decode cX6_restore 16 = .ok (.iload_n 1, 1) := by decide +kernel
theorem dX6_restore_17 : decode cX6_restore 17 = .ok (.baload, 1) := by decide +kernel
theorem dX6_restore_18 : decode cX6_restore 18 = .ok (.ifCond .ne 6, 3) := by decide +kernel
theorem dX6_restore_21 : decode cX6_restore 21 = .ok (.bipush (-3), 2) := by decide +kernel
theorem dX6_restore_23 : decode cX6_restore 23 = .ok (.ireturn, 1) := by decide +kernel
theorem dX6_restore_24 : decode cX6_restore 24 = .ok (.bipush 120, 2) := by decide +kernel
theorem dX6_restore_26 : decode cX6_restore 26 = .ok (.iload_n 1, 1) := by decide +kernel
theorem dX6_restore_27 : decode cX6_restore 27 = .ok (.imul, 1) := by decide +kernel
theorem dX6_restore_28 : decode cX6_restore 28 = .ok (.istore_n 2, 1) := by decide +kernel
theorem dX6_restore_29 : decode cX6_restore 29 = .ok (.iconst 0, 1) := by decide +kernel
theorem dX6_restore_30 : decode cX6_restore 30 = .ok (.istore_n 3, 1) := by decide +kernel
theorem dX6_restore_31 : decode cX6_restore 31 = .ok (.iload_n 3, 1) := by decide +kernel
theorem dX6_restore_32 : decode cX6_restore 32 = .ok (.bipush 69, 2) := by decide +kernel
theorem dX6_restore_34 : decode cX6_restore 34 = .ok (.if_icmp .ge 23, 3) := by decide +kernel
theorem dX6_restore_37 : decode cX6_restore 37 = .ok (.aload_n 0, 1) := by decide +kernel
theorem dX6_restore_38 : decode cX6_restore 38 = .ok (.getfield 7, 3) := by decide +kernel
theorem dX6_restore_41 : decode cX6_restore 41 = .ok (.iload_n 3, 1) := by decide +kernel
theorem dX6_restore_42 : decode cX6_restore 42 = .ok (.aload_n 0, 1) := by decide +kernel
theorem dX6_restore_43 : decode cX6_restore 43 = .ok (.getfield 47, 3) := by decide +kernel
theorem dX6_restore_46 : decode cX6_restore 46 = .ok (.iload_n 2, 1) := by decide +kernel
theorem dX6_restore_47 : decode cX6_restore 47 = .ok (.iload_n 3, 1) := by decide +kernel
theorem dX6_restore_48 : decode cX6_restore 48 = .ok (.iadd, 1) := by decide +kernel
theorem dX6_restore_49 : decode cX6_restore 49 = .ok (.iaload, 1) := by decide +kernel
theorem dX6_restore_50 : decode cX6_restore 50 = .ok (.iastore, 1) := by decide +kernel
theorem dX6_restore_51 : decode cX6_restore 51 = .ok (.iinc 3 1, 3) := by decide +kernel
theorem dX6_restore_54 : decode cX6_restore 54 = .ok (.goto (-23), 3) := by decide +kernel
theorem dX6_restore_57 : decode cX6_restore 57 = .ok (.iconst 0, 1) := by decide +kernel
theorem dX6_restore_58 : decode cX6_restore 58 = .ok (.istore_n 3, 1) := by decide +kernel
theorem dX6_restore_59 : decode cX6_restore 59 = .ok (.iload_n 3, 1) := by decide +kernel
theorem dX6_restore_60 : decode cX6_restore 60 = .ok (.bipush 12, 2) := by decide +kernel
theorem dX6_restore_62 : decode cX6_restore 62 = .ok (.if_icmp .ge 43, 3) := by decide +kernel
theorem dX6_restore_65 : decode cX6_restore 65 = .ok (.aload_n 0, 1) := by decide +kernel
theorem dX6_restore_66 : decode cX6_restore 66 = .ok (.getfield 16, 3) := by decide +kernel
theorem dX6_restore_69 : decode cX6_restore 69 = .ok (.iload_n 3, 1) := by decide +kernel
theorem dX6_restore_70 : decode cX6_restore 70 = .ok (.aload_n 0, 1) := by decide +kernel
theorem dX6_restore_71 : decode cX6_restore 71 = .ok (.getfield 47, 3) := by decide +kernel
theorem dX6_restore_74 : decode cX6_restore 74 = .ok (.iload_n 2, 1) := by decide +kernel
theorem dX6_restore_75 : decode cX6_restore 75 = .ok (.bipush 69, 2) := by decide +kernel
theorem dX6_restore_77 : decode cX6_restore 77 = .ok (.iadd, 1) := by decide +kernel
theorem dX6_restore_78 : decode cX6_restore 78 = .ok (.iload_n 3, 1) := by decide +kernel
theorem dX6_restore_79 : decode cX6_restore 79 = .ok (.iadd, 1) := by decide +kernel
theorem dX6_restore_80 : decode cX6_restore 80 = .ok (.iaload, 1) := by decide +kernel
theorem dX6_restore_81 : decode cX6_restore 81 = .ok (.iastore, 1) := by decide +kernel
theorem dX6_restore_82 : decode cX6_restore 82 = .ok (.aload_n 0, 1) := by decide +kernel
theorem dX6_restore_83 : decode cX6_restore 83 = .ok (.getfield 19, 3) := by decide +kernel
theorem dX6_restore_86 : decode cX6_restore 86 = .ok (.iload_n 3, 1) := by decide +kernel
theorem dX6_restore_87 : decode cX6_restore 87 = .ok (.aload_n 0, 1) := by decide +kernel
theorem dX6_restore_88 : decode cX6_restore 88 = .ok (.getfield 47, 3) := by decide +kernel
theorem dX6_restore_91 : decode cX6_restore 91 = .ok (.iload_n 2, 1) := by decide +kernel
theorem dX6_restore_92 : decode cX6_restore 92 = .ok (.bipush 81, 2) := by decide +kernel
theorem dX6_restore_94 : decode cX6_restore 94 = .ok (.iadd, 1) := by decide +kernel
theorem dX6_restore_95 : decode cX6_restore 95 = .ok (.iload_n 3, 1) := by decide +kernel
theorem dX6_restore_96 : decode cX6_restore 96 = .ok (.iadd, 1) := by decide +kernel
theorem dX6_restore_97 : decode cX6_restore 97 = .ok (.iaload, 1) := by decide +kernel
theorem dX6_restore_98 : decode cX6_restore 98 = .ok (.iastore, 1) := by decide +kernel
theorem dX6_restore_99 : decode cX6_restore 99 = .ok (.iinc 3 1, 3) := by decide +kernel
theorem dX6_restore_102 : decode cX6_restore 102 = .ok (.goto (-43), 3) := by decide +kernel
theorem dX6_restore_105 : decode cX6_restore 105 = .ok (.iconst 0, 1) := by decide +kernel
theorem dX6_restore_106 : decode cX6_restore 106 = .ok (.istore_n 3, 1) := by decide +kernel
theorem dX6_restore_107 : decode cX6_restore 107 = .ok (.iload_n 3, 1) := by decide +kernel
theorem dX6_restore_108 : decode cX6_restore 108 = .ok (.bipush 16, 2) := by decide +kernel
theorem dX6_restore_110 : decode cX6_restore 110 = .ok (.if_icmp .ge 26, 3) := by decide +kernel
theorem dX6_restore_113 : decode cX6_restore 113 = .ok (.aload_n 0, 1) := by decide +kernel
theorem dX6_restore_114 : decode cX6_restore 114 = .ok (.getfield 22, 3) := by decide +kernel
theorem dX6_restore_117 : decode cX6_restore 117 = .ok (.iload_n 3, 1) := by decide +kernel
theorem dX6_restore_118 : decode cX6_restore 118 = .ok (.aload_n 0, 1) := by decide +kernel
theorem dX6_restore_119 : decode cX6_restore 119 = .ok (.getfield 47, 3) := by decide +kernel
theorem dX6_restore_122 : decode cX6_restore 122 = .ok (.iload_n 2, 1) := by decide +kernel
theorem dX6_restore_123 : decode cX6_restore 123 = .ok (.bipush 93, 2) := by decide +kernel
theorem dX6_restore_125 : decode cX6_restore 125 = .ok (.iadd, 1) := by decide +kernel
theorem dX6_restore_126 : decode cX6_restore 126 = .ok (.iload_n 3, 1) := by decide +kernel
theorem dX6_restore_127 : decode cX6_restore 127 = .ok (.iadd, 1) := by decide +kernel
theorem dX6_restore_128 : decode cX6_restore 128 = .ok (.iaload, 1) := by decide +kernel
theorem dX6_restore_129 : decode cX6_restore 129 = .ok (.iastore, 1) := by decide +kernel
theorem dX6_restore_130 : decode cX6_restore 130 = .ok (.iinc 3 1, 3) := by decide +kernel
theorem dX6_restore_133 : decode cX6_restore 133 = .ok (.goto (-26), 3) := by decide +kernel
theorem dX6_restore_136 : decode cX6_restore 136 = .ok (.aload_n 0, 1) := by decide +kernel
theorem dX6_restore_137 : decode cX6_restore 137 = .ok (.aload_n 0, 1) := by decide +kernel
theorem dX6_restore_138 : decode cX6_restore 138 = .ok (.getfield 47, 3) := by decide +kernel
theorem dX6_restore_141 : decode cX6_restore 141 = .ok (.iload_n 2, 1) := by decide +kernel
theorem dX6_restore_142 : decode cX6_restore 142 = .ok (.bipush 110, 2) := by decide +kernel
theorem dX6_restore_144 : decode cX6_restore 144 = .ok (.iadd, 1) := by decide +kernel
theorem dX6_restore_145 : decode cX6_restore 145 = .ok (.iaload, 1) := by decide +kernel
theorem dX6_restore_146 : decode cX6_restore 146 = .ok (.putfield 167, 3) := by decide +kernel
theorem dX6_restore_149 : decode cX6_restore 149 = .ok (.iconst 1, 1) := by decide +kernel
theorem dX6_restore_150 : decode cX6_restore 150 = .ok (.ireturn, 1) := by decide +kernel
set_option maxRecDepth 20000 in
theorem ggX6_told_X6_isCandle : GoodIn wsX6_told wsX6_isCandle := goodIn_r _ [9, 10, 11, 8, 12] (by decide +kernel) (by decide +kernel)
set_option maxRecDepth 20000 in
theorem gX6_told_X6_isCandle : GoodIn wsX6_told (va_wsS RX6 57 yX6_isCandle wsX6_isCandle) := goodIn_app (goodIn_of _ (by decide +kernel)) ggX6_told_X6_isCandle
set_option maxRecDepth 20000 in
theorem ggX6_told_X6_asNow : GoodIn wsX6_told wsX6_asNow := goodIn_r _ [16, 17, 1, 18, 19, 20, 28, 29, 30, 31, 32, 33, 34, 35, 36, 37, 38, 39, 40, 41, 42, 43, 44, 45, 46, 47, 48, 49] (by decide +kernel) (by decide +kernel)
set_option maxRecDepth 20000 in
theorem gX6_told_X6_asNow : GoodIn wsX6_told (wsV RX6 64 RX6 yX6_asNow wsX6_asNow) := goodIn_app (goodIn_of _ (by decide +kernel)) ggX6_told_X6_asNow
set_option maxRecDepth 20000 in
theorem ggX6_told_X6_burnOf : GoodIn wsX6_told wsX6_burnOf := goodIn_r _ [24, 17, 28, 29, 30, 31, 32, 33, 34, 35, 36, 37, 38, 39, 40, 41, 42, 43, 44, 45, 46, 47, 48, 49] (by decide +kernel) (by decide +kernel)
set_option maxRecDepth 20000 in
theorem gX6_told_X6_burnOf : GoodIn wsX6_told (wsV RX6 98 RX6 yX6_burnOf wsX6_burnOf) := goodIn_app (goodIn_of _ (by decide +kernel)) ggX6_told_X6_burnOf
set_option maxRecDepth 20000 in
theorem ggX6_told_X6_isOne : GoodIn wsX6_told wsX6_isOne := goodIn_r _ [27, 10, 11, 8, 12] (by decide +kernel) (by decide +kernel)
set_option maxRecDepth 20000 in
theorem gX6_told_X6_isOne : GoodIn wsX6_told (va_wsS RX6 61 yX6_isOne wsX6_isOne) := goodIn_app (goodIn_of _ (by decide +kernel)) ggX6_told_X6_isOne
set_option maxRecDepth 20000 in
theorem ggX6_told_X6_in : GoodIn wsX6_told wsX6_in := goodIn_r _ [12] (by decide +kernel) (by decide +kernel)
set_option maxRecDepth 20000 in
theorem gX6_told_X6_in : GoodIn wsX6_told (va_wsS RX6 53 yX6_in wsX6_in) := goodIn_app (goodIn_of _ (by decide +kernel)) ggX6_told_X6_in
theorem dX6_told_0 : decode cX6_told 0 = .ok (.iload_n 1, 1) := by decide +kernel
theorem dX6_told_1 : decode cX6_told 1 = .ok (.bipush 100, 2) := by decide +kernel
theorem dX6_told_3 : decode cX6_told 3 = .ok (.if_icmp .lt 156, 3) := by decide +kernel
theorem dX6_told_6 : decode cX6_told 6 = .ok (.iload_n 1, 1) := by decide +kernel
theorem dX6_told_7 : decode cX6_told 7 = .ok (.bipush 10, 2) := by decide +kernel
theorem dX6_told_9 : decode cX6_told 9 = .ok (.idiv, 1) := by decide +kernel
theorem dX6_told_10 : decode cX6_told 10 = .ok (.bipush 10, 2) := by decide +kernel
theorem dX6_told_12 : decode cX6_told 12 = .ok (.isub, 1) := by decide +kernel
theorem dX6_told_13 : decode cX6_told 13 = .ok (.istore_n 2, 1) := by decide +kernel
theorem dX6_told_14 : decode cX6_told 14 = .ok (.iload_n 2, 1) := by decide +kernel
theorem dX6_told_15 : decode cX6_told 15 = .ok (.invokestatic 57, 3) := by decide +kernel
theorem dX6_told_18 : decode cX6_told 18 = .ok (.ifCond .ne 6, 3) := by decide +kernel
theorem dX6_told_21 : decode cX6_told 21 = .ok (.bipush (-2), 2) := by decide +kernel
theorem dX6_told_23 : decode cX6_told 23 = .ok (.ireturn, 1) := by decide +kernel
theorem dX6_told_24 : decode cX6_told 24 = .ok (.aload_n 0, 1) := by decide +kernel
theorem dX6_told_25 : decode cX6_told 25 = .ok (.invokevirtual 64, 3) := by decide +kernel
theorem dX6_told_28 : decode cX6_told 28 = .ok (.iload_n 1, 1) := by decide +kernel
theorem dX6_told_29 : decode cX6_told 29 = .ok (.bipush 10, 2) := by decide +kernel
theorem dX6_told_31 : decode cX6_told 31 = .ok (.irem, 1) := by decide +kernel
theorem dX6_told_32 : decode cX6_told 32 = .ok (.tableswitch 107 0 6 #[44, 51, 63, 73, 83, 90, 97], 44) := by decide +kernel
theorem dX6_told_76 : decode cX6_told 76 = .ok (.aload_n 0, 1) := by decide +kernel
theorem dX6_told_77 : decode cX6_told 77 = .ok (.getfield 7, 3) := by decide +kernel
theorem dX6_told_80 : decode cX6_told 80 = .ok (.iload_n 2, 1) := by decide +kernel
theorem dX6_told_81 : decode cX6_told 81 = .ok (.iaload, 1) := by decide +kernel
theorem dX6_told_82 : decode cX6_told 82 = .ok (.ireturn, 1) := by decide +kernel
theorem dX6_told_83 : decode cX6_told 83 = .ok (.aload_n 0, 1) := by decide +kernel
theorem dX6_told_84 : decode cX6_told 84 = .ok (.getfield 7, 3) := by decide +kernel
theorem dX6_told_87 : decode cX6_told 87 = .ok (.bipush 66, 2) := by decide +kernel
theorem dX6_told_89 : decode cX6_told 89 = .ok (.iaload, 1) := by decide +kernel
theorem dX6_told_90 : decode cX6_told 90 = .ok (.iload_n 2, 1) := by decide +kernel
theorem dX6_told_91 : decode cX6_told 91 = .ok (.ishr, 1) := by decide +kernel
theorem dX6_told_92 : decode cX6_told 92 = .ok (.iconst 1, 1) := by decide +kernel
theorem dX6_told_93 : decode cX6_told 93 = .ok (.iand, 1) := by decide +kernel
theorem dX6_told_94 : decode cX6_told 94 = .ok (.ireturn, 1) := by decide +kernel
theorem dX6_told_95 : decode cX6_told 95 = .ok (.aload_n 0, 1) := by decide +kernel
theorem dX6_told_96 : decode cX6_told 96 = .ok (.getfield 7, 3) := by decide +kernel
theorem dX6_told_99 : decode cX6_told 99 = .ok (.bipush 24, 2) := by decide +kernel
theorem dX6_told_101 : decode cX6_told 101 = .ok (.iload_n 2, 1) := by decide +kernel
theorem dX6_told_102 : decode cX6_told 102 = .ok (.iadd, 1) := by decide +kernel
theorem dX6_told_103 : decode cX6_told 103 = .ok (.iaload, 1) := by decide +kernel
theorem dX6_told_104 : decode cX6_told 104 = .ok (.ireturn, 1) := by decide +kernel
theorem dX6_told_105 : decode cX6_told 105 = .ok (.aload_n 0, 1) := by decide +kernel
theorem dX6_told_106 : decode cX6_told 106 = .ok (.getfield 7, 3) := by decide +kernel
theorem dX6_told_109 : decode cX6_told 109 = .ok (.bipush 36, 2) := by decide +kernel
theorem dX6_told_111 : decode cX6_told 111 = .ok (.iload_n 2, 1) := by decide +kernel
theorem dX6_told_112 : decode cX6_told 112 = .ok (.iadd, 1) := by decide +kernel
theorem dX6_told_113 : decode cX6_told 113 = .ok (.iaload, 1) := by decide +kernel
theorem dX6_told_114 : decode cX6_told 114 = .ok (.ireturn, 1) := by decide +kernel
theorem dX6_told_115 : decode cX6_told 115 = .ok (.aload_n 0, 1) := by decide +kernel
theorem dX6_told_116 : decode cX6_told 116 = .ok (.getfield 16, 3) := by decide +kernel
theorem dX6_told_119 : decode cX6_told 119 = .ok (.iload_n 2, 1) := by decide +kernel
theorem dX6_told_120 : decode cX6_told 120 = .ok (.iaload, 1) := by decide +kernel
theorem dX6_told_121 : decode cX6_told 121 = .ok (.ireturn, 1) := by decide +kernel
theorem dX6_told_122 : decode cX6_told 122 = .ok (.aload_n 0, 1) := by decide +kernel
theorem dX6_told_123 : decode cX6_told 123 = .ok (.getfield 19, 3) := by decide +kernel
theorem dX6_told_126 : decode cX6_told 126 = .ok (.iload_n 2, 1) := by decide +kernel
theorem dX6_told_127 : decode cX6_told 127 = .ok (.iaload, 1) := by decide +kernel
theorem dX6_told_128 : decode cX6_told 128 = .ok (.ireturn, 1) := by decide +kernel
theorem dX6_told_129 : decode cX6_told 129 = .ok (.aload_n 0, 1) := by decide +kernel
theorem dX6_told_130 : decode cX6_told 130 = .ok (.getfield 7, 3) := by decide +kernel
theorem dX6_told_133 : decode cX6_told 133 = .ok (.bipush 12, 2) := by decide +kernel
theorem dX6_told_135 : decode cX6_told 135 = .ok (.iload_n 2, 1) := by decide +kernel
theorem dX6_told_136 : decode cX6_told 136 = .ok (.iadd, 1) := by decide +kernel
theorem dX6_told_137 : decode cX6_told 137 = .ok (.iaload, 1) := by decide +kernel
theorem dX6_told_138 : decode cX6_told 138 = .ok (.ireturn, 1) := by decide +kernel
theorem dX6_told_139 : decode cX6_told 139 = .ok (.iload_n 1, 1) := by decide +kernel
theorem dX6_told_140 : decode cX6_told 140 = .ok (.bipush 10, 2) := by decide +kernel
theorem dX6_told_142 : decode cX6_told 142 = .ok (.irem, 1) := by decide +kernel
theorem dX6_told_143 : decode cX6_told 143 = .ok (.bipush 7, 2) := by decide +kernel
theorem dX6_told_145 : decode cX6_told 145 = .ok (.if_icmp .ne 11, 3) := by decide +kernel
theorem dX6_told_148 : decode cX6_told 148 = .ok (.aload_n 0, 1) := by decide +kernel
theorem dX6_told_149 : decode cX6_told 149 = .ok (.iload_n 2, 1) := by decide +kernel
theorem dX6_told_150 : decode cX6_told 150 = .ok (.invokevirtual 98, 3) := by decide +kernel
theorem dX6_told_153 : decode cX6_told 153 = .ok (.goto 5, 3) := by decide +kernel
theorem dX6_told_156 : decode cX6_told 156 = .ok (.bipush (-2), 2) := by decide +kernel
theorem dX6_told_158 : decode cX6_told 158 = .ok (.ireturn, 1) := by decide +kernel
theorem dX6_told_159 : decode cX6_told 159 = .ok (.iload_n 1, 1) := by decide +kernel
theorem dX6_told_160 : decode cX6_told 160 = .ok (.bipush 10, 2) := by decide +kernel
theorem dX6_told_162 : decode cX6_told 162 = .ok (.if_icmp .lt 31, 3) := by decide +kernel
theorem dX6_told_165 : decode cX6_told 165 = .ok (.iload_n 1, 1) := by decide +kernel
theorem dX6_told_166 : decode cX6_told 166 = .ok (.bipush 10, 2) := by decide +kernel
theorem dX6_told_168 : decode cX6_told 168 = .ok (.isub, 1) := by decide +kernel
theorem dX6_told_169 : decode cX6_told 169 = .ok (.invokestatic 61, 3) := by decide +kernel
theorem dX6_told_172 : decode cX6_told 172 = .ok (.ifCond .eq 18, 3) := by decide +kernel
theorem dX6_told_175 : decode cX6_told 175 = .ok (.aload_n 0, 1) := by decide +kernel
theorem dX6_told_176 : decode cX6_told 176 = .ok (.getfield 7, 3) := by decide +kernel
theorem dX6_told_179 : decode cX6_told 179 = .ok (.bipush 60, 2) := by decide +kernel
theorem dX6_told_181 : decode cX6_told 181 = .ok (.iload_n 1, 1) := by decide +kernel
theorem dX6_told_182 : decode cX6_told 182 = .ok (.iadd, 1) := by decide +kernel
theorem dX6_told_183 : decode cX6_told 183 = .ok (.bipush 10, 2) := by decide +kernel
theorem dX6_told_185 : decode cX6_told 185 = .ok (.isub, 1) := by decide +kernel
theorem dX6_told_186 : decode cX6_told 186 = .ok (.iaload, 1) := by decide +kernel
theorem dX6_told_187 : decode cX6_told 187 = .ok (.goto 5, 3) := by decide +kernel
theorem dX6_told_190 : decode cX6_told 190 = .ok (.bipush (-2), 2) := by decide +kernel
theorem dX6_told_192 : decode cX6_told 192 = .ok (.ireturn, 1) := by decide +kernel
theorem dX6_told_193 : decode cX6_told 193 = .ok (.iload_n 1, 1) := by decide +kernel
theorem dX6_told_194 : decode cX6_told 194 = .ok (.ifCond .ne 10, 3) := by decide +kernel
theorem dX6_told_197 : decode cX6_told 197 = .ok (.aload_n 0, 1) := by decide +kernel
theorem dX6_told_198 : decode cX6_told 198 = .ok (.getfield 71, 3) := by decide +kernel
theorem dX6_told_201 : decode cX6_told 201 = .ok (.goto 38, 3) := by decide +kernel
theorem dX6_told_204 : decode cX6_told 204 = .ok (.iload_n 1, 1) := by decide +kernel
theorem dX6_told_205 : decode cX6_told 205 = .ok (.iconst 1, 1) := by decide +kernel
theorem dX6_told_206 : decode cX6_told 206 = .ok (.iconst 3, 1) := by decide +kernel
theorem dX6_told_207 : decode cX6_told 207 = .ok (.invokestatic 53, 3) := by decide +kernel
theorem dX6_told_210 : decode cX6_told 210 = .ok (.ifCond .eq 15, 3) := by decide +kernel
theorem dX6_told_213 : decode cX6_told 213 = .ok (.aload_n 0, 1) := by decide +kernel
theorem dX6_told_214 : decode cX6_told 214 = .ok (.getfield 7, 3) := by decide +kernel
theorem dX6_told_217 : decode cX6_told 217 = .ok (.bipush 65, 2) := by decide +kernel
theorem dX6_told_219 : decode cX6_told 219 = .ok (.iload_n 1, 1) := by decide +kernel
theorem dX6_told_220 : decode cX6_told 220 = .ok (.iadd, 1) := by decide +kernel
theorem dX6_told_221 : decode cX6_told 221 = .ok (.iaload, 1) := by decide +kernel
theorem dX6_told_222 : decode cX6_told 222 = .ok (.goto 17, 3) := by decide +kernel
theorem dX6_told_225 : decode cX6_told 225 = .ok (.iload_n 1, 1) := by decide +kernel
theorem dX6_told_226 : decode cX6_told 226 = .ok (.iconst 4, 1) := by decide +kernel
theorem dX6_told_227 : decode cX6_told 227 = .ok (.if_icmp .ne 10, 3) := by decide +kernel
theorem dX6_told_230 : decode cX6_told 230 = .ok (.aload_n 0, 1) := by decide +kernel
theorem dX6_told_231 : decode cX6_told 231 = .ok (.getfield 167, 3) := by decide +kernel
theorem dX6_told_234 : decode cX6_told 234 = .ok (.goto 5, 3) := by decide +kernel
theorem dX6_told_237 : decode cX6_told 237 = .ok (.bipush (-2), 2) := by decide +kernel
theorem dX6_told_239 : decode cX6_told 239 = .ok (.ireturn, 1) := by decide +kernel
theorem dJ6_bitCount_0f7a4_0 : decode cJ6_bitCount_0f7a4 0 = .ok (.iload_n 0, 1) := by decide +kernel
theorem dJ6_bitCount_0f7a4_1 : decode cJ6_bitCount_0f7a4 1 = .ok (.iload_n 0, 1) := by decide +kernel
theorem dJ6_bitCount_0f7a4_2 : decode cJ6_bitCount_0f7a4 2 = .ok (.iconst 1, 1) := by decide +kernel
theorem dJ6_bitCount_0f7a4_3 : decode cJ6_bitCount_0f7a4 3 = .ok (.iushr, 1) := by decide +kernel
theorem dJ6_bitCount_0f7a4_4 : decode cJ6_bitCount_0f7a4 4 = .ok (.ldc_w 265, 3) := by decide +kernel
theorem dJ6_bitCount_0f7a4_7 : decode cJ6_bitCount_0f7a4 7 = .ok (.iand, 1) := by decide +kernel
theorem dJ6_bitCount_0f7a4_8 : decode cJ6_bitCount_0f7a4 8 = .ok (.isub, 1) := by decide +kernel
theorem dJ6_bitCount_0f7a4_9 : decode cJ6_bitCount_0f7a4 9 = .ok (.istore_n 0, 1) := by decide +kernel
theorem dJ6_bitCount_0f7a4_10 : decode cJ6_bitCount_0f7a4 10 = .ok (.iload_n 0, 1) := by decide +kernel
theorem dJ6_bitCount_0f7a4_11 : decode cJ6_bitCount_0f7a4 11 = .ok (.ldc_w 266, 3) := by decide +kernel
theorem dJ6_bitCount_0f7a4_14 : decode cJ6_bitCount_0f7a4 14 = .ok (.iand, 1) := by decide +kernel
theorem dJ6_bitCount_0f7a4_15 : decode cJ6_bitCount_0f7a4 15 = .ok (.iload_n 0, 1) := by decide +kernel
theorem dJ6_bitCount_0f7a4_16 : decode cJ6_bitCount_0f7a4 16 = .ok (.iconst 2, 1) := by decide +kernel
theorem dJ6_bitCount_0f7a4_17 : decode cJ6_bitCount_0f7a4 17 = .ok (.iushr, 1) := by decide +kernel
theorem dJ6_bitCount_0f7a4_18 : decode cJ6_bitCount_0f7a4 18 = .ok (.ldc_w 266, 3) := by decide +kernel
theorem dJ6_bitCount_0f7a4_21 : decode cJ6_bitCount_0f7a4 21 = .ok (.iand, 1) := by decide +kernel
theorem dJ6_bitCount_0f7a4_22 : decode cJ6_bitCount_0f7a4 22 = .ok (.iadd, 1) := by decide +kernel
theorem dJ6_bitCount_0f7a4_23 : decode cJ6_bitCount_0f7a4 23 = .ok (.istore_n 0, 1) := by decide +kernel
theorem dJ6_bitCount_0f7a4_24 : decode cJ6_bitCount_0f7a4 24 = .ok (.iload_n 0, 1) := by decide +kernel
theorem dJ6_bitCount_0f7a4_25 : decode cJ6_bitCount_0f7a4 25 = .ok (.iload_n 0, 1) := by decide +kernel
theorem dJ6_bitCount_0f7a4_26 : decode cJ6_bitCount_0f7a4 26 = .ok (.iconst 4, 1) := by decide +kernel
theorem dJ6_bitCount_0f7a4_27 : decode cJ6_bitCount_0f7a4 27 = .ok (.iushr, 1) := by decide +kernel
theorem dJ6_bitCount_0f7a4_28 : decode cJ6_bitCount_0f7a4 28 = .ok (.iadd, 1) := by decide +kernel
theorem dJ6_bitCount_0f7a4_29 : decode cJ6_bitCount_0f7a4 29 = .ok (.ldc_w 267, 3) := by decide +kernel
theorem dJ6_bitCount_0f7a4_32 : decode cJ6_bitCount_0f7a4 32 = .ok (.iand, 1) := by decide +kernel
theorem dJ6_bitCount_0f7a4_33 : decode cJ6_bitCount_0f7a4 33 = .ok (.istore_n 0, 1) := by decide +kernel
theorem dJ6_bitCount_0f7a4_34 : decode cJ6_bitCount_0f7a4 34 = .ok (.iload_n 0, 1) := by decide +kernel
theorem dJ6_bitCount_0f7a4_35 : decode cJ6_bitCount_0f7a4 35 = .ok (.iload_n 0, 1) := by decide +kernel
theorem dJ6_bitCount_0f7a4_36 : decode cJ6_bitCount_0f7a4 36 = .ok (.bipush 8, 2) := by decide +kernel
theorem dJ6_bitCount_0f7a4_38 : decode cJ6_bitCount_0f7a4 38 = .ok (.iushr, 1) := by decide +kernel
theorem dJ6_bitCount_0f7a4_39 : decode cJ6_bitCount_0f7a4 39 = .ok (.iadd, 1) := by decide +kernel
theorem dJ6_bitCount_0f7a4_40 : decode cJ6_bitCount_0f7a4 40 = .ok (.istore_n 0, 1) := by decide +kernel
theorem dJ6_bitCount_0f7a4_41 : decode cJ6_bitCount_0f7a4 41 = .ok (.iload_n 0, 1) := by decide +kernel
theorem dJ6_bitCount_0f7a4_42 : decode cJ6_bitCount_0f7a4 42 = .ok (.iload_n 0, 1) := by decide +kernel
theorem dJ6_bitCount_0f7a4_43 : decode cJ6_bitCount_0f7a4 43 = .ok (.bipush 16, 2) := by decide +kernel
theorem dJ6_bitCount_0f7a4_45 : decode cJ6_bitCount_0f7a4 45 = .ok (.iushr, 1) := by decide +kernel
theorem dJ6_bitCount_0f7a4_46 : decode cJ6_bitCount_0f7a4 46 = .ok (.iadd, 1) := by decide +kernel
theorem dJ6_bitCount_0f7a4_47 : decode cJ6_bitCount_0f7a4 47 = .ok (.istore_n 0, 1) := by decide +kernel
theorem dJ6_bitCount_0f7a4_48 : decode cJ6_bitCount_0f7a4 48 = .ok (.iload_n 0, 1) := by decide +kernel
theorem dJ6_bitCount_0f7a4_49 : decode cJ6_bitCount_0f7a4 49 = .ok (.bipush 63, 2) := by decide +kernel
theorem dJ6_bitCount_0f7a4_51 : decode cJ6_bitCount_0f7a4 51 = .ok (.iand, 1) := by decide +kernel
theorem dJ6_bitCount_0f7a4_52 : decode cJ6_bitCount_0f7a4 52 = .ok (.ireturn, 1) := by decide +kernel
theorem dJ9_abs_0f7a4_0 : decode cJ9_abs_0f7a4 0 = .ok (.iload_n 0, 1) := by decide +kernel
theorem dJ9_abs_0f7a4_1 : decode cJ9_abs_0f7a4 1 = .ok (.ifCond .ge 8, 3) := by decide +kernel
theorem dJ9_abs_0f7a4_4 : decode cJ9_abs_0f7a4 4 = .ok (.iload_n 0, 1) := by decide +kernel
theorem dJ9_abs_0f7a4_5 : decode cJ9_abs_0f7a4 5 = .ok (.ineg, 1) := by decide +kernel
theorem dJ9_abs_0f7a4_6 : decode cJ9_abs_0f7a4 6 = .ok (.goto 4, 3) := by decide +kernel
theorem dJ9_abs_0f7a4_9 : decode cJ9_abs_0f7a4 9 = .ok (.iload_n 0, 1) := by decide +kernel
theorem dJ9_abs_0f7a4_10 : decode cJ9_abs_0f7a4 10 = .ok (.ireturn, 1) := by decide +kernel
theorem dJ9_max_7cf53_0 : decode cJ9_max_7cf53 0 = .ok (.iload_n 0, 1) := by decide +kernel
theorem dJ9_max_7cf53_1 : decode cJ9_max_7cf53 1 = .ok (.iload_n 1, 1) := by decide +kernel
theorem dJ9_max_7cf53_2 : decode cJ9_max_7cf53 2 = .ok (.if_icmp .lt 7, 3) := by decide +kernel
theorem dJ9_max_7cf53_5 : decode cJ9_max_7cf53 5 = .ok (.iload_n 0, 1) := by decide +kernel
theorem dJ9_max_7cf53_6 : decode cJ9_max_7cf53 6 = .ok (.goto 4, 3) := by decide +kernel
theorem dJ9_max_7cf53_9 : decode cJ9_max_7cf53 9 = .ok (.iload_n 1, 1) := by decide +kernel
theorem dJ9_max_7cf53_10 : decode cJ9_max_7cf53 10 = .ok (.ireturn, 1) := by decide +kernel
theorem dJ9_min_7cf53_0 : decode cJ9_min_7cf53 0 = .ok (.iload_n 0, 1) := by decide +kernel
theorem dJ9_min_7cf53_1 : decode cJ9_min_7cf53 1 = .ok (.iload_n 1, 1) := by decide +kernel
theorem dJ9_min_7cf53_2 : decode cJ9_min_7cf53 2 = .ok (.if_icmp .gt 7, 3) := by decide +kernel
theorem dJ9_min_7cf53_5 : decode cJ9_min_7cf53 5 = .ok (.iload_n 0, 1) := by decide +kernel
theorem dJ9_min_7cf53_6 : decode cJ9_min_7cf53 6 = .ok (.goto 4, 3) := by decide +kernel
theorem dJ9_min_7cf53_9 : decode cJ9_min_7cf53 9 = .ok (.iload_n 1, 1) := by decide +kernel
theorem dJ9_min_7cf53_10 : decode cJ9_min_7cf53 10 = .ok (.ireturn, 1) := by decide +kernel
