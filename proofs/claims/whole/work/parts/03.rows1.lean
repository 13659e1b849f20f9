theorem dX3_burnTrimmed_8 : decode cX3_burnTrimmed 8 = .ok (.iload_n 2, 1) := by decide +kernel
theorem dX3_burnTrimmed_9 : decode cX3_burnTrimmed 9 = .ok (.isub, 1) := by decide +kernel
theorem dX3_burnTrimmed_10 : decode cX3_burnTrimmed 10 = .ok (.istore_n 3, 1) := by decide +kernel
theorem dX3_burnTrimmed_11 : decode cX3_burnTrimmed 11 = .ok (.iload_n 3, 1) := by decide +kernel
theorem dX3_burnTrimmed_12 : decode cX3_burnTrimmed 12 = .ok (.iconst 1, 1) := by decide +kernel
theorem dX3_burnTrimmed_13 : decode cX3_burnTrimmed 13 = .ok (.if_icmp .ge 7, 3) := by decide +kernel
theorem dX3_burnTrimmed_16 : decode cX3_burnTrimmed 16 = .ok (.iconst 1, 1) := by decide +kernel
theorem dX3_burnTrimmed_17 : decode cX3_burnTrimmed 17 = .ok (.goto 4, 3) := by decide +kernel
theorem dX3_burnTrimmed_20 : decode cX3_burnTrimmed 20 = .ok (.iload_n 3, 1) := by decide +kernel
theorem dX3_burnTrimmed_21 : decode cX3_burnTrimmed 21 = .ok (.ireturn, 1) := by decide +kernel
set_option maxRecDepth 20000 in
theorem ggX3_minutesLeft_X3_minutesLeftTrimmed : GoodIn wsX3_minutesLeft wsX3_minutesLeftTrimmed := goodIn_r _ [6, 7, 8, 9, 10, 5, 11, 12, 13, 14, 15, 16, 17, 18, 19, 20, 21, 22, 23, 24, 25, 26] (by decide +kernel) (by decide +kernel)
set_option maxRecDepth 20000 in
theorem gX3_minutesLeft_X3_minutesLeftTrimmed : GoodIn wsX3_minutesLeft (wsV RX3 77 RX3 yX3_minutesLeftTrimmed wsX3_minutesLeftTrimmed) := goodIn_app (goodIn_of _ (by decide +kernel)) ggX3_minutesLeft_X3_minutesLeftTrimmed
theorem dX3_minutesLeft_0 : decode cX3_minutesLeft 0 = .ok (.aload_n 0, 1) := by decide +kernel
theorem dX3_minutesLeft_1 : decode cX3_minutesLeft 1 = .ok (.iload_n 1, 1) := by decide +kernel
theorem dX3_minutesLeft_2 : decode cX3_minutesLeft 2 = .ok (.aload_n 0, 1) := by decide +kernel
theorem dX3_minutesLeft_3 : decode cX3_minutesLeft 3 = .ok (.getfield 15, 3) := by decide +kernel
theorem dX3_minutesLeft_6 : decode cX3_minutesLeft 6 = .ok (.iload_n 1, 1) := by decide +kernel
theorem dX3_minutesLeft_7 : decode cX3_minutesLeft 7 = .ok (.iaload, 1) := by decide +kernel
theorem dX3_minutesLeft_8 : decode cX3_minutesLeft 8 = .ok (.invokevirtual 77, 3) := by decide +kernel
theorem dX3_minutesLeft_11 : decode cX3_minutesLeft 11 = .ok (.ireturn, 1) := by decide +kernel
set_option maxRecDepth 20000 in
theorem ggX3_minutesLeftTrimmed_X3_burnTrimmed : GoodIn wsX3_minutesLeftTrimmed wsX3_burnTrimmed := goodIn_r _ [6, 7, 8, 9, 10, 11, 12, 13, 14, 15, 16, 17, 18, 19, 20, 21] (by decide +kernel) (by decide +kernel)
set_option maxRecDepth 20000 in
theorem gX3_minutesLeftTrimmed_X3_burnTrimmed : GoodIn wsX3_minutesLeftTrimmed (wsV RX3 73 RX3 yX3_burnTrimmed wsX3_burnTrimmed) := goodIn_app (goodIn_of _ (by decide +kernel)) ggX3_minutesLeftTrimmed_X3_burnTrimmed
theorem dX3_minutesLeftTrimmed_0 : decode cX3_minutesLeftTrimmed 0 = .ok (.aload_n 0, 1) := by decide +kernel
theorem dX3_minutesLeftTrimmed_1 : decode cX3_minutesLeftTrimmed 1 = .ok (.iload_n 1, 1) := by decide +kernel
theorem dX3_minutesLeftTrimmed_2 : decode cX3_minutesLeftTrimmed 2 = .ok (.iload_n 2, 1) := by decide +kernel
theorem dX3_minutesLeftTrimmed_3 : decode cX3_minutesLeftTrimmed 3 = .ok (.invokevirtual 73, 3) := by decide +kernel
theorem dX3_minutesLeftTrimmed_6 : decode cX3_minutesLeftTrimmed 6 = .ok (.istore_n 3, 1) := by decide +kernel
theorem dX3_minutesLeftTrimmed_7 : decode cX3_minutesLeftTrimmed 7 = .ok (.aload_n 0, 1) := by decide +kernel
theorem dX3_minutesLeftTrimmed_8 : decode cX3_minutesLeftTrimmed 8 = .ok (.getfield 9, 3) := by decide +kernel
theorem dX3_minutesLeftTrimmed_11 : decode cX3_minutesLeftTrimmed 11 = .ok (.iload_n 1, 1) := by decide +kernel
theorem dX3_minutesLeftTrimmed_12 : decode cX3_minutesLeftTrimmed 12 = .ok (.iaload, 1) := by decide +kernel
theorem dX3_minutesLeftTrimmed_13 : decode cX3_minutesLeftTrimmed 13 = .ok (.iload_n 3, 1) := by decide +kernel
theorem dX3_minutesLeftTrimmed_14 : decode cX3_minutesLeftTrimmed 14 = .ok (.iadd, 1) := by decide +kernel
theorem dX3_minutesLeftTrimmed_15 : decode cX3_minutesLeftTrimmed 15 = .ok (.iconst 1, 1) := by decide +kernel
theorem dX3_minutesLeftTrimmed_16 : decode cX3_minutesLeftTrimmed 16 = .ok (.isub, 1) := by decide +kernel
theorem dX3_minutesLeftTrimmed_17 : decode cX3_minutesLeftTrimmed 17 = .ok (.iload_n 3, 1) := by decide +kernel
theorem dX3_minutesLeftTrimmed_18 : decode cX3_minutesLeftTrimmed 18 = .ok (.idiv, 1) := by decide +kernel
theorem dX3_minutesLeftTrimmed_19 : decode cX3_minutesLeftTrimmed 19 = .ok (.ireturn, 1) := by decide +kernel
set_option maxRecDepth 20000 in
theorem ggX3_outlasts_X3_isLit : GoodIn wsX3_outlasts wsX3_isLit := goodIn_r _ [5, 6, 22, 23, 24, 25, 26, 27, 28, 29, 30, 31, 32, 33, 34, 35] (by decide +kernel) (by decide +kernel)
set_option maxRecDepth 20000 in
theorem gX3_outlasts_X3_isLit : GoodIn wsX3_outlasts (wsV RX3 69 RX3 yX3_isLit wsX3_isLit) := goodIn_app (goodIn_of _ (by decide +kernel)) ggX3_outlasts_X3_isLit
set_option maxRecDepth 20000 in
theorem ggX3_outlasts_X3_minutesLeft : GoodIn wsX3_outlasts wsX3_minutesLeft := goodIn_r _ [10, 11, 12, 13, 14, 4, 15, 16, 17, 18, 19, 20, 21, 22, 23, 24, 25, 26, 27, 28, 29, 30, 31, 32, 33, 34, 35] (by decide +kernel) (by decide +kernel)
set_option maxRecDepth 20000 in
theorem gX3_outlasts_X3_minutesLeft : GoodIn wsX3_outlasts (wsV RX3 80 RX3 yX3_minutesLeft wsX3_minutesLeft) := goodIn_app (goodIn_of _ (by decide +kernel)) ggX3_outlasts_X3_minutesLeft
theorem dX3_outlasts_0 : decode cX3_outlasts 0 = .ok (.aload_n 0, 1) := by decide +kernel
theorem dX3_outlasts_1 : decode cX3_outlasts 1 = .ok (.iload_n 1, 1) := by decide +kernel
theorem dX3_outlasts_2 : decode cX3_outlasts 2 = .ok (.invokevirtual 69, 3) := by decide +kernel
theorem dX3_outlasts_5 : decode cX3_outlasts 5 = .ok (.ifCond .eq 16, 3) := by decide +kernel
theorem dX3_outlasts_8 : decode cX3_outlasts 8 = .ok (.aload_n 0, 1) := by decide +kernel
theorem dX3_outlasts_9 : decode cX3_outlasts 9 = .ok (.iload_n 1, 1) := by decide +kernel
theorem dX3_outlasts_10 : decode cX3_outlasts 10 = .ok (.invokevirtual 80, 3) := by decide +kernel
theorem dX3_outlasts_13 : decode cX3_outlasts 13 = .ok (.iload_n 2, 1) := by decide +kernel
theorem dX3_outlasts_14 : decode cX3_outlasts 14 = .ok (.if_icmp .le 7, 3) := by decide +kernel
theorem dX3_outlasts_17 : decode cX3_outlasts 17 = .ok (.iconst 1, 1) := by decide +kernel
theorem dX3_outlasts_18 : decode cX3_outlasts 18 = .ok (.goto 4, 3) := by decide +kernel
theorem dX3_outlasts_21 : decode cX3_outlasts 21 = .ok (.iconst 0, 1) := by decide +kernel
theorem dX3_outlasts_22 : decode cX3_outlasts 22 = .ok (.ireturn, 1) := by decide +kernel
set_option maxRecDepth 20000 in
theorem ggX3_howManyOutlast_X3_outlasts : GoodIn wsX3_howManyOutlast wsX3_outlasts := goodIn_r _ [5, 6, 7, 8, 4, 9, 10, 11, 12, 13, 14, 15, 16, 17, 18, 19, 20, 21, 22, 23, 24, 25, 26, 27, 28, 29, 30, 31, 32, 33, 34, 35, 36, 37, 38, 39] (by decide +kernel) (by decide +kernel)
set_option maxRecDepth 20000 in
theorem gX3_howManyOutlast_X3_outlasts : GoodIn wsX3_howManyOutlast (wsV RX3 83 RX3 yX3_outlasts wsX3_outlasts) := goodIn_app (goodIn_of _ (by decide +kernel)) ggX3_howManyOutlast_X3_outlasts
theorem dX3_howManyOutlast_0 : decode cX3_howManyOutlast 0 = .ok (.iconst 0, 1) := by decide +kernel
theorem dX3_howManyOutlast_1 : decode cX3_howManyOutlast 1 = .ok (.istore_n 2, 1) := by decide +kernel
theorem dX3_howManyOutlast_2 : decode cX3_howManyOutlast 2 = .ok (.iconst 0, 1) := by decide +kernel
theorem dX3_howManyOutlast_3 : decode cX3_howManyOutlast 3 = .ok (.istore_n 3, 1) := by decide +kernel
theorem dX3_howManyOutlast_4 : decode cX3_howManyOutlast 4 = .ok (.iload_n 3, 1) := by decide +kernel
theorem dX3_howManyOutlast_5 : decode cX3_howManyOutlast 5 = .ok (.bipush 12, 2) := by decide +kernel
theorem dX3_howManyOutlast_7 : decode cX3_howManyOutlast 7 = .ok (.if_icmp .ge 26, 3) := by decide +kernel
theorem dX3_howManyOutlast_10 : decode cX3_howManyOutlast 10 = .ok (.iload_n 2, 1) := by decide +kernel
theorem dX3_howManyOutlast_11 : decode cX3_howManyOutlast 11 = .ok (.aload_n 0, 1) := by decide +kernel
theorem dX3_howManyOutlast_12 : decode cX3_howManyOutlast 12 = .ok (.iload_n 3, 1) := by decide +kernel
theorem dX3_howManyOutlast_13 : decode cX3_howManyOutlast 13 = .ok (.iload_n 1, 1) := by decide +kernel
theorem dX3_howManyOutlast_14 : decode cX3_howManyOutlast 14 = .ok (.invokevirtual 83, 3) := by decide +kernel
theorem dX3_howManyOutlast_17 : decode cX3_howManyOutlast 17 = .ok (.ifCond .eq 7, 3) := by decide +kernel
theorem dX3_howManyOutlast_20 : decode cX3_howManyOutlast 20 = .ok (.iconst 1, 1) := by decide +kernel
theorem dX3_howManyOutlast_21 : decode cX3_howManyOutlast 21 = .ok (.goto 4, 3) := by decide +kernel
theorem dX3_howManyOutlast_24 : decode cX3_howManyOutlast 24 = .ok (.iconst 0, 1) := by decide +kernel
theorem dX3_howManyOutlast_25 : decode cX3_howManyOutlast 25 = .ok (.iadd, 1) := by decide +kernel
theorem dX3_howManyOutlast_26 : decode cX3_howManyOutlast 26 = .ok (.istore_n 2, 1) := by decide +kernel
theorem dX3_howManyOutlast_27 : decode cX3_howManyOutlast 27 = .ok (.iinc 3 1, 3) := by decide +kernel
theorem dX3_howManyOutlast_30 : decode cX3_howManyOutlast 30 = .ok (.goto (-26), 3) := by decide +kernel
theorem dX3_howManyOutlast_33 : decode cX3_howManyOutlast 33 = .ok (.iload_n 2, 1) := by decide +kernel
theorem dX3_howManyOutlast_34 : decode cX3_howManyOutlast 34 = .ok (.ireturn, 1) := by decide +kernel
theorem dX3_waxOfAll_0 : decode cX3_waxOfAll 0 = .ok (.iconst 0, 1) := by decide +kernel
theorem dX3_waxOfAll_1 : decode cX3_waxOfAll 1 = .ok (.istore_n 1, 1) := by decide +kernel
theorem dX3_waxOfAll_2 : decode cX3_waxOfAll 2 = .ok (.iconst 0, 1) := by decide +kernel
theorem dX3_waxOfAll_3 : decode cX3_waxOfAll 3 = .ok (.istore_n 2, 1) := by decide +kernel
theorem dX3_waxOfAll_4 : decode cX3_waxOfAll 4 = .ok (.iload_n 2, 1) := by decide +kernel
theorem dX3_waxOfAll_5 : decode cX3_waxOfAll 5 = .ok (.bipush 12, 2) := by decide +kernel
theorem dX3_waxOfAll_7 : decode cX3_waxOfAll 7 = .ok (.if_icmp .ge 18, 3) := by decide +kernel
theorem dX3_waxOfAll_10 : decode cX3_waxOfAll 10 = .ok (.iload_n 1, 1) := by decide +kernel
theorem dX3_waxOfAll_11 : decode cX3_waxOfAll 11 = .ok (.aload_n 0, 1) := by decide +kernel
theorem dX3_waxOfAll_12 : decode cX3_waxOfAll 12 = .ok (.getfield 9, 3) := by decide +kernel
theorem dX3_waxOfAll_15 : decode cX3_waxOfAll 15 = .ok (.iload_n 2, 1) := by decide +kernel
theorem dX3_waxOfAll_16 : decode cX3_waxOfAll 16 = .ok (.iaload, 1) := by decide +kernel
theorem dX3_waxOfAll_17 : decode cX3_waxOfAll 17 = .ok (.iadd, 1) := by decide +kernel
theorem dX3_waxOfAll_18 : decode cX3_waxOfAll 18 = .ok (.istore_n 1, 1) := by decide +kernel
theorem dX3_waxOfAll_19 : decode cX3_waxOfAll 19 = .ok (.iinc 2 1, 3) := by decide +kernel
theorem dX3_waxOfAll_22 : decode cX3_waxOfAll 22 = .ok (.goto (-18), 3) := by decide +kernel
theorem dX3_waxOfAll_25 : decode cX3_waxOfAll 25 = .ok (.iload_n 1, 1) := by decide +kernel
theorem dX3_waxOfAll_26 : decode cX3_waxOfAll 26 = .ok (.ireturn, 1) := by decide +kernel
set_option maxRecDepth 20000 in
theorem ggX3_reasonAgainst_X3_isLit : GoodIn wsX3_reasonAgainst wsX3_isLit := goodIn_r _ [10, 11, 28, 29, 30, 31, 32, 33, 34, 35, 36, 37, 38, 39, 40, 41] (by decide +kernel) (by decide +kernel)
set_option maxRecDepth 20000 in
theorem gX3_reasonAgainst_X3_isLit : GoodIn wsX3_reasonAgainst (wsV RX3 69 RX3 yX3_isLit wsX3_isLit) := goodIn_app (goodIn_of _ (by decide +kernel)) ggX3_reasonAgainst_X3_isLit
set_option maxRecDepth 20000 in
theorem ggX3_reasonAgainst_X3_reasonAgainstAsking : GoodIn wsX3_reasonAgainst wsX3_reasonAgainstAsking := goodIn_r _ [15, 16, 17, 18, 19, 6, 7, 8, 9, 10, 11, 20, 21, 22, 23, 28, 29, 30, 31, 32, 33, 34, 35, 36, 37, 38, 39, 40, 41] (by decide +kernel) (by decide +kernel)
set_option maxRecDepth 20000 in
theorem gX3_reasonAgainst_X3_reasonAgainstAsking : GoodIn wsX3_reasonAgainst (wsV RX3 87 RX3 yX3_reasonAgainstAsking wsX3_reasonAgainstAsking) := goodIn_app (goodIn_of _ (by decide +kernel)) ggX3_reasonAgainst_X3_reasonAgainstAsking
set_option maxRecDepth 20000 in
theorem ggX3_reasonAgainst_X3_reasonAgainstLighting : GoodIn wsX3_reasonAgainst wsX3_reasonAgainstLighting := goodIn_r _ [27, 1, 6, 7, 8, 9, 10, 11, 28, 29, 30, 31, 32, 33, 34, 35, 36, 37, 38, 39, 40, 41] (by decide +kernel) (by decide +kernel)
set_option maxRecDepth 20000 in
theorem gX3_reasonAgainst_X3_reasonAgainstLighting : GoodIn wsX3_reasonAgainst (wsV RX3 90 RX3 yX3_reasonAgainstLighting wsX3_reasonAgainstLighting) := goodIn_app (goodIn_of _ (by decide +kernel)) ggX3_reasonAgainst_X3_reasonAgainstLighting
theorem dX3_reasonAgainst_0 : decode cX3_reasonAgainst 0 = .ok (.iload_n 1, 1) := by decide +kernel
theorem dX3_reasonAgainst_1 : decode cX3_reasonAgainst 1 = .ok (.lookupswitch 158 #[(33, 111), (42, 59), (45, 97), (62, 134), (94, 117), (119, 141)], 59) := by decide +kernel
theorem dX3_reasonAgainst_60 : decode cX3_reasonAgainst 60 = .ok (.aload_n 0, 1) := by decide +kernel
theorem dX3_reasonAgainst_61 : decode cX3_reasonAgainst 61 = .ok (.getfield 9, 3) := by decide +kernel
theorem dX3_reasonAgainst_64 : decode cX3_reasonAgainst 64 = .ok (.iload_n 2, 1) := by decide +kernel
theorem dX3_reasonAgainst_65 : decode cX3_reasonAgainst 65 = .ok (.iaload, 1) := by decide +kernel
theorem dX3_reasonAgainst_66 : decode cX3_reasonAgainst 66 = .ok (.ifCond .ne 7, 3) := by decide +kernel
theorem dX3_reasonAgainst_69 : decode cX3_reasonAgainst 69 = .ok (.iconst 1, 1) := by decide +kernel
theorem dX3_reasonAgainst_70 : decode cX3_reasonAgainst 70 = .ok (.goto 27, 3) := by decide +kernel
theorem dX3_reasonAgainst_73 : decode cX3_reasonAgainst 73 = .ok (.aload_n 0, 1) := by decide +kernel
theorem dX3_reasonAgainst_74 : decode cX3_reasonAgainst 74 = .ok (.iload_n 2, 1) := by decide +kernel
theorem dX3_reasonAgainst_75 : decode cX3_reasonAgainst 75 = .ok (.invokevirtual 69, 3) := by decide +kernel
theorem dX3_reasonAgainst_78 : decode cX3_reasonAgainst 78 = .ok (.ifCond .eq 7, 3) := by decide +kernel
theorem dX3_reasonAgainst_81 : decode cX3_reasonAgainst 81 = .ok (.iconst 2, 1) := by decide +kernel
theorem dX3_reasonAgainst_82 : decode cX3_reasonAgainst 82 = .ok (.goto 15, 3) := by decide +kernel
theorem dX3_reasonAgainst_85 : decode cX3_reasonAgainst 85 = .ok (.aload_n 0, 1) := by decide +kernel
theorem dX3_reasonAgainst_86 : decode cX3_reasonAgainst 86 = .ok (.getfield 42, 3) := by decide +kernel
theorem dX3_reasonAgainst_89 : decode cX3_reasonAgainst 89 = .ok (.ifCond .ne 7, 3) := by decide +kernel
theorem dX3_reasonAgainst_92 : decode cX3_reasonAgainst 92 = .ok (.iconst 3, 1) := by decide +kernel
theorem dX3_reasonAgainst_93 : decode cX3_reasonAgainst 93 = .ok (.goto 4, 3) := by decide +kernel
theorem dX3_reasonAgainst_96 : decode cX3_reasonAgainst 96 = .ok (.iconst 0, 1) := by decide +kernel
theorem dX3_reasonAgainst_97 : decode cX3_reasonAgainst 97 = .ok (.ireturn, 1) := by decide +kernel
theorem dX3_reasonAgainst_98 : decode cX3_reasonAgainst 98 = .ok (.aload_n 0, 1) := by decide +kernel
theorem dX3_reasonAgainst_99 : decode cX3_reasonAgainst 99 = .ok (.iload_n 2, 1) := by decide +kernel
theorem dX3_reasonAgainst_100 : decode cX3_reasonAgainst 100 = .ok (.invokevirtual 69, 3) := by decide +kernel
theorem dX3_reasonAgainst_103 : decode cX3_reasonAgainst 103 = .ok (.ifCond .eq 7, 3) := by decide +kernel
theorem dX3_reasonAgainst_106 : decode cX3_reasonAgainst 106 = .ok (.iconst 0, 1) := by decide +kernel
theorem dX3_reasonAgainst_107 : decode cX3_reasonAgainst 107 = .ok (.goto 4, 3) := by decide +kernel
theorem dX3_reasonAgainst_110 : decode cX3_reasonAgainst 110 = .ok (.iconst 2, 1) := by decide +kernel
theorem dX3_reasonAgainst_111 : decode cX3_reasonAgainst 111 = .ok (.ireturn, 1) := by decide +kernel
theorem dX3_reasonAgainst_112 : decode cX3_reasonAgainst 112 = .ok (.aload_n 0, 1) := by decide +kernel
theorem dX3_reasonAgainst_113 : decode cX3_reasonAgainst 113 = .ok (.iload_n 2, 1) := by decide +kernel
theorem dX3_reasonAgainst_114 : decode cX3_reasonAgainst 114 = .ok (.invokevirtual 87, 3) := by decide +kernel
theorem dX3_reasonAgainst_117 : decode cX3_reasonAgainst 117 = .ok (.ireturn, 1) := by decide +kernel
theorem dX3_reasonAgainst_118 : decode cX3_reasonAgainst 118 = .ok (.aload_n 0, 1) := by decide +kernel
theorem dX3_reasonAgainst_119 : decode cX3_reasonAgainst 119 = .ok (.getfield 15, 3) := by decide +kernel
theorem dX3_reasonAgainst_122 : decode cX3_reasonAgainst 122 = .ok (.iload_n 2, 1) := by decide +kernel
theorem dX3_reasonAgainst_123 : decode cX3_reasonAgainst 123 = .ok (.iaload, 1) := by decide +kernel
theorem dX3_reasonAgainst_124 : decode cX3_reasonAgainst 124 = .ok (.bipush 9, 2) := by decide +kernel
theorem dX3_reasonAgainst_126 : decode cX3_reasonAgainst 126 = .ok (.if_icmp .lt 7, 3) := by decide +kernel
theorem dX3_reasonAgainst_129 : decode cX3_reasonAgainst 129 = .ok (.iconst 5, 1) := by decide +kernel
theorem dX3_reasonAgainst_130 : decode cX3_reasonAgainst 130 = .ok (.goto 4, 3) := by decide +kernel
theorem dX3_reasonAgainst_133 : decode cX3_reasonAgainst 133 = .ok (.iconst 0, 1) := by decide +kernel
theorem dX3_reasonAgainst_134 : decode cX3_reasonAgainst 134 = .ok (.ireturn, 1) := by decide +kernel
theorem dX3_reasonAgainst_135 : decode cX3_reasonAgainst 135 = .ok (.aload_n 0, 1) := by decide +kernel
theorem dX3_reasonAgainst_136 : decode cX3_reasonAgainst 136 = .ok (.iload_n 2, 1) := by decide +kernel
theorem dX3_reasonAgainst_137 : decode cX3_reasonAgainst 137 = .ok (.iload_n 3, 1) := by decide +kernel
theorem dX3_reasonAgainst_138 : decode cX3_reasonAgainst 138 = .ok (.invokevirtual 90, 3) := by decide +kernel
theorem dX3_reasonAgainst_141 : decode cX3_reasonAgainst 141 = .ok (.ireturn, 1) := by decide +kernel
theorem dX3_reasonAgainst_142 : decode cX3_reasonAgainst 142 = .ok (.aload_n 0, 1) := by decide +kernel
theorem dX3_reasonAgainst_143 : decode cX3_reasonAgainst 143 = .ok (.getfield 18, 3) := by decide +kernel
theorem dX3_reasonAgainst_146 : decode cX3_reasonAgainst 146 = .ok (.iload_n 2, 1) := by decide +kernel
theorem dX3_reasonAgainst_147 : decode cX3_reasonAgainst 147 = .ok (.iaload, 1) := by decide +kernel
theorem dX3_reasonAgainst_148 : decode cX3_reasonAgainst 148 = .ok (.iload_n 3, 1) := by decide +kernel
theorem dX3_reasonAgainst_149 : decode cX3_reasonAgainst 149 = .ok (.if_icmp .ne 8, 3) := by decide +kernel
theorem dX3_reasonAgainst_152 : decode cX3_reasonAgainst 152 = .ok (.bipush 7, 2) := by decide +kernel
theorem dX3_reasonAgainst_154 : decode cX3_reasonAgainst 154 = .ok (.goto 4, 3) := by decide +kernel
theorem dX3_reasonAgainst_157 : decode cX3_reasonAgainst 157 = .ok (.iconst 0, 1) := by decide +kernel
theorem dX3_reasonAgainst_158 : decode cX3_reasonAgainst 158 = .ok (.ireturn, 1) := by decide +kernel
theorem dX3_reasonAgainst_159 : decode cX3_reasonAgainst 159 = .ok (.aload_n 0, 1) := by decide +kernel
theorem dX3_reasonAgainst_160 : decode cX3_reasonAgainst 160 = .ok (.getfield 62, 3) := by decide +kernel
theorem dX3_reasonAgainst_163 : decode cX3_reasonAgainst 163 = .ok (.sipush 999, 3) := by decide +kernel
theorem dX3_reasonAgainst_166 : decode cX3_reasonAgainst 166 = .ok (.if_icmp .lt 8, 3) := by decide +kernel
theorem dX3_reasonAgainst_169 : decode cX3_reasonAgainst 169 = .ok (.bipush 8, 2) := by decide +kernel
theorem dX3_reasonAgainst_171 : decode cX3_reasonAgainst 171 = .ok (.goto 4, 3) := by decide +kernel
theorem dX3_reasonAgainst_174 : decode cX3_reasonAgainst 174 = .ok (.iconst 0, 1) := by decide +kernel
theorem dX3_reasonAgainst_175 : decode cX3_reasonAgainst 175 = .ok (.ireturn, 1) := by decide +kernel
set_option maxRecDepth 20000 in
theorem ggX3_reasonAgainstAsking_X3_isLit : GoodIn wsX3_reasonAgainstAsking wsX3_isLit := goodIn_r _ [9, 10, 15, 16, 17, 18, 19, 20, 21, 22, 23, 24, 25, 26, 27, 28] (by decide +kernel) (by decide +kernel)
set_option maxRecDepth 20000 in
theorem gX3_reasonAgainstAsking_X3_isLit : GoodIn wsX3_reasonAgainstAsking (wsV RX3 69 RX3 yX3_isLit wsX3_isLit) := goodIn_app (goodIn_of _ (by decide +kernel)) ggX3_reasonAgainstAsking_X3_isLit
set_option maxRecDepth 20000 in
theorem ggX3_reasonAgainstAsking_X3_dueOf : GoodIn wsX3_reasonAgainstAsking wsX3_dueOf := goodIn_r _ [14, 4, 3, 1, 15, 16, 17, 18, 19, 20, 21, 22, 23, 24, 25, 26, 27, 28] (by decide +kernel) (by decide +kernel)
set_option maxRecDepth 20000 in
theorem gX3_reasonAgainstAsking_X3_dueOf : GoodIn wsX3_reasonAgainstAsking (wsV RX3 93 RX3 yX3_dueOf wsX3_dueOf) := goodIn_app (goodIn_of _ (by decide +kernel)) ggX3_reasonAgainstAsking_X3_dueOf
theorem dX3_reasonAgainstAsking_0 : decode cX3_reasonAgainstAsking 0 = .ok (.aload_n 0, 1) := by decide +kernel
theorem dX3_reasonAgainstAsking_1 : decode cX3_reasonAgainstAsking 1 = .ok (.iload_n 1, 1) := by decide +kernel
theorem dX3_reasonAgainstAsking_2 : decode cX3_reasonAgainstAsking 2 = .ok (.invokevirtual 69, 3) := by decide +kernel
theorem dX3_reasonAgainstAsking_5 : decode cX3_reasonAgainstAsking 5 = .ok (.ifCond .ne 5, 3) := by decide +kernel
theorem dX3_reasonAgainstAsking_8 : decode cX3_reasonAgainstAsking 8 = .ok (.iconst 2, 1) := by decide +kernel
theorem dX3_reasonAgainstAsking_9 : decode cX3_reasonAgainstAsking 9 = .ok (.ireturn, 1) := by decide +kernel
theorem dX3_reasonAgainstAsking_10 : decode cX3_reasonAgainstAsking 10 = .ok (.aload_n 0, 1) := by decide +kernel
theorem dX3_reasonAgainstAsking_11 : decode cX3_reasonAgainstAsking 11 = .ok (.getfield 27, 3) := by decide +kernel
theorem dX3_reasonAgainstAsking_14 : decode cX3_reasonAgainstAsking 14 = .ok (.iload_n 1, 1) := by decide +kernel
theorem dX3_reasonAgainstAsking_15 : decode cX3_reasonAgainstAsking 15 = .ok (.iaload, 1) := by decide +kernel
theorem dX3_reasonAgainstAsking_16 : decode cX3_reasonAgainstAsking 16 = .ok (.ifCond .ne 5, 3) := by decide +kernel
theorem dX3_reasonAgainstAsking_19 : decode cX3_reasonAgainstAsking 19 = .ok (.iconst 5, 1) := by decide +kernel
theorem dX3_reasonAgainstAsking_20 : decode cX3_reasonAgainstAsking 20 = .ok (.ireturn, 1) := by decide +kernel
theorem dX3_reasonAgainstAsking_21 : decode cX3_reasonAgainstAsking 21 = .ok (.aload_n 0, 1) := by decide +kernel
theorem dX3_reasonAgainstAsking_22 : decode cX3_reasonAgainstAsking 22 = .ok (.getfield 21, 3) := by decide +kernel
theorem dX3_reasonAgainstAsking_25 : decode cX3_reasonAgainstAsking 25 = .ok (.iload_n 1, 1) := by decide +kernel
theorem dX3_reasonAgainstAsking_26 : decode cX3_reasonAgainstAsking 26 = .ok (.iaload, 1) := by decide +kernel
theorem dX3_reasonAgainstAsking_27 : decode cX3_reasonAgainstAsking 27 = .ok (.aload_n 0, 1) := by decide +kernel
theorem dX3_reasonAgainstAsking_28 : decode cX3_reasonAgainstAsking 28 = .ok (.getfield 24, 3) := by decide +kernel
theorem dX3_reasonAgainstAsking_31 : decode cX3_reasonAgainstAsking 31 = .ok (.iload_n 1, 1) := by decide +kernel
theorem dX3_reasonAgainstAsking_32 : decode cX3_reasonAgainstAsking 32 = .ok (.iaload, 1) := by decide +kernel
theorem dX3_reasonAgainstAsking_33 : decode cX3_reasonAgainstAsking 33 = .ok (.if_icmp .eq 7, 3) := by decide +kernel
theorem dX3_reasonAgainstAsking_36 : decode cX3_reasonAgainstAsking 36 = .ok (.iconst 1, 1) := by decide +kernel
theorem dX3_reasonAgainstAsking_37 : decode cX3_reasonAgainstAsking 37 = .ok (.goto 4, 3) := by decide +kernel
theorem dX3_reasonAgainstAsking_40 : decode cX3_reasonAgainstAsking 40 = .ok (.iconst 0, 1) := by decide +kernel
theorem dX3_reasonAgainstAsking_41 : decode cX3_reasonAgainstAsking 41 = .ok (.istore_n 2, 1) := by decide +kernel
theorem dX3_reasonAgainstAsking_42 : decode cX3_reasonAgainstAsking 42 = .ok (.iload_n 2, 1) := by decide +kernel
theorem dX3_reasonAgainstAsking_43 : decode cX3_reasonAgainstAsking 43 = .ok (.ifCond .eq 31, 3) := by decide +kernel
theorem dX3_reasonAgainstAsking_46 : decode cX3_reasonAgainstAsking 46 = .ok (.aload_n 0, 1) := by decide +kernel
theorem dX3_reasonAgainstAsking_47 : decode cX3_reasonAgainstAsking 47 = .ok (.getfield 33, 3) := by decide +kernel
theorem dX3_reasonAgainstAsking_50 : decode cX3_reasonAgainstAsking 50 = .ok (.aload_n 0, 1) := by decide +kernel
theorem dX3_reasonAgainstAsking_51 : decode cX3_reasonAgainstAsking 51 = .ok (.getfield 21, 3) := by decide +kernel
theorem dX3_reasonAgainstAsking_54 : decode cX3_reasonAgainstAsking 54 = .ok (.iload_n 1, 1) := by decide +kernel
theorem dX3_reasonAgainstAsking_55 : decode cX3_reasonAgainstAsking 55 = .ok (.iaload, 1) := by decide +kernel
theorem dX3_reasonAgainstAsking_56 : decode cX3_reasonAgainstAsking 56 = .ok (.iaload, 1) := by decide +kernel
theorem dX3_reasonAgainstAsking_57 : decode cX3_reasonAgainstAsking 57 = .ok (.aload_n 0, 1) := by decide +kernel
theorem dX3_reasonAgainstAsking_58 : decode cX3_reasonAgainstAsking 58 = .ok (.iload_n 1, 1) := by decide +kernel
theorem dX3_reasonAgainstAsking_59 : decode cX3_reasonAgainstAsking 59 = .ok (.invokevirtual 93, 3) := by decide +kernel
theorem dX3_reasonAgainstAsking_62 : decode cX3_reasonAgainstAsking 62 = .ok (.iadd, 1) := by decide +kernel
theorem dX3_reasonAgainstAsking_63 : decode cX3_reasonAgainstAsking 63 = .ok (.sipush 9999, 3) := by decide +kernel
theorem dX3_reasonAgainstAsking_66 : decode cX3_reasonAgainstAsking 66 = .ok (.if_icmp .le 8, 3) := by decide +kernel
theorem dX3_reasonAgainstAsking_69 : decode cX3_reasonAgainstAsking 69 = .ok (.bipush 6, 2) := by decide +kernel
theorem dX3_reasonAgainstAsking_71 : decode cX3_reasonAgainstAsking 71 = .ok (.goto 4, 3) := by decide +kernel
theorem dX3_reasonAgainstAsking_74 : decode cX3_reasonAgainstAsking 74 = .ok (.iconst 0, 1) := by decide +kernel
theorem dX3_reasonAgainstAsking_75 : decode cX3_reasonAgainstAsking 75 = .ok (.ireturn, 1) := by decide +kernel
set_option maxRecDepth 20000 in
theorem ggX3_reasonAgainstLighting_X3_isLit : GoodIn wsX3_reasonAgainstLighting wsX3_isLit := goodIn_r _ [6, 7, 8, 9, 10, 11, 12, 13, 14, 15, 16, 17, 18, 19, 20, 21] (by decide +kernel) (by decide +kernel)
set_option maxRecDepth 20000 in
theorem gX3_reasonAgainstLighting_X3_isLit : GoodIn wsX3_reasonAgainstLighting (wsV RX3 69 RX3 yX3_isLit wsX3_isLit) := goodIn_app (goodIn_of _ (by decide +kernel)) ggX3_reasonAgainstLighting_X3_isLit
theorem dX3_reasonAgainstLighting_0 : decode cX3_reasonAgainstLighting 0 = .ok (.aload_n 0, 1) := by decide +kernel
theorem dX3_reasonAgainstLighting_1 : decode cX3_reasonAgainstLighting 1 = .ok (.getfield 9, 3) := by decide +kernel
theorem dX3_reasonAgainstLighting_4 : decode cX3_reasonAgainstLighting 4 = .ok (.iload_n 2, 1) := by decide +kernel
theorem dX3_reasonAgainstLighting_5 : decode cX3_reasonAgainstLighting 5 = .ok (.iaload, 1) := by decide +kernel
theorem dX3_reasonAgainstLighting_6 : decode cX3_reasonAgainstLighting 6 = .ok (.ifCond .ne 5, 3) := by decide +kernel
theorem dX3_reasonAgainstLighting_9 : decode cX3_reasonAgainstLighting 9 = .ok (.iconst 1, 1) := by decide +kernel
theorem dX3_reasonAgainstLighting_10 : decode cX3_reasonAgainstLighting 10 = .ok (.ireturn, 1) := by decide +kernel
theorem dX3_reasonAgainstLighting_11 : decode cX3_reasonAgainstLighting 11 = .ok (.aload_n 0, 1) := by decide +kernel
theorem dX3_reasonAgainstLighting_12 : decode cX3_reasonAgainstLighting 12 = .ok (.iload_n 2, 1) := by decide +kernel
theorem dX3_reasonAgainstLighting_13 : decode cX3_reasonAgainstLighting 13 = .ok (.invokevirtual 69, 3) := by decide +kernel
theorem dX3_reasonAgainstLighting_16 : decode cX3_reasonAgainstLighting 16 = .ok (.ifCond .ne 11, 3) := by decide +kernel
theorem dX3_reasonAgainstLighting_19 : decode cX3_reasonAgainstLighting 19 = .ok (.aload_n 0, 1) := by decide +kernel
theorem dX3_reasonAgainstLighting_20 : decode cX3_reasonAgainstLighting 20 = .ok (.iload_n 1, 1) := by decide +kernel
theorem dX3_reasonAgainstLighting_21 : decode cX3_reasonAgainstLighting 21 = .ok (.invokevirtual 69, 3) := by decide +kernel
theorem dX3_reasonAgainstLighting_24 : decode cX3_reasonAgainstLighting 24 = .ok (.ifCond .ne 5, 3) := by decide +kernel
theorem dX3_reasonAgainstLighting_27 : decode cX3_reasonAgainstLighting 27 = .ok (.iconst 2, 1) := by decide +kernel
theorem dX3_reasonAgainstLighting_28 : decode cX3_reasonAgainstLighting 28 = .ok (.ireturn, 1) := by decide +kernel
theorem dX3_reasonAgainstLighting_29 : decode cX3_reasonAgainstLighting 29 = .ok (.iload_n 2, 1) := by decide +kernel
theorem dX3_reasonAgainstLighting_30 : decode cX3_reasonAgainstLighting 30 = .ok (.iload_n 1, 1) := by decide +kernel
theorem dX3_reasonAgainstLighting_31 : decode cX3_reasonAgainstLighting 31 = .ok (.iconst 1, 1) := by decide +kernel
theorem dX3_reasonAgainstLighting_32 : decode cX3_reasonAgainstLighting 32 = .ok (.isub, 1) := by decide +kernel
theorem dX3_reasonAgainstLighting_33 : decode cX3_reasonAgainstLighting 33 = .ok (.if_icmp .eq 10, 3) := by decide +kernel
theorem dX3_reasonAgainstLighting_36 : decode cX3_reasonAgainstLighting 36 = .ok (.iload_n 2, 1) := by decide +kernel
theorem dX3_reasonAgainstLighting_37 : decode cX3_reasonAgainstLighting 37 = .ok (.iload_n 1, 1) := by decide +kernel
theorem dX3_reasonAgainstLighting_38 : decode cX3_reasonAgainstLighting 38 = .ok (.iconst 1, 1) := by decide +kernel
theorem dX3_reasonAgainstLighting_39 : decode cX3_reasonAgainstLighting 39 = .ok (.iadd, 1) := by decide +kernel
theorem dX3_reasonAgainstLighting_40 : decode cX3_reasonAgainstLighting 40 = .ok (.if_icmp .ne 7, 3) := by decide +kernel
theorem dX3_reasonAgainstLighting_43 : decode cX3_reasonAgainstLighting 43 = .ok (.iconst 0, 1) := by decide +kernel
theorem dX3_reasonAgainstLighting_44 : decode cX3_reasonAgainstLighting 44 = .ok (.goto 4, 3) := by decide +kernel
theorem dX3_reasonAgainstLighting_47 : decode cX3_reasonAgainstLighting 47 = .ok (.iconst 4, 1) := by decide +kernel
theorem dX3_reasonAgainstLighting_48 : decode cX3_reasonAgainstLighting 48 = .ok (.ireturn, 1) := by decide +kernel
theorem dX3_dueOf_0 : decode cX3_dueOf 0 = .ok (.aload_n 0, 1) := by decide +kernel
theorem dX3_dueOf_1 : decode cX3_dueOf 1 = .ok (.getfield 33, 3) := by decide +kernel
theorem dX3_dueOf_4 : decode cX3_dueOf 4 = .ok (.aload_n 0, 1) := by decide +kernel
theorem dX3_dueOf_5 : decode cX3_dueOf 5 = .ok (.getfield 24, 3) := by decide +kernel
theorem dX3_dueOf_8 : decode cX3_dueOf 8 = .ok (.iload_n 1, 1) := by decide +kernel
theorem dX3_dueOf_9 : decode cX3_dueOf 9 = .ok (.iaload, 1) := by decide +kernel
theorem dX3_dueOf_10 : decode cX3_dueOf 10 = .ok (.iaload, 1) := by decide +kernel
theorem dX3_dueOf_11 : decode cX3_dueOf 11 = .ok (.istore_n 2, 1) := by decide +kernel
theorem dX3_dueOf_12 : decode cX3_dueOf 12 = .ok (.iload_n 2, 1) := by decide +kernel
theorem dX3_dueOf_13 : decode cX3_dueOf 13 = .ok (.aload_n 0, 1) := by decide +kernel
theorem dX3_dueOf_14 : decode cX3_dueOf 14 = .ok (.getfield 27, 3) := by decide +kernel
theorem dX3_dueOf_17 : decode cX3_dueOf 17 = .ok (.iload_n 1, 1) := by decide +kernel
theorem dX3_dueOf_18 : decode cX3_dueOf 18 = .ok (.iaload, 1) := by decide +kernel
theorem dX3_dueOf_19 : decode cX3_dueOf 19 = .ok (.if_icmp .ge 7, 3) := by decide +kernel
theorem dX3_dueOf_22 : decode cX3_dueOf 22 = .ok (.iload_n 2, 1) := by decide +kernel
theorem dX3_dueOf_23 : decode cX3_dueOf 23 = .ok (.goto 9, 3) := by decide +kernel
theorem dX3_dueOf_26 : decode cX3_dueOf 26 = .ok (.aload_n 0, 1) := by decide +kernel
theorem dX3_dueOf_27 : decode cX3_dueOf 27 = .ok (.getfield 27, 3) := by decide +kernel
theorem dX3_dueOf_30 : decode cX3_dueOf 30 = .ok (.iload_n 1, 1) := by decide +kernel
theorem dX3_dueOf_31 : decode cX3_dueOf 31 = .ok (.iaload, 1) := by decide +kernel
theorem dX3_dueOf_32 : decode cX3_dueOf 32 = .ok (.ireturn, 1) := by decide +kernel
set_option maxRecDepth 20000 in
theorem ggX3_lightByMatch_X5_bit : GoodIn wsX3_lightByMatch wsX5_bit := goodIn_r _ [5] (by decide +kernel) (by decide +kernel)
set_option maxRecDepth 20000 in
theorem gX3_lightByMatch_X5_bit_n46 : GoodIn wsX3_lightByMatch (wsX5_bit) := ggX3_lightByMatch_X5_bit
set_option maxRecDepth 20000 in
theorem ggX3_lightByMatch_X3_part : GoodIn wsX3_lightByMatch wsX3_part := goodIn_r _ [10, 11, 3, 4, 5, 12, 13, 14, 15, 16, 17, 18, 19, 20, 21, 22, 23, 24, 25] (by decide +kernel) (by decide +kernel)
set_option maxRecDepth 20000 in
theorem gX3_lightByMatch_X3_part : GoodIn wsX3_lightByMatch (wsV RX3 65 RX3 yX3_part wsX3_part) := goodIn_app (goodIn_of _ (by decide +kernel)) ggX3_lightByMatch_X3_part
theorem dX3_lightByMatch_0 : decode cX3_lightByMatch 0 = .ok (.aload_n 0, 1) := by decide +kernel
theorem dX3_lightByMatch_1 : decode cX3_lightByMatch 1 = .ok (.dup, 1) := by decide +kernel
theorem dX3_lightByMatch_2 : decode cX3_lightByMatch 2 = .ok (.getfield 42, 3) := by decide +kernel
theorem dX3_lightByMatch_5 : decode cX3_lightByMatch 5 = .ok (.iconst 1, 1) := by decide +kernel
theorem dX3_lightByMatch_6 : decode cX3_lightByMatch 6 = .ok (.isub, 1) := by decide +kernel
theorem dX3_lightByMatch_7 : decode cX3_lightByMatch 7 = .ok (.putfield 42, 3) := by decide +kernel
theorem dX3_lightByMatch_10 : decode cX3_lightByMatch 10 = .ok (.aload_n 0, 1) := by decide +kernel
theorem dX3_lightByMatch_11 : decode cX3_lightByMatch 11 = .ok (.dup, 1) := by decide +kernel
theorem dX3_lightByMatch_12 : decode cX3_lightByMatch 12 = .ok (.getfield 59, 3) := by decide +kernel
theorem dX3_lightByMatch_15 : decode cX3_lightByMatch 15 = .ok (.iload_n 1, 1) := by decide +kernel
theorem dX3_lightByMatch_16 : decode cX3_lightByMatch 16 = .ok (.invokestatic 46, 3) := by decide +kernel
theorem dX3_lightByMatch_19 : decode cX3_lightByMatch 19 = .ok (.ior, 1) := by decide +kernel
theorem dX3_lightByMatch_20 : decode cX3_lightByMatch 20 = .ok (.putfield 59, 3) := by decide +kernel
theorem dX3_lightByMatch_23 : decode cX3_lightByMatch 23 = .ok (.aload_n 0, 1) := by decide +kernel
theorem dX3_lightByMatch_24 : decode cX3_lightByMatch 24 = .ok (.iload_n 1, 1) := by decide +kernel
theorem dX3_lightByMatch_25 : decode cX3_lightByMatch 25 = .ok (.invokevirtual 65, 3) := by decide +kernel
theorem dX3_lightByMatch_28 : decode cX3_lightByMatch 28 = .ok (.return_, 1) := by decide +kernel
theorem dX3_putOut_0 : decode cX3_putOut 0 = .ok (.aload_n 0, 1) := by decide +kernel
theorem dX3_putOut_1 : decode cX3_putOut 1 = .ok (.dup, 1) := by decide +kernel
theorem dX3_putOut_2 : decode cX3_putOut 2 = .ok (.getfield 59, 3) := by decide +kernel
theorem dX3_putOut_5 : decode cX3_putOut 5 = .ok (.aload_n 0, 1) := by decide +kernel
theorem dX3_putOut_6 : decode cX3_putOut 6 = .ok (.getfield 30, 3) := by decide +kernel
theorem dX3_putOut_9 : decode cX3_putOut 9 = .ok (.iload_n 1, 1) := by decide +kernel
theorem dX3_putOut_10 : decode cX3_putOut 10 = .ok (.iaload, 1) := by decide +kernel
theorem dX3_putOut_11 : decode cX3_putOut 11 = .ok (.iconst (-1), 1) := by decide +kernel
theorem dX3_putOut_12 : decode cX3_putOut 12 = .ok (.ixor, 1) := by decide +kernel
theorem dX3_putOut_13 : decode cX3_putOut 13 = .ok (.iand, 1) := by decide +kernel
theorem dX3_putOut_14 : decode cX3_putOut 14 = .ok (.putfield 59, 3) := by decide +kernel
theorem dX3_putOut_17 : decode cX3_putOut 17 = .ok (.return_, 1) := by decide +kernel
set_option maxRecDepth 20000 in
theorem ggX3_pay_X3_dueOf : GoodIn wsX3_pay wsX3_dueOf := goodIn_r _ [9, 1, 2, 4, 10, 11, 12, 13, 14, 15, 16, 17, 18, 19, 20, 21, 22, 23] (by decide +kernel) (by decide +kernel)
set_option maxRecDepth 20000 in
theorem gX3_pay_X3_dueOf : GoodIn wsX3_pay (wsV RX3 93 RX3 yX3_dueOf wsX3_dueOf) := goodIn_app (goodIn_of _ (by decide +kernel)) ggX3_pay_X3_dueOf
theorem dX3_pay_0 : decode cX3_pay 0 = .ok (.aload_n 0, 1) := by decide +kernel
theorem dX3_pay_1 : decode cX3_pay 1 = .ok (.iload_n 1, 1) := by decide +kernel
theorem dX3_pay_2 : decode cX3_pay 2 = .ok (.invokevirtual 93, 3) := by decide +kernel
theorem dX3_pay_5 : decode cX3_pay 5 = .ok (.istore_n 2, 1) := by decide +kernel
theorem dX3_pay_6 : decode cX3_pay 6 = .ok (.aload_n 0, 1) := by decide +kernel
theorem dX3_pay_7 : decode cX3_pay 7 = .ok (.getfield 33, 3) := by decide +kernel
theorem dX3_pay_10 : decode cX3_pay 10 = .ok (.aload_n 0, 1) := by decide +kernel
theorem dX3_pay_11 : decode cX3_pay 11 = .ok (.getfield 24, 3) := by decide +kernel
theorem dX3_pay_14 : decode cX3_pay 14 = .ok (.iload_n 1, 1) := by decide +kernel
theorem dX3_pay_15 : decode cX3_pay 15 = .ok (.iaload, 1) := by decide +kernel
theorem dX3_pay_16 : decode cX3_pay 16 = .ok (.dup2, 1) := by decide +kernel
theorem dX3_pay_17 : decode cX3_pay 17 = .ok (.iaload, 1) := by decide +kernel
theorem dX3_pay_18 : decode cX3_pay 18 = .ok (.iload_n 2, 1) := by decide +kernel
theorem dX3_pay_19 : decode cX3_pay 19 = .ok (.isub, 1) := by decide +kernel
theorem dX3_pay_20 : decode cX3_pay 20 = .ok (.iastore, 1) := by decide +kernel
theorem dX3_pay_21 : decode cX3_pay 21 = .ok (.aload_n 0, 1) := by decide +kernel
theorem dX3_pay_22 : decode cX3_pay 22 = .ok (.getfield 33, 3) := by decide +kernel
theorem dX3_pay_25 : decode cX3_pay 25 = .ok (.aload_n 0, 1) := by decide +kernel
theorem dX3_pay_26 : decode cX3_pay 26 = .ok (.getfield 21, 3) := by decide +kernel
theorem dX3_pay_29 : decode cX3_pay 29 = .ok (.iload_n 1, 1) := by decide +kernel
theorem dX3_pay_30 : decode cX3_pay 30 = .ok (.iaload, 1) := by decide +kernel
theorem dX3_pay_31 : decode cX3_pay 31 = .ok (.dup2, 1) := by decide +kernel
theorem dX3_pay_32 : decode cX3_pay 32 = .ok (.iaload, 1) := by decide +kernel
theorem dX3_pay_33 : decode cX3_pay 33 = .ok (.iload_n 2, 1) := by decide +kernel
theorem dX3_pay_34 : decode cX3_pay 34 = .ok (.iadd, 1) := by decide +kernel
theorem dX3_pay_35 : decode cX3_pay 35 = .ok (.iastore, 1) := by decide +kernel
theorem dX3_pay_36 : decode cX3_pay 36 = .ok (.aload_n 0, 1) := by decide +kernel
theorem dX3_pay_37 : decode cX3_pay 37 = .ok (.getfield 27, 3) := by decide +kernel
theorem dX3_pay_40 : decode cX3_pay 40 = .ok (.iload_n 1, 1) := by decide +kernel
theorem dX3_pay_41 : decode cX3_pay 41 = .ok (.dup2, 1) := by decide +kernel
theorem dX3_pay_42 : decode cX3_pay 42 = .ok (.iaload, 1) := by decide +kernel
theorem dX3_pay_43 : decode cX3_pay 43 = .ok (.iload_n 2, 1) := by decide +kernel
theorem dX3_pay_44 : decode cX3_pay 44 = .ok (.isub, 1) := by decide +kernel
theorem dX3_pay_45 : decode cX3_pay 45 = .ok (.iastore, 1) := by decide +kernel
theorem dX3_pay_46 : decode cX3_pay 46 = .ok (.iload_n 2, 1) := by decide +kernel
theorem dX3_pay_47 : decode cX3_pay 47 = .ok (.ireturn, 1) := by decide +kernel
set_option maxRecDepth 20000 in
theorem ggX3_lightFrom_X5_bit : GoodIn wsX3_lightFrom wsX5_bit := goodIn_r _ [5] (by decide +kernel) (by decide +kernel)
set_option maxRecDepth 20000 in
theorem gX3_lightFrom_X5_bit_n46 : GoodIn wsX3_lightFrom (wsX5_bit) := ggX3_lightFrom_X5_bit
set_option maxRecDepth 20000 in
theorem ggX3_lightFrom_X5_holds : GoodIn wsX3_lightFrom wsX5_holds := goodIn_r _ [7] (by decide +kernel) (by decide +kernel)
set_option maxRecDepth 20000 in
theorem gX3_lightFrom_X5_holds_n96 : GoodIn wsX3_lightFrom (wsX5_holds) := ggX3_lightFrom_X5_holds
theorem dX3_lightFrom_0 : decode cX3_lightFrom 0 = .ok (.aload_n 0, 1) := by decide +kernel
theorem dX3_lightFrom_1 : decode cX3_lightFrom 1 = .ok (.dup, 1) := by decide +kernel
theorem dX3_lightFrom_2 : decode cX3_lightFrom 2 = .ok (.getfield 59, 3) := by decide +kernel
theorem dX3_lightFrom_5 : decode cX3_lightFrom 5 = .ok (.iload_n 2, 1) := by decide +kernel
theorem dX3_lightFrom_6 : decode cX3_lightFrom 6 = .ok (.invokestatic 46, 3) := by decide +kernel
theorem dX3_lightFrom_9 : decode cX3_lightFrom 9 = .ok (.ior, 1) := by decide +kernel
theorem dX3_lightFrom_10 : decode cX3_lightFrom 10 = .ok (.putfield 59, 3) := by decide +kernel
theorem dX3_lightFrom_13 : decode cX3_lightFrom 13 = .ok (.aload_n 0, 1) := by decide +kernel
theorem dX3_lightFrom_14 : decode cX3_lightFrom 14 = .ok (.getfield 30, 3) := by decide +kernel
theorem dX3_lightFrom_17 : decode cX3_lightFrom 17 = .ok (.iload_n 1, 1) := by decide +kernel
theorem dX3_lightFrom_18 : decode cX3_lightFrom 18 = .ok (.iaload, 1) := by decide +kernel
theorem dX3_lightFrom_19 : decode cX3_lightFrom 19 = .ok (.aload_n 0, 1) := by decide +kernel
theorem dX3_lightFrom_20 : decode cX3_lightFrom 20 = .ok (.getfield 30, 3) := by decide +kernel
theorem dX3_lightFrom_23 : decode cX3_lightFrom 23 = .ok (.iload_n 2, 1) := by decide +kernel
theorem dX3_lightFrom_24 : decode cX3_lightFrom 24 = .ok (.iaload, 1) := by decide +kernel
theorem dX3_lightFrom_25 : decode cX3_lightFrom 25 = .ok (.ior, 1) := by decide +kernel
theorem dX3_lightFrom_26 : decode cX3_lightFrom 26 = .ok (.istore_n 3, 1) := by decide +kernel
theorem dX3_lightFrom_27 : decode cX3_lightFrom 27 = .ok (.iconst 0, 1) := by decide +kernel
theorem dX3_lightFrom_28 : decode cX3_lightFrom 28 = .ok (.istore 4, 2) := by decide +kernel
theorem dX3_lightFrom_30 : decode cX3_lightFrom 30 = .ok (.iload 4, 2) := by decide +kernel
theorem dX3_lightFrom_32 : decode cX3_lightFrom 32 = .ok (.bipush 12, 2) := by decide +kernel
theorem dX3_lightFrom_34 : decode cX3_lightFrom 34 = .ok (.if_icmp .ge 26, 3) := by decide +kernel
theorem dX3_lightFrom_37 : decode cX3_lightFrom 37 = .ok (.iload_n 3, 1) := by decide +kernel
theorem dX3_lightFrom_38 : decode cX3_lightFrom 38 = .ok (.iload 4, 2) := by decide +kernel
theorem dX3_lightFrom_40 : decode cX3_lightFrom 40 = .ok (.invokestatic 96, 3) := by decide +kernel
theorem dX3_lightFrom_43 : decode cX3_lightFrom 43 = .ok (.ifCond .eq 11, 3) := by decide +kernel
theorem dX3_lightFrom_46 : decode cX3_lightFrom 46 = .ok (.aload_n 0, 1) := by decide +kernel
theorem dX3_lightFrom_47 : decode cX3_lightFrom 47 = .ok (.getfield 30, 3) := by decide +kernel
theorem dX3_lightFrom_50 : decode cX3_lightFrom 50 = .ok (.iload 4, 2) := by decide +kernel
theorem dX3_lightFrom_52 : decode cX3_lightFrom 52 = .ok (.iload_n 3, 1) := by decide +kernel
theorem dX3_lightFrom_53 : decode cX3_lightFrom 53 = .ok (.iastore, 1) := by decide +kernel
theorem dX3_lightFrom_54 : decode cX3_lightFrom 54 = .ok (.iinc 4 1, 3) := by decide +kernel
theorem dX3_lightFrom_57 : decode cX3_lightFrom 57 = .ok (.goto (-27), 3) := by decide +kernel
theorem dX3_lightFrom_60 : decode cX3_lightFrom 60 = .ok (.return_, 1) := by decide +kernel
set_option maxRecDepth 20000 in
theorem ggX3_passMinute_X3_isLit : GoodIn wsX3_passMinute wsX3_isLit := goodIn_r _ [13, 8, 27, 28, 29, 30, 31, 32, 33, 34, 35, 36, 37, 38, 39, 40] (by decide +kernel) (by decide +kernel)
set_option maxRecDepth 20000 in
theorem gX3_passMinute_X3_isLit : GoodIn wsX3_passMinute (wsV RX3 69 RX3 yX3_isLit wsX3_isLit) := goodIn_app (goodIn_of _ (by decide +kernel)) ggX3_passMinute_X3_isLit
set_option maxRecDepth 20000 in
theorem ggX3_passMinute_X3_burnOf : GoodIn wsX3_passMinute wsX3_burnOf := goodIn_r _ [17, 18, 19, 20, 21, 12, 22, 23, 27, 28, 29, 30, 31, 32, 33, 34, 35, 36, 37, 38, 39, 40] (by decide +kernel) (by decide +kernel)
set_option maxRecDepth 20000 in
theorem gX3_passMinute_X3_burnOf : GoodIn wsX3_passMinute (wsV RX3 99 RX3 yX3_burnOf wsX3_burnOf) := goodIn_app (goodIn_of _ (by decide +kernel)) ggX3_passMinute_X3_burnOf
set_option maxRecDepth 20000 in
theorem ggX3_passMinute_X5_bit : GoodIn wsX3_passMinute wsX5_bit := goodIn_r _ [26] (by decide +kernel) (by decide +kernel)
set_option maxRecDepth 20000 in
theorem gX3_passMinute_X5_bit_n46 : GoodIn wsX3_passMinute (wsX5_bit) := ggX3_passMinute_X5_bit
theorem dX3_passMinute_0 : decode cX3_passMinute 0 = .ok (.aload_n 0, 1) := by decide +kernel
theorem dX3_passMinute_1 : decode cX3_passMinute 1 = .ok (.dup, 1) := by decide +kernel
theorem dX3_passMinute_2 : decode cX3_passMinute 2 = .ok (.getfield 62, 3) := by decide +kernel
theorem dX3_passMinute_5 : decode cX3_passMinute 5 = .ok (.iconst 1, 1) := by decide +kernel
theorem dX3_passMinute_6 : decode cX3_passMinute 6 = .ok (.iadd, 1) := by decide +kernel
theorem dX3_passMinute_7 : decode cX3_passMinute 7 = .ok (.putfield 62, 3) := by decide +kernel
theorem dX3_passMinute_10 : decode cX3_passMinute 10 = .ok (.iconst 0, 1) := by decide +kernel
theorem dX3_passMinute_11 : decode cX3_passMinute 11 = .ok (.istore_n 1, 1) := by decide +kernel
theorem dX3_passMinute_12 : decode cX3_passMinute 12 = .ok (.iconst 0, 1) := by decide +kernel
theorem dX3_passMinute_13 : decode cX3_passMinute 13 = .ok (.istore_n 2, 1) := by decide +kernel
theorem dX3_passMinute_14 : decode cX3_passMinute 14 = .ok (.iload_n 2, 1) := by decide +kernel
theorem dX3_passMinute_15 : decode cX3_passMinute 15 = .ok (.bipush 12, 2) := by decide +kernel
theorem dX3_passMinute_17 : decode cX3_passMinute 17 = .ok (.if_icmp .ge 84, 3) := by decide +kernel
theorem dX3_passMinute_20 : decode cX3_passMinute 20 = .ok (.aload_n 0, 1) := by decide +kernel
theorem dX3_passMinute_21 : decode cX3_passMinute 21 = .ok (.iload_n 2, 1) := by decide +kernel
theorem dX3_passMinute_22 : decode cX3_passMinute 22 = .ok (.invokevirtual 69, 3) := by decide +kernel
theorem dX3_passMinute_25 : decode cX3_passMinute 25 = .ok (.ifCond .eq 70, 3) := by decide +kernel
theorem dX3_passMinute_28 : decode cX3_passMinute 28 = .ok (.aload_n 0, 1) := by decide +kernel
theorem dX3_passMinute_29 : decode cX3_passMinute 29 = .ok (.getfield 9, 3) := by decide +kernel
theorem dX3_passMinute_32 : decode cX3_passMinute 32 = .ok (.iload_n 2, 1) := by decide +kernel
theorem dX3_passMinute_33 : decode cX3_passMinute 33 = .ok (.iconst 0, 1) := by decide +kernel
theorem dX3_passMinute_34 : decode cX3_passMinute 34 = .ok (.aload_n 0, 1) := by decide +kernel
theorem dX3_passMinute_35 : decode cX3_passMinute 35 = .ok (.getfield 9, 3) := by decide +kernel
theorem dX3_passMinute_38 : decode cX3_passMinute 38 = .ok (.iload_n 2, 1) := by decide +kernel
theorem dX3_passMinute_39 : decode cX3_passMinute 39 = .ok (.iaload, 1) := by decide +kernel
theorem dX3_passMinute_40 : decode cX3_passMinute 40 = .ok (.aload_n 0, 1) := by decide +kernel
theorem dX3_passMinute_41 : decode cX3_passMinute 41 = .ok (.iload_n 2, 1) := by decide +kernel
theorem dX3_passMinute_42 : decode cX3_passMinute 42 = .ok (.invokevirtual 99, 3) := by decide +kernel
theorem dX3_passMinute_45 : decode cX3_passMinute 45 = .ok (.isub, 1) := by decide +kernel
theorem dX3_passMinute_46 : decode cX3_passMinute 46 = .ok (.invokestatic 102, 3) := by decide +kernel
theorem dX3_passMinute_49 : decode cX3_passMinute 49 = .ok (.iastore, 1) := by decide +kernel
theorem dX3_passMinute_50 : decode cX3_passMinute 50 = .ok (.iload_n 1, 1) := by decide +kernel
theorem dX3_passMinute_51 : decode cX3_passMinute 51 = .ok (.aload_n 0, 1) := by decide +kernel
theorem dX3_passMinute_52 : decode cX3_passMinute 52 = .ok (.getfield 9, 3) := by decide +kernel
theorem dX3_passMinute_55 : decode cX3_passMinute 55 = .ok (.iload_n 2, 1) := by decide +kernel
theorem dX3_passMinute_56 : decode cX3_passMinute 56 = .ok (.iaload, 1) := by decide +kernel
theorem dX3_passMinute_57 : decode cX3_passMinute 57 = .ok (.ifCond .ne 10, 3) := by decide +kernel
theorem dX3_passMinute_60 : decode cX3_passMinute 60 = .ok (.iload_n 2, 1) := by decide +kernel
theorem dX3_passMinute_61 : decode cX3_passMinute 61 = .ok (.invokestatic 46, 3) := by decide +kernel
theorem dX3_passMinute_64 : decode cX3_passMinute 64 = .ok (.goto 4, 3) := by decide +kernel
theorem dX3_passMinute_67 : decode cX3_passMinute 67 = .ok (.iconst 0, 1) := by decide +kernel
theorem dX3_passMinute_68 : decode cX3_passMinute 68 = .ok (.ior, 1) := by decide +kernel
theorem dX3_passMinute_69 : decode cX3_passMinute 69 = .ok (.istore_n 1, 1) := by decide +kernel
theorem dX3_passMinute_70 : decode cX3_passMinute 70 = .ok (.aload_n 0, 1) := by decide +kernel
theorem dX3_passMinute_71 : decode cX3_passMinute 71 = .ok (.getfield 27, 3) := by decide +kernel
theorem dX3_passMinute_74 : decode cX3_passMinute 74 = .ok (.iload_n 2, 1) := by decide +kernel
theorem dX3_passMinute_75 : decode cX3_passMinute 75 = .ok (.aload_n 0, 1) := by decide +kernel
theorem dX3_passMinute_76 : decode cX3_passMinute 76 = .ok (.getfield 9, 3) := by decide +kernel
theorem dX3_passMinute_79 : decode cX3_passMinute 79 = .ok (.iload_n 2, 1) := by decide +kernel
theorem dX3_passMinute_80 : decode cX3_passMinute 80 = .ok (.iaload, 1) := by decide +kernel
theorem dX3_passMinute_81 : decode cX3_passMinute 81 = .ok (.ifCond .ne 7, 3) := by decide +kernel
theorem dX3_passMinute_84 : decode cX3_passMinute 84 = .ok (.iconst 0, 1) := by decide +kernel
theorem dX3_passMinute_85 : decode cX3_passMinute 85 = .ok (.goto 9, 3) := by decide +kernel
theorem dX3_passMinute_88 : decode cX3_passMinute 88 = .ok (.aload_n 0, 1) := by decide +kernel
theorem dX3_passMinute_89 : decode cX3_passMinute 89 = .ok (.getfield 27, 3) := by decide +kernel
theorem dX3_passMinute_92 : decode cX3_passMinute 92 = .ok (.iload_n 2, 1) := by decide +kernel
theorem dX3_passMinute_93 : decode cX3_passMinute 93 = .ok (.iaload, 1) := by decide +kernel
theorem dX3_passMinute_94 : decode cX3_passMinute 94 = .ok (.iastore, 1) := by decide +kernel
theorem dX3_passMinute_95 : decode cX3_passMinute 95 = .ok (.iinc 2 1, 3) := by decide +kernel
theorem dX3_passMinute_98 : decode cX3_passMinute 98 = .ok (.goto (-84), 3) := by decide +kernel
theorem dX3_passMinute_101 : decode cX3_passMinute 101 = .ok (.aload_n 0, 1) := by decide +kernel
theorem dX3_passMinute_102 : decode cX3_passMinute 102 = .ok (.dup, 1) := by decide +kernel
theorem dX3_passMinute_103 : decode cX3_passMinute 103 = .ok (.getfield 59, 3) := by decide +kernel
theorem dX3_passMinute_106 : decode cX3_passMinute 106 = .ok (.iload_n 1, 1) := by decide +kernel
theorem dX3_passMinute_107 : decode cX3_passMinute 107 = .ok (.iconst (-1), 1) := by decide +kernel
theorem dX3_passMinute_108 : decode cX3_passMinute 108 = .ok (.ixor, 1) := by decide +kernel
theorem dX3_passMinute_109 : decode cX3_passMinute 109 = .ok (.iand, 1) := by decide +kernel
theorem dX3_passMinute_110 : decode cX3_passMinute 110 = .ok (.putfield 59, 3) := by decide +kernel
theorem dX3_passMinute_113 : decode cX3_passMinute 113 = .ok (.iload_n 1, 1) := by decide +kernel
theorem dX3_passMinute_114 : decode cX3_passMinute 114 = .ok (.ireturn, 1) := by decide +kernel
set_option maxRecDepth 20000 in
theorem ggX3_part_X5_bit : GoodIn wsX3_part wsX5_bit := goodIn_r _ [4] (by decide +kernel) (by decide +kernel)
set_option maxRecDepth 20000 in
theorem gX3_part_X5_bit_n46 : GoodIn wsX3_part (wsX5_bit) := ggX3_part_X5_bit
theorem dX3_part_0 : decode cX3_part 0 = .ok (.iconst 0, 1) := by decide +kernel
theorem dX3_part_1 : decode cX3_part 1 = .ok (.istore_n 2, 1) := by decide +kernel
theorem dX3_part_2 : decode cX3_part 2 = .ok (.iload_n 2, 1) := by decide +kernel
theorem dX3_part_3 : decode cX3_part 3 = .ok (.bipush 12, 2) := by decide +kernel
theorem dX3_part_5 : decode cX3_part 5 = .ok (.if_icmp .ge 24, 3) := by decide +kernel
theorem dX3_part_8 : decode cX3_part 8 = .ok (.aload_n 0, 1) := by decide +kernel
theorem dX3_part_9 : decode cX3_part 9 = .ok (.getfield 30, 3) := by decide +kernel
theorem dX3_part_12 : decode cX3_part 12 = .ok (.iload_n 2, 1) := by decide +kernel
theorem dX3_part_13 : decode cX3_part 13 = .ok (.dup2, 1) := by decide +kernel
theorem dX3_part_14 : decode cX3_part 14 = .ok (.iaload, 1) := by decide +kernel
theorem dX3_part_15 : decode cX3_part 15 = .ok (.iload_n 1, 1) := by decide +kernel
theorem dX3_part_16 : decode cX3_part 16 = .ok (.invokestatic 46, 3) := by decide +kernel
theorem dX3_part_19 : decode cX3_part 19 = .ok (.iconst (-1), 1) := by decide +kernel
theorem dX3_part_20 : decode cX3_part 20 = .ok (.ixor, 1) := by decide +kernel
theorem dX3_part_21 : decode cX3_part 21 = .ok (.iand, 1) := by decide +kernel
theorem dX3_part_22 : decode cX3_part 22 = .ok (.iastore, 1) := by decide +kernel
theorem dX3_part_23 : decode cX3_part 23 = .ok (.iinc 2 1, 3) := by decide +kernel
theorem dX3_part_26 : decode cX3_part 26 = .ok (.goto (-24), 3) := by decide +kernel
theorem dX3_part_29 : decode cX3_part 29 = .ok (.aload_n 0, 1) := by decide +kernel
theorem dX3_part_30 : decode cX3_part 30 = .ok (.getfield 30, 3) := by decide +kernel
theorem dX3_part_33 : decode cX3_part 33 = .ok (.iload_n 1, 1) := by decide +kernel
theorem dX3_part_34 : decode cX3_part 34 = .ok (.iload_n 1, 1) := by decide +kernel
theorem dX3_part_35 : decode cX3_part 35 = .ok (.invokestatic 46, 3) := by decide +kernel
theorem dX3_part_38 : decode cX3_part 38 = .ok (.iastore, 1) := by decide +kernel
theorem dX3_part_39 : decode cX3_part 39 = .ok (.return_, 1) := by decide +kernel
theorem dX4_init_0 : decode cX4_init 0 = .ok (.aload_n 0, 1) := by decide +kernel
theorem dX4_init_1 : decode cX4_init 1 = .ok (.invokespecial 3, 3) := by decide +kernel
theorem dX4_init_4 : decode cX4_init 4 = .ok (.aload_n 0, 1) := by decide +kernel
theorem dX4_init_5 : decode cX4_init 5 = .ok (.bipush 12, 2) := by decide +kernel
theorem dX4_init_7 : decode cX4_init 7 = .ok (.newarray .int, 2) := by decide +kernel
theorem dX4_init_9 : decode cX4_init 9 = .ok (.putfield 9, 3) := by decide +kernel
theorem dX4_init_12 : decode cX4_init 12 = .ok (.aload_n 0, 1) := by decide +kernel
theorem dX4_init_13 : decode cX4_init 13 = .ok (.bipush 12, 2) := by decide +kernel
theorem dX4_init_15 : decode cX4_init 15 = .ok (.newarray .int, 2) := by decide +kernel
theorem dX4_init_17 : decode cX4_init 17 = .ok (.putfield 15, 3) := by decide +kernel
theorem dX4_init_20 : decode cX4_init 20 = .ok (.aload_n 0, 1) := by decide +kernel
theorem dX4_init_21 : decode cX4_init 21 = .ok (.bipush 12, 2) := by decide +kernel
theorem dX4_init_23 : decode cX4_init 23 = .ok (.newarray .int, 2) := by decide +kernel
theorem dX4_init_25 : decode cX4_init 25 = .ok (.putfield 18, 3) := by decide +kernel
theorem dX4_init_28 : decode cX4_init 28 = .ok (.return_, 1) := by decide +kernel
set_option maxRecDepth 20000 in
theorem ggX4_isNeeded_X3_canBeAsked : GoodIn wsX4_isNeeded wsX3_canBeAsked := goodIn_r _ [16, 17, 18, 19, 20, 15, 21, 22, 43, 44, 45, 46, 47, 48, 49, 50, 51, 52, 53, 54, 55, 56] (by decide +kernel) (by decide +kernel)
set_option maxRecDepth 20000 in
theorem gX4_isNeeded_X3_canBeAsked : GoodIn wsX4_isNeeded (wsV RX4 28 RX3 yX3_canBeAsked wsX3_canBeAsked) := goodIn_app (goodIn_of _ (by decide +kernel)) ggX4_isNeeded_X3_canBeAsked
set_option maxRecDepth 20000 in
theorem ggX4_isNeeded_X3_minutesLeft : GoodIn wsX4_isNeeded wsX3_minutesLeft := goodIn_r _ [26, 27, 28, 29, 30, 15, 31, 32, 33, 34, 35, 36, 37, 43, 44, 45, 46, 47, 48, 49, 50, 51, 52, 53, 54, 55, 56] (by decide +kernel) (by decide +kernel)
set_option maxRecDepth 20000 in
theorem gX4_isNeeded_X3_minutesLeft : GoodIn wsX4_isNeeded (wsV RX4 34 RX3 yX3_minutesLeft wsX3_minutesLeft) := goodIn_app (goodIn_of _ (by decide +kernel)) ggX4_isNeeded_X3_minutesLeft
theorem dX4_isNeeded_0 : decode cX4_isNeeded 0 = .ok (.aload_n 0, 1) := by decide +kernel
theorem dX4_isNeeded_1 : decode cX4_isNeeded 1 = .ok (.iload_n 2, 1) := by decide +kernel
theorem dX4_isNeeded_2 : decode cX4_isNeeded 2 = .ok (.putfield 21, 3) := by decide +kernel
theorem dX4_isNeeded_5 : decode cX4_isNeeded 5 = .ok (.aload_n 0, 1) := by decide +kernel
theorem dX4_isNeeded_6 : decode cX4_isNeeded 6 = .ok (.iload_n 2, 1) := by decide +kernel
theorem dX4_isNeeded_7 : decode cX4_isNeeded 7 = .ok (.putfield 25, 3) := by decide +kernel
theorem dX4_isNeeded_10 : decode cX4_isNeeded 10 = .ok (.iconst 0, 1) := by decide +kernel
theorem dX4_isNeeded_11 : decode cX4_isNeeded 11 = .ok (.istore_n 3, 1) := by decide +kernel
theorem dX4_isNeeded_12 : decode cX4_isNeeded 12 = .ok (.iload_n 3, 1) := by decide +kernel
theorem dX4_isNeeded_13 : decode cX4_isNeeded 13 = .ok (.bipush 12, 2) := by decide +kernel
theorem dX4_isNeeded_15 : decode cX4_isNeeded 15 = .ok (.if_icmp .ge 85, 3) := by decide +kernel
theorem dX4_isNeeded_18 : decode cX4_isNeeded 18 = .ok (.aload_n 1, 1) := by decide +kernel
theorem dX4_isNeeded_19 : decode cX4_isNeeded 19 = .ok (.iload_n 3, 1) := by decide +kernel
theorem dX4_isNeeded_20 : decode cX4_isNeeded 20 = .ok (.invokevirtual 28, 3) := by decide +kernel
theorem dX4_isNeeded_23 : decode cX4_isNeeded 23 = .ok (.istore 4, 2) := by decide +kernel
theorem dX4_isNeeded_25 : decode cX4_isNeeded 25 = .ok (.aload_n 0, 1) := by decide +kernel
theorem dX4_isNeeded_26 : decode cX4_isNeeded 26 = .ok (.getfield 9, 3) := by decide +kernel
theorem dX4_isNeeded_29 : decode cX4_isNeeded 29 = .ok (.iload_n 3, 1) := by decide +kernel
theorem dX4_isNeeded_30 : decode cX4_isNeeded 30 = .ok (.iload 4, 2) := by decide +kernel
theorem dX4_isNeeded_32 : decode cX4_isNeeded 32 = .ok (.ifCond .eq 11, 3) := by decide +kernel
theorem dX4_isNeeded_35 : decode cX4_isNeeded 35 = .ok (.aload_n 1, 1) := by decide +kernel
theorem dX4_isNeeded_36 : decode cX4_isNeeded 36 = .ok (.iload_n 3, 1) := by decide +kernel
theorem dX4_isNeeded_37 : decode cX4_isNeeded 37 = .ok (.invokevirtual 34, 3) := by decide +kernel
theorem dX4_isNeeded_40 : decode cX4_isNeeded 40 = .ok (.goto 5, 3) := by decide +kernel
theorem dX4_isNeeded_43 : decode cX4_isNeeded 43 = .ok (.ldc 38, 2) := by decide +kernel
theorem dX4_isNeeded_45 : decode cX4_isNeeded 45 = .ok (.iastore, 1) := by decide +kernel
theorem dX4_isNeeded_46 : decode cX4_isNeeded 46 = .ok (.aload_n 0, 1) := by decide +kernel
theorem dX4_isNeeded_47 : decode cX4_isNeeded 47 = .ok (.iload 4, 2) := by decide +kernel
theorem dX4_isNeeded_49 : decode cX4_isNeeded 49 = .ok (.ifCond .eq 14, 3) := by decide +kernel
theorem dX4_isNeeded_52 : decode cX4_isNeeded 52 = .ok (.aload_n 0, 1) := by decide +kernel
theorem dX4_isNeeded_53 : decode cX4_isNeeded 53 = .ok (.getfield 21, 3) := by decide +kernel
theorem dX4_isNeeded_56 : decode cX4_isNeeded 56 = .ok (.iload_n 3, 1) := by decide +kernel
theorem dX4_isNeeded_57 : decode cX4_isNeeded 57 = .ok (.invokestatic 39, 3) := by decide +kernel
theorem dX4_isNeeded_60 : decode cX4_isNeeded 60 = .ok (.goto 7, 3) := by decide +kernel
theorem dX4_isNeeded_63 : decode cX4_isNeeded 63 = .ok (.aload_n 0, 1) := by decide +kernel
theorem dX4_isNeeded_64 : decode cX4_isNeeded 64 = .ok (.getfield 21, 3) := by decide +kernel
theorem dX4_isNeeded_67 : decode cX4_isNeeded 67 = .ok (.putfield 21, 3) := by decide +kernel
theorem dX4_isNeeded_70 : decode cX4_isNeeded 70 = .ok (.aload_n 0, 1) := by decide +kernel
theorem dX4_isNeeded_71 : decode cX4_isNeeded 71 = .ok (.iload 4, 2) := by decide +kernel
theorem dX4_isNeeded_73 : decode cX4_isNeeded 73 = .ok (.ifCond .eq 14, 3) := by decide +kernel
theorem dX4_isNeeded_76 : decode cX4_isNeeded 76 = .ok (.aload_n 0, 1) := by decide +kernel
theorem dX4_isNeeded_77 : decode cX4_isNeeded 77 = .ok (.getfield 25, 3) := by decide +kernel
theorem dX4_isNeeded_80 : decode cX4_isNeeded 80 = .ok (.iload_n 3, 1) := by decide +kernel
theorem dX4_isNeeded_81 : decode cX4_isNeeded 81 = .ok (.invokestatic 45, 3) := by decide +kernel
theorem dX4_isNeeded_84 : decode cX4_isNeeded 84 = .ok (.goto 7, 3) := by decide +kernel
theorem dX4_isNeeded_87 : decode cX4_isNeeded 87 = .ok (.aload_n 0, 1) := by decide +kernel
theorem dX4_isNeeded_88 : decode cX4_isNeeded 88 = .ok (.getfield 25, 3) := by decide +kernel
theorem dX4_isNeeded_91 : decode cX4_isNeeded 91 = .ok (.putfield 25, 3) := by decide +kernel
theorem dX4_isNeeded_94 : decode cX4_isNeeded 94 = .ok (.iinc 3 1, 3) := by decide +kernel
theorem dX4_isNeeded_97 : decode cX4_isNeeded 97 = .ok (.goto (-85), 3) := by decide +kernel
theorem dX4_isNeeded_100 : decode cX4_isNeeded 100 = .ok (.aload_n 0, 1) := by decide +kernel
theorem dX4_isNeeded_101 : decode cX4_isNeeded 101 = .ok (.getfield 21, 3) := by decide +kernel
theorem dX4_isNeeded_104 : decode cX4_isNeeded 104 = .ok (.iload_n 2, 1) := by decide +kernel
theorem dX4_isNeeded_105 : decode cX4_isNeeded 105 = .ok (.if_icmp .lt 11, 3) := by decide +kernel
theorem dX4_isNeeded_108 : decode cX4_isNeeded 108 = .ok (.aload_n 0, 1) := by decide +kernel
theorem dX4_isNeeded_109 : decode cX4_isNeeded 109 = .ok (.getfield 25, 3) := by decide +kernel
theorem dX4_isNeeded_112 : decode cX4_isNeeded 112 = .ok (.iload_n 2, 1) := by decide +kernel
theorem dX4_isNeeded_113 : decode cX4_isNeeded 113 = .ok (.if_icmp .le 7, 3) := by decide +kernel
theorem dX4_isNeeded_116 : decode cX4_isNeeded 116 = .ok (.iconst 1, 1) := by decide +kernel
theorem dX4_isNeeded_117 : decode cX4_isNeeded 117 = .ok (.goto 4, 3) := by decide +kernel
theorem dX4_isNeeded_120 : decode cX4_isNeeded 120 = .ok (.iconst 0, 1) := by decide +kernel
theorem dX4_isNeeded_121 : decode cX4_isNeeded 121 = .ok (.ireturn, 1) := by decide +kernel
set_option maxRecDepth 20000 in
theorem ggX4_fewestMinutes_X5_isCandle : GoodIn wsX4_fewestMinutes wsX5_isCandle := goodIn_r _ [10, 11, 12, 9, 13] (by decide +kernel) (by decide +kernel)
set_option maxRecDepth 20000 in
theorem gX4_fewestMinutes_X5_isCandle_n48 : GoodIn wsX4_fewestMinutes (wsX5_isCandle) := ggX4_fewestMinutes_X5_isCandle
set_option maxRecDepth 20000 in
theorem ggX4_fewestMinutes_X4_inTime : GoodIn wsX4_fewestMinutes wsX4_inTime := goodIn_r _ [18, 19, 1, 30, 31, 32, 33, 34] (by decide +kernel) (by decide +kernel)
set_option maxRecDepth 20000 in
theorem gX4_fewestMinutes_X4_inTime : GoodIn wsX4_fewestMinutes (wsV RX4 51 RX4 yX4_inTime wsX4_inTime) := goodIn_app (goodIn_of _ (by decide +kernel)) ggX4_fewestMinutes_X4_inTime
set_option maxRecDepth 20000 in
theorem ggX4_fewestMinutes_X4_fewestOfLength : GoodIn wsX4_fewestMinutes wsX4_fewestOfLength := goodIn_r _ [23, 1, 24, 25, 2, 3, 4, 5, 6, 7, 30, 31, 32, 33, 34] (by decide +kernel) (by decide +kernel)
set_option maxRecDepth 20000 in
theorem gX4_fewestMinutes_X4_fewestOfLength : GoodIn wsX4_fewestMinutes (wsV RX4 54 RX4 yX4_fewestOfLength wsX4_fewestOfLength) := goodIn_app (goodIn_of _ (by decide +kernel)) ggX4_fewestMinutes_X4_fewestOfLength
set_option maxRecDepth 20000 in
theorem ggX4_fewestMinutes_X4_lengthenTo : GoodIn wsX4_fewestMinutes wsX4_lengthenTo := goodIn_r _ [29, 2, 3, 4, 5, 6, 7, 14, 15, 16, 17, 18, 19, 1, 30, 31, 32, 33, 34] (by decide +kernel) (by decide +kernel)
set_option maxRecDepth 20000 in
theorem gX4_fewestMinutes_X4_lengthenTo : GoodIn wsX4_fewestMinutes (wsV RX4 57 RX4 yX4_lengthenTo wsX4_lengthenTo) := goodIn_app (goodIn_of _ (by decide +kernel)) ggX4_fewestMinutes_X4_lengthenTo
theorem dX4_fewestMinutes_0 : decode cX4_fewestMinutes 0 = .ok (.iload_n 1, 1) := by decide +kernel
theorem dX4_fewestMinutes_1 : decode cX4_fewestMinutes 1 = .ok (.iload_n 2, 1) := by decide +kernel
theorem dX4_fewestMinutes_2 : decode cX4_fewestMinutes 2 = .ok (.iadd, 1) := by decide +kernel
theorem dX4_fewestMinutes_3 : decode cX4_fewestMinutes 3 = .ok (.istore_n 3, 1) := by decide +kernel
theorem dX4_fewestMinutes_4 : decode cX4_fewestMinutes 4 = .ok (.iload_n 3, 1) := by decide +kernel
theorem dX4_fewestMinutes_5 : decode cX4_fewestMinutes 5 = .ok (.invokestatic 48, 3) := by decide +kernel
theorem dX4_fewestMinutes_8 : decode cX4_fewestMinutes 8 = .ok (.ifCond .ne 6, 3) := by decide +kernel
theorem dX4_fewestMinutes_11 : decode cX4_fewestMinutes 11 = .ok (.ldc 38, 2) := by decide +kernel
theorem dX4_fewestMinutes_13 : decode cX4_fewestMinutes 13 = .ok (.ireturn, 1) := by decide +kernel
theorem dX4_fewestMinutes_14 : decode cX4_fewestMinutes 14 = .ok (.iconst 0, 1) := by decide +kernel
theorem dX4_fewestMinutes_15 : decode cX4_fewestMinutes 15 = .ok (.istore 4, 2) := by decide +kernel
theorem dX4_fewestMinutes_17 : decode cX4_fewestMinutes 17 = .ok (.iload 4, 2) := by decide +kernel
theorem dX4_fewestMinutes_19 : decode cX4_fewestMinutes 19 = .ok (.bipush 12, 2) := by decide +kernel
theorem dX4_fewestMinutes_21 : decode cX4_fewestMinutes 21 = .ok (.if_icmp .ge 27, 3) := by decide +kernel
theorem dX4_fewestMinutes_24 : decode cX4_fewestMinutes 24 = .ok (.aload_n 0, 1) := by decide +kernel
theorem dX4_fewestMinutes_25 : decode cX4_fewestMinutes 25 = .ok (.getfield 15, 3) := by decide +kernel
theorem dX4_fewestMinutes_28 : decode cX4_fewestMinutes 28 = .ok (.iload 4, 2) := by decide +kernel
theorem dX4_fewestMinutes_30 : decode cX4_fewestMinutes 30 = .ok (.ldc 38, 2) := by decide +kernel
theorem dX4_fewestMinutes_32 : decode cX4_fewestMinutes 32 = .ok (.iastore, 1) := by decide +kernel
theorem dX4_fewestMinutes_33 : decode cX4_fewestMinutes 33 = .ok (.aload_n 0, 1) := by decide +kernel
theorem dX4_fewestMinutes_34 : decode cX4_fewestMinutes 34 = .ok (.getfield 18, 3) := by decide +kernel
theorem dX4_fewestMinutes_37 : decode cX4_fewestMinutes 37 = .ok (.iload 4, 2) := by decide +kernel
theorem dX4_fewestMinutes_39 : decode cX4_fewestMinutes 39 = .ok (.ldc 38, 2) := by decide +kernel
theorem dX4_fewestMinutes_41 : decode cX4_fewestMinutes 41 = .ok (.iastore, 1) := by decide +kernel
theorem dX4_fewestMinutes_42 : decode cX4_fewestMinutes 42 = .ok (.iinc 4 1, 3) := by decide +kernel
theorem dX4_fewestMinutes_45 : decode cX4_fewestMinutes 45 = .ok (.goto (-28), 3) := by decide +kernel
theorem dX4_fewestMinutes_48 : decode cX4_fewestMinutes 48 = .ok (.iload_n 2, 1) := by decide +kernel
theorem dX4_fewestMinutes_49 : decode cX4_fewestMinutes 49 = .ok (.ifCond .ge 18, 3) := by decide +kernel
theorem dX4_fewestMinutes_52 : decode cX4_fewestMinutes 52 = .ok (.aload_n 0, 1) := by decide +kernel
theorem dX4_fewestMinutes_53 : decode cX4_fewestMinutes 53 = .ok (.getfield 15, 3) := by decide +kernel
theorem dX4_fewestMinutes_56 : decode cX4_fewestMinutes 56 = .ok (.iload_n 3, 1) := by decide +kernel
theorem dX4_fewestMinutes_57 : decode cX4_fewestMinutes 57 = .ok (.aload_n 0, 1) := by decide +kernel
theorem dX4_fewestMinutes_58 : decode cX4_fewestMinutes 58 = .ok (.iload_n 3, 1) := by decide +kernel
theorem dX4_fewestMinutes_59 : decode cX4_fewestMinutes 59 = .ok (.iconst 1, 1) := by decide +kernel
theorem dX4_fewestMinutes_60 : decode cX4_fewestMinutes 60 = .ok (.invokevirtual 51, 3) := by decide +kernel
theorem dX4_fewestMinutes_63 : decode cX4_fewestMinutes 63 = .ok (.iastore, 1) := by decide +kernel
theorem dX4_fewestMinutes_64 : decode cX4_fewestMinutes 64 = .ok (.goto 15, 3) := by decide +kernel
theorem dX4_fewestMinutes_67 : decode cX4_fewestMinutes 67 = .ok (.aload_n 0, 1) := by decide +kernel
theorem dX4_fewestMinutes_68 : decode cX4_fewestMinutes 68 = .ok (.getfield 18, 3) := by decide +kernel
theorem dX4_fewestMinutes_71 : decode cX4_fewestMinutes 71 = .ok (.iload_n 1, 1) := by decide +kernel
theorem dX4_fewestMinutes_72 : decode cX4_fewestMinutes 72 = .ok (.aload_n 0, 1) := by decide +kernel
theorem dX4_fewestMinutes_73 : decode cX4_fewestMinutes 73 = .ok (.iload_n 3, 1) := by decide +kernel
theorem dX4_fewestMinutes_74 : decode cX4_fewestMinutes 74 = .ok (.iconst 1, 1) := by decide +kernel
theorem dX4_fewestMinutes_75 : decode cX4_fewestMinutes 75 = .ok (.invokevirtual 51, 3) := by decide +kernel
theorem dX4_fewestMinutes_78 : decode cX4_fewestMinutes 78 = .ok (.iastore, 1) := by decide +kernel
theorem dX4_fewestMinutes_79 : decode cX4_fewestMinutes 79 = .ok (.aload_n 0, 1) := by decide +kernel
theorem dX4_fewestMinutes_80 : decode cX4_fewestMinutes 80 = .ok (.iconst 2, 1) := by decide +kernel
theorem dX4_fewestMinutes_81 : decode cX4_fewestMinutes 81 = .ok (.invokevirtual 54, 3) := by decide +kernel
theorem dX4_fewestMinutes_84 : decode cX4_fewestMinutes 84 = .ok (.istore 4, 2) := by decide +kernel
theorem dX4_fewestMinutes_86 : decode cX4_fewestMinutes 86 = .ok (.iconst 3, 1) := by decide +kernel
theorem dX4_fewestMinutes_87 : decode cX4_fewestMinutes 87 = .ok (.istore 5, 2) := by decide +kernel
theorem dX4_fewestMinutes_89 : decode cX4_fewestMinutes 89 = .ok (.iload 5, 2) := by decide +kernel
theorem dX4_fewestMinutes_91 : decode cX4_fewestMinutes 91 = .ok (.bipush 12, 2) := by decide +kernel
theorem dX4_fewestMinutes_93 : decode cX4_fewestMinutes 93 = .ok (.if_icmp .gt 28, 3) := by decide +kernel
theorem dX4_fewestMinutes_96 : decode cX4_fewestMinutes 96 = .ok (.aload_n 0, 1) := by decide +kernel
theorem dX4_fewestMinutes_97 : decode cX4_fewestMinutes 97 = .ok (.iload 5, 2) := by decide +kernel
theorem dX4_fewestMinutes_99 : decode cX4_fewestMinutes 99 = .ok (.invokevirtual 57, 3) := by decide +kernel
theorem dX4_fewestMinutes_102 : decode cX4_fewestMinutes 102 = .ok (.iload 4, 2) := by decide +kernel
theorem dX4_fewestMinutes_104 : decode cX4_fewestMinutes 104 = .ok (.aload_n 0, 1) := by decide +kernel
theorem dX4_fewestMinutes_105 : decode cX4_fewestMinutes 105 = .ok (.iload 5, 2) := by decide +kernel
theorem dX4_fewestMinutes_107 : decode cX4_fewestMinutes 107 = .ok (.invokevirtual 54, 3) := by decide +kernel
theorem dX4_fewestMinutes_110 : decode cX4_fewestMinutes 110 = .ok (.invokestatic 39, 3) := by decide +kernel
theorem dX4_fewestMinutes_113 : decode cX4_fewestMinutes 113 = .ok (.istore 4, 2) := by decide +kernel
theorem dX4_fewestMinutes_115 : decode cX4_fewestMinutes 115 = .ok (.iinc 5 1, 3) := by decide +kernel
theorem dX4_fewestMinutes_118 : decode cX4_fewestMinutes 118 = .ok (.goto (-29), 3) := by decide +kernel
theorem dX4_fewestMinutes_121 : decode cX4_fewestMinutes 121 = .ok (.iload 4, 2) := by decide +kernel
theorem dX4_fewestMinutes_123 : decode cX4_fewestMinutes 123 = .ok (.ireturn, 1) := by decide +kernel
theorem dX4_inTime_0 : decode cX4_inTime 0 = .ok (.iload_n 2, 1) := by decide +kernel
theorem dX4_inTime_1 : decode cX4_inTime 1 = .ok (.aload_n 0, 1) := by decide +kernel
theorem dX4_inTime_2 : decode cX4_inTime 2 = .ok (.getfield 9, 3) := by decide +kernel
theorem dX4_inTime_5 : decode cX4_inTime 5 = .ok (.iload_n 1, 1) := by decide +kernel
theorem dX4_inTime_6 : decode cX4_inTime 6 = .ok (.iaload, 1) := by decide +kernel
theorem dX4_inTime_7 : decode cX4_inTime 7 = .ok (.if_icmp .ge 7, 3) := by decide +kernel
theorem dX4_inTime_10 : decode cX4_inTime 10 = .ok (.iload_n 2, 1) := by decide +kernel
theorem dX4_inTime_11 : decode cX4_inTime 11 = .ok (.goto 5, 3) := by decide +kernel
theorem dX4_inTime_14 : decode cX4_inTime 14 = .ok (.ldc 38, 2) := by decide +kernel
theorem dX4_inTime_16 : decode cX4_inTime 16 = .ok (.ireturn, 1) := by decide +kernel
set_option maxRecDepth 20000 in
theorem ggX4_lengthenTo_X4_inTime : GoodIn wsX4_lengthenTo wsX4_inTime := goodIn_r _ [11, 12, 13, 14, 15, 16, 17, 18] (by decide +kernel) (by decide +kernel)
set_option maxRecDepth 20000 in
theorem gX4_lengthenTo_X4_inTime : GoodIn wsX4_lengthenTo (wsV RX4 51 RX4 yX4_inTime wsX4_inTime) := goodIn_app (goodIn_of _ (by decide +kernel)) ggX4_lengthenTo_X4_inTime
theorem dX4_lengthenTo_0 : decode cX4_lengthenTo 0 = .ok (.iload_n 1, 1) := by decide +kernel
theorem dX4_lengthenTo_1 : decode cX4_lengthenTo 1 = .ok (.iconst 1, 1) := by decide +kernel
theorem dX4_lengthenTo_2 : decode cX4_lengthenTo 2 = .ok (.isub, 1) := by decide +kernel
theorem dX4_lengthenTo_3 : decode cX4_lengthenTo 3 = .ok (.istore_n 2, 1) := by decide +kernel
theorem dX4_lengthenTo_4 : decode cX4_lengthenTo 4 = .ok (.iconst 0, 1) := by decide +kernel
theorem dX4_lengthenTo_5 : decode cX4_lengthenTo 5 = .ok (.istore_n 3, 1) := by decide +kernel
theorem dX4_lengthenTo_6 : decode cX4_lengthenTo 6 = .ok (.iload_n 3, 1) := by decide +kernel
theorem dX4_lengthenTo_7 : decode cX4_lengthenTo 7 = .ok (.iload_n 2, 1) := by decide +kernel
theorem dX4_lengthenTo_8 : decode cX4_lengthenTo 8 = .ok (.iadd, 1) := by decide +kernel
theorem dX4_lengthenTo_9 : decode cX4_lengthenTo 9 = .ok (.bipush 12, 2) := by decide +kernel
theorem dX4_lengthenTo_11 : decode cX4_lengthenTo 11 = .ok (.if_icmp .ge 83, 3) := by decide +kernel
theorem dX4_lengthenTo_14 : decode cX4_lengthenTo 14 = .ok (.aload_n 0, 1) := by decide +kernel
theorem dX4_lengthenTo_15 : decode cX4_lengthenTo 15 = .ok (.getfield 15, 3) := by decide +kernel
theorem dX4_lengthenTo_18 : decode cX4_lengthenTo 18 = .ok (.iload_n 3, 1) := by decide +kernel
theorem dX4_lengthenTo_19 : decode cX4_lengthenTo 19 = .ok (.iconst 1, 1) := by decide +kernel
theorem dX4_lengthenTo_20 : decode cX4_lengthenTo 20 = .ok (.iadd, 1) := by decide +kernel
theorem dX4_lengthenTo_21 : decode cX4_lengthenTo 21 = .ok (.iaload, 1) := by decide +kernel
theorem dX4_lengthenTo_22 : decode cX4_lengthenTo 22 = .ok (.iconst 1, 1) := by decide +kernel
theorem dX4_lengthenTo_23 : decode cX4_lengthenTo 23 = .ok (.iadd, 1) := by decide +kernel
theorem dX4_lengthenTo_24 : decode cX4_lengthenTo 24 = .ok (.aload_n 0, 1) := by decide +kernel
theorem dX4_lengthenTo_25 : decode cX4_lengthenTo 25 = .ok (.getfield 18, 3) := by decide +kernel
theorem dX4_lengthenTo_28 : decode cX4_lengthenTo 28 = .ok (.iload_n 3, 1) := by decide +kernel
theorem dX4_lengthenTo_29 : decode cX4_lengthenTo 29 = .ok (.iconst 1, 1) := by decide +kernel
theorem dX4_lengthenTo_30 : decode cX4_lengthenTo 30 = .ok (.iadd, 1) := by decide +kernel
theorem dX4_lengthenTo_31 : decode cX4_lengthenTo 31 = .ok (.iaload, 1) := by decide +kernel
theorem dX4_lengthenTo_32 : decode cX4_lengthenTo 32 = .ok (.iload_n 2, 1) := by decide +kernel
theorem dX4_lengthenTo_33 : decode cX4_lengthenTo 33 = .ok (.iadd, 1) := by decide +kernel
theorem dX4_lengthenTo_34 : decode cX4_lengthenTo 34 = .ok (.invokestatic 39, 3) := by decide +kernel
theorem dX4_lengthenTo_37 : decode cX4_lengthenTo 37 = .ok (.istore 4, 2) := by decide +kernel
theorem dX4_lengthenTo_39 : decode cX4_lengthenTo 39 = .ok (.aload_n 0, 1) := by decide +kernel
theorem dX4_lengthenTo_40 : decode cX4_lengthenTo 40 = .ok (.getfield 18, 3) := by decide +kernel
theorem dX4_lengthenTo_43 : decode cX4_lengthenTo 43 = .ok (.iload_n 3, 1) := by decide +kernel
theorem dX4_lengthenTo_44 : decode cX4_lengthenTo 44 = .ok (.iaload, 1) := by decide +kernel
theorem dX4_lengthenTo_45 : decode cX4_lengthenTo 45 = .ok (.iconst 1, 1) := by decide +kernel
theorem dX4_lengthenTo_46 : decode cX4_lengthenTo 46 = .ok (.iadd, 1) := by decide +kernel
theorem dX4_lengthenTo_47 : decode cX4_lengthenTo 47 = .ok (.aload_n 0, 1) := by decide +kernel
theorem dX4_lengthenTo_48 : decode cX4_lengthenTo 48 = .ok (.getfield 15, 3) := by decide +kernel
theorem dX4_lengthenTo_51 : decode cX4_lengthenTo 51 = .ok (.iload_n 3, 1) := by decide +kernel
theorem dX4_lengthenTo_52 : decode cX4_lengthenTo 52 = .ok (.iaload, 1) := by decide +kernel
theorem dX4_lengthenTo_53 : decode cX4_lengthenTo 53 = .ok (.iload_n 2, 1) := by decide +kernel
theorem dX4_lengthenTo_54 : decode cX4_lengthenTo 54 = .ok (.iadd, 1) := by decide +kernel
theorem dX4_lengthenTo_55 : decode cX4_lengthenTo 55 = .ok (.invokestatic 39, 3) := by decide +kernel
theorem dX4_lengthenTo_58 : decode cX4_lengthenTo 58 = .ok (.istore 5, 2) := by decide +kernel
theorem dX4_lengthenTo_60 : decode cX4_lengthenTo 60 = .ok (.aload_n 0, 1) := by decide +kernel
theorem dX4_lengthenTo_61 : decode cX4_lengthenTo 61 = .ok (.getfield 15, 3) := by decide +kernel
theorem dX4_lengthenTo_64 : decode cX4_lengthenTo 64 = .ok (.iload_n 3, 1) := by decide +kernel
theorem dX4_lengthenTo_65 : decode cX4_lengthenTo 65 = .ok (.aload_n 0, 1) := by decide +kernel
theorem dX4_lengthenTo_66 : decode cX4_lengthenTo 66 = .ok (.iload_n 3, 1) := by decide +kernel
theorem dX4_lengthenTo_67 : decode cX4_lengthenTo 67 = .ok (.iload 4, 2) := by decide +kernel
theorem dX4_lengthenTo_69 : decode cX4_lengthenTo 69 = .ok (.invokevirtual 51, 3) := by decide +kernel
theorem dX4_lengthenTo_72 : decode cX4_lengthenTo 72 = .ok (.iastore, 1) := by decide +kernel
theorem dX4_lengthenTo_73 : decode cX4_lengthenTo 73 = .ok (.aload_n 0, 1) := by decide +kernel
theorem dX4_lengthenTo_74 : decode cX4_lengthenTo 74 = .ok (.getfield 18, 3) := by decide +kernel
theorem dX4_lengthenTo_77 : decode cX4_lengthenTo 77 = .ok (.iload_n 3, 1) := by decide +kernel
theorem dX4_lengthenTo_78 : decode cX4_lengthenTo 78 = .ok (.aload_n 0, 1) := by decide +kernel
theorem dX4_lengthenTo_79 : decode cX4_lengthenTo 79 = .ok (.iload_n 3, 1) := by decide +kernel
theorem dX4_lengthenTo_80 : decode cX4_lengthenTo 80 = .ok (.iload_n 2, 1) := by decide +kernel
theorem dX4_lengthenTo_81 : decode cX4_lengthenTo 81 = .ok (.iadd, 1) := by decide +kernel
theorem dX4_lengthenTo_82 : decode cX4_lengthenTo 82 = .ok (.iload 5, 2) := by decide +kernel
theorem dX4_lengthenTo_84 : decode cX4_lengthenTo 84 = .ok (.invokevirtual 51, 3) := by decide +kernel
theorem dX4_lengthenTo_87 : decode cX4_lengthenTo 87 = .ok (.iastore, 1) := by decide +kernel
theorem dX4_lengthenTo_88 : decode cX4_lengthenTo 88 = .ok (.iinc 3 1, 3) := by decide +kernel
theorem dX4_lengthenTo_91 : decode cX4_lengthenTo 91 = .ok (.goto (-85), 3) := by decide +kernel
theorem dX4_lengthenTo_94 : decode cX4_lengthenTo 94 = .ok (.return_, 1) := by decide +kernel
theorem dX4_fewestOfLength_0 : decode cX4_fewestOfLength 0 = .ok (.ldc 38, 2) := by decide +kernel
theorem dX4_fewestOfLength_2 : decode cX4_fewestOfLength 2 = .ok (.istore_n 2, 1) := by decide +kernel
theorem dX4_fewestOfLength_3 : decode cX4_fewestOfLength 3 = .ok (.iconst 0, 1) := by decide +kernel
theorem dX4_fewestOfLength_4 : decode cX4_fewestOfLength 4 = .ok (.istore_n 3, 1) := by decide +kernel
theorem dX4_fewestOfLength_5 : decode cX4_fewestOfLength 5 = .ok (.iload_n 3, 1) := by decide +kernel
theorem dX4_fewestOfLength_6 : decode cX4_fewestOfLength 6 = .ok (.iload_n 1, 1) := by decide +kernel
theorem dX4_fewestOfLength_7 : decode cX4_fewestOfLength 7 = .ok (.iadd, 1) := by decide +kernel
theorem dX4_fewestOfLength_8 : decode cX4_fewestOfLength 8 = .ok (.bipush 12, 2) := by decide +kernel
theorem dX4_fewestOfLength_10 : decode cX4_fewestOfLength 10 = .ok (.if_icmp .gt 65, 3) := by decide +kernel
theorem dX4_fewestOfLength_13 : decode cX4_fewestOfLength 13 = .ok (.iload_n 3, 1) := by decide +kernel
theorem dX4_fewestOfLength_14 : decode cX4_fewestOfLength 14 = .ok (.aload_n 0, 1) := by decide +kernel
theorem dX4_fewestOfLength_15 : decode cX4_fewestOfLength 15 = .ok (.getfield 21, 3) := by decide +kernel
theorem dX4_fewestOfLength_18 : decode cX4_fewestOfLength 18 = .ok (.if_icmp .gt 19, 3) := by decide +kernel
theorem dX4_fewestOfLength_21 : decode cX4_fewestOfLength 21 = .ok (.iload_n 3, 1) := by decide +kernel
theorem dX4_fewestOfLength_22 : decode cX4_fewestOfLength 22 = .ok (.iload_n 1, 1) := by decide +kernel
theorem dX4_fewestOfLength_23 : decode cX4_fewestOfLength 23 = .ok (.iadd, 1) := by decide +kernel
theorem dX4_fewestOfLength_24 : decode cX4_fewestOfLength 24 = .ok (.iconst 1, 1) := by decide +kernel
theorem dX4_fewestOfLength_25 : decode cX4_fewestOfLength 25 = .ok (.isub, 1) := by decide +kernel
theorem dX4_fewestOfLength_26 : decode cX4_fewestOfLength 26 = .ok (.aload_n 0, 1) := by decide +kernel
theorem dX4_fewestOfLength_27 : decode cX4_fewestOfLength 27 = .ok (.getfield 25, 3) := by decide +kernel
theorem dX4_fewestOfLength_30 : decode cX4_fewestOfLength 30 = .ok (.if_icmp .lt 7, 3) := by decide +kernel
theorem dX4_fewestOfLength_33 : decode cX4_fewestOfLength 33 = .ok (.iconst 1, 1) := by decide +kernel
theorem dX4_fewestOfLength_34 : decode cX4_fewestOfLength 34 = .ok (.goto 4, 3) := by decide +kernel
theorem dX4_fewestOfLength_37 : decode cX4_fewestOfLength 37 = .ok (.iconst 0, 1) := by decide +kernel
theorem dX4_fewestOfLength_38 : decode cX4_fewestOfLength 38 = .ok (.istore 4, 2) := by decide +kernel
theorem dX4_fewestOfLength_40 : decode cX4_fewestOfLength 40 = .ok (.iload 4, 2) := by decide +kernel
theorem dX4_fewestOfLength_42 : decode cX4_fewestOfLength 42 = .ok (.ifCond .eq 25, 3) := by decide +kernel
theorem dX4_fewestOfLength_45 : decode cX4_fewestOfLength 45 = .ok (.iload_n 2, 1) := by decide +kernel
theorem dX4_fewestOfLength_46 : decode cX4_fewestOfLength 46 = .ok (.aload_n 0, 1) := by decide +kernel
theorem dX4_fewestOfLength_47 : decode cX4_fewestOfLength 47 = .ok (.getfield 15, 3) := by decide +kernel
theorem dX4_fewestOfLength_50 : decode cX4_fewestOfLength 50 = .ok (.iload_n 3, 1) := by decide +kernel
theorem dX4_fewestOfLength_51 : decode cX4_fewestOfLength 51 = .ok (.iaload, 1) := by decide +kernel
theorem dX4_fewestOfLength_52 : decode cX4_fewestOfLength 52 = .ok (.aload_n 0, 1) := by decide +kernel
theorem dX4_fewestOfLength_53 : decode cX4_fewestOfLength 53 = .ok (.getfield 18, 3) := by decide +kernel
theorem dX4_fewestOfLength_56 : decode cX4_fewestOfLength 56 = .ok (.iload_n 3, 1) := by decide +kernel
theorem dX4_fewestOfLength_57 : decode cX4_fewestOfLength 57 = .ok (.iaload, 1) := by decide +kernel
theorem dX4_fewestOfLength_58 : decode cX4_fewestOfLength 58 = .ok (.invokestatic 39, 3) := by decide +kernel
theorem dX4_fewestOfLength_61 : decode cX4_fewestOfLength 61 = .ok (.invokestatic 39, 3) := by decide +kernel
theorem dX4_fewestOfLength_64 : decode cX4_fewestOfLength 64 = .ok (.goto 4, 3) := by decide +kernel
theorem dX4_fewestOfLength_67 : decode cX4_fewestOfLength 67 = .ok (.iload_n 2, 1) := by decide +kernel
theorem dX4_fewestOfLength_68 : decode cX4_fewestOfLength 68 = .ok (.istore_n 2, 1) := by decide +kernel
theorem dX4_fewestOfLength_69 : decode cX4_fewestOfLength 69 = .ok (.iinc 3 1, 3) := by decide +kernel
theorem dX4_fewestOfLength_72 : decode cX4_fewestOfLength 72 = .ok (.goto (-67), 3) := by decide +kernel
theorem dX4_fewestOfLength_75 : decode cX4_fewestOfLength 75 = .ok (.iload_n 2, 1) := by decide +kernel
theorem dX4_fewestOfLength_76 : decode cX4_fewestOfLength 76 = .ok (.ireturn, 1) := by decide +kernel
set_option maxRecDepth 20000 in
theorem ggX5_init_X3_init : GoodIn wsX5_init wsX3_init := goodIn_r _ [30, 31, 2, 3, 32, 33, 34, 35, 36, 37, 38, 39, 40, 41, 42, 43, 44, 45, 46, 69, 70, 71, 72, 73, 74, 75, 76, 77, 78, 79, 80, 81, 82] (by decide +kernel) (by decide +kernel)
set_option maxRecDepth 20000 in
theorem gX5_init_X3_init : GoodIn wsX5_init (wsX3_init) := ggX5_init_X3_init
set_option maxRecDepth 20000 in
theorem ggX5_init_X0_init : GoodIn wsX5_init wsX0_init := goodIn_r _ [48, 49, 2, 3, 32, 50, 91, 92, 93, 94, 95, 96] (by decide +kernel) (by decide +kernel)
set_option maxRecDepth 20000 in
theorem gX5_init_X0_init_n28 : GoodIn wsX5_init (wsX0_init) := ggX5_init_X0_init
set_option maxRecDepth 20000 in
theorem ggX5_init_X1_init : GoodIn wsX5_init wsX1_init := goodIn_r _ [52, 53, 2, 3, 54, 5, 6, 55, 56, 29, 30, 31, 32, 33, 34, 35, 36, 37, 38, 39, 40, 41, 42, 43, 44, 45, 46, 69, 70, 71, 72, 73, 74, 75, 76, 77, 78, 79, 80, 81, 82, 97, 98, 99, 100, 101, 102] (by decide +kernel) (by decide +kernel)
set_option maxRecDepth 20000 in
theorem gX5_init_X1_init_n35 : GoodIn wsX5_init (wsX1_init) := ggX5_init_X1_init
set_option maxRecDepth 20000 in
theorem ggX5_init_X4_init : GoodIn wsX5_init wsX4_init := goodIn_r _ [58, 59, 2, 3, 32, 60, 61, 62, 103, 104, 105, 106, 107] (by decide +kernel) (by decide +kernel)
set_option maxRecDepth 20000 in
theorem gX5_init_X4_init_n42 : GoodIn wsX5_init (wsX4_init) := ggX5_init_X4_init
set_option maxRecDepth 20000 in
theorem ggX5_init_X2_init : GoodIn wsX5_init wsX2_init := goodIn_r _ [64, 65, 2, 3, 32, 66, 67, 68, 108, 109, 110] (by decide +kernel) (by decide +kernel)
set_option maxRecDepth 20000 in
theorem gX5_init_X2_init_n49 : GoodIn wsX5_init (wsX2_init) := ggX5_init_X2_init
theorem dX5_init_0 : decode cX5_init 0 = .ok (.aload_n 0, 1) := by decide +kernel
theorem dX5_init_1 : decode cX5_init 1 = .ok (.invokespecial 3, 3) := by decide +kernel
theorem dX5_init_4 : decode cX5_init 4 = .ok (.aload_n 0, 1) := by decide +kernel
theorem dX5_init_5 : decode cX5_init 5 = .ok (.new 9, 3) := by decide +kernel
theorem dX5_init_8 : decode cX5_init 8 = .ok (.dup, 1) := by decide +kernel
theorem dX5_init_9 : decode cX5_init 9 = .ok (.invokespecial 11, 3) := by decide +kernel
theorem dX5_init_12 : decode cX5_init 12 = .ok (.putfield 12, 3) := by decide +kernel
theorem dX5_init_15 : decode cX5_init 15 = .ok (.aload_n 0, 1) := by decide +kernel
theorem dX5_init_16 : decode cX5_init 16 = .ok (.new 9, 3) := by decide +kernel
theorem dX5_init_19 : decode cX5_init 19 = .ok (.dup, 1) := by decide +kernel
theorem dX5_init_20 : decode cX5_init 20 = .ok (.invokespecial 11, 3) := by decide +kernel
theorem dX5_init_23 : decode cX5_init 23 = .ok (.putfield 16, 3) := by decide +kernel
theorem dX5_init_26 : decode cX5_init 26 = .ok (.aload_n 0, 1) := by decide +kernel
theorem dX5_init_27 : decode cX5_init 27 = .ok (.new 9, 3) := by decide +kernel
theorem dX5_init_30 : decode cX5_init 30 = .ok (.dup, 1) := by decide +kernel
theorem dX5_init_31 : decode cX5_init 31 = .ok (.invokespecial 11, 3) := by decide +kernel
theorem dX5_init_34 : decode cX5_init 34 = .ok (.putfield 19, 3) := by decide +kernel
theorem dX5_init_37 : decode cX5_init 37 = .ok (.aload_n 0, 1) := by decide +kernel
theorem dX5_init_38 : decode cX5_init 38 = .ok (.iconst 2, 1) := by decide +kernel
theorem dX5_init_39 : decode cX5_init 39 = .ok (.newarray .boolean, 2) := by decide +kernel
theorem dX5_init_41 : decode cX5_init 41 = .ok (.putfield 22, 3) := by decide +kernel
theorem dX5_init_44 : decode cX5_init 44 = .ok (.aload_n 0, 1) := by decide +kernel
theorem dX5_init_45 : decode cX5_init 45 = .ok (.new 26, 3) := by decide +kernel
theorem dX5_init_48 : decode cX5_init 48 = .ok (.dup, 1) := by decide +kernel
theorem dX5_init_49 : decode cX5_init 49 = .ok (.invokespecial 28, 3) := by decide +kernel
theorem dX5_init_52 : decode cX5_init 52 = .ok (.putfield 29, 3) := by decide +kernel
theorem dX5_init_55 : decode cX5_init 55 = .ok (.aload_n 0, 1) := by decide +kernel
theorem dX5_init_56 : decode cX5_init 56 = .ok (.new 33, 3) := by decide +kernel
theorem dX5_init_59 : decode cX5_init 59 = .ok (.dup, 1) := by decide +kernel
theorem dX5_init_60 : decode cX5_init 60 = .ok (.invokespecial 35, 3) := by decide +kernel
theorem dX5_init_63 : decode cX5_init 63 = .ok (.putfield 36, 3) := by decide +kernel
theorem dX5_init_66 : decode cX5_init 66 = .ok (.aload_n 0, 1) := by decide +kernel
theorem dX5_init_67 : decode cX5_init 67 = .ok (.new 40, 3) := by decide +kernel
theorem dX5_init_70 : decode cX5_init 70 = .ok (.dup, 1) := by decide +kernel
theorem dX5_init_71 : decode cX5_init 71 = .ok (.invokespecial 42, 3) := by decide +kernel
theorem dX5_init_74 : decode cX5_init 74 = .ok (.putfield 43, 3) := by decide +kernel
theorem dX5_init_77 : decode cX5_init 77 = .ok (.aload_n 0, 1) := by decide +kernel
theorem dX5_init_78 : decode cX5_init 78 = .ok (.new 47, 3) := by decide +kernel
theorem dX5_init_81 : decode cX5_init 81 = .ok (.dup, 1) := by decide +kernel
theorem dX5_init_82 : decode cX5_init 82 = .ok (.invokespecial 49, 3) := by decide +kernel
theorem dX5_init_85 : decode cX5_init 85 = .ok (.putfield 50, 3) := by decide +kernel
theorem dX5_init_88 : decode cX5_init 88 = .ok (.return_, 1) := by decide +kernel
set_option maxRecDepth 20000 in
theorem ggX5_candle_X5_isCandle : GoodIn wsX5_candle wsX5_isCandle := goodIn_r _ [6, 7, 8, 5, 9] (by decide +kernel) (by decide +kernel)
set_option maxRecDepth 20000 in
theorem gX5_candle_X5_isCandle : GoodIn wsX5_candle (va_wsS RX5 54 yX5_isCandle wsX5_isCandle) := goodIn_app (goodIn_of _ (by decide +kernel)) ggX5_candle_X5_isCandle
set_option maxRecDepth 20000 in
theorem ggX5_candle_X5_isOne : GoodIn wsX5_candle wsX5_isOne := goodIn_r _ [12, 7, 8, 5, 9] (by decide +kernel) (by decide +kernel)
set_option maxRecDepth 20000 in
theorem gX5_candle_X5_isOne : GoodIn wsX5_candle (va_wsS RX5 58 yX5_isOne wsX5_isOne) := goodIn_app (goodIn_of _ (by decide +kernel)) ggX5_candle_X5_isOne
set_option maxRecDepth 20000 in
theorem ggX5_candle_X5_within : GoodIn wsX5_candle wsX5_within := goodIn_r _ [9] (by decide +kernel) (by decide +kernel)
set_option maxRecDepth 20000 in
theorem gX5_candle_X5_within : GoodIn wsX5_candle (va_wsS RX5 61 yX5_within wsX5_within) := goodIn_app (goodIn_of _ (by decide +kernel)) ggX5_candle_X5_within
set_option maxRecDepth 20000 in
theorem ggX5_candle_X3_place : GoodIn wsX5_candle wsX3_place := goodIn_r _ [17, 18, 19, 20, 21, 22, 23, 24, 5, 25, 26, 27, 28, 16, 29, 30, 39, 40, 41, 42, 43, 44, 45, 46, 47, 48, 49, 50, 51, 52] (by decide +kernel) (by decide +kernel)
set_option maxRecDepth 20000 in
theorem gX5_candle_X3_place : GoodIn wsX5_candle (wsV RX5 69 RX3 yX3_place wsX3_place) := goodIn_app (goodIn_of _ (by decide +kernel)) ggX5_candle_X3_place
theorem dX5_candle_0 : decode cX5_candle 0 = .ok (.iload_n 1, 1) := by decide +kernel
theorem dX5_candle_1 : decode cX5_candle 1 = .ok (.invokestatic 54, 3) := by decide +kernel
theorem dX5_candle_4 : decode cX5_candle 4 = .ok (.ifCond .eq 18, 3) := by decide +kernel
theorem dX5_candle_7 : decode cX5_candle 7 = .ok (.iload_n 3, 1) := by decide +kernel
theorem dX5_candle_8 : decode cX5_candle 8 = .ok (.invokestatic 58, 3) := by decide +kernel
theorem dX5_candle_11 : decode cX5_candle 11 = .ok (.ifCond .eq 11, 3) := by decide +kernel
theorem dX5_candle_14 : decode cX5_candle 14 = .ok (.iload 4, 2) := by decide +kernel
theorem dX5_candle_16 : decode cX5_candle 16 = .ok (.invokestatic 58, 3) := by decide +kernel
theorem dX5_candle_19 : decode cX5_candle 19 = .ok (.ifCond .ne 5, 3) := by decide +kernel
theorem dX5_candle_22 : decode cX5_candle 22 = .ok (.iconst (-1), 1) := by decide +kernel
theorem dX5_candle_23 : decode cX5_candle 23 = .ok (.ireturn, 1) := by decide +kernel
theorem dX5_candle_24 : decode cX5_candle 24 = .ok (.iload_n 2, 1) := by decide +kernel
theorem dX5_candle_25 : decode cX5_candle 25 = .ok (.iconst 0, 1) := by decide +kernel
theorem dX5_candle_26 : decode cX5_candle 26 = .ok (.sipush 999, 3) := by decide +kernel
theorem dX5_candle_29 : decode cX5_candle 29 = .ok (.invokestatic 61, 3) := by decide +kernel
theorem dX5_candle_32 : decode cX5_candle 32 = .ok (.ifCond .eq 15, 3) := by decide +kernel
theorem dX5_candle_35 : decode cX5_candle 35 = .ok (.iload 5, 2) := by decide +kernel
theorem dX5_candle_37 : decode cX5_candle 37 = .ok (.iconst 0, 1) := by decide +kernel
theorem dX5_candle_38 : decode cX5_candle 38 = .ok (.sipush 999, 3) := by decide +kernel
theorem dX5_candle_41 : decode cX5_candle 41 = .ok (.invokestatic 61, 3) := by decide +kernel
theorem dX5_candle_44 : decode cX5_candle 44 = .ok (.ifCond .ne 6, 3) := by decide +kernel
theorem dX5_candle_47 : decode cX5_candle 47 = .ok (.bipush (-2), 2) := by decide +kernel
theorem dX5_candle_49 : decode cX5_candle 49 = .ok (.ireturn, 1) := by decide +kernel
theorem dX5_candle_50 : decode cX5_candle 50 = .ok (.aload_n 0, 1) := by decide +kernel
theorem dX5_candle_51 : decode cX5_candle 51 = .ok (.getfield 12, 3) := by decide +kernel
theorem dX5_candle_54 : decode cX5_candle 54 = .ok (.getfield 65, 3) := by decide +kernel
theorem dX5_candle_57 : decode cX5_candle 57 = .ok (.iload_n 1, 1) := by decide +kernel
theorem dX5_candle_58 : decode cX5_candle 58 = .ok (.iaload, 1) := by decide +kernel
theorem dX5_candle_59 : decode cX5_candle 59 = .ok (.istore 6, 2) := by decide +kernel
theorem dX5_candle_61 : decode cX5_candle 61 = .ok (.aload_n 0, 1) := by decide +kernel
theorem dX5_candle_62 : decode cX5_candle 62 = .ok (.getfield 12, 3) := by decide +kernel
theorem dX5_candle_65 : decode cX5_candle 65 = .ok (.iload_n 1, 1) := by decide +kernel
theorem dX5_candle_66 : decode cX5_candle 66 = .ok (.iload_n 2, 1) := by decide +kernel
theorem dX5_candle_67 : decode cX5_candle 67 = .ok (.iload_n 3, 1) := by decide +kernel
theorem dX5_candle_68 : decode cX5_candle 68 = .ok (.iload 4, 2) := by decide +kernel
theorem dX5_candle_70 : decode cX5_candle 70 = .ok (.iload 5, 2) := by decide +kernel
theorem dX5_candle_72 : decode cX5_candle 72 = .ok (.invokevirtual 69, 3) := by decide +kernel
theorem dX5_candle_75 : decode cX5_candle 75 = .ok (.iload 6, 2) := by decide +kernel
theorem dX5_candle_77 : decode cX5_candle 77 = .ok (.ireturn, 1) := by decide +kernel
set_option maxRecDepth 20000 in
theorem ggX5_draught_X5_isCandle : GoodIn wsX5_draught wsX5_isCandle := goodIn_r _ [6, 7, 8, 5, 9] (by decide +kernel) (by decide +kernel)
set_option maxRecDepth 20000 in
theorem gX5_draught_X5_isCandle : GoodIn wsX5_draught (va_wsS RX5 54 yX5_isCandle wsX5_isCandle) := goodIn_app (goodIn_of _ (by decide +kernel)) ggX5_draught_X5_isCandle
set_option maxRecDepth 20000 in
theorem ggX5_draught_X5_within : GoodIn wsX5_draught wsX5_within := goodIn_r _ [9] (by decide +kernel) (by decide +kernel)
set_option maxRecDepth 20000 in
theorem gX5_draught_X5_within : GoodIn wsX5_draught (va_wsS RX5 61 yX5_within wsX5_within) := goodIn_app (goodIn_of _ (by decide +kernel)) ggX5_draught_X5_within
theorem dX5_draught_0 : decode cX5_draught 0 = .ok (.iload_n 1, 1) := by decide +kernel
theorem dX5_draught_1 : decode cX5_draught 1 = .ok (.invokestatic 54, 3) := by decide +kernel
theorem dX5_draught_4 : decode cX5_draught 4 = .ok (.ifCond .ne 5, 3) := by decide +kernel
theorem dX5_draught_7 : decode cX5_draught 7 = .ok (.iconst (-1), 1) := by decide +kernel
theorem dX5_draught_8 : decode cX5_draught 8 = .ok (.ireturn, 1) := by decide +kernel
theorem dX5_draught_9 : decode cX5_draught 9 = .ok (.iload_n 2, 1) := by decide +kernel
theorem dX5_draught_10 : decode cX5_draught 10 = .ok (.iconst 0, 1) := by decide +kernel
theorem dX5_draught_11 : decode cX5_draught 11 = .ok (.bipush 9, 2) := by decide +kernel
theorem dX5_draught_13 : decode cX5_draught 13 = .ok (.invokestatic 61, 3) := by decide +kernel
theorem dX5_draught_16 : decode cX5_draught 16 = .ok (.ifCond .ne 6, 3) := by decide +kernel
theorem dX5_draught_19 : decode cX5_draught 19 = .ok (.bipush (-2), 2) := by decide +kernel
theorem dX5_draught_21 : decode cX5_draught 21 = .ok (.ireturn, 1) := by decide +kernel
theorem dX5_draught_22 : decode cX5_draught 22 = .ok (.aload_n 0, 1) := by decide +kernel
theorem dX5_draught_23 : decode cX5_draught 23 = .ok (.getfield 12, 3) := by decide +kernel
theorem dX5_draught_26 : decode cX5_draught 26 = .ok (.getfield 73, 3) := by decide +kernel
theorem dX5_draught_29 : decode cX5_draught 29 = .ok (.iload_n 1, 1) := by decide +kernel
theorem dX5_draught_30 : decode cX5_draught 30 = .ok (.iaload, 1) := by decide +kernel
theorem dX5_draught_31 : decode cX5_draught 31 = .ok (.istore_n 3, 1) := by decide +kernel
theorem dX5_draught_32 : decode cX5_draught 32 = .ok (.aload_n 0, 1) := by decide +kernel
theorem dX5_draught_33 : decode cX5_draught 33 = .ok (.getfield 12, 3) := by decide +kernel
theorem dX5_draught_36 : decode cX5_draught 36 = .ok (.getfield 73, 3) := by decide +kernel
theorem dX5_draught_39 : decode cX5_draught 39 = .ok (.iload_n 1, 1) := by decide +kernel
theorem dX5_draught_40 : decode cX5_draught 40 = .ok (.iload_n 2, 1) := by decide +kernel
theorem dX5_draught_41 : decode cX5_draught 41 = .ok (.iastore, 1) := by decide +kernel
theorem dX5_draught_42 : decode cX5_draught 42 = .ok (.iload_n 3, 1) := by decide +kernel
theorem dX5_draught_43 : decode cX5_draught 43 = .ok (.ireturn, 1) := by decide +kernel
set_option maxRecDepth 20000 in
theorem ggX5_purse_X5_isOne : GoodIn wsX5_purse wsX5_isOne := goodIn_r _ [6, 7, 8, 5, 9] (by decide +kernel) (by decide +kernel)
set_option maxRecDepth 20000 in
theorem gX5_purse_X5_isOne : GoodIn wsX5_purse (va_wsS RX5 58 yX5_isOne wsX5_isOne) := goodIn_app (goodIn_of _ (by decide +kernel)) ggX5_purse_X5_isOne
set_option maxRecDepth 20000 in
theorem ggX5_purse_X5_within : GoodIn wsX5_purse wsX5_within := goodIn_r _ [9] (by decide +kernel) (by decide +kernel)
set_option maxRecDepth 20000 in
theorem gX5_purse_X5_within : GoodIn wsX5_purse (va_wsS RX5 61 yX5_within wsX5_within) := goodIn_app (goodIn_of _ (by decide +kernel)) ggX5_purse_X5_within
theorem dX5_purse_0 : decode cX5_purse 0 = .ok (.iload_n 1, 1) := by decide +kernel
theorem dX5_purse_1 : decode cX5_purse 1 = .ok (.invokestatic 58, 3) := by decide +kernel
theorem dX5_purse_4 : decode cX5_purse 4 = .ok (.ifCond .ne 5, 3) := by decide +kernel
theorem dX5_purse_7 : decode cX5_purse 7 = .ok (.iconst (-1), 1) := by decide +kernel
theorem dX5_purse_8 : decode cX5_purse 8 = .ok (.ireturn, 1) := by decide +kernel
theorem dX5_purse_9 : decode cX5_purse 9 = .ok (.iload_n 2, 1) := by decide +kernel
theorem dX5_purse_10 : decode cX5_purse 10 = .ok (.iconst 0, 1) := by decide +kernel
theorem dX5_purse_11 : decode cX5_purse 11 = .ok (.sipush 9999, 3) := by decide +kernel
theorem dX5_purse_14 : decode cX5_purse 14 = .ok (.invokestatic 61, 3) := by decide +kernel
theorem dX5_purse_17 : decode cX5_purse 17 = .ok (.ifCond .ne 6, 3) := by decide +kernel
theorem dX5_purse_20 : decode cX5_purse 20 = .ok (.bipush (-2), 2) := by decide +kernel
theorem dX5_purse_22 : decode cX5_purse 22 = .ok (.ireturn, 1) := by decide +kernel
theorem dX5_purse_23 : decode cX5_purse 23 = .ok (.aload_n 0, 1) := by decide +kernel
theorem dX5_purse_24 : decode cX5_purse 24 = .ok (.getfield 12, 3) := by decide +kernel
theorem dX5_purse_27 : decode cX5_purse 27 = .ok (.getfield 76, 3) := by decide +kernel
theorem dX5_purse_30 : decode cX5_purse 30 = .ok (.iload_n 1, 1) := by decide +kernel
theorem dX5_purse_31 : decode cX5_purse 31 = .ok (.iaload, 1) := by decide +kernel
theorem dX5_purse_32 : decode cX5_purse 32 = .ok (.istore_n 3, 1) := by decide +kernel
theorem dX5_purse_33 : decode cX5_purse 33 = .ok (.aload_n 0, 1) := by decide +kernel
theorem dX5_purse_34 : decode cX5_purse 34 = .ok (.getfield 12, 3) := by decide +kernel
theorem dX5_purse_37 : decode cX5_purse 37 = .ok (.getfield 76, 3) := by decide +kernel
theorem dX5_purse_40 : decode cX5_purse 40 = .ok (.iload_n 1, 1) := by decide +kernel
theorem dX5_purse_41 : decode cX5_purse 41 = .ok (.iload_n 2, 1) := by decide +kernel
theorem dX5_purse_42 : decode cX5_purse 42 = .ok (.iastore, 1) := by decide +kernel
theorem dX5_purse_43 : decode cX5_purse 43 = .ok (.iload_n 3, 1) := by decide +kernel
theorem dX5_purse_44 : decode cX5_purse 44 = .ok (.ireturn, 1) := by decide +kernel
set_option maxRecDepth 20000 in
theorem ggX5_matches_X5_within : GoodIn wsX5_matches wsX5_within := goodIn_r _ [6] (by decide +kernel) (by decide +kernel)
set_option maxRecDepth 20000 in
theorem gX5_matches_X5_within : GoodIn wsX5_matches (va_wsS RX5 61 yX5_within wsX5_within) := goodIn_app (goodIn_of _ (by decide +kernel)) ggX5_matches_X5_within
theorem dX5_matches_0 : decode cX5_matches 0 = .ok (.iload_n 1, 1) := by decide +kernel
theorem dX5_matches_1 : decode cX5_matches 1 = .ok (.iconst 0, 1) := by decide +kernel
theorem dX5_matches_2 : decode cX5_matches 2 = .ok (.bipush 99, 2) := by decide +kernel
theorem dX5_matches_4 : decode cX5_matches 4 = .ok (.invokestatic 61, 3) := by decide +kernel
theorem dX5_matches_7 : decode cX5_matches 7 = .ok (.ifCond .ne 6, 3) := by decide +kernel
theorem dX5_matches_10 : decode cX5_matches 10 = .ok (.bipush (-2), 2) := by decide +kernel
theorem dX5_matches_12 : decode cX5_matches 12 = .ok (.ireturn, 1) := by decide +kernel
theorem dX5_matches_13 : decode cX5_matches 13 = .ok (.aload_n 0, 1) := by decide +kernel
theorem dX5_matches_14 : decode cX5_matches 14 = .ok (.getfield 12, 3) := by decide +kernel
theorem dX5_matches_17 : decode cX5_matches 17 = .ok (.getfield 79, 3) := by decide +kernel
theorem dX5_matches_20 : decode cX5_matches 20 = .ok (.istore_n 2, 1) := by decide +kernel
theorem dX5_matches_21 : decode cX5_matches 21 = .ok (.aload_n 0, 1) := by decide +kernel
theorem dX5_matches_22 : decode cX5_matches 22 = .ok (.getfield 12, 3) := by decide +kernel
theorem dX5_matches_25 : decode cX5_matches 25 = .ok (.iload_n 1, 1) := by decide +kernel
theorem dX5_matches_26 : decode cX5_matches 26 = .ok (.putfield 79, 3) := by decide +kernel
theorem dX5_matches_29 : decode cX5_matches 29 = .ok (.iload_n 2, 1) := by decide +kernel
theorem dX5_matches_30 : decode cX5_matches 30 = .ok (.ireturn, 1) := by decide +kernel
set_option maxRecDepth 20000 in
theorem ggX5_say_X5_within : GoodIn wsX5_say wsX5_within := goodIn_r _ [6] (by decide +kernel) (by decide +kernel)
set_option maxRecDepth 20000 in
theorem gX5_say_X5_within : GoodIn wsX5_say (va_wsS RX5 61 yX5_within wsX5_within) := goodIn_app (goodIn_of _ (by decide +kernel)) ggX5_say_X5_within
set_option maxRecDepth 20000 in
theorem ggX5_say_X0_write : GoodIn wsX5_say wsX0_write := goodIn_r _ [11, 12, 13, 22, 23, 24, 25, 26, 27] (by decide +kernel) (by decide +kernel)
set_option maxRecDepth 20000 in
theorem gX5_say_X0_write : GoodIn wsX5_say (wsV RX5 83 RX0 yX0_write wsX0_write) := goodIn_app (goodIn_of _ (by decide +kernel)) ggX5_say_X0_write
theorem dX5_say_0 : decode cX5_say 0 = .ok (.iload_n 1, 1) := by decide +kernel
theorem dX5_say_1 : decode cX5_say 1 = .ok (.bipush 33, 2) := by decide +kernel
theorem dX5_say_3 : decode cX5_say 3 = .ok (.bipush 126, 2) := by decide +kernel
theorem dX5_say_5 : decode cX5_say 5 = .ok (.invokestatic 61, 3) := by decide +kernel
theorem dX5_say_8 : decode cX5_say 8 = .ok (.ifCond .ne 6, 3) := by decide +kernel
theorem dX5_say_11 : decode cX5_say 11 = .ok (.bipush (-2), 2) := by decide +kernel
theorem dX5_say_13 : decode cX5_say 13 = .ok (.ireturn, 1) := by decide +kernel
theorem dX5_say_14 : decode cX5_say 14 = .ok (.aload_n 0, 1) := by decide +kernel
theorem dX5_say_15 : decode cX5_say 15 = .ok (.getfield 29, 3) := by decide +kernel
theorem dX5_say_18 : decode cX5_say 18 = .ok (.iload_n 1, 1) := by decide +kernel
theorem dX5_say_19 : decode cX5_say 19 = .ok (.invokevirtual 83, 3) := by decide +kernel
theorem dX5_say_22 : decode cX5_say 22 = .ok (.ifCond .eq 13, 3) := by decide +kernel
theorem dX5_say_25 : decode cX5_say 25 = .ok (.aload_n 0, 1) := by decide +kernel
theorem dX5_say_26 : decode cX5_say 26 = .ok (.getfield 29, 3) := by decide +kernel
theorem dX5_say_29 : decode cX5_say 29 = .ok (.getfield 86, 3) := by decide +kernel
theorem dX5_say_32 : decode cX5_say 32 = .ok (.goto 5, 3) := by decide +kernel
theorem dX5_say_35 : decode cX5_say 35 = .ok (.bipush (-4), 2) := by decide +kernel
theorem dX5_say_37 : decode cX5_say 37 = .ok (.ireturn, 1) := by decide +kernel
theorem dX5_wipe_0 : decode cX5_wipe 0 = .ok (.aload_n 0, 1) := by decide +kernel
theorem dX5_wipe_1 : decode cX5_wipe 1 = .ok (.getfield 29, 3) := by decide +kernel
theorem dX5_wipe_4 : decode cX5_wipe 4 = .ok (.getfield 86, 3) := by decide +kernel
theorem dX5_wipe_7 : decode cX5_wipe 7 = .ok (.istore_n 1, 1) := by decide +kernel
theorem dX5_wipe_8 : decode cX5_wipe 8 = .ok (.aload_n 0, 1) := by decide +kernel
theorem dX5_wipe_9 : decode cX5_wipe 9 = .ok (.getfield 29, 3) := by decide +kernel
theorem dX5_wipe_12 : decode cX5_wipe 12 = .ok (.iconst 0, 1) := by decide +kernel
theorem dX5_wipe_13 : decode cX5_wipe 13 = .ok (.putfield 86, 3) := by decide +kernel
theorem dX5_wipe_16 : decode cX5_wipe 16 = .ok (.iload_n 1, 1) := by decide +kernel
theorem dX5_wipe_17 : decode cX5_wipe 17 = .ok (.ireturn, 1) := by decide +kernel
set_option maxRecDepth 20000 in
theorem ggX5_fault_X0_firstFault : GoodIn wsX5_fault wsX0_firstFault := goodIn_r _ [6, 7, 8, 9, 10, 11, 5, 12, 13, 14, 15, 16, 17, 18, 19, 20, 21, 22, 23, 24, 25, 26, 27, 28, 29, 30, 31, 32, 33, 34, 35, 36, 37, 38, 39, 48, 49, 50, 51, 52, 53] (by decide +kernel) (by decide +kernel)
set_option maxRecDepth 20000 in
theorem gX5_fault_X0_firstFault : GoodIn wsX5_fault (wsV RX5 89 RX0 yX0_firstFault wsX0_firstFault) := goodIn_app (goodIn_of _ (by decide +kernel)) ggX5_fault_X0_firstFault
theorem dX5_fault_0 : decode cX5_fault 0 = .ok (.aload_n 0, 1) := by decide +kernel
theorem dX5_fault_1 : decode cX5_fault 1 = .ok (.getfield 29, 3) := by decide +kernel
theorem dX5_fault_4 : decode cX5_fault 4 = .ok (.invokevirtual 89, 3) := by decide +kernel
theorem dX5_fault_7 : decode cX5_fault 7 = .ok (.ireturn, 1) := by decide +kernel
set_option maxRecDepth 20000 in
theorem ggX5_judge_X5_within : GoodIn wsX5_judge wsX5_within := goodIn_r _ [9] (by decide +kernel) (by decide +kernel)
set_option maxRecDepth 20000 in
theorem gX5_judge_X5_within : GoodIn wsX5_judge (va_wsS RX5 61 yX5_within wsX5_within) := goodIn_app (goodIn_of _ (by decide +kernel)) ggX5_judge_X5_within
set_option maxRecDepth 20000 in
theorem ggX5_judge_X0_firstFault : GoodIn wsX5_judge wsX0_firstFault := goodIn_r _ [14, 15, 16, 17, 18, 19, 13, 20, 21, 22, 23, 24, 25, 26, 27, 28, 29, 30, 31, 32, 33, 34, 35, 36, 7, 8, 9, 37, 38, 39, 40, 41, 42, 43, 44, 173, 174, 175, 176, 177, 178] (by decide +kernel) (by decide +kernel)
set_option maxRecDepth 20000 in
theorem gX5_judge_X0_firstFault : GoodIn wsX5_judge (wsV RX5 89 RX0 yX0_firstFault wsX0_firstFault) := goodIn_app (goodIn_of _ (by decide +kernel)) ggX5_judge_X0_firstFault
set_option maxRecDepth 20000 in
theorem ggX5_judge_X1_night : GoodIn wsX5_judge wsX1_night := goodIn_r _ [49, 50, 51, 52, 53, 54, 55, 56, 57, 48, 58, 59, 60, 61, 62, 63, 64, 65, 66, 67, 68, 69, 70, 71, 72, 73, 74, 75, 76, 77, 78, 79, 80, 81, 82, 83, 84, 85, 86, 87, 88, 18, 19, 13, 20, 21, 22, 23, 16, 24, 25, 26, 27, 15, 28, 29, 30, 31, 32, 33, 34, 35, 36, 7, 8, 9, 37, 38, 39, 40, 41, 42, 43, 44, 89, 90, 91, 92, 93, 94, 95, 96, 97, 98, 99, 100, 101, 102, 103, 104, 105, 106, 107, 108, 109, 110, 111, 112, 113, 114, 115, 116, 117, 118, 119, 120, 121, 122, 123, 124, 125, 126, 127, 128, 129, 130, 131, 132, 133, 134, 135, 136, 137, 138, 139, 140, 141, 142, 143, 144, 145, 146, 147, 148, 149, 150, 151, 152, 153, 154, 155, 156, 157, 158, 173, 174, 175, 176, 177, 178, 167, 168, 169, 170, 171, 172, 179, 180, 181, 182, 183, 184, 185, 186, 187, 188, 189, 190, 191, 192] (by decide +kernel) (by decide +kernel)
set_option maxRecDepth 20000 in
theorem gX5_judge_X1_night : GoodIn wsX5_judge (wsV RX5 93 RX1 yX1_night wsX1_night) := goodIn_app (goodIn_of _ (by decide +kernel)) ggX5_judge_X1_night
theorem dX5_judge_0 : decode cX5_judge 0 = .ok (.iload_n 1, 1) := by decide +kernel
theorem dX5_judge_1 : decode cX5_judge 1 = .ok (.iconst 0, 1) := by decide +kernel
theorem dX5_judge_2 : decode cX5_judge 2 = .ok (.iconst 1, 1) := by decide +kernel
theorem dX5_judge_3 : decode cX5_judge 3 = .ok (.invokestatic 61, 3) := by decide +kernel
theorem dX5_judge_6 : decode cX5_judge 6 = .ok (.ifCond .ne 6, 3) := by decide +kernel
theorem dX5_judge_9 : decode cX5_judge 9 = .ok (.bipush (-2), 2) := by decide +kernel
theorem dX5_judge_11 : decode cX5_judge 11 = .ok (.ireturn, 1) := by decide +kernel
theorem dX5_judge_12 : decode cX5_judge 12 = .ok (.aload_n 0, 1) := by decide +kernel
theorem dX5_judge_13 : decode cX5_judge 13 = .ok (.getfield 29, 3) := by decide +kernel
theorem dX5_judge_16 : decode cX5_judge 16 = .ok (.invokevirtual 89, 3) := by decide +kernel
theorem dX5_judge_19 : decode cX5_judge 19 = .ok (.bipush (-6), 2) := by decide +kernel
theorem dX5_judge_21 : decode cX5_judge 21 = .ok (.if_icmp .eq 6, 3) := by decide +kernel
theorem dX5_judge_24 : decode cX5_judge 24 = .ok (.bipush (-5), 2) := by decide +kernel
theorem dX5_judge_26 : decode cX5_judge 26 = .ok (.ireturn, 1) := by decide +kernel
theorem dX5_judge_27 : decode cX5_judge 27 = .ok (.aload_n 0, 1) := by decide +kernel
theorem dX5_judge_28 : decode cX5_judge 28 = .ok (.getfield 36, 3) := by decide +kernel
theorem dX5_judge_31 : decode cX5_judge 31 = .ok (.aload_n 0, 1) := by decide +kernel
theorem dX5_judge_32 : decode cX5_judge 32 = .ok (.getfield 12, 3) := by decide +kernel
theorem dX5_judge_35 : decode cX5_judge 35 = .ok (.aload_n 0, 1) := by decide +kernel
theorem dX5_judge_36 : decode cX5_judge 36 = .ok (.getfield 29, 3) := by decide +kernel
theorem dX5_judge_39 : decode cX5_judge 39 = .ok (.invokevirtual 93, 3) := by decide +kernel
theorem dX5_judge_42 : decode cX5_judge 42 = .ok (.ifCond .eq 6, 3) := by decide +kernel
theorem dX5_judge_45 : decode cX5_judge 45 = .ok (.bipush (-6), 2) := by decide +kernel
theorem dX5_judge_47 : decode cX5_judge 47 = .ok (.ireturn, 1) := by decide +kernel
theorem dX5_judge_48 : decode cX5_judge 48 = .ok (.iload_n 1, 1) := by decide +kernel
theorem dX5_judge_49 : decode cX5_judge 49 = .ok (.ifCond .ne 13, 3) := by decide +kernel
theorem dX5_judge_52 : decode cX5_judge 52 = .ok (.aload_n 0, 1) := by decide +kernel
theorem dX5_judge_53 : decode cX5_judge 53 = .ok (.getfield 36, 3) := by decide +kernel
theorem dX5_judge_56 : decode cX5_judge 56 = .ok (.getfield 97, 3) := by decide +kernel
theorem dX5_judge_59 : decode cX5_judge 59 = .ok (.goto 10, 3) := by decide +kernel
theorem dX5_judge_62 : decode cX5_judge 62 = .ok (.aload_n 0, 1) := by decide +kernel
theorem dX5_judge_63 : decode cX5_judge 63 = .ok (.getfield 36, 3) := by decide +kernel
theorem dX5_judge_66 : decode cX5_judge 66 = .ok (.getfield 100, 3) := by decide +kernel
theorem dX5_judge_69 : decode cX5_judge 69 = .ok (.ireturn, 1) := by decide +kernel
set_option maxRecDepth 20000 in
theorem ggX5_done_X5_nightCanBe : GoodIn wsX5_done wsX5_nightCanBe := goodIn_r _ [11, 4, 2, 1, 12, 13, 14, 15, 16, 17, 18, 19, 20, 21, 22, 23, 24, 25, 26, 27, 28, 29, 30, 31, 32, 33, 34, 35, 36, 37, 38, 39, 10, 40, 41, 42, 43, 44, 45, 46, 47, 48, 49, 50, 51, 52, 53, 54, 55, 56, 57, 58, 59, 60, 61, 62, 63, 64, 65, 66, 67, 68, 69, 70, 71, 72, 73, 74, 75, 76, 77, 78, 79, 80, 81, 82, 83, 84, 85, 86, 87, 88, 89, 90, 91, 92, 93, 94, 95, 96, 97, 98, 99, 100, 101, 102, 103, 104, 105, 106, 107, 108, 109, 110, 111, 112, 113, 114, 115, 116, 117, 118, 119, 120, 121, 122, 123, 124, 125, 126, 127, 128, 129, 130, 131, 132, 133, 134, 135, 136, 137, 138, 139, 140, 141, 142, 143, 144, 145, 146, 147, 148, 149, 150, 151, 152, 153, 154, 155, 156, 157, 158, 159, 160, 161, 162, 164, 165, 166, 167, 168, 169, 170, 171, 178, 179, 180, 181, 182, 183, 172, 173, 174, 175, 176, 177, 184, 185, 186, 187, 188, 189, 190, 191, 192, 193, 194, 195, 196, 197] (by decide +kernel) (by decide +kernel)
set_option maxRecDepth 20000 in
theorem gX5_done_X5_nightCanBe : GoodIn wsX5_done (wsV RX5 103 RX5 yX5_nightCanBe wsX5_nightCanBe) := goodIn_app (goodIn_of _ (by decide +kernel)) ggX5_done_X5_nightCanBe
set_option maxRecDepth 20000 in
theorem ggX5_done_X3_copyFrom : GoodIn wsX5_done wsX3_copyFrom := goodIn_r _ [73, 74, 75, 76, 77, 78, 79, 80, 81, 82, 83, 84, 85, 86, 87, 88, 89, 90, 91, 184, 185, 186, 187, 188, 189, 190, 191, 192, 193, 194, 195, 196, 197] (by decide +kernel) (by decide +kernel)
set_option maxRecDepth 20000 in
theorem gX5_done_X3_copyFrom : GoodIn wsX5_done (wsV RX5 110 RX3 yX3_copyFrom wsX3_copyFrom) := goodIn_app (goodIn_of _ (by decide +kernel)) ggX5_done_X3_copyFrom
theorem dX5_done_0 : decode cX5_done 0 = .ok (.aload_n 0, 1) := by decide +kernel
theorem dX5_done_1 : decode cX5_done 1 = .ok (.invokevirtual 103, 3) := by decide +kernel
theorem dX5_done_4 : decode cX5_done 4 = .ok (.ifCond .ne 6, 3) := by decide +kernel
theorem dX5_done_7 : decode cX5_done 7 = .ok (.bipush (-5), 2) := by decide +kernel
theorem dX5_done_9 : decode cX5_done 9 = .ok (.ireturn, 1) := by decide +kernel
theorem dX5_done_10 : decode cX5_done 10 = .ok (.aload_n 0, 1) := by decide +kernel
theorem dX5_done_11 : decode cX5_done 11 = .ok (.getfield 12, 3) := by decide +kernel
theorem dX5_done_14 : decode cX5_done 14 = .ok (.aload_n 0, 1) := by decide +kernel
theorem dX5_done_15 : decode cX5_done 15 = .ok (.getfield 36, 3) := by decide +kernel
theorem dX5_done_18 : decode cX5_done 18 = .ok (.getfield 107, 3) := by decide +kernel
theorem dX5_done_21 : decode cX5_done 21 = .ok (.invokevirtual 110, 3) := by decide +kernel
theorem dX5_done_24 : decode cX5_done 24 = .ok (.aload_n 0, 1) := by decide +kernel
theorem dX5_done_25 : decode cX5_done 25 = .ok (.getfield 29, 3) := by decide +kernel
theorem dX5_done_28 : decode cX5_done 28 = .ok (.iconst 0, 1) := by decide +kernel
theorem dX5_done_29 : decode cX5_done 29 = .ok (.putfield 86, 3) := by decide +kernel
theorem dX5_done_32 : decode cX5_done 32 = .ok (.aload_n 0, 1) := by decide +kernel
theorem dX5_done_33 : decode cX5_done 33 = .ok (.getfield 36, 3) := by decide +kernel
theorem dX5_done_36 : decode cX5_done 36 = .ok (.getfield 97, 3) := by decide +kernel
theorem dX5_done_39 : decode cX5_done 39 = .ok (.ireturn, 1) := by decide +kernel
set_option maxRecDepth 20000 in
theorem ggX5_behind_X5_isCandle : GoodIn wsX5_behind wsX5_isCandle := goodIn_r _ [9, 10, 11, 8, 12] (by decide +kernel) (by decide +kernel)
set_option maxRecDepth 20000 in
theorem gX5_behind_X5_isCandle : GoodIn wsX5_behind (va_wsS RX5 54 yX5_isCandle wsX5_isCandle) := goodIn_app (goodIn_of _ (by decide +kernel)) ggX5_behind_X5_isCandle
set_option maxRecDepth 20000 in
theorem ggX5_behind_X5_within : GoodIn wsX5_behind wsX5_within := goodIn_r _ [12] (by decide +kernel) (by decide +kernel)
set_option maxRecDepth 20000 in
theorem gX5_behind_X5_within : GoodIn wsX5_behind (va_wsS RX5 61 yX5_within wsX5_within) := goodIn_app (goodIn_of _ (by decide +kernel)) ggX5_behind_X5_within
set_option maxRecDepth 20000 in
theorem ggX5_behind_X5_nightCanBe : GoodIn wsX5_behind wsX5_nightCanBe := goodIn_r _ [16, 17, 1, 18, 19, 20, 21, 22, 23, 24, 25, 26, 27, 28, 29, 30, 31, 32, 33, 34, 35, 36, 37, 38, 39, 40, 41, 42, 43, 44, 45, 11, 8, 12, 46, 47, 48, 49, 50, 51, 52, 53, 54, 55, 56, 57, 58, 59, 60, 61, 62, 63, 64, 65, 66, 67, 68, 69, 70, 71, 72, 73, 74, 75, 76, 77, 78, 79, 80, 81, 82, 83, 84, 85, 86, 87, 88, 89, 90, 91, 92, 93, 94, 95, 96, 97, 98, 99, 100, 101, 102, 103, 104, 105, 106, 107, 108, 109, 110, 111, 112, 113, 114, 115, 116, 117, 118, 119, 120, 121, 122, 123, 124, 125, 126, 127, 128, 129, 130, 131, 132, 133, 134, 135, 136, 137, 138, 139, 140, 141, 142, 143, 144, 145, 146, 147, 148, 149, 150, 151, 152, 153, 154, 155, 156, 157, 158, 159, 160, 161, 162, 163, 164, 165, 166, 167, 169, 170, 171, 172, 173, 174, 175, 176, 197, 198, 199, 200, 201, 202, 177, 178, 179, 180, 181, 182, 183, 184, 185, 186, 187, 188, 189, 190, 191, 192, 193, 194, 195, 196] (by decide +kernel) (by decide +kernel)
set_option maxRecDepth 20000 in
theorem gX5_behind_X5_nightCanBe : GoodIn wsX5_behind (wsV RX5 103 RX5 yX5_nightCanBe wsX5_nightCanBe) := goodIn_app (goodIn_of _ (by decide +kernel)) ggX5_behind_X5_nightCanBe
set_option maxRecDepth 20000 in
theorem ggX5_behind_X3_isLit : GoodIn wsX5_behind wsX3_isLit := goodIn_r _ [111, 94, 183, 184, 185, 186, 187, 188, 189, 190, 191, 192, 193, 194, 195, 196] (by decide +kernel) (by decide +kernel)
set_option maxRecDepth 20000 in
theorem gX5_behind_X3_isLit : GoodIn wsX5_behind (wsV RX5 114 RX3 yX3_isLit wsX3_isLit) := goodIn_app (goodIn_of _ (by decide +kernel)) ggX5_behind_X3_isLit
theorem dX5_behind_0 : decode cX5_behind 0 = .ok (.iload_n 1, 1) := by decide +kernel
theorem dX5_behind_1 : decode cX5_behind 1 = .ok (.invokestatic 54, 3) := by decide +kernel
theorem dX5_behind_4 : decode cX5_behind 4 = .ok (.ifCond .ne 5, 3) := by decide +kernel
theorem dX5_behind_7 : decode cX5_behind 7 = .ok (.iconst (-1), 1) := by decide +kernel
theorem dX5_behind_8 : decode cX5_behind 8 = .ok (.ireturn, 1) := by decide +kernel
theorem dX5_behind_9 : decode cX5_behind 9 = .ok (.iload_n 2, 1) := by decide +kernel
theorem dX5_behind_10 : decode cX5_behind 10 = .ok (.iconst 0, 1) := by decide +kernel
theorem dX5_behind_11 : decode cX5_behind 11 = .ok (.iconst 3, 1) := by decide +kernel
theorem dX5_behind_12 : decode cX5_behind 12 = .ok (.invokestatic 61, 3) := by decide +kernel
theorem dX5_behind_15 : decode cX5_behind 15 = .ok (.ifCond .ne 6, 3) := by decide +kernel
theorem dX5_behind_18 : decode cX5_behind 18 = .ok (.bipush (-2), 2) := by decide +kernel
theorem dX5_behind_20 : decode cX5_behind 20 = .ok (.ireturn, 1) := by decide +kernel
theorem dX5_behind_21 : decode cX5_behind 21 = .ok (.aload_n 0, 1) := by decide +kernel
theorem dX5_behind_22 : decode cX5_behind 22 = .ok (.invokevirtual 103, 3) := by decide +kernel
theorem dX5_behind_25 : decode cX5_behind 25 = .ok (.ifCond .ne 6, 3) := by decide +kernel
theorem dX5_behind_28 : decode cX5_behind 28 = .ok (.bipush (-5), 2) := by decide +kernel
theorem dX5_behind_30 : decode cX5_behind 30 = .ok (.ireturn, 1) := by decide +kernel
theorem dX5_behind_31 : decode cX5_behind 31 = .ok (.iload_n 2, 1) := by decide +kernel
theorem dX5_behind_32 : decode cX5_behind 32 = .ok (.tableswitch 74 0 2 #[28, 41, 61], 28) := by decide +kernel
theorem dX5_behind_60 : decode cX5_behind 60 = .ok (.aload_n 0, 1) := by decide +kernel
theorem dX5_behind_61 : decode cX5_behind 61 = .ok (.getfield 36, 3) := by decide +kernel
theorem dX5_behind_64 : decode cX5_behind 64 = .ok (.getfield 107, 3) := by decide +kernel
theorem dX5_behind_67 : decode cX5_behind 67 = .ok (.getfield 65, 3) := by decide +kernel
theorem dX5_behind_70 : decode cX5_behind 70 = .ok (.iload_n 1, 1) := by decide +kernel
theorem dX5_behind_71 : decode cX5_behind 71 = .ok (.iaload, 1) := by decide +kernel
theorem dX5_behind_72 : decode cX5_behind 72 = .ok (.ireturn, 1) := by decide +kernel
theorem dX5_behind_73 : decode cX5_behind 73 = .ok (.aload_n 0, 1) := by decide +kernel
theorem dX5_behind_74 : decode cX5_behind 74 = .ok (.getfield 36, 3) := by decide +kernel
theorem dX5_behind_77 : decode cX5_behind 77 = .ok (.getfield 107, 3) := by decide +kernel
theorem dX5_behind_80 : decode cX5_behind 80 = .ok (.iload_n 1, 1) := by decide +kernel
theorem dX5_behind_81 : decode cX5_behind 81 = .ok (.invokevirtual 114, 3) := by decide +kernel
theorem dX5_behind_84 : decode cX5_behind 84 = .ok (.ifCond .eq 7, 3) := by decide +kernel
theorem dX5_behind_87 : decode cX5_behind 87 = .ok (.iconst 1, 1) := by decide +kernel
theorem dX5_behind_88 : decode cX5_behind 88 = .ok (.goto 4, 3) := by decide +kernel
theorem dX5_behind_91 : decode cX5_behind 91 = .ok (.iconst 0, 1) := by decide +kernel
theorem dX5_behind_92 : decode cX5_behind 92 = .ok (.ireturn, 1) := by decide +kernel
theorem dX5_behind_93 : decode cX5_behind 93 = .ok (.aload_n 0, 1) := by decide +kernel
theorem dX5_behind_94 : decode cX5_behind 94 = .ok (.getfield 36, 3) := by decide +kernel
theorem dX5_behind_97 : decode cX5_behind 97 = .ok (.getfield 107, 3) := by decide +kernel
theorem dX5_behind_100 : decode cX5_behind 100 = .ok (.getfield 117, 3) := by decide +kernel
theorem dX5_behind_103 : decode cX5_behind 103 = .ok (.iload_n 1, 1) := by decide +kernel
theorem dX5_behind_104 : decode cX5_behind 104 = .ok (.iaload, 1) := by decide +kernel
theorem dX5_behind_105 : decode cX5_behind 105 = .ok (.ireturn, 1) := by decide +kernel
theorem dX5_behind_106 : decode cX5_behind 106 = .ok (.aload_n 0, 1) := by decide +kernel
theorem dX5_behind_107 : decode cX5_behind 107 = .ok (.getfield 36, 3) := by decide +kernel
theorem dX5_behind_110 : decode cX5_behind 110 = .ok (.getfield 107, 3) := by decide +kernel
theorem dX5_behind_113 : decode cX5_behind 113 = .ok (.getfield 120, 3) := by decide +kernel
theorem dX5_behind_116 : decode cX5_behind 116 = .ok (.iload_n 1, 1) := by decide +kernel
theorem dX5_behind_117 : decode cX5_behind 117 = .ok (.iaload, 1) := by decide +kernel
theorem dX5_behind_118 : decode cX5_behind 118 = .ok (.ireturn, 1) := by decide +kernel
set_option maxRecDepth 20000 in
theorem ggX5_has_X5_isOne : GoodIn wsX5_has wsX5_isOne := goodIn_r _ [7, 8, 9, 6, 10] (by decide +kernel) (by decide +kernel)
set_option maxRecDepth 20000 in
theorem gX5_has_X5_isOne : GoodIn wsX5_has (va_wsS RX5 58 yX5_isOne wsX5_isOne) := goodIn_app (goodIn_of _ (by decide +kernel)) ggX5_has_X5_isOne
set_option maxRecDepth 20000 in
theorem ggX5_has_X5_nightCanBe : GoodIn wsX5_has wsX5_nightCanBe := goodIn_r _ [14, 15, 1, 16, 17, 18, 19, 20, 21, 22, 23, 24, 25, 26, 27, 28, 29, 30, 31, 32, 33, 34, 35, 36, 37, 38, 39, 40, 41, 42, 43, 9, 6, 10, 44, 45, 46, 47, 48, 49, 50, 51, 52, 53, 54, 55, 56, 57, 58, 59, 60, 61, 62, 63, 64, 65, 66, 67, 68, 69, 70, 71, 72, 73, 74, 75, 76, 77, 78, 79, 80, 81, 82, 83, 84, 85, 86, 87, 88, 89, 90, 91, 92, 93, 94, 95, 96, 97, 98, 99, 100, 101, 102, 103, 104, 105, 106, 107, 108, 109, 110, 111, 112, 113, 114, 115, 116, 117, 118, 119, 120, 121, 122, 123, 124, 125, 126, 127, 128, 129, 130, 131, 132, 133, 134, 135, 136, 137, 138, 139, 140, 141, 142, 143, 144, 145, 146, 147, 148, 149, 150, 151, 152, 153, 154, 155, 156, 157, 158, 159, 160, 161, 162, 163, 164, 165, 166, 167, 168, 169, 170, 171, 172, 173, 194, 195, 196, 197, 198, 199, 174, 175, 176, 177, 178, 179, 180, 181, 182, 183, 184, 185, 186, 187, 188, 189, 190, 191, 192, 193] (by decide +kernel) (by decide +kernel)
set_option maxRecDepth 20000 in
theorem gX5_has_X5_nightCanBe : GoodIn wsX5_has (wsV RX5 103 RX5 yX5_nightCanBe wsX5_nightCanBe) := goodIn_app (goodIn_of _ (by decide +kernel)) ggX5_has_X5_nightCanBe
theorem dX5_has_0 : decode cX5_has 0 = .ok (.iload_n 1, 1) := by decide +kernel
theorem dX5_has_1 : decode cX5_has 1 = .ok (.invokestatic 58, 3) := by decide +kernel
theorem dX5_has_4 : decode cX5_has 4 = .ok (.ifCond .ne 5, 3) := by decide +kernel
theorem dX5_has_7 : decode cX5_has 7 = .ok (.iconst (-1), 1) := by decide +kernel
theorem dX5_has_8 : decode cX5_has 8 = .ok (.ireturn, 1) := by decide +kernel
theorem dX5_has_9 : decode cX5_has 9 = .ok (.aload_n 0, 1) := by decide +kernel
theorem dX5_has_10 : decode cX5_has 10 = .ok (.invokevirtual 103, 3) := by decide +kernel
theorem dX5_has_13 : decode cX5_has 13 = .ok (.ifCond .eq 18, 3) := by decide +kernel
theorem dX5_has_16 : decode cX5_has 16 = .ok (.aload_n 0, 1) := by decide +kernel
theorem dX5_has_17 : decode cX5_has 17 = .ok (.getfield 36, 3) := by decide +kernel
theorem dX5_has_20 : decode cX5_has 20 = .ok (.getfield 107, 3) := by decide +kernel
theorem dX5_has_23 : decode cX5_has 23 = .ok (.getfield 76, 3) := by decide +kernel
theorem dX5_has_26 : decode cX5_has 26 = .ok (.iload_n 1, 1) := by decide +kernel
theorem dX5_has_27 : decode cX5_has 27 = .ok (.iaload, 1) := by decide +kernel
theorem dX5_has_28 : decode cX5_has 28 = .ok (.goto 5, 3) := by decide +kernel
theorem dX5_has_31 : decode cX5_has 31 = .ok (.bipush (-5), 2) := by decide +kernel
theorem dX5_has_33 : decode cX5_has 33 = .ok (.ireturn, 1) := by decide +kernel
set_option maxRecDepth 20000 in
theorem ggX5_then_X5_within : GoodIn wsX5_then wsX5_within := goodIn_r _ [12] (by decide +kernel) (by decide +kernel)
set_option maxRecDepth 20000 in
theorem gX5_then_X5_within : GoodIn wsX5_then (va_wsS RX5 61 yX5_within wsX5_within) := goodIn_app (goodIn_of _ (by decide +kernel)) ggX5_then_X5_within
set_option maxRecDepth 20000 in
theorem ggX5_then_X5_nightCanBe : GoodIn wsX5_then wsX5_nightCanBe := goodIn_r _ [16, 17, 1, 18, 19, 20, 21, 22, 23, 24, 25, 26, 27, 28, 29, 30, 31, 32, 33, 34, 35, 36, 37, 38, 39, 40, 41, 42, 43, 44, 45, 10, 11, 12, 46, 47, 48, 49, 50, 51, 52, 53, 54, 55, 56, 57, 58, 59, 60, 61, 62, 63, 64, 65, 66, 67, 68, 69, 70, 71, 72, 73, 74, 75, 76, 77, 78, 79, 80, 81, 82, 83, 84, 85, 86, 87, 88, 89, 90, 91, 92, 93, 94, 95, 96, 97, 98, 99, 100, 101, 102, 103, 104, 105, 106, 107, 108, 109, 110, 111, 112, 113, 114, 115, 116, 117, 118, 119, 120, 121, 122, 123, 124, 125, 126, 127, 128, 129, 130, 131, 132, 133, 134, 135, 136, 137, 138, 139, 140, 141, 142, 143, 144, 145, 146, 147, 148, 149, 150, 151, 152, 153, 154, 155, 156, 157, 158, 159, 160, 161, 162, 163, 164, 165, 166, 167, 168, 169, 170, 171, 172, 173, 174, 175, 196, 197, 198, 199, 200, 201, 176, 177, 178, 179, 180, 181, 182, 183, 184, 185, 186, 187, 188, 189, 190, 191, 192, 193, 194, 195] (by decide +kernel) (by decide +kernel)
set_option maxRecDepth 20000 in
theorem gX5_then_X5_nightCanBe : GoodIn wsX5_then (wsV RX5 103 RX5 yX5_nightCanBe wsX5_nightCanBe) := goodIn_app (goodIn_of _ (by decide +kernel)) ggX5_then_X5_nightCanBe
theorem dX5_then_0 : decode cX5_then 0 = .ok (.iload_n 1, 1) := by decide +kernel
theorem dX5_then_1 : decode cX5_then 1 = .ok (.iconst 0, 1) := by decide +kernel
theorem dX5_then_2 : decode cX5_then 2 = .ok (.iconst 5, 1) := by decide +kernel
theorem dX5_then_3 : decode cX5_then 3 = .ok (.invokestatic 61, 3) := by decide +kernel
theorem dX5_then_6 : decode cX5_then 6 = .ok (.ifCond .ne 6, 3) := by decide +kernel
theorem dX5_then_9 : decode cX5_then 9 = .ok (.bipush (-2), 2) := by decide +kernel
theorem dX5_then_11 : decode cX5_then 11 = .ok (.ireturn, 1) := by decide +kernel
theorem dX5_then_12 : decode cX5_then 12 = .ok (.aload_n 0, 1) := by decide +kernel
theorem dX5_then_13 : decode cX5_then 13 = .ok (.invokevirtual 103, 3) := by decide +kernel
theorem dX5_then_16 : decode cX5_then 16 = .ok (.ifCond .ne 6, 3) := by decide +kernel
theorem dX5_then_19 : decode cX5_then 19 = .ok (.bipush (-5), 2) := by decide +kernel
theorem dX5_then_21 : decode cX5_then 21 = .ok (.ireturn, 1) := by decide +kernel
theorem dX5_then_22 : decode cX5_then 22 = .ok (.iload_n 1, 1) := by decide +kernel
theorem dX5_then_23 : decode cX5_then 23 = .ok (.tableswitch 82 0 4 #[33, 44, 55, 66, 74], 33) := by decide +kernel
theorem dX5_then_56 : decode cX5_then 56 = .ok (.aload_n 0, 1) := by decide +kernel
theorem dX5_then_57 : decode cX5_then 57 = .ok (.getfield 36, 3) := by decide +kernel
theorem dX5_then_60 : decode cX5_then 60 = .ok (.getfield 107, 3) := by decide +kernel
theorem dX5_then_63 : decode cX5_then 63 = .ok (.getfield 123, 3) := by decide +kernel
theorem dX5_then_66 : decode cX5_then 66 = .ok (.ireturn, 1) := by decide +kernel
theorem dX5_then_67 : decode cX5_then 67 = .ok (.aload_n 0, 1) := by decide +kernel
theorem dX5_then_68 : decode cX5_then 68 = .ok (.getfield 36, 3) := by decide +kernel
theorem dX5_then_71 : decode cX5_then 71 = .ok (.getfield 107, 3) := by decide +kernel
theorem dX5_then_74 : decode cX5_then 74 = .ok (.getfield 79, 3) := by decide +kernel
theorem dX5_then_77 : decode cX5_then 77 = .ok (.ireturn, 1) := by decide +kernel
theorem dX5_then_78 : decode cX5_then 78 = .ok (.aload_n 0, 1) := by decide +kernel
theorem dX5_then_79 : decode cX5_then 79 = .ok (.getfield 36, 3) := by decide +kernel
theorem dX5_then_82 : decode cX5_then 82 = .ok (.getfield 107, 3) := by decide +kernel
theorem dX5_then_85 : decode cX5_then 85 = .ok (.getfield 126, 3) := by decide +kernel
theorem dX5_then_88 : decode cX5_then 88 = .ok (.ireturn, 1) := by decide +kernel
theorem dX5_then_89 : decode cX5_then 89 = .ok (.aload_n 0, 1) := by decide +kernel
theorem dX5_then_90 : decode cX5_then 90 = .ok (.getfield 36, 3) := by decide +kernel
theorem dX5_then_93 : decode cX5_then 93 = .ok (.getfield 129, 3) := by decide +kernel
theorem dX5_then_96 : decode cX5_then 96 = .ok (.ireturn, 1) := by decide +kernel
theorem dX5_then_97 : decode cX5_then 97 = .ok (.aload_n 0, 1) := by decide +kernel
theorem dX5_then_98 : decode cX5_then 98 = .ok (.getfield 36, 3) := by decide +kernel
theorem dX5_then_101 : decode cX5_then 101 = .ok (.getfield 132, 3) := by decide +kernel
theorem dX5_then_104 : decode cX5_then 104 = .ok (.ireturn, 1) := by decide +kernel
theorem dX5_then_105 : decode cX5_then 105 = .ok (.aload_n 0, 1) := by decide +kernel
theorem dX5_then_106 : decode cX5_then 106 = .ok (.getfield 36, 3) := by decide +kernel
theorem dX5_then_109 : decode cX5_then 109 = .ok (.getfield 135, 3) := by decide +kernel
theorem dX5_then_112 : decode cX5_then 112 = .ok (.ireturn, 1) := by decide +kernel
set_option maxRecDepth 20000 in
theorem ggX5_lasts_X5_isCandle : GoodIn wsX5_lasts wsX5_isCandle := goodIn_r _ [5, 6, 7, 4, 8] (by decide +kernel) (by decide +kernel)
set_option maxRecDepth 20000 in
theorem gX5_lasts_X5_isCandle : GoodIn wsX5_lasts (va_wsS RX5 54 yX5_isCandle wsX5_isCandle) := goodIn_app (goodIn_of _ (by decide +kernel)) ggX5_lasts_X5_isCandle
set_option maxRecDepth 20000 in
theorem ggX5_lasts_X3_minutesLeft : GoodIn wsX5_lasts wsX3_minutesLeft := goodIn_r _ [13, 14, 15, 16, 17, 12, 18, 19, 20, 21, 22, 23, 24, 33, 34, 35, 36, 37, 38, 39, 40, 41, 42, 43, 44, 45, 46] (by decide +kernel) (by decide +kernel)
set_option maxRecDepth 20000 in
theorem gX5_lasts_X3_minutesLeft : GoodIn wsX5_lasts (wsV RX5 138 RX3 yX3_minutesLeft wsX3_minutesLeft) := goodIn_app (goodIn_of _ (by decide +kernel)) ggX5_lasts_X3_minutesLeft
theorem dX5_lasts_0 : decode cX5_lasts 0 = .ok (.iload_n 1, 1) := by decide +kernel
theorem dX5_lasts_1 : decode cX5_lasts 1 = .ok (.invokestatic 54, 3) := by decide +kernel
theorem dX5_lasts_4 : decode cX5_lasts 4 = .ok (.ifCond .eq 14, 3) := by decide +kernel
theorem dX5_lasts_7 : decode cX5_lasts 7 = .ok (.aload_n 0, 1) := by decide +kernel
theorem dX5_lasts_8 : decode cX5_lasts 8 = .ok (.getfield 12, 3) := by decide +kernel
theorem dX5_lasts_11 : decode cX5_lasts 11 = .ok (.iload_n 1, 1) := by decide +kernel
theorem dX5_lasts_12 : decode cX5_lasts 12 = .ok (.invokevirtual 138, 3) := by decide +kernel
theorem dX5_lasts_15 : decode cX5_lasts 15 = .ok (.goto 4, 3) := by decide +kernel
theorem dX5_lasts_18 : decode cX5_lasts 18 = .ok (.iconst (-1), 1) := by decide +kernel
theorem dX5_lasts_19 : decode cX5_lasts 19 = .ok (.ireturn, 1) := by decide +kernel
set_option maxRecDepth 20000 in
theorem ggX5_joined_X5_isCandle : GoodIn wsX5_joined wsX5_isCandle := goodIn_r _ [6, 7, 8, 5, 9] (by decide +kernel) (by decide +kernel)
set_option maxRecDepth 20000 in
theorem gX5_joined_X5_isCandle : GoodIn wsX5_joined (va_wsS RX5 54 yX5_isCandle wsX5_isCandle) := goodIn_app (goodIn_of _ (by decide +kernel)) ggX5_joined_X5_isCandle
