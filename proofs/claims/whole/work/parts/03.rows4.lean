theorem dX6_behind_18 : decode cX6_behind 18 = .ok (.bipush (-2), 2) := by decide +kernel
theorem dX6_behind_20 : decode cX6_behind 20 = .ok (.ireturn, 1) := by decide +kernel
theorem dX6_behind_21 : decode cX6_behind 21 = .ok (.aload_n 0, 1) := by decide +kernel
theorem dX6_behind_22 : decode cX6_behind 22 = .ok (.invokevirtual 140, 3) := by decide +kernel
theorem dX6_behind_25 : decode cX6_behind 25 = .ok (.ifCond .ge 6, 3) := by decide +kernel
theorem dX6_behind_28 : decode cX6_behind 28 = .ok (.bipush (-5), 2) := by decide +kernel
theorem dX6_behind_30 : decode cX6_behind 30 = .ok (.ireturn, 1) := by decide +kernel
theorem dX6_behind_31 : decode cX6_behind 31 = .ok (.iload_n 2, 1) := by decide +kernel
theorem dX6_behind_32 : decode cX6_behind 32 = .ok (.ifCond .ne 12, 3) := by decide +kernel
theorem dX6_behind_35 : decode cX6_behind 35 = .ok (.aload_n 0, 1) := by decide +kernel
theorem dX6_behind_36 : decode cX6_behind 36 = .ok (.getfield 13, 3) := by decide +kernel
theorem dX6_behind_39 : decode cX6_behind 39 = .ok (.iload_n 1, 1) := by decide +kernel
theorem dX6_behind_40 : decode cX6_behind 40 = .ok (.iaload, 1) := by decide +kernel
theorem dX6_behind_41 : decode cX6_behind 41 = .ok (.goto 48, 3) := by decide +kernel
theorem dX6_behind_44 : decode cX6_behind 44 = .ok (.iload_n 2, 1) := by decide +kernel
theorem dX6_behind_45 : decode cX6_behind 45 = .ok (.iconst 1, 1) := by decide +kernel
theorem dX6_behind_46 : decode cX6_behind 46 = .ok (.if_icmp .ne 17, 3) := by decide +kernel
theorem dX6_behind_49 : decode cX6_behind 49 = .ok (.aload_n 0, 1) := by decide +kernel
theorem dX6_behind_50 : decode cX6_behind 50 = .ok (.getfield 13, 3) := by decide +kernel
theorem dX6_behind_53 : decode cX6_behind 53 = .ok (.bipush 66, 2) := by decide +kernel
theorem dX6_behind_55 : decode cX6_behind 55 = .ok (.iaload, 1) := by decide +kernel
theorem dX6_behind_56 : decode cX6_behind 56 = .ok (.iload_n 1, 1) := by decide +kernel
theorem dX6_behind_57 : decode cX6_behind 57 = .ok (.ishr, 1) := by decide +kernel
theorem dX6_behind_58 : decode cX6_behind 58 = .ok (.iconst 1, 1) := by decide +kernel
theorem dX6_behind_59 : decode cX6_behind 59 = .ok (.iand, 1) := by decide +kernel
theorem dX6_behind_60 : decode cX6_behind 60 = .ok (.goto 29, 3) := by decide +kernel
theorem dX6_behind_63 : decode cX6_behind 63 = .ok (.iload_n 2, 1) := by decide +kernel
theorem dX6_behind_64 : decode cX6_behind 64 = .ok (.iconst 2, 1) := by decide +kernel
theorem dX6_behind_65 : decode cX6_behind 65 = .ok (.if_icmp .ne 15, 3) := by decide +kernel
theorem dX6_behind_68 : decode cX6_behind 68 = .ok (.aload_n 0, 1) := by decide +kernel
theorem dX6_behind_69 : decode cX6_behind 69 = .ok (.getfield 13, 3) := by decide +kernel
theorem dX6_behind_72 : decode cX6_behind 72 = .ok (.bipush 12, 2) := by decide +kernel
theorem dX6_behind_74 : decode cX6_behind 74 = .ok (.iload_n 1, 1) := by decide +kernel
theorem dX6_behind_75 : decode cX6_behind 75 = .ok (.iadd, 1) := by decide +kernel
theorem dX6_behind_76 : decode cX6_behind 76 = .ok (.iaload, 1) := by decide +kernel
theorem dX6_behind_77 : decode cX6_behind 77 = .ok (.goto 12, 3) := by decide +kernel
theorem dX6_behind_80 : decode cX6_behind 80 = .ok (.aload_n 0, 1) := by decide +kernel
theorem dX6_behind_81 : decode cX6_behind 81 = .ok (.getfield 13, 3) := by decide +kernel
theorem dX6_behind_84 : decode cX6_behind 84 = .ok (.bipush 24, 2) := by decide +kernel
theorem dX6_behind_86 : decode cX6_behind 86 = .ok (.iload_n 1, 1) := by decide +kernel
theorem dX6_behind_87 : decode cX6_behind 87 = .ok (.iadd, 1) := by decide +kernel
theorem dX6_behind_88 : decode cX6_behind 88 = .ok (.iaload, 1) := by decide +kernel
theorem dX6_behind_89 : decode cX6_behind 89 = .ok (.ireturn, 1) := by decide +kernel
set_option maxRecDepth 20000 in
theorem ggX6_has_X6_isOne : GoodIn wsX6_has wsX6_isOne := goodIn_r _ [5, 6, 7, 4, 8] (by decide +kernel) (by decide +kernel)
set_option maxRecDepth 20000 in
theorem gX6_has_X6_isOne : GoodIn wsX6_has (va_wsS RX6 61 yX6_isOne wsX6_isOne) := goodIn_app (goodIn_of _ (by decide +kernel)) ggX6_has_X6_isOne
set_option maxRecDepth 20000 in
theorem ggX6_has_X6_barOfNights : GoodIn wsX6_has wsX6_barOfNights := goodIn_r _ [12, 13, 14, 15, 4, 16, 17, 18, 19, 20, 21, 6, 7, 8, 22, 23, 24, 25, 26, 27, 28, 29, 30, 31, 32, 33, 34, 1, 35, 36, 37, 38, 39, 40, 41, 42, 43, 44, 45, 46, 47, 48, 49, 50, 51, 52, 53, 54, 55, 56, 57, 58, 59, 60, 61, 62, 63, 64, 65, 66, 67, 68, 69, 70, 71, 72, 73, 74, 75, 76, 77, 78, 79, 80, 81, 82, 83, 84, 85, 86, 87, 88, 89, 90, 91, 92, 93, 94, 95, 96, 97, 98, 99, 100, 101, 102, 103, 104, 105, 106, 107] (by decide +kernel) (by decide +kernel)
set_option maxRecDepth 20000 in
theorem gX6_has_X6_barOfNights : GoodIn wsX6_has (wsV RX6 140 RX6 yX6_barOfNights wsX6_barOfNights) := goodIn_app (goodIn_of _ (by decide +kernel)) ggX6_has_X6_barOfNights
theorem dX6_has_0 : decode cX6_has 0 = .ok (.iload_n 1, 1) := by decide +kernel
theorem dX6_has_1 : decode cX6_has 1 = .ok (.invokestatic 61, 3) := by decide +kernel
theorem dX6_has_4 : decode cX6_has 4 = .ok (.ifCond .ne 5, 3) := by decide +kernel
theorem dX6_has_7 : decode cX6_has 7 = .ok (.iconst (-1), 1) := by decide +kernel
theorem dX6_has_8 : decode cX6_has 8 = .ok (.ireturn, 1) := by decide +kernel
theorem dX6_has_9 : decode cX6_has 9 = .ok (.aload_n 0, 1) := by decide +kernel
theorem dX6_has_10 : decode cX6_has 10 = .ok (.invokevirtual 140, 3) := by decide +kernel
theorem dX6_has_13 : decode cX6_has 13 = .ok (.ifCond .ge 8, 3) := by decide +kernel
theorem dX6_has_16 : decode cX6_has 16 = .ok (.bipush (-5), 2) := by decide +kernel
theorem dX6_has_18 : decode cX6_has 18 = .ok (.goto 12, 3) := by decide +kernel
theorem dX6_has_21 : decode cX6_has 21 = .ok (.aload_n 0, 1) := by decide +kernel
theorem dX6_has_22 : decode cX6_has 22 = .ok (.getfield 13, 3) := by decide +kernel
theorem dX6_has_25 : decode cX6_has 25 = .ok (.bipush 60, 2) := by decide +kernel
theorem dX6_has_27 : decode cX6_has 27 = .ok (.iload_n 1, 1) := by decide +kernel
theorem dX6_has_28 : decode cX6_has 28 = .ok (.iadd, 1) := by decide +kernel
theorem dX6_has_29 : decode cX6_has 29 = .ok (.iaload, 1) := by decide +kernel
theorem dX6_has_30 : decode cX6_has 30 = .ok (.ireturn, 1) := by decide +kernel
set_option maxRecDepth 20000 in
theorem ggX6_then_X6_in : GoodIn wsX6_then wsX6_in := goodIn_r _ [8] (by decide +kernel) (by decide +kernel)
set_option maxRecDepth 20000 in
theorem gX6_then_X6_in : GoodIn wsX6_then (va_wsS RX6 53 yX6_in wsX6_in) := goodIn_app (goodIn_of _ (by decide +kernel)) ggX6_then_X6_in
set_option maxRecDepth 20000 in
theorem ggX6_then_X6_barOfNights : GoodIn wsX6_then wsX6_barOfNights := goodIn_r _ [12, 13, 14, 15, 7, 16, 17, 18, 19, 20, 21, 5, 6, 8, 22, 23, 24, 25, 26, 27, 28, 3, 4, 29, 30, 31, 32, 1, 33, 2, 34, 35, 36, 37, 38, 39, 40, 41, 42, 43, 44, 45, 46, 47, 48, 49, 50, 51, 52, 53, 54, 55, 56, 57, 58, 59, 60, 61, 62, 63, 64, 65, 66, 67, 68, 69, 70, 71, 72, 73, 74, 75, 76, 77, 78, 79, 80, 81, 82, 83, 84, 85, 86, 87, 88, 89, 90, 91, 92, 93, 94, 95, 96, 97, 98, 99, 100, 101, 102, 103, 104] (by decide +kernel) (by decide +kernel)
set_option maxRecDepth 20000 in
theorem gX6_then_X6_barOfNights : GoodIn wsX6_then (wsV RX6 140 RX6 yX6_barOfNights wsX6_barOfNights) := goodIn_app (goodIn_of _ (by decide +kernel)) ggX6_then_X6_barOfNights
theorem dX6_then_0 : decode cX6_then 0 = .ok (.iload_n 1, 1) := by decide +kernel
theorem dX6_then_1 : decode cX6_then 1 = .ok (.iconst 0, 1) := by decide +kernel
theorem dX6_then_2 : decode cX6_then 2 = .ok (.iconst 5, 1) := by decide +kernel
theorem dX6_then_3 : decode cX6_then 3 = .ok (.invokestatic 53, 3) := by decide +kernel
theorem dX6_then_6 : decode cX6_then 6 = .ok (.ifCond .ne 6, 3) := by decide +kernel
theorem dX6_then_9 : decode cX6_then 9 = .ok (.bipush (-2), 2) := by decide +kernel
theorem dX6_then_11 : decode cX6_then 11 = .ok (.ireturn, 1) := by decide +kernel
theorem dX6_then_12 : decode cX6_then 12 = .ok (.aload_n 0, 1) := by decide +kernel
theorem dX6_then_13 : decode cX6_then 13 = .ok (.invokevirtual 140, 3) := by decide +kernel
theorem dX6_then_16 : decode cX6_then 16 = .ok (.ifCond .ge 6, 3) := by decide +kernel
theorem dX6_then_19 : decode cX6_then 19 = .ok (.bipush (-5), 2) := by decide +kernel
theorem dX6_then_21 : decode cX6_then 21 = .ok (.ireturn, 1) := by decide +kernel
theorem dX6_then_22 : decode cX6_then 22 = .ok (.iload_n 1, 1) := by decide +kernel
theorem dX6_then_23 : decode cX6_then 23 = .ok (.iconst 3, 1) := by decide +kernel
theorem dX6_then_24 : decode cX6_then 24 = .ok (.if_icmp .ge 15, 3) := by decide +kernel
theorem dX6_then_27 : decode cX6_then 27 = .ok (.aload_n 0, 1) := by decide +kernel
theorem dX6_then_28 : decode cX6_then 28 = .ok (.getfield 13, 3) := by decide +kernel
theorem dX6_then_31 : decode cX6_then 31 = .ok (.bipush 66, 2) := by decide +kernel
theorem dX6_then_33 : decode cX6_then 33 = .ok (.iload_n 1, 1) := by decide +kernel
theorem dX6_then_34 : decode cX6_then 34 = .ok (.iadd, 1) := by decide +kernel
theorem dX6_then_35 : decode cX6_then 35 = .ok (.iaload, 1) := by decide +kernel
theorem dX6_then_36 : decode cX6_then 36 = .ok (.goto 31, 3) := by decide +kernel
theorem dX6_then_39 : decode cX6_then 39 = .ok (.iload_n 1, 1) := by decide +kernel
theorem dX6_then_40 : decode cX6_then 40 = .ok (.iconst 3, 1) := by decide +kernel
theorem dX6_then_41 : decode cX6_then 41 = .ok (.if_icmp .ne 10, 3) := by decide +kernel
theorem dX6_then_44 : decode cX6_then 44 = .ok (.aload_n 0, 1) := by decide +kernel
theorem dX6_then_45 : decode cX6_then 45 = .ok (.getfield 82, 3) := by decide +kernel
theorem dX6_then_48 : decode cX6_then 48 = .ok (.goto 19, 3) := by decide +kernel
theorem dX6_then_51 : decode cX6_then 51 = .ok (.iload_n 1, 1) := by decide +kernel
theorem dX6_then_52 : decode cX6_then 52 = .ok (.iconst 4, 1) := by decide +kernel
theorem dX6_then_53 : decode cX6_then 53 = .ok (.if_icmp .ne 10, 3) := by decide +kernel
theorem dX6_then_56 : decode cX6_then 56 = .ok (.aload_n 0, 1) := by decide +kernel
theorem dX6_then_57 : decode cX6_then 57 = .ok (.getfield 85, 3) := by decide +kernel
theorem dX6_then_60 : decode cX6_then 60 = .ok (.goto 7, 3) := by decide +kernel
theorem dX6_then_63 : decode cX6_then 63 = .ok (.aload_n 0, 1) := by decide +kernel
theorem dX6_then_64 : decode cX6_then 64 = .ok (.getfield 88, 3) := by decide +kernel
theorem dX6_then_67 : decode cX6_then 67 = .ok (.ireturn, 1) := by decide +kernel
set_option maxRecDepth 20000 in
theorem ggX6_lastsOf_X6_asNow : GoodIn wsX6_lastsOf wsX6_asNow := goodIn_r _ [6, 7, 1, 8, 9, 10, 15, 16, 17, 18, 19, 20, 21, 22, 23, 24, 25, 26, 27, 28, 29, 30, 31, 32, 33, 34, 35, 36] (by decide +kernel) (by decide +kernel)
set_option maxRecDepth 20000 in
theorem gX6_lastsOf_X6_asNow : GoodIn wsX6_lastsOf (wsV RX6 64 RX6 yX6_asNow wsX6_asNow) := goodIn_app (goodIn_of _ (by decide +kernel)) ggX6_lastsOf_X6_asNow
set_option maxRecDepth 20000 in
theorem ggX6_lastsOf_X6_burnOf : GoodIn wsX6_lastsOf wsX6_burnOf := goodIn_r _ [14, 7, 15, 16, 17, 18, 19, 20, 21, 22, 23, 24, 25, 26, 27, 28, 29, 30, 31, 32, 33, 34, 35, 36] (by decide +kernel) (by decide +kernel)
set_option maxRecDepth 20000 in
theorem gX6_lastsOf_X6_burnOf : GoodIn wsX6_lastsOf (wsV RX6 98 RX6 yX6_burnOf wsX6_burnOf) := goodIn_app (goodIn_of _ (by decide +kernel)) ggX6_lastsOf_X6_burnOf
theorem dX6_lastsOf_0 : decode cX6_lastsOf 0 = .ok (.aload_n 0, 1) := by decide +kernel
theorem dX6_lastsOf_1 : decode cX6_lastsOf 1 = .ok (.invokevirtual 64, 3) := by decide +kernel
theorem dX6_lastsOf_4 : decode cX6_lastsOf 4 = .ok (.aload_n 0, 1) := by decide +kernel
theorem dX6_lastsOf_5 : decode cX6_lastsOf 5 = .ok (.iload_n 1, 1) := by decide +kernel
theorem dX6_lastsOf_6 : decode cX6_lastsOf 6 = .ok (.invokevirtual 98, 3) := by decide +kernel
theorem dX6_lastsOf_9 : decode cX6_lastsOf 9 = .ok (.istore_n 2, 1) := by decide +kernel
theorem dX6_lastsOf_10 : decode cX6_lastsOf 10 = .ok (.aload_n 0, 1) := by decide +kernel
theorem dX6_lastsOf_11 : decode cX6_lastsOf 11 = .ok (.getfield 7, 3) := by decide +kernel
theorem dX6_lastsOf_14 : decode cX6_lastsOf 14 = .ok (.iload_n 1, 1) := by decide +kernel
theorem dX6_lastsOf_15 : decode cX6_lastsOf 15 = .ok (.iaload, 1) := by decide +kernel
theorem dX6_lastsOf_16 : decode cX6_lastsOf 16 = .ok (.iload_n 2, 1) := by decide +kernel
theorem dX6_lastsOf_17 : decode cX6_lastsOf 17 = .ok (.iadd, 1) := by decide +kernel
theorem dX6_lastsOf_18 : decode cX6_lastsOf 18 = .ok (.iconst 1, 1) := by decide +kernel
theorem dX6_lastsOf_19 : decode cX6_lastsOf 19 = .ok (.isub, 1) := by decide +kernel
theorem dX6_lastsOf_20 : decode cX6_lastsOf 20 = .ok (.iload_n 2, 1) := by decide +kernel
theorem dX6_lastsOf_21 : decode cX6_lastsOf 21 = .ok (.idiv, 1) := by decide +kernel
theorem dX6_lastsOf_22 : decode cX6_lastsOf 22 = .ok (.ireturn, 1) := by decide +kernel
set_option maxRecDepth 20000 in
theorem ggX6_lasts_X6_isCandle : GoodIn wsX6_lasts wsX6_isCandle := goodIn_r _ [4, 5, 6, 3, 7] (by decide +kernel) (by decide +kernel)
set_option maxRecDepth 20000 in
theorem gX6_lasts_X6_isCandle : GoodIn wsX6_lasts (va_wsS RX6 57 yX6_isCandle wsX6_isCandle) := goodIn_app (goodIn_of _ (by decide +kernel)) ggX6_lasts_X6_isCandle
set_option maxRecDepth 20000 in
theorem ggX6_lasts_X6_lastsOf : GoodIn wsX6_lasts wsX6_lastsOf := goodIn_r _ [11, 12, 13, 14, 15, 3, 16, 17, 18, 19, 20, 21, 22, 23, 24, 25, 26, 27, 28, 29, 30, 31, 32, 33, 34, 35, 36, 37, 38, 39, 40, 41, 42, 43, 44, 45, 46] (by decide +kernel) (by decide +kernel)
set_option maxRecDepth 20000 in
theorem gX6_lasts_X6_lastsOf : GoodIn wsX6_lasts (wsV RX6 143 RX6 yX6_lastsOf wsX6_lastsOf) := goodIn_app (goodIn_of _ (by decide +kernel)) ggX6_lasts_X6_lastsOf
theorem dX6_lasts_0 : decode cX6_lasts 0 = .ok (.iload_n 1, 1) := by decide +kernel
theorem dX6_lasts_1 : decode cX6_lasts 1 = .ok (.invokestatic 57, 3) := by decide +kernel
theorem dX6_lasts_4 : decode cX6_lasts 4 = .ok (.ifCond .eq 11, 3) := by decide +kernel
theorem dX6_lasts_7 : decode cX6_lasts 7 = .ok (.aload_n 0, 1) := by decide +kernel
theorem dX6_lasts_8 : decode cX6_lasts 8 = .ok (.iload_n 1, 1) := by decide +kernel
theorem dX6_lasts_9 : decode cX6_lasts 9 = .ok (.invokevirtual 143, 3) := by decide +kernel
theorem dX6_lasts_12 : decode cX6_lasts 12 = .ok (.goto 4, 3) := by decide +kernel
theorem dX6_lasts_15 : decode cX6_lasts 15 = .ok (.iconst (-1), 1) := by decide +kernel
theorem dX6_lasts_16 : decode cX6_lasts 16 = .ok (.ireturn, 1) := by decide +kernel
set_option maxRecDepth 20000 in
theorem ggX6_joined_X6_isCandle : GoodIn wsX6_joined wsX6_isCandle := goodIn_r _ [5, 6, 7, 4, 8] (by decide +kernel) (by decide +kernel)
set_option maxRecDepth 20000 in
theorem gX6_joined_X6_isCandle : GoodIn wsX6_joined (va_wsS RX6 57 yX6_isCandle wsX6_isCandle) := goodIn_app (goodIn_of _ (by decide +kernel)) ggX6_joined_X6_isCandle
theorem dX6_joined_0 : decode cX6_joined 0 = .ok (.iload_n 1, 1) := by decide +kernel
theorem dX6_joined_1 : decode cX6_joined 1 = .ok (.invokestatic 57, 3) := by decide +kernel
theorem dX6_joined_4 : decode cX6_joined 4 = .ok (.ifCond .eq 21, 3) := by decide +kernel
theorem dX6_joined_7 : decode cX6_joined 7 = .ok (.aload_n 0, 1) := by decide +kernel
theorem dX6_joined_8 : decode cX6_joined 8 = .ok (.getfield 7, 3) := by decide +kernel
theorem dX6_joined_11 : decode cX6_joined 11 = .ok (.bipush 48, 2) := by decide +kernel
theorem dX6_joined_13 : decode cX6_joined 13 = .ok (.iload_n 1, 1) := by decide +kernel
theorem dX6_joined_14 : decode cX6_joined 14 = .ok (.iadd, 1) := by decide +kernel
theorem dX6_joined_15 : decode cX6_joined 15 = .ok (.iaload, 1) := by decide +kernel
theorem dX6_joined_16 : decode cX6_joined 16 = .ok (.iconst 1, 1) := by decide +kernel
theorem dX6_joined_17 : decode cX6_joined 17 = .ok (.iload_n 1, 1) := by decide +kernel
theorem dX6_joined_18 : decode cX6_joined 18 = .ok (.ishl, 1) := by decide +kernel
theorem dX6_joined_19 : decode cX6_joined 19 = .ok (.iconst (-1), 1) := by decide +kernel
theorem dX6_joined_20 : decode cX6_joined 20 = .ok (.ixor, 1) := by decide +kernel
theorem dX6_joined_21 : decode cX6_joined 21 = .ok (.iand, 1) := by decide +kernel
theorem dX6_joined_22 : decode cX6_joined 22 = .ok (.goto 4, 3) := by decide +kernel
theorem dX6_joined_25 : decode cX6_joined 25 = .ok (.iconst (-1), 1) := by decide +kernel
theorem dX6_joined_26 : decode cX6_joined 26 = .ok (.ireturn, 1) := by decide +kernel
set_option maxRecDepth 20000 in
theorem ggX6_may_X6_isOne : GoodIn wsX6_may wsX6_isOne := goodIn_r _ [6, 7, 8, 5, 9] (by decide +kernel) (by decide +kernel)
set_option maxRecDepth 20000 in
theorem gX6_may_X6_isOne : GoodIn wsX6_may (va_wsS RX6 61 yX6_isOne wsX6_isOne) := goodIn_app (goodIn_of _ (by decide +kernel)) ggX6_may_X6_isOne
set_option maxRecDepth 20000 in
theorem ggX6_may_X6_isIn : GoodIn wsX6_may wsX6_isIn := goodIn_r _ [12] (by decide +kernel) (by decide +kernel)
set_option maxRecDepth 20000 in
theorem gX6_may_X6_isIn : GoodIn wsX6_may (va_wsS RX6 91 yX6_isIn wsX6_isIn) := goodIn_app (goodIn_of _ (by decide +kernel)) ggX6_may_X6_isIn
theorem dX6_may_0 : decode cX6_may 0 = .ok (.iload_n 1, 1) := by decide +kernel
theorem dX6_may_1 : decode cX6_may 1 = .ok (.invokestatic 61, 3) := by decide +kernel
theorem dX6_may_4 : decode cX6_may 4 = .ok (.ifCond .ne 5, 3) := by decide +kernel
theorem dX6_may_7 : decode cX6_may 7 = .ok (.iconst (-1), 1) := by decide +kernel
theorem dX6_may_8 : decode cX6_may 8 = .ok (.ireturn, 1) := by decide +kernel
theorem dX6_may_9 : decode cX6_may 9 = .ok (.iconst 0, 1) := by decide +kernel
theorem dX6_may_10 : decode cX6_may 10 = .ok (.istore_n 2, 1) := by decide +kernel
theorem dX6_may_11 : decode cX6_may 11 = .ok (.iconst 0, 1) := by decide +kernel
theorem dX6_may_12 : decode cX6_may 12 = .ok (.istore_n 3, 1) := by decide +kernel
theorem dX6_may_13 : decode cX6_may 13 = .ok (.iload_n 3, 1) := by decide +kernel
theorem dX6_may_14 : decode cX6_may 14 = .ok (.bipush 12, 2) := by decide +kernel
theorem dX6_may_16 : decode cX6_may 16 = .ok (.if_icmp .ge 55, 3) := by decide +kernel
theorem dX6_may_19 : decode cX6_may 19 = .ok (.iload_n 2, 1) := by decide +kernel
theorem dX6_may_20 : decode cX6_may 20 = .ok (.aload_n 0, 1) := by decide +kernel
theorem dX6_may_21 : decode cX6_may 21 = .ok (.getfield 7, 3) := by decide +kernel
theorem dX6_may_24 : decode cX6_may 24 = .ok (.bipush 66, 2) := by decide +kernel
theorem dX6_may_26 : decode cX6_may 26 = .ok (.iaload, 1) := by decide +kernel
theorem dX6_may_27 : decode cX6_may 27 = .ok (.iload_n 3, 1) := by decide +kernel
theorem dX6_may_28 : decode cX6_may 28 = .ok (.invokestatic 91, 3) := by decide +kernel
theorem dX6_may_31 : decode cX6_may 31 = .ok (.ifCond .eq 31, 3) := by decide +kernel
theorem dX6_may_34 : decode cX6_may 34 = .ok (.aload_n 0, 1) := by decide +kernel
theorem dX6_may_35 : decode cX6_may 35 = .ok (.getfield 16, 3) := by decide +kernel
theorem dX6_may_38 : decode cX6_may 38 = .ok (.iload_n 3, 1) := by decide +kernel
theorem dX6_may_39 : decode cX6_may 39 = .ok (.iaload, 1) := by decide +kernel
theorem dX6_may_40 : decode cX6_may 40 = .ok (.iload_n 1, 1) := by decide +kernel
theorem dX6_may_41 : decode cX6_may 41 = .ok (.if_icmp .ne 21, 3) := by decide +kernel
theorem dX6_may_44 : decode cX6_may 44 = .ok (.aload_n 0, 1) := by decide +kernel
theorem dX6_may_45 : decode cX6_may 45 = .ok (.getfield 7, 3) := by decide +kernel
theorem dX6_may_48 : decode cX6_may 48 = .ok (.bipush 12, 2) := by decide +kernel
theorem dX6_may_50 : decode cX6_may 50 = .ok (.iload_n 3, 1) := by decide +kernel
theorem dX6_may_51 : decode cX6_may 51 = .ok (.iadd, 1) := by decide +kernel
theorem dX6_may_52 : decode cX6_may 52 = .ok (.iaload, 1) := by decide +kernel
theorem dX6_may_53 : decode cX6_may 53 = .ok (.ifCond .le 9, 3) := by decide +kernel
theorem dX6_may_56 : decode cX6_may 56 = .ok (.iconst 1, 1) := by decide +kernel
theorem dX6_may_57 : decode cX6_may 57 = .ok (.iload_n 3, 1) := by decide +kernel
theorem dX6_may_58 : decode cX6_may 58 = .ok (.ishl, 1) := by decide +kernel
theorem dX6_may_59 : decode cX6_may 59 = .ok (.goto 4, 3) := by decide +kernel
theorem dX6_may_62 : decode cX6_may 62 = .ok (.iconst 0, 1) := by decide +kernel
theorem dX6_may_63 : decode cX6_may 63 = .ok (.ior, 1) := by decide +kernel
theorem dX6_may_64 : decode cX6_may 64 = .ok (.istore_n 2, 1) := by decide +kernel
theorem dX6_may_65 : decode cX6_may 65 = .ok (.iinc 3 1, 3) := by decide +kernel
theorem dX6_may_68 : decode cX6_may 68 = .ok (.goto (-55), 3) := by decide +kernel
theorem dX6_may_71 : decode cX6_may 71 = .ok (.iload_n 2, 1) := by decide +kernel
theorem dX6_may_72 : decode cX6_may 72 = .ok (.ireturn, 1) := by decide +kernel
set_option maxRecDepth 20000 in
theorem ggX6_net_X6_isOne : GoodIn wsX6_net wsX6_isOne := goodIn_r _ [8, 9, 10, 7, 11] (by decide +kernel) (by decide +kernel)
set_option maxRecDepth 20000 in
theorem gX6_net_X6_isOne : GoodIn wsX6_net (va_wsS RX6 61 yX6_isOne wsX6_isOne) := goodIn_app (goodIn_of _ (by decide +kernel)) ggX6_net_X6_isOne
set_option maxRecDepth 20000 in
theorem ggX6_net_X6_isIn : GoodIn wsX6_net wsX6_isIn := goodIn_r _ [14] (by decide +kernel) (by decide +kernel)
set_option maxRecDepth 20000 in
theorem gX6_net_X6_isIn : GoodIn wsX6_net (va_wsS RX6 91 yX6_isIn wsX6_isIn) := goodIn_app (goodIn_of _ (by decide +kernel)) ggX6_net_X6_isIn
theorem dX6_net_0 : decode cX6_net 0 = .ok (.iload_n 1, 1) := by decide +kernel
theorem dX6_net_1 : decode cX6_net 1 = .ok (.invokestatic 61, 3) := by decide +kernel
theorem dX6_net_4 : decode cX6_net 4 = .ok (.ifCond .ne 5, 3) := by decide +kernel
theorem dX6_net_7 : decode cX6_net 7 = .ok (.iconst (-1), 1) := by decide +kernel
theorem dX6_net_8 : decode cX6_net 8 = .ok (.ireturn, 1) := by decide +kernel
theorem dX6_net_9 : decode cX6_net 9 = .ok (.ldc 146, 2) := by decide +kernel
theorem dX6_net_11 : decode cX6_net 11 = .ok (.istore_n 2, 1) := by decide +kernel
theorem dX6_net_12 : decode cX6_net 12 = .ok (.iconst 0, 1) := by decide +kernel
theorem dX6_net_13 : decode cX6_net 13 = .ok (.istore_n 3, 1) := by decide +kernel
theorem dX6_net_14 : decode cX6_net 14 = .ok (.iload_n 3, 1) := by decide +kernel
theorem dX6_net_15 : decode cX6_net 15 = .ok (.bipush 12, 2) := by decide +kernel
theorem dX6_net_17 : decode cX6_net 17 = .ok (.if_icmp .ge 75, 3) := by decide +kernel
theorem dX6_net_20 : decode cX6_net 20 = .ok (.aload_n 0, 1) := by decide +kernel
theorem dX6_net_21 : decode cX6_net 21 = .ok (.getfield 7, 3) := by decide +kernel
theorem dX6_net_24 : decode cX6_net 24 = .ok (.bipush 66, 2) := by decide +kernel
theorem dX6_net_26 : decode cX6_net 26 = .ok (.iaload, 1) := by decide +kernel
theorem dX6_net_27 : decode cX6_net 27 = .ok (.iload_n 3, 1) := by decide +kernel
theorem dX6_net_28 : decode cX6_net 28 = .ok (.invokestatic 91, 3) := by decide +kernel
theorem dX6_net_31 : decode cX6_net 31 = .ok (.ifCond .eq 55, 3) := by decide +kernel
theorem dX6_net_34 : decode cX6_net 34 = .ok (.iload_n 2, 1) := by decide +kernel
theorem dX6_net_35 : decode cX6_net 35 = .ok (.aload_n 0, 1) := by decide +kernel
theorem dX6_net_36 : decode cX6_net 36 = .ok (.getfield 16, 3) := by decide +kernel
theorem dX6_net_39 : decode cX6_net 39 = .ok (.iload_n 3, 1) := by decide +kernel
theorem dX6_net_40 : decode cX6_net 40 = .ok (.iaload, 1) := by decide +kernel
theorem dX6_net_41 : decode cX6_net 41 = .ok (.iload_n 1, 1) := by decide +kernel
theorem dX6_net_42 : decode cX6_net 42 = .ok (.if_icmp .ne 15, 3) := by decide +kernel
theorem dX6_net_45 : decode cX6_net 45 = .ok (.aload_n 0, 1) := by decide +kernel
theorem dX6_net_46 : decode cX6_net 46 = .ok (.getfield 7, 3) := by decide +kernel
theorem dX6_net_49 : decode cX6_net 49 = .ok (.bipush 12, 2) := by decide +kernel
theorem dX6_net_51 : decode cX6_net 51 = .ok (.iload_n 3, 1) := by decide +kernel
theorem dX6_net_52 : decode cX6_net 52 = .ok (.iadd, 1) := by decide +kernel
theorem dX6_net_53 : decode cX6_net 53 = .ok (.iaload, 1) := by decide +kernel
theorem dX6_net_54 : decode cX6_net 54 = .ok (.goto 4, 3) := by decide +kernel
theorem dX6_net_57 : decode cX6_net 57 = .ok (.iconst 0, 1) := by decide +kernel
theorem dX6_net_58 : decode cX6_net 58 = .ok (.iadd, 1) := by decide +kernel
theorem dX6_net_59 : decode cX6_net 59 = .ok (.istore_n 2, 1) := by decide +kernel
theorem dX6_net_60 : decode cX6_net 60 = .ok (.iload_n 2, 1) := by decide +kernel
theorem dX6_net_61 : decode cX6_net 61 = .ok (.aload_n 0, 1) := by decide +kernel
theorem dX6_net_62 : decode cX6_net 62 = .ok (.getfield 19, 3) := by decide +kernel
theorem dX6_net_65 : decode cX6_net 65 = .ok (.iload_n 3, 1) := by decide +kernel
theorem dX6_net_66 : decode cX6_net 66 = .ok (.iaload, 1) := by decide +kernel
theorem dX6_net_67 : decode cX6_net 67 = .ok (.iload_n 1, 1) := by decide +kernel
theorem dX6_net_68 : decode cX6_net 68 = .ok (.if_icmp .ne 15, 3) := by decide +kernel
theorem dX6_net_71 : decode cX6_net 71 = .ok (.aload_n 0, 1) := by decide +kernel
theorem dX6_net_72 : decode cX6_net 72 = .ok (.getfield 7, 3) := by decide +kernel
theorem dX6_net_75 : decode cX6_net 75 = .ok (.bipush 12, 2) := by decide +kernel
theorem dX6_net_77 : decode cX6_net 77 = .ok (.iload_n 3, 1) := by decide +kernel
theorem dX6_net_78 : decode cX6_net 78 = .ok (.iadd, 1) := by decide +kernel
theorem dX6_net_79 : decode cX6_net 79 = .ok (.iaload, 1) := by decide +kernel
theorem dX6_net_80 : decode cX6_net 80 = .ok (.goto 4, 3) := by decide +kernel
theorem dX6_net_83 : decode cX6_net 83 = .ok (.iconst 0, 1) := by decide +kernel
theorem dX6_net_84 : decode cX6_net 84 = .ok (.isub, 1) := by decide +kernel
theorem dX6_net_85 : decode cX6_net 85 = .ok (.istore_n 2, 1) := by decide +kernel
theorem dX6_net_86 : decode cX6_net 86 = .ok (.iinc 3 1, 3) := by decide +kernel
theorem dX6_net_89 : decode cX6_net 89 = .ok (.goto (-75), 3) := by decide +kernel
theorem dX6_net_92 : decode cX6_net 92 = .ok (.iload_n 2, 1) := by decide +kernel
theorem dX6_net_93 : decode cX6_net 93 = .ok (.ireturn, 1) := by decide +kernel
set_option maxRecDepth 20000 in
theorem ggX6_isAsked_X6_isIn : GoodIn wsX6_isAsked wsX6_isIn := goodIn_r _ [5] (by decide +kernel) (by decide +kernel)
set_option maxRecDepth 20000 in
theorem gX6_isAsked_X6_isIn : GoodIn wsX6_isAsked (va_wsS RX6 91 yX6_isIn wsX6_isIn) := goodIn_app (goodIn_of _ (by decide +kernel)) ggX6_isAsked_X6_isIn
theorem dX6_isAsked_0 : decode cX6_isAsked 0 = .ok (.aload_n 0, 1) := by decide +kernel
theorem dX6_isAsked_1 : decode cX6_isAsked 1 = .ok (.getfield 7, 3) := by decide +kernel
theorem dX6_isAsked_4 : decode cX6_isAsked 4 = .ok (.bipush 66, 2) := by decide +kernel
theorem dX6_isAsked_6 : decode cX6_isAsked 6 = .ok (.iaload, 1) := by decide +kernel
theorem dX6_isAsked_7 : decode cX6_isAsked 7 = .ok (.iload_n 1, 1) := by decide +kernel
theorem dX6_isAsked_8 : decode cX6_isAsked 8 = .ok (.invokestatic 91, 3) := by decide +kernel
theorem dX6_isAsked_11 : decode cX6_isAsked 11 = .ok (.ifCond .eq 19, 3) := by decide +kernel
theorem dX6_isAsked_14 : decode cX6_isAsked 14 = .ok (.aload_n 0, 1) := by decide +kernel
theorem dX6_isAsked_15 : decode cX6_isAsked 15 = .ok (.getfield 7, 3) := by decide +kernel
theorem dX6_isAsked_18 : decode cX6_isAsked 18 = .ok (.bipush 12, 2) := by decide +kernel
theorem dX6_isAsked_20 : decode cX6_isAsked 20 = .ok (.iload_n 1, 1) := by decide +kernel
theorem dX6_isAsked_21 : decode cX6_isAsked 21 = .ok (.iadd, 1) := by decide +kernel
theorem dX6_isAsked_22 : decode cX6_isAsked 22 = .ok (.iaload, 1) := by decide +kernel
theorem dX6_isAsked_23 : decode cX6_isAsked 23 = .ok (.ifCond .le 7, 3) := by decide +kernel
theorem dX6_isAsked_26 : decode cX6_isAsked 26 = .ok (.iconst 1, 1) := by decide +kernel
theorem dX6_isAsked_27 : decode cX6_isAsked 27 = .ok (.goto 4, 3) := by decide +kernel
theorem dX6_isAsked_30 : decode cX6_isAsked 30 = .ok (.iconst 0, 1) := by decide +kernel
theorem dX6_isAsked_31 : decode cX6_isAsked 31 = .ok (.ireturn, 1) := by decide +kernel
set_option maxRecDepth 20000 in
theorem ggX6_comes_X6_isAsked : GoodIn wsX6_comes wsX6_isAsked := goodIn_r _ [6, 7, 8, 9, 5, 10, 27, 28, 29, 30, 31, 32, 33, 34, 35, 36, 37, 38, 39, 40, 41, 42, 43, 44, 45, 46, 47, 48] (by decide +kernel) (by decide +kernel)
set_option maxRecDepth 20000 in
theorem gX6_comes_X6_isAsked : GoodIn wsX6_comes (wsV RX6 147 RX6 yX6_isAsked wsX6_isAsked) := goodIn_app (goodIn_of _ (by decide +kernel)) ggX6_comes_X6_isAsked
set_option maxRecDepth 20000 in
theorem ggX6_comes_X6_lastsOf : GoodIn wsX6_comes wsX6_lastsOf := goodIn_r _ [14, 7, 15, 16, 17, 5, 18, 19, 20, 21, 22, 23, 24, 25, 26, 27, 28, 29, 30, 31, 32, 33, 34, 35, 36, 37, 38, 39, 40, 41, 42, 43, 44, 45, 46, 47, 48] (by decide +kernel) (by decide +kernel)
set_option maxRecDepth 20000 in
theorem gX6_comes_X6_lastsOf : GoodIn wsX6_comes (wsV RX6 143 RX6 yX6_lastsOf wsX6_lastsOf) := goodIn_app (goodIn_of _ (by decide +kernel)) ggX6_comes_X6_lastsOf
theorem dX6_comes_0 : decode cX6_comes 0 = .ok (.aload_n 0, 1) := by decide +kernel
theorem dX6_comes_1 : decode cX6_comes 1 = .ok (.iload_n 1, 1) := by decide +kernel
theorem dX6_comes_2 : decode cX6_comes 2 = .ok (.invokevirtual 147, 3) := by decide +kernel
theorem dX6_comes_5 : decode cX6_comes 5 = .ok (.ifCond .eq 17, 3) := by decide +kernel
theorem dX6_comes_8 : decode cX6_comes 8 = .ok (.iload_n 2, 1) := by decide +kernel
theorem dX6_comes_9 : decode cX6_comes 9 = .ok (.aload_n 0, 1) := by decide +kernel
theorem dX6_comes_10 : decode cX6_comes 10 = .ok (.iload_n 1, 1) := by decide +kernel
theorem dX6_comes_11 : decode cX6_comes 11 = .ok (.invokevirtual 143, 3) := by decide +kernel
theorem dX6_comes_14 : decode cX6_comes 14 = .ok (.if_icmp .lt 8, 3) := by decide +kernel
theorem dX6_comes_17 : decode cX6_comes 17 = .ok (.ldc 150, 2) := by decide +kernel
theorem dX6_comes_19 : decode cX6_comes 19 = .ok (.goto 4, 3) := by decide +kernel
theorem dX6_comes_22 : decode cX6_comes 22 = .ok (.iload_n 2, 1) := by decide +kernel
theorem dX6_comes_23 : decode cX6_comes 23 = .ok (.ireturn, 1) := by decide +kernel
theorem dX6_better_0 : decode cX6_better 0 = .ok (.aload_n 0, 1) := by decide +kernel
theorem dX6_better_1 : decode cX6_better 1 = .ok (.getfield 28, 3) := by decide +kernel
theorem dX6_better_4 : decode cX6_better 4 = .ok (.iload_n 1, 1) := by decide +kernel
theorem dX6_better_5 : decode cX6_better 5 = .ok (.iload_n 2, 1) := by decide +kernel
theorem dX6_better_6 : decode cX6_better 6 = .ok (.aload_n 0, 1) := by decide +kernel
theorem dX6_better_7 : decode cX6_better 7 = .ok (.getfield 28, 3) := by decide +kernel
theorem dX6_better_10 : decode cX6_better 10 = .ok (.iload_n 1, 1) := by decide +kernel
theorem dX6_better_11 : decode cX6_better 11 = .ok (.iaload, 1) := by decide +kernel
theorem dX6_better_12 : decode cX6_better 12 = .ok (.if_icmp .ge 7, 3) := by decide +kernel
theorem dX6_better_15 : decode cX6_better 15 = .ok (.iload_n 2, 1) := by decide +kernel
theorem dX6_better_16 : decode cX6_better 16 = .ok (.goto 9, 3) := by decide +kernel
theorem dX6_better_19 : decode cX6_better 19 = .ok (.aload_n 0, 1) := by decide +kernel
theorem dX6_better_20 : decode cX6_better 20 = .ok (.getfield 28, 3) := by decide +kernel
theorem dX6_better_23 : decode cX6_better 23 = .ok (.iload_n 1, 1) := by decide +kernel
theorem dX6_better_24 : decode cX6_better 24 = .ok (.iaload, 1) := by decide +kernel
theorem dX6_better_25 : decode cX6_better 25 = .ok (.iastore, 1) := by decide +kernel
theorem dX6_better_26 : decode cX6_better 26 = .ok (.return_, 1) := by decide +kernel
set_option maxRecDepth 20000 in
theorem ggX6_roundBy_X6_comes : GoodIn wsX6_roundBy wsX6_comes := goodIn_r _ [7, 2, 8, 9, 10, 6, 11, 12, 13, 14, 15, 16, 17, 18, 19, 20, 21, 22, 23, 24, 25, 26, 27, 28, 29, 30, 31, 39, 40, 41, 42, 43, 44, 45, 46, 47, 48, 49, 50, 51, 52, 53, 54, 55, 56, 57, 58, 59, 60] (by decide +kernel) (by decide +kernel)
set_option maxRecDepth 20000 in
theorem gX6_roundBy_X6_comes : GoodIn wsX6_roundBy (wsV RX6 151 RX6 yX6_comes wsX6_comes) := goodIn_app (goodIn_of _ (by decide +kernel)) ggX6_roundBy_X6_comes
set_option maxRecDepth 20000 in
theorem ggX6_roundBy_X6_in : GoodIn wsX6_roundBy wsX6_in := goodIn_r _ [34] (by decide +kernel) (by decide +kernel)
set_option maxRecDepth 20000 in
theorem gX6_roundBy_X6_in : GoodIn wsX6_roundBy (va_wsS RX6 53 yX6_in wsX6_in) := goodIn_app (goodIn_of _ (by decide +kernel)) ggX6_roundBy_X6_in
set_option maxRecDepth 20000 in
theorem ggX6_roundBy_X6_isAsked : GoodIn wsX6_roundBy wsX6_isAsked := goodIn_r _ [11, 12, 13, 14, 6, 15, 39, 40, 41, 42, 43, 44, 45, 46, 47, 48, 49, 50, 51, 52, 53, 54, 55, 56, 57, 58, 59, 60] (by decide +kernel) (by decide +kernel)
set_option maxRecDepth 20000 in
theorem gX6_roundBy_X6_isAsked : GoodIn wsX6_roundBy (wsV RX6 147 RX6 yX6_isAsked wsX6_isAsked) := goodIn_app (goodIn_of _ (by decide +kernel)) ggX6_roundBy_X6_isAsked
set_option maxRecDepth 20000 in
theorem ggX6_roundBy_X6_better : GoodIn wsX6_roundBy wsX6_better := goodIn_r _ [38, 1, 39, 40, 41, 42, 43, 44, 45, 46, 47, 48, 49, 50, 51, 52, 53, 54, 55, 56, 57, 58, 59, 60] (by decide +kernel) (by decide +kernel)
set_option maxRecDepth 20000 in
theorem gX6_roundBy_X6_better : GoodIn wsX6_roundBy (wsV RX6 154 RX6 yX6_better wsX6_better) := goodIn_app (goodIn_of _ (by decide +kernel)) ggX6_roundBy_X6_better
theorem dX6_roundBy_0 : decode cX6_roundBy 0 = .ok (.iconst 0, 1) := by decide +kernel
theorem dX6_roundBy_1 : decode cX6_roundBy 1 = .ok (.istore_n 3, 1) := by decide +kernel
theorem dX6_roundBy_2 : decode cX6_roundBy 2 = .ok (.iload_n 3, 1) := by decide +kernel
theorem dX6_roundBy_3 : decode cX6_roundBy 3 = .ok (.sipush 288, 3) := by decide +kernel
theorem dX6_roundBy_6 : decode cX6_roundBy 6 = .ok (.if_icmp .ge 17, 3) := by decide +kernel
theorem dX6_roundBy_9 : decode cX6_roundBy 9 = .ok (.aload_n 0, 1) := by decide +kernel
theorem dX6_roundBy_10 : decode cX6_roundBy 10 = .ok (.getfield 28, 3) := by decide +kernel
theorem dX6_roundBy_13 : decode cX6_roundBy 13 = .ok (.iload_n 3, 1) := by decide +kernel
theorem dX6_roundBy_14 : decode cX6_roundBy 14 = .ok (.ldc 150, 2) := by decide +kernel
theorem dX6_roundBy_16 : decode cX6_roundBy 16 = .ok (.iastore, 1) := by decide +kernel
theorem dX6_roundBy_17 : decode cX6_roundBy 17 = .ok (.iinc 3 1, 3) := by decide +kernel
theorem dX6_roundBy_20 : decode cX6_roundBy 20 = .ok (.goto (-18), 3) := by decide +kernel
theorem dX6_roundBy_23 : decode cX6_roundBy 23 = .ok (.iload_n 2, 1) := by decide +kernel
theorem dX6_roundBy_24 : decode cX6_roundBy 24 = .ok (.ifCond .ne 30, 3) := by decide +kernel
theorem dX6_roundBy_27 : decode cX6_roundBy 27 = .ok (.iload_n 1, 1) := by decide +kernel
theorem dX6_roundBy_28 : decode cX6_roundBy 28 = .ok (.ifCond .le 26, 3) := by decide +kernel
theorem dX6_roundBy_31 : decode cX6_roundBy 31 = .ok (.aload_n 0, 1) := by decide +kernel
theorem dX6_roundBy_32 : decode cX6_roundBy 32 = .ok (.getfield 28, 3) := by decide +kernel
theorem dX6_roundBy_35 : decode cX6_roundBy 35 = .ok (.iconst 2, 1) := by decide +kernel
theorem dX6_roundBy_36 : decode cX6_roundBy 36 = .ok (.bipush 12, 2) := by decide +kernel
theorem dX6_roundBy_38 : decode cX6_roundBy 38 = .ok (.iload_n 1, 1) := by decide +kernel
theorem dX6_roundBy_39 : decode cX6_roundBy 39 = .ok (.iconst 1, 1) := by decide +kernel
theorem dX6_roundBy_40 : decode cX6_roundBy 40 = .ok (.isub, 1) := by decide +kernel
theorem dX6_roundBy_41 : decode cX6_roundBy 41 = .ok (.imul, 1) := by decide +kernel
theorem dX6_roundBy_42 : decode cX6_roundBy 42 = .ok (.iload_n 1, 1) := by decide +kernel
theorem dX6_roundBy_43 : decode cX6_roundBy 43 = .ok (.iadd, 1) := by decide +kernel
theorem dX6_roundBy_44 : decode cX6_roundBy 44 = .ok (.imul, 1) := by decide +kernel
theorem dX6_roundBy_45 : decode cX6_roundBy 45 = .ok (.aload_n 0, 1) := by decide +kernel
theorem dX6_roundBy_46 : decode cX6_roundBy 46 = .ok (.iload_n 1, 1) := by decide +kernel
theorem dX6_roundBy_47 : decode cX6_roundBy 47 = .ok (.iconst 1, 1) := by decide +kernel
theorem dX6_roundBy_48 : decode cX6_roundBy 48 = .ok (.isub, 1) := by decide +kernel
theorem dX6_roundBy_49 : decode cX6_roundBy 49 = .ok (.iconst 1, 1) := by decide +kernel
theorem dX6_roundBy_50 : decode cX6_roundBy 50 = .ok (.invokevirtual 151, 3) := by decide +kernel
theorem dX6_roundBy_53 : decode cX6_roundBy 53 = .ok (.iastore, 1) := by decide +kernel
theorem dX6_roundBy_54 : decode cX6_roundBy 54 = .ok (.iload_n 2, 1) := by decide +kernel
theorem dX6_roundBy_55 : decode cX6_roundBy 55 = .ok (.iconst 1, 1) := by decide +kernel
theorem dX6_roundBy_56 : decode cX6_roundBy 56 = .ok (.if_icmp .ne 34, 3) := by decide +kernel
theorem dX6_roundBy_59 : decode cX6_roundBy 59 = .ok (.iload_n 1, 1) := by decide +kernel
theorem dX6_roundBy_60 : decode cX6_roundBy 60 = .ok (.bipush 11, 2) := by decide +kernel
theorem dX6_roundBy_62 : decode cX6_roundBy 62 = .ok (.if_icmp .ge 28, 3) := by decide +kernel
theorem dX6_roundBy_65 : decode cX6_roundBy 65 = .ok (.aload_n 0, 1) := by decide +kernel
theorem dX6_roundBy_66 : decode cX6_roundBy 66 = .ok (.getfield 28, 3) := by decide +kernel
theorem dX6_roundBy_69 : decode cX6_roundBy 69 = .ok (.iconst 2, 1) := by decide +kernel
theorem dX6_roundBy_70 : decode cX6_roundBy 70 = .ok (.bipush 12, 2) := by decide +kernel
theorem dX6_roundBy_72 : decode cX6_roundBy 72 = .ok (.iload_n 1, 1) := by decide +kernel
theorem dX6_roundBy_73 : decode cX6_roundBy 73 = .ok (.imul, 1) := by decide +kernel
theorem dX6_roundBy_74 : decode cX6_roundBy 74 = .ok (.iload_n 1, 1) := by decide +kernel
theorem dX6_roundBy_75 : decode cX6_roundBy 75 = .ok (.iadd, 1) := by decide +kernel
theorem dX6_roundBy_76 : decode cX6_roundBy 76 = .ok (.iconst 1, 1) := by decide +kernel
theorem dX6_roundBy_77 : decode cX6_roundBy 77 = .ok (.iadd, 1) := by decide +kernel
theorem dX6_roundBy_78 : decode cX6_roundBy 78 = .ok (.imul, 1) := by decide +kernel
theorem dX6_roundBy_79 : decode cX6_roundBy 79 = .ok (.iconst 1, 1) := by decide +kernel
theorem dX6_roundBy_80 : decode cX6_roundBy 80 = .ok (.iadd, 1) := by decide +kernel
theorem dX6_roundBy_81 : decode cX6_roundBy 81 = .ok (.aload_n 0, 1) := by decide +kernel
theorem dX6_roundBy_82 : decode cX6_roundBy 82 = .ok (.iload_n 1, 1) := by decide +kernel
theorem dX6_roundBy_83 : decode cX6_roundBy 83 = .ok (.iconst 1, 1) := by decide +kernel
theorem dX6_roundBy_84 : decode cX6_roundBy 84 = .ok (.iadd, 1) := by decide +kernel
theorem dX6_roundBy_85 : decode cX6_roundBy 85 = .ok (.iconst 1, 1) := by decide +kernel
theorem dX6_roundBy_86 : decode cX6_roundBy 86 = .ok (.invokevirtual 151, 3) := by decide +kernel
theorem dX6_roundBy_89 : decode cX6_roundBy 89 = .ok (.iastore, 1) := by decide +kernel
theorem dX6_roundBy_90 : decode cX6_roundBy 90 = .ok (.ldc 150, 2) := by decide +kernel
theorem dX6_roundBy_92 : decode cX6_roundBy 92 = .ok (.istore_n 3, 1) := by decide +kernel
theorem dX6_roundBy_93 : decode cX6_roundBy 93 = .ok (.iconst 2, 1) := by decide +kernel
theorem dX6_roundBy_94 : decode cX6_roundBy 94 = .ok (.istore 4, 2) := by decide +kernel
theorem dX6_roundBy_96 : decode cX6_roundBy 96 = .ok (.iload 4, 2) := by decide +kernel
theorem dX6_roundBy_98 : decode cX6_roundBy 98 = .ok (.bipush 13, 2) := by decide +kernel
theorem dX6_roundBy_100 : decode cX6_roundBy 100 = .ok (.if_icmp .ge 258, 3) := by decide +kernel
theorem dX6_roundBy_103 : decode cX6_roundBy 103 = .ok (.iconst 0, 1) := by decide +kernel
theorem dX6_roundBy_104 : decode cX6_roundBy 104 = .ok (.istore 5, 2) := by decide +kernel
theorem dX6_roundBy_106 : decode cX6_roundBy 106 = .ok (.iload 5, 2) := by decide +kernel
theorem dX6_roundBy_108 : decode cX6_roundBy 108 = .ok (.iload 4, 2) := by decide +kernel
theorem dX6_roundBy_110 : decode cX6_roundBy 110 = .ok (.iadd, 1) := by decide +kernel
theorem dX6_roundBy_111 : decode cX6_roundBy 111 = .ok (.bipush 13, 2) := by decide +kernel
theorem dX6_roundBy_113 : decode cX6_roundBy 113 = .ok (.if_icmp .ge 239, 3) := by decide +kernel
theorem dX6_roundBy_116 : decode cX6_roundBy 116 = .ok (.iload 5, 2) := by decide +kernel
theorem dX6_roundBy_118 : decode cX6_roundBy 118 = .ok (.iload 4, 2) := by decide +kernel
theorem dX6_roundBy_120 : decode cX6_roundBy 120 = .ok (.iadd, 1) := by decide +kernel
theorem dX6_roundBy_121 : decode cX6_roundBy 121 = .ok (.iconst 1, 1) := by decide +kernel
theorem dX6_roundBy_122 : decode cX6_roundBy 122 = .ok (.isub, 1) := by decide +kernel
theorem dX6_roundBy_123 : decode cX6_roundBy 123 = .ok (.istore 6, 2) := by decide +kernel
theorem dX6_roundBy_125 : decode cX6_roundBy 125 = .ok (.iconst 2, 1) := by decide +kernel
theorem dX6_roundBy_126 : decode cX6_roundBy 126 = .ok (.bipush 12, 2) := by decide +kernel
theorem dX6_roundBy_128 : decode cX6_roundBy 128 = .ok (.iload 5, 2) := by decide +kernel
theorem dX6_roundBy_130 : decode cX6_roundBy 130 = .ok (.imul, 1) := by decide +kernel
theorem dX6_roundBy_131 : decode cX6_roundBy 131 = .ok (.iload 6, 2) := by decide +kernel
theorem dX6_roundBy_133 : decode cX6_roundBy 133 = .ok (.iadd, 1) := by decide +kernel
theorem dX6_roundBy_134 : decode cX6_roundBy 134 = .ok (.imul, 1) := by decide +kernel
theorem dX6_roundBy_135 : decode cX6_roundBy 135 = .ok (.istore 7, 2) := by decide +kernel
theorem dX6_roundBy_137 : decode cX6_roundBy 137 = .ok (.iconst 1, 1) := by decide +kernel
theorem dX6_roundBy_138 : decode cX6_roundBy 138 = .ok (.istore 8, 2) := by decide +kernel
theorem dX6_roundBy_140 : decode cX6_roundBy 140 = .ok (.iconst 0, 1) := by decide +kernel
theorem dX6_roundBy_141 : decode cX6_roundBy 141 = .ok (.istore 9, 2) := by decide +kernel
theorem dX6_roundBy_143 : decode cX6_roundBy 143 = .ok (.iload 9, 2) := by decide +kernel
theorem dX6_roundBy_145 : decode cX6_roundBy 145 = .ok (.bipush 12, 2) := by decide +kernel
theorem dX6_roundBy_147 : decode cX6_roundBy 147 = .ok (.if_icmp .ge 42, 3) := by decide +kernel
theorem dX6_roundBy_150 : decode cX6_roundBy 150 = .ok (.iload 8, 2) := by decide +kernel
theorem dX6_roundBy_152 : decode cX6_roundBy 152 = .ok (.ifCond .eq 28, 3) := by decide +kernel
theorem dX6_roundBy_155 : decode cX6_roundBy 155 = .ok (.iload 9, 2) := by decide +kernel
theorem dX6_roundBy_157 : decode cX6_roundBy 157 = .ok (.iload 5, 2) := by decide +kernel
theorem dX6_roundBy_159 : decode cX6_roundBy 159 = .ok (.iload 6, 2) := by decide +kernel
theorem dX6_roundBy_161 : decode cX6_roundBy 161 = .ok (.invokestatic 53, 3) := by decide +kernel
theorem dX6_roundBy_164 : decode cX6_roundBy 164 = .ok (.ifCond .ne 12, 3) := by decide +kernel
theorem dX6_roundBy_167 : decode cX6_roundBy 167 = .ok (.aload_n 0, 1) := by decide +kernel
theorem dX6_roundBy_168 : decode cX6_roundBy 168 = .ok (.iload 9, 2) := by decide +kernel
theorem dX6_roundBy_170 : decode cX6_roundBy 170 = .ok (.invokevirtual 147, 3) := by decide +kernel
theorem dX6_roundBy_173 : decode cX6_roundBy 173 = .ok (.ifCond .ne 7, 3) := by decide +kernel
theorem dX6_roundBy_176 : decode cX6_roundBy 176 = .ok (.iconst 1, 1) := by decide +kernel
theorem dX6_roundBy_177 : decode cX6_roundBy 177 = .ok (.goto 4, 3) := by decide +kernel
theorem dX6_roundBy_180 : decode cX6_roundBy 180 = .ok (.iconst 0, 1) := by decide +kernel
theorem dX6_roundBy_181 : decode cX6_roundBy 181 = .ok (.istore 8, 2) := by decide +kernel
theorem dX6_roundBy_183 : decode cX6_roundBy 183 = .ok (.iinc 9 1, 3) := by decide +kernel
theorem dX6_roundBy_186 : decode cX6_roundBy 186 = .ok (.goto (-43), 3) := by decide +kernel
theorem dX6_roundBy_189 : decode cX6_roundBy 189 = .ok (.iconst 0, 1) := by decide +kernel
theorem dX6_roundBy_190 : decode cX6_roundBy 190 = .ok (.istore 9, 2) := by decide +kernel
theorem dX6_roundBy_192 : decode cX6_roundBy 192 = .ok (.iload 9, 2) := by decide +kernel
theorem dX6_roundBy_194 : decode cX6_roundBy 194 = .ok (.iconst 2, 1) := by decide +kernel
theorem dX6_roundBy_195 : decode cX6_roundBy 195 = .ok (.if_icmp .ge 151, 3) := by decide +kernel
theorem dX6_roundBy_198 : decode cX6_roundBy 198 = .ok (.aload_n 0, 1) := by decide +kernel
theorem dX6_roundBy_199 : decode cX6_roundBy 199 = .ok (.getfield 28, 3) := by decide +kernel
theorem dX6_roundBy_202 : decode cX6_roundBy 202 = .ok (.iload 7, 2) := by decide +kernel
theorem dX6_roundBy_204 : decode cX6_roundBy 204 = .ok (.iload 9, 2) := by decide +kernel
theorem dX6_roundBy_206 : decode cX6_roundBy 206 = .ok (.iadd, 1) := by decide +kernel
theorem dX6_roundBy_207 : decode cX6_roundBy 207 = .ok (.iaload, 1) := by decide +kernel
theorem dX6_roundBy_208 : decode cX6_roundBy 208 = .ok (.istore 10, 2) := by decide +kernel
theorem dX6_roundBy_210 : decode cX6_roundBy 210 = .ok (.iload 10, 2) := by decide +kernel
theorem dX6_roundBy_212 : decode cX6_roundBy 212 = .ok (.ldc 150, 2) := by decide +kernel
theorem dX6_roundBy_214 : decode cX6_roundBy 214 = .ok (.if_icmp .ge 126, 3) := by decide +kernel
theorem dX6_roundBy_217 : decode cX6_roundBy 217 = .ok (.iload 8, 2) := by decide +kernel
theorem dX6_roundBy_219 : decode cX6_roundBy 219 = .ok (.ifCond .eq 14, 3) := by decide +kernel
theorem dX6_roundBy_222 : decode cX6_roundBy 222 = .ok (.iload 10, 2) := by decide +kernel
theorem dX6_roundBy_224 : decode cX6_roundBy 224 = .ok (.iload_n 3, 1) := by decide +kernel
theorem dX6_roundBy_225 : decode cX6_roundBy 225 = .ok (.if_icmp .ge 8, 3) := by decide +kernel
theorem dX6_roundBy_228 : decode cX6_roundBy 228 = .ok (.iload 10, 2) := by decide +kernel
theorem dX6_roundBy_230 : decode cX6_roundBy 230 = .ok (.goto 4, 3) := by decide +kernel
theorem dX6_roundBy_233 : decode cX6_roundBy 233 = .ok (.iload_n 3, 1) := by decide +kernel
theorem dX6_roundBy_234 : decode cX6_roundBy 234 = .ok (.istore_n 3, 1) := by decide +kernel
theorem dX6_roundBy_235 : decode cX6_roundBy 235 = .ok (.iload 9, 2) := by decide +kernel
theorem dX6_roundBy_237 : decode cX6_roundBy 237 = .ok (.ifCond .ne 10, 3) := by decide +kernel
theorem dX6_roundBy_240 : decode cX6_roundBy 240 = .ok (.iload 10, 2) := by decide +kernel
theorem dX6_roundBy_242 : decode cX6_roundBy 242 = .ok (.iconst 1, 1) := by decide +kernel
theorem dX6_roundBy_243 : decode cX6_roundBy 243 = .ok (.iadd, 1) := by decide +kernel
theorem dX6_roundBy_244 : decode cX6_roundBy 244 = .ok (.goto 8, 3) := by decide +kernel
theorem dX6_roundBy_247 : decode cX6_roundBy 247 = .ok (.iload 10, 2) := by decide +kernel
theorem dX6_roundBy_249 : decode cX6_roundBy 249 = .ok (.iload 4, 2) := by decide +kernel
theorem dX6_roundBy_251 : decode cX6_roundBy 251 = .ok (.iadd, 1) := by decide +kernel
theorem dX6_roundBy_252 : decode cX6_roundBy 252 = .ok (.istore 11, 2) := by decide +kernel
theorem dX6_roundBy_254 : decode cX6_roundBy 254 = .ok (.iload 5, 2) := by decide +kernel
theorem dX6_roundBy_256 : decode cX6_roundBy 256 = .ok (.ifCond .le 29, 3) := by decide +kernel
theorem dX6_roundBy_259 : decode cX6_roundBy 259 = .ok (.aload_n 0, 1) := by decide +kernel
theorem dX6_roundBy_260 : decode cX6_roundBy 260 = .ok (.iconst 2, 1) := by decide +kernel
theorem dX6_roundBy_261 : decode cX6_roundBy 261 = .ok (.bipush 12, 2) := by decide +kernel
theorem dX6_roundBy_263 : decode cX6_roundBy 263 = .ok (.iload 5, 2) := by decide +kernel
theorem dX6_roundBy_265 : decode cX6_roundBy 265 = .ok (.iconst 1, 1) := by decide +kernel
theorem dX6_roundBy_266 : decode cX6_roundBy 266 = .ok (.isub, 1) := by decide +kernel
theorem dX6_roundBy_267 : decode cX6_roundBy 267 = .ok (.imul, 1) := by decide +kernel
theorem dX6_roundBy_268 : decode cX6_roundBy 268 = .ok (.iload 6, 2) := by decide +kernel
theorem dX6_roundBy_270 : decode cX6_roundBy 270 = .ok (.iadd, 1) := by decide +kernel
theorem dX6_roundBy_271 : decode cX6_roundBy 271 = .ok (.imul, 1) := by decide +kernel
theorem dX6_roundBy_272 : decode cX6_roundBy 272 = .ok (.aload_n 0, 1) := by decide +kernel
theorem dX6_roundBy_273 : decode cX6_roundBy 273 = .ok (.iload 5, 2) := by decide +kernel
theorem dX6_roundBy_275 : decode cX6_roundBy 275 = .ok (.iconst 1, 1) := by decide +kernel
theorem dX6_roundBy_276 : decode cX6_roundBy 276 = .ok (.isub, 1) := by decide +kernel
theorem dX6_roundBy_277 : decode cX6_roundBy 277 = .ok (.iload 11, 2) := by decide +kernel
theorem dX6_roundBy_279 : decode cX6_roundBy 279 = .ok (.invokevirtual 151, 3) := by decide +kernel
theorem dX6_roundBy_282 : decode cX6_roundBy 282 = .ok (.invokevirtual 154, 3) := by decide +kernel
theorem dX6_roundBy_285 : decode cX6_roundBy 285 = .ok (.iload 9, 2) := by decide +kernel
theorem dX6_roundBy_287 : decode cX6_roundBy 287 = .ok (.iconst 1, 1) := by decide +kernel
theorem dX6_roundBy_288 : decode cX6_roundBy 288 = .ok (.if_icmp .ne 10, 3) := by decide +kernel
theorem dX6_roundBy_291 : decode cX6_roundBy 291 = .ok (.iload 10, 2) := by decide +kernel
theorem dX6_roundBy_293 : decode cX6_roundBy 293 = .ok (.iconst 1, 1) := by decide +kernel
theorem dX6_roundBy_294 : decode cX6_roundBy 294 = .ok (.iadd, 1) := by decide +kernel
theorem dX6_roundBy_295 : decode cX6_roundBy 295 = .ok (.goto 8, 3) := by decide +kernel
theorem dX6_roundBy_298 : decode cX6_roundBy 298 = .ok (.iload 10, 2) := by decide +kernel
theorem dX6_roundBy_300 : decode cX6_roundBy 300 = .ok (.iload 4, 2) := by decide +kernel
theorem dX6_roundBy_302 : decode cX6_roundBy 302 = .ok (.iadd, 1) := by decide +kernel
theorem dX6_roundBy_303 : decode cX6_roundBy 303 = .ok (.istore 11, 2) := by decide +kernel
theorem dX6_roundBy_305 : decode cX6_roundBy 305 = .ok (.iload 6, 2) := by decide +kernel
theorem dX6_roundBy_307 : decode cX6_roundBy 307 = .ok (.bipush 11, 2) := by decide +kernel
theorem dX6_roundBy_309 : decode cX6_roundBy 309 = .ok (.if_icmp .ge 31, 3) := by decide +kernel
theorem dX6_roundBy_312 : decode cX6_roundBy 312 = .ok (.aload_n 0, 1) := by decide +kernel
theorem dX6_roundBy_313 : decode cX6_roundBy 313 = .ok (.iconst 2, 1) := by decide +kernel
theorem dX6_roundBy_314 : decode cX6_roundBy 314 = .ok (.bipush 12, 2) := by decide +kernel
theorem dX6_roundBy_316 : decode cX6_roundBy 316 = .ok (.iload 5, 2) := by decide +kernel
theorem dX6_roundBy_318 : decode cX6_roundBy 318 = .ok (.imul, 1) := by decide +kernel
theorem dX6_roundBy_319 : decode cX6_roundBy 319 = .ok (.iload 6, 2) := by decide +kernel
theorem dX6_roundBy_321 : decode cX6_roundBy 321 = .ok (.iadd, 1) := by decide +kernel
theorem dX6_roundBy_322 : decode cX6_roundBy 322 = .ok (.iconst 1, 1) := by decide +kernel
theorem dX6_roundBy_323 : decode cX6_roundBy 323 = .ok (.iadd, 1) := by decide +kernel
theorem dX6_roundBy_324 : decode cX6_roundBy 324 = .ok (.imul, 1) := by decide +kernel
theorem dX6_roundBy_325 : decode cX6_roundBy 325 = .ok (.iconst 1, 1) := by decide +kernel
theorem dX6_roundBy_326 : decode cX6_roundBy 326 = .ok (.iadd, 1) := by decide +kernel
theorem dX6_roundBy_327 : decode cX6_roundBy 327 = .ok (.aload_n 0, 1) := by decide +kernel
theorem dX6_roundBy_328 : decode cX6_roundBy 328 = .ok (.iload 6, 2) := by decide +kernel
theorem dX6_roundBy_330 : decode cX6_roundBy 330 = .ok (.iconst 1, 1) := by decide +kernel
theorem dX6_roundBy_331 : decode cX6_roundBy 331 = .ok (.iadd, 1) := by decide +kernel
theorem dX6_roundBy_332 : decode cX6_roundBy 332 = .ok (.iload 11, 2) := by decide +kernel
theorem dX6_roundBy_334 : decode cX6_roundBy 334 = .ok (.invokevirtual 151, 3) := by decide +kernel
theorem dX6_roundBy_337 : decode cX6_roundBy 337 = .ok (.invokevirtual 154, 3) := by decide +kernel
theorem dX6_roundBy_340 : decode cX6_roundBy 340 = .ok (.iinc 9 1, 3) := by decide +kernel
theorem dX6_roundBy_343 : decode cX6_roundBy 343 = .ok (.goto (-151), 3) := by decide +kernel
theorem dX6_roundBy_346 : decode cX6_roundBy 346 = .ok (.iinc 5 1, 3) := by decide +kernel
theorem dX6_roundBy_349 : decode cX6_roundBy 349 = .ok (.goto (-243), 3) := by decide +kernel
theorem dX6_roundBy_352 : decode cX6_roundBy 352 = .ok (.iinc 4 1, 3) := by decide +kernel
theorem dX6_roundBy_355 : decode cX6_roundBy 355 = .ok (.goto (-259), 3) := by decide +kernel
theorem dX6_roundBy_358 : decode cX6_roundBy 358 = .ok (.iload_n 3, 1) := by decide +kernel
theorem dX6_roundBy_359 : decode cX6_roundBy 359 = .ok (.ireturn, 1) := by decide +kernel
set_option maxRecDepth 20000 in
theorem ggX6_round_X6_isCandle : GoodIn wsX6_round wsX6_isCandle := goodIn_r _ [5, 6, 7, 4, 8] (by decide +kernel) (by decide +kernel)
set_option maxRecDepth 20000 in
theorem gX6_round_X6_isCandle : GoodIn wsX6_round (va_wsS RX6 57 yX6_isCandle wsX6_isCandle) := goodIn_app (goodIn_of _ (by decide +kernel)) ggX6_round_X6_isCandle
set_option maxRecDepth 20000 in
theorem ggX6_round_X6_in : GoodIn wsX6_round wsX6_in := goodIn_r _ [8] (by decide +kernel) (by decide +kernel)
set_option maxRecDepth 20000 in
theorem gX6_round_X6_in : GoodIn wsX6_round (va_wsS RX6 53 yX6_in wsX6_in) := goodIn_app (goodIn_of _ (by decide +kernel)) ggX6_round_X6_in
set_option maxRecDepth 20000 in
theorem ggX6_round_X6_isAsked : GoodIn wsX6_round wsX6_isAsked := goodIn_r _ [12, 13, 14, 15, 4, 16, 46, 47, 48, 49, 50, 51, 52, 53, 54, 55, 56, 57, 58, 59, 60, 61, 62, 63, 64, 65, 66, 67] (by decide +kernel) (by decide +kernel)
set_option maxRecDepth 20000 in
theorem gX6_round_X6_isAsked : GoodIn wsX6_round (wsV RX6 147 RX6 yX6_isAsked wsX6_isAsked) := goodIn_app (goodIn_of _ (by decide +kernel)) ggX6_round_X6_isAsked
set_option maxRecDepth 20000 in
theorem ggX6_round_X6_roundBy : GoodIn wsX6_round wsX6_roundBy := goodIn_r _ [20, 21, 1, 22, 23, 24, 4, 25, 9, 10, 11, 12, 13, 14, 15, 16, 26, 27, 28, 29, 30, 31, 32, 33, 34, 35, 36, 37, 38, 39, 40, 41, 6, 7, 8, 42, 43, 44, 45, 46, 47, 48, 49, 50, 51, 52, 53, 54, 55, 56, 57, 58, 59, 60, 61, 62, 63, 64, 65, 66, 67] (by decide +kernel) (by decide +kernel)
set_option maxRecDepth 20000 in
theorem gX6_round_X6_roundBy : GoodIn wsX6_round (wsV RX6 158 RX6 yX6_roundBy wsX6_roundBy) := goodIn_app (goodIn_of _ (by decide +kernel)) ggX6_round_X6_roundBy
theorem dX6_round_0 : decode cX6_round 0 = .ok (.iload_n 1, 1) := by decide +kernel
theorem dX6_round_1 : decode cX6_round 1 = .ok (.invokestatic 57, 3) := by decide +kernel
theorem dX6_round_4 : decode cX6_round 4 = .ok (.ifCond .ne 5, 3) := by decide +kernel
theorem dX6_round_7 : decode cX6_round 7 = .ok (.iconst (-1), 1) := by decide +kernel
theorem dX6_round_8 : decode cX6_round 8 = .ok (.ireturn, 1) := by decide +kernel
theorem dX6_round_9 : decode cX6_round 9 = .ok (.iload_n 2, 1) := by decide +kernel
theorem dX6_round_10 : decode cX6_round 10 = .ok (.iconst 0, 1) := by decide +kernel
theorem dX6_round_11 : decode cX6_round 11 = .ok (.iconst 1, 1) := by decide +kernel
theorem dX6_round_12 : decode cX6_round 12 = .ok (.invokestatic 53, 3) := by decide +kernel
theorem dX6_round_15 : decode cX6_round 15 = .ok (.ifCond .ne 6, 3) := by decide +kernel
theorem dX6_round_18 : decode cX6_round 18 = .ok (.bipush (-2), 2) := by decide +kernel
theorem dX6_round_20 : decode cX6_round 20 = .ok (.ireturn, 1) := by decide +kernel
theorem dX6_round_21 : decode cX6_round 21 = .ok (.iconst 0, 1) := by decide +kernel
theorem dX6_round_22 : decode cX6_round 22 = .ok (.istore_n 3, 1) := by decide +kernel
theorem dX6_round_23 : decode cX6_round 23 = .ok (.iconst 0, 1) := by decide +kernel
theorem dX6_round_24 : decode cX6_round 24 = .ok (.istore 4, 2) := by decide +kernel
theorem dX6_round_26 : decode cX6_round 26 = .ok (.iload 4, 2) := by decide +kernel
theorem dX6_round_28 : decode cX6_round 28 = .ok (.bipush 12, 2) := by decide +kernel
theorem dX6_round_30 : decode cX6_round 30 = .ok (.if_icmp .ge 34, 3) := by decide +kernel
theorem dX6_round_33 : decode cX6_round 33 = .ok (.iload_n 3, 1) := by decide +kernel
theorem dX6_round_34 : decode cX6_round 34 = .ok (.ifCond .ne 18, 3) := by decide +kernel
theorem dX6_round_37 : decode cX6_round 37 = .ok (.iload 4, 2) := by decide +kernel
theorem dX6_round_39 : decode cX6_round 39 = .ok (.iload_n 1, 1) := by decide +kernel
theorem dX6_round_40 : decode cX6_round 40 = .ok (.if_icmp .eq 16, 3) := by decide +kernel
theorem dX6_round_43 : decode cX6_round 43 = .ok (.aload_n 0, 1) := by decide +kernel
theorem dX6_round_44 : decode cX6_round 44 = .ok (.iload 4, 2) := by decide +kernel
theorem dX6_round_46 : decode cX6_round 46 = .ok (.invokevirtual 147, 3) := by decide +kernel
theorem dX6_round_49 : decode cX6_round 49 = .ok (.ifCond .eq 7, 3) := by decide +kernel
theorem dX6_round_52 : decode cX6_round 52 = .ok (.iconst 1, 1) := by decide +kernel
theorem dX6_round_53 : decode cX6_round 53 = .ok (.goto 4, 3) := by decide +kernel
theorem dX6_round_56 : decode cX6_round 56 = .ok (.iconst 0, 1) := by decide +kernel
theorem dX6_round_57 : decode cX6_round 57 = .ok (.istore_n 3, 1) := by decide +kernel
theorem dX6_round_58 : decode cX6_round 58 = .ok (.iinc 4 1, 3) := by decide +kernel
theorem dX6_round_61 : decode cX6_round 61 = .ok (.goto (-35), 3) := by decide +kernel
theorem dX6_round_64 : decode cX6_round 64 = .ok (.iload_n 3, 1) := by decide +kernel
theorem dX6_round_65 : decode cX6_round 65 = .ok (.ifCond .ne 14, 3) := by decide +kernel
theorem dX6_round_68 : decode cX6_round 68 = .ok (.iload_n 2, 1) := by decide +kernel
theorem dX6_round_69 : decode cX6_round 69 = .ok (.ifCond .ne 7, 3) := by decide +kernel
theorem dX6_round_72 : decode cX6_round 72 = .ok (.iconst 0, 1) := by decide +kernel
theorem dX6_round_73 : decode cX6_round 73 = .ok (.goto 5, 3) := by decide +kernel
theorem dX6_round_76 : decode cX6_round 76 = .ok (.bipush (-6), 2) := by decide +kernel
theorem dX6_round_78 : decode cX6_round 78 = .ok (.ireturn, 1) := by decide +kernel
theorem dX6_round_79 : decode cX6_round 79 = .ok (.aload_n 0, 1) := by decide +kernel
theorem dX6_round_80 : decode cX6_round 80 = .ok (.iload_n 1, 1) := by decide +kernel
theorem dX6_round_81 : decode cX6_round 81 = .ok (.iconst 0, 1) := by decide +kernel
theorem dX6_round_82 : decode cX6_round 82 = .ok (.invokevirtual 158, 3) := by decide +kernel
theorem dX6_round_85 : decode cX6_round 85 = .ok (.istore 4, 2) := by decide +kernel
theorem dX6_round_87 : decode cX6_round 87 = .ok (.aload_n 0, 1) := by decide +kernel
theorem dX6_round_88 : decode cX6_round 88 = .ok (.iload_n 1, 1) := by decide +kernel
theorem dX6_round_89 : decode cX6_round 89 = .ok (.iconst 1, 1) := by decide +kernel
theorem dX6_round_90 : decode cX6_round 90 = .ok (.invokevirtual 158, 3) := by decide +kernel
theorem dX6_round_93 : decode cX6_round 93 = .ok (.istore 5, 2) := by decide +kernel
theorem dX6_round_95 : decode cX6_round 95 = .ok (.iload 4, 2) := by decide +kernel
theorem dX6_round_97 : decode cX6_round 97 = .ok (.iload 5, 2) := by decide +kernel
theorem dX6_round_99 : decode cX6_round 99 = .ok (.if_icmp .ge 8, 3) := by decide +kernel
theorem dX6_round_102 : decode cX6_round 102 = .ok (.iload 4, 2) := by decide +kernel
theorem dX6_round_104 : decode cX6_round 104 = .ok (.goto 5, 3) := by decide +kernel
theorem dX6_round_107 : decode cX6_round 107 = .ok (.iload 5, 2) := by decide +kernel
theorem dX6_round_109 : decode cX6_round 109 = .ok (.istore 6, 2) := by decide +kernel
theorem dX6_round_111 : decode cX6_round 111 = .ok (.iload 6, 2) := by decide +kernel
theorem dX6_round_113 : decode cX6_round 113 = .ok (.ldc 150, 2) := by decide +kernel
theorem dX6_round_115 : decode cX6_round 115 = .ok (.if_icmp .lt 6, 3) := by decide +kernel
theorem dX6_round_118 : decode cX6_round 118 = .ok (.bipush (-6), 2) := by decide +kernel
theorem dX6_round_120 : decode cX6_round 120 = .ok (.ireturn, 1) := by decide +kernel
theorem dX6_round_121 : decode cX6_round 121 = .ok (.iload_n 2, 1) := by decide +kernel
theorem dX6_round_122 : decode cX6_round 122 = .ok (.ifCond .ne 8, 3) := by decide +kernel
theorem dX6_round_125 : decode cX6_round 125 = .ok (.iload 6, 2) := by decide +kernel
theorem dX6_round_127 : decode cX6_round 127 = .ok (.goto 15, 3) := by decide +kernel
theorem dX6_round_130 : decode cX6_round 130 = .ok (.iload 4, 2) := by decide +kernel
theorem dX6_round_132 : decode cX6_round 132 = .ok (.iload 6, 2) := by decide +kernel
theorem dX6_round_134 : decode cX6_round 134 = .ok (.if_icmp .ne 7, 3) := by decide +kernel
theorem dX6_round_137 : decode cX6_round 137 = .ok (.iconst 0, 1) := by decide +kernel
theorem dX6_round_138 : decode cX6_round 138 = .ok (.goto 4, 3) := by decide +kernel
theorem dX6_round_141 : decode cX6_round 141 = .ok (.iconst 1, 1) := by decide +kernel
theorem dX6_round_142 : decode cX6_round 142 = .ok (.ireturn, 1) := by decide +kernel
set_option maxRecDepth 20000 in
theorem ggX6_canRead_X6_isIn : GoodIn wsX6_canRead wsX6_isIn := goodIn_r _ [6] (by decide +kernel) (by decide +kernel)
set_option maxRecDepth 20000 in
theorem gX6_canRead_X6_isIn : GoodIn wsX6_canRead (va_wsS RX6 91 yX6_isIn wsX6_isIn) := goodIn_app (goodIn_of _ (by decide +kernel)) ggX6_canRead_X6_isIn
theorem dX6_canRead_0 : decode cX6_canRead 0 = .ok (.iconst 1, 1) := by decide +kernel
theorem dX6_canRead_1 : decode cX6_canRead 1 = .ok (.istore_n 3, 1) := by decide +kernel
theorem dX6_canRead_2 : decode cX6_canRead 2 = .ok (.iconst 0, 1) := by decide +kernel
theorem dX6_canRead_3 : decode cX6_canRead 3 = .ok (.istore 4, 2) := by decide +kernel
theorem dX6_canRead_5 : decode cX6_canRead 5 = .ok (.iload 4, 2) := by decide +kernel
theorem dX6_canRead_7 : decode cX6_canRead 7 = .ok (.bipush 12, 2) := by decide +kernel
theorem dX6_canRead_9 : decode cX6_canRead 9 = .ok (.if_icmp .ge 112, 3) := by decide +kernel
theorem dX6_canRead_12 : decode cX6_canRead 12 = .ok (.iconst 0, 1) := by decide +kernel
theorem dX6_canRead_13 : decode cX6_canRead 13 = .ok (.istore 5, 2) := by decide +kernel
theorem dX6_canRead_15 : decode cX6_canRead 15 = .ok (.iconst 0, 1) := by decide +kernel
theorem dX6_canRead_16 : decode cX6_canRead 16 = .ok (.istore 6, 2) := by decide +kernel
theorem dX6_canRead_18 : decode cX6_canRead 18 = .ok (.iload 6, 2) := by decide +kernel
theorem dX6_canRead_20 : decode cX6_canRead 20 = .ok (.bipush 12, 2) := by decide +kernel
theorem dX6_canRead_22 : decode cX6_canRead 22 = .ok (.if_icmp .ge 45, 3) := by decide +kernel
theorem dX6_canRead_25 : decode cX6_canRead 25 = .ok (.iload 5, 2) := by decide +kernel
theorem dX6_canRead_27 : decode cX6_canRead 27 = .ok (.iload_n 1, 1) := by decide +kernel
theorem dX6_canRead_28 : decode cX6_canRead 28 = .ok (.iload 6, 2) := by decide +kernel
theorem dX6_canRead_30 : decode cX6_canRead 30 = .ok (.invokestatic 91, 3) := by decide +kernel
theorem dX6_canRead_33 : decode cX6_canRead 33 = .ok (.ifCond .eq 24, 3) := by decide +kernel
theorem dX6_canRead_36 : decode cX6_canRead 36 = .ok (.aload_n 0, 1) := by decide +kernel
theorem dX6_canRead_37 : decode cX6_canRead 37 = .ok (.getfield 31, 3) := by decide +kernel
theorem dX6_canRead_40 : decode cX6_canRead 40 = .ok (.iload 6, 2) := by decide +kernel
theorem dX6_canRead_42 : decode cX6_canRead 42 = .ok (.iaload, 1) := by decide +kernel
theorem dX6_canRead_43 : decode cX6_canRead 43 = .ok (.aload_n 0, 1) := by decide +kernel
theorem dX6_canRead_44 : decode cX6_canRead 44 = .ok (.getfield 31, 3) := by decide +kernel
theorem dX6_canRead_47 : decode cX6_canRead 47 = .ok (.iload 4, 2) := by decide +kernel
theorem dX6_canRead_49 : decode cX6_canRead 49 = .ok (.iaload, 1) := by decide +kernel
theorem dX6_canRead_50 : decode cX6_canRead 50 = .ok (.if_icmp .gt 7, 3) := by decide +kernel
theorem dX6_canRead_53 : decode cX6_canRead 53 = .ok (.iconst 1, 1) := by decide +kernel
theorem dX6_canRead_54 : decode cX6_canRead 54 = .ok (.goto 4, 3) := by decide +kernel
theorem dX6_canRead_57 : decode cX6_canRead 57 = .ok (.iconst 0, 1) := by decide +kernel
theorem dX6_canRead_58 : decode cX6_canRead 58 = .ok (.iadd, 1) := by decide +kernel
theorem dX6_canRead_59 : decode cX6_canRead 59 = .ok (.istore 5, 2) := by decide +kernel
theorem dX6_canRead_61 : decode cX6_canRead 61 = .ok (.iinc 6 1, 3) := by decide +kernel
theorem dX6_canRead_64 : decode cX6_canRead 64 = .ok (.goto (-46), 3) := by decide +kernel
theorem dX6_canRead_67 : decode cX6_canRead 67 = .ok (.iload_n 3, 1) := by decide +kernel
theorem dX6_canRead_68 : decode cX6_canRead 68 = .ok (.ifCond .eq 45, 3) := by decide +kernel
theorem dX6_canRead_71 : decode cX6_canRead 71 = .ok (.iload_n 1, 1) := by decide +kernel
theorem dX6_canRead_72 : decode cX6_canRead 72 = .ok (.iload 4, 2) := by decide +kernel
theorem dX6_canRead_74 : decode cX6_canRead 74 = .ok (.invokestatic 91, 3) := by decide +kernel
theorem dX6_canRead_77 : decode cX6_canRead 77 = .ok (.ifCond .eq 32, 3) := by decide +kernel
theorem dX6_canRead_80 : decode cX6_canRead 80 = .ok (.aload_n 0, 1) := by decide +kernel
theorem dX6_canRead_81 : decode cX6_canRead 81 = .ok (.getfield 7, 3) := by decide +kernel
theorem dX6_canRead_84 : decode cX6_canRead 84 = .ok (.bipush 66, 2) := by decide +kernel
theorem dX6_canRead_86 : decode cX6_canRead 86 = .ok (.iaload, 1) := by decide +kernel
theorem dX6_canRead_87 : decode cX6_canRead 87 = .ok (.iload 4, 2) := by decide +kernel
theorem dX6_canRead_89 : decode cX6_canRead 89 = .ok (.invokestatic 91, 3) := by decide +kernel
theorem dX6_canRead_92 : decode cX6_canRead 92 = .ok (.ifCond .eq 21, 3) := by decide +kernel
theorem dX6_canRead_95 : decode cX6_canRead 95 = .ok (.iload 5, 2) := by decide +kernel
theorem dX6_canRead_97 : decode cX6_canRead 97 = .ok (.iload_n 2, 1) := by decide +kernel
theorem dX6_canRead_98 : decode cX6_canRead 98 = .ok (.imul, 1) := by decide +kernel
theorem dX6_canRead_99 : decode cX6_canRead 99 = .ok (.aload_n 0, 1) := by decide +kernel
theorem dX6_canRead_100 : decode cX6_canRead 100 = .ok (.getfield 31, 3) := by decide +kernel
theorem dX6_canRead_103 : decode cX6_canRead 103 = .ok (.iload 4, 2) := by decide +kernel
theorem dX6_canRead_105 : decode cX6_canRead 105 = .ok (.iaload, 1) := by decide +kernel
theorem dX6_canRead_106 : decode cX6_canRead 106 = .ok (.if_icmp .gt 7, 3) := by decide +kernel
theorem dX6_canRead_109 : decode cX6_canRead 109 = .ok (.iconst 1, 1) := by decide +kernel
theorem dX6_canRead_110 : decode cX6_canRead 110 = .ok (.goto 4, 3) := by decide +kernel
theorem dX6_canRead_113 : decode cX6_canRead 113 = .ok (.iconst 0, 1) := by decide +kernel
theorem dX6_canRead_114 : decode cX6_canRead 114 = .ok (.istore_n 3, 1) := by decide +kernel
theorem dX6_canRead_115 : decode cX6_canRead 115 = .ok (.iinc 4 1, 3) := by decide +kernel
theorem dX6_canRead_118 : decode cX6_canRead 118 = .ok (.goto (-113), 3) := by decide +kernel
theorem dX6_canRead_121 : decode cX6_canRead 121 = .ok (.iload_n 3, 1) := by decide +kernel
theorem dX6_canRead_122 : decode cX6_canRead 122 = .ok (.ireturn, 1) := by decide +kernel
set_option maxRecDepth 20000 in
theorem ggX6_accounts_X6_in : GoodIn wsX6_accounts wsX6_in := goodIn_r _ [5] (by decide +kernel) (by decide +kernel)
set_option maxRecDepth 20000 in
theorem gX6_accounts_X6_in : GoodIn wsX6_accounts (va_wsS RX6 53 yX6_in wsX6_in) := goodIn_app (goodIn_of _ (by decide +kernel)) ggX6_accounts_X6_in
set_option maxRecDepth 20000 in
theorem ggX6_accounts_X6_lastsOf : GoodIn wsX6_accounts wsX6_lastsOf := goodIn_r _ [9, 10, 11, 12, 13, 4, 14, 15, 16, 17, 18, 19, 20, 21, 22, 33, 34, 35, 36, 37, 38, 39, 40, 41, 42, 43, 44, 45, 46, 47, 48, 49, 50, 51, 52, 53, 54] (by decide +kernel) (by decide +kernel)
set_option maxRecDepth 20000 in
theorem gX6_accounts_X6_lastsOf : GoodIn wsX6_accounts (wsV RX6 143 RX6 yX6_lastsOf wsX6_lastsOf) := goodIn_app (goodIn_of _ (by decide +kernel)) ggX6_accounts_X6_lastsOf
set_option maxRecDepth 20000 in
theorem ggX6_accounts_X6_bits : GoodIn wsX6_accounts wsX6_bits := goodIn_r _ [25] (by decide +kernel) (by decide +kernel)
set_option maxRecDepth 20000 in
theorem gX6_accounts_X6_bits : GoodIn wsX6_accounts (va_wsS RX6 161 yX6_bits wsX6_bits) := goodIn_app (goodIn_of _ (by decide +kernel)) ggX6_accounts_X6_bits
set_option maxRecDepth 20000 in
theorem ggX6_accounts_X6_canRead : GoodIn wsX6_accounts wsX6_canRead := goodIn_r _ [29, 1, 10, 30, 31, 4, 32, 33, 34, 35, 36, 37, 38, 39, 40, 41, 42, 43, 44, 45, 46, 47, 48, 49, 50, 51, 52, 53, 54] (by decide +kernel) (by decide +kernel)
set_option maxRecDepth 20000 in
theorem gX6_accounts_X6_canRead : GoodIn wsX6_accounts (wsV RX6 164 RX6 yX6_canRead wsX6_canRead) := goodIn_app (goodIn_of _ (by decide +kernel)) ggX6_accounts_X6_canRead
theorem dX6_accounts_0 : decode cX6_accounts 0 = .ok (.iload_n 1, 1) := by decide +kernel
theorem dX6_accounts_1 : decode cX6_accounts 1 = .ok (.iconst 1, 1) := by decide +kernel
theorem dX6_accounts_2 : decode cX6_accounts 2 = .ok (.bipush 99, 2) := by decide +kernel
theorem dX6_accounts_4 : decode cX6_accounts 4 = .ok (.invokestatic 53, 3) := by decide +kernel
theorem dX6_accounts_7 : decode cX6_accounts 7 = .ok (.ifCond .eq 12, 3) := by decide +kernel
theorem dX6_accounts_10 : decode cX6_accounts 10 = .ok (.iload_n 2, 1) := by decide +kernel
theorem dX6_accounts_11 : decode cX6_accounts 11 = .ok (.iconst 0, 1) := by decide +kernel
theorem dX6_accounts_12 : decode cX6_accounts 12 = .ok (.iconst 1, 1) := by decide +kernel
theorem dX6_accounts_13 : decode cX6_accounts 13 = .ok (.invokestatic 53, 3) := by decide +kernel
theorem dX6_accounts_16 : decode cX6_accounts 16 = .ok (.ifCond .ne 6, 3) := by decide +kernel
theorem dX6_accounts_19 : decode cX6_accounts 19 = .ok (.bipush (-2), 2) := by decide +kernel
theorem dX6_accounts_21 : decode cX6_accounts 21 = .ok (.ireturn, 1) := by decide +kernel
theorem dX6_accounts_22 : decode cX6_accounts 22 = .ok (.iconst 0, 1) := by decide +kernel
theorem dX6_accounts_23 : decode cX6_accounts 23 = .ok (.istore_n 3, 1) := by decide +kernel
theorem dX6_accounts_24 : decode cX6_accounts 24 = .ok (.iload_n 3, 1) := by decide +kernel
theorem dX6_accounts_25 : decode cX6_accounts 25 = .ok (.bipush 12, 2) := by decide +kernel
theorem dX6_accounts_27 : decode cX6_accounts 27 = .ok (.if_icmp .ge 20, 3) := by decide +kernel
theorem dX6_accounts_30 : decode cX6_accounts 30 = .ok (.aload_n 0, 1) := by decide +kernel
theorem dX6_accounts_31 : decode cX6_accounts 31 = .ok (.getfield 31, 3) := by decide +kernel
theorem dX6_accounts_34 : decode cX6_accounts 34 = .ok (.iload_n 3, 1) := by decide +kernel
theorem dX6_accounts_35 : decode cX6_accounts 35 = .ok (.aload_n 0, 1) := by decide +kernel
theorem dX6_accounts_36 : decode cX6_accounts 36 = .ok (.iload_n 3, 1) := by decide +kernel
theorem dX6_accounts_37 : decode cX6_accounts 37 = .ok (.invokevirtual 143, 3) := by decide +kernel
theorem dX6_accounts_40 : decode cX6_accounts 40 = .ok (.iastore, 1) := by decide +kernel
theorem dX6_accounts_41 : decode cX6_accounts 41 = .ok (.iinc 3 1, 3) := by decide +kernel
theorem dX6_accounts_44 : decode cX6_accounts 44 = .ok (.goto (-20), 3) := by decide +kernel
theorem dX6_accounts_47 : decode cX6_accounts 47 = .ok (.iconst 0, 1) := by decide +kernel
theorem dX6_accounts_48 : decode cX6_accounts 48 = .ok (.istore_n 3, 1) := by decide +kernel
theorem dX6_accounts_49 : decode cX6_accounts 49 = .ok (.iconst 0, 1) := by decide +kernel
theorem dX6_accounts_50 : decode cX6_accounts 50 = .ok (.istore 4, 2) := by decide +kernel
theorem dX6_accounts_52 : decode cX6_accounts 52 = .ok (.iload 4, 2) := by decide +kernel
theorem dX6_accounts_54 : decode cX6_accounts 54 = .ok (.sipush 4096, 3) := by decide +kernel
theorem dX6_accounts_57 : decode cX6_accounts 57 = .ok (.if_icmp .ge 38, 3) := by decide +kernel
theorem dX6_accounts_60 : decode cX6_accounts 60 = .ok (.iload 4, 2) := by decide +kernel
theorem dX6_accounts_62 : decode cX6_accounts 62 = .ok (.invokestatic 161, 3) := by decide +kernel
theorem dX6_accounts_65 : decode cX6_accounts 65 = .ok (.iload_n 3, 1) := by decide +kernel
theorem dX6_accounts_66 : decode cX6_accounts 66 = .ok (.invokestatic 161, 3) := by decide +kernel
theorem dX6_accounts_69 : decode cX6_accounts 69 = .ok (.if_icmp .le 18, 3) := by decide +kernel
theorem dX6_accounts_72 : decode cX6_accounts 72 = .ok (.aload_n 0, 1) := by decide +kernel
theorem dX6_accounts_73 : decode cX6_accounts 73 = .ok (.iload 4, 2) := by decide +kernel
theorem dX6_accounts_75 : decode cX6_accounts 75 = .ok (.iload_n 1, 1) := by decide +kernel
theorem dX6_accounts_76 : decode cX6_accounts 76 = .ok (.invokevirtual 164, 3) := by decide +kernel
theorem dX6_accounts_79 : decode cX6_accounts 79 = .ok (.ifCond .eq 8, 3) := by decide +kernel
theorem dX6_accounts_82 : decode cX6_accounts 82 = .ok (.iload 4, 2) := by decide +kernel
theorem dX6_accounts_84 : decode cX6_accounts 84 = .ok (.goto 4, 3) := by decide +kernel
theorem dX6_accounts_87 : decode cX6_accounts 87 = .ok (.iload_n 3, 1) := by decide +kernel
theorem dX6_accounts_88 : decode cX6_accounts 88 = .ok (.istore_n 3, 1) := by decide +kernel
theorem dX6_accounts_89 : decode cX6_accounts 89 = .ok (.iinc 4 1, 3) := by decide +kernel
theorem dX6_accounts_92 : decode cX6_accounts 92 = .ok (.goto (-40), 3) := by decide +kernel
theorem dX6_accounts_95 : decode cX6_accounts 95 = .ok (.iload_n 2, 1) := by decide +kernel
theorem dX6_accounts_96 : decode cX6_accounts 96 = .ok (.iconst 1, 1) := by decide +kernel
theorem dX6_accounts_97 : decode cX6_accounts 97 = .ok (.if_icmp .ne 7, 3) := by decide +kernel
theorem dX6_accounts_100 : decode cX6_accounts 100 = .ok (.iload_n 3, 1) := by decide +kernel
theorem dX6_accounts_101 : decode cX6_accounts 101 = .ok (.goto 7, 3) := by decide +kernel
theorem dX6_accounts_104 : decode cX6_accounts 104 = .ok (.iload_n 3, 1) := by decide +kernel
theorem dX6_accounts_105 : decode cX6_accounts 105 = .ok (.invokestatic 161, 3) := by decide +kernel
theorem dX6_accounts_108 : decode cX6_accounts 108 = .ok (.ireturn, 1) := by decide +kernel
set_option maxRecDepth 20000 in
theorem ggX6_jubilee_X6_in : GoodIn wsX6_jubilee wsX6_in := goodIn_r _ [5] (by decide +kernel) (by decide +kernel)
set_option maxRecDepth 20000 in
theorem gX6_jubilee_X6_in : GoodIn wsX6_jubilee (va_wsS RX6 53 yX6_in wsX6_in) := goodIn_app (goodIn_of _ (by decide +kernel)) ggX6_jubilee_X6_in
set_option maxRecDepth 20000 in
theorem ggX6_jubilee_X6_isIn : GoodIn wsX6_jubilee wsX6_isIn := goodIn_r _ [8] (by decide +kernel) (by decide +kernel)
set_option maxRecDepth 20000 in
theorem gX6_jubilee_X6_isIn : GoodIn wsX6_jubilee (va_wsS RX6 91 yX6_isIn wsX6_isIn) := goodIn_app (goodIn_of _ (by decide +kernel)) ggX6_jubilee_X6_isIn
theorem dX6_jubilee_0 : decode cX6_jubilee 0 = .ok (.iload_n 1, 1) := by decide +kernel
theorem dX6_jubilee_1 : decode cX6_jubilee 1 = .ok (.iconst 0, 1) := by decide +kernel
theorem dX6_jubilee_2 : decode cX6_jubilee 2 = .ok (.sipush 4095, 3) := by decide +kernel
theorem dX6_jubilee_5 : decode cX6_jubilee 5 = .ok (.invokestatic 53, 3) := by decide +kernel
theorem dX6_jubilee_8 : decode cX6_jubilee 8 = .ok (.ifCond .ne 6, 3) := by decide +kernel
theorem dX6_jubilee_11 : decode cX6_jubilee 11 = .ok (.bipush (-2), 2) := by decide +kernel
theorem dX6_jubilee_13 : decode cX6_jubilee 13 = .ok (.ireturn, 1) := by decide +kernel
theorem dX6_jubilee_14 : decode cX6_jubilee 14 = .ok (.iconst 0, 1) := by decide +kernel
theorem dX6_jubilee_15 : decode cX6_jubilee 15 = .ok (.istore_n 2, 1) := by decide +kernel
theorem dX6_jubilee_16 : decode cX6_jubilee 16 = .ok (.iconst 0, 1) := by decide +kernel
theorem dX6_jubilee_17 : decode cX6_jubilee 17 = .ok (.istore_n 3, 1) := by decide +kernel
theorem dX6_jubilee_18 : decode cX6_jubilee 18 = .ok (.iconst 0, 1) := by decide +kernel
theorem dX6_jubilee_19 : decode cX6_jubilee 19 = .ok (.istore 4, 2) := by decide +kernel
theorem dX6_jubilee_21 : decode cX6_jubilee 21 = .ok (.iconst 0, 1) := by decide +kernel
theorem dX6_jubilee_22 : decode cX6_jubilee 22 = .ok (.istore 5, 2) := by decide +kernel
theorem dX6_jubilee_24 : decode cX6_jubilee 24 = .ok (.iload 5, 2) := by decide +kernel
theorem dX6_jubilee_26 : decode cX6_jubilee 26 = .ok (.bipush 13, 2) := by decide +kernel
theorem dX6_jubilee_28 : decode cX6_jubilee 28 = .ok (.if_icmp .ge 116, 3) := by decide +kernel
theorem dX6_jubilee_31 : decode cX6_jubilee 31 = .ok (.iload 5, 2) := by decide +kernel
theorem dX6_jubilee_33 : decode cX6_jubilee 33 = .ok (.bipush 12, 2) := by decide +kernel
theorem dX6_jubilee_35 : decode cX6_jubilee 35 = .ok (.if_icmp .ge 62, 3) := by decide +kernel
theorem dX6_jubilee_38 : decode cX6_jubilee 38 = .ok (.aload_n 0, 1) := by decide +kernel
theorem dX6_jubilee_39 : decode cX6_jubilee 39 = .ok (.getfield 7, 3) := by decide +kernel
theorem dX6_jubilee_42 : decode cX6_jubilee 42 = .ok (.iload 5, 2) := by decide +kernel
theorem dX6_jubilee_44 : decode cX6_jubilee 44 = .ok (.iaload, 1) := by decide +kernel
theorem dX6_jubilee_45 : decode cX6_jubilee 45 = .ok (.ifCond .le 52, 3) := by decide +kernel
theorem dX6_jubilee_48 : decode cX6_jubilee 48 = .ok (.iload_n 3, 1) := by decide +kernel
theorem dX6_jubilee_49 : decode cX6_jubilee 49 = .ok (.ifCond .ne 12, 3) := by decide +kernel
theorem dX6_jubilee_52 : decode cX6_jubilee 52 = .ok (.iload_n 1, 1) := by decide +kernel
theorem dX6_jubilee_53 : decode cX6_jubilee 53 = .ok (.iload 5, 2) := by decide +kernel
theorem dX6_jubilee_55 : decode cX6_jubilee 55 = .ok (.invokestatic 91, 3) := by decide +kernel
theorem dX6_jubilee_58 : decode cX6_jubilee 58 = .ok (.ifCond .eq 7, 3) := by decide +kernel
theorem dX6_jubilee_61 : decode cX6_jubilee 61 = .ok (.iconst 1, 1) := by decide +kernel
theorem dX6_jubilee_62 : decode cX6_jubilee 62 = .ok (.goto 4, 3) := by decide +kernel
theorem dX6_jubilee_65 : decode cX6_jubilee 65 = .ok (.iconst 0, 1) := by decide +kernel
theorem dX6_jubilee_66 : decode cX6_jubilee 66 = .ok (.istore_n 3, 1) := by decide +kernel
theorem dX6_jubilee_67 : decode cX6_jubilee 67 = .ok (.iload 4, 2) := by decide +kernel
theorem dX6_jubilee_69 : decode cX6_jubilee 69 = .ok (.ifCond .ne 18, 3) := by decide +kernel
theorem dX6_jubilee_72 : decode cX6_jubilee 72 = .ok (.aload_n 0, 1) := by decide +kernel
theorem dX6_jubilee_73 : decode cX6_jubilee 73 = .ok (.getfield 7, 3) := by decide +kernel
theorem dX6_jubilee_76 : decode cX6_jubilee 76 = .ok (.bipush 66, 2) := by decide +kernel
theorem dX6_jubilee_78 : decode cX6_jubilee 78 = .ok (.iaload, 1) := by decide +kernel
theorem dX6_jubilee_79 : decode cX6_jubilee 79 = .ok (.iload 5, 2) := by decide +kernel
theorem dX6_jubilee_81 : decode cX6_jubilee 81 = .ok (.invokestatic 91, 3) := by decide +kernel
theorem dX6_jubilee_84 : decode cX6_jubilee 84 = .ok (.ifCond .eq 7, 3) := by decide +kernel
theorem dX6_jubilee_87 : decode cX6_jubilee 87 = .ok (.iconst 1, 1) := by decide +kernel
theorem dX6_jubilee_88 : decode cX6_jubilee 88 = .ok (.goto 4, 3) := by decide +kernel
theorem dX6_jubilee_91 : decode cX6_jubilee 91 = .ok (.iconst 0, 1) := by decide +kernel
theorem dX6_jubilee_92 : decode cX6_jubilee 92 = .ok (.istore 4, 2) := by decide +kernel
theorem dX6_jubilee_94 : decode cX6_jubilee 94 = .ok (.goto 44, 3) := by decide +kernel
theorem dX6_jubilee_97 : decode cX6_jubilee 97 = .ok (.iload 5, 2) := by decide +kernel
theorem dX6_jubilee_99 : decode cX6_jubilee 99 = .ok (.bipush 12, 2) := by decide +kernel
theorem dX6_jubilee_101 : decode cX6_jubilee 101 = .ok (.if_icmp .ge 15, 3) := by decide +kernel
theorem dX6_jubilee_104 : decode cX6_jubilee 104 = .ok (.iload_n 1, 1) := by decide +kernel
theorem dX6_jubilee_105 : decode cX6_jubilee 105 = .ok (.iload 5, 2) := by decide +kernel
theorem dX6_jubilee_107 : decode cX6_jubilee 107 = .ok (.invokestatic 91, 3) := by decide +kernel
theorem dX6_jubilee_110 : decode cX6_jubilee 110 = .ok (.ifCond .eq 6, 3) := by decide +kernel
theorem dX6_jubilee_113 : decode cX6_jubilee 113 = .ok (.bipush (-6), 2) := by decide +kernel
theorem dX6_jubilee_115 : decode cX6_jubilee 115 = .ok (.ireturn, 1) := by decide +kernel
theorem dX6_jubilee_116 : decode cX6_jubilee 116 = .ok (.iload_n 2, 1) := by decide +kernel
theorem dX6_jubilee_117 : decode cX6_jubilee 117 = .ok (.iload_n 3, 1) := by decide +kernel
theorem dX6_jubilee_118 : decode cX6_jubilee 118 = .ok (.ifCond .eq 12, 3) := by decide +kernel
theorem dX6_jubilee_121 : decode cX6_jubilee 121 = .ok (.iload 4, 2) := by decide +kernel
theorem dX6_jubilee_123 : decode cX6_jubilee 123 = .ok (.ifCond .ne 7, 3) := by decide +kernel
theorem dX6_jubilee_126 : decode cX6_jubilee 126 = .ok (.iconst 1, 1) := by decide +kernel
theorem dX6_jubilee_127 : decode cX6_jubilee 127 = .ok (.goto 4, 3) := by decide +kernel
theorem dX6_jubilee_130 : decode cX6_jubilee 130 = .ok (.iconst 0, 1) := by decide +kernel
theorem dX6_jubilee_131 : decode cX6_jubilee 131 = .ok (.iadd, 1) := by decide +kernel
theorem dX6_jubilee_132 : decode cX6_jubilee 132 = .ok (.istore_n 2, 1) := by decide +kernel
theorem dX6_jubilee_133 : decode cX6_jubilee 133 = .ok (.iconst 0, 1) := by decide +kernel
theorem dX6_jubilee_134 : decode cX6_jubilee 134 = .ok (.istore_n 3, 1) := by decide +kernel
theorem dX6_jubilee_135 : decode cX6_jubilee 135 = .ok (.iconst 0, 1) := by decide +kernel
theorem dX6_jubilee_136 : decode cX6_jubilee 136 = .ok (.istore 4, 2) := by decide +kernel
theorem dX6_jubilee_138 : decode cX6_jubilee 138 = .ok (.iinc 5 1, 3) := by decide +kernel
theorem dX6_jubilee_141 : decode cX6_jubilee 141 = .ok (.goto (-117), 3) := by decide +kernel
theorem dX6_jubilee_144 : decode cX6_jubilee 144 = .ok (.iload_n 2, 1) := by decide +kernel
theorem dX6_jubilee_145 : decode cX6_jubilee 145 = .ok (.ireturn, 1) := by decide +kernel
set_option maxRecDepth 20000 in
theorem ggX6_trims_X6_isCandle : GoodIn wsX6_trims wsX6_isCandle := goodIn_r _ [5, 6, 7, 4, 8] (by decide +kernel) (by decide +kernel)
set_option maxRecDepth 20000 in
theorem gX6_trims_X6_isCandle : GoodIn wsX6_trims (va_wsS RX6 57 yX6_isCandle wsX6_isCandle) := goodIn_app (goodIn_of _ (by decide +kernel)) ggX6_trims_X6_isCandle
set_option maxRecDepth 20000 in
theorem ggX6_trims_X6_in : GoodIn wsX6_trims wsX6_in := goodIn_r _ [8] (by decide +kernel) (by decide +kernel)
set_option maxRecDepth 20000 in
theorem gX6_trims_X6_in : GoodIn wsX6_trims (va_wsS RX6 53 yX6_in wsX6_in) := goodIn_app (goodIn_of _ (by decide +kernel)) ggX6_trims_X6_in
theorem dX6_trims_0 : decode cX6_trims 0 = .ok (.iload_n 1, 1) := by decide +kernel
theorem dX6_trims_1 : decode cX6_trims 1 = .ok (.invokestatic 57, 3) := by decide +kernel
theorem dX6_trims_4 : decode cX6_trims 4 = .ok (.ifCond .ne 5, 3) := by decide +kernel
theorem dX6_trims_7 : decode cX6_trims 7 = .ok (.iconst (-1), 1) := by decide +kernel
theorem dX6_trims_8 : decode cX6_trims 8 = .ok (.ireturn, 1) := by decide +kernel
theorem dX6_trims_9 : decode cX6_trims 9 = .ok (.iload_n 2, 1) := by decide +kernel
theorem dX6_trims_10 : decode cX6_trims 10 = .ok (.iconst 1, 1) := by decide +kernel
theorem dX6_trims_11 : decode cX6_trims 11 = .ok (.sipush 999, 3) := by decide +kernel
theorem dX6_trims_14 : decode cX6_trims 14 = .ok (.invokestatic 53, 3) := by decide +kernel
theorem dX6_trims_17 : decode cX6_trims 17 = .ok (.ifCond .ne 6, 3) := by decide +kernel
theorem dX6_trims_20 : decode cX6_trims 20 = .ok (.bipush (-2), 2) := by decide +kernel
theorem dX6_trims_22 : decode cX6_trims 22 = .ok (.ireturn, 1) := by decide +kernel
theorem dX6_trims_23 : decode cX6_trims 23 = .ok (.iconst 0, 1) := by decide +kernel
theorem dX6_trims_24 : decode cX6_trims 24 = .ok (.istore_n 3, 1) := by decide +kernel
theorem dX6_trims_25 : decode cX6_trims 25 = .ok (.aload_n 0, 1) := by decide +kernel
theorem dX6_trims_26 : decode cX6_trims 26 = .ok (.getfield 7, 3) := by decide +kernel
theorem dX6_trims_29 : decode cX6_trims 29 = .ok (.bipush 24, 2) := by decide +kernel
theorem dX6_trims_31 : decode cX6_trims 31 = .ok (.iload_n 1, 1) := by decide +kernel
theorem dX6_trims_32 : decode cX6_trims 32 = .ok (.iadd, 1) := by decide +kernel
theorem dX6_trims_33 : decode cX6_trims 33 = .ok (.iaload, 1) := by decide +kernel
theorem dX6_trims_34 : decode cX6_trims 34 = .ok (.iload_n 3, 1) := by decide +kernel
theorem dX6_trims_35 : decode cX6_trims 35 = .ok (.iadd, 1) := by decide +kernel
theorem dX6_trims_36 : decode cX6_trims 36 = .ok (.bipush 10, 2) := by decide +kernel
theorem dX6_trims_38 : decode cX6_trims 38 = .ok (.if_icmp .ge 68, 3) := by decide +kernel
theorem dX6_trims_41 : decode cX6_trims 41 = .ok (.iconst 1, 1) := by decide +kernel
theorem dX6_trims_42 : decode cX6_trims 42 = .ok (.aload_n 0, 1) := by decide +kernel
theorem dX6_trims_43 : decode cX6_trims 43 = .ok (.getfield 7, 3) := by decide +kernel
theorem dX6_trims_46 : decode cX6_trims 46 = .ok (.bipush 36, 2) := by decide +kernel
theorem dX6_trims_48 : decode cX6_trims 48 = .ok (.iload_n 1, 1) := by decide +kernel
theorem dX6_trims_49 : decode cX6_trims 49 = .ok (.iadd, 1) := by decide +kernel
theorem dX6_trims_50 : decode cX6_trims 50 = .ok (.iaload, 1) := by decide +kernel
theorem dX6_trims_51 : decode cX6_trims 51 = .ok (.iadd, 1) := by decide +kernel
theorem dX6_trims_52 : decode cX6_trims 52 = .ok (.aload_n 0, 1) := by decide +kernel
theorem dX6_trims_53 : decode cX6_trims 53 = .ok (.getfield 7, 3) := by decide +kernel
theorem dX6_trims_56 : decode cX6_trims 56 = .ok (.bipush 24, 2) := by decide +kernel
theorem dX6_trims_58 : decode cX6_trims 58 = .ok (.iload_n 1, 1) := by decide +kernel
theorem dX6_trims_59 : decode cX6_trims 59 = .ok (.iadd, 1) := by decide +kernel
theorem dX6_trims_60 : decode cX6_trims 60 = .ok (.iaload, 1) := by decide +kernel
theorem dX6_trims_61 : decode cX6_trims 61 = .ok (.isub, 1) := by decide +kernel
theorem dX6_trims_62 : decode cX6_trims 62 = .ok (.iload_n 3, 1) := by decide +kernel
theorem dX6_trims_63 : decode cX6_trims 63 = .ok (.isub, 1) := by decide +kernel
theorem dX6_trims_64 : decode cX6_trims 64 = .ok (.istore 4, 2) := by decide +kernel
theorem dX6_trims_66 : decode cX6_trims 66 = .ok (.iload 4, 2) := by decide +kernel
theorem dX6_trims_68 : decode cX6_trims 68 = .ok (.iconst 1, 1) := by decide +kernel
theorem dX6_trims_69 : decode cX6_trims 69 = .ok (.if_icmp .ge 7, 3) := by decide +kernel
theorem dX6_trims_72 : decode cX6_trims 72 = .ok (.iconst 1, 1) := by decide +kernel
theorem dX6_trims_73 : decode cX6_trims 73 = .ok (.goto 5, 3) := by decide +kernel
theorem dX6_trims_76 : decode cX6_trims 76 = .ok (.iload 4, 2) := by decide +kernel
theorem dX6_trims_78 : decode cX6_trims 78 = .ok (.istore 4, 2) := by decide +kernel
theorem dX6_trims_80 : decode cX6_trims 80 = .ok (.aload_n 0, 1) := by decide +kernel
theorem dX6_trims_81 : decode cX6_trims 81 = .ok (.getfield 7, 3) := by decide +kernel
theorem dX6_trims_84 : decode cX6_trims 84 = .ok (.iload_n 1, 1) := by decide +kernel
theorem dX6_trims_85 : decode cX6_trims 85 = .ok (.iaload, 1) := by decide +kernel
theorem dX6_trims_86 : decode cX6_trims 86 = .ok (.iload 4, 2) := by decide +kernel
theorem dX6_trims_88 : decode cX6_trims 88 = .ok (.iadd, 1) := by decide +kernel
theorem dX6_trims_89 : decode cX6_trims 89 = .ok (.iconst 1, 1) := by decide +kernel
theorem dX6_trims_90 : decode cX6_trims 90 = .ok (.isub, 1) := by decide +kernel
theorem dX6_trims_91 : decode cX6_trims 91 = .ok (.iload 4, 2) := by decide +kernel
theorem dX6_trims_93 : decode cX6_trims 93 = .ok (.idiv, 1) := by decide +kernel
theorem dX6_trims_94 : decode cX6_trims 94 = .ok (.iload_n 2, 1) := by decide +kernel
theorem dX6_trims_95 : decode cX6_trims 95 = .ok (.if_icmp .lt 5, 3) := by decide +kernel
theorem dX6_trims_98 : decode cX6_trims 98 = .ok (.iload_n 3, 1) := by decide +kernel
theorem dX6_trims_99 : decode cX6_trims 99 = .ok (.ireturn, 1) := by decide +kernel
theorem dX6_trims_100 : decode cX6_trims 100 = .ok (.iinc 3 1, 3) := by decide +kernel
theorem dX6_trims_103 : decode cX6_trims 103 = .ok (.goto (-78), 3) := by decide +kernel
theorem dX6_trims_106 : decode cX6_trims 106 = .ok (.bipush (-6), 2) := by decide +kernel
theorem dX6_trims_108 : decode cX6_trims 108 = .ok (.ireturn, 1) := by decide +kernel
set_option maxRecDepth 20000 in
theorem ggX6_seen_X6_isCandle : GoodIn wsX6_seen wsX6_isCandle := goodIn_r _ [6, 7, 8, 5, 9] (by decide +kernel) (by decide +kernel)
set_option maxRecDepth 20000 in
theorem gX6_seen_X6_isCandle : GoodIn wsX6_seen (va_wsS RX6 57 yX6_isCandle wsX6_isCandle) := goodIn_app (goodIn_of _ (by decide +kernel)) ggX6_seen_X6_isCandle
set_option maxRecDepth 20000 in
theorem ggX6_seen_X6_in : GoodIn wsX6_seen wsX6_in := goodIn_r _ [9] (by decide +kernel) (by decide +kernel)
set_option maxRecDepth 20000 in
theorem gX6_seen_X6_in : GoodIn wsX6_seen (va_wsS RX6 53 yX6_in wsX6_in) := goodIn_app (goodIn_of _ (by decide +kernel)) ggX6_seen_X6_in
theorem dX6_seen_0 : decode cX6_seen 0 = .ok (.iload_n 1, 1) := by decide +kernel
theorem dX6_seen_1 : decode cX6_seen 1 = .ok (.invokestatic 57, 3) := by decide +kernel
theorem dX6_seen_4 : decode cX6_seen 4 = .ok (.ifCond .ne 5, 3) := by decide +kernel
theorem dX6_seen_7 : decode cX6_seen 7 = .ok (.iconst (-1), 1) := by decide +kernel
theorem dX6_seen_8 : decode cX6_seen 8 = .ok (.ireturn, 1) := by decide +kernel
theorem dX6_seen_9 : decode cX6_seen 9 = .ok (.iload_n 2, 1) := by decide +kernel
theorem dX6_seen_10 : decode cX6_seen 10 = .ok (.iconst 0, 1) := by decide +kernel
theorem dX6_seen_11 : decode cX6_seen 11 = .ok (.sipush 999, 3) := by decide +kernel
theorem dX6_seen_14 : decode cX6_seen 14 = .ok (.invokestatic 53, 3) := by decide +kernel
theorem dX6_seen_17 : decode cX6_seen 17 = .ok (.ifCond .ne 6, 3) := by decide +kernel
theorem dX6_seen_20 : decode cX6_seen 20 = .ok (.bipush (-2), 2) := by decide +kernel
theorem dX6_seen_22 : decode cX6_seen 22 = .ok (.ireturn, 1) := by decide +kernel
theorem dX6_seen_23 : decode cX6_seen 23 = .ok (.aload_n 0, 1) := by decide +kernel
theorem dX6_seen_24 : decode cX6_seen 24 = .ok (.getfield 167, 3) := by decide +kernel
theorem dX6_seen_27 : decode cX6_seen 27 = .ok (.bipush 8, 2) := by decide +kernel
theorem dX6_seen_29 : decode cX6_seen 29 = .ok (.if_icmp .ne 6, 3) := by decide +kernel
theorem dX6_seen_32 : decode cX6_seen 32 = .ok (.bipush (-4), 2) := by decide +kernel
theorem dX6_seen_34 : decode cX6_seen 34 = .ok (.ireturn, 1) := by decide +kernel
theorem dX6_seen_35 : decode cX6_seen 35 = .ok (.aload_n 0, 1) := by decide +kernel
theorem dX6_seen_36 : decode cX6_seen 36 = .ok (.getfield 22, 3) := by decide +kernel
theorem dX6_seen_39 : decode cX6_seen 39 = .ok (.iconst 2, 1) := by decide +kernel
theorem dX6_seen_40 : decode cX6_seen 40 = .ok (.aload_n 0, 1) := by decide +kernel
theorem dX6_seen_41 : decode cX6_seen 41 = .ok (.getfield 167, 3) := by decide +kernel
theorem dX6_seen_44 : decode cX6_seen 44 = .ok (.imul, 1) := by decide +kernel
theorem dX6_seen_45 : decode cX6_seen 45 = .ok (.iload_n 1, 1) := by decide +kernel
theorem dX6_seen_46 : decode cX6_seen 46 = .ok (.iastore, 1) := by decide +kernel
theorem dX6_seen_47 : decode cX6_seen 47 = .ok (.aload_n 0, 1) := by decide +kernel
theorem dX6_seen_48 : decode cX6_seen 48 = .ok (.getfield 22, 3) := by decide +kernel
theorem dX6_seen_51 : decode cX6_seen 51 = .ok (.iconst 2, 1) := by decide +kernel
theorem dX6_seen_52 : decode cX6_seen 52 = .ok (.aload_n 0, 1) := by decide +kernel
theorem dX6_seen_53 : decode cX6_seen 53 = .ok (.getfield 167, 3) := by decide +kernel
theorem dX6_seen_56 : decode cX6_seen 56 = .ok (.imul, 1) := by decide +kernel
theorem dX6_seen_57 : decode cX6_seen 57 = .ok (.iconst 1, 1) := by decide +kernel
theorem dX6_seen_58 : decode cX6_seen 58 = .ok (.iadd, 1) := by decide +kernel
theorem dX6_seen_59 : decode cX6_seen 59 = .ok (.iload_n 2, 1) := by decide +kernel
theorem dX6_seen_60 : decode cX6_seen 60 = .ok (.iastore, 1) := by decide +kernel
theorem dX6_seen_61 : decode cX6_seen 61 = .ok (.aload_n 0, 1) := by decide +kernel
theorem dX6_seen_62 : decode cX6_seen 62 = .ok (.dup, 1) := by decide +kernel
theorem dX6_seen_63 : decode cX6_seen 63 = .ok (.getfield 167, 3) := by decide +kernel
theorem dX6_seen_66 : decode cX6_seen 66 = .ok (.iconst 1, 1) := by decide +kernel
theorem dX6_seen_67 : decode cX6_seen 67 = .ok (.iadd, 1) := by decide +kernel
theorem dX6_seen_68 : decode cX6_seen 68 = .ok (.putfield 167, 3) := by decide +kernel
theorem dX6_seen_71 : decode cX6_seen 71 = .ok (.aload_n 0, 1) := by decide +kernel
theorem dX6_seen_72 : decode cX6_seen 72 = .ok (.getfield 167, 3) := by decide +kernel
theorem dX6_seen_75 : decode cX6_seen 75 = .ok (.ireturn, 1) := by decide +kernel
theorem dX6_forget_0 : decode cX6_forget 0 = .ok (.aload_n 0, 1) := by decide +kernel
theorem dX6_forget_1 : decode cX6_forget 1 = .ok (.getfield 167, 3) := by decide +kernel
theorem dX6_forget_4 : decode cX6_forget 4 = .ok (.istore_n 1, 1) := by decide +kernel
theorem dX6_forget_5 : decode cX6_forget 5 = .ok (.aload_n 0, 1) := by decide +kernel
theorem dX6_forget_6 : decode cX6_forget 6 = .ok (.iconst 0, 1) := by decide +kernel
theorem dX6_forget_7 : decode cX6_forget 7 = .ok (.putfield 167, 3) := by decide +kernel
theorem dX6_forget_10 : decode cX6_forget 10 = .ok (.iload_n 1, 1) := by decide +kernel
theorem dX6_forget_11 : decode cX6_forget 11 = .ok (.ireturn, 1) := by decide +kernel
set_option maxRecDepth 20000 in
theorem ggX6_layBurns_X6_asNow : GoodIn wsX6_layBurns wsX6_asNow := goodIn_r _ [6, 7, 8, 9, 10, 11, 16, 17, 18, 19, 20, 21, 22, 23, 24, 25, 26, 27, 28, 29, 30, 31, 32, 33, 34, 35, 36, 37] (by decide +kernel) (by decide +kernel)
set_option maxRecDepth 20000 in
theorem gX6_layBurns_X6_asNow : GoodIn wsX6_layBurns (wsV RX6 64 RX6 yX6_asNow wsX6_asNow) := goodIn_app (goodIn_of _ (by decide +kernel)) ggX6_layBurns_X6_asNow
set_option maxRecDepth 20000 in
theorem ggX6_layBurns_X6_burnOf : GoodIn wsX6_layBurns wsX6_burnOf := goodIn_r _ [15, 7, 16, 17, 18, 19, 20, 21, 22, 23, 24, 25, 26, 27, 28, 29, 30, 31, 32, 33, 34, 35, 36, 37] (by decide +kernel) (by decide +kernel)
set_option maxRecDepth 20000 in
theorem gX6_layBurns_X6_burnOf : GoodIn wsX6_layBurns (wsV RX6 98 RX6 yX6_burnOf wsX6_burnOf) := goodIn_app (goodIn_of _ (by decide +kernel)) ggX6_layBurns_X6_burnOf
theorem dX6_layBurns_0 : decode cX6_layBurns 0 = .ok (.aload_n 0, 1) := by decide +kernel
theorem dX6_layBurns_1 : decode cX6_layBurns 1 = .ok (.invokevirtual 64, 3) := by decide +kernel
theorem dX6_layBurns_4 : decode cX6_layBurns 4 = .ok (.iconst 0, 1) := by decide +kernel
theorem dX6_layBurns_5 : decode cX6_layBurns 5 = .ok (.istore_n 1, 1) := by decide +kernel
theorem dX6_layBurns_6 : decode cX6_layBurns 6 = .ok (.iload_n 1, 1) := by decide +kernel
theorem dX6_layBurns_7 : decode cX6_layBurns 7 = .ok (.bipush 12, 2) := by decide +kernel
theorem dX6_layBurns_9 : decode cX6_layBurns 9 = .ok (.if_icmp .ge 20, 3) := by decide +kernel
theorem dX6_layBurns_12 : decode cX6_layBurns 12 = .ok (.aload_n 0, 1) := by decide +kernel
theorem dX6_layBurns_13 : decode cX6_layBurns 13 = .ok (.getfield 34, 3) := by decide +kernel
theorem dX6_layBurns_16 : decode cX6_layBurns 16 = .ok (.iload_n 1, 1) := by decide +kernel
theorem dX6_layBurns_17 : decode cX6_layBurns 17 = .ok (.aload_n 0, 1) := by decide +kernel
theorem dX6_layBurns_18 : decode cX6_layBurns 18 = .ok (.iload_n 1, 1) := by decide +kernel
theorem dX6_layBurns_19 : decode cX6_layBurns 19 = .ok (.invokevirtual 98, 3) := by decide +kernel
theorem dX6_layBurns_22 : decode cX6_layBurns 22 = .ok (.iastore, 1) := by decide +kernel
theorem dX6_layBurns_23 : decode cX6_layBurns 23 = .ok (.iinc 1 1, 3) := by decide +kernel
theorem dX6_layBurns_26 : decode cX6_layBurns 26 = .ok (.goto (-20), 3) := by decide +kernel
theorem dX6_layBurns_29 : decode cX6_layBurns 29 = .ok (.return_, 1) := by decide +kernel
set_option maxRecDepth 20000 in
theorem ggX6_lostBy_X6_in : GoodIn wsX6_lostBy wsX6_in := goodIn_r _ [6] (by decide +kernel) (by decide +kernel)
set_option maxRecDepth 20000 in
theorem gX6_lostBy_X6_in : GoodIn wsX6_lostBy (va_wsS RX6 53 yX6_in wsX6_in) := goodIn_app (goodIn_of _ (by decide +kernel)) ggX6_lostBy_X6_in
theorem dX6_lostBy_0 : decode cX6_lostBy 0 = .ok (.iload_n 1, 1) := by decide +kernel
theorem dX6_lostBy_1 : decode cX6_lostBy 1 = .ok (.bipush 10, 2) := by decide +kernel
theorem dX6_lostBy_3 : decode cX6_lostBy 3 = .ok (.irem, 1) := by decide +kernel
theorem dX6_lostBy_4 : decode cX6_lostBy 4 = .ok (.istore_n 3, 1) := by decide +kernel
theorem dX6_lostBy_5 : decode cX6_lostBy 5 = .ok (.iload_n 2, 1) := by decide +kernel
theorem dX6_lostBy_6 : decode cX6_lostBy 6 = .ok (.iload_n 1, 1) := by decide +kernel
theorem dX6_lostBy_7 : decode cX6_lostBy 7 = .ok (.sipush 1000, 3) := by decide +kernel
theorem dX6_lostBy_10 : decode cX6_lostBy 10 = .ok (.idiv, 1) := by decide +kernel
theorem dX6_lostBy_11 : decode cX6_lostBy 11 = .ok (.isub, 1) := by decide +kernel
theorem dX6_lostBy_12 : decode cX6_lostBy 12 = .ok (.iload_n 3, 1) := by decide +kernel
theorem dX6_lostBy_13 : decode cX6_lostBy 13 = .ok (.ineg, 1) := by decide +kernel
theorem dX6_lostBy_14 : decode cX6_lostBy 14 = .ok (.iload_n 3, 1) := by decide +kernel
theorem dX6_lostBy_15 : decode cX6_lostBy 15 = .ok (.invokestatic 53, 3) := by decide +kernel
theorem dX6_lostBy_18 : decode cX6_lostBy 18 = .ok (.ifCond .eq 13, 3) := by decide +kernel
theorem dX6_lostBy_21 : decode cX6_lostBy 21 = .ok (.iload_n 1, 1) := by decide +kernel
theorem dX6_lostBy_22 : decode cX6_lostBy 22 = .ok (.bipush 10, 2) := by decide +kernel
theorem dX6_lostBy_24 : decode cX6_lostBy 24 = .ok (.idiv, 1) := by decide +kernel
theorem dX6_lostBy_25 : decode cX6_lostBy 25 = .ok (.bipush 100, 2) := by decide +kernel
theorem dX6_lostBy_27 : decode cX6_lostBy 27 = .ok (.irem, 1) := by decide +kernel
theorem dX6_lostBy_28 : decode cX6_lostBy 28 = .ok (.goto 5, 3) := by decide +kernel
theorem dX6_lostBy_31 : decode cX6_lostBy 31 = .ok (.bipush 60, 2) := by decide +kernel
theorem dX6_lostBy_33 : decode cX6_lostBy 33 = .ok (.istore 4, 2) := by decide +kernel
theorem dX6_lostBy_35 : decode cX6_lostBy 35 = .ok (.aload_n 0, 1) := by decide +kernel
theorem dX6_lostBy_36 : decode cX6_lostBy 36 = .ok (.getfield 34, 3) := by decide +kernel
theorem dX6_lostBy_39 : decode cX6_lostBy 39 = .ok (.iload_n 2, 1) := by decide +kernel
theorem dX6_lostBy_40 : decode cX6_lostBy 40 = .ok (.iaload, 1) := by decide +kernel
theorem dX6_lostBy_41 : decode cX6_lostBy 41 = .ok (.iload 4, 2) := by decide +kernel
theorem dX6_lostBy_43 : decode cX6_lostBy 43 = .ok (.imul, 1) := by decide +kernel
theorem dX6_lostBy_44 : decode cX6_lostBy 44 = .ok (.istore 5, 2) := by decide +kernel
theorem dX6_lostBy_46 : decode cX6_lostBy 46 = .ok (.iload 5, 2) := by decide +kernel
theorem dX6_lostBy_48 : decode cX6_lostBy 48 = .ok (.aload_n 0, 1) := by decide +kernel
theorem dX6_lostBy_49 : decode cX6_lostBy 49 = .ok (.getfield 7, 3) := by decide +kernel
theorem dX6_lostBy_52 : decode cX6_lostBy 52 = .ok (.iload_n 2, 1) := by decide +kernel
theorem dX6_lostBy_53 : decode cX6_lostBy 53 = .ok (.iaload, 1) := by decide +kernel
theorem dX6_lostBy_54 : decode cX6_lostBy 54 = .ok (.if_icmp .ge 8, 3) := by decide +kernel
theorem dX6_lostBy_57 : decode cX6_lostBy 57 = .ok (.iload 5, 2) := by decide +kernel
theorem dX6_lostBy_59 : decode cX6_lostBy 59 = .ok (.goto 9, 3) := by decide +kernel
theorem dX6_lostBy_62 : decode cX6_lostBy 62 = .ok (.aload_n 0, 1) := by decide +kernel
theorem dX6_lostBy_63 : decode cX6_lostBy 63 = .ok (.getfield 7, 3) := by decide +kernel
theorem dX6_lostBy_66 : decode cX6_lostBy 66 = .ok (.iload_n 2, 1) := by decide +kernel
theorem dX6_lostBy_67 : decode cX6_lostBy 67 = .ok (.iaload, 1) := by decide +kernel
theorem dX6_lostBy_68 : decode cX6_lostBy 68 = .ok (.ireturn, 1) := by decide +kernel
set_option maxRecDepth 20000 in
theorem ggX6_isSneeze_X6_in : GoodIn wsX6_isSneeze wsX6_in := goodIn_r _ [6] (by decide +kernel) (by decide +kernel)
set_option maxRecDepth 20000 in
theorem gX6_isSneeze_X6_in : GoodIn wsX6_isSneeze (va_wsS RX6 53 yX6_in wsX6_in) := goodIn_app (goodIn_of _ (by decide +kernel)) ggX6_isSneeze_X6_in
set_option maxRecDepth 20000 in
theorem ggX6_isSneeze_X6_lostBy : GoodIn wsX6_isSneeze wsX6_lostBy := goodIn_r _ [10, 11, 12, 3, 4, 5, 6, 13, 14, 15, 16, 17, 18, 19, 20, 21, 22, 23, 24, 25, 26, 27, 28, 29, 30, 31, 32, 33, 34] (by decide +kernel) (by decide +kernel)
set_option maxRecDepth 20000 in
theorem gX6_isSneeze_X6_lostBy : GoodIn wsX6_isSneeze (wsV RX6 170 RX6 yX6_lostBy wsX6_lostBy) := goodIn_app (goodIn_of _ (by decide +kernel)) ggX6_isSneeze_X6_lostBy
theorem dX6_isSneeze_0 : decode cX6_isSneeze 0 = .ok (.iload_n 1, 1) := by decide +kernel
theorem dX6_isSneeze_1 : decode cX6_isSneeze 1 = .ok (.sipush 1000, 3) := by decide +kernel
theorem dX6_isSneeze_4 : decode cX6_isSneeze 4 = .ok (.idiv, 1) := by decide +kernel
theorem dX6_isSneeze_5 : decode cX6_isSneeze 5 = .ok (.iconst 0, 1) := by decide +kernel
theorem dX6_isSneeze_6 : decode cX6_isSneeze 6 = .ok (.bipush 11, 2) := by decide +kernel
theorem dX6_isSneeze_8 : decode cX6_isSneeze 8 = .ok (.invokestatic 53, 3) := by decide +kernel
theorem dX6_isSneeze_11 : decode cX6_isSneeze 11 = .ok (.ifCond .eq 35, 3) := by decide +kernel
theorem dX6_isSneeze_14 : decode cX6_isSneeze 14 = .ok (.iload_n 1, 1) := by decide +kernel
theorem dX6_isSneeze_15 : decode cX6_isSneeze 15 = .ok (.bipush 10, 2) := by decide +kernel
theorem dX6_isSneeze_17 : decode cX6_isSneeze 17 = .ok (.idiv, 1) := by decide +kernel
theorem dX6_isSneeze_18 : decode cX6_isSneeze 18 = .ok (.bipush 100, 2) := by decide +kernel
theorem dX6_isSneeze_20 : decode cX6_isSneeze 20 = .ok (.irem, 1) := by decide +kernel
theorem dX6_isSneeze_21 : decode cX6_isSneeze 21 = .ok (.iconst 0, 1) := by decide +kernel
theorem dX6_isSneeze_22 : decode cX6_isSneeze 22 = .ok (.bipush 60, 2) := by decide +kernel
theorem dX6_isSneeze_24 : decode cX6_isSneeze 24 = .ok (.invokestatic 53, 3) := by decide +kernel
theorem dX6_isSneeze_27 : decode cX6_isSneeze 27 = .ok (.ifCond .eq 19, 3) := by decide +kernel
theorem dX6_isSneeze_30 : decode cX6_isSneeze 30 = .ok (.iload_n 1, 1) := by decide +kernel
theorem dX6_isSneeze_31 : decode cX6_isSneeze 31 = .ok (.bipush 10, 2) := by decide +kernel
theorem dX6_isSneeze_33 : decode cX6_isSneeze 33 = .ok (.irem, 1) := by decide +kernel
theorem dX6_isSneeze_34 : decode cX6_isSneeze 34 = .ok (.iconst 0, 1) := by decide +kernel
theorem dX6_isSneeze_35 : decode cX6_isSneeze 35 = .ok (.iconst 3, 1) := by decide +kernel
theorem dX6_isSneeze_36 : decode cX6_isSneeze 36 = .ok (.invokestatic 53, 3) := by decide +kernel
theorem dX6_isSneeze_39 : decode cX6_isSneeze 39 = .ok (.ifCond .eq 7, 3) := by decide +kernel
theorem dX6_isSneeze_42 : decode cX6_isSneeze 42 = .ok (.iconst 1, 1) := by decide +kernel
theorem dX6_isSneeze_43 : decode cX6_isSneeze 43 = .ok (.goto 4, 3) := by decide +kernel
theorem dX6_isSneeze_46 : decode cX6_isSneeze 46 = .ok (.iconst 0, 1) := by decide +kernel
theorem dX6_isSneeze_47 : decode cX6_isSneeze 47 = .ok (.istore_n 2, 1) := by decide +kernel
theorem dX6_isSneeze_48 : decode cX6_isSneeze 48 = .ok (.iconst 0, 1) := by decide +kernel
theorem dX6_isSneeze_49 : decode cX6_isSneeze 49 = .ok (.istore_n 3, 1) := by decide +kernel
theorem dX6_isSneeze_50 : decode cX6_isSneeze 50 = .ok (.iload_n 3, 1) := by decide +kernel
theorem dX6_isSneeze_51 : decode cX6_isSneeze 51 = .ok (.aload_n 0, 1) := by decide +kernel
theorem dX6_isSneeze_52 : decode cX6_isSneeze 52 = .ok (.getfield 167, 3) := by decide +kernel
theorem dX6_isSneeze_55 : decode cX6_isSneeze 55 = .ok (.if_icmp .ge 45, 3) := by decide +kernel
theorem dX6_isSneeze_58 : decode cX6_isSneeze 58 = .ok (.iload_n 2, 1) := by decide +kernel
theorem dX6_isSneeze_59 : decode cX6_isSneeze 59 = .ok (.ifCond .eq 41, 3) := by decide +kernel
theorem dX6_isSneeze_62 : decode cX6_isSneeze 62 = .ok (.aload_n 0, 1) := by decide +kernel
theorem dX6_isSneeze_63 : decode cX6_isSneeze 63 = .ok (.iload_n 1, 1) := by decide +kernel
theorem dX6_isSneeze_64 : decode cX6_isSneeze 64 = .ok (.aload_n 0, 1) := by decide +kernel
theorem dX6_isSneeze_65 : decode cX6_isSneeze 65 = .ok (.getfield 22, 3) := by decide +kernel
theorem dX6_isSneeze_68 : decode cX6_isSneeze 68 = .ok (.iconst 2, 1) := by decide +kernel
theorem dX6_isSneeze_69 : decode cX6_isSneeze 69 = .ok (.iload_n 3, 1) := by decide +kernel
theorem dX6_isSneeze_70 : decode cX6_isSneeze 70 = .ok (.imul, 1) := by decide +kernel
theorem dX6_isSneeze_71 : decode cX6_isSneeze 71 = .ok (.iaload, 1) := by decide +kernel
theorem dX6_isSneeze_72 : decode cX6_isSneeze 72 = .ok (.invokevirtual 170, 3) := by decide +kernel
theorem dX6_isSneeze_75 : decode cX6_isSneeze 75 = .ok (.aload_n 0, 1) := by decide +kernel
theorem dX6_isSneeze_76 : decode cX6_isSneeze 76 = .ok (.getfield 22, 3) := by decide +kernel
theorem dX6_isSneeze_79 : decode cX6_isSneeze 79 = .ok (.iconst 2, 1) := by decide +kernel
theorem dX6_isSneeze_80 : decode cX6_isSneeze 80 = .ok (.iload_n 3, 1) := by decide +kernel
theorem dX6_isSneeze_81 : decode cX6_isSneeze 81 = .ok (.imul, 1) := by decide +kernel
theorem dX6_isSneeze_82 : decode cX6_isSneeze 82 = .ok (.iconst 1, 1) := by decide +kernel
theorem dX6_isSneeze_83 : decode cX6_isSneeze 83 = .ok (.iadd, 1) := by decide +kernel
theorem dX6_isSneeze_84 : decode cX6_isSneeze 84 = .ok (.iaload, 1) := by decide +kernel
theorem dX6_isSneeze_85 : decode cX6_isSneeze 85 = .ok (.if_icmp .ne 7, 3) := by decide +kernel
theorem dX6_isSneeze_88 : decode cX6_isSneeze 88 = .ok (.iconst 1, 1) := by decide +kernel
theorem dX6_isSneeze_89 : decode cX6_isSneeze 89 = .ok (.goto 4, 3) := by decide +kernel
theorem dX6_isSneeze_92 : decode cX6_isSneeze 92 = .ok (.iconst 0, 1) := by decide +kernel
theorem dX6_isSneeze_93 : decode cX6_isSneeze 93 = .ok (.istore_n 2, 1) := by decide +kernel
theorem dX6_isSneeze_94 : decode cX6_isSneeze 94 = .ok (.iinc 3 1, 3) := by decide +kernel
theorem dX6_isSneeze_97 : decode cX6_isSneeze 97 = .ok (.goto (-47), 3) := by decide +kernel
theorem dX6_isSneeze_100 : decode cX6_isSneeze 100 = .ok (.iload_n 2, 1) := by decide +kernel
theorem dX6_isSneeze_101 : decode cX6_isSneeze 101 = .ok (.ireturn, 1) := by decide +kernel
set_option maxRecDepth 20000 in
theorem ggX6_sneezes_X6_layBurns : GoodIn wsX6_sneezes wsX6_layBurns := goodIn_r _ [5, 6, 7, 8, 9, 4, 10, 11, 12, 13, 14, 15, 16, 17, 18, 19, 33, 34, 35, 36, 37, 38, 39, 40, 41, 42, 43, 44, 45, 46, 47, 48, 49, 50, 51, 52, 53, 54] (by decide +kernel) (by decide +kernel)
set_option maxRecDepth 20000 in
theorem gX6_sneezes_X6_layBurns : GoodIn wsX6_sneezes (wsV RX6 173 RX6 yX6_layBurns wsX6_layBurns) := goodIn_app (goodIn_of _ (by decide +kernel)) ggX6_sneezes_X6_layBurns
set_option maxRecDepth 20000 in
theorem ggX6_sneezes_X6_isSneeze : GoodIn wsX6_sneezes wsX6_isSneeze := goodIn_r _ [23, 24, 25, 26, 27, 4, 28, 29, 30, 31, 32, 6, 12, 33, 34, 35, 36, 37, 38, 39, 40, 41, 42, 43, 44, 45, 46, 47, 48, 49, 50, 51, 52, 53, 54] (by decide +kernel) (by decide +kernel)
set_option maxRecDepth 20000 in
theorem gX6_sneezes_X6_isSneeze : GoodIn wsX6_sneezes (wsV RX6 176 RX6 yX6_isSneeze wsX6_isSneeze) := goodIn_app (goodIn_of _ (by decide +kernel)) ggX6_sneezes_X6_isSneeze
theorem dX6_sneezes_0 : decode cX6_sneezes 0 = .ok (.aload_n 0, 1) := by decide +kernel
theorem dX6_sneezes_1 : decode cX6_sneezes 1 = .ok (.invokevirtual 173, 3) := by decide +kernel
theorem dX6_sneezes_4 : decode cX6_sneezes 4 = .ok (.iconst 0, 1) := by decide +kernel
theorem dX6_sneezes_5 : decode cX6_sneezes 5 = .ok (.istore_n 2, 1) := by decide +kernel
theorem dX6_sneezes_6 : decode cX6_sneezes 6 = .ok (.iconst 0, 1) := by decide +kernel
theorem dX6_sneezes_7 : decode cX6_sneezes 7 = .ok (.istore_n 3, 1) := by decide +kernel
theorem dX6_sneezes_8 : decode cX6_sneezes 8 = .ok (.iload_n 3, 1) := by decide +kernel
theorem dX6_sneezes_9 : decode cX6_sneezes 9 = .ok (.sipush 12000, 3) := by decide +kernel
theorem dX6_sneezes_12 : decode cX6_sneezes 12 = .ok (.if_icmp .ge 27, 3) := by decide +kernel
theorem dX6_sneezes_15 : decode cX6_sneezes 15 = .ok (.aload_n 0, 1) := by decide +kernel
theorem dX6_sneezes_16 : decode cX6_sneezes 16 = .ok (.iload_n 3, 1) := by decide +kernel
theorem dX6_sneezes_17 : decode cX6_sneezes 17 = .ok (.invokevirtual 176, 3) := by decide +kernel
theorem dX6_sneezes_20 : decode cX6_sneezes 20 = .ok (.ifCond .eq 13, 3) := by decide +kernel
theorem dX6_sneezes_23 : decode cX6_sneezes 23 = .ok (.iload_n 2, 1) := by decide +kernel
theorem dX6_sneezes_24 : decode cX6_sneezes 24 = .ok (.iload_n 1, 1) := by decide +kernel
theorem dX6_sneezes_25 : decode cX6_sneezes 25 = .ok (.if_icmp .ne 5, 3) := by decide +kernel
theorem dX6_sneezes_28 : decode cX6_sneezes 28 = .ok (.iload_n 3, 1) := by decide +kernel
theorem dX6_sneezes_29 : decode cX6_sneezes 29 = .ok (.ireturn, 1) := by decide +kernel
theorem dX6_sneezes_30 : decode cX6_sneezes 30 = .ok (.iinc 2 1, 3) := by decide +kernel
theorem dX6_sneezes_33 : decode cX6_sneezes 33 = .ok (.iinc 3 1, 3) := by decide +kernel
theorem dX6_sneezes_36 : decode cX6_sneezes 36 = .ok (.goto (-28), 3) := by decide +kernel
theorem dX6_sneezes_39 : decode cX6_sneezes 39 = .ok (.iload_n 1, 1) := by decide +kernel
theorem dX6_sneezes_40 : decode cX6_sneezes 40 = .ok (.iconst (-1), 1) := by decide +kernel
theorem dX6_sneezes_41 : decode cX6_sneezes 41 = .ok (.if_icmp .ne 7, 3) := by decide +kernel
theorem dX6_sneezes_44 : decode cX6_sneezes 44 = .ok (.iload_n 2, 1) := by decide +kernel
theorem dX6_sneezes_45 : decode cX6_sneezes 45 = .ok (.goto 5, 3) := by decide +kernel
theorem dX6_sneezes_48 : decode cX6_sneezes 48 = .ok (.bipush (-6), 2) := by decide +kernel
theorem dX6_sneezes_50 : decode cX6_sneezes 50 = .ok (.ireturn, 1) := by decide +kernel
set_option maxRecDepth 20000 in
theorem ggX6_look_X6_in : GoodIn wsX6_look wsX6_in := goodIn_r _ [6] (by decide +kernel) (by decide +kernel)
set_option maxRecDepth 20000 in
theorem gX6_look_X6_in : GoodIn wsX6_look (va_wsS RX6 53 yX6_in wsX6_in) := goodIn_app (goodIn_of _ (by decide +kernel)) ggX6_look_X6_in
set_option maxRecDepth 20000 in
theorem ggX6_look_X6_layBurns : GoodIn wsX6_look wsX6_layBurns := goodIn_r _ [10, 11, 12, 13, 14, 5, 15, 16, 17, 18, 19, 20, 21, 22, 23, 24, 35, 36, 37, 38, 39, 40, 41, 42, 43, 44, 45, 46, 47, 48, 49, 50, 51, 52, 53, 54, 55, 56] (by decide +kernel) (by decide +kernel)
set_option maxRecDepth 20000 in
theorem gX6_look_X6_layBurns : GoodIn wsX6_look (wsV RX6 173 RX6 yX6_layBurns wsX6_layBurns) := goodIn_app (goodIn_of _ (by decide +kernel)) ggX6_look_X6_layBurns
set_option maxRecDepth 20000 in
theorem ggX6_look_X6_isSneeze : GoodIn wsX6_look wsX6_isSneeze := goodIn_r _ [28, 29, 30, 3, 4, 5, 6, 31, 32, 33, 34, 11, 17, 35, 36, 37, 38, 39, 40, 41, 42, 43, 44, 45, 46, 47, 48, 49, 50, 51, 52, 53, 54, 55, 56] (by decide +kernel) (by decide +kernel)
set_option maxRecDepth 20000 in
theorem gX6_look_X6_isSneeze : GoodIn wsX6_look (wsV RX6 176 RX6 yX6_isSneeze wsX6_isSneeze) := goodIn_app (goodIn_of _ (by decide +kernel)) ggX6_look_X6_isSneeze
set_option maxRecDepth 20000 in
theorem ggX6_look_X6_lostBy : GoodIn wsX6_look wsX6_lostBy := goodIn_r _ [34, 11, 17, 3, 4, 5, 6, 35, 36, 37, 38, 39, 40, 41, 42, 43, 44, 45, 46, 47, 48, 49, 50, 51, 52, 53, 54, 55, 56] (by decide +kernel) (by decide +kernel)
set_option maxRecDepth 20000 in
theorem gX6_look_X6_lostBy : GoodIn wsX6_look (wsV RX6 170 RX6 yX6_lostBy wsX6_lostBy) := goodIn_app (goodIn_of _ (by decide +kernel)) ggX6_look_X6_lostBy
theorem dX6_look_0 : decode cX6_look 0 = .ok (.iload_n 1, 1) := by decide +kernel
theorem dX6_look_1 : decode cX6_look 1 = .ok (.iconst 0, 1) := by decide +kernel
theorem dX6_look_2 : decode cX6_look 2 = .ok (.iconst 1, 1) := by decide +kernel
theorem dX6_look_3 : decode cX6_look 3 = .ok (.invokestatic 53, 3) := by decide +kernel
theorem dX6_look_6 : decode cX6_look 6 = .ok (.ifCond .ne 6, 3) := by decide +kernel
theorem dX6_look_9 : decode cX6_look 9 = .ok (.bipush (-2), 2) := by decide +kernel
theorem dX6_look_11 : decode cX6_look 11 = .ok (.ireturn, 1) := by decide +kernel
theorem dX6_look_12 : decode cX6_look 12 = .ok (.aload_n 0, 1) := by decide +kernel
theorem dX6_look_13 : decode cX6_look 13 = .ok (.invokevirtual 173, 3) := by decide +kernel
theorem dX6_look_16 : decode cX6_look 16 = .ok (.bipush (-6), 2) := by decide +kernel
theorem dX6_look_18 : decode cX6_look 18 = .ok (.istore_n 2, 1) := by decide +kernel
theorem dX6_look_19 : decode cX6_look 19 = .ok (.ldc 150, 2) := by decide +kernel
theorem dX6_look_21 : decode cX6_look 21 = .ok (.istore_n 3, 1) := by decide +kernel
theorem dX6_look_22 : decode cX6_look 22 = .ok (.iconst 0, 1) := by decide +kernel
theorem dX6_look_23 : decode cX6_look 23 = .ok (.istore 4, 2) := by decide +kernel
theorem dX6_look_25 : decode cX6_look 25 = .ok (.iload 4, 2) := by decide +kernel
theorem dX6_look_27 : decode cX6_look 27 = .ok (.bipush 12, 2) := by decide +kernel
theorem dX6_look_29 : decode cX6_look 29 = .ok (.if_icmp .ge 152, 3) := by decide +kernel
theorem dX6_look_32 : decode cX6_look 32 = .ok (.iconst 0, 1) := by decide +kernel
theorem dX6_look_33 : decode cX6_look 33 = .ok (.istore 5, 2) := by decide +kernel
theorem dX6_look_35 : decode cX6_look 35 = .ok (.iconst 0, 1) := by decide +kernel
theorem dX6_look_36 : decode cX6_look 36 = .ok (.istore 6, 2) := by decide +kernel
theorem dX6_look_38 : decode cX6_look 38 = .ok (.iload 6, 2) := by decide +kernel
theorem dX6_look_40 : decode cX6_look 40 = .ok (.sipush 1000, 3) := by decide +kernel
theorem dX6_look_43 : decode cX6_look 43 = .ok (.if_icmp .ge 17, 3) := by decide +kernel
theorem dX6_look_46 : decode cX6_look 46 = .ok (.aload_n 0, 1) := by decide +kernel
theorem dX6_look_47 : decode cX6_look 47 = .ok (.getfield 37, 3) := by decide +kernel
theorem dX6_look_50 : decode cX6_look 50 = .ok (.iload 6, 2) := by decide +kernel
theorem dX6_look_52 : decode cX6_look 52 = .ok (.iconst 0, 1) := by decide +kernel
theorem dX6_look_53 : decode cX6_look 53 = .ok (.iastore, 1) := by decide +kernel
theorem dX6_look_54 : decode cX6_look 54 = .ok (.iinc 6 1, 3) := by decide +kernel
theorem dX6_look_57 : decode cX6_look 57 = .ok (.goto (-19), 3) := by decide +kernel
theorem dX6_look_60 : decode cX6_look 60 = .ok (.iconst 0, 1) := by decide +kernel
theorem dX6_look_61 : decode cX6_look 61 = .ok (.istore 6, 2) := by decide +kernel
theorem dX6_look_63 : decode cX6_look 63 = .ok (.iload 6, 2) := by decide +kernel
theorem dX6_look_65 : decode cX6_look 65 = .ok (.sipush 12000, 3) := by decide +kernel
theorem dX6_look_68 : decode cX6_look 68 = .ok (.if_icmp .ge 65, 3) := by decide +kernel
theorem dX6_look_71 : decode cX6_look 71 = .ok (.aload_n 0, 1) := by decide +kernel
theorem dX6_look_72 : decode cX6_look 72 = .ok (.iload 6, 2) := by decide +kernel
theorem dX6_look_74 : decode cX6_look 74 = .ok (.invokevirtual 176, 3) := by decide +kernel
theorem dX6_look_77 : decode cX6_look 77 = .ok (.ifCond .eq 50, 3) := by decide +kernel
theorem dX6_look_80 : decode cX6_look 80 = .ok (.aload_n 0, 1) := by decide +kernel
theorem dX6_look_81 : decode cX6_look 81 = .ok (.iload 6, 2) := by decide +kernel
theorem dX6_look_83 : decode cX6_look 83 = .ok (.iload 4, 2) := by decide +kernel
theorem dX6_look_85 : decode cX6_look 85 = .ok (.invokevirtual 170, 3) := by decide +kernel
theorem dX6_look_88 : decode cX6_look 88 = .ok (.istore 7, 2) := by decide +kernel
theorem dX6_look_90 : decode cX6_look 90 = .ok (.aload_n 0, 1) := by decide +kernel
theorem dX6_look_91 : decode cX6_look 91 = .ok (.getfield 37, 3) := by decide +kernel
theorem dX6_look_94 : decode cX6_look 94 = .ok (.iload 7, 2) := by decide +kernel
theorem dX6_look_96 : decode cX6_look 96 = .ok (.dup2, 1) := by decide +kernel
theorem dX6_look_97 : decode cX6_look 97 = .ok (.iaload, 1) := by decide +kernel
theorem dX6_look_98 : decode cX6_look 98 = .ok (.iconst 1, 1) := by decide +kernel
theorem dX6_look_99 : decode cX6_look 99 = .ok (.iadd, 1) := by decide +kernel
theorem dX6_look_100 : decode cX6_look 100 = .ok (.iastore, 1) := by decide +kernel
theorem dX6_look_101 : decode cX6_look 101 = .ok (.aload_n 0, 1) := by decide +kernel
theorem dX6_look_102 : decode cX6_look 102 = .ok (.getfield 37, 3) := by decide +kernel
theorem dX6_look_105 : decode cX6_look 105 = .ok (.iload 7, 2) := by decide +kernel
theorem dX6_look_107 : decode cX6_look 107 = .ok (.iaload, 1) := by decide +kernel
theorem dX6_look_108 : decode cX6_look 108 = .ok (.iload 5, 2) := by decide +kernel
theorem dX6_look_110 : decode cX6_look 110 = .ok (.if_icmp .le 13, 3) := by decide +kernel
theorem dX6_look_113 : decode cX6_look 113 = .ok (.aload_n 0, 1) := by decide +kernel
theorem dX6_look_114 : decode cX6_look 114 = .ok (.getfield 37, 3) := by decide +kernel
theorem dX6_look_117 : decode cX6_look 117 = .ok (.iload 7, 2) := by decide +kernel
theorem dX6_look_119 : decode cX6_look 119 = .ok (.iaload, 1) := by decide +kernel
theorem dX6_look_120 : decode cX6_look 120 = .ok (.goto 5, 3) := by decide +kernel
theorem dX6_look_123 : decode cX6_look 123 = .ok (.iload 5, 2) := by decide +kernel
theorem dX6_look_125 : decode cX6_look 125 = .ok (.istore 5, 2) := by decide +kernel
theorem dX6_look_127 : decode cX6_look 127 = .ok (.iinc 6 1, 3) := by decide +kernel
theorem dX6_look_130 : decode cX6_look 130 = .ok (.goto (-67), 3) := by decide +kernel
theorem dX6_look_133 : decode cX6_look 133 = .ok (.iload 5, 2) := by decide +kernel
theorem dX6_look_135 : decode cX6_look 135 = .ok (.ifCond .le 13, 3) := by decide +kernel
theorem dX6_look_138 : decode cX6_look 138 = .ok (.iload 5, 2) := by decide +kernel
theorem dX6_look_140 : decode cX6_look 140 = .ok (.iload_n 3, 1) := by decide +kernel
theorem dX6_look_141 : decode cX6_look 141 = .ok (.if_icmp .ge 7, 3) := by decide +kernel
theorem dX6_look_144 : decode cX6_look 144 = .ok (.iconst 1, 1) := by decide +kernel
theorem dX6_look_145 : decode cX6_look 145 = .ok (.goto 4, 3) := by decide +kernel
theorem dX6_look_148 : decode cX6_look 148 = .ok (.iconst 0, 1) := by decide +kernel
theorem dX6_look_149 : decode cX6_look 149 = .ok (.istore 6, 2) := by decide +kernel
theorem dX6_look_151 : decode cX6_look 151 = .ok (.iload 6, 2) := by decide +kernel
