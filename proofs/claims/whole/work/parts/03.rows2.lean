set_option maxRecDepth 20000 in
theorem ggX5_joined_X5_bit : GoodIn wsX5_joined wsX5_bit := goodIn_r _ [12] (by decide +kernel) (by decide +kernel)
set_option maxRecDepth 20000 in
theorem gX5_joined_X5_bit : GoodIn wsX5_joined (va_wsS RX5 145 yX5_bit wsX5_bit) := goodIn_app (goodIn_of _ (by decide +kernel)) ggX5_joined_X5_bit
theorem dX5_joined_0 : decode cX5_joined 0 = .ok (.iload_n 1, 1) := by decide +kernel
theorem dX5_joined_1 : decode cX5_joined 1 = .ok (.invokestatic 54, 3) := by decide +kernel
theorem dX5_joined_4 : decode cX5_joined 4 = .ok (.ifCond .eq 22, 3) := by decide +kernel
theorem dX5_joined_7 : decode cX5_joined 7 = .ok (.aload_n 0, 1) := by decide +kernel
theorem dX5_joined_8 : decode cX5_joined 8 = .ok (.getfield 12, 3) := by decide +kernel
theorem dX5_joined_11 : decode cX5_joined 11 = .ok (.getfield 142, 3) := by decide +kernel
theorem dX5_joined_14 : decode cX5_joined 14 = .ok (.iload_n 1, 1) := by decide +kernel
theorem dX5_joined_15 : decode cX5_joined 15 = .ok (.iaload, 1) := by decide +kernel
theorem dX5_joined_16 : decode cX5_joined 16 = .ok (.iload_n 1, 1) := by decide +kernel
theorem dX5_joined_17 : decode cX5_joined 17 = .ok (.invokestatic 145, 3) := by decide +kernel
theorem dX5_joined_20 : decode cX5_joined 20 = .ok (.iconst (-1), 1) := by decide +kernel
theorem dX5_joined_21 : decode cX5_joined 21 = .ok (.ixor, 1) := by decide +kernel
theorem dX5_joined_22 : decode cX5_joined 22 = .ok (.iand, 1) := by decide +kernel
theorem dX5_joined_23 : decode cX5_joined 23 = .ok (.goto 4, 3) := by decide +kernel
theorem dX5_joined_26 : decode cX5_joined 26 = .ok (.iconst (-1), 1) := by decide +kernel
theorem dX5_joined_27 : decode cX5_joined 27 = .ok (.ireturn, 1) := by decide +kernel
set_option maxRecDepth 20000 in
theorem ggX5_may_X5_isOne : GoodIn wsX5_may wsX5_isOne := goodIn_r _ [6, 7, 8, 5, 9] (by decide +kernel) (by decide +kernel)
set_option maxRecDepth 20000 in
theorem gX5_may_X5_isOne : GoodIn wsX5_may (va_wsS RX5 58 yX5_isOne wsX5_isOne) := goodIn_app (goodIn_of _ (by decide +kernel)) ggX5_may_X5_isOne
set_option maxRecDepth 20000 in
theorem ggX5_may_X3_canBeAsked : GoodIn wsX5_may wsX3_canBeAsked := goodIn_r _ [14, 15, 16, 17, 18, 13, 19, 20, 32, 33, 34, 35, 36, 37, 38, 39, 40, 41, 42, 43, 44, 45] (by decide +kernel) (by decide +kernel)
set_option maxRecDepth 20000 in
theorem gX5_may_X3_canBeAsked : GoodIn wsX5_may (wsV RX5 148 RX3 yX3_canBeAsked wsX3_canBeAsked) := goodIn_app (goodIn_of _ (by decide +kernel)) ggX5_may_X3_canBeAsked
set_option maxRecDepth 20000 in
theorem ggX5_may_X5_bit : GoodIn wsX5_may wsX5_bit := goodIn_r _ [23] (by decide +kernel) (by decide +kernel)
set_option maxRecDepth 20000 in
theorem gX5_may_X5_bit : GoodIn wsX5_may (va_wsS RX5 145 yX5_bit wsX5_bit) := goodIn_app (goodIn_of _ (by decide +kernel)) ggX5_may_X5_bit
theorem dX5_may_0 : decode cX5_may 0 = .ok (.iload_n 1, 1) := by decide +kernel
theorem dX5_may_1 : decode cX5_may 1 = .ok (.invokestatic 58, 3) := by decide +kernel
theorem dX5_may_4 : decode cX5_may 4 = .ok (.ifCond .ne 5, 3) := by decide +kernel
theorem dX5_may_7 : decode cX5_may 7 = .ok (.iconst (-1), 1) := by decide +kernel
theorem dX5_may_8 : decode cX5_may 8 = .ok (.ireturn, 1) := by decide +kernel
theorem dX5_may_9 : decode cX5_may 9 = .ok (.iconst 0, 1) := by decide +kernel
theorem dX5_may_10 : decode cX5_may 10 = .ok (.istore_n 2, 1) := by decide +kernel
theorem dX5_may_11 : decode cX5_may 11 = .ok (.iconst 0, 1) := by decide +kernel
theorem dX5_may_12 : decode cX5_may 12 = .ok (.istore_n 3, 1) := by decide +kernel
theorem dX5_may_13 : decode cX5_may 13 = .ok (.iload_n 3, 1) := by decide +kernel
theorem dX5_may_14 : decode cX5_may 14 = .ok (.bipush 12, 2) := by decide +kernel
theorem dX5_may_16 : decode cX5_may 16 = .ok (.if_icmp .ge 40, 3) := by decide +kernel
theorem dX5_may_19 : decode cX5_may 19 = .ok (.aload_n 0, 1) := by decide +kernel
theorem dX5_may_20 : decode cX5_may 20 = .ok (.getfield 12, 3) := by decide +kernel
theorem dX5_may_23 : decode cX5_may 23 = .ok (.iload_n 3, 1) := by decide +kernel
theorem dX5_may_24 : decode cX5_may 24 = .ok (.invokevirtual 148, 3) := by decide +kernel
theorem dX5_may_27 : decode cX5_may 27 = .ok (.ifCond .eq 23, 3) := by decide +kernel
theorem dX5_may_30 : decode cX5_may 30 = .ok (.aload_n 0, 1) := by decide +kernel
theorem dX5_may_31 : decode cX5_may 31 = .ok (.getfield 12, 3) := by decide +kernel
theorem dX5_may_34 : decode cX5_may 34 = .ok (.getfield 151, 3) := by decide +kernel
theorem dX5_may_37 : decode cX5_may 37 = .ok (.iload_n 3, 1) := by decide +kernel
theorem dX5_may_38 : decode cX5_may 38 = .ok (.iaload, 1) := by decide +kernel
theorem dX5_may_39 : decode cX5_may 39 = .ok (.iload_n 1, 1) := by decide +kernel
theorem dX5_may_40 : decode cX5_may 40 = .ok (.if_icmp .ne 10, 3) := by decide +kernel
theorem dX5_may_43 : decode cX5_may 43 = .ok (.iload_n 2, 1) := by decide +kernel
theorem dX5_may_44 : decode cX5_may 44 = .ok (.iload_n 3, 1) := by decide +kernel
theorem dX5_may_45 : decode cX5_may 45 = .ok (.invokestatic 145, 3) := by decide +kernel
theorem dX5_may_48 : decode cX5_may 48 = .ok (.ior, 1) := by decide +kernel
theorem dX5_may_49 : decode cX5_may 49 = .ok (.istore_n 2, 1) := by decide +kernel
theorem dX5_may_50 : decode cX5_may 50 = .ok (.iinc 3 1, 3) := by decide +kernel
theorem dX5_may_53 : decode cX5_may 53 = .ok (.goto (-40), 3) := by decide +kernel
theorem dX5_may_56 : decode cX5_may 56 = .ok (.iload_n 2, 1) := by decide +kernel
theorem dX5_may_57 : decode cX5_may 57 = .ok (.ireturn, 1) := by decide +kernel
set_option maxRecDepth 20000 in
theorem ggX5_net_X5_isOne : GoodIn wsX5_net wsX5_isOne := goodIn_r _ [9, 10, 11, 8, 12] (by decide +kernel) (by decide +kernel)
set_option maxRecDepth 20000 in
theorem gX5_net_X5_isOne : GoodIn wsX5_net (va_wsS RX5 58 yX5_isOne wsX5_isOne) := goodIn_app (goodIn_of _ (by decide +kernel)) ggX5_net_X5_isOne
set_option maxRecDepth 20000 in
theorem ggX5_net_X3_isLit : GoodIn wsX5_net wsX3_isLit := goodIn_r _ [17, 18, 27, 28, 29, 30, 31, 32, 33, 34, 35, 36, 37, 38, 39, 40] (by decide +kernel) (by decide +kernel)
set_option maxRecDepth 20000 in
theorem gX5_net_X3_isLit : GoodIn wsX5_net (wsV RX5 114 RX3 yX3_isLit wsX3_isLit) := goodIn_app (goodIn_of _ (by decide +kernel)) ggX5_net_X3_isLit
theorem dX5_net_0 : decode cX5_net 0 = .ok (.iload_n 1, 1) := by decide +kernel
theorem dX5_net_1 : decode cX5_net 1 = .ok (.invokestatic 58, 3) := by decide +kernel
theorem dX5_net_4 : decode cX5_net 4 = .ok (.ifCond .ne 5, 3) := by decide +kernel
theorem dX5_net_7 : decode cX5_net 7 = .ok (.iconst (-1), 1) := by decide +kernel
theorem dX5_net_8 : decode cX5_net 8 = .ok (.ireturn, 1) := by decide +kernel
theorem dX5_net_9 : decode cX5_net 9 = .ok (.ldc 154, 2) := by decide +kernel
theorem dX5_net_11 : decode cX5_net 11 = .ok (.istore_n 2, 1) := by decide +kernel
theorem dX5_net_12 : decode cX5_net 12 = .ok (.iconst 0, 1) := by decide +kernel
theorem dX5_net_13 : decode cX5_net 13 = .ok (.istore_n 3, 1) := by decide +kernel
theorem dX5_net_14 : decode cX5_net 14 = .ok (.iload_n 3, 1) := by decide +kernel
theorem dX5_net_15 : decode cX5_net 15 = .ok (.bipush 12, 2) := by decide +kernel
theorem dX5_net_17 : decode cX5_net 17 = .ok (.if_icmp .ge 81, 3) := by decide +kernel
theorem dX5_net_20 : decode cX5_net 20 = .ok (.aload_n 0, 1) := by decide +kernel
theorem dX5_net_21 : decode cX5_net 21 = .ok (.getfield 12, 3) := by decide +kernel
theorem dX5_net_24 : decode cX5_net 24 = .ok (.iload_n 3, 1) := by decide +kernel
theorem dX5_net_25 : decode cX5_net 25 = .ok (.invokevirtual 114, 3) := by decide +kernel
theorem dX5_net_28 : decode cX5_net 28 = .ok (.ifCond .eq 28, 3) := by decide +kernel
theorem dX5_net_31 : decode cX5_net 31 = .ok (.aload_n 0, 1) := by decide +kernel
theorem dX5_net_32 : decode cX5_net 32 = .ok (.getfield 12, 3) := by decide +kernel
theorem dX5_net_35 : decode cX5_net 35 = .ok (.getfield 151, 3) := by decide +kernel
theorem dX5_net_38 : decode cX5_net 38 = .ok (.iload_n 3, 1) := by decide +kernel
theorem dX5_net_39 : decode cX5_net 39 = .ok (.iaload, 1) := by decide +kernel
theorem dX5_net_40 : decode cX5_net 40 = .ok (.iload_n 1, 1) := by decide +kernel
theorem dX5_net_41 : decode cX5_net 41 = .ok (.if_icmp .ne 15, 3) := by decide +kernel
theorem dX5_net_44 : decode cX5_net 44 = .ok (.iload_n 2, 1) := by decide +kernel
theorem dX5_net_45 : decode cX5_net 45 = .ok (.aload_n 0, 1) := by decide +kernel
theorem dX5_net_46 : decode cX5_net 46 = .ok (.getfield 12, 3) := by decide +kernel
theorem dX5_net_49 : decode cX5_net 49 = .ok (.getfield 117, 3) := by decide +kernel
theorem dX5_net_52 : decode cX5_net 52 = .ok (.iload_n 3, 1) := by decide +kernel
theorem dX5_net_53 : decode cX5_net 53 = .ok (.iaload, 1) := by decide +kernel
theorem dX5_net_54 : decode cX5_net 54 = .ok (.iadd, 1) := by decide +kernel
theorem dX5_net_55 : decode cX5_net 55 = .ok (.istore_n 2, 1) := by decide +kernel
theorem dX5_net_56 : decode cX5_net 56 = .ok (.aload_n 0, 1) := by decide +kernel
theorem dX5_net_57 : decode cX5_net 57 = .ok (.getfield 12, 3) := by decide +kernel
theorem dX5_net_60 : decode cX5_net 60 = .ok (.iload_n 3, 1) := by decide +kernel
theorem dX5_net_61 : decode cX5_net 61 = .ok (.invokevirtual 114, 3) := by decide +kernel
theorem dX5_net_64 : decode cX5_net 64 = .ok (.ifCond .eq 28, 3) := by decide +kernel
theorem dX5_net_67 : decode cX5_net 67 = .ok (.aload_n 0, 1) := by decide +kernel
theorem dX5_net_68 : decode cX5_net 68 = .ok (.getfield 12, 3) := by decide +kernel
theorem dX5_net_71 : decode cX5_net 71 = .ok (.getfield 155, 3) := by decide +kernel
theorem dX5_net_74 : decode cX5_net 74 = .ok (.iload_n 3, 1) := by decide +kernel
theorem dX5_net_75 : decode cX5_net 75 = .ok (.iaload, 1) := by decide +kernel
theorem dX5_net_76 : decode cX5_net 76 = .ok (.iload_n 1, 1) := by decide +kernel
theorem dX5_net_77 : decode cX5_net 77 = .ok (.if_icmp .ne 15, 3) := by decide +kernel
theorem dX5_net_80 : decode cX5_net 80 = .ok (.iload_n 2, 1) := by decide +kernel
theorem dX5_net_81 : decode cX5_net 81 = .ok (.aload_n 0, 1) := by decide +kernel
theorem dX5_net_82 : decode cX5_net 82 = .ok (.getfield 12, 3) := by decide +kernel
theorem dX5_net_85 : decode cX5_net 85 = .ok (.getfield 117, 3) := by decide +kernel
theorem dX5_net_88 : decode cX5_net 88 = .ok (.iload_n 3, 1) := by decide +kernel
theorem dX5_net_89 : decode cX5_net 89 = .ok (.iaload, 1) := by decide +kernel
theorem dX5_net_90 : decode cX5_net 90 = .ok (.isub, 1) := by decide +kernel
theorem dX5_net_91 : decode cX5_net 91 = .ok (.istore_n 2, 1) := by decide +kernel
theorem dX5_net_92 : decode cX5_net 92 = .ok (.iinc 3 1, 3) := by decide +kernel
theorem dX5_net_95 : decode cX5_net 95 = .ok (.goto (-81), 3) := by decide +kernel
theorem dX5_net_98 : decode cX5_net 98 = .ok (.iload_n 2, 1) := by decide +kernel
theorem dX5_net_99 : decode cX5_net 99 = .ok (.ireturn, 1) := by decide +kernel
set_option maxRecDepth 20000 in
theorem ggX5_round_X5_isCandle : GoodIn wsX5_round wsX5_isCandle := goodIn_r _ [11, 12, 13, 10, 14] (by decide +kernel) (by decide +kernel)
set_option maxRecDepth 20000 in
theorem gX5_round_X5_isCandle : GoodIn wsX5_round (va_wsS RX5 54 yX5_isCandle wsX5_isCandle) := goodIn_app (goodIn_of _ (by decide +kernel)) ggX5_round_X5_isCandle
set_option maxRecDepth 20000 in
theorem ggX5_round_X5_within : GoodIn wsX5_round wsX5_within := goodIn_r _ [14] (by decide +kernel) (by decide +kernel)
set_option maxRecDepth 20000 in
theorem gX5_round_X5_within : GoodIn wsX5_round (va_wsS RX5 61 yX5_within wsX5_within) := goodIn_app (goodIn_of _ (by decide +kernel)) ggX5_round_X5_within
set_option maxRecDepth 20000 in
theorem ggX5_round_X4_isNeeded : GoodIn wsX5_round wsX4_isNeeded := goodIn_r _ [19, 20, 21, 22, 23, 24, 4, 5, 6, 25, 26, 27, 28, 29, 30, 31, 32, 33, 34, 35, 36, 37, 38, 39, 40, 41, 42, 43, 44, 45, 46, 47, 48, 49, 50, 51, 52, 53, 80, 81, 82, 83, 84, 85, 86, 87, 88, 89, 90, 91, 92, 93, 94, 95, 96, 97, 98] (by decide +kernel) (by decide +kernel)
set_option maxRecDepth 20000 in
theorem gX5_round_X4_isNeeded : GoodIn wsX5_round (wsV RX5 158 RX4 yX4_isNeeded wsX4_isNeeded) := goodIn_app (goodIn_of _ (by decide +kernel)) ggX5_round_X4_isNeeded
set_option maxRecDepth 20000 in
theorem ggX5_round_X4_fewestMinutes : GoodIn wsX5_round wsX4_fewestMinutes := goodIn_r _ [57, 23, 58, 59, 24, 4, 5, 6, 9, 10, 11, 12, 13, 14, 60, 61, 62, 18, 63, 22, 64, 65, 66, 67, 20, 21, 68, 69, 70, 71, 80, 81, 82, 83, 84] (by decide +kernel) (by decide +kernel)
set_option maxRecDepth 20000 in
theorem gX5_round_X4_fewestMinutes : GoodIn wsX5_round (wsV RX5 162 RX4 yX4_fewestMinutes wsX4_fewestMinutes) := goodIn_app (goodIn_of _ (by decide +kernel)) ggX5_round_X4_fewestMinutes
theorem dX5_round_0 : decode cX5_round 0 = .ok (.iload_n 1, 1) := by decide +kernel
theorem dX5_round_1 : decode cX5_round 1 = .ok (.invokestatic 54, 3) := by decide +kernel
theorem dX5_round_4 : decode cX5_round 4 = .ok (.ifCond .ne 5, 3) := by decide +kernel
theorem dX5_round_7 : decode cX5_round 7 = .ok (.iconst (-1), 1) := by decide +kernel
theorem dX5_round_8 : decode cX5_round 8 = .ok (.ireturn, 1) := by decide +kernel
theorem dX5_round_9 : decode cX5_round 9 = .ok (.iload_n 2, 1) := by decide +kernel
theorem dX5_round_10 : decode cX5_round 10 = .ok (.iconst 0, 1) := by decide +kernel
theorem dX5_round_11 : decode cX5_round 11 = .ok (.iconst 1, 1) := by decide +kernel
theorem dX5_round_12 : decode cX5_round 12 = .ok (.invokestatic 61, 3) := by decide +kernel
theorem dX5_round_15 : decode cX5_round 15 = .ok (.ifCond .ne 6, 3) := by decide +kernel
theorem dX5_round_18 : decode cX5_round 18 = .ok (.bipush (-2), 2) := by decide +kernel
theorem dX5_round_20 : decode cX5_round 20 = .ok (.ireturn, 1) := by decide +kernel
theorem dX5_round_21 : decode cX5_round 21 = .ok (.aload_n 0, 1) := by decide +kernel
theorem dX5_round_22 : decode cX5_round 22 = .ok (.getfield 43, 3) := by decide +kernel
theorem dX5_round_25 : decode cX5_round 25 = .ok (.aload_n 0, 1) := by decide +kernel
theorem dX5_round_26 : decode cX5_round 26 = .ok (.getfield 12, 3) := by decide +kernel
theorem dX5_round_29 : decode cX5_round 29 = .ok (.iload_n 1, 1) := by decide +kernel
theorem dX5_round_30 : decode cX5_round 30 = .ok (.invokevirtual 158, 3) := by decide +kernel
theorem dX5_round_33 : decode cX5_round 33 = .ok (.ifCond .ne 14, 3) := by decide +kernel
theorem dX5_round_36 : decode cX5_round 36 = .ok (.iload_n 2, 1) := by decide +kernel
theorem dX5_round_37 : decode cX5_round 37 = .ok (.ifCond .ne 7, 3) := by decide +kernel
theorem dX5_round_40 : decode cX5_round 40 = .ok (.iconst 0, 1) := by decide +kernel
theorem dX5_round_41 : decode cX5_round 41 = .ok (.goto 5, 3) := by decide +kernel
theorem dX5_round_44 : decode cX5_round 44 = .ok (.bipush (-6), 2) := by decide +kernel
theorem dX5_round_46 : decode cX5_round 46 = .ok (.ireturn, 1) := by decide +kernel
theorem dX5_round_47 : decode cX5_round 47 = .ok (.aload_n 0, 1) := by decide +kernel
theorem dX5_round_48 : decode cX5_round 48 = .ok (.getfield 43, 3) := by decide +kernel
theorem dX5_round_51 : decode cX5_round 51 = .ok (.iload_n 1, 1) := by decide +kernel
theorem dX5_round_52 : decode cX5_round 52 = .ok (.iconst (-1), 1) := by decide +kernel
theorem dX5_round_53 : decode cX5_round 53 = .ok (.invokevirtual 162, 3) := by decide +kernel
theorem dX5_round_56 : decode cX5_round 56 = .ok (.istore_n 3, 1) := by decide +kernel
theorem dX5_round_57 : decode cX5_round 57 = .ok (.aload_n 0, 1) := by decide +kernel
theorem dX5_round_58 : decode cX5_round 58 = .ok (.getfield 43, 3) := by decide +kernel
theorem dX5_round_61 : decode cX5_round 61 = .ok (.iload_n 1, 1) := by decide +kernel
theorem dX5_round_62 : decode cX5_round 62 = .ok (.iconst 1, 1) := by decide +kernel
theorem dX5_round_63 : decode cX5_round 63 = .ok (.invokevirtual 162, 3) := by decide +kernel
theorem dX5_round_66 : decode cX5_round 66 = .ok (.istore 4, 2) := by decide +kernel
theorem dX5_round_68 : decode cX5_round 68 = .ok (.iload_n 3, 1) := by decide +kernel
theorem dX5_round_69 : decode cX5_round 69 = .ok (.iload 4, 2) := by decide +kernel
theorem dX5_round_71 : decode cX5_round 71 = .ok (.invokestatic 166, 3) := by decide +kernel
theorem dX5_round_74 : decode cX5_round 74 = .ok (.istore 5, 2) := by decide +kernel
theorem dX5_round_76 : decode cX5_round 76 = .ok (.iload 5, 2) := by decide +kernel
theorem dX5_round_78 : decode cX5_round 78 = .ok (.ldc 171, 2) := by decide +kernel
theorem dX5_round_80 : decode cX5_round 80 = .ok (.if_icmp .lt 6, 3) := by decide +kernel
theorem dX5_round_83 : decode cX5_round 83 = .ok (.bipush (-6), 2) := by decide +kernel
theorem dX5_round_85 : decode cX5_round 85 = .ok (.ireturn, 1) := by decide +kernel
theorem dX5_round_86 : decode cX5_round 86 = .ok (.iload_n 2, 1) := by decide +kernel
theorem dX5_round_87 : decode cX5_round 87 = .ok (.ifCond .ne 6, 3) := by decide +kernel
theorem dX5_round_90 : decode cX5_round 90 = .ok (.iload 5, 2) := by decide +kernel
theorem dX5_round_92 : decode cX5_round 92 = .ok (.ireturn, 1) := by decide +kernel
theorem dX5_round_93 : decode cX5_round 93 = .ok (.iload_n 3, 1) := by decide +kernel
theorem dX5_round_94 : decode cX5_round 94 = .ok (.iload 5, 2) := by decide +kernel
theorem dX5_round_96 : decode cX5_round 96 = .ok (.if_icmp .ne 7, 3) := by decide +kernel
theorem dX5_round_99 : decode cX5_round 99 = .ok (.iconst 0, 1) := by decide +kernel
theorem dX5_round_100 : decode cX5_round 100 = .ok (.goto 4, 3) := by decide +kernel
theorem dX5_round_103 : decode cX5_round 103 = .ok (.iconst 1, 1) := by decide +kernel
theorem dX5_round_104 : decode cX5_round 104 = .ok (.ireturn, 1) := by decide +kernel
set_option maxRecDepth 20000 in
theorem ggX5_accounts_X5_within : GoodIn wsX5_accounts wsX5_within := goodIn_r _ [4] (by decide +kernel) (by decide +kernel)
set_option maxRecDepth 20000 in
theorem gX5_accounts_X5_within : GoodIn wsX5_accounts (va_wsS RX5 61 yX5_within wsX5_within) := goodIn_app (goodIn_of _ (by decide +kernel)) ggX5_accounts_X5_within
set_option maxRecDepth 20000 in
theorem ggX5_accounts_X5_readableSet : GoodIn wsX5_accounts wsX5_readableSet := goodIn_r _ [8, 9, 10, 11, 12, 13, 14, 15, 16, 17, 3, 18, 19, 20, 21, 22, 23, 24, 25, 26, 27, 28, 29, 30, 31, 32, 33, 34, 35, 36, 37, 38, 39, 40, 48, 49, 50, 51, 52, 53, 54, 55, 56, 57, 58, 59, 60, 61, 62, 63, 64, 65, 66, 67, 68, 69] (by decide +kernel) (by decide +kernel)
set_option maxRecDepth 20000 in
theorem gX5_accounts_X5_readableSet : GoodIn wsX5_accounts (wsV RX5 172 RX5 yX5_readableSet wsX5_readableSet) := goodIn_app (goodIn_of _ (by decide +kernel)) ggX5_accounts_X5_readableSet
set_option maxRecDepth 20000 in
theorem ggX5_accounts_J6_bitCount_0f7a4 : GoodIn wsX5_accounts wsJ6_bitCount_0f7a4 := goodIn_r _ [44, 45, 46, 47] (by decide +kernel) (by decide +kernel)
set_option maxRecDepth 20000 in
theorem gX5_accounts_J6_bitCount_0f7a4 : GoodIn wsX5_accounts (va_wsS RX5 175 yJ6_bitCount_0f7a4 wsJ6_bitCount_0f7a4) := goodIn_app (goodIn_of _ (by decide +kernel)) ggX5_accounts_J6_bitCount_0f7a4
theorem dX5_accounts_0 : decode cX5_accounts 0 = .ok (.iload_n 1, 1) := by decide +kernel
theorem dX5_accounts_1 : decode cX5_accounts 1 = .ok (.iconst 1, 1) := by decide +kernel
theorem dX5_accounts_2 : decode cX5_accounts 2 = .ok (.bipush 99, 2) := by decide +kernel
theorem dX5_accounts_4 : decode cX5_accounts 4 = .ok (.invokestatic 61, 3) := by decide +kernel
theorem dX5_accounts_7 : decode cX5_accounts 7 = .ok (.ifCond .eq 12, 3) := by decide +kernel
theorem dX5_accounts_10 : decode cX5_accounts 10 = .ok (.iload_n 2, 1) := by decide +kernel
theorem dX5_accounts_11 : decode cX5_accounts 11 = .ok (.iconst 0, 1) := by decide +kernel
theorem dX5_accounts_12 : decode cX5_accounts 12 = .ok (.iconst 1, 1) := by decide +kernel
theorem dX5_accounts_13 : decode cX5_accounts 13 = .ok (.invokestatic 61, 3) := by decide +kernel
theorem dX5_accounts_16 : decode cX5_accounts 16 = .ok (.ifCond .ne 6, 3) := by decide +kernel
theorem dX5_accounts_19 : decode cX5_accounts 19 = .ok (.bipush (-2), 2) := by decide +kernel
theorem dX5_accounts_21 : decode cX5_accounts 21 = .ok (.ireturn, 1) := by decide +kernel
theorem dX5_accounts_22 : decode cX5_accounts 22 = .ok (.aload_n 0, 1) := by decide +kernel
theorem dX5_accounts_23 : decode cX5_accounts 23 = .ok (.iload_n 1, 1) := by decide +kernel
theorem dX5_accounts_24 : decode cX5_accounts 24 = .ok (.invokevirtual 172, 3) := by decide +kernel
theorem dX5_accounts_27 : decode cX5_accounts 27 = .ok (.istore_n 3, 1) := by decide +kernel
theorem dX5_accounts_28 : decode cX5_accounts 28 = .ok (.iload_n 2, 1) := by decide +kernel
theorem dX5_accounts_29 : decode cX5_accounts 29 = .ok (.ifCond .ne 10, 3) := by decide +kernel
theorem dX5_accounts_32 : decode cX5_accounts 32 = .ok (.iload_n 3, 1) := by decide +kernel
theorem dX5_accounts_33 : decode cX5_accounts 33 = .ok (.invokestatic 175, 3) := by decide +kernel
theorem dX5_accounts_36 : decode cX5_accounts 36 = .ok (.goto 4, 3) := by decide +kernel
theorem dX5_accounts_39 : decode cX5_accounts 39 = .ok (.iload_n 3, 1) := by decide +kernel
theorem dX5_accounts_40 : decode cX5_accounts 40 = .ok (.ireturn, 1) := by decide +kernel
set_option maxRecDepth 20000 in
theorem ggX5_jubilee_X5_bit : GoodIn wsX5_jubilee wsX5_bit := goodIn_r _ [6] (by decide +kernel) (by decide +kernel)
set_option maxRecDepth 20000 in
theorem gX5_jubilee_X5_bit : GoodIn wsX5_jubilee (va_wsS RX5 145 yX5_bit wsX5_bit) := goodIn_app (goodIn_of _ (by decide +kernel)) ggX5_jubilee_X5_bit
set_option maxRecDepth 20000 in
theorem ggX5_jubilee_X5_within : GoodIn wsX5_jubilee wsX5_within := goodIn_r _ [9] (by decide +kernel) (by decide +kernel)
set_option maxRecDepth 20000 in
theorem gX5_jubilee_X5_within : GoodIn wsX5_jubilee (va_wsS RX5 61 yX5_within wsX5_within) := goodIn_app (goodIn_of _ (by decide +kernel)) ggX5_jubilee_X5_within
set_option maxRecDepth 20000 in
theorem ggX5_jubilee_X5_holds : GoodIn wsX5_jubilee wsX5_holds := goodIn_r _ [12] (by decide +kernel) (by decide +kernel)
set_option maxRecDepth 20000 in
theorem gX5_jubilee_X5_holds : GoodIn wsX5_jubilee (va_wsS RX5 180 yX5_holds wsX5_holds) := goodIn_app (goodIn_of _ (by decide +kernel)) ggX5_jubilee_X5_holds
set_option maxRecDepth 20000 in
theorem ggX5_jubilee_X5_matchesFor : GoodIn wsX5_jubilee wsX5_matchesFor := goodIn_r _ [16, 1, 2, 10, 11, 5, 12, 17, 18, 19, 20, 21, 22, 23, 24, 25, 26, 27, 28, 29, 30, 31, 32, 33, 34, 35, 36, 37, 38, 39, 40, 41, 42, 43, 44] (by decide +kernel) (by decide +kernel)
set_option maxRecDepth 20000 in
theorem gX5_jubilee_X5_matchesFor : GoodIn wsX5_jubilee (wsV RX5 184 RX5 yX5_matchesFor wsX5_matchesFor) := goodIn_app (goodIn_of _ (by decide +kernel)) ggX5_jubilee_X5_matchesFor
theorem dX5_jubilee_0 : decode cX5_jubilee 0 = .ok (.iload_n 1, 1) := by decide +kernel
theorem dX5_jubilee_1 : decode cX5_jubilee 1 = .ok (.iconst 0, 1) := by decide +kernel
theorem dX5_jubilee_2 : decode cX5_jubilee 2 = .ok (.bipush 12, 2) := by decide +kernel
theorem dX5_jubilee_4 : decode cX5_jubilee 4 = .ok (.invokestatic 145, 3) := by decide +kernel
theorem dX5_jubilee_7 : decode cX5_jubilee 7 = .ok (.iconst 1, 1) := by decide +kernel
theorem dX5_jubilee_8 : decode cX5_jubilee 8 = .ok (.isub, 1) := by decide +kernel
theorem dX5_jubilee_9 : decode cX5_jubilee 9 = .ok (.invokestatic 61, 3) := by decide +kernel
theorem dX5_jubilee_12 : decode cX5_jubilee 12 = .ok (.ifCond .ne 6, 3) := by decide +kernel
theorem dX5_jubilee_15 : decode cX5_jubilee 15 = .ok (.bipush (-2), 2) := by decide +kernel
theorem dX5_jubilee_17 : decode cX5_jubilee 17 = .ok (.ireturn, 1) := by decide +kernel
theorem dX5_jubilee_18 : decode cX5_jubilee 18 = .ok (.iconst 0, 1) := by decide +kernel
theorem dX5_jubilee_19 : decode cX5_jubilee 19 = .ok (.istore_n 2, 1) := by decide +kernel
theorem dX5_jubilee_20 : decode cX5_jubilee 20 = .ok (.iload_n 2, 1) := by decide +kernel
theorem dX5_jubilee_21 : decode cX5_jubilee 21 = .ok (.bipush 12, 2) := by decide +kernel
theorem dX5_jubilee_23 : decode cX5_jubilee 23 = .ok (.if_icmp .ge 32, 3) := by decide +kernel
theorem dX5_jubilee_26 : decode cX5_jubilee 26 = .ok (.iload_n 1, 1) := by decide +kernel
theorem dX5_jubilee_27 : decode cX5_jubilee 27 = .ok (.iload_n 2, 1) := by decide +kernel
theorem dX5_jubilee_28 : decode cX5_jubilee 28 = .ok (.invokestatic 180, 3) := by decide +kernel
theorem dX5_jubilee_31 : decode cX5_jubilee 31 = .ok (.ifCond .eq 18, 3) := by decide +kernel
theorem dX5_jubilee_34 : decode cX5_jubilee 34 = .ok (.aload_n 0, 1) := by decide +kernel
theorem dX5_jubilee_35 : decode cX5_jubilee 35 = .ok (.getfield 12, 3) := by decide +kernel
theorem dX5_jubilee_38 : decode cX5_jubilee 38 = .ok (.getfield 65, 3) := by decide +kernel
theorem dX5_jubilee_41 : decode cX5_jubilee 41 = .ok (.iload_n 2, 1) := by decide +kernel
theorem dX5_jubilee_42 : decode cX5_jubilee 42 = .ok (.iaload, 1) := by decide +kernel
theorem dX5_jubilee_43 : decode cX5_jubilee 43 = .ok (.ifCond .ne 6, 3) := by decide +kernel
theorem dX5_jubilee_46 : decode cX5_jubilee 46 = .ok (.bipush (-6), 2) := by decide +kernel
theorem dX5_jubilee_48 : decode cX5_jubilee 48 = .ok (.ireturn, 1) := by decide +kernel
theorem dX5_jubilee_49 : decode cX5_jubilee 49 = .ok (.iinc 2 1, 3) := by decide +kernel
theorem dX5_jubilee_52 : decode cX5_jubilee 52 = .ok (.goto (-32), 3) := by decide +kernel
theorem dX5_jubilee_55 : decode cX5_jubilee 55 = .ok (.aload_n 0, 1) := by decide +kernel
theorem dX5_jubilee_56 : decode cX5_jubilee 56 = .ok (.iload_n 1, 1) := by decide +kernel
theorem dX5_jubilee_57 : decode cX5_jubilee 57 = .ok (.invokevirtual 184, 3) := by decide +kernel
theorem dX5_jubilee_60 : decode cX5_jubilee 60 = .ok (.ireturn, 1) := by decide +kernel
set_option maxRecDepth 20000 in
theorem ggX5_trims_X5_isCandle : GoodIn wsX5_trims wsX5_isCandle := goodIn_r _ [6, 7, 8, 5, 9] (by decide +kernel) (by decide +kernel)
set_option maxRecDepth 20000 in
theorem gX5_trims_X5_isCandle : GoodIn wsX5_trims (va_wsS RX5 54 yX5_isCandle wsX5_isCandle) := goodIn_app (goodIn_of _ (by decide +kernel)) ggX5_trims_X5_isCandle
set_option maxRecDepth 20000 in
theorem ggX5_trims_X5_within : GoodIn wsX5_trims wsX5_within := goodIn_r _ [9] (by decide +kernel) (by decide +kernel)
set_option maxRecDepth 20000 in
theorem gX5_trims_X5_within : GoodIn wsX5_trims (va_wsS RX5 61 yX5_within wsX5_within) := goodIn_app (goodIn_of _ (by decide +kernel)) ggX5_trims_X5_within
set_option maxRecDepth 20000 in
theorem ggX5_trims_X3_minutesLeftTrimmed : GoodIn wsX5_trims wsX3_minutesLeftTrimmed := goodIn_r _ [14, 15, 16, 17, 18, 13, 19, 20, 29, 30, 31, 32, 33, 34, 35, 36, 37, 38, 39, 40, 41, 42] (by decide +kernel) (by decide +kernel)
set_option maxRecDepth 20000 in
theorem gX5_trims_X3_minutesLeftTrimmed : GoodIn wsX5_trims (wsV RX5 187 RX3 yX3_minutesLeftTrimmed wsX3_minutesLeftTrimmed) := goodIn_app (goodIn_of _ (by decide +kernel)) ggX5_trims_X3_minutesLeftTrimmed
theorem dX5_trims_0 : decode cX5_trims 0 = .ok (.iload_n 1, 1) := by decide +kernel
theorem dX5_trims_1 : decode cX5_trims 1 = .ok (.invokestatic 54, 3) := by decide +kernel
theorem dX5_trims_4 : decode cX5_trims 4 = .ok (.ifCond .ne 5, 3) := by decide +kernel
theorem dX5_trims_7 : decode cX5_trims 7 = .ok (.iconst (-1), 1) := by decide +kernel
theorem dX5_trims_8 : decode cX5_trims 8 = .ok (.ireturn, 1) := by decide +kernel
theorem dX5_trims_9 : decode cX5_trims 9 = .ok (.iload_n 2, 1) := by decide +kernel
theorem dX5_trims_10 : decode cX5_trims 10 = .ok (.iconst 1, 1) := by decide +kernel
theorem dX5_trims_11 : decode cX5_trims 11 = .ok (.sipush 999, 3) := by decide +kernel
theorem dX5_trims_14 : decode cX5_trims 14 = .ok (.invokestatic 61, 3) := by decide +kernel
theorem dX5_trims_17 : decode cX5_trims 17 = .ok (.ifCond .ne 6, 3) := by decide +kernel
theorem dX5_trims_20 : decode cX5_trims 20 = .ok (.bipush (-2), 2) := by decide +kernel
theorem dX5_trims_22 : decode cX5_trims 22 = .ok (.ireturn, 1) := by decide +kernel
theorem dX5_trims_23 : decode cX5_trims 23 = .ok (.aload_n 0, 1) := by decide +kernel
theorem dX5_trims_24 : decode cX5_trims 24 = .ok (.getfield 12, 3) := by decide +kernel
theorem dX5_trims_27 : decode cX5_trims 27 = .ok (.getfield 120, 3) := by decide +kernel
theorem dX5_trims_30 : decode cX5_trims 30 = .ok (.iload_n 1, 1) := by decide +kernel
theorem dX5_trims_31 : decode cX5_trims 31 = .ok (.iaload, 1) := by decide +kernel
theorem dX5_trims_32 : decode cX5_trims 32 = .ok (.istore_n 3, 1) := by decide +kernel
theorem dX5_trims_33 : decode cX5_trims 33 = .ok (.iconst 0, 1) := by decide +kernel
theorem dX5_trims_34 : decode cX5_trims 34 = .ok (.istore 4, 2) := by decide +kernel
theorem dX5_trims_36 : decode cX5_trims 36 = .ok (.iload_n 3, 1) := by decide +kernel
theorem dX5_trims_37 : decode cX5_trims 37 = .ok (.iload 4, 2) := by decide +kernel
theorem dX5_trims_39 : decode cX5_trims 39 = .ok (.iadd, 1) := by decide +kernel
theorem dX5_trims_40 : decode cX5_trims 40 = .ok (.bipush 9, 2) := by decide +kernel
theorem dX5_trims_42 : decode cX5_trims 42 = .ok (.if_icmp .gt 28, 3) := by decide +kernel
theorem dX5_trims_45 : decode cX5_trims 45 = .ok (.aload_n 0, 1) := by decide +kernel
theorem dX5_trims_46 : decode cX5_trims 46 = .ok (.getfield 12, 3) := by decide +kernel
theorem dX5_trims_49 : decode cX5_trims 49 = .ok (.iload_n 1, 1) := by decide +kernel
theorem dX5_trims_50 : decode cX5_trims 50 = .ok (.iload_n 3, 1) := by decide +kernel
theorem dX5_trims_51 : decode cX5_trims 51 = .ok (.iload 4, 2) := by decide +kernel
theorem dX5_trims_53 : decode cX5_trims 53 = .ok (.iadd, 1) := by decide +kernel
theorem dX5_trims_54 : decode cX5_trims 54 = .ok (.invokevirtual 187, 3) := by decide +kernel
theorem dX5_trims_57 : decode cX5_trims 57 = .ok (.iload_n 2, 1) := by decide +kernel
theorem dX5_trims_58 : decode cX5_trims 58 = .ok (.if_icmp .lt 6, 3) := by decide +kernel
theorem dX5_trims_61 : decode cX5_trims 61 = .ok (.iload 4, 2) := by decide +kernel
theorem dX5_trims_63 : decode cX5_trims 63 = .ok (.ireturn, 1) := by decide +kernel
theorem dX5_trims_64 : decode cX5_trims 64 = .ok (.iinc 4 1, 3) := by decide +kernel
theorem dX5_trims_67 : decode cX5_trims 67 = .ok (.goto (-31), 3) := by decide +kernel
theorem dX5_trims_70 : decode cX5_trims 70 = .ok (.bipush (-6), 2) := by decide +kernel
theorem dX5_trims_72 : decode cX5_trims 72 = .ok (.ireturn, 1) := by decide +kernel
set_option maxRecDepth 20000 in
theorem ggX5_seen_X5_isCandle : GoodIn wsX5_seen wsX5_isCandle := goodIn_r _ [6, 7, 8, 5, 9] (by decide +kernel) (by decide +kernel)
set_option maxRecDepth 20000 in
theorem gX5_seen_X5_isCandle : GoodIn wsX5_seen (va_wsS RX5 54 yX5_isCandle wsX5_isCandle) := goodIn_app (goodIn_of _ (by decide +kernel)) ggX5_seen_X5_isCandle
set_option maxRecDepth 20000 in
theorem ggX5_seen_X5_within : GoodIn wsX5_seen wsX5_within := goodIn_r _ [9] (by decide +kernel) (by decide +kernel)
set_option maxRecDepth 20000 in
theorem gX5_seen_X5_within : GoodIn wsX5_seen (va_wsS RX5 61 yX5_within wsX5_within) := goodIn_app (goodIn_of _ (by decide +kernel)) ggX5_seen_X5_within
set_option maxRecDepth 20000 in
theorem ggX5_seen_X3_addSight : GoodIn wsX5_seen wsX3_addSight := goodIn_r _ [14, 15, 16, 17, 26, 27, 28, 29, 30, 31, 32, 33, 34, 35, 36, 37, 38, 39] (by decide +kernel) (by decide +kernel)
set_option maxRecDepth 20000 in
theorem gX5_seen_X3_addSight : GoodIn wsX5_seen (wsV RX5 190 RX3 yX3_addSight wsX3_addSight) := goodIn_app (goodIn_of _ (by decide +kernel)) ggX5_seen_X3_addSight
theorem dX5_seen_0 : decode cX5_seen 0 = .ok (.iload_n 1, 1) := by decide +kernel
theorem dX5_seen_1 : decode cX5_seen 1 = .ok (.invokestatic 54, 3) := by decide +kernel
theorem dX5_seen_4 : decode cX5_seen 4 = .ok (.ifCond .ne 5, 3) := by decide +kernel
theorem dX5_seen_7 : decode cX5_seen 7 = .ok (.iconst (-1), 1) := by decide +kernel
theorem dX5_seen_8 : decode cX5_seen 8 = .ok (.ireturn, 1) := by decide +kernel
theorem dX5_seen_9 : decode cX5_seen 9 = .ok (.iload_n 2, 1) := by decide +kernel
theorem dX5_seen_10 : decode cX5_seen 10 = .ok (.iconst 0, 1) := by decide +kernel
theorem dX5_seen_11 : decode cX5_seen 11 = .ok (.sipush 999, 3) := by decide +kernel
theorem dX5_seen_14 : decode cX5_seen 14 = .ok (.invokestatic 61, 3) := by decide +kernel
theorem dX5_seen_17 : decode cX5_seen 17 = .ok (.ifCond .ne 6, 3) := by decide +kernel
theorem dX5_seen_20 : decode cX5_seen 20 = .ok (.bipush (-2), 2) := by decide +kernel
theorem dX5_seen_22 : decode cX5_seen 22 = .ok (.ireturn, 1) := by decide +kernel
theorem dX5_seen_23 : decode cX5_seen 23 = .ok (.aload_n 0, 1) := by decide +kernel
theorem dX5_seen_24 : decode cX5_seen 24 = .ok (.getfield 12, 3) := by decide +kernel
theorem dX5_seen_27 : decode cX5_seen 27 = .ok (.iload_n 1, 1) := by decide +kernel
theorem dX5_seen_28 : decode cX5_seen 28 = .ok (.iload_n 2, 1) := by decide +kernel
theorem dX5_seen_29 : decode cX5_seen 29 = .ok (.invokevirtual 190, 3) := by decide +kernel
theorem dX5_seen_32 : decode cX5_seen 32 = .ok (.ifCond .eq 13, 3) := by decide +kernel
theorem dX5_seen_35 : decode cX5_seen 35 = .ok (.aload_n 0, 1) := by decide +kernel
theorem dX5_seen_36 : decode cX5_seen 36 = .ok (.getfield 12, 3) := by decide +kernel
theorem dX5_seen_39 : decode cX5_seen 39 = .ok (.getfield 193, 3) := by decide +kernel
theorem dX5_seen_42 : decode cX5_seen 42 = .ok (.goto 5, 3) := by decide +kernel
theorem dX5_seen_45 : decode cX5_seen 45 = .ok (.bipush (-4), 2) := by decide +kernel
theorem dX5_seen_47 : decode cX5_seen 47 = .ok (.ireturn, 1) := by decide +kernel
theorem dX5_forget_0 : decode cX5_forget 0 = .ok (.aload_n 0, 1) := by decide +kernel
theorem dX5_forget_1 : decode cX5_forget 1 = .ok (.getfield 12, 3) := by decide +kernel
theorem dX5_forget_4 : decode cX5_forget 4 = .ok (.getfield 193, 3) := by decide +kernel
theorem dX5_forget_7 : decode cX5_forget 7 = .ok (.istore_n 1, 1) := by decide +kernel
theorem dX5_forget_8 : decode cX5_forget 8 = .ok (.aload_n 0, 1) := by decide +kernel
theorem dX5_forget_9 : decode cX5_forget 9 = .ok (.getfield 12, 3) := by decide +kernel
theorem dX5_forget_12 : decode cX5_forget 12 = .ok (.iconst 0, 1) := by decide +kernel
theorem dX5_forget_13 : decode cX5_forget 13 = .ok (.putfield 193, 3) := by decide +kernel
theorem dX5_forget_16 : decode cX5_forget 16 = .ok (.iload_n 1, 1) := by decide +kernel
theorem dX5_forget_17 : decode cX5_forget 17 = .ok (.ireturn, 1) := by decide +kernel
set_option maxRecDepth 20000 in
theorem ggX5_sneezes_X2_fit : GoodIn wsX5_sneezes wsX2_fit := goodIn_r _ [7, 8, 9, 10, 11, 12, 13, 14, 15, 6, 16, 17, 18, 19, 20, 21, 22, 23, 24, 25, 26, 27, 28, 29, 30, 31, 32, 33, 34, 35, 36, 37, 38, 39, 40, 41, 42, 43, 44, 45, 46, 47, 48, 49, 50, 51, 52, 53, 81, 82, 83, 84, 85, 86, 87, 88, 89, 90, 91, 92, 93, 94, 95, 96, 97] (by decide +kernel) (by decide +kernel)
set_option maxRecDepth 20000 in
theorem gX5_sneezes_X2_fit : GoodIn wsX5_sneezes (wsV RX5 196 RX2 yX2_fit wsX2_fit) := goodIn_app (goodIn_of _ (by decide +kernel)) ggX5_sneezes_X2_fit
set_option maxRecDepth 20000 in
theorem ggX5_sneezes_X2_howMany : GoodIn wsX5_sneezes wsX2_howMany := goodIn_r _ [57, 58, 59, 60, 6, 61, 9, 8, 18, 19, 20, 21, 81, 82, 83] (by decide +kernel) (by decide +kernel)
set_option maxRecDepth 20000 in
theorem gX5_sneezes_X2_howMany : GoodIn wsX5_sneezes (wsV RX5 199 RX2 yX2_howMany wsX2_howMany) := goodIn_app (goodIn_of _ (by decide +kernel)) ggX5_sneezes_X2_howMany
set_option maxRecDepth 20000 in
theorem ggX5_sneezes_X2_at : GoodIn wsX5_sneezes wsX2_at := goodIn_r _ [65, 58, 59, 60, 6, 61, 9, 8, 18, 19, 20, 21, 66, 67, 68, 69, 70, 71, 72, 81, 82, 83] (by decide +kernel) (by decide +kernel)
set_option maxRecDepth 20000 in
theorem gX5_sneezes_X2_at : GoodIn wsX5_sneezes (wsV RX5 202 RX2 yX2_at wsX2_at) := goodIn_app (goodIn_of _ (by decide +kernel)) ggX5_sneezes_X2_at
theorem dX5_sneezes_0 : decode cX5_sneezes 0 = .ok (.aload_n 0, 1) := by decide +kernel
theorem dX5_sneezes_1 : decode cX5_sneezes 1 = .ok (.getfield 50, 3) := by decide +kernel
theorem dX5_sneezes_4 : decode cX5_sneezes 4 = .ok (.aload_n 0, 1) := by decide +kernel
theorem dX5_sneezes_5 : decode cX5_sneezes 5 = .ok (.getfield 12, 3) := by decide +kernel
theorem dX5_sneezes_8 : decode cX5_sneezes 8 = .ok (.invokevirtual 196, 3) := by decide +kernel
theorem dX5_sneezes_11 : decode cX5_sneezes 11 = .ok (.iload_n 1, 1) := by decide +kernel
theorem dX5_sneezes_12 : decode cX5_sneezes 12 = .ok (.iconst (-1), 1) := by decide +kernel
theorem dX5_sneezes_13 : decode cX5_sneezes 13 = .ok (.if_icmp .ne 13, 3) := by decide +kernel
theorem dX5_sneezes_16 : decode cX5_sneezes 16 = .ok (.aload_n 0, 1) := by decide +kernel
theorem dX5_sneezes_17 : decode cX5_sneezes 17 = .ok (.getfield 50, 3) := by decide +kernel
theorem dX5_sneezes_20 : decode cX5_sneezes 20 = .ok (.invokevirtual 199, 3) := by decide +kernel
theorem dX5_sneezes_23 : decode cX5_sneezes 23 = .ok (.goto 11, 3) := by decide +kernel
theorem dX5_sneezes_26 : decode cX5_sneezes 26 = .ok (.aload_n 0, 1) := by decide +kernel
theorem dX5_sneezes_27 : decode cX5_sneezes 27 = .ok (.getfield 50, 3) := by decide +kernel
theorem dX5_sneezes_30 : decode cX5_sneezes 30 = .ok (.iload_n 1, 1) := by decide +kernel
theorem dX5_sneezes_31 : decode cX5_sneezes 31 = .ok (.invokevirtual 202, 3) := by decide +kernel
theorem dX5_sneezes_34 : decode cX5_sneezes 34 = .ok (.ireturn, 1) := by decide +kernel
set_option maxRecDepth 20000 in
theorem ggX5_look_X5_within : GoodIn wsX5_look wsX5_within := goodIn_r _ [6] (by decide +kernel) (by decide +kernel)
set_option maxRecDepth 20000 in
theorem gX5_look_X5_within : GoodIn wsX5_look (va_wsS RX5 61 yX5_within wsX5_within) := goodIn_app (goodIn_of _ (by decide +kernel)) ggX5_look_X5_within
set_option maxRecDepth 20000 in
theorem ggX5_look_X2_fit : GoodIn wsX5_look wsX2_fit := goodIn_r _ [11, 12, 13, 14, 15, 16, 17, 18, 19, 10, 20, 21, 22, 23, 24, 25, 26, 27, 28, 29, 30, 31, 32, 33, 34, 35, 36, 37, 38, 39, 40, 41, 42, 43, 44, 45, 46, 47, 48, 49, 50, 51, 52, 53, 54, 55, 56, 57, 79, 80, 81, 82, 83, 84, 85, 86, 87, 88, 89, 90, 91, 92, 93, 94, 95] (by decide +kernel) (by decide +kernel)
set_option maxRecDepth 20000 in
theorem gX5_look_X2_fit : GoodIn wsX5_look (wsV RX5 196 RX2 yX2_fit wsX2_fit) := goodIn_app (goodIn_of _ (by decide +kernel)) ggX5_look_X2_fit
set_option maxRecDepth 20000 in
theorem ggX5_look_X2_howMany : GoodIn wsX5_look wsX2_howMany := goodIn_r _ [61, 62, 63, 64, 10, 65, 13, 12, 22, 23, 24, 25, 79, 80, 81] (by decide +kernel) (by decide +kernel)
set_option maxRecDepth 20000 in
theorem gX5_look_X2_howMany : GoodIn wsX5_look (wsV RX5 199 RX2 yX2_howMany wsX2_howMany) := goodIn_app (goodIn_of _ (by decide +kernel)) ggX5_look_X2_howMany
set_option maxRecDepth 20000 in
theorem ggX5_look_X2_mostLeft : GoodIn wsX5_look wsX2_mostLeft := goodIn_r _ [69, 70, 26, 27, 24, 28, 12, 13, 22, 23, 25, 32, 33, 34, 35, 36, 37, 38, 39, 40, 41, 42, 43, 44, 45, 46, 47, 52, 53, 10, 54, 55, 56, 57, 62, 63, 64, 65, 79, 80, 81, 82, 83, 84, 85, 86, 87, 88, 89, 90, 91, 92, 93, 94, 95] (by decide +kernel) (by decide +kernel)
set_option maxRecDepth 20000 in
theorem gX5_look_X2_mostLeft : GoodIn wsX5_look (wsV RX5 205 RX2 yX2_mostLeft wsX2_mostLeft) := goodIn_app (goodIn_of _ (by decide +kernel)) ggX5_look_X2_mostLeft
theorem dX5_look_0 : decode cX5_look 0 = .ok (.iload_n 1, 1) := by decide +kernel
theorem dX5_look_1 : decode cX5_look 1 = .ok (.iconst 0, 1) := by decide +kernel
theorem dX5_look_2 : decode cX5_look 2 = .ok (.iconst 1, 1) := by decide +kernel
theorem dX5_look_3 : decode cX5_look 3 = .ok (.invokestatic 61, 3) := by decide +kernel
theorem dX5_look_6 : decode cX5_look 6 = .ok (.ifCond .ne 6, 3) := by decide +kernel
theorem dX5_look_9 : decode cX5_look 9 = .ok (.bipush (-2), 2) := by decide +kernel
theorem dX5_look_11 : decode cX5_look 11 = .ok (.ireturn, 1) := by decide +kernel
theorem dX5_look_12 : decode cX5_look 12 = .ok (.aload_n 0, 1) := by decide +kernel
theorem dX5_look_13 : decode cX5_look 13 = .ok (.getfield 50, 3) := by decide +kernel
theorem dX5_look_16 : decode cX5_look 16 = .ok (.aload_n 0, 1) := by decide +kernel
theorem dX5_look_17 : decode cX5_look 17 = .ok (.getfield 12, 3) := by decide +kernel
theorem dX5_look_20 : decode cX5_look 20 = .ok (.invokevirtual 196, 3) := by decide +kernel
theorem dX5_look_23 : decode cX5_look 23 = .ok (.aload_n 0, 1) := by decide +kernel
theorem dX5_look_24 : decode cX5_look 24 = .ok (.getfield 50, 3) := by decide +kernel
theorem dX5_look_27 : decode cX5_look 27 = .ok (.invokevirtual 199, 3) := by decide +kernel
theorem dX5_look_30 : decode cX5_look 30 = .ok (.ifCond .ne 6, 3) := by decide +kernel
theorem dX5_look_33 : decode cX5_look 33 = .ok (.bipush (-6), 2) := by decide +kernel
theorem dX5_look_35 : decode cX5_look 35 = .ok (.ireturn, 1) := by decide +kernel
theorem dX5_look_36 : decode cX5_look 36 = .ok (.iconst 0, 1) := by decide +kernel
theorem dX5_look_37 : decode cX5_look 37 = .ok (.istore_n 2, 1) := by decide +kernel
theorem dX5_look_38 : decode cX5_look 38 = .ok (.aload_n 0, 1) := by decide +kernel
theorem dX5_look_39 : decode cX5_look 39 = .ok (.getfield 50, 3) := by decide +kernel
theorem dX5_look_42 : decode cX5_look 42 = .ok (.aload_n 0, 1) := by decide +kernel
theorem dX5_look_43 : decode cX5_look 43 = .ok (.getfield 12, 3) := by decide +kernel
theorem dX5_look_46 : decode cX5_look 46 = .ok (.iconst 0, 1) := by decide +kernel
theorem dX5_look_47 : decode cX5_look 47 = .ok (.invokevirtual 205, 3) := by decide +kernel
theorem dX5_look_50 : decode cX5_look 50 = .ok (.istore_n 3, 1) := by decide +kernel
theorem dX5_look_51 : decode cX5_look 51 = .ok (.iconst 1, 1) := by decide +kernel
theorem dX5_look_52 : decode cX5_look 52 = .ok (.istore 4, 2) := by decide +kernel
theorem dX5_look_54 : decode cX5_look 54 = .ok (.iload 4, 2) := by decide +kernel
theorem dX5_look_56 : decode cX5_look 56 = .ok (.bipush 12, 2) := by decide +kernel
theorem dX5_look_58 : decode cX5_look 58 = .ok (.if_icmp .ge 36, 3) := by decide +kernel
theorem dX5_look_61 : decode cX5_look 61 = .ok (.aload_n 0, 1) := by decide +kernel
theorem dX5_look_62 : decode cX5_look 62 = .ok (.getfield 50, 3) := by decide +kernel
theorem dX5_look_65 : decode cX5_look 65 = .ok (.aload_n 0, 1) := by decide +kernel
theorem dX5_look_66 : decode cX5_look 66 = .ok (.getfield 12, 3) := by decide +kernel
theorem dX5_look_69 : decode cX5_look 69 = .ok (.iload 4, 2) := by decide +kernel
theorem dX5_look_71 : decode cX5_look 71 = .ok (.invokevirtual 205, 3) := by decide +kernel
theorem dX5_look_74 : decode cX5_look 74 = .ok (.istore 5, 2) := by decide +kernel
theorem dX5_look_76 : decode cX5_look 76 = .ok (.iload 5, 2) := by decide +kernel
theorem dX5_look_78 : decode cX5_look 78 = .ok (.iload_n 3, 1) := by decide +kernel
theorem dX5_look_79 : decode cX5_look 79 = .ok (.if_icmp .ge 9, 3) := by decide +kernel
theorem dX5_look_82 : decode cX5_look 82 = .ok (.iload 4, 2) := by decide +kernel
theorem dX5_look_84 : decode cX5_look 84 = .ok (.istore_n 2, 1) := by decide +kernel
theorem dX5_look_85 : decode cX5_look 85 = .ok (.iload 5, 2) := by decide +kernel
theorem dX5_look_87 : decode cX5_look 87 = .ok (.istore_n 3, 1) := by decide +kernel
theorem dX5_look_88 : decode cX5_look 88 = .ok (.iinc 4 1, 3) := by decide +kernel
theorem dX5_look_91 : decode cX5_look 91 = .ok (.goto (-37), 3) := by decide +kernel
theorem dX5_look_94 : decode cX5_look 94 = .ok (.iload_n 1, 1) := by decide +kernel
theorem dX5_look_95 : decode cX5_look 95 = .ok (.ifCond .ne 7, 3) := by decide +kernel
theorem dX5_look_98 : decode cX5_look 98 = .ok (.iload_n 2, 1) := by decide +kernel
theorem dX5_look_99 : decode cX5_look 99 = .ok (.goto 4, 3) := by decide +kernel
theorem dX5_look_102 : decode cX5_look 102 = .ok (.iload_n 3, 1) := by decide +kernel
theorem dX5_look_103 : decode cX5_look 103 = .ok (.ireturn, 1) := by decide +kernel
set_option maxRecDepth 20000 in
theorem ggX5_snuff_X5_within : GoodIn wsX5_snuff wsX5_within := goodIn_r _ [6] (by decide +kernel) (by decide +kernel)
set_option maxRecDepth 20000 in
theorem gX5_snuff_X5_within : GoodIn wsX5_snuff (va_wsS RX5 61 yX5_within wsX5_within) := goodIn_app (goodIn_of _ (by decide +kernel)) ggX5_snuff_X5_within
set_option maxRecDepth 20000 in
theorem ggX5_snuff_X5_winningSnuff : GoodIn wsX5_snuff wsX5_winningSnuff := goodIn_r _ [9, 10, 11, 5, 12, 13, 14, 15, 16, 17, 18, 19] (by decide +kernel) (by decide +kernel)
set_option maxRecDepth 20000 in
theorem gX5_snuff_X5_winningSnuff : GoodIn wsX5_snuff (va_wsS RX5 209 yX5_winningSnuff wsX5_winningSnuff) := goodIn_app (goodIn_of _ (by decide +kernel)) ggX5_snuff_X5_winningSnuff
theorem dX5_snuff_0 : decode cX5_snuff 0 = .ok (.iload_n 1, 1) := by decide +kernel
theorem dX5_snuff_1 : decode cX5_snuff 1 = .ok (.iconst 0, 1) := by decide +kernel
theorem dX5_snuff_2 : decode cX5_snuff 2 = .ok (.iconst 1, 1) := by decide +kernel
theorem dX5_snuff_3 : decode cX5_snuff 3 = .ok (.invokestatic 61, 3) := by decide +kernel
theorem dX5_snuff_6 : decode cX5_snuff 6 = .ok (.ifCond .ne 6, 3) := by decide +kernel
theorem dX5_snuff_9 : decode cX5_snuff 9 = .ok (.bipush (-2), 2) := by decide +kernel
theorem dX5_snuff_11 : decode cX5_snuff 11 = .ok (.ireturn, 1) := by decide +kernel
theorem dX5_snuff_12 : decode cX5_snuff 12 = .ok (.aload_n 0, 1) := by decide +kernel
theorem dX5_snuff_13 : decode cX5_snuff 13 = .ok (.getfield 12, 3) := by decide +kernel
theorem dX5_snuff_16 : decode cX5_snuff 16 = .ok (.getfield 123, 3) := by decide +kernel
theorem dX5_snuff_19 : decode cX5_snuff 19 = .ok (.invokestatic 209, 3) := by decide +kernel
theorem dX5_snuff_22 : decode cX5_snuff 22 = .ok (.istore_n 2, 1) := by decide +kernel
theorem dX5_snuff_23 : decode cX5_snuff 23 = .ok (.iload_n 1, 1) := by decide +kernel
theorem dX5_snuff_24 : decode cX5_snuff 24 = .ok (.iconst 1, 1) := by decide +kernel
theorem dX5_snuff_25 : decode cX5_snuff 25 = .ok (.if_icmp .ne 5, 3) := by decide +kernel
theorem dX5_snuff_28 : decode cX5_snuff 28 = .ok (.iload_n 2, 1) := by decide +kernel
theorem dX5_snuff_29 : decode cX5_snuff 29 = .ok (.ireturn, 1) := by decide +kernel
theorem dX5_snuff_30 : decode cX5_snuff 30 = .ok (.iload_n 2, 1) := by decide +kernel
theorem dX5_snuff_31 : decode cX5_snuff 31 = .ok (.bipush (-6), 2) := by decide +kernel
theorem dX5_snuff_33 : decode cX5_snuff 33 = .ok (.if_icmp .ne 7, 3) := by decide +kernel
theorem dX5_snuff_36 : decode cX5_snuff 36 = .ok (.iconst 0, 1) := by decide +kernel
theorem dX5_snuff_37 : decode cX5_snuff 37 = .ok (.goto 4, 3) := by decide +kernel
theorem dX5_snuff_40 : decode cX5_snuff 40 = .ok (.iconst 1, 1) := by decide +kernel
theorem dX5_snuff_41 : decode cX5_snuff 41 = .ok (.ireturn, 1) := by decide +kernel
set_option maxRecDepth 20000 in
theorem ggX5_moths_X5_isCandle : GoodIn wsX5_moths wsX5_isCandle := goodIn_r _ [8, 9, 10, 7, 11] (by decide +kernel) (by decide +kernel)
set_option maxRecDepth 20000 in
theorem gX5_moths_X5_isCandle : GoodIn wsX5_moths (va_wsS RX5 54 yX5_isCandle wsX5_isCandle) := goodIn_app (goodIn_of _ (by decide +kernel)) ggX5_moths_X5_isCandle
set_option maxRecDepth 20000 in
theorem ggX5_moths_X3_isLit : GoodIn wsX5_moths wsX3_isLit := goodIn_r _ [16, 17, 54, 55, 56, 57, 58, 59, 60, 61, 62, 63, 64, 65, 66, 67] (by decide +kernel) (by decide +kernel)
set_option maxRecDepth 20000 in
theorem gX5_moths_X3_isLit : GoodIn wsX5_moths (wsV RX5 114 RX3 yX3_isLit wsX3_isLit) := goodIn_app (goodIn_of _ (by decide +kernel)) ggX5_moths_X3_isLit
set_option maxRecDepth 20000 in
theorem ggX5_moths_X5_within : GoodIn wsX5_moths wsX5_within := goodIn_r _ [11] (by decide +kernel) (by decide +kernel)
set_option maxRecDepth 20000 in
theorem gX5_moths_X5_within : GoodIn wsX5_moths (va_wsS RX5 61 yX5_within wsX5_within) := goodIn_app (goodIn_of _ (by decide +kernel)) ggX5_moths_X5_within
set_option maxRecDepth 20000 in
theorem ggX5_moths_X3_howManyOutlast : GoodIn wsX5_moths wsX3_howManyOutlast := goodIn_r _ [21, 22, 23, 24, 15, 25, 26, 13, 14, 16, 17, 27, 28, 29, 30, 31, 32, 33, 34, 35, 36, 37, 38, 39, 40, 41, 54, 55, 56, 57, 58, 59, 60, 61, 62, 63, 64, 65, 66, 67] (by decide +kernel) (by decide +kernel)
set_option maxRecDepth 20000 in
theorem gX5_moths_X3_howManyOutlast : GoodIn wsX5_moths (wsV RX5 216 RX3 yX3_howManyOutlast wsX3_howManyOutlast) := goodIn_app (goodIn_of _ (by decide +kernel)) ggX5_moths_X3_howManyOutlast
set_option maxRecDepth 20000 in
theorem ggX5_moths_X3_outlasts : GoodIn wsX5_moths wsX3_outlasts := goodIn_r _ [25, 26, 13, 14, 15, 16, 17, 27, 28, 29, 30, 31, 32, 33, 34, 35, 36, 37, 38, 39, 40, 41, 54, 55, 56, 57, 58, 59, 60, 61, 62, 63, 64, 65, 66, 67] (by decide +kernel) (by decide +kernel)
set_option maxRecDepth 20000 in
theorem gX5_moths_X3_outlasts : GoodIn wsX5_moths (wsV RX5 219 RX3 yX3_outlasts wsX3_outlasts) := goodIn_app (goodIn_of _ (by decide +kernel)) ggX5_moths_X3_outlasts
set_option maxRecDepth 20000 in
theorem ggX5_moths_X5_partOf : GoodIn wsX5_moths wsX5_partOf := goodIn_r _ [45] (by decide +kernel) (by decide +kernel)
set_option maxRecDepth 20000 in
theorem gX5_moths_X5_partOf : GoodIn wsX5_moths (va_wsS RX5 224 yX5_partOf wsX5_partOf) := goodIn_app (goodIn_of _ (by decide +kernel)) ggX5_moths_X5_partOf
theorem dX5_moths_0 : decode cX5_moths 0 = .ok (.iload_n 1, 1) := by decide +kernel
theorem dX5_moths_1 : decode cX5_moths 1 = .ok (.iconst (-1), 1) := by decide +kernel
theorem dX5_moths_2 : decode cX5_moths 2 = .ok (.if_icmp .eq 25, 3) := by decide +kernel
theorem dX5_moths_5 : decode cX5_moths 5 = .ok (.iload_n 1, 1) := by decide +kernel
theorem dX5_moths_6 : decode cX5_moths 6 = .ok (.invokestatic 54, 3) := by decide +kernel
theorem dX5_moths_9 : decode cX5_moths 9 = .ok (.ifCond .eq 14, 3) := by decide +kernel
theorem dX5_moths_12 : decode cX5_moths 12 = .ok (.aload_n 0, 1) := by decide +kernel
theorem dX5_moths_13 : decode cX5_moths 13 = .ok (.getfield 12, 3) := by decide +kernel
theorem dX5_moths_16 : decode cX5_moths 16 = .ok (.iload_n 1, 1) := by decide +kernel
theorem dX5_moths_17 : decode cX5_moths 17 = .ok (.invokevirtual 114, 3) := by decide +kernel
theorem dX5_moths_20 : decode cX5_moths 20 = .ok (.ifCond .ne 7, 3) := by decide +kernel
theorem dX5_moths_23 : decode cX5_moths 23 = .ok (.ldc2_w 212, 3) := by decide +kernel
theorem dX5_moths_26 : decode cX5_moths 26 = .ok (.lreturn, 1) := by decide +kernel
theorem dX5_moths_27 : decode cX5_moths 27 = .ok (.iload_n 2, 1) := by decide +kernel
theorem dX5_moths_28 : decode cX5_moths 28 = .ok (.iconst 0, 1) := by decide +kernel
theorem dX5_moths_29 : decode cX5_moths 29 = .ok (.bipush 10, 2) := by decide +kernel
theorem dX5_moths_31 : decode cX5_moths 31 = .ok (.invokestatic 61, 3) := by decide +kernel
theorem dX5_moths_34 : decode cX5_moths 34 = .ok (.ifCond .eq 23, 3) := by decide +kernel
theorem dX5_moths_37 : decode cX5_moths 37 = .ok (.iload_n 3, 1) := by decide +kernel
theorem dX5_moths_38 : decode cX5_moths 38 = .ok (.iconst 0, 1) := by decide +kernel
theorem dX5_moths_39 : decode cX5_moths 39 = .ok (.bipush 15, 2) := by decide +kernel
theorem dX5_moths_41 : decode cX5_moths 41 = .ok (.invokestatic 61, 3) := by decide +kernel
theorem dX5_moths_44 : decode cX5_moths 44 = .ok (.ifCond .eq 13, 3) := by decide +kernel
theorem dX5_moths_47 : decode cX5_moths 47 = .ok (.iload 4, 2) := by decide +kernel
theorem dX5_moths_49 : decode cX5_moths 49 = .ok (.iconst 0, 1) := by decide +kernel
theorem dX5_moths_50 : decode cX5_moths 50 = .ok (.iconst 1, 1) := by decide +kernel
theorem dX5_moths_51 : decode cX5_moths 51 = .ok (.invokestatic 61, 3) := by decide +kernel
theorem dX5_moths_54 : decode cX5_moths 54 = .ok (.ifCond .ne 7, 3) := by decide +kernel
theorem dX5_moths_57 : decode cX5_moths 57 = .ok (.ldc2_w 214, 3) := by decide +kernel
theorem dX5_moths_60 : decode cX5_moths 60 = .ok (.lreturn, 1) := by decide +kernel
theorem dX5_moths_61 : decode cX5_moths 61 = .ok (.iload_n 1, 1) := by decide +kernel
theorem dX5_moths_62 : decode cX5_moths 62 = .ok (.iconst (-1), 1) := by decide +kernel
theorem dX5_moths_63 : decode cX5_moths 63 = .ok (.if_icmp .ne 15, 3) := by decide +kernel
theorem dX5_moths_66 : decode cX5_moths 66 = .ok (.aload_n 0, 1) := by decide +kernel
theorem dX5_moths_67 : decode cX5_moths 67 = .ok (.getfield 12, 3) := by decide +kernel
theorem dX5_moths_70 : decode cX5_moths 70 = .ok (.iload_n 3, 1) := by decide +kernel
theorem dX5_moths_71 : decode cX5_moths 71 = .ok (.invokevirtual 216, 3) := by decide +kernel
theorem dX5_moths_74 : decode cX5_moths 74 = .ok (.i2l, 1) := by decide +kernel
theorem dX5_moths_75 : decode cX5_moths 75 = .ok (.goto 20, 3) := by decide +kernel
theorem dX5_moths_78 : decode cX5_moths 78 = .ok (.aload_n 0, 1) := by decide +kernel
theorem dX5_moths_79 : decode cX5_moths 79 = .ok (.getfield 12, 3) := by decide +kernel
theorem dX5_moths_82 : decode cX5_moths 82 = .ok (.iload_n 1, 1) := by decide +kernel
theorem dX5_moths_83 : decode cX5_moths 83 = .ok (.iload_n 3, 1) := by decide +kernel
theorem dX5_moths_84 : decode cX5_moths 84 = .ok (.invokevirtual 219, 3) := by decide +kernel
theorem dX5_moths_87 : decode cX5_moths 87 = .ok (.ifCond .eq 7, 3) := by decide +kernel
theorem dX5_moths_90 : decode cX5_moths 90 = .ok (.lconst 1, 1) := by decide +kernel
theorem dX5_moths_91 : decode cX5_moths 91 = .ok (.goto 4, 3) := by decide +kernel
theorem dX5_moths_94 : decode cX5_moths 94 = .ok (.lconst 0, 1) := by decide +kernel
theorem dX5_moths_95 : decode cX5_moths 95 = .ok (.lstore 5, 2) := by decide +kernel
theorem dX5_moths_97 : decode cX5_moths 97 = .ok (.lconst 1, 1) := by decide +kernel
theorem dX5_moths_98 : decode cX5_moths 98 = .ok (.lstore 7, 2) := by decide +kernel
theorem dX5_moths_100 : decode cX5_moths 100 = .ok (.iconst 0, 1) := by decide +kernel
theorem dX5_moths_101 : decode cX5_moths 101 = .ok (.istore 9, 2) := by decide +kernel
theorem dX5_moths_103 : decode cX5_moths 103 = .ok (.iload 9, 2) := by decide +kernel
theorem dX5_moths_105 : decode cX5_moths 105 = .ok (.iload_n 3, 1) := by decide +kernel
theorem dX5_moths_106 : decode cX5_moths 106 = .ok (.if_icmp .ge 27, 3) := by decide +kernel
theorem dX5_moths_109 : decode cX5_moths 109 = .ok (.lload 5, 2) := by decide +kernel
theorem dX5_moths_111 : decode cX5_moths 111 = .ok (.bipush 10, 2) := by decide +kernel
theorem dX5_moths_113 : decode cX5_moths 113 = .ok (.iload_n 2, 1) := by decide +kernel
theorem dX5_moths_114 : decode cX5_moths 114 = .ok (.isub, 1) := by decide +kernel
theorem dX5_moths_115 : decode cX5_moths 115 = .ok (.i2l, 1) := by decide +kernel
theorem dX5_moths_116 : decode cX5_moths 116 = .ok (.lmul, 1) := by decide +kernel
theorem dX5_moths_117 : decode cX5_moths 117 = .ok (.lstore 5, 2) := by decide +kernel
theorem dX5_moths_119 : decode cX5_moths 119 = .ok (.lload 7, 2) := by decide +kernel
theorem dX5_moths_121 : decode cX5_moths 121 = .ok (.ldc2_w 222, 3) := by decide +kernel
theorem dX5_moths_124 : decode cX5_moths 124 = .ok (.lmul, 1) := by decide +kernel
theorem dX5_moths_125 : decode cX5_moths 125 = .ok (.lstore 7, 2) := by decide +kernel
theorem dX5_moths_127 : decode cX5_moths 127 = .ok (.iinc 9 1, 3) := by decide +kernel
theorem dX5_moths_130 : decode cX5_moths 130 = .ok (.goto (-27), 3) := by decide +kernel
theorem dX5_moths_133 : decode cX5_moths 133 = .ok (.lload 5, 2) := by decide +kernel
theorem dX5_moths_135 : decode cX5_moths 135 = .ok (.lload 7, 2) := by decide +kernel
theorem dX5_moths_137 : decode cX5_moths 137 = .ok (.iload 4, 2) := by decide +kernel
theorem dX5_moths_139 : decode cX5_moths 139 = .ok (.invokestatic 224, 3) := by decide +kernel
theorem dX5_moths_142 : decode cX5_moths 142 = .ok (.lreturn, 1) := by decide +kernel
set_option maxRecDepth 20000 in
theorem ggX5_ship_X5_within : GoodIn wsX5_ship wsX5_within := goodIn_r _ [9] (by decide +kernel) (by decide +kernel)
set_option maxRecDepth 20000 in
theorem gX5_ship_X5_within : GoodIn wsX5_ship (va_wsS RX5 61 yX5_within wsX5_within) := goodIn_app (goodIn_of _ (by decide +kernel)) ggX5_ship_X5_within
set_option maxRecDepth 20000 in
theorem ggX5_ship_X5_partOf : GoodIn wsX5_ship wsX5_partOf := goodIn_r _ [12] (by decide +kernel) (by decide +kernel)
set_option maxRecDepth 20000 in
theorem gX5_ship_X5_partOf : GoodIn wsX5_ship (va_wsS RX5 224 yX5_partOf wsX5_partOf) := goodIn_app (goodIn_of _ (by decide +kernel)) ggX5_ship_X5_partOf
theorem dX5_ship_0 : decode cX5_ship 0 = .ok (.iload_n 1, 1) := by decide +kernel
theorem dX5_ship_1 : decode cX5_ship 1 = .ok (.iconst 1, 1) := by decide +kernel
theorem dX5_ship_2 : decode cX5_ship 2 = .ok (.bipush 9, 2) := by decide +kernel
theorem dX5_ship_4 : decode cX5_ship 4 = .ok (.invokestatic 61, 3) := by decide +kernel
theorem dX5_ship_7 : decode cX5_ship 7 = .ok (.ifCond .eq 33, 3) := by decide +kernel
theorem dX5_ship_10 : decode cX5_ship 10 = .ok (.iload_n 2, 1) := by decide +kernel
theorem dX5_ship_11 : decode cX5_ship 11 = .ok (.iconst 0, 1) := by decide +kernel
theorem dX5_ship_12 : decode cX5_ship 12 = .ok (.bipush 99, 2) := by decide +kernel
theorem dX5_ship_14 : decode cX5_ship 14 = .ok (.invokestatic 61, 3) := by decide +kernel
theorem dX5_ship_17 : decode cX5_ship 17 = .ok (.ifCond .eq 23, 3) := by decide +kernel
theorem dX5_ship_20 : decode cX5_ship 20 = .ok (.iload_n 3, 1) := by decide +kernel
theorem dX5_ship_21 : decode cX5_ship 21 = .ok (.iconst 0, 1) := by decide +kernel
theorem dX5_ship_22 : decode cX5_ship 22 = .ok (.bipush 99, 2) := by decide +kernel
theorem dX5_ship_24 : decode cX5_ship 24 = .ok (.invokestatic 61, 3) := by decide +kernel
theorem dX5_ship_27 : decode cX5_ship 27 = .ok (.ifCond .eq 13, 3) := by decide +kernel
theorem dX5_ship_30 : decode cX5_ship 30 = .ok (.iload 4, 2) := by decide +kernel
theorem dX5_ship_32 : decode cX5_ship 32 = .ok (.iconst 0, 1) := by decide +kernel
theorem dX5_ship_33 : decode cX5_ship 33 = .ok (.iconst 1, 1) := by decide +kernel
theorem dX5_ship_34 : decode cX5_ship 34 = .ok (.invokestatic 61, 3) := by decide +kernel
theorem dX5_ship_37 : decode cX5_ship 37 = .ok (.ifCond .ne 7, 3) := by decide +kernel
theorem dX5_ship_40 : decode cX5_ship 40 = .ok (.ldc2_w 214, 3) := by decide +kernel
theorem dX5_ship_43 : decode cX5_ship 43 = .ok (.lreturn, 1) := by decide +kernel
theorem dX5_ship_44 : decode cX5_ship 44 = .ok (.iconst 0, 1) := by decide +kernel
theorem dX5_ship_45 : decode cX5_ship 45 = .ok (.sipush 200, 3) := by decide +kernel
theorem dX5_ship_48 : decode cX5_ship 48 = .ok (.iload_n 1, 1) := by decide +kernel
theorem dX5_ship_49 : decode cX5_ship 49 = .ok (.iload_n 2, 1) := by decide +kernel
theorem dX5_ship_50 : decode cX5_ship 50 = .ok (.imul, 1) := by decide +kernel
theorem dX5_ship_51 : decode cX5_ship 51 = .ok (.isub, 1) := by decide +kernel
theorem dX5_ship_52 : decode cX5_ship 52 = .ok (.invokestatic 228, 3) := by decide +kernel
theorem dX5_ship_55 : decode cX5_ship 55 = .ok (.istore 5, 2) := by decide +kernel
theorem dX5_ship_57 : decode cX5_ship 57 = .ok (.iconst 0, 1) := by decide +kernel
theorem dX5_ship_58 : decode cX5_ship 58 = .ok (.sipush 200, 3) := by decide +kernel
theorem dX5_ship_61 : decode cX5_ship 61 = .ok (.iload_n 1, 1) := by decide +kernel
theorem dX5_ship_62 : decode cX5_ship 62 = .ok (.iload_n 2, 1) := by decide +kernel
theorem dX5_ship_63 : decode cX5_ship 63 = .ok (.iload_n 3, 1) := by decide +kernel
theorem dX5_ship_64 : decode cX5_ship 64 = .ok (.iadd, 1) := by decide +kernel
theorem dX5_ship_65 : decode cX5_ship 65 = .ok (.imul, 1) := by decide +kernel
theorem dX5_ship_66 : decode cX5_ship 66 = .ok (.isub, 1) := by decide +kernel
theorem dX5_ship_67 : decode cX5_ship 67 = .ok (.invokestatic 228, 3) := by decide +kernel
theorem dX5_ship_70 : decode cX5_ship 70 = .ok (.istore 6, 2) := by decide +kernel
theorem dX5_ship_72 : decode cX5_ship 72 = .ok (.iload 5, 2) := by decide +kernel
theorem dX5_ship_74 : decode cX5_ship 74 = .ok (.ifCond .ne 13, 3) := by decide +kernel
theorem dX5_ship_77 : decode cX5_ship 77 = .ok (.lconst 0, 1) := by decide +kernel
theorem dX5_ship_78 : decode cX5_ship 78 = .ok (.lconst 1, 1) := by decide +kernel
theorem dX5_ship_79 : decode cX5_ship 79 = .ok (.iload 4, 2) := by decide +kernel
theorem dX5_ship_81 : decode cX5_ship 81 = .ok (.invokestatic 224, 3) := by decide +kernel
theorem dX5_ship_84 : decode cX5_ship 84 = .ok (.goto 14, 3) := by decide +kernel
theorem dX5_ship_87 : decode cX5_ship 87 = .ok (.iload 6, 2) := by decide +kernel
theorem dX5_ship_89 : decode cX5_ship 89 = .ok (.i2l, 1) := by decide +kernel
theorem dX5_ship_90 : decode cX5_ship 90 = .ok (.iload 5, 2) := by decide +kernel
theorem dX5_ship_92 : decode cX5_ship 92 = .ok (.i2l, 1) := by decide +kernel
theorem dX5_ship_93 : decode cX5_ship 93 = .ok (.iload 4, 2) := by decide +kernel
theorem dX5_ship_95 : decode cX5_ship 95 = .ok (.invokestatic 224, 3) := by decide +kernel
theorem dX5_ship_98 : decode cX5_ship 98 = .ok (.lreturn, 1) := by decide +kernel
set_option maxRecDepth 20000 in
theorem ggX5_year_X5_within : GoodIn wsX5_year wsX5_within := goodIn_r _ [9] (by decide +kernel) (by decide +kernel)
set_option maxRecDepth 20000 in
theorem gX5_year_X5_within : GoodIn wsX5_year (va_wsS RX5 61 yX5_within wsX5_within) := goodIn_app (goodIn_of _ (by decide +kernel)) ggX5_year_X5_within
set_option maxRecDepth 20000 in
theorem ggX5_year_X1_draws : GoodIn wsX5_year wsX1_draws := goodIn_r _ [14, 15, 16, 17, 18, 13, 19, 20, 21, 22, 23, 24, 25, 26, 27, 28, 29, 30, 31, 32, 33, 34, 35, 36, 37, 38, 39, 40, 41, 42, 43, 44, 45, 46, 47, 48, 49, 8, 50, 6, 7, 9, 51, 52, 53, 54, 55, 56, 57, 58, 59, 60, 61, 62, 63, 64, 65, 66, 67, 68, 69, 70, 71, 72, 73, 74, 75, 76, 77, 78, 79, 80, 81, 82, 83, 84, 85, 86, 87, 88, 89, 90, 91, 92, 93, 94, 95, 96, 97, 98, 99, 100, 101, 102, 103, 104, 105, 106, 107, 108, 109, 110, 111, 112, 113, 114, 115, 116, 117, 118, 119, 120, 140, 141, 142, 143, 144, 145, 146, 147, 148, 149, 150, 151, 152, 153, 154, 155, 156, 157, 158, 159] (by decide +kernel) (by decide +kernel)
set_option maxRecDepth 20000 in
theorem gX5_year_X1_draws : GoodIn wsX5_year (wsV RX5 231 RX1 yX1_draws wsX1_draws) := goodIn_app (goodIn_of _ (by decide +kernel)) ggX5_year_X1_draws
set_option maxRecDepth 20000 in
theorem ggX5_year_X3_waxOfAll : GoodIn wsX5_year wsX3_waxOfAll := goodIn_r _ [124, 31, 146, 147, 148, 149, 150, 151, 152, 153, 154, 155, 156, 157, 158, 159] (by decide +kernel) (by decide +kernel)
set_option maxRecDepth 20000 in
theorem gX5_year_X3_waxOfAll : GoodIn wsX5_year (wsV RX5 235 RX3 yX3_waxOfAll wsX3_waxOfAll) := goodIn_app (goodIn_of _ (by decide +kernel)) ggX5_year_X3_waxOfAll
set_option maxRecDepth 20000 in
theorem ggX5_year_J6_bitCount_0f7a4 : GoodIn wsX5_year wsJ6_bitCount_0f7a4 := goodIn_r _ [128, 129, 130, 131] (by decide +kernel) (by decide +kernel)
set_option maxRecDepth 20000 in
theorem gX5_year_J6_bitCount_0f7a4 : GoodIn wsX5_year (va_wsS RX5 175 yJ6_bitCount_0f7a4 wsJ6_bitCount_0f7a4) := goodIn_app (goodIn_of _ (by decide +kernel)) ggX5_year_J6_bitCount_0f7a4
theorem dX5_year_0 : decode cX5_year 0 = .ok (.iload_n 1, 1) := by decide +kernel
theorem dX5_year_1 : decode cX5_year 1 = .ok (.iconst 0, 1) := by decide +kernel
theorem dX5_year_2 : decode cX5_year 2 = .ok (.sipush 9999, 3) := by decide +kernel
theorem dX5_year_5 : decode cX5_year 5 = .ok (.invokestatic 61, 3) := by decide +kernel
theorem dX5_year_8 : decode cX5_year 8 = .ok (.ifCond .eq 22, 3) := by decide +kernel
theorem dX5_year_11 : decode cX5_year 11 = .ok (.iload_n 2, 1) := by decide +kernel
theorem dX5_year_12 : decode cX5_year 12 = .ok (.iconst 1, 1) := by decide +kernel
theorem dX5_year_13 : decode cX5_year 13 = .ok (.bipush 99, 2) := by decide +kernel
theorem dX5_year_15 : decode cX5_year 15 = .ok (.invokestatic 61, 3) := by decide +kernel
theorem dX5_year_18 : decode cX5_year 18 = .ok (.ifCond .eq 12, 3) := by decide +kernel
theorem dX5_year_21 : decode cX5_year 21 = .ok (.iload_n 3, 1) := by decide +kernel
theorem dX5_year_22 : decode cX5_year 22 = .ok (.iconst 0, 1) := by decide +kernel
theorem dX5_year_23 : decode cX5_year 23 = .ok (.iconst 2, 1) := by decide +kernel
theorem dX5_year_24 : decode cX5_year 24 = .ok (.invokestatic 61, 3) := by decide +kernel
theorem dX5_year_27 : decode cX5_year 27 = .ok (.ifCond .ne 6, 3) := by decide +kernel
theorem dX5_year_30 : decode cX5_year 30 = .ok (.bipush (-2), 2) := by decide +kernel
theorem dX5_year_32 : decode cX5_year 32 = .ok (.ireturn, 1) := by decide +kernel
theorem dX5_year_33 : decode cX5_year 33 = .ok (.aload_n 0, 1) := by decide +kernel
theorem dX5_year_34 : decode cX5_year 34 = .ok (.getfield 36, 3) := by decide +kernel
theorem dX5_year_37 : decode cX5_year 37 = .ok (.aload_n 0, 1) := by decide +kernel
theorem dX5_year_38 : decode cX5_year 38 = .ok (.getfield 12, 3) := by decide +kernel
theorem dX5_year_41 : decode cX5_year 41 = .ok (.iload_n 1, 1) := by decide +kernel
theorem dX5_year_42 : decode cX5_year 42 = .ok (.iload_n 2, 1) := by decide +kernel
theorem dX5_year_43 : decode cX5_year 43 = .ok (.invokevirtual 231, 3) := by decide +kernel
theorem dX5_year_46 : decode cX5_year 46 = .ok (.iload_n 3, 1) := by decide +kernel
theorem dX5_year_47 : decode cX5_year 47 = .ok (.lookupswitch 44 #[(0, 25), (1, 33)], 25) := by decide +kernel
theorem dX5_year_72 : decode cX5_year 72 = .ok (.aload_n 0, 1) := by decide +kernel
theorem dX5_year_73 : decode cX5_year 73 = .ok (.getfield 36, 3) := by decide +kernel
theorem dX5_year_76 : decode cX5_year 76 = .ok (.getfield 129, 3) := by decide +kernel
theorem dX5_year_79 : decode cX5_year 79 = .ok (.ireturn, 1) := by decide +kernel
theorem dX5_year_80 : decode cX5_year 80 = .ok (.aload_n 0, 1) := by decide +kernel
theorem dX5_year_81 : decode cX5_year 81 = .ok (.getfield 36, 3) := by decide +kernel
theorem dX5_year_84 : decode cX5_year 84 = .ok (.getfield 107, 3) := by decide +kernel
theorem dX5_year_87 : decode cX5_year 87 = .ok (.invokevirtual 235, 3) := by decide +kernel
theorem dX5_year_90 : decode cX5_year 90 = .ok (.ireturn, 1) := by decide +kernel
theorem dX5_year_91 : decode cX5_year 91 = .ok (.aload_n 0, 1) := by decide +kernel
theorem dX5_year_92 : decode cX5_year 92 = .ok (.getfield 36, 3) := by decide +kernel
theorem dX5_year_95 : decode cX5_year 95 = .ok (.getfield 107, 3) := by decide +kernel
theorem dX5_year_98 : decode cX5_year 98 = .ok (.getfield 123, 3) := by decide +kernel
theorem dX5_year_101 : decode cX5_year 101 = .ok (.invokestatic 175, 3) := by decide +kernel
theorem dX5_year_104 : decode cX5_year 104 = .ok (.ireturn, 1) := by decide +kernel
set_option maxRecDepth 20000 in
theorem ggX5_image_X5_within : GoodIn wsX5_image wsX5_within := goodIn_r _ [6] (by decide +kernel) (by decide +kernel)
set_option maxRecDepth 20000 in
theorem gX5_image_X5_within : GoodIn wsX5_image (va_wsS RX5 61 yX5_within wsX5_within) := goodIn_app (goodIn_of _ (by decide +kernel)) ggX5_image_X5_within
set_option maxRecDepth 20000 in
theorem ggX5_image_X5_imageOf : GoodIn wsX5_image wsX5_imageOf := goodIn_r _ [10, 11, 12, 36, 37, 38, 39, 40, 41, 42, 43] (by decide +kernel) (by decide +kernel)
set_option maxRecDepth 20000 in
theorem gX5_image_X5_imageOf : GoodIn wsX5_image (wsV RX5 238 RX5 yX5_imageOf wsX5_imageOf) := goodIn_app (goodIn_of _ (by decide +kernel)) ggX5_image_X5_imageOf
set_option maxRecDepth 20000 in
theorem ggX5_image_X3_copyFrom : GoodIn wsX5_image wsX3_copyFrom := goodIn_r _ [17, 18, 19, 20, 21, 22, 23, 24, 25, 26, 27, 28, 29, 30, 31, 32, 33, 34, 35, 44, 45, 46, 47, 48, 49, 50, 51, 52, 53, 54, 55, 56, 57] (by decide +kernel) (by decide +kernel)
set_option maxRecDepth 20000 in
theorem gX5_image_X3_copyFrom : GoodIn wsX5_image (wsV RX5 110 RX3 yX3_copyFrom wsX3_copyFrom) := goodIn_app (goodIn_of _ (by decide +kernel)) ggX5_image_X3_copyFrom
theorem dX5_image_0 : decode cX5_image 0 = .ok (.iload_n 1, 1) := by decide +kernel
theorem dX5_image_1 : decode cX5_image 1 = .ok (.iconst 0, 1) := by decide +kernel
theorem dX5_image_2 : decode cX5_image 2 = .ok (.iconst 1, 1) := by decide +kernel
theorem dX5_image_3 : decode cX5_image 3 = .ok (.invokestatic 61, 3) := by decide +kernel
theorem dX5_image_6 : decode cX5_image 6 = .ok (.ifCond .ne 6, 3) := by decide +kernel
theorem dX5_image_9 : decode cX5_image 9 = .ok (.bipush (-2), 2) := by decide +kernel
theorem dX5_image_11 : decode cX5_image 11 = .ok (.ireturn, 1) := by decide +kernel
theorem dX5_image_12 : decode cX5_image 12 = .ok (.aload_n 0, 1) := by decide +kernel
theorem dX5_image_13 : decode cX5_image 13 = .ok (.iload_n 1, 1) := by decide +kernel
theorem dX5_image_14 : decode cX5_image 14 = .ok (.invokevirtual 238, 3) := by decide +kernel
theorem dX5_image_17 : decode cX5_image 17 = .ok (.aload_n 0, 1) := by decide +kernel
theorem dX5_image_18 : decode cX5_image 18 = .ok (.getfield 12, 3) := by decide +kernel
theorem dX5_image_21 : decode cX5_image 21 = .ok (.invokevirtual 110, 3) := by decide +kernel
theorem dX5_image_24 : decode cX5_image 24 = .ok (.aload_n 0, 1) := by decide +kernel
theorem dX5_image_25 : decode cX5_image 25 = .ok (.getfield 22, 3) := by decide +kernel
theorem dX5_image_28 : decode cX5_image 28 = .ok (.iload_n 1, 1) := by decide +kernel
theorem dX5_image_29 : decode cX5_image 29 = .ok (.iconst 1, 1) := by decide +kernel
theorem dX5_image_30 : decode cX5_image 30 = .ok (.bastore, 1) := by decide +kernel
theorem dX5_image_31 : decode cX5_image 31 = .ok (.iconst 1, 1) := by decide +kernel
theorem dX5_image_32 : decode cX5_image 32 = .ok (.ireturn, 1) := by decide +kernel
set_option maxRecDepth 20000 in
theorem ggX5_restore_X5_within : GoodIn wsX5_restore wsX5_within := goodIn_r _ [6] (by decide +kernel) (by decide +kernel)
set_option maxRecDepth 20000 in
theorem gX5_restore_X5_within : GoodIn wsX5_restore (va_wsS RX5 61 yX5_within wsX5_within) := goodIn_app (goodIn_of _ (by decide +kernel)) ggX5_restore_X5_within
set_option maxRecDepth 20000 in
theorem ggX5_restore_X5_imageOf : GoodIn wsX5_restore wsX5_imageOf := goodIn_r _ [10, 11, 12, 36, 37, 38, 39, 40, 41, 42, 43] (by decide +kernel) (by decide +kernel)
set_option maxRecDepth 20000 in
theorem gX5_restore_X5_imageOf : GoodIn wsX5_restore (wsV RX5 238 RX5 yX5_imageOf wsX5_imageOf) := goodIn_app (goodIn_of _ (by decide +kernel)) ggX5_restore_X5_imageOf
set_option maxRecDepth 20000 in
theorem ggX5_restore_X3_copyFrom : GoodIn wsX5_restore wsX3_copyFrom := goodIn_r _ [17, 18, 19, 20, 21, 22, 23, 24, 25, 26, 27, 28, 29, 30, 31, 32, 33, 34, 35, 44, 45, 46, 47, 48, 49, 50, 51, 52, 53, 54, 55, 56, 57] (by decide +kernel) (by decide +kernel)
set_option maxRecDepth 20000 in
theorem gX5_restore_X3_copyFrom : GoodIn wsX5_restore (wsV RX5 110 RX3 yX3_copyFrom wsX3_copyFrom) := goodIn_app (goodIn_of _ (by decide +kernel)) ggX5_restore_X3_copyFrom
theorem dX5_restore_0 : decode cX5_restore 0 = .ok (.iload_n 1, 1) := by decide +kernel
theorem dX5_restore_1 : decode cX5_restore 1 = .ok (.iconst 0, 1) := by decide +kernel
theorem dX5_restore_2 : decode cX5_restore 2 = .ok (.iconst 1, 1) := by decide +kernel
theorem dX5_restore_3 : decode cX5_restore 3 = .ok (.invokestatic 61, 3) := by decide +kernel
theorem dX5_restore_6 : decode cX5_restore 6 = .ok (.ifCond .ne 6, 3) := by decide +kernel
theorem dX5_restore_9 : decode cX5_restore 9 = .ok (.bipush (-2), 2) := by decide +kernel
theorem dX5_restore_11 : decode cX5_restore 11 = .ok (.ireturn, 1) := by decide +kernel
theorem dX5_restore_12 : decode cX5_restore 12 = .ok (.aload_n 0, 1) := by decide +kernel
theorem dX5_restore_13 : decode cX5_restore 13 = .ok (.getfield 22, 3) := by decide +kernel
theorem dX5_restore_16 : decode cX5_restore 16 = .ok (.iload_n 1, 1) := by decide +kernel
theorem dX5_restore_17 : decode cX5_restore 17 = .ok (.baload, 1) := by decide +kernel
theorem dX5_restore_18 : decode cX5_restore 18 = .ok (.ifCond .ne 6, 3) := by decide +kernel
theorem dX5_restore_21 : decode cX5_restore 21 = .ok (.bipush (-3), 2) := by decide +kernel
theorem dX5_restore_23 : decode cX5_restore 23 = .ok (.ireturn, 1) := by decide +kernel
theorem dX5_restore_24 : decode cX5_restore 24 = .ok (.aload_n 0, 1) := by decide +kernel
theorem dX5_restore_25 : decode cX5_restore 25 = .ok (.getfield 12, 3) := by decide +kernel
theorem dX5_restore_28 : decode cX5_restore 28 = .ok (.aload_n 0, 1) := by decide +kernel
theorem dX5_restore_29 : decode cX5_restore 29 = .ok (.iload_n 1, 1) := by decide +kernel
theorem dX5_restore_30 : decode cX5_restore 30 = .ok (.invokevirtual 238, 3) := by decide +kernel
theorem dX5_restore_33 : decode cX5_restore 33 = .ok (.invokevirtual 110, 3) := by decide +kernel
theorem dX5_restore_36 : decode cX5_restore 36 = .ok (.iconst 1, 1) := by decide +kernel
theorem dX5_restore_37 : decode cX5_restore 37 = .ok (.ireturn, 1) := by decide +kernel
set_option maxRecDepth 20000 in
theorem ggX5_told_X5_within : GoodIn wsX5_told wsX5_within := goodIn_r _ [12] (by decide +kernel) (by decide +kernel)
set_option maxRecDepth 20000 in
theorem gX5_told_X5_within : GoodIn wsX5_told (va_wsS RX5 61 yX5_within wsX5_within) := goodIn_app (goodIn_of _ (by decide +kernel)) ggX5_told_X5_within
set_option maxRecDepth 20000 in
theorem ggX5_told_X5_toldOfCandle : GoodIn wsX5_told wsX5_toldOfCandle := goodIn_r _ [16, 1, 17, 18, 19, 20, 21, 22, 23, 24, 25, 26, 27, 28, 29, 30, 31, 32, 33, 34, 35, 36, 37, 38, 39, 40, 41, 42, 43, 44, 45, 46, 47, 48, 49, 50, 51, 52, 53, 54, 55, 56, 57, 58, 59, 60] (by decide +kernel) (by decide +kernel)
set_option maxRecDepth 20000 in
theorem gX5_told_X5_toldOfCandle : GoodIn wsX5_told (wsV RX5 242 RX5 yX5_toldOfCandle wsX5_toldOfCandle) := goodIn_app (goodIn_of _ (by decide +kernel)) ggX5_told_X5_toldOfCandle
theorem dX5_told_0 : decode cX5_told 0 = .ok (.iload_n 1, 1) := by decide +kernel
theorem dX5_told_1 : decode cX5_told 1 = .ok (.bipush 10, 2) := by decide +kernel
theorem dX5_told_3 : decode cX5_told 3 = .ok (.bipush 15, 2) := by decide +kernel
theorem dX5_told_5 : decode cX5_told 5 = .ok (.invokestatic 61, 3) := by decide +kernel
theorem dX5_told_8 : decode cX5_told 8 = .ok (.ifCond .eq 16, 3) := by decide +kernel
theorem dX5_told_11 : decode cX5_told 11 = .ok (.aload_n 0, 1) := by decide +kernel
theorem dX5_told_12 : decode cX5_told 12 = .ok (.getfield 12, 3) := by decide +kernel
theorem dX5_told_15 : decode cX5_told 15 = .ok (.getfield 76, 3) := by decide +kernel
theorem dX5_told_18 : decode cX5_told 18 = .ok (.iload_n 1, 1) := by decide +kernel
theorem dX5_told_19 : decode cX5_told 19 = .ok (.bipush 10, 2) := by decide +kernel
theorem dX5_told_21 : decode cX5_told 21 = .ok (.isub, 1) := by decide +kernel
theorem dX5_told_22 : decode cX5_told 22 = .ok (.iaload, 1) := by decide +kernel
theorem dX5_told_23 : decode cX5_told 23 = .ok (.ireturn, 1) := by decide +kernel
theorem dX5_told_24 : decode cX5_told 24 = .ok (.iload_n 1, 1) := by decide +kernel
theorem dX5_told_25 : decode cX5_told 25 = .ok (.bipush 100, 2) := by decide +kernel
theorem dX5_told_27 : decode cX5_told 27 = .ok (.sipush 219, 3) := by decide +kernel
theorem dX5_told_30 : decode cX5_told 30 = .ok (.invokestatic 61, 3) := by decide +kernel
theorem dX5_told_33 : decode cX5_told 33 = .ok (.ifCond .eq 19, 3) := by decide +kernel
theorem dX5_told_36 : decode cX5_told 36 = .ok (.aload_n 0, 1) := by decide +kernel
theorem dX5_told_37 : decode cX5_told 37 = .ok (.iload_n 1, 1) := by decide +kernel
theorem dX5_told_38 : decode cX5_told 38 = .ok (.bipush 100, 2) := by decide +kernel
theorem dX5_told_40 : decode cX5_told 40 = .ok (.isub, 1) := by decide +kernel
theorem dX5_told_41 : decode cX5_told 41 = .ok (.bipush 10, 2) := by decide +kernel
theorem dX5_told_43 : decode cX5_told 43 = .ok (.idiv, 1) := by decide +kernel
theorem dX5_told_44 : decode cX5_told 44 = .ok (.iload_n 1, 1) := by decide +kernel
theorem dX5_told_45 : decode cX5_told 45 = .ok (.bipush 10, 2) := by decide +kernel
theorem dX5_told_47 : decode cX5_told 47 = .ok (.irem, 1) := by decide +kernel
theorem dX5_told_48 : decode cX5_told 48 = .ok (.invokevirtual 242, 3) := by decide +kernel
theorem dX5_told_51 : decode cX5_told 51 = .ok (.ireturn, 1) := by decide +kernel
theorem dX5_told_52 : decode cX5_told 52 = .ok (.iload_n 1, 1) := by decide +kernel
theorem dX5_told_53 : decode cX5_told 53 = .ok (.tableswitch 75 0 4 #[35, 43, 51, 59, 67], 35) := by decide +kernel
theorem dX5_told_88 : decode cX5_told 88 = .ok (.aload_n 0, 1) := by decide +kernel
theorem dX5_told_89 : decode cX5_told 89 = .ok (.getfield 29, 3) := by decide +kernel
theorem dX5_told_92 : decode cX5_told 92 = .ok (.getfield 86, 3) := by decide +kernel
theorem dX5_told_95 : decode cX5_told 95 = .ok (.ireturn, 1) := by decide +kernel
theorem dX5_told_96 : decode cX5_told 96 = .ok (.aload_n 0, 1) := by decide +kernel
theorem dX5_told_97 : decode cX5_told 97 = .ok (.getfield 12, 3) := by decide +kernel
theorem dX5_told_100 : decode cX5_told 100 = .ok (.getfield 123, 3) := by decide +kernel
theorem dX5_told_103 : decode cX5_told 103 = .ok (.ireturn, 1) := by decide +kernel
theorem dX5_told_104 : decode cX5_told 104 = .ok (.aload_n 0, 1) := by decide +kernel
theorem dX5_told_105 : decode cX5_told 105 = .ok (.getfield 12, 3) := by decide +kernel
theorem dX5_told_108 : decode cX5_told 108 = .ok (.getfield 79, 3) := by decide +kernel
theorem dX5_told_111 : decode cX5_told 111 = .ok (.ireturn, 1) := by decide +kernel
theorem dX5_told_112 : decode cX5_told 112 = .ok (.aload_n 0, 1) := by decide +kernel
theorem dX5_told_113 : decode cX5_told 113 = .ok (.getfield 12, 3) := by decide +kernel
theorem dX5_told_116 : decode cX5_told 116 = .ok (.getfield 126, 3) := by decide +kernel
theorem dX5_told_119 : decode cX5_told 119 = .ok (.ireturn, 1) := by decide +kernel
theorem dX5_told_120 : decode cX5_told 120 = .ok (.aload_n 0, 1) := by decide +kernel
theorem dX5_told_121 : decode cX5_told 121 = .ok (.getfield 12, 3) := by decide +kernel
theorem dX5_told_124 : decode cX5_told 124 = .ok (.getfield 193, 3) := by decide +kernel
theorem dX5_told_127 : decode cX5_told 127 = .ok (.ireturn, 1) := by decide +kernel
theorem dX5_told_128 : decode cX5_told 128 = .ok (.bipush (-2), 2) := by decide +kernel
theorem dX5_told_130 : decode cX5_told 130 = .ok (.ireturn, 1) := by decide +kernel
theorem dX5_within_0 : decode cX5_within 0 = .ok (.iload_n 0, 1) := by decide +kernel
theorem dX5_within_1 : decode cX5_within 1 = .ok (.iload_n 1, 1) := by decide +kernel
theorem dX5_within_2 : decode cX5_within 2 = .ok (.if_icmp .lt 12, 3) := by decide +kernel
theorem dX5_within_5 : decode cX5_within 5 = .ok (.iload_n 0, 1) := by decide +kernel
theorem dX5_within_6 : decode cX5_within 6 = .ok (.iload_n 2, 1) := by decide +kernel
theorem dX5_within_7 : decode cX5_within 7 = .ok (.if_icmp .gt 7, 3) := by decide +kernel
theorem dX5_within_10 : decode cX5_within 10 = .ok (.iconst 1, 1) := by decide +kernel
theorem dX5_within_11 : decode cX5_within 11 = .ok (.goto 4, 3) := by decide +kernel
theorem dX5_within_14 : decode cX5_within 14 = .ok (.iconst 0, 1) := by decide +kernel
theorem dX5_within_15 : decode cX5_within 15 = .ok (.ireturn, 1) := by decide +kernel
set_option maxRecDepth 20000 in
theorem ggX5_isCandle_X5_within : GoodIn wsX5_isCandle wsX5_within := goodIn_r _ [4] (by decide +kernel) (by decide +kernel)
set_option maxRecDepth 20000 in
theorem gX5_isCandle_X5_within : GoodIn wsX5_isCandle (va_wsS RX5 61 yX5_within wsX5_within) := goodIn_app (goodIn_of _ (by decide +kernel)) ggX5_isCandle_X5_within
theorem dX5_isCandle_0 : decode cX5_isCandle 0 = .ok (.iload_n 0, 1) := by decide +kernel
theorem dX5_isCandle_1 : decode cX5_isCandle 1 = .ok (.iconst 0, 1) := by decide +kernel
theorem dX5_isCandle_2 : decode cX5_isCandle 2 = .ok (.bipush 11, 2) := by decide +kernel
theorem dX5_isCandle_4 : decode cX5_isCandle 4 = .ok (.invokestatic 61, 3) := by decide +kernel
theorem dX5_isCandle_7 : decode cX5_isCandle 7 = .ok (.ireturn, 1) := by decide +kernel
set_option maxRecDepth 20000 in
theorem ggX5_isOne_X5_within : GoodIn wsX5_isOne wsX5_within := goodIn_r _ [4] (by decide +kernel) (by decide +kernel)
set_option maxRecDepth 20000 in
theorem gX5_isOne_X5_within : GoodIn wsX5_isOne (va_wsS RX5 61 yX5_within wsX5_within) := goodIn_app (goodIn_of _ (by decide +kernel)) ggX5_isOne_X5_within
theorem dX5_isOne_0 : decode cX5_isOne 0 = .ok (.iload_n 0, 1) := by decide +kernel
theorem dX5_isOne_1 : decode cX5_isOne 1 = .ok (.iconst 0, 1) := by decide +kernel
theorem dX5_isOne_2 : decode cX5_isOne 2 = .ok (.iconst 5, 1) := by decide +kernel
theorem dX5_isOne_3 : decode cX5_isOne 3 = .ok (.invokestatic 61, 3) := by decide +kernel
theorem dX5_isOne_6 : decode cX5_isOne 6 = .ok (.ireturn, 1) := by decide +kernel
theorem dX5_bit_0 : decode cX5_bit 0 = .ok (.iconst 1, 1) := by decide +kernel
theorem dX5_bit_1 : decode cX5_bit 1 = .ok (.iload_n 0, 1) := by decide +kernel
theorem dX5_bit_2 : decode cX5_bit 2 = .ok (.ishl, 1) := by decide +kernel
theorem dX5_bit_3 : decode cX5_bit 3 = .ok (.ireturn, 1) := by decide +kernel
theorem dX5_holds_0 : decode cX5_holds 0 = .ok (.iload_n 0, 1) := by decide +kernel
theorem dX5_holds_1 : decode cX5_holds 1 = .ok (.iload_n 1, 1) := by decide +kernel
theorem dX5_holds_2 : decode cX5_holds 2 = .ok (.ishr, 1) := by decide +kernel
theorem dX5_holds_3 : decode cX5_holds 3 = .ok (.iconst 1, 1) := by decide +kernel
theorem dX5_holds_4 : decode cX5_holds 4 = .ok (.iand, 1) := by decide +kernel
theorem dX5_holds_5 : decode cX5_holds 5 = .ok (.ifCond .eq 7, 3) := by decide +kernel
theorem dX5_holds_8 : decode cX5_holds 8 = .ok (.iconst 1, 1) := by decide +kernel
theorem dX5_holds_9 : decode cX5_holds 9 = .ok (.goto 4, 3) := by decide +kernel
theorem dX5_holds_12 : decode cX5_holds 12 = .ok (.iconst 0, 1) := by decide +kernel
theorem dX5_holds_13 : decode cX5_holds 13 = .ok (.ireturn, 1) := by decide +kernel
theorem dX5_imageOf_0 : decode cX5_imageOf 0 = .ok (.iload_n 1, 1) := by decide +kernel
theorem dX5_imageOf_1 : decode cX5_imageOf 1 = .ok (.ifCond .ne 10, 3) := by decide +kernel
theorem dX5_imageOf_4 : decode cX5_imageOf 4 = .ok (.aload_n 0, 1) := by decide +kernel
theorem dX5_imageOf_5 : decode cX5_imageOf 5 = .ok (.getfield 16, 3) := by decide +kernel
theorem dX5_imageOf_8 : decode cX5_imageOf 8 = .ok (.goto 7, 3) := by decide +kernel
theorem dX5_imageOf_11 : decode cX5_imageOf 11 = .ok (.aload_n 0, 1) := by decide +kernel
theorem dX5_imageOf_12 : decode cX5_imageOf 12 = .ok (.getfield 19, 3) := by decide +kernel
theorem dX5_imageOf_15 : decode cX5_imageOf 15 = .ok (.areturn, 1) := by decide +kernel
set_option maxRecDepth 20000 in
theorem ggX5_nightCanBe_X0_firstFault : GoodIn wsX5_nightCanBe wsX0_firstFault := goodIn_r _ [8, 9, 10, 11, 12, 13, 7, 14, 15, 16, 17, 18, 19, 20, 21, 22, 23, 24, 25, 26, 27, 28, 29, 30, 31, 32, 33, 34, 35, 36, 37, 38, 39, 40, 41, 164, 165, 166, 167, 168, 169] (by decide +kernel) (by decide +kernel)
set_option maxRecDepth 20000 in
theorem gX5_nightCanBe_X0_firstFault : GoodIn wsX5_nightCanBe (wsV RX5 89 RX0 yX0_firstFault wsX0_firstFault) := goodIn_app (goodIn_of _ (by decide +kernel)) ggX5_nightCanBe_X0_firstFault
set_option maxRecDepth 20000 in
theorem ggX5_nightCanBe_X1_night : GoodIn wsX5_nightCanBe wsX1_night := goodIn_r _ [46, 47, 48, 49, 50, 51, 52, 53, 54, 45, 55, 56, 57, 58, 59, 60, 61, 62, 63, 64, 65, 66, 67, 68, 69, 70, 71, 72, 73, 74, 75, 76, 77, 78, 79, 80, 81, 82, 83, 84, 85, 12, 13, 7, 14, 15, 16, 17, 10, 18, 19, 20, 21, 9, 22, 23, 24, 25, 26, 27, 28, 29, 30, 31, 32, 33, 34, 35, 36, 37, 38, 39, 40, 41, 86, 87, 88, 89, 90, 91, 92, 93, 94, 95, 96, 97, 98, 99, 100, 101, 102, 103, 104, 105, 106, 107, 108, 109, 110, 111, 112, 113, 114, 115, 116, 117, 118, 119, 120, 121, 122, 123, 124, 125, 126, 127, 128, 129, 130, 131, 132, 133, 134, 135, 136, 137, 138, 139, 140, 141, 142, 143, 144, 145, 146, 147, 148, 149, 150, 151, 152, 153, 154, 155, 164, 165, 166, 167, 168, 169, 170, 171, 172, 173, 174, 175, 176, 177, 178, 179, 180, 181, 182, 183, 184, 185, 186, 187, 188, 189] (by decide +kernel) (by decide +kernel)
set_option maxRecDepth 20000 in
theorem gX5_nightCanBe_X1_night : GoodIn wsX5_nightCanBe (wsV RX5 93 RX1 yX1_night wsX1_night) := goodIn_app (goodIn_of _ (by decide +kernel)) ggX5_nightCanBe_X1_night
theorem dX5_nightCanBe_0 : decode cX5_nightCanBe 0 = .ok (.aload_n 0, 1) := by decide +kernel
theorem dX5_nightCanBe_1 : decode cX5_nightCanBe 1 = .ok (.getfield 29, 3) := by decide +kernel
theorem dX5_nightCanBe_4 : decode cX5_nightCanBe 4 = .ok (.invokevirtual 89, 3) := by decide +kernel
theorem dX5_nightCanBe_7 : decode cX5_nightCanBe 7 = .ok (.bipush (-6), 2) := by decide +kernel
theorem dX5_nightCanBe_9 : decode cX5_nightCanBe 9 = .ok (.if_icmp .ne 25, 3) := by decide +kernel
theorem dX5_nightCanBe_12 : decode cX5_nightCanBe 12 = .ok (.aload_n 0, 1) := by decide +kernel
theorem dX5_nightCanBe_13 : decode cX5_nightCanBe 13 = .ok (.getfield 36, 3) := by decide +kernel
theorem dX5_nightCanBe_16 : decode cX5_nightCanBe 16 = .ok (.aload_n 0, 1) := by decide +kernel
theorem dX5_nightCanBe_17 : decode cX5_nightCanBe 17 = .ok (.getfield 12, 3) := by decide +kernel
theorem dX5_nightCanBe_20 : decode cX5_nightCanBe 20 = .ok (.aload_n 0, 1) := by decide +kernel
theorem dX5_nightCanBe_21 : decode cX5_nightCanBe 21 = .ok (.getfield 29, 3) := by decide +kernel
theorem dX5_nightCanBe_24 : decode cX5_nightCanBe 24 = .ok (.invokevirtual 93, 3) := by decide +kernel
theorem dX5_nightCanBe_27 : decode cX5_nightCanBe 27 = .ok (.ifCond .eq 7, 3) := by decide +kernel
theorem dX5_nightCanBe_30 : decode cX5_nightCanBe 30 = .ok (.iconst 1, 1) := by decide +kernel
theorem dX5_nightCanBe_31 : decode cX5_nightCanBe 31 = .ok (.goto 4, 3) := by decide +kernel
theorem dX5_nightCanBe_34 : decode cX5_nightCanBe 34 = .ok (.iconst 0, 1) := by decide +kernel
theorem dX5_nightCanBe_35 : decode cX5_nightCanBe 35 = .ok (.ireturn, 1) := by decide +kernel
set_option maxRecDepth 20000 in
theorem ggX5_toldOfCandle_X3_isLit : GoodIn wsX5_toldOfCandle wsX3_isLit := goodIn_r _ [12, 13, 32, 33, 34, 35, 36, 37, 38, 39, 40, 41, 42, 43, 44, 45] (by decide +kernel) (by decide +kernel)
set_option maxRecDepth 20000 in
theorem gX5_toldOfCandle_X3_isLit : GoodIn wsX5_toldOfCandle (wsV RX5 114 RX3 yX3_isLit wsX3_isLit) := goodIn_app (goodIn_of _ (by decide +kernel)) ggX5_toldOfCandle_X3_isLit
set_option maxRecDepth 20000 in
theorem ggX5_toldOfCandle_X3_burnOf : GoodIn wsX5_toldOfCandle wsX3_burnOf := goodIn_r _ [17, 18, 19, 20, 21, 11, 22, 23, 32, 33, 34, 35, 36, 37, 38, 39, 40, 41, 42, 43, 44, 45] (by decide +kernel) (by decide +kernel)
set_option maxRecDepth 20000 in
theorem gX5_toldOfCandle_X3_burnOf : GoodIn wsX5_toldOfCandle (wsV RX5 245 RX3 yX3_burnOf wsX3_burnOf) := goodIn_app (goodIn_of _ (by decide +kernel)) ggX5_toldOfCandle_X3_burnOf
theorem dX5_toldOfCandle_0 : decode cX5_toldOfCandle 0 = .ok (.iload_n 2, 1) := by decide +kernel
theorem dX5_toldOfCandle_1 : decode cX5_toldOfCandle 1 = .ok (.tableswitch 133 0 7 #[47, 57, 74, 84, 94, 104, 114, 124], 47) := by decide +kernel
theorem dX5_toldOfCandle_48 : decode cX5_toldOfCandle 48 = .ok (.aload_n 0, 1) := by decide +kernel
theorem dX5_toldOfCandle_49 : decode cX5_toldOfCandle 49 = .ok (.getfield 12, 3) := by decide +kernel
theorem dX5_toldOfCandle_52 : decode cX5_toldOfCandle 52 = .ok (.getfield 65, 3) := by decide +kernel
theorem dX5_toldOfCandle_55 : decode cX5_toldOfCandle 55 = .ok (.iload_n 1, 1) := by decide +kernel
theorem dX5_toldOfCandle_56 : decode cX5_toldOfCandle 56 = .ok (.iaload, 1) := by decide +kernel
theorem dX5_toldOfCandle_57 : decode cX5_toldOfCandle 57 = .ok (.ireturn, 1) := by decide +kernel
theorem dX5_toldOfCandle_58 : decode cX5_toldOfCandle 58 = .ok (.aload_n 0, 1) := by decide +kernel
theorem dX5_toldOfCandle_59 : decode cX5_toldOfCandle 59 = .ok (.getfield 12, 3) := by decide +kernel
theorem dX5_toldOfCandle_62 : decode cX5_toldOfCandle 62 = .ok (.iload_n 1, 1) := by decide +kernel
theorem dX5_toldOfCandle_63 : decode cX5_toldOfCandle 63 = .ok (.invokevirtual 114, 3) := by decide +kernel
theorem dX5_toldOfCandle_66 : decode cX5_toldOfCandle 66 = .ok (.ifCond .eq 7, 3) := by decide +kernel
theorem dX5_toldOfCandle_69 : decode cX5_toldOfCandle 69 = .ok (.iconst 1, 1) := by decide +kernel
theorem dX5_toldOfCandle_70 : decode cX5_toldOfCandle 70 = .ok (.goto 4, 3) := by decide +kernel
theorem dX5_toldOfCandle_73 : decode cX5_toldOfCandle 73 = .ok (.iconst 0, 1) := by decide +kernel
theorem dX5_toldOfCandle_74 : decode cX5_toldOfCandle 74 = .ok (.ireturn, 1) := by decide +kernel
theorem dX5_toldOfCandle_75 : decode cX5_toldOfCandle 75 = .ok (.aload_n 0, 1) := by decide +kernel
theorem dX5_toldOfCandle_76 : decode cX5_toldOfCandle 76 = .ok (.getfield 12, 3) := by decide +kernel
theorem dX5_toldOfCandle_79 : decode cX5_toldOfCandle 79 = .ok (.getfield 120, 3) := by decide +kernel
theorem dX5_toldOfCandle_82 : decode cX5_toldOfCandle 82 = .ok (.iload_n 1, 1) := by decide +kernel
theorem dX5_toldOfCandle_83 : decode cX5_toldOfCandle 83 = .ok (.iaload, 1) := by decide +kernel
theorem dX5_toldOfCandle_84 : decode cX5_toldOfCandle 84 = .ok (.ireturn, 1) := by decide +kernel
theorem dX5_toldOfCandle_85 : decode cX5_toldOfCandle 85 = .ok (.aload_n 0, 1) := by decide +kernel
theorem dX5_toldOfCandle_86 : decode cX5_toldOfCandle 86 = .ok (.getfield 12, 3) := by decide +kernel
theorem dX5_toldOfCandle_89 : decode cX5_toldOfCandle 89 = .ok (.getfield 73, 3) := by decide +kernel
theorem dX5_toldOfCandle_92 : decode cX5_toldOfCandle 92 = .ok (.iload_n 1, 1) := by decide +kernel
theorem dX5_toldOfCandle_93 : decode cX5_toldOfCandle 93 = .ok (.iaload, 1) := by decide +kernel
theorem dX5_toldOfCandle_94 : decode cX5_toldOfCandle 94 = .ok (.ireturn, 1) := by decide +kernel
theorem dX5_toldOfCandle_95 : decode cX5_toldOfCandle 95 = .ok (.aload_n 0, 1) := by decide +kernel
theorem dX5_toldOfCandle_96 : decode cX5_toldOfCandle 96 = .ok (.getfield 12, 3) := by decide +kernel
theorem dX5_toldOfCandle_99 : decode cX5_toldOfCandle 99 = .ok (.getfield 151, 3) := by decide +kernel
theorem dX5_toldOfCandle_102 : decode cX5_toldOfCandle 102 = .ok (.iload_n 1, 1) := by decide +kernel
theorem dX5_toldOfCandle_103 : decode cX5_toldOfCandle 103 = .ok (.iaload, 1) := by decide +kernel
theorem dX5_toldOfCandle_104 : decode cX5_toldOfCandle 104 = .ok (.ireturn, 1) := by decide +kernel
theorem dX5_toldOfCandle_105 : decode cX5_toldOfCandle 105 = .ok (.aload_n 0, 1) := by decide +kernel
theorem dX5_toldOfCandle_106 : decode cX5_toldOfCandle 106 = .ok (.getfield 12, 3) := by decide +kernel
theorem dX5_toldOfCandle_109 : decode cX5_toldOfCandle 109 = .ok (.getfield 155, 3) := by decide +kernel
theorem dX5_toldOfCandle_112 : decode cX5_toldOfCandle 112 = .ok (.iload_n 1, 1) := by decide +kernel
theorem dX5_toldOfCandle_113 : decode cX5_toldOfCandle 113 = .ok (.iaload, 1) := by decide +kernel
theorem dX5_toldOfCandle_114 : decode cX5_toldOfCandle 114 = .ok (.ireturn, 1) := by decide +kernel
theorem dX5_toldOfCandle_115 : decode cX5_toldOfCandle 115 = .ok (.aload_n 0, 1) := by decide +kernel
theorem dX5_toldOfCandle_116 : decode cX5_toldOfCandle 116 = .ok (.getfield 12, 3) := by decide +kernel
theorem dX5_toldOfCandle_119 : decode cX5_toldOfCandle 119 = .ok (.getfield 117, 3) := by decide +kernel
theorem dX5_toldOfCandle_122 : decode cX5_toldOfCandle 122 = .ok (.iload_n 1, 1) := by decide +kernel
theorem dX5_toldOfCandle_123 : decode cX5_toldOfCandle 123 = .ok (.iaload, 1) := by decide +kernel
theorem dX5_toldOfCandle_124 : decode cX5_toldOfCandle 124 = .ok (.ireturn, 1) := by decide +kernel
theorem dX5_toldOfCandle_125 : decode cX5_toldOfCandle 125 = .ok (.aload_n 0, 1) := by decide +kernel
theorem dX5_toldOfCandle_126 : decode cX5_toldOfCandle 126 = .ok (.getfield 12, 3) := by decide +kernel
theorem dX5_toldOfCandle_129 : decode cX5_toldOfCandle 129 = .ok (.iload_n 1, 1) := by decide +kernel
theorem dX5_toldOfCandle_130 : decode cX5_toldOfCandle 130 = .ok (.invokevirtual 245, 3) := by decide +kernel
theorem dX5_toldOfCandle_133 : decode cX5_toldOfCandle 133 = .ok (.ireturn, 1) := by decide +kernel
theorem dX5_toldOfCandle_134 : decode cX5_toldOfCandle 134 = .ok (.bipush (-2), 2) := by decide +kernel
theorem dX5_toldOfCandle_136 : decode cX5_toldOfCandle 136 = .ok (.ireturn, 1) := by decide +kernel
set_option maxRecDepth 20000 in
theorem ggX5_readableSet_X3_isLit : GoodIn wsX5_readableSet wsX3_isLit := goodIn_r _ [6, 7, 42, 43, 44, 45, 46, 47, 48, 49, 50, 51, 52, 53, 54, 55] (by decide +kernel) (by decide +kernel)
set_option maxRecDepth 20000 in
theorem gX5_readableSet_X3_isLit : GoodIn wsX5_readableSet (wsV RX5 114 RX3 yX3_isLit wsX3_isLit) := goodIn_app (goodIn_of _ (by decide +kernel)) ggX5_readableSet_X3_isLit
set_option maxRecDepth 20000 in
theorem ggX5_readableSet_X5_bit : GoodIn wsX5_readableSet wsX5_bit := goodIn_r _ [11] (by decide +kernel) (by decide +kernel)
set_option maxRecDepth 20000 in
theorem gX5_readableSet_X5_bit : GoodIn wsX5_readableSet (va_wsS RX5 145 yX5_bit wsX5_bit) := goodIn_app (goodIn_of _ (by decide +kernel)) ggX5_readableSet_X5_bit
set_option maxRecDepth 20000 in
theorem ggX5_readableSet_X5_canBeRead : GoodIn wsX5_readableSet wsX5_canBeRead := goodIn_r _ [15, 1, 16, 17, 10, 18, 19, 20, 21, 5, 22, 23, 24, 25, 26, 27, 28, 29, 30, 31, 32, 33, 34, 35, 36, 37, 38, 39, 40, 41, 42, 43, 44, 45, 46, 47, 48, 49, 50, 51, 52, 53, 54, 55] (by decide +kernel) (by decide +kernel)
set_option maxRecDepth 20000 in
theorem gX5_readableSet_X5_canBeRead : GoodIn wsX5_readableSet (wsV RX5 248 RX5 yX5_canBeRead wsX5_canBeRead) := goodIn_app (goodIn_of _ (by decide +kernel)) ggX5_readableSet_X5_canBeRead
theorem dX5_readableSet_0 : decode cX5_readableSet 0 = .ok (.iconst 0, 1) := by decide +kernel
theorem dX5_readableSet_1 : decode cX5_readableSet 1 = .ok (.istore_n 2, 1) := by decide +kernel
theorem dX5_readableSet_2 : decode cX5_readableSet 2 = .ok (.iconst 0, 1) := by decide +kernel
theorem dX5_readableSet_3 : decode cX5_readableSet 3 = .ok (.istore_n 3, 1) := by decide +kernel
theorem dX5_readableSet_4 : decode cX5_readableSet 4 = .ok (.iload_n 3, 1) := by decide +kernel
theorem dX5_readableSet_5 : decode cX5_readableSet 5 = .ok (.bipush 12, 2) := by decide +kernel
theorem dX5_readableSet_7 : decode cX5_readableSet 7 = .ok (.if_icmp .ge 41, 3) := by decide +kernel
theorem dX5_readableSet_10 : decode cX5_readableSet 10 = .ok (.aload_n 0, 1) := by decide +kernel
theorem dX5_readableSet_11 : decode cX5_readableSet 11 = .ok (.getfield 12, 3) := by decide +kernel
theorem dX5_readableSet_14 : decode cX5_readableSet 14 = .ok (.iload_n 3, 1) := by decide +kernel
theorem dX5_readableSet_15 : decode cX5_readableSet 15 = .ok (.invokevirtual 114, 3) := by decide +kernel
theorem dX5_readableSet_18 : decode cX5_readableSet 18 = .ok (.ifCond .eq 24, 3) := by decide +kernel
theorem dX5_readableSet_21 : decode cX5_readableSet 21 = .ok (.aload_n 0, 1) := by decide +kernel
theorem dX5_readableSet_22 : decode cX5_readableSet 22 = .ok (.iload_n 2, 1) := by decide +kernel
theorem dX5_readableSet_23 : decode cX5_readableSet 23 = .ok (.iload_n 3, 1) := by decide +kernel
theorem dX5_readableSet_24 : decode cX5_readableSet 24 = .ok (.invokestatic 145, 3) := by decide +kernel
theorem dX5_readableSet_27 : decode cX5_readableSet 27 = .ok (.ior, 1) := by decide +kernel
theorem dX5_readableSet_28 : decode cX5_readableSet 28 = .ok (.iload_n 1, 1) := by decide +kernel
theorem dX5_readableSet_29 : decode cX5_readableSet 29 = .ok (.invokevirtual 248, 3) := by decide +kernel
theorem dX5_readableSet_32 : decode cX5_readableSet 32 = .ok (.ifCond .eq 10, 3) := by decide +kernel
theorem dX5_readableSet_35 : decode cX5_readableSet 35 = .ok (.iload_n 2, 1) := by decide +kernel
theorem dX5_readableSet_36 : decode cX5_readableSet 36 = .ok (.iload_n 3, 1) := by decide +kernel
theorem dX5_readableSet_37 : decode cX5_readableSet 37 = .ok (.invokestatic 145, 3) := by decide +kernel
theorem dX5_readableSet_40 : decode cX5_readableSet 40 = .ok (.ior, 1) := by decide +kernel
theorem dX5_readableSet_41 : decode cX5_readableSet 41 = .ok (.istore_n 2, 1) := by decide +kernel
theorem dX5_readableSet_42 : decode cX5_readableSet 42 = .ok (.iinc 3 1, 3) := by decide +kernel
theorem dX5_readableSet_45 : decode cX5_readableSet 45 = .ok (.goto (-41), 3) := by decide +kernel
theorem dX5_readableSet_48 : decode cX5_readableSet 48 = .ok (.iload_n 2, 1) := by decide +kernel
theorem dX5_readableSet_49 : decode cX5_readableSet 49 = .ok (.ireturn, 1) := by decide +kernel
set_option maxRecDepth 20000 in
theorem ggX5_canBeRead_X5_holds : GoodIn wsX5_canBeRead wsX5_holds := goodIn_r _ [5] (by decide +kernel) (by decide +kernel)
set_option maxRecDepth 20000 in
theorem gX5_canBeRead_X5_holds : GoodIn wsX5_canBeRead (va_wsS RX5 180 yX5_holds wsX5_holds) := goodIn_app (goodIn_of _ (by decide +kernel)) ggX5_canBeRead_X5_holds
set_option maxRecDepth 20000 in
theorem ggX5_canBeRead_X3_minutesLeft : GoodIn wsX5_canBeRead wsX3_minutesLeft := goodIn_r _ [10, 11, 12, 13, 14, 9, 15, 16, 17, 18, 19, 20, 21, 30, 31, 32, 33, 34, 35, 36, 37, 38, 39, 40, 41, 42, 43] (by decide +kernel) (by decide +kernel)
set_option maxRecDepth 20000 in
theorem gX5_canBeRead_X3_minutesLeft : GoodIn wsX5_canBeRead (wsV RX5 138 RX3 yX3_minutesLeft wsX3_minutesLeft) := goodIn_app (goodIn_of _ (by decide +kernel)) ggX5_canBeRead_X3_minutesLeft
theorem dX5_canBeRead_0 : decode cX5_canBeRead 0 = .ok (.iconst 0, 1) := by decide +kernel
theorem dX5_canBeRead_1 : decode cX5_canBeRead 1 = .ok (.istore_n 3, 1) := by decide +kernel
theorem dX5_canBeRead_2 : decode cX5_canBeRead 2 = .ok (.iload_n 3, 1) := by decide +kernel
theorem dX5_canBeRead_3 : decode cX5_canBeRead 3 = .ok (.bipush 12, 2) := by decide +kernel
theorem dX5_canBeRead_5 : decode cX5_canBeRead 5 = .ok (.if_icmp .ge 86, 3) := by decide +kernel
theorem dX5_canBeRead_8 : decode cX5_canBeRead 8 = .ok (.iload_n 1, 1) := by decide +kernel
theorem dX5_canBeRead_9 : decode cX5_canBeRead 9 = .ok (.iload_n 3, 1) := by decide +kernel
theorem dX5_canBeRead_10 : decode cX5_canBeRead 10 = .ok (.invokestatic 180, 3) := by decide +kernel
theorem dX5_canBeRead_13 : decode cX5_canBeRead 13 = .ok (.ifCond .ne 6, 3) := by decide +kernel
theorem dX5_canBeRead_16 : decode cX5_canBeRead 16 = .ok (.goto 69, 3) := by decide +kernel
theorem dX5_canBeRead_19 : decode cX5_canBeRead 19 = .ok (.aload_n 0, 1) := by decide +kernel
theorem dX5_canBeRead_20 : decode cX5_canBeRead 20 = .ok (.getfield 12, 3) := by decide +kernel
theorem dX5_canBeRead_23 : decode cX5_canBeRead 23 = .ok (.iload_n 3, 1) := by decide +kernel
theorem dX5_canBeRead_24 : decode cX5_canBeRead 24 = .ok (.invokevirtual 138, 3) := by decide +kernel
theorem dX5_canBeRead_27 : decode cX5_canBeRead 27 = .ok (.istore 4, 2) := by decide +kernel
theorem dX5_canBeRead_29 : decode cX5_canBeRead 29 = .ok (.iconst 0, 1) := by decide +kernel
theorem dX5_canBeRead_30 : decode cX5_canBeRead 30 = .ok (.istore 5, 2) := by decide +kernel
theorem dX5_canBeRead_32 : decode cX5_canBeRead 32 = .ok (.iconst 0, 1) := by decide +kernel
theorem dX5_canBeRead_33 : decode cX5_canBeRead 33 = .ok (.istore 6, 2) := by decide +kernel
theorem dX5_canBeRead_35 : decode cX5_canBeRead 35 = .ok (.iload 6, 2) := by decide +kernel
theorem dX5_canBeRead_37 : decode cX5_canBeRead 37 = .ok (.bipush 12, 2) := by decide +kernel
theorem dX5_canBeRead_39 : decode cX5_canBeRead 39 = .ok (.if_icmp .ge 35, 3) := by decide +kernel
theorem dX5_canBeRead_42 : decode cX5_canBeRead 42 = .ok (.iload_n 1, 1) := by decide +kernel
theorem dX5_canBeRead_43 : decode cX5_canBeRead 43 = .ok (.iload 6, 2) := by decide +kernel
theorem dX5_canBeRead_45 : decode cX5_canBeRead 45 = .ok (.invokestatic 180, 3) := by decide +kernel
theorem dX5_canBeRead_48 : decode cX5_canBeRead 48 = .ok (.ifCond .eq 20, 3) := by decide +kernel
theorem dX5_canBeRead_51 : decode cX5_canBeRead 51 = .ok (.aload_n 0, 1) := by decide +kernel
theorem dX5_canBeRead_52 : decode cX5_canBeRead 52 = .ok (.getfield 12, 3) := by decide +kernel
theorem dX5_canBeRead_55 : decode cX5_canBeRead 55 = .ok (.iload 6, 2) := by decide +kernel
theorem dX5_canBeRead_57 : decode cX5_canBeRead 57 = .ok (.invokevirtual 138, 3) := by decide +kernel
theorem dX5_canBeRead_60 : decode cX5_canBeRead 60 = .ok (.iload 4, 2) := by decide +kernel
theorem dX5_canBeRead_62 : decode cX5_canBeRead 62 = .ok (.if_icmp .gt 6, 3) := by decide +kernel
theorem dX5_canBeRead_65 : decode cX5_canBeRead 65 = .ok (.iinc 5 1, 3) := by decide +kernel
theorem dX5_canBeRead_68 : decode cX5_canBeRead 68 = .ok (.iinc 6 1, 3) := by decide +kernel
theorem dX5_canBeRead_71 : decode cX5_canBeRead 71 = .ok (.goto (-36), 3) := by decide +kernel
theorem dX5_canBeRead_74 : decode cX5_canBeRead 74 = .ok (.iload 5, 2) := by decide +kernel
theorem dX5_canBeRead_76 : decode cX5_canBeRead 76 = .ok (.iload_n 2, 1) := by decide +kernel
theorem dX5_canBeRead_77 : decode cX5_canBeRead 77 = .ok (.imul, 1) := by decide +kernel
theorem dX5_canBeRead_78 : decode cX5_canBeRead 78 = .ok (.iload 4, 2) := by decide +kernel
theorem dX5_canBeRead_80 : decode cX5_canBeRead 80 = .ok (.if_icmp .le 5, 3) := by decide +kernel
theorem dX5_canBeRead_83 : decode cX5_canBeRead 83 = .ok (.iconst 0, 1) := by decide +kernel
theorem dX5_canBeRead_84 : decode cX5_canBeRead 84 = .ok (.ireturn, 1) := by decide +kernel
theorem dX5_canBeRead_85 : decode cX5_canBeRead 85 = .ok (.iinc 3 1, 3) := by decide +kernel
theorem dX5_canBeRead_88 : decode cX5_canBeRead 88 = .ok (.goto (-86), 3) := by decide +kernel
theorem dX5_canBeRead_91 : decode cX5_canBeRead 91 = .ok (.iconst 1, 1) := by decide +kernel
theorem dX5_canBeRead_92 : decode cX5_canBeRead 92 = .ok (.ireturn, 1) := by decide +kernel
set_option maxRecDepth 20000 in
theorem ggX5_matchesFor_X5_holds : GoodIn wsX5_matchesFor wsX5_holds := goodIn_r _ [6] (by decide +kernel) (by decide +kernel)
set_option maxRecDepth 20000 in
theorem gX5_matchesFor_X5_holds : GoodIn wsX5_matchesFor (va_wsS RX5 180 yX5_holds wsX5_holds) := goodIn_app (goodIn_of _ (by decide +kernel)) ggX5_matchesFor_X5_holds
set_option maxRecDepth 20000 in
theorem ggX5_matchesFor_X3_isLit : GoodIn wsX5_matchesFor wsX3_isLit := goodIn_r _ [11, 12, 21, 22, 23, 24, 25, 26, 27, 28, 29, 30, 31, 32, 33, 34] (by decide +kernel) (by decide +kernel)
set_option maxRecDepth 20000 in
theorem gX5_matchesFor_X3_isLit : GoodIn wsX5_matchesFor (wsV RX5 114 RX3 yX3_isLit wsX3_isLit) := goodIn_app (goodIn_of _ (by decide +kernel)) ggX5_matchesFor_X3_isLit
theorem dX5_matchesFor_0 : decode cX5_matchesFor 0 = .ok (.iconst 0, 1) := by decide +kernel
theorem dX5_matchesFor_1 : decode cX5_matchesFor 1 = .ok (.istore_n 2, 1) := by decide +kernel
theorem dX5_matchesFor_2 : decode cX5_matchesFor 2 = .ok (.iconst 0, 1) := by decide +kernel
theorem dX5_matchesFor_3 : decode cX5_matchesFor 3 = .ok (.istore_n 3, 1) := by decide +kernel
theorem dX5_matchesFor_4 : decode cX5_matchesFor 4 = .ok (.iconst 0, 1) := by decide +kernel
theorem dX5_matchesFor_5 : decode cX5_matchesFor 5 = .ok (.istore 4, 2) := by decide +kernel
theorem dX5_matchesFor_7 : decode cX5_matchesFor 7 = .ok (.iconst 0, 1) := by decide +kernel
theorem dX5_matchesFor_8 : decode cX5_matchesFor 8 = .ok (.istore 5, 2) := by decide +kernel
theorem dX5_matchesFor_10 : decode cX5_matchesFor 10 = .ok (.iload 5, 2) := by decide +kernel
theorem dX5_matchesFor_12 : decode cX5_matchesFor 12 = .ok (.bipush 12, 2) := by decide +kernel
theorem dX5_matchesFor_14 : decode cX5_matchesFor 14 = .ok (.if_icmp .ge 99, 3) := by decide +kernel
theorem dX5_matchesFor_17 : decode cX5_matchesFor 17 = .ok (.aload_n 0, 1) := by decide +kernel
theorem dX5_matchesFor_18 : decode cX5_matchesFor 18 = .ok (.getfield 12, 3) := by decide +kernel
theorem dX5_matchesFor_21 : decode cX5_matchesFor 21 = .ok (.getfield 65, 3) := by decide +kernel
theorem dX5_matchesFor_24 : decode cX5_matchesFor 24 = .ok (.iload 5, 2) := by decide +kernel
theorem dX5_matchesFor_26 : decode cX5_matchesFor 26 = .ok (.iaload, 1) := by decide +kernel
theorem dX5_matchesFor_27 : decode cX5_matchesFor 27 = .ok (.ifCond .le 26, 3) := by decide +kernel
theorem dX5_matchesFor_30 : decode cX5_matchesFor 30 = .ok (.iload_n 3, 1) := by decide +kernel
theorem dX5_matchesFor_31 : decode cX5_matchesFor 31 = .ok (.iload_n 1, 1) := by decide +kernel
theorem dX5_matchesFor_32 : decode cX5_matchesFor 32 = .ok (.iload 5, 2) := by decide +kernel
theorem dX5_matchesFor_34 : decode cX5_matchesFor 34 = .ok (.invokestatic 180, 3) := by decide +kernel
theorem dX5_matchesFor_37 : decode cX5_matchesFor 37 = .ok (.ior, 1) := by decide +kernel
theorem dX5_matchesFor_38 : decode cX5_matchesFor 38 = .ok (.istore_n 3, 1) := by decide +kernel
theorem dX5_matchesFor_39 : decode cX5_matchesFor 39 = .ok (.iload 4, 2) := by decide +kernel
theorem dX5_matchesFor_41 : decode cX5_matchesFor 41 = .ok (.aload_n 0, 1) := by decide +kernel
theorem dX5_matchesFor_42 : decode cX5_matchesFor 42 = .ok (.getfield 12, 3) := by decide +kernel
theorem dX5_matchesFor_45 : decode cX5_matchesFor 45 = .ok (.iload 5, 2) := by decide +kernel
theorem dX5_matchesFor_47 : decode cX5_matchesFor 47 = .ok (.invokevirtual 114, 3) := by decide +kernel
theorem dX5_matchesFor_50 : decode cX5_matchesFor 50 = .ok (.ior, 1) := by decide +kernel
theorem dX5_matchesFor_51 : decode cX5_matchesFor 51 = .ok (.istore 4, 2) := by decide +kernel
theorem dX5_matchesFor_53 : decode cX5_matchesFor 53 = .ok (.aload_n 0, 1) := by decide +kernel
theorem dX5_matchesFor_54 : decode cX5_matchesFor 54 = .ok (.getfield 12, 3) := by decide +kernel
theorem dX5_matchesFor_57 : decode cX5_matchesFor 57 = .ok (.getfield 65, 3) := by decide +kernel
theorem dX5_matchesFor_60 : decode cX5_matchesFor 60 = .ok (.iload 5, 2) := by decide +kernel
theorem dX5_matchesFor_62 : decode cX5_matchesFor 62 = .ok (.iaload, 1) := by decide +kernel
theorem dX5_matchesFor_63 : decode cX5_matchesFor 63 = .ok (.ifCond .eq 10, 3) := by decide +kernel
theorem dX5_matchesFor_66 : decode cX5_matchesFor 66 = .ok (.iload 5, 2) := by decide +kernel
theorem dX5_matchesFor_68 : decode cX5_matchesFor 68 = .ok (.bipush 11, 2) := by decide +kernel
theorem dX5_matchesFor_70 : decode cX5_matchesFor 70 = .ok (.if_icmp .ne 7, 3) := by decide +kernel
theorem dX5_matchesFor_73 : decode cX5_matchesFor 73 = .ok (.iconst 1, 1) := by decide +kernel
theorem dX5_matchesFor_74 : decode cX5_matchesFor 74 = .ok (.goto 4, 3) := by decide +kernel
theorem dX5_matchesFor_77 : decode cX5_matchesFor 77 = .ok (.iconst 0, 1) := by decide +kernel
theorem dX5_matchesFor_78 : decode cX5_matchesFor 78 = .ok (.istore 6, 2) := by decide +kernel
theorem dX5_matchesFor_80 : decode cX5_matchesFor 80 = .ok (.iload 6, 2) := by decide +kernel
theorem dX5_matchesFor_82 : decode cX5_matchesFor 82 = .ok (.ifCond .eq 25, 3) := by decide +kernel
theorem dX5_matchesFor_85 : decode cX5_matchesFor 85 = .ok (.iload_n 2, 1) := by decide +kernel
theorem dX5_matchesFor_86 : decode cX5_matchesFor 86 = .ok (.iload_n 3, 1) := by decide +kernel
theorem dX5_matchesFor_87 : decode cX5_matchesFor 87 = .ok (.ifCond .eq 12, 3) := by decide +kernel
theorem dX5_matchesFor_90 : decode cX5_matchesFor 90 = .ok (.iload 4, 2) := by decide +kernel
theorem dX5_matchesFor_92 : decode cX5_matchesFor 92 = .ok (.ifCond .ne 7, 3) := by decide +kernel
theorem dX5_matchesFor_95 : decode cX5_matchesFor 95 = .ok (.iconst 1, 1) := by decide +kernel
theorem dX5_matchesFor_96 : decode cX5_matchesFor 96 = .ok (.goto 4, 3) := by decide +kernel
theorem dX5_matchesFor_99 : decode cX5_matchesFor 99 = .ok (.iconst 0, 1) := by decide +kernel
theorem dX5_matchesFor_100 : decode cX5_matchesFor 100 = .ok (.iadd, 1) := by decide +kernel
theorem dX5_matchesFor_101 : decode cX5_matchesFor 101 = .ok (.istore_n 2, 1) := by decide +kernel
theorem dX5_matchesFor_102 : decode cX5_matchesFor 102 = .ok (.iconst 0, 1) := by decide +kernel
theorem dX5_matchesFor_103 : decode cX5_matchesFor 103 = .ok (.istore_n 3, 1) := by decide +kernel
theorem dX5_matchesFor_104 : decode cX5_matchesFor 104 = .ok (.iconst 0, 1) := by decide +kernel
theorem dX5_matchesFor_105 : decode cX5_matchesFor 105 = .ok (.istore 4, 2) := by decide +kernel
theorem dX5_matchesFor_107 : decode cX5_matchesFor 107 = .ok (.iinc 5 1, 3) := by decide +kernel
theorem dX5_matchesFor_110 : decode cX5_matchesFor 110 = .ok (.goto (-100), 3) := by decide +kernel
theorem dX5_matchesFor_113 : decode cX5_matchesFor 113 = .ok (.iload_n 2, 1) := by decide +kernel
theorem dX5_matchesFor_114 : decode cX5_matchesFor 114 = .ok (.ireturn, 1) := by decide +kernel
set_option maxRecDepth 20000 in
theorem ggX5_winningSnuff_X5_bit : GoodIn wsX5_winningSnuff wsX5_bit := goodIn_r _ [4] (by decide +kernel) (by decide +kernel)
set_option maxRecDepth 20000 in
theorem gX5_winningSnuff_X5_bit : GoodIn wsX5_winningSnuff (va_wsS RX5 145 yX5_bit wsX5_bit) := goodIn_app (goodIn_of _ (by decide +kernel)) ggX5_winningSnuff_X5_bit
set_option maxRecDepth 20000 in
theorem ggX5_winningSnuff_X5_holds : GoodIn wsX5_winningSnuff wsX5_holds := goodIn_r _ [7] (by decide +kernel) (by decide +kernel)
set_option maxRecDepth 20000 in
theorem gX5_winningSnuff_X5_holds : GoodIn wsX5_winningSnuff (va_wsS RX5 180 yX5_holds wsX5_holds) := goodIn_app (goodIn_of _ (by decide +kernel)) ggX5_winningSnuff_X5_holds
set_option maxRecDepth 20000 in
theorem ggX5_winningSnuff_X5_worthOf : GoodIn wsX5_winningSnuff wsX5_worthOf := goodIn_r _ [10, 11, 5, 6, 3, 7] (by decide +kernel) (by decide +kernel)
set_option maxRecDepth 20000 in
theorem gX5_winningSnuff_X5_worthOf : GoodIn wsX5_winningSnuff (va_wsS RX5 251 yX5_worthOf wsX5_worthOf) := goodIn_app (goodIn_of _ (by decide +kernel)) ggX5_winningSnuff_X5_worthOf
theorem dX5_winningSnuff_0 : decode cX5_winningSnuff 0 = .ok (.iconst 0, 1) := by decide +kernel
theorem dX5_winningSnuff_1 : decode cX5_winningSnuff 1 = .ok (.istore_n 1, 1) := by decide +kernel
theorem dX5_winningSnuff_2 : decode cX5_winningSnuff 2 = .ok (.iload_n 1, 1) := by decide +kernel
theorem dX5_winningSnuff_3 : decode cX5_winningSnuff 3 = .ok (.bipush 12, 2) := by decide +kernel
theorem dX5_winningSnuff_5 : decode cX5_winningSnuff 5 = .ok (.if_icmp .ge 49, 3) := by decide +kernel
theorem dX5_winningSnuff_8 : decode cX5_winningSnuff 8 = .ok (.iload_n 1, 1) := by decide +kernel
theorem dX5_winningSnuff_9 : decode cX5_winningSnuff 9 = .ok (.invokestatic 145, 3) := by decide +kernel
theorem dX5_winningSnuff_12 : decode cX5_winningSnuff 12 = .ok (.iload_n 1, 1) := by decide +kernel
theorem dX5_winningSnuff_13 : decode cX5_winningSnuff 13 = .ok (.iconst 1, 1) := by decide +kernel
theorem dX5_winningSnuff_14 : decode cX5_winningSnuff 14 = .ok (.iadd, 1) := by decide +kernel
theorem dX5_winningSnuff_15 : decode cX5_winningSnuff 15 = .ok (.invokestatic 145, 3) := by decide +kernel
theorem dX5_winningSnuff_18 : decode cX5_winningSnuff 18 = .ok (.ior, 1) := by decide +kernel
theorem dX5_winningSnuff_19 : decode cX5_winningSnuff 19 = .ok (.iload_n 1, 1) := by decide +kernel
theorem dX5_winningSnuff_20 : decode cX5_winningSnuff 20 = .ok (.invokestatic 145, 3) := by decide +kernel
theorem dX5_winningSnuff_23 : decode cX5_winningSnuff 23 = .ok (.iconst 1, 1) := by decide +kernel
theorem dX5_winningSnuff_24 : decode cX5_winningSnuff 24 = .ok (.ishr, 1) := by decide +kernel
theorem dX5_winningSnuff_25 : decode cX5_winningSnuff 25 = .ok (.ior, 1) := by decide +kernel
theorem dX5_winningSnuff_26 : decode cX5_winningSnuff 26 = .ok (.istore_n 2, 1) := by decide +kernel
theorem dX5_winningSnuff_27 : decode cX5_winningSnuff 27 = .ok (.iload_n 0, 1) := by decide +kernel
theorem dX5_winningSnuff_28 : decode cX5_winningSnuff 28 = .ok (.iload_n 1, 1) := by decide +kernel
theorem dX5_winningSnuff_29 : decode cX5_winningSnuff 29 = .ok (.invokestatic 180, 3) := by decide +kernel
theorem dX5_winningSnuff_32 : decode cX5_winningSnuff 32 = .ok (.ifCond .eq 16, 3) := by decide +kernel
theorem dX5_winningSnuff_35 : decode cX5_winningSnuff 35 = .ok (.iload_n 0, 1) := by decide +kernel
theorem dX5_winningSnuff_36 : decode cX5_winningSnuff 36 = .ok (.iload_n 2, 1) := by decide +kernel
theorem dX5_winningSnuff_37 : decode cX5_winningSnuff 37 = .ok (.iconst (-1), 1) := by decide +kernel
theorem dX5_winningSnuff_38 : decode cX5_winningSnuff 38 = .ok (.ixor, 1) := by decide +kernel
theorem dX5_winningSnuff_39 : decode cX5_winningSnuff 39 = .ok (.iand, 1) := by decide +kernel
theorem dX5_winningSnuff_40 : decode cX5_winningSnuff 40 = .ok (.invokestatic 251, 3) := by decide +kernel
theorem dX5_winningSnuff_43 : decode cX5_winningSnuff 43 = .ok (.ifCond .ne 5, 3) := by decide +kernel
theorem dX5_winningSnuff_46 : decode cX5_winningSnuff 46 = .ok (.iload_n 1, 1) := by decide +kernel
theorem dX5_winningSnuff_47 : decode cX5_winningSnuff 47 = .ok (.ireturn, 1) := by decide +kernel
theorem dX5_winningSnuff_48 : decode cX5_winningSnuff 48 = .ok (.iinc 1 1, 3) := by decide +kernel
theorem dX5_winningSnuff_51 : decode cX5_winningSnuff 51 = .ok (.goto (-49), 3) := by decide +kernel
theorem dX5_winningSnuff_54 : decode cX5_winningSnuff 54 = .ok (.bipush (-6), 2) := by decide +kernel
theorem dX5_winningSnuff_56 : decode cX5_winningSnuff 56 = .ok (.ireturn, 1) := by decide +kernel
set_option maxRecDepth 20000 in
theorem ggX5_worthOf_X5_holds : GoodIn wsX5_worthOf wsX5_holds := goodIn_r _ [5] (by decide +kernel) (by decide +kernel)
set_option maxRecDepth 20000 in
theorem gX5_worthOf_X5_holds : GoodIn wsX5_worthOf (va_wsS RX5 180 yX5_holds wsX5_holds) := goodIn_app (goodIn_of _ (by decide +kernel)) ggX5_worthOf_X5_holds
theorem dX5_worthOf_0 : decode cX5_worthOf 0 = .ok (.iconst 0, 1) := by decide +kernel
theorem dX5_worthOf_1 : decode cX5_worthOf 1 = .ok (.istore_n 1, 1) := by decide +kernel
theorem dX5_worthOf_2 : decode cX5_worthOf 2 = .ok (.iconst 0, 1) := by decide +kernel
theorem dX5_worthOf_3 : decode cX5_worthOf 3 = .ok (.istore_n 2, 1) := by decide +kernel
theorem dX5_worthOf_4 : decode cX5_worthOf 4 = .ok (.iconst 0, 1) := by decide +kernel
theorem dX5_worthOf_5 : decode cX5_worthOf 5 = .ok (.istore_n 3, 1) := by decide +kernel
theorem dX5_worthOf_6 : decode cX5_worthOf 6 = .ok (.iload_n 3, 1) := by decide +kernel
theorem dX5_worthOf_7 : decode cX5_worthOf 7 = .ok (.bipush 12, 2) := by decide +kernel
theorem dX5_worthOf_9 : decode cX5_worthOf 9 = .ok (.if_icmp .ge 33, 3) := by decide +kernel
theorem dX5_worthOf_12 : decode cX5_worthOf 12 = .ok (.iload_n 0, 1) := by decide +kernel
theorem dX5_worthOf_13 : decode cX5_worthOf 13 = .ok (.iload_n 3, 1) := by decide +kernel
theorem dX5_worthOf_14 : decode cX5_worthOf 14 = .ok (.invokestatic 180, 3) := by decide +kernel
theorem dX5_worthOf_17 : decode cX5_worthOf 17 = .ok (.ifCond .eq 9, 3) := by decide +kernel
theorem dX5_worthOf_20 : decode cX5_worthOf 20 = .ok (.iinc 2 1, 3) := by decide +kernel
theorem dX5_worthOf_23 : decode cX5_worthOf 23 = .ok (.goto 13, 3) := by decide +kernel
theorem dX5_worthOf_26 : decode cX5_worthOf 26 = .ok (.iload_n 1, 1) := by decide +kernel
theorem dX5_worthOf_27 : decode cX5_worthOf 27 = .ok (.getstatic 254, 3) := by decide +kernel
theorem dX5_worthOf_30 : decode cX5_worthOf 30 = .ok (.iload_n 2, 1) := by decide +kernel
theorem dX5_worthOf_31 : decode cX5_worthOf 31 = .ok (.iaload, 1) := by decide +kernel
theorem dX5_worthOf_32 : decode cX5_worthOf 32 = .ok (.ixor, 1) := by decide +kernel
theorem dX5_worthOf_33 : decode cX5_worthOf 33 = .ok (.istore_n 1, 1) := by decide +kernel
theorem dX5_worthOf_34 : decode cX5_worthOf 34 = .ok (.iconst 0, 1) := by decide +kernel
theorem dX5_worthOf_35 : decode cX5_worthOf 35 = .ok (.istore_n 2, 1) := by decide +kernel
theorem dX5_worthOf_36 : decode cX5_worthOf 36 = .ok (.iinc 3 1, 3) := by decide +kernel
theorem dX5_worthOf_39 : decode cX5_worthOf 39 = .ok (.goto (-33), 3) := by decide +kernel
theorem dX5_worthOf_42 : decode cX5_worthOf 42 = .ok (.iload_n 1, 1) := by decide +kernel
theorem dX5_worthOf_43 : decode cX5_worthOf 43 = .ok (.getstatic 254, 3) := by decide +kernel
theorem dX5_worthOf_46 : decode cX5_worthOf 46 = .ok (.iload_n 2, 1) := by decide +kernel
theorem dX5_worthOf_47 : decode cX5_worthOf 47 = .ok (.iaload, 1) := by decide +kernel
theorem dX5_worthOf_48 : decode cX5_worthOf 48 = .ok (.ixor, 1) := by decide +kernel
theorem dX5_worthOf_49 : decode cX5_worthOf 49 = .ok (.ireturn, 1) := by decide +kernel
theorem dX5_partOf_0 : decode cX5_partOf 0 = .ok (.lload_n 2, 1) := by decide +kernel
theorem dX5_partOf_1 : decode cX5_partOf 1 = .ok (.lstore 5, 2) := by decide +kernel
theorem dX5_partOf_3 : decode cX5_partOf 3 = .ok (.lload_n 0, 1) := by decide +kernel
theorem dX5_partOf_4 : decode cX5_partOf 4 = .ok (.lstore 7, 2) := by decide +kernel
theorem dX5_partOf_6 : decode cX5_partOf 6 = .ok (.iconst 0, 1) := by decide +kernel
theorem dX5_partOf_7 : decode cX5_partOf 7 = .ok (.istore 9, 2) := by decide +kernel
theorem dX5_partOf_9 : decode cX5_partOf 9 = .ok (.iload 9, 2) := by decide +kernel
theorem dX5_partOf_11 : decode cX5_partOf 11 = .ok (.bipush 100, 2) := by decide +kernel
theorem dX5_partOf_13 : decode cX5_partOf 13 = .ok (.if_icmp .ge 31, 3) := by decide +kernel
theorem dX5_partOf_16 : decode cX5_partOf 16 = .ok (.lload 7, 2) := by decide +kernel
theorem dX5_partOf_18 : decode cX5_partOf 18 = .ok (.lconst 0, 1) := by decide +kernel
theorem dX5_partOf_19 : decode cX5_partOf 19 = .ok (.lcmp, 1) := by decide +kernel
theorem dX5_partOf_20 : decode cX5_partOf 20 = .ok (.ifCond .le 24, 3) := by decide +kernel
theorem dX5_partOf_23 : decode cX5_partOf 23 = .ok (.lload 5, 2) := by decide +kernel
theorem dX5_partOf_25 : decode cX5_partOf 25 = .ok (.lload 7, 2) := by decide +kernel
theorem dX5_partOf_27 : decode cX5_partOf 27 = .ok (.lrem, 1) := by decide +kernel
theorem dX5_partOf_28 : decode cX5_partOf 28 = .ok (.lstore 10, 2) := by decide +kernel
theorem dX5_partOf_30 : decode cX5_partOf 30 = .ok (.lload 7, 2) := by decide +kernel
theorem dX5_partOf_32 : decode cX5_partOf 32 = .ok (.lstore 5, 2) := by decide +kernel
theorem dX5_partOf_34 : decode cX5_partOf 34 = .ok (.lload 10, 2) := by decide +kernel
theorem dX5_partOf_36 : decode cX5_partOf 36 = .ok (.lstore 7, 2) := by decide +kernel
theorem dX5_partOf_38 : decode cX5_partOf 38 = .ok (.iinc 9 1, 3) := by decide +kernel
theorem dX5_partOf_41 : decode cX5_partOf 41 = .ok (.goto (-32), 3) := by decide +kernel
theorem dX5_partOf_44 : decode cX5_partOf 44 = .ok (.lload 5, 2) := by decide +kernel
theorem dX5_partOf_46 : decode cX5_partOf 46 = .ok (.lconst 1, 1) := by decide +kernel
theorem dX5_partOf_47 : decode cX5_partOf 47 = .ok (.lcmp, 1) := by decide +kernel
theorem dX5_partOf_48 : decode cX5_partOf 48 = .ok (.ifCond .ge 14, 3) := by decide +kernel
theorem dX5_partOf_51 : decode cX5_partOf 51 = .ok (.iload 4, 2) := by decide +kernel
theorem dX5_partOf_53 : decode cX5_partOf 53 = .ok (.ifCond .ne 7, 3) := by decide +kernel
theorem dX5_partOf_56 : decode cX5_partOf 56 = .ok (.lload_n 0, 1) := by decide +kernel
theorem dX5_partOf_57 : decode cX5_partOf 57 = .ok (.goto 4, 3) := by decide +kernel
theorem dX5_partOf_60 : decode cX5_partOf 60 = .ok (.lload_n 2, 1) := by decide +kernel
theorem dX5_partOf_61 : decode cX5_partOf 61 = .ok (.lreturn, 1) := by decide +kernel
theorem dX5_partOf_62 : decode cX5_partOf 62 = .ok (.iload 4, 2) := by decide +kernel
theorem dX5_partOf_64 : decode cX5_partOf 64 = .ok (.ifCond .ne 10, 3) := by decide +kernel
theorem dX5_partOf_67 : decode cX5_partOf 67 = .ok (.lload_n 0, 1) := by decide +kernel
theorem dX5_partOf_68 : decode cX5_partOf 68 = .ok (.lload 5, 2) := by decide +kernel
theorem dX5_partOf_70 : decode cX5_partOf 70 = .ok (.ldiv, 1) := by decide +kernel
theorem dX5_partOf_71 : decode cX5_partOf 71 = .ok (.goto 7, 3) := by decide +kernel
theorem dX5_partOf_74 : decode cX5_partOf 74 = .ok (.lload_n 2, 1) := by decide +kernel
theorem dX5_partOf_75 : decode cX5_partOf 75 = .ok (.lload 5, 2) := by decide +kernel
theorem dX5_partOf_77 : decode cX5_partOf 77 = .ok (.ldiv, 1) := by decide +kernel
theorem dX5_partOf_78 : decode cX5_partOf 78 = .ok (.lreturn, 1) := by decide +kernel
theorem dX6_init_0 : decode cX6_init 0 = .ok (.aload_n 0, 1) := by decide +kernel
theorem dX6_init_1 : decode cX6_init 1 = .ok (.invokespecial 1, 3) := by decide +kernel
theorem dX6_init_4 : decode cX6_init 4 = .ok (.aload_n 0, 1) := by decide +kernel
theorem dX6_init_5 : decode cX6_init 5 = .ok (.bipush 69, 2) := by decide +kernel
theorem dX6_init_7 : decode cX6_init 7 = .ok (.newarray .int, 2) := by decide +kernel
theorem dX6_init_9 : decode cX6_init 9 = .ok (.putfield 7, 3) := by decide +kernel
theorem dX6_init_12 : decode cX6_init 12 = .ok (.aload_n 0, 1) := by decide +kernel
theorem dX6_init_13 : decode cX6_init 13 = .ok (.bipush 69, 2) := by decide +kernel
theorem dX6_init_15 : decode cX6_init 15 = .ok (.newarray .int, 2) := by decide +kernel
theorem dX6_init_17 : decode cX6_init 17 = .ok (.putfield 13, 3) := by decide +kernel
theorem dX6_init_20 : decode cX6_init 20 = .ok (.aload_n 0, 1) := by decide +kernel
theorem dX6_init_21 : decode cX6_init 21 = .ok (.bipush 12, 2) := by decide +kernel
theorem dX6_init_23 : decode cX6_init 23 = .ok (.newarray .int, 2) := by decide +kernel
