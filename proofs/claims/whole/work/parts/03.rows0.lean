theorem dX0_init_0 : decode cX0_init 0 = .ok (.aload_n 0, 1) := by decide +kernel
theorem dX0_init_1 : decode cX0_init 1 = .ok (.invokespecial 3, 3) := by decide +kernel
theorem dX0_init_4 : decode cX0_init 4 = .ok (.aload_n 0, 1) := by decide +kernel
theorem dX0_init_5 : decode cX0_init 5 = .ok (.bipush 60, 2) := by decide +kernel
theorem dX0_init_7 : decode cX0_init 7 = .ok (.newarray .int, 2) := by decide +kernel
theorem dX0_init_9 : decode cX0_init 9 = .ok (.putfield 9, 3) := by decide +kernel
theorem dX0_init_12 : decode cX0_init 12 = .ok (.return_, 1) := by decide +kernel
theorem dX0_write_0 : decode cX0_write 0 = .ok (.aload_n 0, 1) := by decide +kernel
theorem dX0_write_1 : decode cX0_write 1 = .ok (.getfield 15, 3) := by decide +kernel
theorem dX0_write_4 : decode cX0_write 4 = .ok (.bipush 60, 2) := by decide +kernel
theorem dX0_write_6 : decode cX0_write 6 = .ok (.if_icmp .lt 5, 3) := by decide +kernel
theorem dX0_write_9 : decode cX0_write 9 = .ok (.iconst 0, 1) := by decide +kernel
theorem dX0_write_10 : decode cX0_write 10 = .ok (.ireturn, 1) := by decide +kernel
theorem dX0_write_11 : decode cX0_write 11 = .ok (.aload_n 0, 1) := by decide +kernel
theorem dX0_write_12 : decode cX0_write 12 = .ok (.getfield 9, 3) := by decide +kernel
theorem dX0_write_15 : decode cX0_write 15 = .ok (.aload_n 0, 1) := by decide +kernel
theorem dX0_write_16 : decode cX0_write 16 = .ok (.getfield 15, 3) := by decide +kernel
theorem dX0_write_19 : decode cX0_write 19 = .ok (.iload_n 1, 1) := by decide +kernel
theorem dX0_write_20 : decode cX0_write 20 = .ok (.iastore, 1) := by decide +kernel
theorem dX0_write_21 : decode cX0_write 21 = .ok (.aload_n 0, 1) := by decide +kernel
theorem dX0_write_22 : decode cX0_write 22 = .ok (.dup, 1) := by decide +kernel
theorem dX0_write_23 : decode cX0_write 23 = .ok (.getfield 15, 3) := by decide +kernel
theorem dX0_write_26 : decode cX0_write 26 = .ok (.iconst 1, 1) := by decide +kernel
theorem dX0_write_27 : decode cX0_write 27 = .ok (.iadd, 1) := by decide +kernel
theorem dX0_write_28 : decode cX0_write 28 = .ok (.putfield 15, 3) := by decide +kernel
theorem dX0_write_31 : decode cX0_write 31 = .ok (.iconst 1, 1) := by decide +kernel
theorem dX0_write_32 : decode cX0_write 32 = .ok (.ireturn, 1) := by decide +kernel
set_option maxRecDepth 20000 in
theorem ggX0_firstFault_X0_readAct : GoodIn wsX0_firstFault wsX0_readAct := goodIn_r _ [7, 8, 9, 10, 2, 11, 12, 13, 6, 14, 1, 15, 16, 17, 18, 19, 20, 21, 22, 23, 24, 25, 26, 27, 28, 29, 30, 31, 32, 33, 34, 35, 36, 37, 38, 39, 40] (by decide +kernel) (by decide +kernel)
set_option maxRecDepth 20000 in
theorem gX0_firstFault_X0_readAct : GoodIn wsX0_firstFault (wsV RX0 19 RX0 yX0_readAct wsX0_readAct) := goodIn_app (goodIn_of _ (by decide +kernel)) ggX0_firstFault_X0_readAct
theorem dX0_firstFault_0 : decode cX0_firstFault 0 = .ok (.iconst 0, 1) := by decide +kernel
theorem dX0_firstFault_1 : decode cX0_firstFault 1 = .ok (.istore_n 1, 1) := by decide +kernel
theorem dX0_firstFault_2 : decode cX0_firstFault 2 = .ok (.iconst 0, 1) := by decide +kernel
theorem dX0_firstFault_3 : decode cX0_firstFault 3 = .ok (.istore_n 2, 1) := by decide +kernel
theorem dX0_firstFault_4 : decode cX0_firstFault 4 = .ok (.iload_n 2, 1) := by decide +kernel
theorem dX0_firstFault_5 : decode cX0_firstFault 5 = .ok (.bipush 60, 2) := by decide +kernel
theorem dX0_firstFault_7 : decode cX0_firstFault 7 = .ok (.if_icmp .ge 36, 3) := by decide +kernel
theorem dX0_firstFault_10 : decode cX0_firstFault 10 = .ok (.iload_n 1, 1) := by decide +kernel
theorem dX0_firstFault_11 : decode cX0_firstFault 11 = .ok (.aload_n 0, 1) := by decide +kernel
theorem dX0_firstFault_12 : decode cX0_firstFault 12 = .ok (.getfield 15, 3) := by decide +kernel
theorem dX0_firstFault_15 : decode cX0_firstFault 15 = .ok (.if_icmp .ge 28, 3) := by decide +kernel
theorem dX0_firstFault_18 : decode cX0_firstFault 18 = .ok (.aload_n 0, 1) := by decide +kernel
theorem dX0_firstFault_19 : decode cX0_firstFault 19 = .ok (.iload_n 1, 1) := by decide +kernel
theorem dX0_firstFault_20 : decode cX0_firstFault 20 = .ok (.invokevirtual 19, 3) := by decide +kernel
theorem dX0_firstFault_23 : decode cX0_firstFault 23 = .ok (.istore_n 3, 1) := by decide +kernel
theorem dX0_firstFault_24 : decode cX0_firstFault 24 = .ok (.iload_n 3, 1) := by decide +kernel
theorem dX0_firstFault_25 : decode cX0_firstFault 25 = .ok (.bipush (-6), 2) := by decide +kernel
theorem dX0_firstFault_27 : decode cX0_firstFault 27 = .ok (.if_icmp .eq 5, 3) := by decide +kernel
theorem dX0_firstFault_30 : decode cX0_firstFault 30 = .ok (.iload_n 3, 1) := by decide +kernel
theorem dX0_firstFault_31 : decode cX0_firstFault 31 = .ok (.ireturn, 1) := by decide +kernel
theorem dX0_firstFault_32 : decode cX0_firstFault 32 = .ok (.aload_n 0, 1) := by decide +kernel
theorem dX0_firstFault_33 : decode cX0_firstFault 33 = .ok (.getfield 23, 3) := by decide +kernel
theorem dX0_firstFault_36 : decode cX0_firstFault 36 = .ok (.istore_n 1, 1) := by decide +kernel
theorem dX0_firstFault_37 : decode cX0_firstFault 37 = .ok (.iinc 2 1, 3) := by decide +kernel
theorem dX0_firstFault_40 : decode cX0_firstFault 40 = .ok (.goto (-36), 3) := by decide +kernel
theorem dX0_firstFault_43 : decode cX0_firstFault 43 = .ok (.bipush (-6), 2) := by decide +kernel
theorem dX0_firstFault_45 : decode cX0_firstFault 45 = .ok (.ireturn, 1) := by decide +kernel
set_option maxRecDepth 20000 in
theorem ggX0_readAct_X0_signAt : GoodIn wsX0_readAct wsX0_signAt := goodIn_r _ [9, 10, 11, 31, 32, 33, 34, 35, 36] (by decide +kernel) (by decide +kernel)
set_option maxRecDepth 20000 in
theorem gX0_readAct_X0_signAt : GoodIn wsX0_readAct (wsV RX0 26 RX0 yX0_signAt wsX0_signAt) := goodIn_app (goodIn_of _ (by decide +kernel)) ggX0_readAct_X0_signAt
set_option maxRecDepth 20000 in
theorem ggX0_readAct_X0_readDraught : GoodIn wsX0_readAct wsX0_readDraught := goodIn_r _ [15, 2, 3, 4, 16, 17, 18, 8, 19, 5, 6, 7, 9, 10, 11, 20, 21, 22, 23, 24, 25, 26, 31, 32, 33, 34, 35, 36] (by decide +kernel) (by decide +kernel)
set_option maxRecDepth 20000 in
theorem gX0_readAct_X0_readDraught : GoodIn wsX0_readAct (wsV RX0 38 RX0 yX0_readDraught wsX0_readDraught) := goodIn_app (goodIn_of _ (by decide +kernel)) ggX0_readAct_X0_readDraught
set_option maxRecDepth 20000 in
theorem ggX0_readAct_X0_readOfCandle : GoodIn wsX0_readAct wsX0_readOfCandle := goodIn_r _ [30, 2, 1, 4, 3, 16, 17, 18, 8, 19, 5, 6, 7, 9, 10, 11, 20, 21, 22, 31, 32, 33, 34, 35, 36] (by decide +kernel) (by decide +kernel)
set_option maxRecDepth 20000 in
theorem gX0_readAct_X0_readOfCandle : GoodIn wsX0_readAct (wsV RX0 41 RX0 yX0_readOfCandle wsX0_readOfCandle) := goodIn_app (goodIn_of _ (by decide +kernel)) ggX0_readAct_X0_readOfCandle
theorem dX0_readAct_0 : decode cX0_readAct 0 = .ok (.aload_n 0, 1) := by decide +kernel
theorem dX0_readAct_1 : decode cX0_readAct 1 = .ok (.aload_n 0, 1) := by decide +kernel
theorem dX0_readAct_2 : decode cX0_readAct 2 = .ok (.iload_n 1, 1) := by decide +kernel
theorem dX0_readAct_3 : decode cX0_readAct 3 = .ok (.invokevirtual 26, 3) := by decide +kernel
theorem dX0_readAct_6 : decode cX0_readAct 6 = .ok (.putfield 29, 3) := by decide +kernel
theorem dX0_readAct_9 : decode cX0_readAct 9 = .ok (.aload_n 0, 1) := by decide +kernel
theorem dX0_readAct_10 : decode cX0_readAct 10 = .ok (.iconst 0, 1) := by decide +kernel
theorem dX0_readAct_11 : decode cX0_readAct 11 = .ok (.putfield 32, 3) := by decide +kernel
theorem dX0_readAct_14 : decode cX0_readAct 14 = .ok (.aload_n 0, 1) := by decide +kernel
theorem dX0_readAct_15 : decode cX0_readAct 15 = .ok (.iconst 0, 1) := by decide +kernel
theorem dX0_readAct_16 : decode cX0_readAct 16 = .ok (.putfield 35, 3) := by decide +kernel
theorem dX0_readAct_19 : decode cX0_readAct 19 = .ok (.aload_n 0, 1) := by decide +kernel
theorem dX0_readAct_20 : decode cX0_readAct 20 = .ok (.iload_n 1, 1) := by decide +kernel
theorem dX0_readAct_21 : decode cX0_readAct 21 = .ok (.iconst 1, 1) := by decide +kernel
theorem dX0_readAct_22 : decode cX0_readAct 22 = .ok (.iadd, 1) := by decide +kernel
theorem dX0_readAct_23 : decode cX0_readAct 23 = .ok (.putfield 23, 3) := by decide +kernel
theorem dX0_readAct_26 : decode cX0_readAct 26 = .ok (.aload_n 0, 1) := by decide +kernel
theorem dX0_readAct_27 : decode cX0_readAct 27 = .ok (.getfield 29, 3) := by decide +kernel
theorem dX0_readAct_30 : decode cX0_readAct 30 = .ok (.bipush 46, 2) := by decide +kernel
theorem dX0_readAct_32 : decode cX0_readAct 32 = .ok (.if_icmp .ne 6, 3) := by decide +kernel
theorem dX0_readAct_35 : decode cX0_readAct 35 = .ok (.bipush (-6), 2) := by decide +kernel
theorem dX0_readAct_37 : decode cX0_readAct 37 = .ok (.ireturn, 1) := by decide +kernel
theorem dX0_readAct_38 : decode cX0_readAct 38 = .ok (.aload_n 0, 1) := by decide +kernel
theorem dX0_readAct_39 : decode cX0_readAct 39 = .ok (.getfield 29, 3) := by decide +kernel
theorem dX0_readAct_42 : decode cX0_readAct 42 = .ok (.bipush 119, 2) := by decide +kernel
theorem dX0_readAct_44 : decode cX0_readAct 44 = .ok (.if_icmp .ne 9, 3) := by decide +kernel
theorem dX0_readAct_47 : decode cX0_readAct 47 = .ok (.aload_n 0, 1) := by decide +kernel
theorem dX0_readAct_48 : decode cX0_readAct 48 = .ok (.iload_n 1, 1) := by decide +kernel
theorem dX0_readAct_49 : decode cX0_readAct 49 = .ok (.invokevirtual 38, 3) := by decide +kernel
theorem dX0_readAct_52 : decode cX0_readAct 52 = .ok (.ireturn, 1) := by decide +kernel
theorem dX0_readAct_53 : decode cX0_readAct 53 = .ok (.aload_n 0, 1) := by decide +kernel
theorem dX0_readAct_54 : decode cX0_readAct 54 = .ok (.iload_n 1, 1) := by decide +kernel
theorem dX0_readAct_55 : decode cX0_readAct 55 = .ok (.invokevirtual 41, 3) := by decide +kernel
theorem dX0_readAct_58 : decode cX0_readAct 58 = .ok (.ireturn, 1) := by decide +kernel
set_option maxRecDepth 20000 in
theorem ggX0_readDraught_X0_letterAt : GoodIn wsX0_readDraught wsX0_letterAt := goodIn_r _ [8, 9, 10, 11, 7, 12, 13, 14, 15, 16, 17, 22, 23, 24, 25, 26, 27] (by decide +kernel) (by decide +kernel)
set_option maxRecDepth 20000 in
theorem gX0_readDraught_X0_letterAt : GoodIn wsX0_readDraught (wsV RX0 44 RX0 yX0_letterAt wsX0_letterAt) := goodIn_app (goodIn_of _ (by decide +kernel)) ggX0_readDraught_X0_letterAt
set_option maxRecDepth 20000 in
theorem ggX0_readDraught_X0_digitAt : GoodIn wsX0_readDraught wsX0_digitAt := goodIn_r _ [21, 9, 10, 11, 7, 12, 13, 14, 15, 16, 17, 22, 23, 24, 25, 26, 27] (by decide +kernel) (by decide +kernel)
set_option maxRecDepth 20000 in
theorem gX0_readDraught_X0_digitAt : GoodIn wsX0_readDraught (wsV RX0 47 RX0 yX0_digitAt wsX0_digitAt) := goodIn_app (goodIn_of _ (by decide +kernel)) ggX0_readDraught_X0_digitAt
theorem dX0_readDraught_0 : decode cX0_readDraught 0 = .ok (.aload_n 0, 1) := by decide +kernel
theorem dX0_readDraught_1 : decode cX0_readDraught 1 = .ok (.aload_n 0, 1) := by decide +kernel
theorem dX0_readDraught_2 : decode cX0_readDraught 2 = .ok (.iload_n 1, 1) := by decide +kernel
theorem dX0_readDraught_3 : decode cX0_readDraught 3 = .ok (.iconst 1, 1) := by decide +kernel
theorem dX0_readDraught_4 : decode cX0_readDraught 4 = .ok (.iadd, 1) := by decide +kernel
theorem dX0_readDraught_5 : decode cX0_readDraught 5 = .ok (.invokevirtual 44, 3) := by decide +kernel
theorem dX0_readDraught_8 : decode cX0_readDraught 8 = .ok (.putfield 32, 3) := by decide +kernel
theorem dX0_readDraught_11 : decode cX0_readDraught 11 = .ok (.aload_n 0, 1) := by decide +kernel
theorem dX0_readDraught_12 : decode cX0_readDraught 12 = .ok (.aload_n 0, 1) := by decide +kernel
theorem dX0_readDraught_13 : decode cX0_readDraught 13 = .ok (.iload_n 1, 1) := by decide +kernel
theorem dX0_readDraught_14 : decode cX0_readDraught 14 = .ok (.iconst 2, 1) := by decide +kernel
theorem dX0_readDraught_15 : decode cX0_readDraught 15 = .ok (.iadd, 1) := by decide +kernel
theorem dX0_readDraught_16 : decode cX0_readDraught 16 = .ok (.invokevirtual 47, 3) := by decide +kernel
theorem dX0_readDraught_19 : decode cX0_readDraught 19 = .ok (.putfield 35, 3) := by decide +kernel
theorem dX0_readDraught_22 : decode cX0_readDraught 22 = .ok (.aload_n 0, 1) := by decide +kernel
theorem dX0_readDraught_23 : decode cX0_readDraught 23 = .ok (.iload_n 1, 1) := by decide +kernel
theorem dX0_readDraught_24 : decode cX0_readDraught 24 = .ok (.iconst 3, 1) := by decide +kernel
theorem dX0_readDraught_25 : decode cX0_readDraught 25 = .ok (.iadd, 1) := by decide +kernel
theorem dX0_readDraught_26 : decode cX0_readDraught 26 = .ok (.putfield 23, 3) := by decide +kernel
theorem dX0_readDraught_29 : decode cX0_readDraught 29 = .ok (.aload_n 0, 1) := by decide +kernel
theorem dX0_readDraught_30 : decode cX0_readDraught 30 = .ok (.getfield 32, 3) := by decide +kernel
theorem dX0_readDraught_33 : decode cX0_readDraught 33 = .ok (.iconst (-1), 1) := by decide +kernel
theorem dX0_readDraught_34 : decode cX0_readDraught 34 = .ok (.if_icmp .ne 7, 3) := by decide +kernel
theorem dX0_readDraught_37 : decode cX0_readDraught 37 = .ok (.iload_n 1, 1) := by decide +kernel
theorem dX0_readDraught_38 : decode cX0_readDraught 38 = .ok (.iconst 1, 1) := by decide +kernel
theorem dX0_readDraught_39 : decode cX0_readDraught 39 = .ok (.iadd, 1) := by decide +kernel
theorem dX0_readDraught_40 : decode cX0_readDraught 40 = .ok (.ireturn, 1) := by decide +kernel
theorem dX0_readDraught_41 : decode cX0_readDraught 41 = .ok (.aload_n 0, 1) := by decide +kernel
theorem dX0_readDraught_42 : decode cX0_readDraught 42 = .ok (.getfield 35, 3) := by decide +kernel
theorem dX0_readDraught_45 : decode cX0_readDraught 45 = .ok (.iconst (-1), 1) := by decide +kernel
theorem dX0_readDraught_46 : decode cX0_readDraught 46 = .ok (.if_icmp .ne 9, 3) := by decide +kernel
theorem dX0_readDraught_49 : decode cX0_readDraught 49 = .ok (.iload_n 1, 1) := by decide +kernel
theorem dX0_readDraught_50 : decode cX0_readDraught 50 = .ok (.iconst 2, 1) := by decide +kernel
theorem dX0_readDraught_51 : decode cX0_readDraught 51 = .ok (.iadd, 1) := by decide +kernel
theorem dX0_readDraught_52 : decode cX0_readDraught 52 = .ok (.goto 5, 3) := by decide +kernel
theorem dX0_readDraught_55 : decode cX0_readDraught 55 = .ok (.bipush (-6), 2) := by decide +kernel
theorem dX0_readDraught_57 : decode cX0_readDraught 57 = .ok (.ireturn, 1) := by decide +kernel
set_option maxRecDepth 20000 in
theorem ggX0_readOfCandle_X0_letterAt : GoodIn wsX0_readOfCandle wsX0_letterAt := goodIn_r _ [9, 10, 11, 12, 8, 13, 14, 15, 16, 17, 18, 19, 20, 21, 22, 23, 24] (by decide +kernel) (by decide +kernel)
set_option maxRecDepth 20000 in
theorem gX0_readOfCandle_X0_letterAt : GoodIn wsX0_readOfCandle (wsV RX0 44 RX0 yX0_letterAt wsX0_letterAt) := goodIn_app (goodIn_of _ (by decide +kernel)) ggX0_readOfCandle_X0_letterAt
set_option maxRecDepth 20000 in
theorem ggX0_readOfCandle_X0_signAt : GoodIn wsX0_readOfCandle wsX0_signAt := goodIn_r _ [13, 14, 15, 19, 20, 21, 22, 23, 24] (by decide +kernel) (by decide +kernel)
set_option maxRecDepth 20000 in
theorem gX0_readOfCandle_X0_signAt : GoodIn wsX0_readOfCandle (wsV RX0 26 RX0 yX0_signAt wsX0_signAt) := goodIn_app (goodIn_of _ (by decide +kernel)) ggX0_readOfCandle_X0_signAt
theorem dX0_readOfCandle_0 : decode cX0_readOfCandle 0 = .ok (.aload_n 0, 1) := by decide +kernel
theorem dX0_readOfCandle_1 : decode cX0_readOfCandle 1 = .ok (.aload_n 0, 1) := by decide +kernel
theorem dX0_readOfCandle_2 : decode cX0_readOfCandle 2 = .ok (.iload_n 1, 1) := by decide +kernel
theorem dX0_readOfCandle_3 : decode cX0_readOfCandle 3 = .ok (.invokevirtual 44, 3) := by decide +kernel
theorem dX0_readOfCandle_6 : decode cX0_readOfCandle 6 = .ok (.putfield 32, 3) := by decide +kernel
theorem dX0_readOfCandle_9 : decode cX0_readOfCandle 9 = .ok (.aload_n 0, 1) := by decide +kernel
theorem dX0_readOfCandle_10 : decode cX0_readOfCandle 10 = .ok (.aload_n 0, 1) := by decide +kernel
theorem dX0_readOfCandle_11 : decode cX0_readOfCandle 11 = .ok (.iload_n 1, 1) := by decide +kernel
theorem dX0_readOfCandle_12 : decode cX0_readOfCandle 12 = .ok (.iconst 1, 1) := by decide +kernel
theorem dX0_readOfCandle_13 : decode cX0_readOfCandle 13 = .ok (.iadd, 1) := by decide +kernel
theorem dX0_readOfCandle_14 : decode cX0_readOfCandle 14 = .ok (.invokevirtual 26, 3) := by decide +kernel
theorem dX0_readOfCandle_17 : decode cX0_readOfCandle 17 = .ok (.putfield 29, 3) := by decide +kernel
theorem dX0_readOfCandle_20 : decode cX0_readOfCandle 20 = .ok (.aload_n 0, 1) := by decide +kernel
theorem dX0_readOfCandle_21 : decode cX0_readOfCandle 21 = .ok (.iload_n 1, 1) := by decide +kernel
theorem dX0_readOfCandle_22 : decode cX0_readOfCandle 22 = .ok (.iconst 2, 1) := by decide +kernel
theorem dX0_readOfCandle_23 : decode cX0_readOfCandle 23 = .ok (.iadd, 1) := by decide +kernel
theorem dX0_readOfCandle_24 : decode cX0_readOfCandle 24 = .ok (.putfield 23, 3) := by decide +kernel
theorem dX0_readOfCandle_27 : decode cX0_readOfCandle 27 = .ok (.aload_n 0, 1) := by decide +kernel
theorem dX0_readOfCandle_28 : decode cX0_readOfCandle 28 = .ok (.getfield 32, 3) := by decide +kernel
theorem dX0_readOfCandle_31 : decode cX0_readOfCandle 31 = .ok (.iconst (-1), 1) := by decide +kernel
theorem dX0_readOfCandle_32 : decode cX0_readOfCandle 32 = .ok (.if_icmp .ne 5, 3) := by decide +kernel
theorem dX0_readOfCandle_35 : decode cX0_readOfCandle 35 = .ok (.iload_n 1, 1) := by decide +kernel
theorem dX0_readOfCandle_36 : decode cX0_readOfCandle 36 = .ok (.ireturn, 1) := by decide +kernel
theorem dX0_readOfCandle_37 : decode cX0_readOfCandle 37 = .ok (.aload_n 0, 1) := by decide +kernel
theorem dX0_readOfCandle_38 : decode cX0_readOfCandle 38 = .ok (.getfield 29, 3) := by decide +kernel
theorem dX0_readOfCandle_41 : decode cX0_readOfCandle 41 = .ok (.bipush 62, 2) := by decide +kernel
theorem dX0_readOfCandle_43 : decode cX0_readOfCandle 43 = .ok (.if_icmp .ne 38, 3) := by decide +kernel
theorem dX0_readOfCandle_46 : decode cX0_readOfCandle 46 = .ok (.aload_n 0, 1) := by decide +kernel
theorem dX0_readOfCandle_47 : decode cX0_readOfCandle 47 = .ok (.aload_n 0, 1) := by decide +kernel
theorem dX0_readOfCandle_48 : decode cX0_readOfCandle 48 = .ok (.iload_n 1, 1) := by decide +kernel
theorem dX0_readOfCandle_49 : decode cX0_readOfCandle 49 = .ok (.iconst 2, 1) := by decide +kernel
theorem dX0_readOfCandle_50 : decode cX0_readOfCandle 50 = .ok (.iadd, 1) := by decide +kernel
theorem dX0_readOfCandle_51 : decode cX0_readOfCandle 51 = .ok (.invokevirtual 44, 3) := by decide +kernel
theorem dX0_readOfCandle_54 : decode cX0_readOfCandle 54 = .ok (.putfield 35, 3) := by decide +kernel
theorem dX0_readOfCandle_57 : decode cX0_readOfCandle 57 = .ok (.aload_n 0, 1) := by decide +kernel
theorem dX0_readOfCandle_58 : decode cX0_readOfCandle 58 = .ok (.iload_n 1, 1) := by decide +kernel
theorem dX0_readOfCandle_59 : decode cX0_readOfCandle 59 = .ok (.iconst 3, 1) := by decide +kernel
theorem dX0_readOfCandle_60 : decode cX0_readOfCandle 60 = .ok (.iadd, 1) := by decide +kernel
theorem dX0_readOfCandle_61 : decode cX0_readOfCandle 61 = .ok (.putfield 23, 3) := by decide +kernel
theorem dX0_readOfCandle_64 : decode cX0_readOfCandle 64 = .ok (.aload_n 0, 1) := by decide +kernel
theorem dX0_readOfCandle_65 : decode cX0_readOfCandle 65 = .ok (.getfield 35, 3) := by decide +kernel
theorem dX0_readOfCandle_68 : decode cX0_readOfCandle 68 = .ok (.iconst (-1), 1) := by decide +kernel
theorem dX0_readOfCandle_69 : decode cX0_readOfCandle 69 = .ok (.if_icmp .ne 9, 3) := by decide +kernel
theorem dX0_readOfCandle_72 : decode cX0_readOfCandle 72 = .ok (.iload_n 1, 1) := by decide +kernel
theorem dX0_readOfCandle_73 : decode cX0_readOfCandle 73 = .ok (.iconst 2, 1) := by decide +kernel
theorem dX0_readOfCandle_74 : decode cX0_readOfCandle 74 = .ok (.iadd, 1) := by decide +kernel
theorem dX0_readOfCandle_75 : decode cX0_readOfCandle 75 = .ok (.goto 5, 3) := by decide +kernel
theorem dX0_readOfCandle_78 : decode cX0_readOfCandle 78 = .ok (.bipush (-6), 2) := by decide +kernel
theorem dX0_readOfCandle_80 : decode cX0_readOfCandle 80 = .ok (.ireturn, 1) := by decide +kernel
theorem dX0_readOfCandle_81 : decode cX0_readOfCandle 81 = .ok (.aload_n 0, 1) := by decide +kernel
theorem dX0_readOfCandle_82 : decode cX0_readOfCandle 82 = .ok (.getfield 29, 3) := by decide +kernel
theorem dX0_readOfCandle_85 : decode cX0_readOfCandle 85 = .ok (.bipush 42, 2) := by decide +kernel
theorem dX0_readOfCandle_87 : decode cX0_readOfCandle 87 = .ok (.if_icmp .eq 30, 3) := by decide +kernel
theorem dX0_readOfCandle_90 : decode cX0_readOfCandle 90 = .ok (.aload_n 0, 1) := by decide +kernel
theorem dX0_readOfCandle_91 : decode cX0_readOfCandle 91 = .ok (.getfield 29, 3) := by decide +kernel
theorem dX0_readOfCandle_94 : decode cX0_readOfCandle 94 = .ok (.bipush 45, 2) := by decide +kernel
theorem dX0_readOfCandle_96 : decode cX0_readOfCandle 96 = .ok (.if_icmp .eq 21, 3) := by decide +kernel
theorem dX0_readOfCandle_99 : decode cX0_readOfCandle 99 = .ok (.aload_n 0, 1) := by decide +kernel
theorem dX0_readOfCandle_100 : decode cX0_readOfCandle 100 = .ok (.getfield 29, 3) := by decide +kernel
theorem dX0_readOfCandle_103 : decode cX0_readOfCandle 103 = .ok (.bipush 33, 2) := by decide +kernel
theorem dX0_readOfCandle_105 : decode cX0_readOfCandle 105 = .ok (.if_icmp .eq 12, 3) := by decide +kernel
theorem dX0_readOfCandle_108 : decode cX0_readOfCandle 108 = .ok (.aload_n 0, 1) := by decide +kernel
theorem dX0_readOfCandle_109 : decode cX0_readOfCandle 109 = .ok (.getfield 29, 3) := by decide +kernel
theorem dX0_readOfCandle_112 : decode cX0_readOfCandle 112 = .ok (.bipush 94, 2) := by decide +kernel
theorem dX0_readOfCandle_114 : decode cX0_readOfCandle 114 = .ok (.if_icmp .ne 7, 3) := by decide +kernel
theorem dX0_readOfCandle_117 : decode cX0_readOfCandle 117 = .ok (.iconst 1, 1) := by decide +kernel
theorem dX0_readOfCandle_118 : decode cX0_readOfCandle 118 = .ok (.goto 4, 3) := by decide +kernel
theorem dX0_readOfCandle_121 : decode cX0_readOfCandle 121 = .ok (.iconst 0, 1) := by decide +kernel
theorem dX0_readOfCandle_122 : decode cX0_readOfCandle 122 = .ok (.istore_n 2, 1) := by decide +kernel
theorem dX0_readOfCandle_123 : decode cX0_readOfCandle 123 = .ok (.iload_n 2, 1) := by decide +kernel
theorem dX0_readOfCandle_124 : decode cX0_readOfCandle 124 = .ok (.ifCond .eq 8, 3) := by decide +kernel
theorem dX0_readOfCandle_127 : decode cX0_readOfCandle 127 = .ok (.bipush (-6), 2) := by decide +kernel
theorem dX0_readOfCandle_129 : decode cX0_readOfCandle 129 = .ok (.goto 6, 3) := by decide +kernel
theorem dX0_readOfCandle_132 : decode cX0_readOfCandle 132 = .ok (.iload_n 1, 1) := by decide +kernel
theorem dX0_readOfCandle_133 : decode cX0_readOfCandle 133 = .ok (.iconst 1, 1) := by decide +kernel
theorem dX0_readOfCandle_134 : decode cX0_readOfCandle 134 = .ok (.iadd, 1) := by decide +kernel
theorem dX0_readOfCandle_135 : decode cX0_readOfCandle 135 = .ok (.ireturn, 1) := by decide +kernel
theorem dX0_signAt_0 : decode cX0_signAt 0 = .ok (.iload_n 1, 1) := by decide +kernel
theorem dX0_signAt_1 : decode cX0_signAt 1 = .ok (.ifCond .lt 26, 3) := by decide +kernel
theorem dX0_signAt_4 : decode cX0_signAt 4 = .ok (.iload_n 1, 1) := by decide +kernel
theorem dX0_signAt_5 : decode cX0_signAt 5 = .ok (.aload_n 0, 1) := by decide +kernel
theorem dX0_signAt_6 : decode cX0_signAt 6 = .ok (.getfield 15, 3) := by decide +kernel
theorem dX0_signAt_9 : decode cX0_signAt 9 = .ok (.if_icmp .ge 18, 3) := by decide +kernel
theorem dX0_signAt_12 : decode cX0_signAt 12 = .ok (.iload_n 1, 1) := by decide +kernel
theorem dX0_signAt_13 : decode cX0_signAt 13 = .ok (.bipush 60, 2) := by decide +kernel
theorem dX0_signAt_15 : decode cX0_signAt 15 = .ok (.if_icmp .ge 12, 3) := by decide +kernel
theorem dX0_signAt_18 : decode cX0_signAt 18 = .ok (.aload_n 0, 1) := by decide +kernel
theorem dX0_signAt_19 : decode cX0_signAt 19 = .ok (.getfield 9, 3) := by decide +kernel
theorem dX0_signAt_22 : decode cX0_signAt 22 = .ok (.iload_n 1, 1) := by decide +kernel
theorem dX0_signAt_23 : decode cX0_signAt 23 = .ok (.iaload, 1) := by decide +kernel
theorem dX0_signAt_24 : decode cX0_signAt 24 = .ok (.goto 4, 3) := by decide +kernel
theorem dX0_signAt_27 : decode cX0_signAt 27 = .ok (.iconst (-1), 1) := by decide +kernel
theorem dX0_signAt_28 : decode cX0_signAt 28 = .ok (.ireturn, 1) := by decide +kernel
set_option maxRecDepth 20000 in
theorem ggX0_letterAt_X0_signAt : GoodIn wsX0_letterAt wsX0_signAt := goodIn_r _ [5, 6, 7, 11, 12, 13, 14, 15, 16] (by decide +kernel) (by decide +kernel)
set_option maxRecDepth 20000 in
theorem gX0_letterAt_X0_signAt : GoodIn wsX0_letterAt (wsV RX0 26 RX0 yX0_signAt wsX0_signAt) := goodIn_app (goodIn_of _ (by decide +kernel)) ggX0_letterAt_X0_signAt
set_option maxRecDepth 20000 in
theorem ggX0_letterAt_X5_within : GoodIn wsX0_letterAt wsX5_within := goodIn_r _ [10] (by decide +kernel) (by decide +kernel)
set_option maxRecDepth 20000 in
theorem gX0_letterAt_X5_within_n50 : GoodIn wsX0_letterAt (wsX5_within) := ggX0_letterAt_X5_within
theorem dX0_letterAt_0 : decode cX0_letterAt 0 = .ok (.aload_n 0, 1) := by decide +kernel
theorem dX0_letterAt_1 : decode cX0_letterAt 1 = .ok (.iload_n 1, 1) := by decide +kernel
theorem dX0_letterAt_2 : decode cX0_letterAt 2 = .ok (.invokevirtual 26, 3) := by decide +kernel
theorem dX0_letterAt_5 : decode cX0_letterAt 5 = .ok (.istore_n 2, 1) := by decide +kernel
theorem dX0_letterAt_6 : decode cX0_letterAt 6 = .ok (.iload_n 2, 1) := by decide +kernel
theorem dX0_letterAt_7 : decode cX0_letterAt 7 = .ok (.bipush 97, 2) := by decide +kernel
theorem dX0_letterAt_9 : decode cX0_letterAt 9 = .ok (.bipush 108, 2) := by decide +kernel
theorem dX0_letterAt_11 : decode cX0_letterAt 11 = .ok (.invokestatic 50, 3) := by decide +kernel
theorem dX0_letterAt_14 : decode cX0_letterAt 14 = .ok (.ifCond .eq 10, 3) := by decide +kernel
theorem dX0_letterAt_17 : decode cX0_letterAt 17 = .ok (.iload_n 2, 1) := by decide +kernel
theorem dX0_letterAt_18 : decode cX0_letterAt 18 = .ok (.bipush 97, 2) := by decide +kernel
theorem dX0_letterAt_20 : decode cX0_letterAt 20 = .ok (.isub, 1) := by decide +kernel
theorem dX0_letterAt_21 : decode cX0_letterAt 21 = .ok (.goto 4, 3) := by decide +kernel
theorem dX0_letterAt_24 : decode cX0_letterAt 24 = .ok (.iconst (-1), 1) := by decide +kernel
theorem dX0_letterAt_25 : decode cX0_letterAt 25 = .ok (.ireturn, 1) := by decide +kernel
set_option maxRecDepth 20000 in
theorem ggX0_digitAt_X0_signAt : GoodIn wsX0_digitAt wsX0_signAt := goodIn_r _ [5, 6, 7, 11, 12, 13, 14, 15, 16] (by decide +kernel) (by decide +kernel)
set_option maxRecDepth 20000 in
theorem gX0_digitAt_X0_signAt : GoodIn wsX0_digitAt (wsV RX0 26 RX0 yX0_signAt wsX0_signAt) := goodIn_app (goodIn_of _ (by decide +kernel)) ggX0_digitAt_X0_signAt
set_option maxRecDepth 20000 in
theorem ggX0_digitAt_X5_within : GoodIn wsX0_digitAt wsX5_within := goodIn_r _ [10] (by decide +kernel) (by decide +kernel)
set_option maxRecDepth 20000 in
theorem gX0_digitAt_X5_within_n50 : GoodIn wsX0_digitAt (wsX5_within) := ggX0_digitAt_X5_within
theorem dX0_digitAt_0 : decode cX0_digitAt 0 = .ok (.aload_n 0, 1) := by decide +kernel
theorem dX0_digitAt_1 : decode cX0_digitAt 1 = .ok (.iload_n 1, 1) := by decide +kernel
theorem dX0_digitAt_2 : decode cX0_digitAt 2 = .ok (.invokevirtual 26, 3) := by decide +kernel
theorem dX0_digitAt_5 : decode cX0_digitAt 5 = .ok (.istore_n 2, 1) := by decide +kernel
theorem dX0_digitAt_6 : decode cX0_digitAt 6 = .ok (.iload_n 2, 1) := by decide +kernel
theorem dX0_digitAt_7 : decode cX0_digitAt 7 = .ok (.bipush 48, 2) := by decide +kernel
theorem dX0_digitAt_9 : decode cX0_digitAt 9 = .ok (.bipush 57, 2) := by decide +kernel
theorem dX0_digitAt_11 : decode cX0_digitAt 11 = .ok (.invokestatic 50, 3) := by decide +kernel
theorem dX0_digitAt_14 : decode cX0_digitAt 14 = .ok (.ifCond .eq 10, 3) := by decide +kernel
theorem dX0_digitAt_17 : decode cX0_digitAt 17 = .ok (.iload_n 2, 1) := by decide +kernel
theorem dX0_digitAt_18 : decode cX0_digitAt 18 = .ok (.bipush 48, 2) := by decide +kernel
theorem dX0_digitAt_20 : decode cX0_digitAt 20 = .ok (.isub, 1) := by decide +kernel
theorem dX0_digitAt_21 : decode cX0_digitAt 21 = .ok (.goto 4, 3) := by decide +kernel
theorem dX0_digitAt_24 : decode cX0_digitAt 24 = .ok (.iconst (-1), 1) := by decide +kernel
theorem dX0_digitAt_25 : decode cX0_digitAt 25 = .ok (.ireturn, 1) := by decide +kernel
set_option maxRecDepth 20000 in
theorem ggX1_init_X3_init : GoodIn wsX1_init wsX3_init := goodIn_r _ [10, 11, 2, 3, 12, 13, 14, 15, 16, 17, 18, 19, 20, 21, 22, 23, 24, 25, 26, 27, 28, 29, 30, 31, 32, 33, 34, 35, 36, 37, 38, 39, 40] (by decide +kernel) (by decide +kernel)
set_option maxRecDepth 20000 in
theorem gX1_init_X3_init : GoodIn wsX1_init (wsX3_init) := ggX1_init_X3_init
theorem dX1_init_0 : decode cX1_init 0 = .ok (.aload_n 0, 1) := by decide +kernel
theorem dX1_init_1 : decode cX1_init 1 = .ok (.invokespecial 3, 3) := by decide +kernel
theorem dX1_init_4 : decode cX1_init 4 = .ok (.aload_n 0, 1) := by decide +kernel
theorem dX1_init_5 : decode cX1_init 5 = .ok (.new 9, 3) := by decide +kernel
theorem dX1_init_8 : decode cX1_init 8 = .ok (.dup, 1) := by decide +kernel
theorem dX1_init_9 : decode cX1_init 9 = .ok (.invokespecial 11, 3) := by decide +kernel
theorem dX1_init_12 : decode cX1_init 12 = .ok (.putfield 12, 3) := by decide +kernel
theorem dX1_init_15 : decode cX1_init 15 = .ok (.return_, 1) := by decide +kernel
set_option maxRecDepth 20000 in
theorem ggX1_begin_X3_copyFrom : GoodIn wsX1_begin wsX3_copyFrom := goodIn_r _ [11, 12, 13, 14, 15, 16, 17, 18, 19, 20, 21, 22, 23, 24, 25, 26, 27, 28, 29, 36, 37, 38, 39, 40, 41, 42, 43, 44, 45, 46, 47, 48, 49] (by decide +kernel) (by decide +kernel)
set_option maxRecDepth 20000 in
theorem gX1_begin_X3_copyFrom : GoodIn wsX1_begin (wsV RX1 18 RX3 yX3_copyFrom wsX3_copyFrom) := goodIn_app (goodIn_of _ (by decide +kernel)) ggX1_begin_X3_copyFrom
theorem dX1_begin_0 : decode cX1_begin 0 = .ok (.aload_n 0, 1) := by decide +kernel
theorem dX1_begin_1 : decode cX1_begin 1 = .ok (.getfield 12, 3) := by decide +kernel
theorem dX1_begin_4 : decode cX1_begin 4 = .ok (.aload_n 1, 1) := by decide +kernel
theorem dX1_begin_5 : decode cX1_begin 5 = .ok (.invokevirtual 18, 3) := by decide +kernel
theorem dX1_begin_8 : decode cX1_begin 8 = .ok (.aload_n 0, 1) := by decide +kernel
theorem dX1_begin_9 : decode cX1_begin 9 = .ok (.iconst 0, 1) := by decide +kernel
theorem dX1_begin_10 : decode cX1_begin 10 = .ok (.putfield 22, 3) := by decide +kernel
theorem dX1_begin_13 : decode cX1_begin 13 = .ok (.aload_n 0, 1) := by decide +kernel
theorem dX1_begin_14 : decode cX1_begin 14 = .ok (.iconst 0, 1) := by decide +kernel
theorem dX1_begin_15 : decode cX1_begin 15 = .ok (.putfield 26, 3) := by decide +kernel
theorem dX1_begin_18 : decode cX1_begin 18 = .ok (.aload_n 0, 1) := by decide +kernel
theorem dX1_begin_19 : decode cX1_begin 19 = .ok (.iconst 0, 1) := by decide +kernel
theorem dX1_begin_20 : decode cX1_begin 20 = .ok (.putfield 29, 3) := by decide +kernel
theorem dX1_begin_23 : decode cX1_begin 23 = .ok (.aload_n 0, 1) := by decide +kernel
theorem dX1_begin_24 : decode cX1_begin 24 = .ok (.bipush (-6), 2) := by decide +kernel
theorem dX1_begin_26 : decode cX1_begin 26 = .ok (.putfield 32, 3) := by decide +kernel
theorem dX1_begin_29 : decode cX1_begin 29 = .ok (.aload_n 0, 1) := by decide +kernel
theorem dX1_begin_30 : decode cX1_begin 30 = .ok (.bipush (-6), 2) := by decide +kernel
theorem dX1_begin_32 : decode cX1_begin 32 = .ok (.putfield 35, 3) := by decide +kernel
theorem dX1_begin_35 : decode cX1_begin 35 = .ok (.return_, 1) := by decide +kernel
set_option maxRecDepth 20000 in
theorem ggX1_night_X1_begin : GoodIn wsX1_night wsX1_begin := goodIn_r _ [10, 11, 12, 13, 14, 15, 16, 17, 18, 19, 20, 21, 22, 23, 24, 25, 26, 27, 28, 29, 30, 31, 32, 33, 34, 35, 36, 37, 38, 39, 150, 151, 152, 153, 154, 155, 156, 157, 158, 159, 160, 161, 162, 163, 164, 165, 166, 167, 168, 169] (by decide +kernel) (by decide +kernel)
set_option maxRecDepth 20000 in
theorem gX1_night_X1_begin : GoodIn wsX1_night (wsV RX1 38 RX1 yX1_begin wsX1_begin) := goodIn_app (goodIn_of _ (by decide +kernel)) ggX1_night_X1_begin
set_option maxRecDepth 20000 in
theorem ggX1_night_X0_readAct : GoodIn wsX1_night wsX0_readAct := goodIn_r _ [44, 45, 46, 47, 48, 49, 50, 51, 43, 52, 53, 54, 55, 56, 57, 58, 59, 60, 61, 62, 63, 64, 65, 66, 67, 68, 69, 70, 71, 72, 73, 144, 145, 146, 147, 148, 149] (by decide +kernel) (by decide +kernel)
set_option maxRecDepth 20000 in
theorem gX1_night_X0_readAct : GoodIn wsX1_night (wsV RX1 46 RX0 yX0_readAct wsX0_readAct) := goodIn_app (goodIn_of _ (by decide +kernel)) ggX1_night_X0_readAct
set_option maxRecDepth 20000 in
theorem ggX1_night_X1_attempt : GoodIn wsX1_night wsX1_attempt := goodIn_r _ [77, 11, 13, 14, 78, 79, 12, 80, 81, 82, 20, 83, 22, 38, 27, 28, 39, 84, 85, 86, 87, 37, 88, 89, 90, 91, 31, 29, 30, 33, 92, 93, 94, 95, 96, 97, 98, 99, 100, 101, 102, 103, 104, 64, 105, 106, 107, 108, 109, 32, 110, 111, 112, 113, 114, 115, 116, 117, 118, 119, 120, 121, 122, 123, 124, 125, 126, 127, 128, 129, 130, 131, 132, 133, 134, 135, 136, 137, 138, 139, 140, 141, 142, 9, 143, 15, 16, 150, 151, 152, 153, 154, 155, 156, 157, 158, 159, 160, 161, 162, 163, 164, 165, 166, 167, 168, 169] (by decide +kernel) (by decide +kernel)
set_option maxRecDepth 20000 in
theorem gX1_night_X1_attempt : GoodIn wsX1_night (wsV RX1 59 RX1 yX1_attempt wsX1_attempt) := goodIn_app (goodIn_of _ (by decide +kernel)) ggX1_night_X1_attempt
theorem dX1_night_0 : decode cX1_night 0 = .ok (.aload_n 0, 1) := by decide +kernel
theorem dX1_night_1 : decode cX1_night 1 = .ok (.aload_n 1, 1) := by decide +kernel
theorem dX1_night_2 : decode cX1_night 2 = .ok (.invokevirtual 38, 3) := by decide +kernel
theorem dX1_night_5 : decode cX1_night 5 = .ok (.iconst 0, 1) := by decide +kernel
theorem dX1_night_6 : decode cX1_night 6 = .ok (.istore_n 3, 1) := by decide +kernel
theorem dX1_night_7 : decode cX1_night 7 = .ok (.iconst 0, 1) := by decide +kernel
theorem dX1_night_8 : decode cX1_night 8 = .ok (.istore 4, 2) := by decide +kernel
theorem dX1_night_10 : decode cX1_night 10 = .ok (.iload 4, 2) := by decide +kernel
theorem dX1_night_12 : decode cX1_night 12 = .ok (.bipush 60, 2) := by decide +kernel
theorem dX1_night_14 : decode cX1_night 14 = .ok (.if_icmp .ge 53, 3) := by decide +kernel
theorem dX1_night_17 : decode cX1_night 17 = .ok (.iload_n 3, 1) := by decide +kernel
theorem dX1_night_18 : decode cX1_night 18 = .ok (.aload_n 2, 1) := by decide +kernel
theorem dX1_night_19 : decode cX1_night 19 = .ok (.getfield 41, 3) := by decide +kernel
theorem dX1_night_22 : decode cX1_night 22 = .ok (.if_icmp .ge 45, 3) := by decide +kernel
theorem dX1_night_25 : decode cX1_night 25 = .ok (.aload_n 2, 1) := by decide +kernel
theorem dX1_night_26 : decode cX1_night 26 = .ok (.iload_n 3, 1) := by decide +kernel
theorem dX1_night_27 : decode cX1_night 27 = .ok (.invokevirtual 46, 3) := by decide +kernel
theorem dX1_night_30 : decode cX1_night 30 = .ok (.bipush (-6), 2) := by decide +kernel
theorem dX1_night_32 : decode cX1_night 32 = .ok (.if_icmp .ne 22, 3) := by decide +kernel
theorem dX1_night_35 : decode cX1_night 35 = .ok (.aload_n 0, 1) := by decide +kernel
theorem dX1_night_36 : decode cX1_night 36 = .ok (.aload_n 2, 1) := by decide +kernel
theorem dX1_night_37 : decode cX1_night 37 = .ok (.getfield 50, 3) := by decide +kernel
theorem dX1_night_40 : decode cX1_night 40 = .ok (.aload_n 2, 1) := by decide +kernel
theorem dX1_night_41 : decode cX1_night 41 = .ok (.getfield 53, 3) := by decide +kernel
theorem dX1_night_44 : decode cX1_night 44 = .ok (.aload_n 2, 1) := by decide +kernel
theorem dX1_night_45 : decode cX1_night 45 = .ok (.getfield 56, 3) := by decide +kernel
theorem dX1_night_48 : decode cX1_night 48 = .ok (.invokevirtual 59, 3) := by decide +kernel
theorem dX1_night_51 : decode cX1_night 51 = .ok (.ifCond .ne 5, 3) := by decide +kernel
theorem dX1_night_54 : decode cX1_night 54 = .ok (.iconst 0, 1) := by decide +kernel
theorem dX1_night_55 : decode cX1_night 55 = .ok (.ireturn, 1) := by decide +kernel
theorem dX1_night_56 : decode cX1_night 56 = .ok (.aload_n 2, 1) := by decide +kernel
theorem dX1_night_57 : decode cX1_night 57 = .ok (.getfield 63, 3) := by decide +kernel
theorem dX1_night_60 : decode cX1_night 60 = .ok (.istore_n 3, 1) := by decide +kernel
theorem dX1_night_61 : decode cX1_night 61 = .ok (.iinc 4 1, 3) := by decide +kernel
theorem dX1_night_64 : decode cX1_night 64 = .ok (.goto (-54), 3) := by decide +kernel
theorem dX1_night_67 : decode cX1_night 67 = .ok (.iconst 1, 1) := by decide +kernel
theorem dX1_night_68 : decode cX1_night 68 = .ok (.ireturn, 1) := by decide +kernel
set_option maxRecDepth 20000 in
theorem ggX1_draws_X1_begin : GoodIn wsX1_draws wsX1_begin := goodIn_r _ [6, 7, 8, 9, 10, 11, 12, 13, 14, 15, 16, 17, 18, 19, 20, 21, 22, 23, 24, 25, 26, 27, 28, 29, 30, 31, 32, 33, 34, 35, 112, 113, 114, 115, 116, 117, 118, 119, 120, 121, 122, 123, 124, 125, 126, 127, 128, 129, 130, 131] (by decide +kernel) (by decide +kernel)
set_option maxRecDepth 20000 in
theorem gX1_draws_X1_begin : GoodIn wsX1_draws (wsV RX1 38 RX1 yX1_begin wsX1_begin) := goodIn_app (goodIn_of _ (by decide +kernel)) ggX1_draws_X1_begin
set_option maxRecDepth 20000 in
theorem ggX1_draws_X5_isCandle : GoodIn wsX1_draws wsX5_isCandle := goodIn_r _ [38, 39, 40, 37, 41] (by decide +kernel) (by decide +kernel)
set_option maxRecDepth 20000 in
theorem gX1_draws_X5_isCandle_n71 : GoodIn wsX1_draws (wsX5_isCandle) := ggX1_draws_X5_isCandle
set_option maxRecDepth 20000 in
theorem ggX1_draws_X1_attempt : GoodIn wsX1_draws wsX1_attempt := goodIn_r _ [45, 7, 9, 10, 46, 47, 8, 48, 49, 50, 16, 51, 18, 34, 23, 24, 35, 52, 53, 54, 55, 33, 56, 57, 58, 59, 27, 25, 26, 29, 60, 61, 62, 63, 64, 65, 66, 67, 68, 69, 70, 71, 72, 37, 73, 74, 75, 76, 77, 28, 78, 79, 80, 81, 82, 83, 84, 85, 86, 87, 88, 89, 90, 91, 92, 93, 94, 95, 96, 97, 98, 99, 100, 101, 102, 103, 104, 105, 106, 107, 108, 109, 110, 5, 111, 11, 12, 112, 113, 114, 115, 116, 117, 118, 119, 120, 121, 122, 123, 124, 125, 126, 127, 128, 129, 130, 131] (by decide +kernel) (by decide +kernel)
set_option maxRecDepth 20000 in
theorem gX1_draws_X1_attempt : GoodIn wsX1_draws (wsV RX1 59 RX1 yX1_attempt wsX1_attempt) := goodIn_app (goodIn_of _ (by decide +kernel)) ggX1_draws_X1_attempt
theorem dX1_draws_0 : decode cX1_draws 0 = .ok (.aload_n 0, 1) := by decide +kernel
theorem dX1_draws_1 : decode cX1_draws 1 = .ok (.aload_n 1, 1) := by decide +kernel
theorem dX1_draws_2 : decode cX1_draws 2 = .ok (.invokevirtual 38, 3) := by decide +kernel
theorem dX1_draws_5 : decode cX1_draws 5 = .ok (.iload_n 2, 1) := by decide +kernel
theorem dX1_draws_6 : decode cX1_draws 6 = .ok (.istore 4, 2) := by decide +kernel
theorem dX1_draws_8 : decode cX1_draws 8 = .ok (.iconst 0, 1) := by decide +kernel
theorem dX1_draws_9 : decode cX1_draws 9 = .ok (.istore 5, 2) := by decide +kernel
theorem dX1_draws_11 : decode cX1_draws 11 = .ok (.iload 5, 2) := by decide +kernel
theorem dX1_draws_13 : decode cX1_draws 13 = .ok (.iload_n 3, 1) := by decide +kernel
theorem dX1_draws_14 : decode cX1_draws 14 = .ok (.if_icmp .ge 93, 3) := by decide +kernel
theorem dX1_draws_17 : decode cX1_draws 17 = .ok (.bipush 75, 2) := by decide +kernel
theorem dX1_draws_19 : decode cX1_draws 19 = .ok (.iload 4, 2) := by decide +kernel
theorem dX1_draws_21 : decode cX1_draws 21 = .ok (.imul, 1) := by decide +kernel
theorem dX1_draws_22 : decode cX1_draws 22 = .ok (.bipush 74, 2) := by decide +kernel
theorem dX1_draws_24 : decode cX1_draws 24 = .ok (.iadd, 1) := by decide +kernel
theorem dX1_draws_25 : decode cX1_draws 25 = .ok (.ldc 66, 2) := by decide +kernel
theorem dX1_draws_27 : decode cX1_draws 27 = .ok (.irem, 1) := by decide +kernel
theorem dX1_draws_28 : decode cX1_draws 28 = .ok (.istore 4, 2) := by decide +kernel
theorem dX1_draws_30 : decode cX1_draws 30 = .ok (.getstatic 67, 3) := by decide +kernel
theorem dX1_draws_33 : decode cX1_draws 33 = .ok (.iload 4, 2) := by decide +kernel
theorem dX1_draws_35 : decode cX1_draws 35 = .ok (.bipush 8, 2) := by decide +kernel
theorem dX1_draws_37 : decode cX1_draws 37 = .ok (.irem, 1) := by decide +kernel
theorem dX1_draws_38 : decode cX1_draws 38 = .ok (.iaload, 1) := by decide +kernel
theorem dX1_draws_39 : decode cX1_draws 39 = .ok (.istore 6, 2) := by decide +kernel
theorem dX1_draws_41 : decode cX1_draws 41 = .ok (.iload 4, 2) := by decide +kernel
theorem dX1_draws_43 : decode cX1_draws 43 = .ok (.bipush 8, 2) := by decide +kernel
theorem dX1_draws_45 : decode cX1_draws 45 = .ok (.idiv, 1) := by decide +kernel
theorem dX1_draws_46 : decode cX1_draws 46 = .ok (.bipush 12, 2) := by decide +kernel
theorem dX1_draws_48 : decode cX1_draws 48 = .ok (.irem, 1) := by decide +kernel
theorem dX1_draws_49 : decode cX1_draws 49 = .ok (.istore 7, 2) := by decide +kernel
theorem dX1_draws_51 : decode cX1_draws 51 = .ok (.iload 6, 2) := by decide +kernel
theorem dX1_draws_53 : decode cX1_draws 53 = .ok (.bipush 62, 2) := by decide +kernel
theorem dX1_draws_55 : decode cX1_draws 55 = .ok (.if_icmp .ne 10, 3) := by decide +kernel
theorem dX1_draws_58 : decode cX1_draws 58 = .ok (.iload 7, 2) := by decide +kernel
theorem dX1_draws_60 : decode cX1_draws 60 = .ok (.iconst 1, 1) := by decide +kernel
theorem dX1_draws_61 : decode cX1_draws 61 = .ok (.iadd, 1) := by decide +kernel
theorem dX1_draws_62 : decode cX1_draws 62 = .ok (.goto 11, 3) := by decide +kernel
theorem dX1_draws_65 : decode cX1_draws 65 = .ok (.iload 4, 2) := by decide +kernel
theorem dX1_draws_67 : decode cX1_draws 67 = .ok (.bipush 96, 2) := by decide +kernel
theorem dX1_draws_69 : decode cX1_draws 69 = .ok (.idiv, 1) := by decide +kernel
theorem dX1_draws_70 : decode cX1_draws 70 = .ok (.bipush 10, 2) := by decide +kernel
theorem dX1_draws_72 : decode cX1_draws 72 = .ok (.irem, 1) := by decide +kernel
theorem dX1_draws_73 : decode cX1_draws 73 = .ok (.istore 8, 2) := by decide +kernel
theorem dX1_draws_75 : decode cX1_draws 75 = .ok (.iload 6, 2) := by decide +kernel
theorem dX1_draws_77 : decode cX1_draws 77 = .ok (.bipush 62, 2) := by decide +kernel
theorem dX1_draws_79 : decode cX1_draws 79 = .ok (.if_icmp .ne 11, 3) := by decide +kernel
theorem dX1_draws_82 : decode cX1_draws 82 = .ok (.iload 8, 2) := by decide +kernel
theorem dX1_draws_84 : decode cX1_draws 84 = .ok (.invokestatic 71, 3) := by decide +kernel
theorem dX1_draws_87 : decode cX1_draws 87 = .ok (.ifCond .eq 14, 3) := by decide +kernel
theorem dX1_draws_90 : decode cX1_draws 90 = .ok (.aload_n 0, 1) := by decide +kernel
theorem dX1_draws_91 : decode cX1_draws 91 = .ok (.iload 6, 2) := by decide +kernel
theorem dX1_draws_93 : decode cX1_draws 93 = .ok (.iload 7, 2) := by decide +kernel
theorem dX1_draws_95 : decode cX1_draws 95 = .ok (.iload 8, 2) := by decide +kernel
theorem dX1_draws_97 : decode cX1_draws 97 = .ok (.invokevirtual 59, 3) := by decide +kernel
theorem dX1_draws_100 : decode cX1_draws 100 = .ok (.pop, 1) := by decide +kernel
theorem dX1_draws_101 : decode cX1_draws 101 = .ok (.iinc 5 1, 3) := by decide +kernel
theorem dX1_draws_104 : decode cX1_draws 104 = .ok (.goto (-93), 3) := by decide +kernel
theorem dX1_draws_107 : decode cX1_draws 107 = .ok (.return_, 1) := by decide +kernel
set_option maxRecDepth 20000 in
theorem ggX1_attempt_X3_reasonAgainst : GoodIn wsX1_attempt wsX3_reasonAgainst := goodIn_r _ [11, 12, 13, 14, 15, 16, 17, 18, 19, 10, 20, 21, 22, 23, 24, 25, 26, 27, 28, 29, 30, 31, 32, 33, 34, 35, 36, 37, 93, 94, 95, 96, 97, 98, 99, 100, 101, 102, 103, 104, 105, 106] (by decide +kernel) (by decide +kernel)
set_option maxRecDepth 20000 in
theorem gX1_attempt_X3_reasonAgainst : GoodIn wsX1_attempt (wsV RX1 75 RX3 yX3_reasonAgainst wsX3_reasonAgainst) := goodIn_app (goodIn_of _ (by decide +kernel)) ggX1_attempt_X3_reasonAgainst
set_option maxRecDepth 20000 in
theorem ggX1_attempt_X3_lightByMatch : GoodIn wsX1_attempt wsX3_lightByMatch := goodIn_r _ [41, 13, 21, 42, 43, 44, 45, 46, 47, 10, 48, 49, 93, 94, 95, 96, 97, 98, 99, 100, 101, 102, 103, 104, 105, 106] (by decide +kernel) (by decide +kernel)
set_option maxRecDepth 20000 in
theorem gX1_attempt_X3_lightByMatch : GoodIn wsX1_attempt (wsV RX1 79 RX3 yX3_lightByMatch wsX3_lightByMatch) := goodIn_app (goodIn_of _ (by decide +kernel)) ggX1_attempt_X3_lightByMatch
set_option maxRecDepth 20000 in
theorem ggX1_attempt_X3_putOut : GoodIn wsX1_attempt wsX3_putOut := goodIn_r _ [53, 21, 49, 93, 94, 95, 96, 97, 98, 99, 100, 101, 102, 103, 104, 105, 106] (by decide +kernel) (by decide +kernel)
set_option maxRecDepth 20000 in
theorem gX1_attempt_X3_putOut : GoodIn wsX1_attempt (wsV RX1 83 RX3 yX3_putOut wsX3_putOut) := goodIn_app (goodIn_of _ (by decide +kernel)) ggX1_attempt_X3_putOut
set_option maxRecDepth 20000 in
theorem ggX1_attempt_X3_pay : GoodIn wsX1_attempt wsX3_pay := goodIn_r _ [57, 29, 28, 27, 26, 30, 31, 32, 10, 33, 93, 94, 95, 96, 97, 98, 99, 100, 101, 102, 103, 104, 105, 106] (by decide +kernel) (by decide +kernel)
set_option maxRecDepth 20000 in
theorem gX1_attempt_X3_pay : GoodIn wsX1_attempt (wsV RX1 86 RX3 yX3_pay wsX3_pay) := goodIn_app (goodIn_of _ (by decide +kernel)) ggX1_attempt_X3_pay
set_option maxRecDepth 20000 in
theorem ggX1_attempt_X3_lightFrom : GoodIn wsX1_attempt wsX3_lightFrom := goodIn_r _ [61, 21, 49, 42, 43, 44, 62, 63, 93, 94, 95, 96, 97, 98, 99, 100, 101, 102, 103, 104, 105, 106] (by decide +kernel) (by decide +kernel)
set_option maxRecDepth 20000 in
theorem gX1_attempt_X3_lightFrom : GoodIn wsX1_attempt (wsV RX1 92 RX3 yX3_lightFrom wsX3_lightFrom) := goodIn_app (goodIn_of _ (by decide +kernel)) ggX1_attempt_X3_lightFrom
set_option maxRecDepth 20000 in
theorem ggX1_attempt_X3_passMinute : GoodIn wsX1_attempt wsX3_passMinute := goodIn_r _ [67, 16, 12, 68, 69, 70, 71, 26, 21, 17, 18, 19, 10, 20, 72, 73, 74, 75, 14, 76, 77, 78, 79, 15, 42, 43, 44, 93, 94, 95, 96, 97, 98, 99, 100, 101, 102, 103, 104, 105, 106] (by decide +kernel) (by decide +kernel)
set_option maxRecDepth 20000 in
theorem gX1_attempt_X3_passMinute : GoodIn wsX1_attempt (wsV RX1 99 RX3 yX3_passMinute wsX3_passMinute) := goodIn_app (goodIn_of _ (by decide +kernel)) ggX1_attempt_X3_passMinute
set_option maxRecDepth 20000 in
theorem ggX1_attempt_X1_noteOut : GoodIn wsX1_attempt wsX1_noteOut := goodIn_r _ [84, 85, 6, 86, 62, 43, 63, 87, 88, 89, 90, 91, 92] (by decide +kernel) (by decide +kernel)
set_option maxRecDepth 20000 in
theorem gX1_attempt_X1_noteOut : GoodIn wsX1_attempt (wsV RX1 103 RX1 yX1_noteOut wsX1_noteOut) := goodIn_app (goodIn_of _ (by decide +kernel)) ggX1_attempt_X1_noteOut
theorem dX1_attempt_0 : decode cX1_attempt 0 = .ok (.aload_n 0, 1) := by decide +kernel
theorem dX1_attempt_1 : decode cX1_attempt 1 = .ok (.aload_n 0, 1) := by decide +kernel
theorem dX1_attempt_2 : decode cX1_attempt 2 = .ok (.getfield 12, 3) := by decide +kernel
theorem dX1_attempt_5 : decode cX1_attempt 5 = .ok (.iload_n 1, 1) := by decide +kernel
theorem dX1_attempt_6 : decode cX1_attempt 6 = .ok (.iload_n 2, 1) := by decide +kernel
theorem dX1_attempt_7 : decode cX1_attempt 7 = .ok (.iload_n 3, 1) := by decide +kernel
theorem dX1_attempt_8 : decode cX1_attempt 8 = .ok (.invokevirtual 75, 3) := by decide +kernel
theorem dX1_attempt_11 : decode cX1_attempt 11 = .ok (.putfield 26, 3) := by decide +kernel
theorem dX1_attempt_14 : decode cX1_attempt 14 = .ok (.aload_n 0, 1) := by decide +kernel
theorem dX1_attempt_15 : decode cX1_attempt 15 = .ok (.getfield 26, 3) := by decide +kernel
theorem dX1_attempt_18 : decode cX1_attempt 18 = .ok (.ifCond .eq 5, 3) := by decide +kernel
theorem dX1_attempt_21 : decode cX1_attempt 21 = .ok (.iconst 0, 1) := by decide +kernel
theorem dX1_attempt_22 : decode cX1_attempt 22 = .ok (.ireturn, 1) := by decide +kernel
theorem dX1_attempt_23 : decode cX1_attempt 23 = .ok (.iload_n 1, 1) := by decide +kernel
theorem dX1_attempt_24 : decode cX1_attempt 24 = .ok (.lookupswitch 143 #[(33, 82), (42, 60), (45, 71), (62, 118), (94, 102), (119, 130)], 60) := by decide +kernel
theorem dX1_attempt_84 : decode cX1_attempt 84 = .ok (.aload_n 0, 1) := by decide +kernel
theorem dX1_attempt_85 : decode cX1_attempt 85 = .ok (.getfield 12, 3) := by decide +kernel
theorem dX1_attempt_88 : decode cX1_attempt 88 = .ok (.iload_n 2, 1) := by decide +kernel
theorem dX1_attempt_89 : decode cX1_attempt 89 = .ok (.invokevirtual 79, 3) := by decide +kernel
theorem dX1_attempt_92 : decode cX1_attempt 92 = .ok (.goto 86, 3) := by decide +kernel
theorem dX1_attempt_95 : decode cX1_attempt 95 = .ok (.aload_n 0, 1) := by decide +kernel
theorem dX1_attempt_96 : decode cX1_attempt 96 = .ok (.getfield 12, 3) := by decide +kernel
theorem dX1_attempt_99 : decode cX1_attempt 99 = .ok (.iload_n 2, 1) := by decide +kernel
theorem dX1_attempt_100 : decode cX1_attempt 100 = .ok (.invokevirtual 83, 3) := by decide +kernel
theorem dX1_attempt_103 : decode cX1_attempt 103 = .ok (.goto 75, 3) := by decide +kernel
theorem dX1_attempt_106 : decode cX1_attempt 106 = .ok (.aload_n 0, 1) := by decide +kernel
theorem dX1_attempt_107 : decode cX1_attempt 107 = .ok (.dup, 1) := by decide +kernel
theorem dX1_attempt_108 : decode cX1_attempt 108 = .ok (.getfield 29, 3) := by decide +kernel
theorem dX1_attempt_111 : decode cX1_attempt 111 = .ok (.aload_n 0, 1) := by decide +kernel
theorem dX1_attempt_112 : decode cX1_attempt 112 = .ok (.getfield 12, 3) := by decide +kernel
theorem dX1_attempt_115 : decode cX1_attempt 115 = .ok (.iload_n 2, 1) := by decide +kernel
theorem dX1_attempt_116 : decode cX1_attempt 116 = .ok (.invokevirtual 86, 3) := by decide +kernel
theorem dX1_attempt_119 : decode cX1_attempt 119 = .ok (.iadd, 1) := by decide +kernel
theorem dX1_attempt_120 : decode cX1_attempt 120 = .ok (.putfield 29, 3) := by decide +kernel
theorem dX1_attempt_123 : decode cX1_attempt 123 = .ok (.goto 55, 3) := by decide +kernel
theorem dX1_attempt_126 : decode cX1_attempt 126 = .ok (.aload_n 0, 1) := by decide +kernel
theorem dX1_attempt_127 : decode cX1_attempt 127 = .ok (.getfield 12, 3) := by decide +kernel
theorem dX1_attempt_130 : decode cX1_attempt 130 = .ok (.getfield 89, 3) := by decide +kernel
theorem dX1_attempt_133 : decode cX1_attempt 133 = .ok (.iload_n 2, 1) := by decide +kernel
theorem dX1_attempt_134 : decode cX1_attempt 134 = .ok (.dup2, 1) := by decide +kernel
theorem dX1_attempt_135 : decode cX1_attempt 135 = .ok (.iaload, 1) := by decide +kernel
theorem dX1_attempt_136 : decode cX1_attempt 136 = .ok (.iconst 1, 1) := by decide +kernel
theorem dX1_attempt_137 : decode cX1_attempt 137 = .ok (.iadd, 1) := by decide +kernel
theorem dX1_attempt_138 : decode cX1_attempt 138 = .ok (.iastore, 1) := by decide +kernel
theorem dX1_attempt_139 : decode cX1_attempt 139 = .ok (.goto 39, 3) := by decide +kernel
theorem dX1_attempt_142 : decode cX1_attempt 142 = .ok (.aload_n 0, 1) := by decide +kernel
theorem dX1_attempt_143 : decode cX1_attempt 143 = .ok (.getfield 12, 3) := by decide +kernel
theorem dX1_attempt_146 : decode cX1_attempt 146 = .ok (.iload_n 2, 1) := by decide +kernel
theorem dX1_attempt_147 : decode cX1_attempt 147 = .ok (.iload_n 3, 1) := by decide +kernel
theorem dX1_attempt_148 : decode cX1_attempt 148 = .ok (.invokevirtual 92, 3) := by decide +kernel
theorem dX1_attempt_151 : decode cX1_attempt 151 = .ok (.goto 27, 3) := by decide +kernel
theorem dX1_attempt_154 : decode cX1_attempt 154 = .ok (.aload_n 0, 1) := by decide +kernel
theorem dX1_attempt_155 : decode cX1_attempt 155 = .ok (.getfield 12, 3) := by decide +kernel
theorem dX1_attempt_158 : decode cX1_attempt 158 = .ok (.getfield 96, 3) := by decide +kernel
theorem dX1_attempt_161 : decode cX1_attempt 161 = .ok (.iload_n 2, 1) := by decide +kernel
theorem dX1_attempt_162 : decode cX1_attempt 162 = .ok (.iload_n 3, 1) := by decide +kernel
theorem dX1_attempt_163 : decode cX1_attempt 163 = .ok (.iastore, 1) := by decide +kernel
theorem dX1_attempt_164 : decode cX1_attempt 164 = .ok (.goto 14, 3) := by decide +kernel
theorem dX1_attempt_167 : decode cX1_attempt 167 = .ok (.aload_n 0, 1) := by decide +kernel
theorem dX1_attempt_168 : decode cX1_attempt 168 = .ok (.aload_n 0, 1) := by decide +kernel
theorem dX1_attempt_169 : decode cX1_attempt 169 = .ok (.getfield 12, 3) := by decide +kernel
theorem dX1_attempt_172 : decode cX1_attempt 172 = .ok (.invokevirtual 99, 3) := by decide +kernel
theorem dX1_attempt_175 : decode cX1_attempt 175 = .ok (.invokevirtual 103, 3) := by decide +kernel
theorem dX1_attempt_178 : decode cX1_attempt 178 = .ok (.aload_n 0, 1) := by decide +kernel
theorem dX1_attempt_179 : decode cX1_attempt 179 = .ok (.dup, 1) := by decide +kernel
theorem dX1_attempt_180 : decode cX1_attempt 180 = .ok (.getfield 22, 3) := by decide +kernel
theorem dX1_attempt_183 : decode cX1_attempt 183 = .ok (.iconst 1, 1) := by decide +kernel
theorem dX1_attempt_184 : decode cX1_attempt 184 = .ok (.iadd, 1) := by decide +kernel
theorem dX1_attempt_185 : decode cX1_attempt 185 = .ok (.putfield 22, 3) := by decide +kernel
theorem dX1_attempt_188 : decode cX1_attempt 188 = .ok (.iconst 1, 1) := by decide +kernel
theorem dX1_attempt_189 : decode cX1_attempt 189 = .ok (.ireturn, 1) := by decide +kernel
set_option maxRecDepth 20000 in
theorem ggX1_noteOut_X5_holds : GoodIn wsX1_noteOut wsX5_holds := goodIn_r _ [6] (by decide +kernel) (by decide +kernel)
set_option maxRecDepth 20000 in
theorem gX1_noteOut_X5_holds_n106 : GoodIn wsX1_noteOut (wsX5_holds) := ggX1_noteOut_X5_holds
theorem dX1_noteOut_0 : decode cX1_noteOut 0 = .ok (.aload_n 0, 1) := by decide +kernel
theorem dX1_noteOut_1 : decode cX1_noteOut 1 = .ok (.getfield 32, 3) := by decide +kernel
theorem dX1_noteOut_4 : decode cX1_noteOut 4 = .ok (.bipush (-6), 2) := by decide +kernel
theorem dX1_noteOut_6 : decode cX1_noteOut 6 = .ok (.if_icmp .eq 4, 3) := by decide +kernel
theorem dX1_noteOut_9 : decode cX1_noteOut 9 = .ok (.return_, 1) := by decide +kernel
theorem dX1_noteOut_10 : decode cX1_noteOut 10 = .ok (.iconst 0, 1) := by decide +kernel
theorem dX1_noteOut_11 : decode cX1_noteOut 11 = .ok (.istore_n 2, 1) := by decide +kernel
theorem dX1_noteOut_12 : decode cX1_noteOut 12 = .ok (.iload_n 2, 1) := by decide +kernel
theorem dX1_noteOut_13 : decode cX1_noteOut 13 = .ok (.bipush 12, 2) := by decide +kernel
theorem dX1_noteOut_15 : decode cX1_noteOut 15 = .ok (.if_icmp .ge 31, 3) := by decide +kernel
theorem dX1_noteOut_18 : decode cX1_noteOut 18 = .ok (.iload_n 1, 1) := by decide +kernel
theorem dX1_noteOut_19 : decode cX1_noteOut 19 = .ok (.iload_n 2, 1) := by decide +kernel
theorem dX1_noteOut_20 : decode cX1_noteOut 20 = .ok (.invokestatic 106, 3) := by decide +kernel
theorem dX1_noteOut_23 : decode cX1_noteOut 23 = .ok (.ifCond .eq 17, 3) := by decide +kernel
theorem dX1_noteOut_26 : decode cX1_noteOut 26 = .ok (.aload_n 0, 1) := by decide +kernel
theorem dX1_noteOut_27 : decode cX1_noteOut 27 = .ok (.aload_n 0, 1) := by decide +kernel
theorem dX1_noteOut_28 : decode cX1_noteOut 28 = .ok (.getfield 22, 3) := by decide +kernel
theorem dX1_noteOut_31 : decode cX1_noteOut 31 = .ok (.putfield 32, 3) := by decide +kernel
theorem dX1_noteOut_34 : decode cX1_noteOut 34 = .ok (.aload_n 0, 1) := by decide +kernel
theorem dX1_noteOut_35 : decode cX1_noteOut 35 = .ok (.iload_n 2, 1) := by decide +kernel
theorem dX1_noteOut_36 : decode cX1_noteOut 36 = .ok (.putfield 35, 3) := by decide +kernel
theorem dX1_noteOut_39 : decode cX1_noteOut 39 = .ok (.return_, 1) := by decide +kernel
theorem dX1_noteOut_40 : decode cX1_noteOut 40 = .ok (.iinc 2 1, 3) := by decide +kernel
theorem dX1_noteOut_43 : decode cX1_noteOut 43 = .ok (.goto (-31), 3) := by decide +kernel
theorem dX1_noteOut_46 : decode cX1_noteOut 46 = .ok (.return_, 1) := by decide +kernel
theorem dX2_init_0 : decode cX2_init 0 = .ok (.aload_n 0, 1) := by decide +kernel
theorem dX2_init_1 : decode cX2_init 1 = .ok (.invokespecial 3, 3) := by decide +kernel
theorem dX2_init_4 : decode cX2_init 4 = .ok (.aload_n 0, 1) := by decide +kernel
theorem dX2_init_5 : decode cX2_init 5 = .ok (.bipush 48, 2) := by decide +kernel
theorem dX2_init_7 : decode cX2_init 7 = .ok (.newarray .int, 2) := by decide +kernel
theorem dX2_init_9 : decode cX2_init 9 = .ok (.putfield 9, 3) := by decide +kernel
theorem dX2_init_12 : decode cX2_init 12 = .ok (.aload_n 0, 1) := by decide +kernel
theorem dX2_init_13 : decode cX2_init 13 = .ok (.bipush 48, 2) := by decide +kernel
theorem dX2_init_15 : decode cX2_init 15 = .ok (.newarray .int, 2) := by decide +kernel
theorem dX2_init_17 : decode cX2_init 17 = .ok (.putfield 15, 3) := by decide +kernel
theorem dX2_init_20 : decode cX2_init 20 = .ok (.aload_n 0, 1) := by decide +kernel
theorem dX2_init_21 : decode cX2_init 21 = .ok (.bipush 62, 2) := by decide +kernel
theorem dX2_init_23 : decode cX2_init 23 = .ok (.newarray .int, 2) := by decide +kernel
theorem dX2_init_25 : decode cX2_init 25 = .ok (.putfield 18, 3) := by decide +kernel
theorem dX2_init_28 : decode cX2_init 28 = .ok (.return_, 1) := by decide +kernel
set_option maxRecDepth 20000 in
theorem ggX2_fit_X2_narrow : GoodIn wsX2_fit wsX2_narrow := goodIn_r _ [10, 11, 1, 12, 13, 14, 15, 2, 16, 17, 18, 19, 20, 9, 21, 22, 23, 24, 25, 26, 27, 28, 29, 30, 31, 32, 33, 34, 35, 36, 37, 38, 39, 40, 41, 42, 43, 44, 45, 46, 47, 51, 52, 53, 54, 55, 56, 57, 58, 59, 60, 61, 62, 63, 64, 48, 49, 50] (by decide +kernel) (by decide +kernel)
set_option maxRecDepth 20000 in
theorem gX2_fit_X2_narrow : GoodIn wsX2_fit (wsV RX2 33 RX2 yX2_narrow wsX2_narrow) := goodIn_app (goodIn_of _ (by decide +kernel)) ggX2_fit_X2_narrow
theorem dX2_fit_0 : decode cX2_fit 0 = .ok (.iconst 0, 1) := by decide +kernel
theorem dX2_fit_1 : decode cX2_fit 1 = .ok (.istore_n 2, 1) := by decide +kernel
theorem dX2_fit_2 : decode cX2_fit 2 = .ok (.iload_n 2, 1) := by decide +kernel
theorem dX2_fit_3 : decode cX2_fit 3 = .ok (.bipush 48, 2) := by decide +kernel
theorem dX2_fit_5 : decode cX2_fit 5 = .ok (.if_icmp .ge 64, 3) := by decide +kernel
theorem dX2_fit_8 : decode cX2_fit 8 = .ok (.aload_n 0, 1) := by decide +kernel
theorem dX2_fit_9 : decode cX2_fit 9 = .ok (.getfield 9, 3) := by decide +kernel
theorem dX2_fit_12 : decode cX2_fit 12 = .ok (.iload_n 2, 1) := by decide +kernel
theorem dX2_fit_13 : decode cX2_fit 13 = .ok (.iconst 0, 1) := by decide +kernel
theorem dX2_fit_14 : decode cX2_fit 14 = .ok (.iastore, 1) := by decide +kernel
theorem dX2_fit_15 : decode cX2_fit 15 = .ok (.aload_n 0, 1) := by decide +kernel
theorem dX2_fit_16 : decode cX2_fit 16 = .ok (.getfield 15, 3) := by decide +kernel
theorem dX2_fit_19 : decode cX2_fit 19 = .ok (.iload_n 2, 1) := by decide +kernel
theorem dX2_fit_20 : decode cX2_fit 20 = .ok (.bipush 60, 2) := by decide +kernel
theorem dX2_fit_22 : decode cX2_fit 22 = .ok (.iastore, 1) := by decide +kernel
theorem dX2_fit_23 : decode cX2_fit 23 = .ok (.iconst 0, 1) := by decide +kernel
theorem dX2_fit_24 : decode cX2_fit 24 = .ok (.istore_n 3, 1) := by decide +kernel
theorem dX2_fit_25 : decode cX2_fit 25 = .ok (.iload_n 3, 1) := by decide +kernel
theorem dX2_fit_26 : decode cX2_fit 26 = .ok (.aload_n 1, 1) := by decide +kernel
theorem dX2_fit_27 : decode cX2_fit 27 = .ok (.getfield 21, 3) := by decide +kernel
theorem dX2_fit_30 : decode cX2_fit 30 = .ok (.if_icmp .ge 33, 3) := by decide +kernel
theorem dX2_fit_33 : decode cX2_fit 33 = .ok (.iload_n 3, 1) := by decide +kernel
theorem dX2_fit_34 : decode cX2_fit 34 = .ok (.bipush 8, 2) := by decide +kernel
theorem dX2_fit_36 : decode cX2_fit 36 = .ok (.if_icmp .ge 27, 3) := by decide +kernel
theorem dX2_fit_39 : decode cX2_fit 39 = .ok (.aload_n 0, 1) := by decide +kernel
theorem dX2_fit_40 : decode cX2_fit 40 = .ok (.iload_n 2, 1) := by decide +kernel
theorem dX2_fit_41 : decode cX2_fit 41 = .ok (.aload_n 1, 1) := by decide +kernel
theorem dX2_fit_42 : decode cX2_fit 42 = .ok (.aload_n 1, 1) := by decide +kernel
theorem dX2_fit_43 : decode cX2_fit 43 = .ok (.getfield 27, 3) := by decide +kernel
theorem dX2_fit_46 : decode cX2_fit 46 = .ok (.iload_n 3, 1) := by decide +kernel
theorem dX2_fit_47 : decode cX2_fit 47 = .ok (.iaload, 1) := by decide +kernel
theorem dX2_fit_48 : decode cX2_fit 48 = .ok (.aload_n 1, 1) := by decide +kernel
theorem dX2_fit_49 : decode cX2_fit 49 = .ok (.getfield 30, 3) := by decide +kernel
theorem dX2_fit_52 : decode cX2_fit 52 = .ok (.iload_n 3, 1) := by decide +kernel
theorem dX2_fit_53 : decode cX2_fit 53 = .ok (.iaload, 1) := by decide +kernel
theorem dX2_fit_54 : decode cX2_fit 54 = .ok (.invokevirtual 33, 3) := by decide +kernel
theorem dX2_fit_57 : decode cX2_fit 57 = .ok (.iinc 3 1, 3) := by decide +kernel
theorem dX2_fit_60 : decode cX2_fit 60 = .ok (.goto (-35), 3) := by decide +kernel
theorem dX2_fit_63 : decode cX2_fit 63 = .ok (.iinc 2 1, 3) := by decide +kernel
theorem dX2_fit_66 : decode cX2_fit 66 = .ok (.goto (-64), 3) := by decide +kernel
theorem dX2_fit_69 : decode cX2_fit 69 = .ok (.return_, 1) := by decide +kernel
set_option maxRecDepth 20000 in
theorem ggX2_narrow_X2_earliestFor : GoodIn wsX2_narrow wsX2_earliestFor := goodIn_r _ [14, 1, 15, 16, 17, 18, 19, 20, 21, 22, 23, 24, 25, 26, 27, 28, 29, 30, 31, 32, 33, 34, 41, 42, 43, 44, 45, 46, 47, 48, 49, 50, 51, 52, 53, 54] (by decide +kernel) (by decide +kernel)
set_option maxRecDepth 20000 in
theorem gX2_narrow_X2_earliestFor : GoodIn wsX2_narrow (va_wsS RX2 37 yX2_earliestFor wsX2_earliestFor) := goodIn_app (goodIn_of _ (by decide +kernel)) ggX2_narrow_X2_earliestFor
set_option maxRecDepth 20000 in
theorem ggX2_narrow_X2_reaches : GoodIn wsX2_narrow wsX2_reaches := goodIn_r _ [37, 38, 39, 5, 40] (by decide +kernel) (by decide +kernel)
set_option maxRecDepth 20000 in
theorem gX2_narrow_X2_reaches : GoodIn wsX2_narrow (va_wsS RX2 44 yX2_reaches wsX2_reaches) := goodIn_app (goodIn_of _ (by decide +kernel)) ggX2_narrow_X2_reaches
theorem dX2_narrow_0 : decode cX2_narrow 0 = .ok (.aload_n 2, 1) := by decide +kernel
theorem dX2_narrow_1 : decode cX2_narrow 1 = .ok (.iload_n 3, 1) := by decide +kernel
theorem dX2_narrow_2 : decode cX2_narrow 2 = .ok (.iload 4, 2) := by decide +kernel
theorem dX2_narrow_4 : decode cX2_narrow 4 = .ok (.invokestatic 37, 3) := by decide +kernel
theorem dX2_narrow_7 : decode cX2_narrow 7 = .ok (.istore 5, 2) := by decide +kernel
theorem dX2_narrow_9 : decode cX2_narrow 9 = .ok (.iload 4, 2) := by decide +kernel
theorem dX2_narrow_11 : decode cX2_narrow 11 = .ok (.aload_n 2, 1) := by decide +kernel
theorem dX2_narrow_12 : decode cX2_narrow 12 = .ok (.getfield 41, 3) := by decide +kernel
theorem dX2_narrow_15 : decode cX2_narrow 15 = .ok (.iload_n 3, 1) := by decide +kernel
theorem dX2_narrow_16 : decode cX2_narrow 16 = .ok (.iaload, 1) := by decide +kernel
theorem dX2_narrow_17 : decode cX2_narrow 17 = .ok (.if_icmp .ne 7, 3) := by decide +kernel
theorem dX2_narrow_20 : decode cX2_narrow 20 = .ok (.iconst 1, 1) := by decide +kernel
theorem dX2_narrow_21 : decode cX2_narrow 21 = .ok (.goto 4, 3) := by decide +kernel
theorem dX2_narrow_24 : decode cX2_narrow 24 = .ok (.iconst 0, 1) := by decide +kernel
theorem dX2_narrow_25 : decode cX2_narrow 25 = .ok (.istore 6, 2) := by decide +kernel
theorem dX2_narrow_27 : decode cX2_narrow 27 = .ok (.iload 6, 2) := by decide +kernel
theorem dX2_narrow_29 : decode cX2_narrow 29 = .ok (.ifCond .eq 8, 3) := by decide +kernel
theorem dX2_narrow_32 : decode cX2_narrow 32 = .ok (.bipush 60, 2) := by decide +kernel
theorem dX2_narrow_34 : decode cX2_narrow 34 = .ok (.goto 5, 3) := by decide +kernel
theorem dX2_narrow_37 : decode cX2_narrow 37 = .ok (.iload 5, 2) := by decide +kernel
theorem dX2_narrow_39 : decode cX2_narrow 39 = .ok (.istore 7, 2) := by decide +kernel
theorem dX2_narrow_41 : decode cX2_narrow 41 = .ok (.iload_n 1, 1) := by decide +kernel
theorem dX2_narrow_42 : decode cX2_narrow 42 = .ok (.iload_n 3, 1) := by decide +kernel
theorem dX2_narrow_43 : decode cX2_narrow 43 = .ok (.invokestatic 44, 3) := by decide +kernel
theorem dX2_narrow_46 : decode cX2_narrow 46 = .ok (.ifCond .eq 40, 3) := by decide +kernel
theorem dX2_narrow_49 : decode cX2_narrow 49 = .ok (.aload_n 0, 1) := by decide +kernel
theorem dX2_narrow_50 : decode cX2_narrow 50 = .ok (.getfield 9, 3) := by decide +kernel
theorem dX2_narrow_53 : decode cX2_narrow 53 = .ok (.iload_n 1, 1) := by decide +kernel
theorem dX2_narrow_54 : decode cX2_narrow 54 = .ok (.aload_n 0, 1) := by decide +kernel
theorem dX2_narrow_55 : decode cX2_narrow 55 = .ok (.getfield 9, 3) := by decide +kernel
theorem dX2_narrow_58 : decode cX2_narrow 58 = .ok (.iload_n 1, 1) := by decide +kernel
theorem dX2_narrow_59 : decode cX2_narrow 59 = .ok (.iaload, 1) := by decide +kernel
theorem dX2_narrow_60 : decode cX2_narrow 60 = .ok (.iload 5, 2) := by decide +kernel
theorem dX2_narrow_62 : decode cX2_narrow 62 = .ok (.invokestatic 48, 3) := by decide +kernel
theorem dX2_narrow_65 : decode cX2_narrow 65 = .ok (.iastore, 1) := by decide +kernel
theorem dX2_narrow_66 : decode cX2_narrow 66 = .ok (.aload_n 0, 1) := by decide +kernel
theorem dX2_narrow_67 : decode cX2_narrow 67 = .ok (.getfield 15, 3) := by decide +kernel
theorem dX2_narrow_70 : decode cX2_narrow 70 = .ok (.iload_n 1, 1) := by decide +kernel
theorem dX2_narrow_71 : decode cX2_narrow 71 = .ok (.aload_n 0, 1) := by decide +kernel
theorem dX2_narrow_72 : decode cX2_narrow 72 = .ok (.getfield 15, 3) := by decide +kernel
theorem dX2_narrow_75 : decode cX2_narrow 75 = .ok (.iload_n 1, 1) := by decide +kernel
theorem dX2_narrow_76 : decode cX2_narrow 76 = .ok (.iaload, 1) := by decide +kernel
theorem dX2_narrow_77 : decode cX2_narrow 77 = .ok (.iload 7, 2) := by decide +kernel
theorem dX2_narrow_79 : decode cX2_narrow 79 = .ok (.invokestatic 54, 3) := by decide +kernel
theorem dX2_narrow_82 : decode cX2_narrow 82 = .ok (.iastore, 1) := by decide +kernel
theorem dX2_narrow_83 : decode cX2_narrow 83 = .ok (.goto 24, 3) := by decide +kernel
theorem dX2_narrow_86 : decode cX2_narrow 86 = .ok (.iload 5, 2) := by decide +kernel
theorem dX2_narrow_88 : decode cX2_narrow 88 = .ok (.bipush 60, 2) := by decide +kernel
theorem dX2_narrow_90 : decode cX2_narrow 90 = .ok (.if_icmp .gt 10, 3) := by decide +kernel
theorem dX2_narrow_93 : decode cX2_narrow 93 = .ok (.iload 7, 2) := by decide +kernel
theorem dX2_narrow_95 : decode cX2_narrow 95 = .ok (.bipush 60, 2) := by decide +kernel
theorem dX2_narrow_97 : decode cX2_narrow 97 = .ok (.if_icmp .ge 10, 3) := by decide +kernel
theorem dX2_narrow_100 : decode cX2_narrow 100 = .ok (.aload_n 0, 1) := by decide +kernel
theorem dX2_narrow_101 : decode cX2_narrow 101 = .ok (.getfield 15, 3) := by decide +kernel
theorem dX2_narrow_104 : decode cX2_narrow 104 = .ok (.iload_n 1, 1) := by decide +kernel
theorem dX2_narrow_105 : decode cX2_narrow 105 = .ok (.iconst (-1), 1) := by decide +kernel
theorem dX2_narrow_106 : decode cX2_narrow 106 = .ok (.iastore, 1) := by decide +kernel
theorem dX2_narrow_107 : decode cX2_narrow 107 = .ok (.return_, 1) := by decide +kernel
set_option maxRecDepth 20000 in
theorem ggX2_earliestFor_X3_minutesLeft : GoodIn wsX2_earliestFor wsX3_minutesLeft := goodIn_r _ [6, 7, 8, 9, 10, 5, 11, 12, 13, 14, 15, 16, 17, 22, 23, 24, 25, 26, 27, 28, 29, 30, 31, 32, 33, 34, 35] (by decide +kernel) (by decide +kernel)
set_option maxRecDepth 20000 in
theorem gX2_earliestFor_X3_minutesLeft : GoodIn wsX2_earliestFor (wsV RX2 57 RX3 yX3_minutesLeft wsX3_minutesLeft) := goodIn_app (goodIn_of _ (by decide +kernel)) ggX2_earliestFor_X3_minutesLeft
set_option maxRecDepth 20000 in
theorem ggX2_earliestFor_X3_burnOf : GoodIn wsX2_earliestFor wsX3_burnOf := goodIn_r _ [21, 7, 13, 14, 15, 5, 16, 17, 22, 23, 24, 25, 26, 27, 28, 29, 30, 31, 32, 33, 34, 35] (by decide +kernel) (by decide +kernel)
set_option maxRecDepth 20000 in
theorem gX2_earliestFor_X3_burnOf : GoodIn wsX2_earliestFor (wsV RX2 61 RX3 yX3_burnOf wsX3_burnOf) := goodIn_app (goodIn_of _ (by decide +kernel)) ggX2_earliestFor_X3_burnOf
theorem dX2_earliestFor_0 : decode cX2_earliestFor 0 = .ok (.iload_n 2, 1) := by decide +kernel
theorem dX2_earliestFor_1 : decode cX2_earliestFor 1 = .ok (.aload_n 0, 1) := by decide +kernel
theorem dX2_earliestFor_2 : decode cX2_earliestFor 2 = .ok (.getfield 41, 3) := by decide +kernel
theorem dX2_earliestFor_5 : decode cX2_earliestFor 5 = .ok (.iload_n 1, 1) := by decide +kernel
theorem dX2_earliestFor_6 : decode cX2_earliestFor 6 = .ok (.iaload, 1) := by decide +kernel
theorem dX2_earliestFor_7 : decode cX2_earliestFor 7 = .ok (.if_icmp .ne 9, 3) := by decide +kernel
theorem dX2_earliestFor_10 : decode cX2_earliestFor 10 = .ok (.aload_n 0, 1) := by decide +kernel
theorem dX2_earliestFor_11 : decode cX2_earliestFor 11 = .ok (.iload_n 1, 1) := by decide +kernel
theorem dX2_earliestFor_12 : decode cX2_earliestFor 12 = .ok (.invokevirtual 57, 3) := by decide +kernel
theorem dX2_earliestFor_15 : decode cX2_earliestFor 15 = .ok (.ireturn, 1) := by decide +kernel
theorem dX2_earliestFor_16 : decode cX2_earliestFor 16 = .ok (.aload_n 0, 1) := by decide +kernel
theorem dX2_earliestFor_17 : decode cX2_earliestFor 17 = .ok (.iload_n 1, 1) := by decide +kernel
theorem dX2_earliestFor_18 : decode cX2_earliestFor 18 = .ok (.invokevirtual 61, 3) := by decide +kernel
theorem dX2_earliestFor_21 : decode cX2_earliestFor 21 = .ok (.istore_n 3, 1) := by decide +kernel
theorem dX2_earliestFor_22 : decode cX2_earliestFor 22 = .ok (.iload_n 2, 1) := by decide +kernel
theorem dX2_earliestFor_23 : decode cX2_earliestFor 23 = .ok (.aload_n 0, 1) := by decide +kernel
theorem dX2_earliestFor_24 : decode cX2_earliestFor 24 = .ok (.getfield 41, 3) := by decide +kernel
theorem dX2_earliestFor_27 : decode cX2_earliestFor 27 = .ok (.iload_n 1, 1) := by decide +kernel
theorem dX2_earliestFor_28 : decode cX2_earliestFor 28 = .ok (.iaload, 1) := by decide +kernel
theorem dX2_earliestFor_29 : decode cX2_earliestFor 29 = .ok (.if_icmp .ge 15, 3) := by decide +kernel
theorem dX2_earliestFor_32 : decode cX2_earliestFor 32 = .ok (.iload_n 2, 1) := by decide +kernel
theorem dX2_earliestFor_33 : decode cX2_earliestFor 33 = .ok (.iload_n 3, 1) := by decide +kernel
theorem dX2_earliestFor_34 : decode cX2_earliestFor 34 = .ok (.irem, 1) := by decide +kernel
theorem dX2_earliestFor_35 : decode cX2_earliestFor 35 = .ok (.ifCond .ne 9, 3) := by decide +kernel
theorem dX2_earliestFor_38 : decode cX2_earliestFor 38 = .ok (.iload_n 2, 1) := by decide +kernel
theorem dX2_earliestFor_39 : decode cX2_earliestFor 39 = .ok (.iload_n 3, 1) := by decide +kernel
theorem dX2_earliestFor_40 : decode cX2_earliestFor 40 = .ok (.idiv, 1) := by decide +kernel
theorem dX2_earliestFor_41 : decode cX2_earliestFor 41 = .ok (.goto 5, 3) := by decide +kernel
theorem dX2_earliestFor_44 : decode cX2_earliestFor 44 = .ok (.bipush 61, 2) := by decide +kernel
theorem dX2_earliestFor_46 : decode cX2_earliestFor 46 = .ok (.ireturn, 1) := by decide +kernel
theorem dX2_reaches_0 : decode cX2_reaches 0 = .ok (.iload_n 0, 1) := by decide +kernel
theorem dX2_reaches_1 : decode cX2_reaches 1 = .ok (.iconst 4, 1) := by decide +kernel
theorem dX2_reaches_2 : decode cX2_reaches 2 = .ok (.idiv, 1) := by decide +kernel
theorem dX2_reaches_3 : decode cX2_reaches 3 = .ok (.istore_n 2, 1) := by decide +kernel
theorem dX2_reaches_4 : decode cX2_reaches 4 = .ok (.iload_n 1, 1) := by decide +kernel
theorem dX2_reaches_5 : decode cX2_reaches 5 = .ok (.iload_n 2, 1) := by decide +kernel
theorem dX2_reaches_6 : decode cX2_reaches 6 = .ok (.isub, 1) := by decide +kernel
theorem dX2_reaches_7 : decode cX2_reaches 7 = .ok (.invokestatic 64, 3) := by decide +kernel
theorem dX2_reaches_10 : decode cX2_reaches 10 = .ok (.iload_n 0, 1) := by decide +kernel
theorem dX2_reaches_11 : decode cX2_reaches 11 = .ok (.iconst 4, 1) := by decide +kernel
theorem dX2_reaches_12 : decode cX2_reaches 12 = .ok (.irem, 1) := by decide +kernel
theorem dX2_reaches_13 : decode cX2_reaches 13 = .ok (.if_icmp .gt 7, 3) := by decide +kernel
theorem dX2_reaches_16 : decode cX2_reaches 16 = .ok (.iconst 1, 1) := by decide +kernel
theorem dX2_reaches_17 : decode cX2_reaches 17 = .ok (.goto 4, 3) := by decide +kernel
theorem dX2_reaches_20 : decode cX2_reaches 20 = .ok (.iconst 0, 1) := by decide +kernel
theorem dX2_reaches_21 : decode cX2_reaches 21 = .ok (.ireturn, 1) := by decide +kernel
theorem dX2_countOf_0 : decode cX2_countOf 0 = .ok (.iconst 0, 1) := by decide +kernel
theorem dX2_countOf_1 : decode cX2_countOf 1 = .ok (.aload_n 0, 1) := by decide +kernel
theorem dX2_countOf_2 : decode cX2_countOf 2 = .ok (.getfield 15, 3) := by decide +kernel
theorem dX2_countOf_5 : decode cX2_countOf 5 = .ok (.iload_n 1, 1) := by decide +kernel
theorem dX2_countOf_6 : decode cX2_countOf 6 = .ok (.iaload, 1) := by decide +kernel
theorem dX2_countOf_7 : decode cX2_countOf 7 = .ok (.aload_n 0, 1) := by decide +kernel
theorem dX2_countOf_8 : decode cX2_countOf 8 = .ok (.getfield 9, 3) := by decide +kernel
theorem dX2_countOf_11 : decode cX2_countOf 11 = .ok (.iload_n 1, 1) := by decide +kernel
theorem dX2_countOf_12 : decode cX2_countOf 12 = .ok (.iaload, 1) := by decide +kernel
theorem dX2_countOf_13 : decode cX2_countOf 13 = .ok (.isub, 1) := by decide +kernel
theorem dX2_countOf_14 : decode cX2_countOf 14 = .ok (.iconst 1, 1) := by decide +kernel
theorem dX2_countOf_15 : decode cX2_countOf 15 = .ok (.iadd, 1) := by decide +kernel
theorem dX2_countOf_16 : decode cX2_countOf 16 = .ok (.invokestatic 48, 3) := by decide +kernel
theorem dX2_countOf_19 : decode cX2_countOf 19 = .ok (.ireturn, 1) := by decide +kernel
set_option maxRecDepth 20000 in
theorem ggX2_howMany_X2_countOf : GoodIn wsX2_howMany wsX2_countOf := goodIn_r _ [5, 6, 7, 8, 9, 10, 11, 12, 13, 14] (by decide +kernel) (by decide +kernel)
set_option maxRecDepth 20000 in
theorem gX2_howMany_X2_countOf : GoodIn wsX2_howMany (wsV RX2 67 RX2 yX2_countOf wsX2_countOf) := goodIn_app (goodIn_of _ (by decide +kernel)) ggX2_howMany_X2_countOf
theorem dX2_howMany_0 : decode cX2_howMany 0 = .ok (.iconst 0, 1) := by decide +kernel
theorem dX2_howMany_1 : decode cX2_howMany 1 = .ok (.istore_n 1, 1) := by decide +kernel
theorem dX2_howMany_2 : decode cX2_howMany 2 = .ok (.iconst 0, 1) := by decide +kernel
theorem dX2_howMany_3 : decode cX2_howMany 3 = .ok (.istore_n 2, 1) := by decide +kernel
theorem dX2_howMany_4 : decode cX2_howMany 4 = .ok (.iload_n 2, 1) := by decide +kernel
theorem dX2_howMany_5 : decode cX2_howMany 5 = .ok (.bipush 48, 2) := by decide +kernel
theorem dX2_howMany_7 : decode cX2_howMany 7 = .ok (.if_icmp .ge 17, 3) := by decide +kernel
theorem dX2_howMany_10 : decode cX2_howMany 10 = .ok (.iload_n 1, 1) := by decide +kernel
theorem dX2_howMany_11 : decode cX2_howMany 11 = .ok (.aload_n 0, 1) := by decide +kernel
theorem dX2_howMany_12 : decode cX2_howMany 12 = .ok (.iload_n 2, 1) := by decide +kernel
theorem dX2_howMany_13 : decode cX2_howMany 13 = .ok (.invokevirtual 67, 3) := by decide +kernel
theorem dX2_howMany_16 : decode cX2_howMany 16 = .ok (.iadd, 1) := by decide +kernel
theorem dX2_howMany_17 : decode cX2_howMany 17 = .ok (.istore_n 1, 1) := by decide +kernel
theorem dX2_howMany_18 : decode cX2_howMany 18 = .ok (.iinc 2 1, 3) := by decide +kernel
theorem dX2_howMany_21 : decode cX2_howMany 21 = .ok (.goto (-17), 3) := by decide +kernel
theorem dX2_howMany_24 : decode cX2_howMany 24 = .ok (.iload_n 1, 1) := by decide +kernel
theorem dX2_howMany_25 : decode cX2_howMany 25 = .ok (.ireturn, 1) := by decide +kernel
set_option maxRecDepth 20000 in
theorem ggX2_at_X2_countOf : GoodIn wsX2_at wsX2_countOf := goodIn_r _ [5, 6, 7, 8, 9, 10, 11, 19, 20, 21] (by decide +kernel) (by decide +kernel)
set_option maxRecDepth 20000 in
theorem gX2_at_X2_countOf : GoodIn wsX2_at (wsV RX2 67 RX2 yX2_countOf wsX2_countOf) := goodIn_app (goodIn_of _ (by decide +kernel)) ggX2_at_X2_countOf
set_option maxRecDepth 20000 in
theorem ggX2_at_X2_atWindow : GoodIn wsX2_at wsX2_atWindow := goodIn_r _ [15, 7, 6, 16, 17, 18, 19, 20, 21] (by decide +kernel) (by decide +kernel)
set_option maxRecDepth 20000 in
theorem gX2_at_X2_atWindow : GoodIn wsX2_at (wsV RX2 70 RX2 yX2_atWindow wsX2_atWindow) := goodIn_app (goodIn_of _ (by decide +kernel)) ggX2_at_X2_atWindow
theorem dX2_at_0 : decode cX2_at 0 = .ok (.iload_n 1, 1) := by decide +kernel
theorem dX2_at_1 : decode cX2_at 1 = .ok (.istore_n 2, 1) := by decide +kernel
theorem dX2_at_2 : decode cX2_at 2 = .ok (.iconst 0, 1) := by decide +kernel
theorem dX2_at_3 : decode cX2_at 3 = .ok (.istore_n 3, 1) := by decide +kernel
theorem dX2_at_4 : decode cX2_at 4 = .ok (.iload_n 3, 1) := by decide +kernel
theorem dX2_at_5 : decode cX2_at 5 = .ok (.bipush 12, 2) := by decide +kernel
theorem dX2_at_7 : decode cX2_at 7 = .ok (.if_icmp .ge 64, 3) := by decide +kernel
theorem dX2_at_10 : decode cX2_at 10 = .ok (.iload_n 2, 1) := by decide +kernel
theorem dX2_at_11 : decode cX2_at 11 = .ok (.ifCond .lt 60, 3) := by decide +kernel
theorem dX2_at_14 : decode cX2_at 14 = .ok (.iconst 0, 1) := by decide +kernel
theorem dX2_at_15 : decode cX2_at 15 = .ok (.istore 4, 2) := by decide +kernel
theorem dX2_at_17 : decode cX2_at 17 = .ok (.iconst 0, 1) := by decide +kernel
theorem dX2_at_18 : decode cX2_at 18 = .ok (.istore 5, 2) := by decide +kernel
theorem dX2_at_20 : decode cX2_at 20 = .ok (.iload 5, 2) := by decide +kernel
theorem dX2_at_22 : decode cX2_at 22 = .ok (.iconst 4, 1) := by decide +kernel
theorem dX2_at_23 : decode cX2_at 23 = .ok (.if_icmp .ge 24, 3) := by decide +kernel
theorem dX2_at_26 : decode cX2_at 26 = .ok (.iload 4, 2) := by decide +kernel
theorem dX2_at_28 : decode cX2_at 28 = .ok (.aload_n 0, 1) := by decide +kernel
theorem dX2_at_29 : decode cX2_at 29 = .ok (.iload_n 3, 1) := by decide +kernel
theorem dX2_at_30 : decode cX2_at 30 = .ok (.iconst 4, 1) := by decide +kernel
theorem dX2_at_31 : decode cX2_at 31 = .ok (.imul, 1) := by decide +kernel
theorem dX2_at_32 : decode cX2_at 32 = .ok (.iload 5, 2) := by decide +kernel
theorem dX2_at_34 : decode cX2_at 34 = .ok (.iadd, 1) := by decide +kernel
theorem dX2_at_35 : decode cX2_at 35 = .ok (.invokevirtual 67, 3) := by decide +kernel
theorem dX2_at_38 : decode cX2_at 38 = .ok (.iadd, 1) := by decide +kernel
theorem dX2_at_39 : decode cX2_at 39 = .ok (.istore 4, 2) := by decide +kernel
theorem dX2_at_41 : decode cX2_at 41 = .ok (.iinc 5 1, 3) := by decide +kernel
theorem dX2_at_44 : decode cX2_at 44 = .ok (.goto (-24), 3) := by decide +kernel
theorem dX2_at_47 : decode cX2_at 47 = .ok (.iload_n 2, 1) := by decide +kernel
theorem dX2_at_48 : decode cX2_at 48 = .ok (.iload 4, 2) := by decide +kernel
theorem dX2_at_50 : decode cX2_at 50 = .ok (.if_icmp .ge 10, 3) := by decide +kernel
theorem dX2_at_53 : decode cX2_at 53 = .ok (.aload_n 0, 1) := by decide +kernel
theorem dX2_at_54 : decode cX2_at 54 = .ok (.iload_n 3, 1) := by decide +kernel
theorem dX2_at_55 : decode cX2_at 55 = .ok (.iload_n 2, 1) := by decide +kernel
theorem dX2_at_56 : decode cX2_at 56 = .ok (.invokevirtual 70, 3) := by decide +kernel
theorem dX2_at_59 : decode cX2_at 59 = .ok (.ireturn, 1) := by decide +kernel
theorem dX2_at_60 : decode cX2_at 60 = .ok (.iload_n 2, 1) := by decide +kernel
theorem dX2_at_61 : decode cX2_at 61 = .ok (.iload 4, 2) := by decide +kernel
theorem dX2_at_63 : decode cX2_at 63 = .ok (.isub, 1) := by decide +kernel
theorem dX2_at_64 : decode cX2_at 64 = .ok (.istore_n 2, 1) := by decide +kernel
theorem dX2_at_65 : decode cX2_at 65 = .ok (.iinc 3 1, 3) := by decide +kernel
theorem dX2_at_68 : decode cX2_at 68 = .ok (.goto (-64), 3) := by decide +kernel
theorem dX2_at_71 : decode cX2_at 71 = .ok (.bipush (-6), 2) := by decide +kernel
theorem dX2_at_73 : decode cX2_at 73 = .ok (.ireturn, 1) := by decide +kernel
set_option maxRecDepth 20000 in
theorem ggX2_atWindow_X5_within : GoodIn wsX2_atWindow wsX5_within := goodIn_r _ [5] (by decide +kernel) (by decide +kernel)
set_option maxRecDepth 20000 in
theorem gX2_atWindow_X5_within_n73 : GoodIn wsX2_atWindow (wsX5_within) := ggX2_atWindow_X5_within
theorem dX2_atWindow_0 : decode cX2_atWindow 0 = .ok (.iload_n 2, 1) := by decide +kernel
theorem dX2_atWindow_1 : decode cX2_atWindow 1 = .ok (.istore_n 3, 1) := by decide +kernel
theorem dX2_atWindow_2 : decode cX2_atWindow 2 = .ok (.iconst 0, 1) := by decide +kernel
theorem dX2_atWindow_3 : decode cX2_atWindow 3 = .ok (.istore 4, 2) := by decide +kernel
theorem dX2_atWindow_5 : decode cX2_atWindow 5 = .ok (.iload 4, 2) := by decide +kernel
theorem dX2_atWindow_7 : decode cX2_atWindow 7 = .ok (.bipush 60, 2) := by decide +kernel
theorem dX2_atWindow_9 : decode cX2_atWindow 9 = .ok (.if_icmp .gt 76, 3) := by decide +kernel
theorem dX2_atWindow_12 : decode cX2_atWindow 12 = .ok (.iconst 0, 1) := by decide +kernel
theorem dX2_atWindow_13 : decode cX2_atWindow 13 = .ok (.istore 5, 2) := by decide +kernel
theorem dX2_atWindow_15 : decode cX2_atWindow 15 = .ok (.iload 5, 2) := by decide +kernel
theorem dX2_atWindow_17 : decode cX2_atWindow 17 = .ok (.iconst 4, 1) := by decide +kernel
theorem dX2_atWindow_18 : decode cX2_atWindow 18 = .ok (.if_icmp .ge 61, 3) := by decide +kernel
theorem dX2_atWindow_21 : decode cX2_atWindow 21 = .ok (.iload_n 1, 1) := by decide +kernel
theorem dX2_atWindow_22 : decode cX2_atWindow 22 = .ok (.iconst 4, 1) := by decide +kernel
theorem dX2_atWindow_23 : decode cX2_atWindow 23 = .ok (.imul, 1) := by decide +kernel
theorem dX2_atWindow_24 : decode cX2_atWindow 24 = .ok (.iload 5, 2) := by decide +kernel
theorem dX2_atWindow_26 : decode cX2_atWindow 26 = .ok (.iadd, 1) := by decide +kernel
theorem dX2_atWindow_27 : decode cX2_atWindow 27 = .ok (.istore 6, 2) := by decide +kernel
theorem dX2_atWindow_29 : decode cX2_atWindow 29 = .ok (.iload 4, 2) := by decide +kernel
theorem dX2_atWindow_31 : decode cX2_atWindow 31 = .ok (.aload_n 0, 1) := by decide +kernel
theorem dX2_atWindow_32 : decode cX2_atWindow 32 = .ok (.getfield 9, 3) := by decide +kernel
theorem dX2_atWindow_35 : decode cX2_atWindow 35 = .ok (.iload 6, 2) := by decide +kernel
theorem dX2_atWindow_37 : decode cX2_atWindow 37 = .ok (.iaload, 1) := by decide +kernel
theorem dX2_atWindow_38 : decode cX2_atWindow 38 = .ok (.aload_n 0, 1) := by decide +kernel
theorem dX2_atWindow_39 : decode cX2_atWindow 39 = .ok (.getfield 15, 3) := by decide +kernel
theorem dX2_atWindow_42 : decode cX2_atWindow 42 = .ok (.iload 6, 2) := by decide +kernel
theorem dX2_atWindow_44 : decode cX2_atWindow 44 = .ok (.iaload, 1) := by decide +kernel
theorem dX2_atWindow_45 : decode cX2_atWindow 45 = .ok (.invokestatic 73, 3) := by decide +kernel
theorem dX2_atWindow_48 : decode cX2_atWindow 48 = .ok (.ifCond .eq 25, 3) := by decide +kernel
theorem dX2_atWindow_51 : decode cX2_atWindow 51 = .ok (.iload_n 3, 1) := by decide +kernel
theorem dX2_atWindow_52 : decode cX2_atWindow 52 = .ok (.ifCond .ne 18, 3) := by decide +kernel
theorem dX2_atWindow_55 : decode cX2_atWindow 55 = .ok (.sipush 1000, 3) := by decide +kernel
theorem dX2_atWindow_58 : decode cX2_atWindow 58 = .ok (.iload_n 1, 1) := by decide +kernel
theorem dX2_atWindow_59 : decode cX2_atWindow 59 = .ok (.imul, 1) := by decide +kernel
theorem dX2_atWindow_60 : decode cX2_atWindow 60 = .ok (.bipush 10, 2) := by decide +kernel
theorem dX2_atWindow_62 : decode cX2_atWindow 62 = .ok (.iload 4, 2) := by decide +kernel
theorem dX2_atWindow_64 : decode cX2_atWindow 64 = .ok (.imul, 1) := by decide +kernel
theorem dX2_atWindow_65 : decode cX2_atWindow 65 = .ok (.iadd, 1) := by decide +kernel
theorem dX2_atWindow_66 : decode cX2_atWindow 66 = .ok (.iload 5, 2) := by decide +kernel
theorem dX2_atWindow_68 : decode cX2_atWindow 68 = .ok (.iadd, 1) := by decide +kernel
theorem dX2_atWindow_69 : decode cX2_atWindow 69 = .ok (.ireturn, 1) := by decide +kernel
theorem dX2_atWindow_70 : decode cX2_atWindow 70 = .ok (.iinc 3 (-1), 3) := by decide +kernel
theorem dX2_atWindow_73 : decode cX2_atWindow 73 = .ok (.iinc 5 1, 3) := by decide +kernel
theorem dX2_atWindow_76 : decode cX2_atWindow 76 = .ok (.goto (-61), 3) := by decide +kernel
theorem dX2_atWindow_79 : decode cX2_atWindow 79 = .ok (.iinc 4 1, 3) := by decide +kernel
theorem dX2_atWindow_82 : decode cX2_atWindow 82 = .ok (.goto (-77), 3) := by decide +kernel
theorem dX2_atWindow_85 : decode cX2_atWindow 85 = .ok (.bipush (-6), 2) := by decide +kernel
theorem dX2_atWindow_87 : decode cX2_atWindow 87 = .ok (.ireturn, 1) := by decide +kernel
set_option maxRecDepth 20000 in
theorem ggX2_mostLeft_X3_minutesLeft : GoodIn wsX2_mostLeft wsX3_minutesLeft := goodIn_r _ [15, 16, 17, 18, 19, 14, 20, 21, 22, 23, 24, 25, 26, 41, 42, 43, 44, 45, 46, 47, 48, 49, 50, 51, 52, 53, 54] (by decide +kernel) (by decide +kernel)
set_option maxRecDepth 20000 in
theorem gX2_mostLeft_X3_minutesLeft : GoodIn wsX2_mostLeft (wsV RX2 57 RX3 yX3_minutesLeft wsX3_minutesLeft) := goodIn_app (goodIn_of _ (by decide +kernel)) ggX2_mostLeft_X3_minutesLeft
set_option maxRecDepth 20000 in
theorem ggX2_mostLeft_X2_reaches : GoodIn wsX2_mostLeft wsX2_reaches := goodIn_r _ [30, 31, 32, 4, 33] (by decide +kernel) (by decide +kernel)
set_option maxRecDepth 20000 in
theorem gX2_mostLeft_X2_reaches : GoodIn wsX2_mostLeft (va_wsS RX2 44 yX2_reaches wsX2_reaches) := goodIn_app (goodIn_of _ (by decide +kernel)) ggX2_mostLeft_X2_reaches
set_option maxRecDepth 20000 in
theorem ggX2_mostLeft_X2_countOf : GoodIn wsX2_mostLeft wsX2_countOf := goodIn_r _ [37, 7, 6, 8, 9, 4, 10, 38, 39, 40] (by decide +kernel) (by decide +kernel)
set_option maxRecDepth 20000 in
theorem gX2_mostLeft_X2_countOf : GoodIn wsX2_mostLeft (wsV RX2 67 RX2 yX2_countOf wsX2_countOf) := goodIn_app (goodIn_of _ (by decide +kernel)) ggX2_mostLeft_X2_countOf
theorem dX2_mostLeft_0 : decode cX2_mostLeft 0 = .ok (.iconst 0, 1) := by decide +kernel
theorem dX2_mostLeft_1 : decode cX2_mostLeft 1 = .ok (.istore_n 3, 1) := by decide +kernel
theorem dX2_mostLeft_2 : decode cX2_mostLeft 2 = .ok (.iload_n 3, 1) := by decide +kernel
theorem dX2_mostLeft_3 : decode cX2_mostLeft 3 = .ok (.bipush 62, 2) := by decide +kernel
theorem dX2_mostLeft_5 : decode cX2_mostLeft 5 = .ok (.if_icmp .ge 16, 3) := by decide +kernel
theorem dX2_mostLeft_8 : decode cX2_mostLeft 8 = .ok (.aload_n 0, 1) := by decide +kernel
theorem dX2_mostLeft_9 : decode cX2_mostLeft 9 = .ok (.getfield 18, 3) := by decide +kernel
theorem dX2_mostLeft_12 : decode cX2_mostLeft 12 = .ok (.iload_n 3, 1) := by decide +kernel
theorem dX2_mostLeft_13 : decode cX2_mostLeft 13 = .ok (.iconst 0, 1) := by decide +kernel
theorem dX2_mostLeft_14 : decode cX2_mostLeft 14 = .ok (.iastore, 1) := by decide +kernel
theorem dX2_mostLeft_15 : decode cX2_mostLeft 15 = .ok (.iinc 3 1, 3) := by decide +kernel
theorem dX2_mostLeft_18 : decode cX2_mostLeft 18 = .ok (.goto (-16), 3) := by decide +kernel
theorem dX2_mostLeft_21 : decode cX2_mostLeft 21 = .ok (.bipush 60, 2) := by decide +kernel
theorem dX2_mostLeft_23 : decode cX2_mostLeft 23 = .ok (.aload_n 1, 1) := by decide +kernel
theorem dX2_mostLeft_24 : decode cX2_mostLeft 24 = .ok (.iload_n 2, 1) := by decide +kernel
theorem dX2_mostLeft_25 : decode cX2_mostLeft 25 = .ok (.invokevirtual 57, 3) := by decide +kernel
theorem dX2_mostLeft_28 : decode cX2_mostLeft 28 = .ok (.invokestatic 54, 3) := by decide +kernel
theorem dX2_mostLeft_31 : decode cX2_mostLeft 31 = .ok (.istore_n 3, 1) := by decide +kernel
theorem dX2_mostLeft_32 : decode cX2_mostLeft 32 = .ok (.iconst 0, 1) := by decide +kernel
theorem dX2_mostLeft_33 : decode cX2_mostLeft 33 = .ok (.istore 4, 2) := by decide +kernel
theorem dX2_mostLeft_35 : decode cX2_mostLeft 35 = .ok (.iconst 0, 1) := by decide +kernel
theorem dX2_mostLeft_36 : decode cX2_mostLeft 36 = .ok (.istore 5, 2) := by decide +kernel
theorem dX2_mostLeft_38 : decode cX2_mostLeft 38 = .ok (.iload 5, 2) := by decide +kernel
theorem dX2_mostLeft_40 : decode cX2_mostLeft 40 = .ok (.bipush 48, 2) := by decide +kernel
theorem dX2_mostLeft_42 : decode cX2_mostLeft 42 = .ok (.if_icmp .ge 75, 3) := by decide +kernel
theorem dX2_mostLeft_45 : decode cX2_mostLeft 45 = .ok (.iload 5, 2) := by decide +kernel
theorem dX2_mostLeft_47 : decode cX2_mostLeft 47 = .ok (.iload_n 2, 1) := by decide +kernel
theorem dX2_mostLeft_48 : decode cX2_mostLeft 48 = .ok (.invokestatic 44, 3) := by decide +kernel
theorem dX2_mostLeft_51 : decode cX2_mostLeft 51 = .ok (.ifCond .ne 17, 3) := by decide +kernel
theorem dX2_mostLeft_54 : decode cX2_mostLeft 54 = .ok (.iload 4, 2) := by decide +kernel
theorem dX2_mostLeft_56 : decode cX2_mostLeft 56 = .ok (.aload_n 0, 1) := by decide +kernel
theorem dX2_mostLeft_57 : decode cX2_mostLeft 57 = .ok (.iload 5, 2) := by decide +kernel
theorem dX2_mostLeft_59 : decode cX2_mostLeft 59 = .ok (.invokevirtual 67, 3) := by decide +kernel
theorem dX2_mostLeft_62 : decode cX2_mostLeft 62 = .ok (.iadd, 1) := by decide +kernel
theorem dX2_mostLeft_63 : decode cX2_mostLeft 63 = .ok (.istore 4, 2) := by decide +kernel
theorem dX2_mostLeft_65 : decode cX2_mostLeft 65 = .ok (.goto 46, 3) := by decide +kernel
theorem dX2_mostLeft_68 : decode cX2_mostLeft 68 = .ok (.aload_n 0, 1) := by decide +kernel
theorem dX2_mostLeft_69 : decode cX2_mostLeft 69 = .ok (.iload 5, 2) := by decide +kernel
theorem dX2_mostLeft_71 : decode cX2_mostLeft 71 = .ok (.invokevirtual 67, 3) := by decide +kernel
theorem dX2_mostLeft_74 : decode cX2_mostLeft 74 = .ok (.ifCond .le 37, 3) := by decide +kernel
theorem dX2_mostLeft_77 : decode cX2_mostLeft 77 = .ok (.aload_n 0, 1) := by decide +kernel
theorem dX2_mostLeft_78 : decode cX2_mostLeft 78 = .ok (.getfield 18, 3) := by decide +kernel
theorem dX2_mostLeft_81 : decode cX2_mostLeft 81 = .ok (.aload_n 0, 1) := by decide +kernel
theorem dX2_mostLeft_82 : decode cX2_mostLeft 82 = .ok (.getfield 9, 3) := by decide +kernel
theorem dX2_mostLeft_85 : decode cX2_mostLeft 85 = .ok (.iload 5, 2) := by decide +kernel
theorem dX2_mostLeft_87 : decode cX2_mostLeft 87 = .ok (.iaload, 1) := by decide +kernel
theorem dX2_mostLeft_88 : decode cX2_mostLeft 88 = .ok (.dup2, 1) := by decide +kernel
theorem dX2_mostLeft_89 : decode cX2_mostLeft 89 = .ok (.iaload, 1) := by decide +kernel
theorem dX2_mostLeft_90 : decode cX2_mostLeft 90 = .ok (.iconst 1, 1) := by decide +kernel
theorem dX2_mostLeft_91 : decode cX2_mostLeft 91 = .ok (.iadd, 1) := by decide +kernel
theorem dX2_mostLeft_92 : decode cX2_mostLeft 92 = .ok (.iastore, 1) := by decide +kernel
theorem dX2_mostLeft_93 : decode cX2_mostLeft 93 = .ok (.aload_n 0, 1) := by decide +kernel
theorem dX2_mostLeft_94 : decode cX2_mostLeft 94 = .ok (.getfield 18, 3) := by decide +kernel
theorem dX2_mostLeft_97 : decode cX2_mostLeft 97 = .ok (.aload_n 0, 1) := by decide +kernel
theorem dX2_mostLeft_98 : decode cX2_mostLeft 98 = .ok (.getfield 15, 3) := by decide +kernel
theorem dX2_mostLeft_101 : decode cX2_mostLeft 101 = .ok (.iload 5, 2) := by decide +kernel
theorem dX2_mostLeft_103 : decode cX2_mostLeft 103 = .ok (.iaload, 1) := by decide +kernel
theorem dX2_mostLeft_104 : decode cX2_mostLeft 104 = .ok (.iconst 1, 1) := by decide +kernel
theorem dX2_mostLeft_105 : decode cX2_mostLeft 105 = .ok (.iadd, 1) := by decide +kernel
theorem dX2_mostLeft_106 : decode cX2_mostLeft 106 = .ok (.dup2, 1) := by decide +kernel
theorem dX2_mostLeft_107 : decode cX2_mostLeft 107 = .ok (.iaload, 1) := by decide +kernel
theorem dX2_mostLeft_108 : decode cX2_mostLeft 108 = .ok (.iconst 1, 1) := by decide +kernel
theorem dX2_mostLeft_109 : decode cX2_mostLeft 109 = .ok (.isub, 1) := by decide +kernel
theorem dX2_mostLeft_110 : decode cX2_mostLeft 110 = .ok (.iastore, 1) := by decide +kernel
theorem dX2_mostLeft_111 : decode cX2_mostLeft 111 = .ok (.iinc 5 1, 3) := by decide +kernel
theorem dX2_mostLeft_114 : decode cX2_mostLeft 114 = .ok (.goto (-76), 3) := by decide +kernel
theorem dX2_mostLeft_117 : decode cX2_mostLeft 117 = .ok (.iconst 0, 1) := by decide +kernel
theorem dX2_mostLeft_118 : decode cX2_mostLeft 118 = .ok (.istore 5, 2) := by decide +kernel
theorem dX2_mostLeft_120 : decode cX2_mostLeft 120 = .ok (.iconst 0, 1) := by decide +kernel
theorem dX2_mostLeft_121 : decode cX2_mostLeft 121 = .ok (.istore 6, 2) := by decide +kernel
theorem dX2_mostLeft_123 : decode cX2_mostLeft 123 = .ok (.iconst 0, 1) := by decide +kernel
theorem dX2_mostLeft_124 : decode cX2_mostLeft 124 = .ok (.istore 7, 2) := by decide +kernel
theorem dX2_mostLeft_126 : decode cX2_mostLeft 126 = .ok (.iload 7, 2) := by decide +kernel
theorem dX2_mostLeft_128 : decode cX2_mostLeft 128 = .ok (.bipush 60, 2) := by decide +kernel
theorem dX2_mostLeft_130 : decode cX2_mostLeft 130 = .ok (.if_icmp .gt 46, 3) := by decide +kernel
theorem dX2_mostLeft_133 : decode cX2_mostLeft 133 = .ok (.iload 6, 2) := by decide +kernel
theorem dX2_mostLeft_135 : decode cX2_mostLeft 135 = .ok (.aload_n 0, 1) := by decide +kernel
theorem dX2_mostLeft_136 : decode cX2_mostLeft 136 = .ok (.getfield 18, 3) := by decide +kernel
theorem dX2_mostLeft_139 : decode cX2_mostLeft 139 = .ok (.iload 7, 2) := by decide +kernel
theorem dX2_mostLeft_141 : decode cX2_mostLeft 141 = .ok (.iaload, 1) := by decide +kernel
theorem dX2_mostLeft_142 : decode cX2_mostLeft 142 = .ok (.iadd, 1) := by decide +kernel
theorem dX2_mostLeft_143 : decode cX2_mostLeft 143 = .ok (.istore 6, 2) := by decide +kernel
theorem dX2_mostLeft_145 : decode cX2_mostLeft 145 = .ok (.iload 7, 2) := by decide +kernel
theorem dX2_mostLeft_147 : decode cX2_mostLeft 147 = .ok (.iload_n 3, 1) := by decide +kernel
theorem dX2_mostLeft_148 : decode cX2_mostLeft 148 = .ok (.if_icmp .ge 15, 3) := by decide +kernel
theorem dX2_mostLeft_151 : decode cX2_mostLeft 151 = .ok (.iload 5, 2) := by decide +kernel
theorem dX2_mostLeft_153 : decode cX2_mostLeft 153 = .ok (.iload 6, 2) := by decide +kernel
theorem dX2_mostLeft_155 : decode cX2_mostLeft 155 = .ok (.invokestatic 48, 3) := by decide +kernel
theorem dX2_mostLeft_158 : decode cX2_mostLeft 158 = .ok (.istore 5, 2) := by decide +kernel
theorem dX2_mostLeft_160 : decode cX2_mostLeft 160 = .ok (.goto 10, 3) := by decide +kernel
theorem dX2_mostLeft_163 : decode cX2_mostLeft 163 = .ok (.iload 4, 2) := by decide +kernel
theorem dX2_mostLeft_165 : decode cX2_mostLeft 165 = .ok (.iload 6, 2) := by decide +kernel
theorem dX2_mostLeft_167 : decode cX2_mostLeft 167 = .ok (.iadd, 1) := by decide +kernel
theorem dX2_mostLeft_168 : decode cX2_mostLeft 168 = .ok (.istore 4, 2) := by decide +kernel
theorem dX2_mostLeft_170 : decode cX2_mostLeft 170 = .ok (.iinc 7 1, 3) := by decide +kernel
theorem dX2_mostLeft_173 : decode cX2_mostLeft 173 = .ok (.goto (-47), 3) := by decide +kernel
theorem dX2_mostLeft_176 : decode cX2_mostLeft 176 = .ok (.iload 5, 2) := by decide +kernel
theorem dX2_mostLeft_178 : decode cX2_mostLeft 178 = .ok (.iload 4, 2) := by decide +kernel
theorem dX2_mostLeft_180 : decode cX2_mostLeft 180 = .ok (.invokestatic 48, 3) := by decide +kernel
theorem dX2_mostLeft_183 : decode cX2_mostLeft 183 = .ok (.ireturn, 1) := by decide +kernel
set_option maxRecDepth 20000 in
theorem ggX3_init_X5_bit : GoodIn wsX3_init wsX5_bit := goodIn_r _ [18] (by decide +kernel) (by decide +kernel)
set_option maxRecDepth 20000 in
theorem gX3_init_X5_bit_n46 : GoodIn wsX3_init (wsX5_bit) := ggX3_init_X5_bit
theorem dX3_init_0 : decode cX3_init 0 = .ok (.aload_n 0, 1) := by decide +kernel
theorem dX3_init_1 : decode cX3_init 1 = .ok (.invokespecial 3, 3) := by decide +kernel
theorem dX3_init_4 : decode cX3_init 4 = .ok (.aload_n 0, 1) := by decide +kernel
theorem dX3_init_5 : decode cX3_init 5 = .ok (.bipush 12, 2) := by decide +kernel
theorem dX3_init_7 : decode cX3_init 7 = .ok (.newarray .int, 2) := by decide +kernel
theorem dX3_init_9 : decode cX3_init 9 = .ok (.putfield 9, 3) := by decide +kernel
theorem dX3_init_12 : decode cX3_init 12 = .ok (.aload_n 0, 1) := by decide +kernel
theorem dX3_init_13 : decode cX3_init 13 = .ok (.bipush 12, 2) := by decide +kernel
theorem dX3_init_15 : decode cX3_init 15 = .ok (.newarray .int, 2) := by decide +kernel
theorem dX3_init_17 : decode cX3_init 17 = .ok (.putfield 15, 3) := by decide +kernel
theorem dX3_init_20 : decode cX3_init 20 = .ok (.aload_n 0, 1) := by decide +kernel
theorem dX3_init_21 : decode cX3_init 21 = .ok (.bipush 12, 2) := by decide +kernel
theorem dX3_init_23 : decode cX3_init 23 = .ok (.newarray .int, 2) := by decide +kernel
theorem dX3_init_25 : decode cX3_init 25 = .ok (.putfield 18, 3) := by decide +kernel
theorem dX3_init_28 : decode cX3_init 28 = .ok (.aload_n 0, 1) := by decide +kernel
theorem dX3_init_29 : decode cX3_init 29 = .ok (.bipush 12, 2) := by decide +kernel
theorem dX3_init_31 : decode cX3_init 31 = .ok (.newarray .int, 2) := by decide +kernel
theorem dX3_init_33 : decode cX3_init 33 = .ok (.putfield 21, 3) := by decide +kernel
theorem dX3_init_36 : decode cX3_init 36 = .ok (.aload_n 0, 1) := by decide +kernel
theorem dX3_init_37 : decode cX3_init 37 = .ok (.bipush 12, 2) := by decide +kernel
theorem dX3_init_39 : decode cX3_init 39 = .ok (.newarray .int, 2) := by decide +kernel
theorem dX3_init_41 : decode cX3_init 41 = .ok (.putfield 24, 3) := by decide +kernel
theorem dX3_init_44 : decode cX3_init 44 = .ok (.aload_n 0, 1) := by decide +kernel
theorem dX3_init_45 : decode cX3_init 45 = .ok (.bipush 12, 2) := by decide +kernel
theorem dX3_init_47 : decode cX3_init 47 = .ok (.newarray .int, 2) := by decide +kernel
theorem dX3_init_49 : decode cX3_init 49 = .ok (.putfield 27, 3) := by decide +kernel
theorem dX3_init_52 : decode cX3_init 52 = .ok (.aload_n 0, 1) := by decide +kernel
theorem dX3_init_53 : decode cX3_init 53 = .ok (.bipush 12, 2) := by decide +kernel
theorem dX3_init_55 : decode cX3_init 55 = .ok (.newarray .int, 2) := by decide +kernel
theorem dX3_init_57 : decode cX3_init 57 = .ok (.putfield 30, 3) := by decide +kernel
theorem dX3_init_60 : decode cX3_init 60 = .ok (.aload_n 0, 1) := by decide +kernel
theorem dX3_init_61 : decode cX3_init 61 = .ok (.bipush 6, 2) := by decide +kernel
theorem dX3_init_63 : decode cX3_init 63 = .ok (.newarray .int, 2) := by decide +kernel
theorem dX3_init_65 : decode cX3_init 65 = .ok (.putfield 33, 3) := by decide +kernel
theorem dX3_init_68 : decode cX3_init 68 = .ok (.aload_n 0, 1) := by decide +kernel
theorem dX3_init_69 : decode cX3_init 69 = .ok (.bipush 8, 2) := by decide +kernel
theorem dX3_init_71 : decode cX3_init 71 = .ok (.newarray .int, 2) := by decide +kernel
theorem dX3_init_73 : decode cX3_init 73 = .ok (.putfield 36, 3) := by decide +kernel
theorem dX3_init_76 : decode cX3_init 76 = .ok (.aload_n 0, 1) := by decide +kernel
theorem dX3_init_77 : decode cX3_init 77 = .ok (.bipush 8, 2) := by decide +kernel
theorem dX3_init_79 : decode cX3_init 79 = .ok (.newarray .int, 2) := by decide +kernel
theorem dX3_init_81 : decode cX3_init 81 = .ok (.putfield 39, 3) := by decide +kernel
theorem dX3_init_84 : decode cX3_init 84 = .ok (.aload_n 0, 1) := by decide +kernel
theorem dX3_init_85 : decode cX3_init 85 = .ok (.bipush 20, 2) := by decide +kernel
theorem dX3_init_87 : decode cX3_init 87 = .ok (.putfield 42, 3) := by decide +kernel
theorem dX3_init_90 : decode cX3_init 90 = .ok (.iconst 0, 1) := by decide +kernel
theorem dX3_init_91 : decode cX3_init 91 = .ok (.istore_n 1, 1) := by decide +kernel
theorem dX3_init_92 : decode cX3_init 92 = .ok (.iload_n 1, 1) := by decide +kernel
theorem dX3_init_93 : decode cX3_init 93 = .ok (.bipush 12, 2) := by decide +kernel
theorem dX3_init_95 : decode cX3_init 95 = .ok (.if_icmp .ge 19, 3) := by decide +kernel
theorem dX3_init_98 : decode cX3_init 98 = .ok (.aload_n 0, 1) := by decide +kernel
theorem dX3_init_99 : decode cX3_init 99 = .ok (.getfield 30, 3) := by decide +kernel
theorem dX3_init_102 : decode cX3_init 102 = .ok (.iload_n 1, 1) := by decide +kernel
theorem dX3_init_103 : decode cX3_init 103 = .ok (.iload_n 1, 1) := by decide +kernel
theorem dX3_init_104 : decode cX3_init 104 = .ok (.invokestatic 46, 3) := by decide +kernel
theorem dX3_init_107 : decode cX3_init 107 = .ok (.iastore, 1) := by decide +kernel
theorem dX3_init_108 : decode cX3_init 108 = .ok (.iinc 1 1, 3) := by decide +kernel
theorem dX3_init_111 : decode cX3_init 111 = .ok (.goto (-19), 3) := by decide +kernel
theorem dX3_init_114 : decode cX3_init 114 = .ok (.iconst 0, 1) := by decide +kernel
theorem dX3_init_115 : decode cX3_init 115 = .ok (.istore_n 1, 1) := by decide +kernel
theorem dX3_init_116 : decode cX3_init 116 = .ok (.iload_n 1, 1) := by decide +kernel
theorem dX3_init_117 : decode cX3_init 117 = .ok (.bipush 6, 2) := by decide +kernel
theorem dX3_init_119 : decode cX3_init 119 = .ok (.if_icmp .ge 17, 3) := by decide +kernel
theorem dX3_init_122 : decode cX3_init 122 = .ok (.aload_n 0, 1) := by decide +kernel
theorem dX3_init_123 : decode cX3_init 123 = .ok (.getfield 33, 3) := by decide +kernel
theorem dX3_init_126 : decode cX3_init 126 = .ok (.iload_n 1, 1) := by decide +kernel
theorem dX3_init_127 : decode cX3_init 127 = .ok (.bipush 100, 2) := by decide +kernel
theorem dX3_init_129 : decode cX3_init 129 = .ok (.iastore, 1) := by decide +kernel
theorem dX3_init_130 : decode cX3_init 130 = .ok (.iinc 1 1, 3) := by decide +kernel
theorem dX3_init_133 : decode cX3_init 133 = .ok (.goto (-17), 3) := by decide +kernel
theorem dX3_init_136 : decode cX3_init 136 = .ok (.return_, 1) := by decide +kernel
theorem dX3_copyFrom_0 : decode cX3_copyFrom 0 = .ok (.aload_n 1, 1) := by decide +kernel
theorem dX3_copyFrom_1 : decode cX3_copyFrom 1 = .ok (.getfield 9, 3) := by decide +kernel
theorem dX3_copyFrom_4 : decode cX3_copyFrom 4 = .ok (.iconst 0, 1) := by decide +kernel
theorem dX3_copyFrom_5 : decode cX3_copyFrom 5 = .ok (.aload_n 0, 1) := by decide +kernel
theorem dX3_copyFrom_6 : decode cX3_copyFrom 6 = .ok (.getfield 9, 3) := by decide +kernel
theorem dX3_copyFrom_9 : decode cX3_copyFrom 9 = .ok (.iconst 0, 1) := by decide +kernel
theorem dX3_copyFrom_10 : decode cX3_copyFrom 10 = .ok (.bipush 12, 2) := by decide +kernel
theorem dX3_copyFrom_12 : decode cX3_copyFrom 12 = .ok (.invokestatic 50, 3) := by decide +kernel
theorem dX3_copyFrom_15 : decode cX3_copyFrom 15 = .ok (.aload_n 1, 1) := by decide +kernel
theorem dX3_copyFrom_16 : decode cX3_copyFrom 16 = .ok (.getfield 15, 3) := by decide +kernel
theorem dX3_copyFrom_19 : decode cX3_copyFrom 19 = .ok (.iconst 0, 1) := by decide +kernel
theorem dX3_copyFrom_20 : decode cX3_copyFrom 20 = .ok (.aload_n 0, 1) := by decide +kernel
theorem dX3_copyFrom_21 : decode cX3_copyFrom 21 = .ok (.getfield 15, 3) := by decide +kernel
theorem dX3_copyFrom_24 : decode cX3_copyFrom 24 = .ok (.iconst 0, 1) := by decide +kernel
theorem dX3_copyFrom_25 : decode cX3_copyFrom 25 = .ok (.bipush 12, 2) := by decide +kernel
theorem dX3_copyFrom_27 : decode cX3_copyFrom 27 = .ok (.invokestatic 50, 3) := by decide +kernel
theorem dX3_copyFrom_30 : decode cX3_copyFrom 30 = .ok (.aload_n 1, 1) := by decide +kernel
theorem dX3_copyFrom_31 : decode cX3_copyFrom 31 = .ok (.getfield 18, 3) := by decide +kernel
theorem dX3_copyFrom_34 : decode cX3_copyFrom 34 = .ok (.iconst 0, 1) := by decide +kernel
theorem dX3_copyFrom_35 : decode cX3_copyFrom 35 = .ok (.aload_n 0, 1) := by decide +kernel
theorem dX3_copyFrom_36 : decode cX3_copyFrom 36 = .ok (.getfield 18, 3) := by decide +kernel
theorem dX3_copyFrom_39 : decode cX3_copyFrom 39 = .ok (.iconst 0, 1) := by decide +kernel
theorem dX3_copyFrom_40 : decode cX3_copyFrom 40 = .ok (.bipush 12, 2) := by decide +kernel
theorem dX3_copyFrom_42 : decode cX3_copyFrom 42 = .ok (.invokestatic 50, 3) := by decide +kernel
theorem dX3_copyFrom_45 : decode cX3_copyFrom 45 = .ok (.aload_n 1, 1) := by decide +kernel
theorem dX3_copyFrom_46 : decode cX3_copyFrom 46 = .ok (.getfield 21, 3) := by decide +kernel
theorem dX3_copyFrom_49 : decode cX3_copyFrom 49 = .ok (.iconst 0, 1) := by decide +kernel
theorem dX3_copyFrom_50 : decode cX3_copyFrom 50 = .ok (.aload_n 0, 1) := by decide +kernel
theorem dX3_copyFrom_51 : decode cX3_copyFrom 51 = .ok (.getfield 21, 3) := by decide +kernel
theorem dX3_copyFrom_54 : decode cX3_copyFrom 54 = .ok (.iconst 0, 1) := by decide +kernel
theorem dX3_copyFrom_55 : decode cX3_copyFrom 55 = .ok (.bipush 12, 2) := by decide +kernel
theorem dX3_copyFrom_57 : decode cX3_copyFrom 57 = .ok (.invokestatic 50, 3) := by decide +kernel
theorem dX3_copyFrom_60 : decode cX3_copyFrom 60 = .ok (.aload_n 1, 1) := by decide +kernel
theorem dX3_copyFrom_61 : decode cX3_copyFrom 61 = .ok (.getfield 24, 3) := by decide +kernel
theorem dX3_copyFrom_64 : decode cX3_copyFrom 64 = .ok (.iconst 0, 1) := by decide +kernel
theorem dX3_copyFrom_65 : decode cX3_copyFrom 65 = .ok (.aload_n 0, 1) := by decide +kernel
theorem dX3_copyFrom_66 : decode cX3_copyFrom 66 = .ok (.getfield 24, 3) := by decide +kernel
theorem dX3_copyFrom_69 : decode cX3_copyFrom 69 = .ok (.iconst 0, 1) := by decide +kernel
theorem dX3_copyFrom_70 : decode cX3_copyFrom 70 = .ok (.bipush 12, 2) := by decide +kernel
theorem dX3_copyFrom_72 : decode cX3_copyFrom 72 = .ok (.invokestatic 50, 3) := by decide +kernel
theorem dX3_copyFrom_75 : decode cX3_copyFrom 75 = .ok (.aload_n 1, 1) := by decide +kernel
theorem dX3_copyFrom_76 : decode cX3_copyFrom 76 = .ok (.getfield 27, 3) := by decide +kernel
theorem dX3_copyFrom_79 : decode cX3_copyFrom 79 = .ok (.iconst 0, 1) := by decide +kernel
theorem dX3_copyFrom_80 : decode cX3_copyFrom 80 = .ok (.aload_n 0, 1) := by decide +kernel
theorem dX3_copyFrom_81 : decode cX3_copyFrom 81 = .ok (.getfield 27, 3) := by decide +kernel
theorem dX3_copyFrom_84 : decode cX3_copyFrom 84 = .ok (.iconst 0, 1) := by decide +kernel
theorem dX3_copyFrom_85 : decode cX3_copyFrom 85 = .ok (.bipush 12, 2) := by decide +kernel
theorem dX3_copyFrom_87 : decode cX3_copyFrom 87 = .ok (.invokestatic 50, 3) := by decide +kernel
theorem dX3_copyFrom_90 : decode cX3_copyFrom 90 = .ok (.aload_n 1, 1) := by decide +kernel
theorem dX3_copyFrom_91 : decode cX3_copyFrom 91 = .ok (.getfield 30, 3) := by decide +kernel
theorem dX3_copyFrom_94 : decode cX3_copyFrom 94 = .ok (.iconst 0, 1) := by decide +kernel
theorem dX3_copyFrom_95 : decode cX3_copyFrom 95 = .ok (.aload_n 0, 1) := by decide +kernel
theorem dX3_copyFrom_96 : decode cX3_copyFrom 96 = .ok (.getfield 30, 3) := by decide +kernel
theorem dX3_copyFrom_99 : decode cX3_copyFrom 99 = .ok (.iconst 0, 1) := by decide +kernel
theorem dX3_copyFrom_100 : decode cX3_copyFrom 100 = .ok (.bipush 12, 2) := by decide +kernel
theorem dX3_copyFrom_102 : decode cX3_copyFrom 102 = .ok (.invokestatic 50, 3) := by decide +kernel
theorem dX3_copyFrom_105 : decode cX3_copyFrom 105 = .ok (.aload_n 1, 1) := by decide +kernel
theorem dX3_copyFrom_106 : decode cX3_copyFrom 106 = .ok (.getfield 33, 3) := by decide +kernel
theorem dX3_copyFrom_109 : decode cX3_copyFrom 109 = .ok (.iconst 0, 1) := by decide +kernel
theorem dX3_copyFrom_110 : decode cX3_copyFrom 110 = .ok (.aload_n 0, 1) := by decide +kernel
theorem dX3_copyFrom_111 : decode cX3_copyFrom 111 = .ok (.getfield 33, 3) := by decide +kernel
theorem dX3_copyFrom_114 : decode cX3_copyFrom 114 = .ok (.iconst 0, 1) := by decide +kernel
theorem dX3_copyFrom_115 : decode cX3_copyFrom 115 = .ok (.bipush 6, 2) := by decide +kernel
theorem dX3_copyFrom_117 : decode cX3_copyFrom 117 = .ok (.invokestatic 50, 3) := by decide +kernel
theorem dX3_copyFrom_120 : decode cX3_copyFrom 120 = .ok (.aload_n 1, 1) := by decide +kernel
theorem dX3_copyFrom_121 : decode cX3_copyFrom 121 = .ok (.getfield 36, 3) := by decide +kernel
theorem dX3_copyFrom_124 : decode cX3_copyFrom 124 = .ok (.iconst 0, 1) := by decide +kernel
theorem dX3_copyFrom_125 : decode cX3_copyFrom 125 = .ok (.aload_n 0, 1) := by decide +kernel
theorem dX3_copyFrom_126 : decode cX3_copyFrom 126 = .ok (.getfield 36, 3) := by decide +kernel
theorem dX3_copyFrom_129 : decode cX3_copyFrom 129 = .ok (.iconst 0, 1) := by decide +kernel
theorem dX3_copyFrom_130 : decode cX3_copyFrom 130 = .ok (.bipush 8, 2) := by decide +kernel
theorem dX3_copyFrom_132 : decode cX3_copyFrom 132 = .ok (.invokestatic 50, 3) := by decide +kernel
theorem dX3_copyFrom_135 : decode cX3_copyFrom 135 = .ok (.aload_n 1, 1) := by decide +kernel
theorem dX3_copyFrom_136 : decode cX3_copyFrom 136 = .ok (.getfield 39, 3) := by decide +kernel
theorem dX3_copyFrom_139 : decode cX3_copyFrom 139 = .ok (.iconst 0, 1) := by decide +kernel
theorem dX3_copyFrom_140 : decode cX3_copyFrom 140 = .ok (.aload_n 0, 1) := by decide +kernel
theorem dX3_copyFrom_141 : decode cX3_copyFrom 141 = .ok (.getfield 39, 3) := by decide +kernel
theorem dX3_copyFrom_144 : decode cX3_copyFrom 144 = .ok (.iconst 0, 1) := by decide +kernel
theorem dX3_copyFrom_145 : decode cX3_copyFrom 145 = .ok (.bipush 8, 2) := by decide +kernel
theorem dX3_copyFrom_147 : decode cX3_copyFrom 147 = .ok (.invokestatic 50, 3) := by decide +kernel
theorem dX3_copyFrom_150 : decode cX3_copyFrom 150 = .ok (.aload_n 0, 1) := by decide +kernel
theorem dX3_copyFrom_151 : decode cX3_copyFrom 151 = .ok (.aload_n 1, 1) := by decide +kernel
theorem dX3_copyFrom_152 : decode cX3_copyFrom 152 = .ok (.getfield 56, 3) := by decide +kernel
theorem dX3_copyFrom_155 : decode cX3_copyFrom 155 = .ok (.putfield 56, 3) := by decide +kernel
theorem dX3_copyFrom_158 : decode cX3_copyFrom 158 = .ok (.aload_n 0, 1) := by decide +kernel
theorem dX3_copyFrom_159 : decode cX3_copyFrom 159 = .ok (.aload_n 1, 1) := by decide +kernel
theorem dX3_copyFrom_160 : decode cX3_copyFrom 160 = .ok (.getfield 59, 3) := by decide +kernel
theorem dX3_copyFrom_163 : decode cX3_copyFrom 163 = .ok (.putfield 59, 3) := by decide +kernel
theorem dX3_copyFrom_166 : decode cX3_copyFrom 166 = .ok (.aload_n 0, 1) := by decide +kernel
theorem dX3_copyFrom_167 : decode cX3_copyFrom 167 = .ok (.aload_n 1, 1) := by decide +kernel
theorem dX3_copyFrom_168 : decode cX3_copyFrom 168 = .ok (.getfield 42, 3) := by decide +kernel
theorem dX3_copyFrom_171 : decode cX3_copyFrom 171 = .ok (.putfield 42, 3) := by decide +kernel
theorem dX3_copyFrom_174 : decode cX3_copyFrom 174 = .ok (.aload_n 0, 1) := by decide +kernel
theorem dX3_copyFrom_175 : decode cX3_copyFrom 175 = .ok (.aload_n 1, 1) := by decide +kernel
theorem dX3_copyFrom_176 : decode cX3_copyFrom 176 = .ok (.getfield 62, 3) := by decide +kernel
theorem dX3_copyFrom_179 : decode cX3_copyFrom 179 = .ok (.putfield 62, 3) := by decide +kernel
theorem dX3_copyFrom_182 : decode cX3_copyFrom 182 = .ok (.return_, 1) := by decide +kernel
set_option maxRecDepth 20000 in
theorem ggX3_place_X5_bit : GoodIn wsX3_place wsX5_bit := goodIn_r _ [9] (by decide +kernel) (by decide +kernel)
set_option maxRecDepth 20000 in
theorem gX3_place_X5_bit_n46 : GoodIn wsX3_place (wsX5_bit) := ggX3_place_X5_bit
set_option maxRecDepth 20000 in
theorem ggX3_place_X3_part : GoodIn wsX3_place wsX3_part := goodIn_r _ [14, 15, 7, 8, 9, 16, 17, 18, 19, 20, 21, 22, 23, 24, 25, 26, 27, 28, 29] (by decide +kernel) (by decide +kernel)
set_option maxRecDepth 20000 in
theorem gX3_place_X3_part : GoodIn wsX3_place (wsV RX3 65 RX3 yX3_part wsX3_part) := goodIn_app (goodIn_of _ (by decide +kernel)) ggX3_place_X3_part
theorem dX3_place_0 : decode cX3_place 0 = .ok (.aload_n 0, 1) := by decide +kernel
theorem dX3_place_1 : decode cX3_place 1 = .ok (.getfield 9, 3) := by decide +kernel
theorem dX3_place_4 : decode cX3_place 4 = .ok (.iload_n 1, 1) := by decide +kernel
theorem dX3_place_5 : decode cX3_place 5 = .ok (.iload_n 2, 1) := by decide +kernel
theorem dX3_place_6 : decode cX3_place 6 = .ok (.iastore, 1) := by decide +kernel
theorem dX3_place_7 : decode cX3_place 7 = .ok (.aload_n 0, 1) := by decide +kernel
theorem dX3_place_8 : decode cX3_place 8 = .ok (.getfield 21, 3) := by decide +kernel
theorem dX3_place_11 : decode cX3_place 11 = .ok (.iload_n 1, 1) := by decide +kernel
theorem dX3_place_12 : decode cX3_place 12 = .ok (.iload_n 3, 1) := by decide +kernel
theorem dX3_place_13 : decode cX3_place 13 = .ok (.iastore, 1) := by decide +kernel
theorem dX3_place_14 : decode cX3_place 14 = .ok (.aload_n 0, 1) := by decide +kernel
theorem dX3_place_15 : decode cX3_place 15 = .ok (.getfield 24, 3) := by decide +kernel
theorem dX3_place_18 : decode cX3_place 18 = .ok (.iload_n 1, 1) := by decide +kernel
theorem dX3_place_19 : decode cX3_place 19 = .ok (.iload 4, 2) := by decide +kernel
theorem dX3_place_21 : decode cX3_place 21 = .ok (.iastore, 1) := by decide +kernel
theorem dX3_place_22 : decode cX3_place 22 = .ok (.aload_n 0, 1) := by decide +kernel
theorem dX3_place_23 : decode cX3_place 23 = .ok (.getfield 27, 3) := by decide +kernel
theorem dX3_place_26 : decode cX3_place 26 = .ok (.iload_n 1, 1) := by decide +kernel
theorem dX3_place_27 : decode cX3_place 27 = .ok (.iload 5, 2) := by decide +kernel
theorem dX3_place_29 : decode cX3_place 29 = .ok (.iastore, 1) := by decide +kernel
theorem dX3_place_30 : decode cX3_place 30 = .ok (.aload_n 0, 1) := by decide +kernel
theorem dX3_place_31 : decode cX3_place 31 = .ok (.getfield 15, 3) := by decide +kernel
theorem dX3_place_34 : decode cX3_place 34 = .ok (.iload_n 1, 1) := by decide +kernel
theorem dX3_place_35 : decode cX3_place 35 = .ok (.iconst 0, 1) := by decide +kernel
theorem dX3_place_36 : decode cX3_place 36 = .ok (.iastore, 1) := by decide +kernel
theorem dX3_place_37 : decode cX3_place 37 = .ok (.aload_n 0, 1) := by decide +kernel
theorem dX3_place_38 : decode cX3_place 38 = .ok (.dup, 1) := by decide +kernel
theorem dX3_place_39 : decode cX3_place 39 = .ok (.getfield 59, 3) := by decide +kernel
theorem dX3_place_42 : decode cX3_place 42 = .ok (.iload_n 1, 1) := by decide +kernel
theorem dX3_place_43 : decode cX3_place 43 = .ok (.invokestatic 46, 3) := by decide +kernel
theorem dX3_place_46 : decode cX3_place 46 = .ok (.iconst (-1), 1) := by decide +kernel
theorem dX3_place_47 : decode cX3_place 47 = .ok (.ixor, 1) := by decide +kernel
theorem dX3_place_48 : decode cX3_place 48 = .ok (.iand, 1) := by decide +kernel
theorem dX3_place_49 : decode cX3_place 49 = .ok (.putfield 59, 3) := by decide +kernel
theorem dX3_place_52 : decode cX3_place 52 = .ok (.aload_n 0, 1) := by decide +kernel
theorem dX3_place_53 : decode cX3_place 53 = .ok (.iload_n 1, 1) := by decide +kernel
theorem dX3_place_54 : decode cX3_place 54 = .ok (.invokevirtual 65, 3) := by decide +kernel
theorem dX3_place_57 : decode cX3_place 57 = .ok (.return_, 1) := by decide +kernel
theorem dX3_addSight_0 : decode cX3_addSight 0 = .ok (.aload_n 0, 1) := by decide +kernel
theorem dX3_addSight_1 : decode cX3_addSight 1 = .ok (.getfield 56, 3) := by decide +kernel
theorem dX3_addSight_4 : decode cX3_addSight 4 = .ok (.bipush 8, 2) := by decide +kernel
theorem dX3_addSight_6 : decode cX3_addSight 6 = .ok (.if_icmp .lt 5, 3) := by decide +kernel
theorem dX3_addSight_9 : decode cX3_addSight 9 = .ok (.iconst 0, 1) := by decide +kernel
theorem dX3_addSight_10 : decode cX3_addSight 10 = .ok (.ireturn, 1) := by decide +kernel
theorem dX3_addSight_11 : decode cX3_addSight 11 = .ok (.aload_n 0, 1) := by decide +kernel
theorem dX3_addSight_12 : decode cX3_addSight 12 = .ok (.getfield 36, 3) := by decide +kernel
theorem dX3_addSight_15 : decode cX3_addSight 15 = .ok (.aload_n 0, 1) := by decide +kernel
theorem dX3_addSight_16 : decode cX3_addSight 16 = .ok (.getfield 56, 3) := by decide +kernel
theorem dX3_addSight_19 : decode cX3_addSight 19 = .ok (.iload_n 1, 1) := by decide +kernel
theorem dX3_addSight_20 : decode cX3_addSight 20 = .ok (.iastore, 1) := by decide +kernel
theorem dX3_addSight_21 : decode cX3_addSight 21 = .ok (.aload_n 0, 1) := by decide +kernel
theorem dX3_addSight_22 : decode cX3_addSight 22 = .ok (.getfield 39, 3) := by decide +kernel
theorem dX3_addSight_25 : decode cX3_addSight 25 = .ok (.aload_n 0, 1) := by decide +kernel
theorem dX3_addSight_26 : decode cX3_addSight 26 = .ok (.getfield 56, 3) := by decide +kernel
theorem dX3_addSight_29 : decode cX3_addSight 29 = .ok (.iload_n 2, 1) := by decide +kernel
theorem dX3_addSight_30 : decode cX3_addSight 30 = .ok (.iastore, 1) := by decide +kernel
theorem dX3_addSight_31 : decode cX3_addSight 31 = .ok (.aload_n 0, 1) := by decide +kernel
theorem dX3_addSight_32 : decode cX3_addSight 32 = .ok (.dup, 1) := by decide +kernel
theorem dX3_addSight_33 : decode cX3_addSight 33 = .ok (.getfield 56, 3) := by decide +kernel
theorem dX3_addSight_36 : decode cX3_addSight 36 = .ok (.iconst 1, 1) := by decide +kernel
theorem dX3_addSight_37 : decode cX3_addSight 37 = .ok (.iadd, 1) := by decide +kernel
theorem dX3_addSight_38 : decode cX3_addSight 38 = .ok (.putfield 56, 3) := by decide +kernel
theorem dX3_addSight_41 : decode cX3_addSight 41 = .ok (.iconst 1, 1) := by decide +kernel
theorem dX3_addSight_42 : decode cX3_addSight 42 = .ok (.ireturn, 1) := by decide +kernel
theorem dX3_isLit_0 : decode cX3_isLit 0 = .ok (.aload_n 0, 1) := by decide +kernel
theorem dX3_isLit_1 : decode cX3_isLit 1 = .ok (.getfield 59, 3) := by decide +kernel
theorem dX3_isLit_4 : decode cX3_isLit 4 = .ok (.iload_n 1, 1) := by decide +kernel
theorem dX3_isLit_5 : decode cX3_isLit 5 = .ok (.ishr, 1) := by decide +kernel
theorem dX3_isLit_6 : decode cX3_isLit 6 = .ok (.iconst 1, 1) := by decide +kernel
theorem dX3_isLit_7 : decode cX3_isLit 7 = .ok (.iand, 1) := by decide +kernel
theorem dX3_isLit_8 : decode cX3_isLit 8 = .ok (.ifCond .eq 7, 3) := by decide +kernel
theorem dX3_isLit_11 : decode cX3_isLit 11 = .ok (.iconst 1, 1) := by decide +kernel
theorem dX3_isLit_12 : decode cX3_isLit 12 = .ok (.goto 4, 3) := by decide +kernel
theorem dX3_isLit_15 : decode cX3_isLit 15 = .ok (.iconst 0, 1) := by decide +kernel
theorem dX3_isLit_16 : decode cX3_isLit 16 = .ok (.ireturn, 1) := by decide +kernel
set_option maxRecDepth 20000 in
theorem ggX3_canBeAsked_X3_isLit : GoodIn wsX3_canBeAsked wsX3_isLit := goodIn_r _ [6, 7, 8, 9, 10, 11, 12, 13, 14, 15, 16, 17, 18, 19, 20, 21] (by decide +kernel) (by decide +kernel)
set_option maxRecDepth 20000 in
theorem gX3_canBeAsked_X3_isLit : GoodIn wsX3_canBeAsked (wsV RX3 69 RX3 yX3_isLit wsX3_isLit) := goodIn_app (goodIn_of _ (by decide +kernel)) ggX3_canBeAsked_X3_isLit
theorem dX3_canBeAsked_0 : decode cX3_canBeAsked 0 = .ok (.aload_n 0, 1) := by decide +kernel
theorem dX3_canBeAsked_1 : decode cX3_canBeAsked 1 = .ok (.iload_n 1, 1) := by decide +kernel
theorem dX3_canBeAsked_2 : decode cX3_canBeAsked 2 = .ok (.invokevirtual 69, 3) := by decide +kernel
theorem dX3_canBeAsked_5 : decode cX3_canBeAsked 5 = .ok (.ifCond .eq 16, 3) := by decide +kernel
theorem dX3_canBeAsked_8 : decode cX3_canBeAsked 8 = .ok (.aload_n 0, 1) := by decide +kernel
theorem dX3_canBeAsked_9 : decode cX3_canBeAsked 9 = .ok (.getfield 27, 3) := by decide +kernel
theorem dX3_canBeAsked_12 : decode cX3_canBeAsked 12 = .ok (.iload_n 1, 1) := by decide +kernel
theorem dX3_canBeAsked_13 : decode cX3_canBeAsked 13 = .ok (.iaload, 1) := by decide +kernel
theorem dX3_canBeAsked_14 : decode cX3_canBeAsked 14 = .ok (.ifCond .le 7, 3) := by decide +kernel
theorem dX3_canBeAsked_17 : decode cX3_canBeAsked 17 = .ok (.iconst 1, 1) := by decide +kernel
theorem dX3_canBeAsked_18 : decode cX3_canBeAsked 18 = .ok (.goto 4, 3) := by decide +kernel
theorem dX3_canBeAsked_21 : decode cX3_canBeAsked 21 = .ok (.iconst 0, 1) := by decide +kernel
theorem dX3_canBeAsked_22 : decode cX3_canBeAsked 22 = .ok (.ireturn, 1) := by decide +kernel
set_option maxRecDepth 20000 in
theorem ggX3_burnOf_X3_burnTrimmed : GoodIn wsX3_burnOf wsX3_burnTrimmed := goodIn_r _ [6, 7, 8, 9, 10, 11, 12, 13, 14, 15, 16, 17, 18, 19, 20, 21] (by decide +kernel) (by decide +kernel)
set_option maxRecDepth 20000 in
theorem gX3_burnOf_X3_burnTrimmed : GoodIn wsX3_burnOf (wsV RX3 73 RX3 yX3_burnTrimmed wsX3_burnTrimmed) := goodIn_app (goodIn_of _ (by decide +kernel)) ggX3_burnOf_X3_burnTrimmed
theorem dX3_burnOf_0 : decode cX3_burnOf 0 = .ok (.aload_n 0, 1) := by decide +kernel
theorem dX3_burnOf_1 : decode cX3_burnOf 1 = .ok (.iload_n 1, 1) := by decide +kernel
theorem dX3_burnOf_2 : decode cX3_burnOf 2 = .ok (.aload_n 0, 1) := by decide +kernel
theorem dX3_burnOf_3 : decode cX3_burnOf 3 = .ok (.getfield 15, 3) := by decide +kernel
theorem dX3_burnOf_6 : decode cX3_burnOf 6 = .ok (.iload_n 1, 1) := by decide +kernel
theorem dX3_burnOf_7 : decode cX3_burnOf 7 = .ok (.iaload, 1) := by decide +kernel
theorem dX3_burnOf_8 : decode cX3_burnOf 8 = .ok (.invokevirtual 73, 3) := by decide +kernel
theorem dX3_burnOf_11 : decode cX3_burnOf 11 = .ok (.ireturn, 1) := by decide +kernel
theorem dX3_burnTrimmed_0 : decode cX3_burnTrimmed 0 = .ok (.iconst 1, 1) := by decide +kernel
theorem dX3_burnTrimmed_1 : decode cX3_burnTrimmed 1 = .ok (.aload_n 0, 1) := by decide +kernel
theorem dX3_burnTrimmed_2 : decode cX3_burnTrimmed 2 = .ok (.getfield 18, 3) := by decide +kernel
theorem dX3_burnTrimmed_5 : decode cX3_burnTrimmed 5 = .ok (.iload_n 1, 1) := by decide +kernel
theorem dX3_burnTrimmed_6 : decode cX3_burnTrimmed 6 = .ok (.iaload, 1) := by decide +kernel
theorem dX3_burnTrimmed_7 : decode cX3_burnTrimmed 7 = .ok (.iadd, 1) := by decide +kernel
