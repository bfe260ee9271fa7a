abbrev vwCl : List vw_C := [(RX0, TX0, 1), (RX1, TX1, 2), (RX2, TX2, 9), (RX3, TX3, 4), (RX4, TX4, 4), (RX5, TX5, 5)]
set_option maxRecDepth 20000 in
theorem ggX0_init_X3_init : GoodIn wsX0_init wsX3_init := goodIn_r _ [10, 11, 2, 3, 12, 13, 14, 15, 21, 22, 23, 24] (by decide +kernel) (by decide +kernel)
set_option maxRecDepth 20000 in
theorem gX0_init_X3_init : GoodIn wsX0_init (wsX3_init) := ggX0_init_X3_init
set_option maxRecDepth 20000 in
theorem ggX0_init_X3_addRow : GoodIn wsX0_init wsX3_addRow := goodIn_r _ [19, 20, 12, 21, 22, 23, 24] (by decide +kernel) (by decide +kernel)
set_option maxRecDepth 20000 in
theorem gX0_init_X3_addRow : GoodIn wsX0_init (wsV RX0 20 RX3 yX3_addRow wsX3_addRow) := goodIn_app (goodIn_of _ (by decide +kernel)) ggX0_init_X3_addRow
theorem dX0_init_0 : decode cX0_init 0 = .ok (.aload_n 0, 1) := by decide +kernel
theorem dX0_init_1 : decode cX0_init 1 = .ok (.invokespecial 3, 3) := by decide +kernel
theorem dX0_init_4 : decode cX0_init 4 = .ok (.aload_n 0, 1) := by decide +kernel
theorem dX0_init_5 : decode cX0_init 5 = .ok (.new 9, 3) := by decide +kernel
theorem dX0_init_8 : decode cX0_init 8 = .ok (.dup, 1) := by decide +kernel
theorem dX0_init_9 : decode cX0_init 9 = .ok (.iconst 1, 1) := by decide +kernel
theorem dX0_init_10 : decode cX0_init 10 = .ok (.bipush 10, 2) := by decide +kernel
theorem dX0_init_12 : decode cX0_init 12 = .ok (.invokespecial 11, 3) := by decide +kernel
theorem dX0_init_15 : decode cX0_init 15 = .ok (.putfield 14, 3) := by decide +kernel
theorem dX0_init_18 : decode cX0_init 18 = .ok (.aload_n 0, 1) := by decide +kernel
theorem dX0_init_19 : decode cX0_init 19 = .ok (.getfield 14, 3) := by decide +kernel
theorem dX0_init_22 : decode cX0_init 22 = .ok (.invokevirtual 20, 3) := by decide +kernel
theorem dX0_init_25 : decode cX0_init 25 = .ok (.pop, 1) := by decide +kernel
theorem dX0_init_26 : decode cX0_init 26 = .ok (.return_, 1) := by decide +kernel
set_option maxRecDepth 20000 in
theorem ggX0_stepsTo_X3_at : GoodIn wsX0_stepsTo wsX3_at := goodIn_r _ [6, 7, 8, 9, 11, 12, 13, 14] (by decide +kernel) (by decide +kernel)
set_option maxRecDepth 20000 in
theorem gX0_stepsTo_X3_at : GoodIn wsX0_stepsTo (wsV RX0 24 RX3 yX3_at wsX3_at) := goodIn_app (goodIn_of _ (by decide +kernel)) ggX0_stepsTo_X3_at
theorem dX0_stepsTo_0 : decode cX0_stepsTo 0 = .ok (.aload_n 0, 1) := by decide +kernel
theorem dX0_stepsTo_1 : decode cX0_stepsTo 1 = .ok (.getfield 14, 3) := by decide +kernel
theorem dX0_stepsTo_4 : decode cX0_stepsTo 4 = .ok (.iconst 0, 1) := by decide +kernel
theorem dX0_stepsTo_5 : decode cX0_stepsTo 5 = .ok (.iload_n 1, 1) := by decide +kernel
theorem dX0_stepsTo_6 : decode cX0_stepsTo 6 = .ok (.invokevirtual 24, 3) := by decide +kernel
theorem dX0_stepsTo_9 : decode cX0_stepsTo 9 = .ok (.ireturn, 1) := by decide +kernel
set_option maxRecDepth 20000 in
theorem ggX0_measure_X3_at : GoodIn wsX0_measure wsX3_at := goodIn_r _ [8, 9, 10, 11, 48, 49, 50, 51] (by decide +kernel) (by decide +kernel)
set_option maxRecDepth 20000 in
theorem gX0_measure_X3_at : GoodIn wsX0_measure (wsV RX0 24 RX3 yX3_at wsX3_at) := goodIn_app (goodIn_of _ (by decide +kernel)) ggX0_measure_X3_at
set_option maxRecDepth 20000 in
theorem ggX0_measure_X3_put : GoodIn wsX0_measure wsX3_put := goodIn_r _ [15, 9, 10, 11, 48, 49, 50, 51] (by decide +kernel) (by decide +kernel)
set_option maxRecDepth 20000 in
theorem gX0_measure_X3_put : GoodIn wsX0_measure (wsV RX0 33 RX3 yX3_put wsX3_put) := goodIn_app (goodIn_of _ (by decide +kernel)) ggX0_measure_X3_put
set_option maxRecDepth 20000 in
theorem ggX0_measure_X3_rows : GoodIn wsX0_measure wsX3_rows := goodIn_r _ [19, 9, 48, 49, 50, 51] (by decide +kernel) (by decide +kernel)
set_option maxRecDepth 20000 in
theorem gX0_measure_X3_rows : GoodIn wsX0_measure (wsV RX0 40 RX3 yX3_rows wsX3_rows) := goodIn_app (goodIn_of _ (by decide +kernel)) ggX0_measure_X3_rows
set_option maxRecDepth 20000 in
theorem ggX0_measure_X0_stepsTo : GoodIn wsX0_measure wsX0_stepsTo := goodIn_r _ [24, 1, 4, 5, 6, 7, 8, 9, 10, 11, 38, 48, 49, 50, 51] (by decide +kernel) (by decide +kernel)
set_option maxRecDepth 20000 in
theorem gX0_measure_X0_stepsTo : GoodIn wsX0_measure (wsV RX0 43 RX0 yX0_stepsTo wsX0_stepsTo) := goodIn_app (goodIn_of _ (by decide +kernel)) ggX0_measure_X0_stepsTo
set_option maxRecDepth 20000 in
theorem ggX0_measure_X0_isLink : GoodIn wsX0_measure wsX0_isLink := goodIn_r _ [28, 3, 4, 5, 6, 7, 8, 9, 10, 11, 20, 21, 22, 23, 24, 1, 29, 30, 31, 32, 33, 34, 35, 36, 37, 39, 40, 41, 42, 43, 44, 45, 46, 47, 48, 49, 50, 51, 38] (by decide +kernel) (by decide +kernel)
set_option maxRecDepth 20000 in
theorem gX0_measure_X0_isLink : GoodIn wsX0_measure (wsV RX0 47 RX0 yX0_isLink wsX0_isLink) := goodIn_app (goodIn_of _ (by decide +kernel)) ggX0_measure_X0_isLink
theorem dX0_measure_0 : decode cX0_measure 0 = .ok (.iconst 0, 1) := by decide +kernel
theorem dX0_measure_1 : decode cX0_measure 1 = .ok (.istore_n 3, 1) := by decide +kernel
theorem dX0_measure_2 : decode cX0_measure 2 = .ok (.iload_n 3, 1) := by decide +kernel
theorem dX0_measure_3 : decode cX0_measure 3 = .ok (.bipush 10, 2) := by decide +kernel
theorem dX0_measure_5 : decode cX0_measure 5 = .ok (.if_icmp .ge 36, 3) := by decide +kernel
theorem dX0_measure_8 : decode cX0_measure 8 = .ok (.aload_n 0, 1) := by decide +kernel
theorem dX0_measure_9 : decode cX0_measure 9 = .ok (.getfield 14, 3) := by decide +kernel
theorem dX0_measure_12 : decode cX0_measure 12 = .ok (.iconst 0, 1) := by decide +kernel
theorem dX0_measure_13 : decode cX0_measure 13 = .ok (.iload_n 3, 1) := by decide +kernel
theorem dX0_measure_14 : decode cX0_measure 14 = .ok (.iload_n 3, 1) := by decide +kernel
theorem dX0_measure_15 : decode cX0_measure 15 = .ok (.aload_n 1, 1) := by decide +kernel
theorem dX0_measure_16 : decode cX0_measure 16 = .ok (.getfield 28, 3) := by decide +kernel
theorem dX0_measure_19 : decode cX0_measure 19 = .ok (.iload_n 2, 1) := by decide +kernel
theorem dX0_measure_20 : decode cX0_measure 20 = .ok (.iconst 0, 1) := by decide +kernel
theorem dX0_measure_21 : decode cX0_measure 21 = .ok (.invokevirtual 24, 3) := by decide +kernel
theorem dX0_measure_24 : decode cX0_measure 24 = .ok (.if_icmp .ne 7, 3) := by decide +kernel
theorem dX0_measure_27 : decode cX0_measure 27 = .ok (.iconst 0, 1) := by decide +kernel
theorem dX0_measure_28 : decode cX0_measure 28 = .ok (.goto 4, 3) := by decide +kernel
theorem dX0_measure_31 : decode cX0_measure 31 = .ok (.iconst (-1), 1) := by decide +kernel
theorem dX0_measure_32 : decode cX0_measure 32 = .ok (.invokevirtual 33, 3) := by decide +kernel
theorem dX0_measure_35 : decode cX0_measure 35 = .ok (.iinc 3 1, 3) := by decide +kernel
theorem dX0_measure_38 : decode cX0_measure 38 = .ok (.goto (-36), 3) := by decide +kernel
theorem dX0_measure_41 : decode cX0_measure 41 = .ok (.iconst 1, 1) := by decide +kernel
theorem dX0_measure_42 : decode cX0_measure 42 = .ok (.istore_n 3, 1) := by decide +kernel
theorem dX0_measure_43 : decode cX0_measure 43 = .ok (.iconst 1, 1) := by decide +kernel
theorem dX0_measure_44 : decode cX0_measure 44 = .ok (.istore 4, 2) := by decide +kernel
theorem dX0_measure_46 : decode cX0_measure 46 = .ok (.iload 4, 2) := by decide +kernel
theorem dX0_measure_48 : decode cX0_measure 48 = .ok (.bipush 10, 2) := by decide +kernel
theorem dX0_measure_50 : decode cX0_measure 50 = .ok (.if_icmp .ge 85, 3) := by decide +kernel
theorem dX0_measure_53 : decode cX0_measure 53 = .ok (.iload_n 3, 1) := by decide +kernel
theorem dX0_measure_54 : decode cX0_measure 54 = .ok (.ifCond .eq 81, 3) := by decide +kernel
theorem dX0_measure_57 : decode cX0_measure 57 = .ok (.iconst 0, 1) := by decide +kernel
theorem dX0_measure_58 : decode cX0_measure 58 = .ok (.istore_n 3, 1) := by decide +kernel
theorem dX0_measure_59 : decode cX0_measure 59 = .ok (.iconst 0, 1) := by decide +kernel
theorem dX0_measure_60 : decode cX0_measure 60 = .ok (.istore 5, 2) := by decide +kernel
theorem dX0_measure_62 : decode cX0_measure 62 = .ok (.iload 5, 2) := by decide +kernel
theorem dX0_measure_64 : decode cX0_measure 64 = .ok (.aload_n 1, 1) := by decide +kernel
theorem dX0_measure_65 : decode cX0_measure 65 = .ok (.getfield 37, 3) := by decide +kernel
theorem dX0_measure_68 : decode cX0_measure 68 = .ok (.invokevirtual 40, 3) := by decide +kernel
theorem dX0_measure_71 : decode cX0_measure 71 = .ok (.if_icmp .ge 58, 3) := by decide +kernel
theorem dX0_measure_74 : decode cX0_measure 74 = .ok (.aload_n 1, 1) := by decide +kernel
theorem dX0_measure_75 : decode cX0_measure 75 = .ok (.getfield 37, 3) := by decide +kernel
theorem dX0_measure_78 : decode cX0_measure 78 = .ok (.iload 5, 2) := by decide +kernel
theorem dX0_measure_80 : decode cX0_measure 80 = .ok (.iconst 1, 1) := by decide +kernel
theorem dX0_measure_81 : decode cX0_measure 81 = .ok (.invokevirtual 24, 3) := by decide +kernel
theorem dX0_measure_84 : decode cX0_measure 84 = .ok (.istore 6, 2) := by decide +kernel
theorem dX0_measure_86 : decode cX0_measure 86 = .ok (.aload_n 0, 1) := by decide +kernel
theorem dX0_measure_87 : decode cX0_measure 87 = .ok (.iload 6, 2) := by decide +kernel
theorem dX0_measure_89 : decode cX0_measure 89 = .ok (.invokevirtual 43, 3) := by decide +kernel
theorem dX0_measure_92 : decode cX0_measure 92 = .ok (.iconst (-1), 1) := by decide +kernel
theorem dX0_measure_93 : decode cX0_measure 93 = .ok (.if_icmp .ne 30, 3) := by decide +kernel
theorem dX0_measure_96 : decode cX0_measure 96 = .ok (.aload_n 0, 1) := by decide +kernel
theorem dX0_measure_97 : decode cX0_measure 97 = .ok (.aload_n 1, 1) := by decide +kernel
theorem dX0_measure_98 : decode cX0_measure 98 = .ok (.iload 5, 2) := by decide +kernel
theorem dX0_measure_100 : decode cX0_measure 100 = .ok (.iload_n 2, 1) := by decide +kernel
theorem dX0_measure_101 : decode cX0_measure 101 = .ok (.iload 4, 2) := by decide +kernel
theorem dX0_measure_103 : decode cX0_measure 103 = .ok (.invokevirtual 47, 3) := by decide +kernel
theorem dX0_measure_106 : decode cX0_measure 106 = .ok (.ifCond .eq 17, 3) := by decide +kernel
theorem dX0_measure_109 : decode cX0_measure 109 = .ok (.aload_n 0, 1) := by decide +kernel
theorem dX0_measure_110 : decode cX0_measure 110 = .ok (.getfield 14, 3) := by decide +kernel
theorem dX0_measure_113 : decode cX0_measure 113 = .ok (.iconst 0, 1) := by decide +kernel
theorem dX0_measure_114 : decode cX0_measure 114 = .ok (.iload 6, 2) := by decide +kernel
theorem dX0_measure_116 : decode cX0_measure 116 = .ok (.iload 4, 2) := by decide +kernel
theorem dX0_measure_118 : decode cX0_measure 118 = .ok (.invokevirtual 33, 3) := by decide +kernel
theorem dX0_measure_121 : decode cX0_measure 121 = .ok (.iconst 1, 1) := by decide +kernel
theorem dX0_measure_122 : decode cX0_measure 122 = .ok (.istore_n 3, 1) := by decide +kernel
theorem dX0_measure_123 : decode cX0_measure 123 = .ok (.iinc 5 1, 3) := by decide +kernel
theorem dX0_measure_126 : decode cX0_measure 126 = .ok (.goto (-64), 3) := by decide +kernel
theorem dX0_measure_129 : decode cX0_measure 129 = .ok (.iinc 4 1, 3) := by decide +kernel
theorem dX0_measure_132 : decode cX0_measure 132 = .ok (.goto (-86), 3) := by decide +kernel
theorem dX0_measure_135 : decode cX0_measure 135 = .ok (.return_, 1) := by decide +kernel
set_option maxRecDepth 20000 in
theorem ggX0_numberAt_X0_stepsTo : GoodIn wsX0_numberAt wsX0_stepsTo := goodIn_r _ [6, 7, 8, 9, 10, 11, 12, 13, 14, 15, 46, 47, 48, 49, 50] (by decide +kernel) (by decide +kernel)
set_option maxRecDepth 20000 in
theorem gX0_numberAt_X0_stepsTo : GoodIn wsX0_numberAt (wsV RX0 43 RX0 yX0_stepsTo wsX0_stepsTo) := goodIn_app (goodIn_of _ (by decide +kernel)) ggX0_numberAt_X0_stepsTo
set_option maxRecDepth 20000 in
theorem ggX0_numberAt_X0_lastLink : GoodIn wsX0_numberAt wsX0_lastLink := goodIn_r _ [19, 1, 20, 21, 22, 11, 23, 13, 8, 9, 10, 12, 14, 15, 24, 25, 26, 5, 27, 2, 3, 4, 6, 7, 28, 29, 30, 31, 32, 33, 34, 35, 36, 37, 38, 39, 40, 41, 42, 43, 44, 45, 47, 48, 49, 50, 46] (by decide +kernel) (by decide +kernel)
set_option maxRecDepth 20000 in
theorem gX0_numberAt_X0_lastLink : GoodIn wsX0_numberAt (wsV RX0 51 RX0 yX0_lastLink wsX0_lastLink) := goodIn_app (goodIn_of _ (by decide +kernel)) ggX0_numberAt_X0_lastLink
set_option maxRecDepth 20000 in
theorem ggX0_numberAt_X3_at : GoodIn wsX0_numberAt wsX3_at := goodIn_r _ [12, 13, 14, 15, 47, 48, 49, 50] (by decide +kernel) (by decide +kernel)
set_option maxRecDepth 20000 in
theorem gX0_numberAt_X3_at : GoodIn wsX0_numberAt (wsV RX0 24 RX3 yX3_at wsX3_at) := goodIn_app (goodIn_of _ (by decide +kernel)) ggX0_numberAt_X3_at
theorem dX0_numberAt_0 : decode cX0_numberAt 0 = .ok (.iconst (-1), 1) := by decide +kernel
theorem dX0_numberAt_1 : decode cX0_numberAt 1 = .ok (.istore 5, 2) := by decide +kernel
theorem dX0_numberAt_3 : decode cX0_numberAt 3 = .ok (.iload_n 2, 1) := by decide +kernel
theorem dX0_numberAt_4 : decode cX0_numberAt 4 = .ok (.istore 6, 2) := by decide +kernel
theorem dX0_numberAt_6 : decode cX0_numberAt 6 = .ok (.aload_n 0, 1) := by decide +kernel
theorem dX0_numberAt_7 : decode cX0_numberAt 7 = .ok (.iload_n 2, 1) := by decide +kernel
theorem dX0_numberAt_8 : decode cX0_numberAt 8 = .ok (.invokevirtual 43, 3) := by decide +kernel
theorem dX0_numberAt_11 : decode cX0_numberAt 11 = .ok (.istore 7, 2) := by decide +kernel
theorem dX0_numberAt_13 : decode cX0_numberAt 13 = .ok (.iload 7, 2) := by decide +kernel
theorem dX0_numberAt_15 : decode cX0_numberAt 15 = .ok (.iload 4, 2) := by decide +kernel
theorem dX0_numberAt_17 : decode cX0_numberAt 17 = .ok (.if_icmp .le 50, 3) := by decide +kernel
theorem dX0_numberAt_20 : decode cX0_numberAt 20 = .ok (.iload 7, 2) := by decide +kernel
theorem dX0_numberAt_22 : decode cX0_numberAt 22 = .ok (.ifCond .le 45, 3) := by decide +kernel
theorem dX0_numberAt_25 : decode cX0_numberAt 25 = .ok (.aload_n 0, 1) := by decide +kernel
theorem dX0_numberAt_26 : decode cX0_numberAt 26 = .ok (.aload_n 1, 1) := by decide +kernel
theorem dX0_numberAt_27 : decode cX0_numberAt 27 = .ok (.iload 6, 2) := by decide +kernel
theorem dX0_numberAt_29 : decode cX0_numberAt 29 = .ok (.iload_n 3, 1) := by decide +kernel
theorem dX0_numberAt_30 : decode cX0_numberAt 30 = .ok (.iload 7, 2) := by decide +kernel
theorem dX0_numberAt_32 : decode cX0_numberAt 32 = .ok (.invokevirtual 51, 3) := by decide +kernel
theorem dX0_numberAt_35 : decode cX0_numberAt 35 = .ok (.istore 8, 2) := by decide +kernel
theorem dX0_numberAt_37 : decode cX0_numberAt 37 = .ok (.aload_n 1, 1) := by decide +kernel
theorem dX0_numberAt_38 : decode cX0_numberAt 38 = .ok (.getfield 37, 3) := by decide +kernel
theorem dX0_numberAt_41 : decode cX0_numberAt 41 = .ok (.iload 8, 2) := by decide +kernel
theorem dX0_numberAt_43 : decode cX0_numberAt 43 = .ok (.iconst 5, 1) := by decide +kernel
theorem dX0_numberAt_44 : decode cX0_numberAt 44 = .ok (.invokevirtual 24, 3) := by decide +kernel
theorem dX0_numberAt_47 : decode cX0_numberAt 47 = .ok (.istore 5, 2) := by decide +kernel
theorem dX0_numberAt_49 : decode cX0_numberAt 49 = .ok (.aload_n 1, 1) := by decide +kernel
theorem dX0_numberAt_50 : decode cX0_numberAt 50 = .ok (.getfield 37, 3) := by decide +kernel
theorem dX0_numberAt_53 : decode cX0_numberAt 53 = .ok (.iload 8, 2) := by decide +kernel
theorem dX0_numberAt_55 : decode cX0_numberAt 55 = .ok (.iconst 0, 1) := by decide +kernel
theorem dX0_numberAt_56 : decode cX0_numberAt 56 = .ok (.invokevirtual 24, 3) := by decide +kernel
theorem dX0_numberAt_59 : decode cX0_numberAt 59 = .ok (.istore 6, 2) := by decide +kernel
theorem dX0_numberAt_61 : decode cX0_numberAt 61 = .ok (.iinc 7 (-1), 3) := by decide +kernel
theorem dX0_numberAt_64 : decode cX0_numberAt 64 = .ok (.goto (-51), 3) := by decide +kernel
theorem dX0_numberAt_67 : decode cX0_numberAt 67 = .ok (.iload 5, 2) := by decide +kernel
theorem dX0_numberAt_69 : decode cX0_numberAt 69 = .ok (.ireturn, 1) := by decide +kernel
set_option maxRecDepth 20000 in
theorem ggX0_lastLink_X3_rows : GoodIn wsX0_lastLink wsX3_rows := goodIn_r _ [6, 7, 42, 43, 44, 45] (by decide +kernel) (by decide +kernel)
set_option maxRecDepth 20000 in
theorem gX0_lastLink_X3_rows : GoodIn wsX0_lastLink (wsV RX0 40 RX3 yX3_rows wsX3_rows) := goodIn_app (goodIn_of _ (by decide +kernel)) ggX0_lastLink_X3_rows
set_option maxRecDepth 20000 in
theorem ggX0_lastLink_X3_at : GoodIn wsX0_lastLink wsX3_at := goodIn_r _ [11, 7, 12, 13, 42, 43, 44, 45] (by decide +kernel) (by decide +kernel)
set_option maxRecDepth 20000 in
theorem gX0_lastLink_X3_at : GoodIn wsX0_lastLink (wsV RX0 24 RX3 yX3_at wsX3_at) := goodIn_app (goodIn_of _ (by decide +kernel)) ggX0_lastLink_X3_at
set_option maxRecDepth 20000 in
theorem ggX0_lastLink_X0_isLink : GoodIn wsX0_lastLink wsX0_isLink := goodIn_r _ [18, 1, 8, 9, 10, 5, 11, 7, 12, 13, 19, 20, 21, 17, 22, 23, 24, 25, 26, 27, 28, 29, 30, 31, 32, 33, 34, 35, 36, 37, 38, 39, 40, 41, 42, 43, 44, 45, 46] (by decide +kernel) (by decide +kernel)
set_option maxRecDepth 20000 in
theorem gX0_lastLink_X0_isLink : GoodIn wsX0_lastLink (wsV RX0 47 RX0 yX0_isLink wsX0_isLink) := goodIn_app (goodIn_of _ (by decide +kernel)) ggX0_lastLink_X0_isLink
theorem dX0_lastLink_0 : decode cX0_lastLink 0 = .ok (.iconst 0, 1) := by decide +kernel
theorem dX0_lastLink_1 : decode cX0_lastLink 1 = .ok (.istore 5, 2) := by decide +kernel
theorem dX0_lastLink_3 : decode cX0_lastLink 3 = .ok (.iload 5, 2) := by decide +kernel
theorem dX0_lastLink_5 : decode cX0_lastLink 5 = .ok (.aload_n 1, 1) := by decide +kernel
theorem dX0_lastLink_6 : decode cX0_lastLink 6 = .ok (.getfield 37, 3) := by decide +kernel
theorem dX0_lastLink_9 : decode cX0_lastLink 9 = .ok (.invokevirtual 40, 3) := by decide +kernel
theorem dX0_lastLink_12 : decode cX0_lastLink 12 = .ok (.if_icmp .ge 51, 3) := by decide +kernel
theorem dX0_lastLink_15 : decode cX0_lastLink 15 = .ok (.aload_n 1, 1) := by decide +kernel
theorem dX0_lastLink_16 : decode cX0_lastLink 16 = .ok (.getfield 37, 3) := by decide +kernel
theorem dX0_lastLink_19 : decode cX0_lastLink 19 = .ok (.iload 5, 2) := by decide +kernel
theorem dX0_lastLink_21 : decode cX0_lastLink 21 = .ok (.iconst 1, 1) := by decide +kernel
theorem dX0_lastLink_22 : decode cX0_lastLink 22 = .ok (.invokevirtual 24, 3) := by decide +kernel
theorem dX0_lastLink_25 : decode cX0_lastLink 25 = .ok (.iload_n 2, 1) := by decide +kernel
theorem dX0_lastLink_26 : decode cX0_lastLink 26 = .ok (.if_icmp .ne 7, 3) := by decide +kernel
theorem dX0_lastLink_29 : decode cX0_lastLink 29 = .ok (.iconst 1, 1) := by decide +kernel
theorem dX0_lastLink_30 : decode cX0_lastLink 30 = .ok (.goto 4, 3) := by decide +kernel
theorem dX0_lastLink_33 : decode cX0_lastLink 33 = .ok (.iconst 0, 1) := by decide +kernel
theorem dX0_lastLink_34 : decode cX0_lastLink 34 = .ok (.istore 6, 2) := by decide +kernel
theorem dX0_lastLink_36 : decode cX0_lastLink 36 = .ok (.iload 6, 2) := by decide +kernel
theorem dX0_lastLink_38 : decode cX0_lastLink 38 = .ok (.ifCond .eq 19, 3) := by decide +kernel
theorem dX0_lastLink_41 : decode cX0_lastLink 41 = .ok (.aload_n 0, 1) := by decide +kernel
theorem dX0_lastLink_42 : decode cX0_lastLink 42 = .ok (.aload_n 1, 1) := by decide +kernel
theorem dX0_lastLink_43 : decode cX0_lastLink 43 = .ok (.iload 5, 2) := by decide +kernel
theorem dX0_lastLink_45 : decode cX0_lastLink 45 = .ok (.iload_n 3, 1) := by decide +kernel
theorem dX0_lastLink_46 : decode cX0_lastLink 46 = .ok (.iload 4, 2) := by decide +kernel
theorem dX0_lastLink_48 : decode cX0_lastLink 48 = .ok (.invokevirtual 47, 3) := by decide +kernel
theorem dX0_lastLink_51 : decode cX0_lastLink 51 = .ok (.ifCond .eq 6, 3) := by decide +kernel
theorem dX0_lastLink_54 : decode cX0_lastLink 54 = .ok (.iload 5, 2) := by decide +kernel
theorem dX0_lastLink_56 : decode cX0_lastLink 56 = .ok (.ireturn, 1) := by decide +kernel
theorem dX0_lastLink_57 : decode cX0_lastLink 57 = .ok (.iinc 5 1, 3) := by decide +kernel
theorem dX0_lastLink_60 : decode cX0_lastLink 60 = .ok (.goto (-57), 3) := by decide +kernel
theorem dX0_lastLink_63 : decode cX0_lastLink 63 = .ok (.iconst (-1), 1) := by decide +kernel
theorem dX0_lastLink_64 : decode cX0_lastLink 64 = .ok (.ireturn, 1) := by decide +kernel
set_option maxRecDepth 20000 in
theorem ggX0_isLink_X3_at : GoodIn wsX0_isLink wsX3_at := goodIn_r _ [6, 7, 8, 9, 34, 35, 36, 37] (by decide +kernel) (by decide +kernel)
set_option maxRecDepth 20000 in
theorem gX0_isLink_X3_at : GoodIn wsX0_isLink (wsV RX0 24 RX3 yX3_at wsX3_at) := goodIn_app (goodIn_of _ (by decide +kernel)) ggX0_isLink_X3_at
set_option maxRecDepth 20000 in
theorem ggX0_isLink_X0_stepsTo : GoodIn wsX0_isLink wsX0_stepsTo := goodIn_r _ [14, 15, 2, 3, 4, 5, 6, 7, 8, 9, 38, 34, 35, 36, 37] (by decide +kernel) (by decide +kernel)
set_option maxRecDepth 20000 in
theorem gX0_isLink_X0_stepsTo : GoodIn wsX0_isLink (wsV RX0 43 RX0 yX0_stepsTo wsX0_stepsTo) := goodIn_app (goodIn_of _ (by decide +kernel)) ggX0_isLink_X0_stepsTo
set_option maxRecDepth 20000 in
theorem ggX0_isLink_X2_passedOn : GoodIn wsX0_isLink wsX2_passedOn := goodIn_r _ [20, 21, 22, 23, 24, 3, 4, 5, 6, 7, 8, 9, 25, 26, 27, 28, 29, 30, 31, 32, 33, 34, 35, 36, 37] (by decide +kernel) (by decide +kernel)
set_option maxRecDepth 20000 in
theorem gX0_isLink_X2_passedOn : GoodIn wsX0_isLink (wsV RX0 55 RX2 yX2_passedOn wsX2_passedOn) := goodIn_app (goodIn_of _ (by decide +kernel)) ggX0_isLink_X2_passedOn
theorem dX0_isLink_0 : decode cX0_isLink 0 = .ok (.aload_n 1, 1) := by decide +kernel
theorem dX0_isLink_1 : decode cX0_isLink 1 = .ok (.getfield 37, 3) := by decide +kernel
theorem dX0_isLink_4 : decode cX0_isLink 4 = .ok (.iload_n 2, 1) := by decide +kernel
theorem dX0_isLink_5 : decode cX0_isLink 5 = .ok (.iconst 2, 1) := by decide +kernel
theorem dX0_isLink_6 : decode cX0_isLink 6 = .ok (.invokevirtual 24, 3) := by decide +kernel
theorem dX0_isLink_9 : decode cX0_isLink 9 = .ok (.iload_n 3, 1) := by decide +kernel
theorem dX0_isLink_10 : decode cX0_isLink 10 = .ok (.if_icmp .ne 37, 3) := by decide +kernel
theorem dX0_isLink_13 : decode cX0_isLink 13 = .ok (.aload_n 0, 1) := by decide +kernel
theorem dX0_isLink_14 : decode cX0_isLink 14 = .ok (.aload_n 1, 1) := by decide +kernel
theorem dX0_isLink_15 : decode cX0_isLink 15 = .ok (.getfield 37, 3) := by decide +kernel
theorem dX0_isLink_18 : decode cX0_isLink 18 = .ok (.iload_n 2, 1) := by decide +kernel
theorem dX0_isLink_19 : decode cX0_isLink 19 = .ok (.iconst 0, 1) := by decide +kernel
theorem dX0_isLink_20 : decode cX0_isLink 20 = .ok (.invokevirtual 24, 3) := by decide +kernel
theorem dX0_isLink_23 : decode cX0_isLink 23 = .ok (.invokevirtual 43, 3) := by decide +kernel
theorem dX0_isLink_26 : decode cX0_isLink 26 = .ok (.iload 4, 2) := by decide +kernel
theorem dX0_isLink_28 : decode cX0_isLink 28 = .ok (.iconst 1, 1) := by decide +kernel
theorem dX0_isLink_29 : decode cX0_isLink 29 = .ok (.isub, 1) := by decide +kernel
theorem dX0_isLink_30 : decode cX0_isLink 30 = .ok (.if_icmp .ne 17, 3) := by decide +kernel
theorem dX0_isLink_33 : decode cX0_isLink 33 = .ok (.aload_n 1, 1) := by decide +kernel
theorem dX0_isLink_34 : decode cX0_isLink 34 = .ok (.iload_n 2, 1) := by decide +kernel
theorem dX0_isLink_35 : decode cX0_isLink 35 = .ok (.invokevirtual 55, 3) := by decide +kernel
theorem dX0_isLink_38 : decode cX0_isLink 38 = .ok (.iconst 1, 1) := by decide +kernel
theorem dX0_isLink_39 : decode cX0_isLink 39 = .ok (.iand, 1) := by decide +kernel
theorem dX0_isLink_40 : decode cX0_isLink 40 = .ok (.ifCond .eq 7, 3) := by decide +kernel
theorem dX0_isLink_43 : decode cX0_isLink 43 = .ok (.iconst 1, 1) := by decide +kernel
theorem dX0_isLink_44 : decode cX0_isLink 44 = .ok (.goto 4, 3) := by decide +kernel
theorem dX0_isLink_47 : decode cX0_isLink 47 = .ok (.iconst 0, 1) := by decide +kernel
theorem dX0_isLink_48 : decode cX0_isLink 48 = .ok (.ireturn, 1) := by decide +kernel
set_option maxRecDepth 20000 in
theorem ggX1_init_X2_init : GoodIn wsX1_init wsX2_init := goodIn_r _ [10, 11, 2, 3, 12, 13, 14, 15, 16, 17, 18, 19, 20, 21, 22, 23, 24, 25, 26, 27, 28, 29, 30, 31, 32, 33, 34, 35, 36, 48, 49, 50, 51, 39, 40, 41, 42, 43, 44, 45, 46, 47] (by decide +kernel) (by decide +kernel)
set_option maxRecDepth 20000 in
theorem gX1_init_X2_init : GoodIn wsX1_init (wsX2_init) := ggX1_init_X2_init
theorem dX1_init_0 : decode cX1_init 0 = .ok (.aload_n 0, 1) := by decide +kernel
theorem dX1_init_1 : decode cX1_init 1 = .ok (.invokespecial 3, 3) := by decide +kernel
theorem dX1_init_4 : decode cX1_init 4 = .ok (.aload_n 0, 1) := by decide +kernel
theorem dX1_init_5 : decode cX1_init 5 = .ok (.iconst 4, 1) := by decide +kernel
theorem dX1_init_6 : decode cX1_init 6 = .ok (.anewarray 9, 3) := by decide +kernel
theorem dX1_init_9 : decode cX1_init 9 = .ok (.putfield 11, 3) := by decide +kernel
theorem dX1_init_12 : decode cX1_init 12 = .ok (.iconst 0, 1) := by decide +kernel
theorem dX1_init_13 : decode cX1_init 13 = .ok (.istore_n 1, 1) := by decide +kernel
theorem dX1_init_14 : decode cX1_init 14 = .ok (.iload_n 1, 1) := by decide +kernel
theorem dX1_init_15 : decode cX1_init 15 = .ok (.aload_n 0, 1) := by decide +kernel
theorem dX1_init_16 : decode cX1_init 16 = .ok (.getfield 11, 3) := by decide +kernel
theorem dX1_init_19 : decode cX1_init 19 = .ok (.arraylength, 1) := by decide +kernel
theorem dX1_init_20 : decode cX1_init 20 = .ok (.if_icmp .ge 22, 3) := by decide +kernel
theorem dX1_init_23 : decode cX1_init 23 = .ok (.aload_n 0, 1) := by decide +kernel
theorem dX1_init_24 : decode cX1_init 24 = .ok (.getfield 11, 3) := by decide +kernel
theorem dX1_init_27 : decode cX1_init 27 = .ok (.iload_n 1, 1) := by decide +kernel
theorem dX1_init_28 : decode cX1_init 28 = .ok (.new 9, 3) := by decide +kernel
theorem dX1_init_31 : decode cX1_init 31 = .ok (.dup, 1) := by decide +kernel
theorem dX1_init_32 : decode cX1_init 32 = .ok (.invokespecial 17, 3) := by decide +kernel
theorem dX1_init_35 : decode cX1_init 35 = .ok (.aastore, 1) := by decide +kernel
theorem dX1_init_36 : decode cX1_init 36 = .ok (.iinc 1 1, 3) := by decide +kernel
theorem dX1_init_39 : decode cX1_init 39 = .ok (.goto (-25), 3) := by decide +kernel
theorem dX1_init_42 : decode cX1_init 42 = .ok (.return_, 1) := by decide +kernel
set_option maxRecDepth 20000 in
theorem ggX1_keep_X1_makeRoom : GoodIn wsX1_keep wsX1_makeRoom := goodIn_r _ [7, 2, 1, 31, 32] (by decide +kernel) (by decide +kernel)
set_option maxRecDepth 20000 in
theorem gX1_keep_X1_makeRoom : GoodIn wsX1_keep (wsV RX1 22 RX1 yX1_makeRoom wsX1_makeRoom) := goodIn_app (goodIn_of _ (by decide +kernel)) ggX1_keep_X1_makeRoom
set_option maxRecDepth 20000 in
theorem ggX1_keep_X2_takeOver : GoodIn wsX1_keep wsX2_takeOver := goodIn_r _ [12, 13, 14, 15, 16, 17, 18, 19, 20, 21, 22, 23, 24, 25, 26, 27, 28, 29, 30, 33, 34, 35, 36, 37, 38, 39, 40, 41, 42, 43, 44, 45] (by decide +kernel) (by decide +kernel)
set_option maxRecDepth 20000 in
theorem gX1_keep_X2_takeOver : GoodIn wsX1_keep (wsV RX1 25 RX2 yX2_takeOver wsX2_takeOver) := goodIn_app (goodIn_of _ (by decide +kernel)) ggX1_keep_X2_takeOver
theorem dX1_keep_0 : decode cX1_keep 0 = .ok (.aload_n 0, 1) := by decide +kernel
theorem dX1_keep_1 : decode cX1_keep 1 = .ok (.getfield 18, 3) := by decide +kernel
theorem dX1_keep_4 : decode cX1_keep 4 = .ok (.aload_n 0, 1) := by decide +kernel
theorem dX1_keep_5 : decode cX1_keep 5 = .ok (.getfield 11, 3) := by decide +kernel
theorem dX1_keep_8 : decode cX1_keep 8 = .ok (.arraylength, 1) := by decide +kernel
theorem dX1_keep_9 : decode cX1_keep 9 = .ok (.if_icmp .lt 7, 3) := by decide +kernel
theorem dX1_keep_12 : decode cX1_keep 12 = .ok (.aload_n 0, 1) := by decide +kernel
theorem dX1_keep_13 : decode cX1_keep 13 = .ok (.invokevirtual 22, 3) := by decide +kernel
theorem dX1_keep_16 : decode cX1_keep 16 = .ok (.aload_n 0, 1) := by decide +kernel
theorem dX1_keep_17 : decode cX1_keep 17 = .ok (.getfield 18, 3) := by decide +kernel
theorem dX1_keep_20 : decode cX1_keep 20 = .ok (.ifCond .lt 50, 3) := by decide +kernel
theorem dX1_keep_23 : decode cX1_keep 23 = .ok (.aload_n 0, 1) := by decide +kernel
theorem dX1_keep_24 : decode cX1_keep 24 = .ok (.getfield 18, 3) := by decide +kernel
theorem dX1_keep_27 : decode cX1_keep 27 = .ok (.aload_n 0, 1) := by decide +kernel
theorem dX1_keep_28 : decode cX1_keep 28 = .ok (.getfield 11, 3) := by decide +kernel
theorem dX1_keep_31 : decode cX1_keep 31 = .ok (.arraylength, 1) := by decide +kernel
theorem dX1_keep_32 : decode cX1_keep 32 = .ok (.if_icmp .ge 38, 3) := by decide +kernel
theorem dX1_keep_35 : decode cX1_keep 35 = .ok (.aload_n 0, 1) := by decide +kernel
theorem dX1_keep_36 : decode cX1_keep 36 = .ok (.getfield 11, 3) := by decide +kernel
theorem dX1_keep_39 : decode cX1_keep 39 = .ok (.aload_n 0, 1) := by decide +kernel
theorem dX1_keep_40 : decode cX1_keep 40 = .ok (.getfield 18, 3) := by decide +kernel
theorem dX1_keep_43 : decode cX1_keep 43 = .ok (.aaload, 1) := by decide +kernel
theorem dX1_keep_44 : decode cX1_keep 44 = .ok (.ifnull 26, 3) := by decide +kernel
theorem dX1_keep_47 : decode cX1_keep 47 = .ok (.aload_n 0, 1) := by decide +kernel
theorem dX1_keep_48 : decode cX1_keep 48 = .ok (.getfield 11, 3) := by decide +kernel
theorem dX1_keep_51 : decode cX1_keep 51 = .ok (.aload_n 0, 1) := by decide +kernel
theorem dX1_keep_52 : decode cX1_keep 52 = .ok (.getfield 18, 3) := by decide +kernel
theorem dX1_keep_55 : decode cX1_keep 55 = .ok (.aaload, 1) := by decide +kernel
theorem dX1_keep_56 : decode cX1_keep 56 = .ok (.aload_n 1, 1) := by decide +kernel
theorem dX1_keep_57 : decode cX1_keep 57 = .ok (.invokevirtual 25, 3) := by decide +kernel
theorem dX1_keep_60 : decode cX1_keep 60 = .ok (.aload_n 0, 1) := by decide +kernel
theorem dX1_keep_61 : decode cX1_keep 61 = .ok (.dup, 1) := by decide +kernel
theorem dX1_keep_62 : decode cX1_keep 62 = .ok (.getfield 18, 3) := by decide +kernel
theorem dX1_keep_65 : decode cX1_keep 65 = .ok (.iconst 1, 1) := by decide +kernel
theorem dX1_keep_66 : decode cX1_keep 66 = .ok (.iadd, 1) := by decide +kernel
theorem dX1_keep_67 : decode cX1_keep 67 = .ok (.putfield 18, 3) := by decide +kernel
theorem dX1_keep_70 : decode cX1_keep 70 = .ok (.return_, 1) := by decide +kernel
theorem dX1_makeRoom_0 : decode cX1_makeRoom 0 = .ok (.aload_n 0, 1) := by decide +kernel
theorem dX1_makeRoom_1 : decode cX1_makeRoom 1 = .ok (.getfield 11, 3) := by decide +kernel
theorem dX1_makeRoom_4 : decode cX1_makeRoom 4 = .ok (.arraylength, 1) := by decide +kernel
theorem dX1_makeRoom_5 : decode cX1_makeRoom 5 = .ok (.ifCond .ne 4, 3) := by decide +kernel
theorem dX1_makeRoom_8 : decode cX1_makeRoom 8 = .ok (.return_, 1) := by decide +kernel
theorem dX1_makeRoom_9 : decode cX1_makeRoom 9 = .ok (.aload_n 0, 1) := by decide +kernel
theorem dX1_makeRoom_10 : decode cX1_makeRoom 10 = .ok (.getfield 11, 3) := by decide +kernel
theorem dX1_makeRoom_13 : decode cX1_makeRoom 13 = .ok (.iconst 0, 1) := by decide +kernel
theorem dX1_makeRoom_14 : decode cX1_makeRoom 14 = .ok (.aaload, 1) := by decide +kernel
theorem dX1_makeRoom_15 : decode cX1_makeRoom 15 = .ok (.astore_n 1, 1) := by decide +kernel
theorem dX1_makeRoom_16 : decode cX1_makeRoom 16 = .ok (.iconst 1, 1) := by decide +kernel
theorem dX1_makeRoom_17 : decode cX1_makeRoom 17 = .ok (.istore_n 2, 1) := by decide +kernel
theorem dX1_makeRoom_18 : decode cX1_makeRoom 18 = .ok (.iload_n 2, 1) := by decide +kernel
theorem dX1_makeRoom_19 : decode cX1_makeRoom 19 = .ok (.aload_n 0, 1) := by decide +kernel
theorem dX1_makeRoom_20 : decode cX1_makeRoom 20 = .ok (.getfield 11, 3) := by decide +kernel
theorem dX1_makeRoom_23 : decode cX1_makeRoom 23 = .ok (.arraylength, 1) := by decide +kernel
theorem dX1_makeRoom_24 : decode cX1_makeRoom 24 = .ok (.if_icmp .ge 23, 3) := by decide +kernel
theorem dX1_makeRoom_27 : decode cX1_makeRoom 27 = .ok (.aload_n 0, 1) := by decide +kernel
theorem dX1_makeRoom_28 : decode cX1_makeRoom 28 = .ok (.getfield 11, 3) := by decide +kernel
theorem dX1_makeRoom_31 : decode cX1_makeRoom 31 = .ok (.iload_n 2, 1) := by decide +kernel
theorem dX1_makeRoom_32 : decode cX1_makeRoom 32 = .ok (.iconst 1, 1) := by decide +kernel
theorem dX1_makeRoom_33 : decode cX1_makeRoom 33 = .ok (.isub, 1) := by decide +kernel
theorem dX1_makeRoom_34 : decode cX1_makeRoom 34 = .ok (.aload_n 0, 1) := by decide +kernel
theorem dX1_makeRoom_35 : decode cX1_makeRoom 35 = .ok (.getfield 11, 3) := by decide +kernel
theorem dX1_makeRoom_38 : decode cX1_makeRoom 38 = .ok (.iload_n 2, 1) := by decide +kernel
theorem dX1_makeRoom_39 : decode cX1_makeRoom 39 = .ok (.aaload, 1) := by decide +kernel
theorem dX1_makeRoom_40 : decode cX1_makeRoom 40 = .ok (.aastore, 1) := by decide +kernel
theorem dX1_makeRoom_41 : decode cX1_makeRoom 41 = .ok (.iinc 2 1, 3) := by decide +kernel
theorem dX1_makeRoom_44 : decode cX1_makeRoom 44 = .ok (.goto (-26), 3) := by decide +kernel
theorem dX1_makeRoom_47 : decode cX1_makeRoom 47 = .ok (.aload_n 0, 1) := by decide +kernel
theorem dX1_makeRoom_48 : decode cX1_makeRoom 48 = .ok (.getfield 11, 3) := by decide +kernel
theorem dX1_makeRoom_51 : decode cX1_makeRoom 51 = .ok (.aload_n 0, 1) := by decide +kernel
theorem dX1_makeRoom_52 : decode cX1_makeRoom 52 = .ok (.getfield 11, 3) := by decide +kernel
theorem dX1_makeRoom_55 : decode cX1_makeRoom 55 = .ok (.arraylength, 1) := by decide +kernel
theorem dX1_makeRoom_56 : decode cX1_makeRoom 56 = .ok (.iconst 1, 1) := by decide +kernel
theorem dX1_makeRoom_57 : decode cX1_makeRoom 57 = .ok (.isub, 1) := by decide +kernel
theorem dX1_makeRoom_58 : decode cX1_makeRoom 58 = .ok (.aload_n 1, 1) := by decide +kernel
theorem dX1_makeRoom_59 : decode cX1_makeRoom 59 = .ok (.aastore, 1) := by decide +kernel
theorem dX1_makeRoom_60 : decode cX1_makeRoom 60 = .ok (.aload_n 0, 1) := by decide +kernel
theorem dX1_makeRoom_61 : decode cX1_makeRoom 61 = .ok (.aload_n 0, 1) := by decide +kernel
theorem dX1_makeRoom_62 : decode cX1_makeRoom 62 = .ok (.getfield 11, 3) := by decide +kernel
theorem dX1_makeRoom_65 : decode cX1_makeRoom 65 = .ok (.arraylength, 1) := by decide +kernel
theorem dX1_makeRoom_66 : decode cX1_makeRoom 66 = .ok (.iconst 1, 1) := by decide +kernel
theorem dX1_makeRoom_67 : decode cX1_makeRoom 67 = .ok (.isub, 1) := by decide +kernel
theorem dX1_makeRoom_68 : decode cX1_makeRoom 68 = .ok (.putfield 18, 3) := by decide +kernel
theorem dX1_makeRoom_71 : decode cX1_makeRoom 71 = .ok (.return_, 1) := by decide +kernel
set_option maxRecDepth 20000 in
theorem ggX2_init_X3_init : GoodIn wsX2_init wsX3_init := goodIn_r _ [14, 15, 2, 3, 16, 17, 18, 19, 29, 30, 31, 32] (by decide +kernel) (by decide +kernel)
set_option maxRecDepth 20000 in
theorem gX2_init_X3_init : GoodIn wsX2_init (wsX3_init) := ggX2_init_X3_init
set_option maxRecDepth 20000 in
theorem ggX2_init_X3_addRow : GoodIn wsX2_init wsX3_addRow := goodIn_r _ [23, 24, 16, 29, 30, 31, 32] (by decide +kernel) (by decide +kernel)
set_option maxRecDepth 20000 in
theorem gX2_init_X3_addRow : GoodIn wsX2_init (wsV RX2 32 RX3 yX3_addRow wsX3_addRow) := goodIn_app (goodIn_of _ (by decide +kernel)) ggX2_init_X3_addRow
set_option maxRecDepth 20000 in
theorem ggX2_init_X3_put : GoodIn wsX2_init wsX3_put := goodIn_r _ [28, 24, 17, 19, 29, 30, 31, 32] (by decide +kernel) (by decide +kernel)
set_option maxRecDepth 20000 in
theorem gX2_init_X3_put : GoodIn wsX2_init (wsV RX2 36 RX3 yX3_put wsX3_put) := goodIn_app (goodIn_of _ (by decide +kernel)) ggX2_init_X3_put
theorem dX2_init_0 : decode cX2_init 0 = .ok (.aload_n 0, 1) := by decide +kernel
theorem dX2_init_1 : decode cX2_init 1 = .ok (.invokespecial 3, 3) := by decide +kernel
theorem dX2_init_4 : decode cX2_init 4 = .ok (.aload_n 0, 1) := by decide +kernel
theorem dX2_init_5 : decode cX2_init 5 = .ok (.new 9, 3) := by decide +kernel
theorem dX2_init_8 : decode cX2_init 8 = .ok (.dup, 1) := by decide +kernel
theorem dX2_init_9 : decode cX2_init 9 = .ok (.bipush 10, 2) := by decide +kernel
theorem dX2_init_11 : decode cX2_init 11 = .ok (.iconst 2, 1) := by decide +kernel
theorem dX2_init_12 : decode cX2_init 12 = .ok (.invokespecial 11, 3) := by decide +kernel
theorem dX2_init_15 : decode cX2_init 15 = .ok (.putfield 14, 3) := by decide +kernel
theorem dX2_init_18 : decode cX2_init 18 = .ok (.aload_n 0, 1) := by decide +kernel
theorem dX2_init_19 : decode cX2_init 19 = .ok (.new 9, 3) := by decide +kernel
theorem dX2_init_22 : decode cX2_init 22 = .ok (.dup, 1) := by decide +kernel
theorem dX2_init_23 : decode cX2_init 23 = .ok (.bipush 8, 2) := by decide +kernel
theorem dX2_init_25 : decode cX2_init 25 = .ok (.iconst 2, 1) := by decide +kernel
theorem dX2_init_26 : decode cX2_init 26 = .ok (.invokespecial 11, 3) := by decide +kernel
theorem dX2_init_29 : decode cX2_init 29 = .ok (.putfield 20, 3) := by decide +kernel
theorem dX2_init_32 : decode cX2_init 32 = .ok (.aload_n 0, 1) := by decide +kernel
theorem dX2_init_33 : decode cX2_init 33 = .ok (.new 9, 3) := by decide +kernel
theorem dX2_init_36 : decode cX2_init 36 = .ok (.dup, 1) := by decide +kernel
theorem dX2_init_37 : decode cX2_init 37 = .ok (.bipush 40, 2) := by decide +kernel
theorem dX2_init_39 : decode cX2_init 39 = .ok (.bipush 6, 2) := by decide +kernel
theorem dX2_init_41 : decode cX2_init 41 = .ok (.invokespecial 11, 3) := by decide +kernel
theorem dX2_init_44 : decode cX2_init 44 = .ok (.putfield 23, 3) := by decide +kernel
theorem dX2_init_47 : decode cX2_init 47 = .ok (.aload_n 0, 1) := by decide +kernel
theorem dX2_init_48 : decode cX2_init 48 = .ok (.new 9, 3) := by decide +kernel
theorem dX2_init_51 : decode cX2_init 51 = .ok (.dup, 1) := by decide +kernel
theorem dX2_init_52 : decode cX2_init 52 = .ok (.bipush 12, 2) := by decide +kernel
theorem dX2_init_54 : decode cX2_init 54 = .ok (.iconst 3, 1) := by decide +kernel
theorem dX2_init_55 : decode cX2_init 55 = .ok (.invokespecial 11, 3) := by decide +kernel
theorem dX2_init_58 : decode cX2_init 58 = .ok (.putfield 26, 3) := by decide +kernel
theorem dX2_init_61 : decode cX2_init 61 = .ok (.aload_n 0, 1) := by decide +kernel
theorem dX2_init_62 : decode cX2_init 62 = .ok (.new 9, 3) := by decide +kernel
theorem dX2_init_65 : decode cX2_init 65 = .ok (.dup, 1) := by decide +kernel
theorem dX2_init_66 : decode cX2_init 66 = .ok (.bipush 8, 2) := by decide +kernel
theorem dX2_init_68 : decode cX2_init 68 = .ok (.bipush 10, 2) := by decide +kernel
theorem dX2_init_70 : decode cX2_init 70 = .ok (.invokespecial 11, 3) := by decide +kernel
theorem dX2_init_73 : decode cX2_init 73 = .ok (.putfield 29, 3) := by decide +kernel
theorem dX2_init_76 : decode cX2_init 76 = .ok (.iconst 0, 1) := by decide +kernel
theorem dX2_init_77 : decode cX2_init 77 = .ok (.istore_n 1, 1) := by decide +kernel
theorem dX2_init_78 : decode cX2_init 78 = .ok (.iload_n 1, 1) := by decide +kernel
theorem dX2_init_79 : decode cX2_init 79 = .ok (.bipush 10, 2) := by decide +kernel
theorem dX2_init_81 : decode cX2_init 81 = .ok (.if_icmp .ge 39, 3) := by decide +kernel
theorem dX2_init_84 : decode cX2_init 84 = .ok (.aload_n 0, 1) := by decide +kernel
theorem dX2_init_85 : decode cX2_init 85 = .ok (.getfield 14, 3) := by decide +kernel
theorem dX2_init_88 : decode cX2_init 88 = .ok (.invokevirtual 32, 3) := by decide +kernel
theorem dX2_init_91 : decode cX2_init 91 = .ok (.pop, 1) := by decide +kernel
theorem dX2_init_92 : decode cX2_init 92 = .ok (.aload_n 0, 1) := by decide +kernel
theorem dX2_init_93 : decode cX2_init 93 = .ok (.getfield 14, 3) := by decide +kernel
theorem dX2_init_96 : decode cX2_init 96 = .ok (.iload_n 1, 1) := by decide +kernel
theorem dX2_init_97 : decode cX2_init 97 = .ok (.iconst 0, 1) := by decide +kernel
theorem dX2_init_98 : decode cX2_init 98 = .ok (.bipush 60, 2) := by decide +kernel
theorem dX2_init_100 : decode cX2_init 100 = .ok (.invokevirtual 36, 3) := by decide +kernel
theorem dX2_init_103 : decode cX2_init 103 = .ok (.aload_n 0, 1) := by decide +kernel
theorem dX2_init_104 : decode cX2_init 104 = .ok (.getfield 14, 3) := by decide +kernel
theorem dX2_init_107 : decode cX2_init 107 = .ok (.iload_n 1, 1) := by decide +kernel
theorem dX2_init_108 : decode cX2_init 108 = .ok (.iconst 1, 1) := by decide +kernel
theorem dX2_init_109 : decode cX2_init 109 = .ok (.bipush 60, 2) := by decide +kernel
theorem dX2_init_111 : decode cX2_init 111 = .ok (.invokevirtual 36, 3) := by decide +kernel
theorem dX2_init_114 : decode cX2_init 114 = .ok (.iinc 1 1, 3) := by decide +kernel
theorem dX2_init_117 : decode cX2_init 117 = .ok (.goto (-39), 3) := by decide +kernel
theorem dX2_init_120 : decode cX2_init 120 = .ok (.return_, 1) := by decide +kernel
set_option maxRecDepth 20000 in
theorem ggX2_takeOver_X3_takeOver : GoodIn wsX2_takeOver wsX3_takeOver := goodIn_r _ [14, 15, 16, 17, 18, 28, 29, 30, 31] (by decide +kernel) (by decide +kernel)
set_option maxRecDepth 20000 in
theorem gX2_takeOver_X3_takeOver : GoodIn wsX2_takeOver (wsV RX2 40 RX3 yX3_takeOver wsX3_takeOver) := goodIn_app (goodIn_of _ (by decide +kernel)) ggX2_takeOver_X3_takeOver
theorem dX2_takeOver_0 : decode cX2_takeOver 0 = .ok (.aload_n 0, 1) := by decide +kernel
theorem dX2_takeOver_1 : decode cX2_takeOver 1 = .ok (.getfield 14, 3) := by decide +kernel
theorem dX2_takeOver_4 : decode cX2_takeOver 4 = .ok (.aload_n 1, 1) := by decide +kernel
theorem dX2_takeOver_5 : decode cX2_takeOver 5 = .ok (.getfield 14, 3) := by decide +kernel
theorem dX2_takeOver_8 : decode cX2_takeOver 8 = .ok (.invokevirtual 40, 3) := by decide +kernel
theorem dX2_takeOver_11 : decode cX2_takeOver 11 = .ok (.aload_n 0, 1) := by decide +kernel
theorem dX2_takeOver_12 : decode cX2_takeOver 12 = .ok (.getfield 20, 3) := by decide +kernel
theorem dX2_takeOver_15 : decode cX2_takeOver 15 = .ok (.aload_n 1, 1) := by decide +kernel
theorem dX2_takeOver_16 : decode cX2_takeOver 16 = .ok (.getfield 20, 3) := by decide +kernel
theorem dX2_takeOver_19 : decode cX2_takeOver 19 = .ok (.invokevirtual 40, 3) := by decide +kernel
theorem dX2_takeOver_22 : decode cX2_takeOver 22 = .ok (.aload_n 0, 1) := by decide +kernel
theorem dX2_takeOver_23 : decode cX2_takeOver 23 = .ok (.getfield 23, 3) := by decide +kernel
theorem dX2_takeOver_26 : decode cX2_takeOver 26 = .ok (.aload_n 1, 1) := by decide +kernel
theorem dX2_takeOver_27 : decode cX2_takeOver 27 = .ok (.getfield 23, 3) := by decide +kernel
theorem dX2_takeOver_30 : decode cX2_takeOver 30 = .ok (.invokevirtual 40, 3) := by decide +kernel
theorem dX2_takeOver_33 : decode cX2_takeOver 33 = .ok (.aload_n 0, 1) := by decide +kernel
theorem dX2_takeOver_34 : decode cX2_takeOver 34 = .ok (.getfield 26, 3) := by decide +kernel
theorem dX2_takeOver_37 : decode cX2_takeOver 37 = .ok (.aload_n 1, 1) := by decide +kernel
theorem dX2_takeOver_38 : decode cX2_takeOver 38 = .ok (.getfield 26, 3) := by decide +kernel
theorem dX2_takeOver_41 : decode cX2_takeOver 41 = .ok (.invokevirtual 40, 3) := by decide +kernel
theorem dX2_takeOver_44 : decode cX2_takeOver 44 = .ok (.aload_n 0, 1) := by decide +kernel
theorem dX2_takeOver_45 : decode cX2_takeOver 45 = .ok (.getfield 29, 3) := by decide +kernel
theorem dX2_takeOver_48 : decode cX2_takeOver 48 = .ok (.aload_n 1, 1) := by decide +kernel
theorem dX2_takeOver_49 : decode cX2_takeOver 49 = .ok (.getfield 29, 3) := by decide +kernel
theorem dX2_takeOver_52 : decode cX2_takeOver 52 = .ok (.invokevirtual 40, 3) := by decide +kernel
theorem dX2_takeOver_55 : decode cX2_takeOver 55 = .ok (.aload_n 0, 1) := by decide +kernel
theorem dX2_takeOver_56 : decode cX2_takeOver 56 = .ok (.aload_n 1, 1) := by decide +kernel
theorem dX2_takeOver_57 : decode cX2_takeOver 57 = .ok (.getfield 44, 3) := by decide +kernel
theorem dX2_takeOver_60 : decode cX2_takeOver 60 = .ok (.putfield 44, 3) := by decide +kernel
theorem dX2_takeOver_63 : decode cX2_takeOver 63 = .ok (.aload_n 0, 1) := by decide +kernel
theorem dX2_takeOver_64 : decode cX2_takeOver 64 = .ok (.aload_n 1, 1) := by decide +kernel
theorem dX2_takeOver_65 : decode cX2_takeOver 65 = .ok (.getfield 48, 3) := by decide +kernel
theorem dX2_takeOver_68 : decode cX2_takeOver 68 = .ok (.putfield 48, 3) := by decide +kernel
theorem dX2_takeOver_71 : decode cX2_takeOver 71 = .ok (.aload_n 0, 1) := by decide +kernel
theorem dX2_takeOver_72 : decode cX2_takeOver 72 = .ok (.aload_n 1, 1) := by decide +kernel
theorem dX2_takeOver_73 : decode cX2_takeOver 73 = .ok (.getfield 51, 3) := by decide +kernel
theorem dX2_takeOver_76 : decode cX2_takeOver 76 = .ok (.putfield 51, 3) := by decide +kernel
theorem dX2_takeOver_79 : decode cX2_takeOver 79 = .ok (.aload_n 0, 1) := by decide +kernel
theorem dX2_takeOver_80 : decode cX2_takeOver 80 = .ok (.aload_n 1, 1) := by decide +kernel
theorem dX2_takeOver_81 : decode cX2_takeOver 81 = .ok (.getfield 54, 3) := by decide +kernel
theorem dX2_takeOver_84 : decode cX2_takeOver 84 = .ok (.putfield 54, 3) := by decide +kernel
theorem dX2_takeOver_87 : decode cX2_takeOver 87 = .ok (.return_, 1) := by decide +kernel
set_option maxRecDepth 20000 in
theorem ggX2_takeIn_X3_addRow : GoodIn wsX2_takeIn wsX3_addRow := goodIn_r _ [7, 8, 9, 43, 44, 45, 46] (by decide +kernel) (by decide +kernel)
set_option maxRecDepth 20000 in
theorem gX2_takeIn_X3_addRow : GoodIn wsX2_takeIn (wsV RX2 32 RX3 yX3_addRow wsX3_addRow) := goodIn_app (goodIn_of _ (by decide +kernel)) ggX2_takeIn_X3_addRow
set_option maxRecDepth 20000 in
theorem ggX2_takeIn_X3_put : GoodIn wsX2_takeIn wsX3_put := goodIn_r _ [13, 8, 14, 15, 43, 44, 45, 46] (by decide +kernel) (by decide +kernel)
set_option maxRecDepth 20000 in
theorem gX2_takeIn_X3_put : GoodIn wsX2_takeIn (wsV RX2 36 RX3 yX3_put wsX3_put) := goodIn_app (goodIn_of _ (by decide +kernel)) ggX2_takeIn_X3_put
set_option maxRecDepth 20000 in
theorem ggX2_takeIn_X2_settle : GoodIn wsX2_takeIn wsX2_settle := goodIn_r _ [20, 1, 2, 21, 22, 23, 24, 6, 25, 8, 26, 27, 28, 29, 14, 15, 10, 11, 12, 13, 30, 31, 32, 19, 33, 34, 35, 36, 37, 38, 39, 40, 41, 42, 43, 44, 45, 46] (by decide +kernel) (by decide +kernel)
set_option maxRecDepth 20000 in
theorem gX2_takeIn_X2_settle : GoodIn wsX2_takeIn (wsV RX2 57 RX2 yX2_settle wsX2_settle) := goodIn_app (goodIn_of _ (by decide +kernel)) ggX2_takeIn_X2_settle
theorem dX2_takeIn_0 : decode cX2_takeIn 0 = .ok (.aload_n 0, 1) := by decide +kernel
theorem dX2_takeIn_1 : decode cX2_takeIn 1 = .ok (.getfield 20, 3) := by decide +kernel
theorem dX2_takeIn_4 : decode cX2_takeIn 4 = .ok (.invokevirtual 32, 3) := by decide +kernel
theorem dX2_takeIn_7 : decode cX2_takeIn 7 = .ok (.istore_n 3, 1) := by decide +kernel
theorem dX2_takeIn_8 : decode cX2_takeIn 8 = .ok (.aload_n 0, 1) := by decide +kernel
theorem dX2_takeIn_9 : decode cX2_takeIn 9 = .ok (.getfield 20, 3) := by decide +kernel
theorem dX2_takeIn_12 : decode cX2_takeIn 12 = .ok (.iload_n 3, 1) := by decide +kernel
theorem dX2_takeIn_13 : decode cX2_takeIn 13 = .ok (.iconst 0, 1) := by decide +kernel
theorem dX2_takeIn_14 : decode cX2_takeIn 14 = .ok (.iload_n 1, 1) := by decide +kernel
theorem dX2_takeIn_15 : decode cX2_takeIn 15 = .ok (.invokevirtual 36, 3) := by decide +kernel
theorem dX2_takeIn_18 : decode cX2_takeIn 18 = .ok (.aload_n 0, 1) := by decide +kernel
theorem dX2_takeIn_19 : decode cX2_takeIn 19 = .ok (.getfield 20, 3) := by decide +kernel
theorem dX2_takeIn_22 : decode cX2_takeIn 22 = .ok (.iload_n 3, 1) := by decide +kernel
theorem dX2_takeIn_23 : decode cX2_takeIn 23 = .ok (.iconst 1, 1) := by decide +kernel
theorem dX2_takeIn_24 : decode cX2_takeIn 24 = .ok (.iload_n 2, 1) := by decide +kernel
theorem dX2_takeIn_25 : decode cX2_takeIn 25 = .ok (.invokevirtual 36, 3) := by decide +kernel
theorem dX2_takeIn_28 : decode cX2_takeIn 28 = .ok (.aload_n 0, 1) := by decide +kernel
theorem dX2_takeIn_29 : decode cX2_takeIn 29 = .ok (.getfield 29, 3) := by decide +kernel
theorem dX2_takeIn_32 : decode cX2_takeIn 32 = .ok (.invokevirtual 32, 3) := by decide +kernel
theorem dX2_takeIn_35 : decode cX2_takeIn 35 = .ok (.pop, 1) := by decide +kernel
theorem dX2_takeIn_36 : decode cX2_takeIn 36 = .ok (.aload_n 0, 1) := by decide +kernel
theorem dX2_takeIn_37 : decode cX2_takeIn 37 = .ok (.invokevirtual 57, 3) := by decide +kernel
theorem dX2_takeIn_40 : decode cX2_takeIn 40 = .ok (.iload_n 3, 1) := by decide +kernel
theorem dX2_takeIn_41 : decode cX2_takeIn 41 = .ok (.ireturn, 1) := by decide +kernel
set_option maxRecDepth 20000 in
theorem ggX2_changeThing_X3_at : GoodIn wsX2_changeThing wsX3_at := goodIn_r _ [6, 7, 8, 9, 38, 39, 40, 41] (by decide +kernel) (by decide +kernel)
set_option maxRecDepth 20000 in
theorem gX2_changeThing_X3_at : GoodIn wsX2_changeThing (wsV RX2 60 RX3 yX3_at wsX3_at) := goodIn_app (goodIn_of _ (by decide +kernel)) ggX2_changeThing_X3_at
set_option maxRecDepth 20000 in
theorem ggX2_changeThing_X3_put : GoodIn wsX2_changeThing wsX3_put := goodIn_r _ [13, 7, 8, 9, 38, 39, 40, 41] (by decide +kernel) (by decide +kernel)
set_option maxRecDepth 20000 in
theorem gX2_changeThing_X3_put : GoodIn wsX2_changeThing (wsV RX2 36 RX3 yX3_put wsX3_put) := goodIn_app (goodIn_of _ (by decide +kernel)) ggX2_changeThing_X3_put
set_option maxRecDepth 20000 in
theorem ggX2_changeThing_X2_settle : GoodIn wsX2_changeThing wsX2_settle := goodIn_r _ [18, 1, 19, 20, 21, 22, 23, 5, 24, 7, 2, 3, 4, 6, 8, 9, 10, 11, 12, 13, 25, 26, 27, 17, 28, 29, 30, 31, 32, 33, 34, 35, 36, 37, 38, 39, 40, 41] (by decide +kernel) (by decide +kernel)
set_option maxRecDepth 20000 in
theorem gX2_changeThing_X2_settle : GoodIn wsX2_changeThing (wsV RX2 57 RX2 yX2_settle wsX2_settle) := goodIn_app (goodIn_of _ (by decide +kernel)) ggX2_changeThing_X2_settle
theorem dX2_changeThing_0 : decode cX2_changeThing 0 = .ok (.aload_n 0, 1) := by decide +kernel
theorem dX2_changeThing_1 : decode cX2_changeThing 1 = .ok (.getfield 20, 3) := by decide +kernel
theorem dX2_changeThing_4 : decode cX2_changeThing 4 = .ok (.iload_n 1, 1) := by decide +kernel
theorem dX2_changeThing_5 : decode cX2_changeThing 5 = .ok (.iload_n 2, 1) := by decide +kernel
theorem dX2_changeThing_6 : decode cX2_changeThing 6 = .ok (.invokevirtual 60, 3) := by decide +kernel
theorem dX2_changeThing_9 : decode cX2_changeThing 9 = .ok (.istore 4, 2) := by decide +kernel
theorem dX2_changeThing_11 : decode cX2_changeThing 11 = .ok (.aload_n 0, 1) := by decide +kernel
theorem dX2_changeThing_12 : decode cX2_changeThing 12 = .ok (.getfield 20, 3) := by decide +kernel
theorem dX2_changeThing_15 : decode cX2_changeThing 15 = .ok (.iload_n 1, 1) := by decide +kernel
theorem dX2_changeThing_16 : decode cX2_changeThing 16 = .ok (.iload_n 2, 1) := by decide +kernel
theorem dX2_changeThing_17 : decode cX2_changeThing 17 = .ok (.iload_n 3, 1) := by decide +kernel
theorem dX2_changeThing_18 : decode cX2_changeThing 18 = .ok (.invokevirtual 36, 3) := by decide +kernel
theorem dX2_changeThing_21 : decode cX2_changeThing 21 = .ok (.aload_n 0, 1) := by decide +kernel
theorem dX2_changeThing_22 : decode cX2_changeThing 22 = .ok (.invokevirtual 57, 3) := by decide +kernel
theorem dX2_changeThing_25 : decode cX2_changeThing 25 = .ok (.iload 4, 2) := by decide +kernel
theorem dX2_changeThing_27 : decode cX2_changeThing 27 = .ok (.ireturn, 1) := by decide +kernel
set_option maxRecDepth 20000 in
theorem ggX2_faultOfGrant_X5_isPerson : GoodIn wsX2_faultOfGrant wsX5_isPerson := goodIn_r _ [6, 7, 8, 5, 9] (by decide +kernel) (by decide +kernel)
set_option maxRecDepth 20000 in
theorem gX2_faultOfGrant_X5_isPerson_n64 : GoodIn wsX2_faultOfGrant (wsX5_isPerson) := ggX2_faultOfGrant_X5_isPerson
set_option maxRecDepth 20000 in
theorem ggX2_faultOfGrant_X3_has : GoodIn wsX2_faultOfGrant wsX3_has := goodIn_r _ [14, 15, 42, 43, 44, 45] (by decide +kernel) (by decide +kernel)
set_option maxRecDepth 20000 in
theorem gX2_faultOfGrant_X3_has : GoodIn wsX2_faultOfGrant (wsV RX2 68 RX3 yX3_has wsX3_has) := goodIn_app (goodIn_of _ (by decide +kernel)) ggX2_faultOfGrant_X3_has
