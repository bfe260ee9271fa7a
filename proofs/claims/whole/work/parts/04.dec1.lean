set_option maxRecDepth 20000 in
theorem ggX0_init_X3_init : GoodIn wsX0_init wsX3_init := goodIn_r _ [10, 11, 2, 3, 12, 13, 14, 15, 21, 22, 23, 24] (by decide +kernel) (by decide +kernel)
set_option maxRecDepth 20000 in
theorem gX0_init_X3_init : GoodIn wsX0_init (wsX3_init) := ggX0_init_X3_init
set_option maxRecDepth 20000 in
theorem ggX0_init_X3_addRow : GoodIn wsX0_init wsX3_addRow := goodIn_r _ [19, 20, 12, 21, 22, 23, 24] (by decide +kernel) (by decide +kernel)
set_option maxRecDepth 20000 in
theorem gX0_init_X3_addRow : GoodIn wsX0_init (wsV RX0 20 RX3 yX3_addRow wsX3_addRow) := goodIn_app (goodIn_of _ (by decide +kernel)) ggX0_init_X3_addRow
theorem dX0_init_0 : decode cX0_init 0 = .ok (.aload_n 0, 1) := by decide +kernel
theorem dX0_init_1 : decode cX0_init 1 = .ok (.invokespecial 3, 3) := by decide +kernel
theorem dX0_init_4 : decode cX0_init 4 = .ok (.aload_n 0, 1) := by decide +kernel
theorem dX0_init_5 : decode cX0_init 5 = .ok (.new 9, 3) := by decide +kernel
theorem dX0_init_8 : decode cX0_init 8 = .ok (.dup, 1) := by decide +kernel
theorem dX0_init_9 : decode cX0_init 9 = .ok (.iconst 1, 1) := by decide +kernel
theorem dX0_init_10 : decode cX0_init 10 = .ok (.bipush 10, 2) := by decide +kernel
theorem dX0_init_12 : decode cX0_init 12 = .ok (.invokespecial 11, 3) := by decide +kernel
theorem dX0_init_15 : decode cX0_init 15 = .ok (.putfield 14, 3) := by decide +kernel
theorem dX0_init_18 : decode cX0_init 18 = .ok (.aload_n 0, 1) := by decide +kernel
theorem dX0_init_19 : decode cX0_init 19 = .ok (.getfield 14, 3) := by decide +kernel
theorem dX0_init_22 : decode cX0_init 22 = .ok (.invokevirtual 20, 3) := by decide +kernel
theorem dX0_init_25 : decode cX0_init 25 = .ok (.pop, 1) := by decide +kernel
theorem dX0_init_26 : decode cX0_init 26 = .ok (.return_, 1) := by decide +kernel
set_option maxRecDepth 20000 in
theorem ggX0_stepsTo_X3_at : GoodIn wsX0_stepsTo wsX3_at := goodIn_r _ [6, 7, 8, 9, 11, 12, 13, 14] (by decide +kernel) (by decide +kernel)
set_option maxRecDepth 20000 in
theorem gX0_stepsTo_X3_at : GoodIn wsX0_stepsTo (wsV RX0 24 RX3 yX3_at wsX3_at) := goodIn_app (goodIn_of _ (by decide +kernel)) ggX0_stepsTo_X3_at
theorem dX0_stepsTo_0 : decode cX0_stepsTo 0 = .ok (.aload_n 0, 1) := by decide +kernel
theorem dX0_stepsTo_1 : decode cX0_stepsTo 1 = .ok (.getfield 14, 3) := by decide +kernel
theorem dX0_stepsTo_4 : decode cX0_stepsTo 4 = .ok (.iconst 0, 1) := by decide +kernel
theorem dX0_stepsTo_5 : decode cX0_stepsTo 5 = .ok (.iload_n 1, 1) := by decide +kernel
theorem dX0_stepsTo_6 : decode cX0_stepsTo 6 = .ok (.invokevirtual 24, 3) := by decide +kernel
theorem dX0_stepsTo_9 : decode cX0_stepsTo 9 = .ok (.ireturn, 1) := by decide +kernel
set_option maxRecDepth 20000 in
theorem ggX0_measure_X3_at : GoodIn wsX0_measure wsX3_at := goodIn_r _ [8, 9, 10, 11, 48, 49, 50, 51] (by decide +kernel) (by decide +kernel)
set_option maxRecDepth 20000 in
theorem gX0_measure_X3_at : GoodIn wsX0_measure (wsV RX0 24 RX3 yX3_at wsX3_at) := goodIn_app (goodIn_of _ (by decide +kernel)) ggX0_measure_X3_at
set_option maxRecDepth 20000 in
theorem ggX0_measure_X3_put : GoodIn wsX0_measure wsX3_put := goodIn_r _ [15, 9, 10, 11, 48, 49, 50, 51] (by decide +kernel) (by decide +kernel)
set_option maxRecDepth 20000 in
theorem gX0_measure_X3_put : GoodIn wsX0_measure (wsV RX0 33 RX3 yX3_put wsX3_put) := goodIn_app (goodIn_of _ (by decide +kernel)) ggX0_measure_X3_put
set_option maxRecDepth 20000 in
theorem ggX0_measure_X3_rows : GoodIn wsX0_measure wsX3_rows := goodIn_r _ [19, 9, 48, 49, 50, 51] (by decide +kernel) (by decide +kernel)
set_option maxRecDepth 20000 in
theorem gX0_measure_X3_rows : GoodIn wsX0_measure (wsV RX0 40 RX3 yX3_rows wsX3_rows) := goodIn_app (goodIn_of _ (by decide +kernel)) ggX0_measure_X3_rows
set_option maxRecDepth 20000 in
theorem ggX0_measure_X0_stepsTo : GoodIn wsX0_measure wsX0_stepsTo := goodIn_r _ [24, 1, 4, 5, 6, 7, 8, 9, 10, 11, 38, 48, 49, 50, 51] (by decide +kernel) (by decide +kernel)
set_option maxRecDepth 20000 in
theorem gX0_measure_X0_stepsTo : GoodIn wsX0_measure (wsV RX0 43 RX0 yX0_stepsTo wsX0_stepsTo) := goodIn_app (goodIn_of _ (by decide +kernel)) ggX0_measure_X0_stepsTo
set_option maxRecDepth 20000 in
theorem ggX0_measure_X0_isLink : GoodIn wsX0_measure wsX0_isLink := goodIn_r _ [28, 3, 4, 5, 6, 7, 8, 9, 10, 11, 20, 21, 22, 23, 24, 1, 29, 30, 31, 32, 33, 34, 35, 36, 37, 39, 40, 41, 42, 43, 44, 45, 46, 47, 48, 49, 50, 51, 38] (by decide +kernel) (by decide +kernel)
set_option maxRecDepth 20000 in
theorem gX0_measure_X0_isLink : GoodIn wsX0_measure (wsV RX0 47 RX0 yX0_isLink wsX0_isLink) := goodIn_app (goodIn_of _ (by decide +kernel)) ggX0_measure_X0_isLink
theorem dX0_measure_0 : decode cX0_measure 0 = .ok (.iconst 0, 1) := by decide +kernel
theorem dX0_measure_1 : decode cX0_measure 1 = .ok (.istore_n 3, 1) := by decide +kernel
theorem dX0_measure_2 : decode cX0_measure 2 = .ok (.iload_n 3, 1) := by decide +kernel
theorem dX0_measure_3 : decode cX0_measure 3 = .ok (.bipush 10, 2) := by decide +kernel
theorem dX0_measure_5 : decode cX0_measure 5 = .ok (.if_icmp .ge 36, 3) := by decide +kernel
theorem dX0_measure_8 : decode cX0_measure 8 = .ok (.aload_n 0, 1) := by decide +kernel
theorem dX0_measure_9 : decode cX0_measure 9 = .ok (.getfield 14, 3) := by decide +kernel
theorem dX0_measure_12 : decode cX0_measure 12 = .ok (.iconst 0, 1) := by decide +kernel
theorem dX0_measure_13 : decode cX0_measure 13 = .ok (.iload_n 3, 1) := by decide +kernel
theorem dX0_measure_14 : decode cX0_measure 14 = .ok (.iload_n 3, 1) := by decide +kernel
theorem dX0_measure_15 : decode cX0_measure 15 = .ok (.aload_n 1, 1) := by decide +kernel
theorem dX0_measure_16 : decode cX0_measure 16 = .ok (.getfield 28, 3) := by decide +kernel
theorem dX0_measure_19 : decode cX0_measure 19 = .ok (.iload_n 2, 1) := by decide +kernel
theorem dX0_measure_20 : decode cX0_measure 20 = .ok (.iconst 0, 1) := by decide +kernel
theorem dX0_measure_21 : decode cX0_measure 21 = .ok (.invokevirtual 24, 3) := by decide +kernel
theorem dX0_measure_24 : decode cX0_measure 24 = .ok (.if_icmp .ne 7, 3) := by decide +kernel
theorem dX0_measure_27 : decode cX0_measure 27 = .ok (.iconst 0, 1) := by decide +kernel
theorem dX0_measure_28 : decode cX0_measure 28 = .ok (.goto 4, 3) := by decide +kernel
theorem dX0_measure_31 : decode cX0_measure 31 = .ok (.iconst (-1), 1) := by decide +kernel
theorem dX0_measure_32 : decode cX0_measure 32 = .ok (.invokevirtual 33, 3) := by decide +kernel
theorem dX0_measure_35 : decode cX0_measure 35 = .ok (.iinc 3 1, 3) := by decide +kernel
theorem dX0_measure_38 : decode cX0_measure 38 = .ok (.goto (-36), 3) := by decide +kernel
theorem dX0_measure_41 : decode cX0_measure 41 = .ok (.iconst 1, 1) := by decide +kernel
theorem dX0_measure_42 : decode cX0_measure 42 = .ok (.istore_n 3, 1) := by decide +kernel
theorem dX0_measure_43 : decode cX0_measure 43 = .ok (.iconst 1, 1) := by decide +kernel
theorem dX0_measure_44 : decode cX0_measure 44 = .ok (.istore 4, 2) := by decide +kernel
theorem dX0_measure_46 : decode cX0_measure 46 = .ok (.iload 4, 2) := by decide +kernel
theorem dX0_measure_48 : decode cX0_measure 48 = .ok (.bipush 10, 2) := by decide +kernel
theorem dX0_measure_50 : decode cX0_measure 50 = .ok (.if_icmp .ge 85, 3) := by decide +kernel
theorem dX0_measure_53 : decode cX0_measure 53 = .ok (.iload_n 3, 1) := by decide +kernel
theorem dX0_measure_54 : decode cX0_measure 54 = .ok (.ifCond .eq 81, 3) := by decide +kernel
theorem dX0_measure_57 : decode cX0_measure 57 = .ok (.iconst 0, 1) := by decide +kernel
theorem dX0_measure_58 : decode cX0_measure 58 = .ok (.istore_n 3, 1) := by decide +kernel
theorem dX0_measure_59 : decode cX0_measure 59 = .ok (.iconst 0, 1) := by decide +kernel
theorem dX0_measure_60 : decode cX0_measure 60 = .ok (.istore 5, 2) := by decide +kernel
theorem dX0_measure_62 : decode cX0_measure 62 = .ok (.iload 5, 2) := by decide +kernel
theorem dX0_measure_64 : decode cX0_measure 64 = .ok (.aload_n 1, 1) := by decide +kernel
theorem dX0_measure_65 : decode cX0_measure 65 = .ok (.getfield 37, 3) := by decide +kernel
theorem dX0_measure_68 : decode cX0_measure 68 = .ok (.invokevirtual 40, 3) := by decide +kernel
theorem dX0_measure_71 : decode cX0_measure 71 = .ok (.if_icmp .ge 58, 3) := by decide +kernel
theorem dX0_measure_74 : decode cX0_measure 74 = .ok (.aload_n 1, 1) := by decide +kernel
theorem dX0_measure_75 : decode cX0_measure 75 = .ok (.getfield 37, 3) := by decide +kernel
theorem dX0_measure_78 : decode cX0_measure 78 = .ok (.iload 5, 2) := by decide +kernel
theorem dX0_measure_80 : decode cX0_measure 80 = .ok (.iconst 1, 1) := by decide +kernel
theorem dX0_measure_81 : decode cX0_measure 81 = .ok (.invokevirtual 24, 3) := by decide +kernel
theorem dX0_measure_84 : decode cX0_measure 84 = .ok (.istore 6, 2) := by decide +kernel
theorem dX0_measure_86 : decode cX0_measure 86 = .ok (.aload_n 0, 1) := by decide +kernel
theorem dX0_measure_87 : decode cX0_measure 87 = .ok (.iload 6, 2) := by decide +kernel
theorem dX0_measure_89 : decode cX0_measure 89 = .ok (.invokevirtual 43, 3) := by decide +kernel
theorem dX0_measure_92 : decode cX0_measure 92 = .ok (.iconst (-1), 1) := by decide +kernel
theorem dX0_measure_93 : decode cX0_measure 93 = .ok (.if_icmp .ne 30, 3) := by decide +kernel
theorem dX0_measure_96 : decode cX0_measure 96 = .ok (.aload_n 0, 1) := by decide +kernel
theorem dX0_measure_97 : decode cX0_measure 97 = .ok (.aload_n 1, 1) := by decide +kernel
theorem dX0_measure_98 : decode cX0_measure 98 = .ok (.iload 5, 2) := by decide +kernel
theorem dX0_measure_100 : decode cX0_measure 100 = .ok (.iload_n 2, 1) := by decide +kernel
theorem dX0_measure_101 : decode cX0_measure 101 = .ok (.iload 4, 2) := by decide +kernel
theorem dX0_measure_103 : decode cX0_measure 103 = .ok (.invokevirtual 47, 3) := by decide +kernel
theorem dX0_measure_106 : decode cX0_measure 106 = .ok (.ifCond .eq 17, 3) := by decide +kernel
theorem dX0_measure_109 : decode cX0_measure 109 = .ok (.aload_n 0, 1) := by decide +kernel
theorem dX0_measure_110 : decode cX0_measure 110 = .ok (.getfield 14, 3) := by decide +kernel
theorem dX0_measure_113 : decode cX0_measure 113 = .ok (.iconst 0, 1) := by decide +kernel
theorem dX0_measure_114 : decode cX0_measure 114 = .ok (.iload 6, 2) := by decide +kernel
theorem dX0_measure_116 : decode cX0_measure 116 = .ok (.iload 4, 2) := by decide +kernel
theorem dX0_measure_118 : decode cX0_measure 118 = .ok (.invokevirtual 33, 3) := by decide +kernel
theorem dX0_measure_121 : decode cX0_measure 121 = .ok (.iconst 1, 1) := by decide +kernel
theorem dX0_measure_122 : decode cX0_measure 122 = .ok (.istore_n 3, 1) := by decide +kernel
theorem dX0_measure_123 : decode cX0_measure 123 = .ok (.iinc 5 1, 3) := by decide +kernel
theorem dX0_measure_126 : decode cX0_measure 126 = .ok (.goto (-64), 3) := by decide +kernel
theorem dX0_measure_129 : decode cX0_measure 129 = .ok (.iinc 4 1, 3) := by decide +kernel
theorem dX0_measure_132 : decode cX0_measure 132 = .ok (.goto (-86), 3) := by decide +kernel
theorem dX0_measure_135 : decode cX0_measure 135 = .ok (.return_, 1) := by decide +kernel
set_option maxRecDepth 20000 in
theorem ggX0_numberAt_X0_stepsTo : GoodIn wsX0_numberAt wsX0_stepsTo := goodIn_r _ [6, 7, 8, 9, 10, 11, 12, 13, 14, 15, 46, 47, 48, 49, 50] (by decide +kernel) (by decide +kernel)
set_option maxRecDepth 20000 in
theorem gX0_numberAt_X0_stepsTo : GoodIn wsX0_numberAt (wsV RX0 43 RX0 yX0_stepsTo wsX0_stepsTo) := goodIn_app (goodIn_of _ (by decide +kernel)) ggX0_numberAt_X0_stepsTo
set_option maxRecDepth 20000 in
theorem ggX0_numberAt_X0_lastLink : GoodIn wsX0_numberAt wsX0_lastLink := goodIn_r _ [19, 1, 20, 21, 22, 11, 23, 13, 8, 9, 10, 12, 14, 15, 24, 25, 26, 5, 27, 2, 3, 4, 6, 7, 28, 29, 30, 31, 32, 33, 34, 35, 36, 37, 38, 39, 40, 41, 42, 43, 44, 45, 47, 48, 49, 50, 46] (by decide +kernel) (by decide +kernel)
set_option maxRecDepth 20000 in
theorem gX0_numberAt_X0_lastLink : GoodIn wsX0_numberAt (wsV RX0 51 RX0 yX0_lastLink wsX0_lastLink) := goodIn_app (goodIn_of _ (by decide +kernel)) ggX0_numberAt_X0_lastLink
set_option maxRecDepth 20000 in
theorem ggX0_numberAt_X3_at : GoodIn wsX0_numberAt wsX3_at := goodIn_r _ [12, 13, 14, 15, 47, 48, 49, 50] (by decide +kernel) (by decide +kernel)
set_option maxRecDepth 20000 in
theorem gX0_numberAt_X3_at : GoodIn wsX0_numberAt (wsV RX0 24 RX3 yX3_at wsX3_at) := goodIn_app (goodIn_of _ (by decide +kernel)) ggX0_numberAt_X3_at
theorem dX0_numberAt_0 : decode cX0_numberAt 0 = .ok (.iconst (-1), 1) := by decide +kernel
theorem dX0_numberAt_1 : decode cX0_numberAt 1 = .ok (.istore 5, 2) := by decide +kernel
theorem dX0_numberAt_3 : decode cX0_numberAt 3 = .ok (.iload_n 2, 1) := by decide +kernel
theorem dX0_numberAt_4 : decode cX0_numberAt 4 = .ok (.istore 6, 2) := by decide +kernel
theorem dX0_numberAt_6 : decode cX0_numberAt 6 = .ok (.aload_n 0, 1) := by decide +kernel
theorem dX0_numberAt_7 : decode cX0_numberAt 7 = .ok (.iload_n 2, 1) := by decide +kernel
theorem dX0_numberAt_8 : decode cX0_numberAt 8 = .ok (.invokevirtual 43, 3) := by decide +kernel
theorem dX0_numberAt_11 : decode cX0_numberAt 11 = .ok (.istore 7, 2) := by decide +kernel
theorem dX0_numberAt_13 : decode cX0_numberAt 13 = .ok (.iload 7, 2) := by decide +kernel
theorem dX0_numberAt_15 : decode cX0_numberAt 15 = .ok (.iload 4, 2) := by decide +kernel
theorem dX0_numberAt_17 : decode cX0_numberAt 17 = .ok (.if_icmp .le 50, 3) := by decide +kernel
theorem dX0_numberAt_20 : decode cX0_numberAt 20 = .ok (.iload 7, 2) := by decide +kernel
theorem dX0_numberAt_22 : decode cX0_numberAt 22 = .ok (.ifCond .le 45, 3) := by decide +kernel
theorem dX0_numberAt_25 : decode cX0_numberAt 25 = .ok (.aload_n 0, 1) := by decide +kernel
theorem dX0_numberAt_26 : decode cX0_numberAt 26 = .ok (.aload_n 1, 1) := by decide +kernel
theorem dX0_numberAt_27 : decode cX0_numberAt 27 = .ok (.iload 6, 2) := by decide +kernel
theorem dX0_numberAt_29 : decode cX0_numberAt 29 = .ok (.iload_n 3, 1) := by decide +kernel
theorem dX0_numberAt_30 : decode cX0_numberAt 30 = .ok (.iload 7, 2) := by decide +kernel
theorem dX0_numberAt_32 : decode cX0_numberAt 32 = .ok (.invokevirtual 51, 3) := by decide +kernel
theorem dX0_numberAt_35 : decode cX0_numberAt 35 = .ok (.istore 8, 2) := by decide +kernel
theorem dX0_numberAt_37 : decode cX0_numberAt 37 = .ok (.aload_n 1, 1) := by decide +kernel
theorem dX0_numberAt_38 : decode cX0_numberAt 38 = .ok (.getfield 37, 3) := by decide +kernel
theorem dX0_numberAt_41 : decode cX0_numberAt 41 = .ok (.iload 8, 2) := by decide +kernel
theorem dX0_numberAt_43 : decode cX0_numberAt 43 = .ok (.iconst 5, 1) := by decide +kernel
theorem dX0_numberAt_44 : decode cX0_numberAt 44 = .ok (.invokevirtual 24, 3) := by decide +kernel
theorem dX0_numberAt_47 : decode cX0_numberAt 47 = .ok (.istore 5, 2) := by decide +kernel
theorem dX0_numberAt_49 : decode cX0_numberAt 49 = .ok (.aload_n 1, 1) := by decide +kernel
theorem dX0_numberAt_50 : decode cX0_numberAt 50 = .ok (.getfield 37, 3) := by decide +kernel
theorem dX0_numberAt_53 : decode cX0_numberAt 53 = .ok (.iload 8, 2) := by decide +kernel
theorem dX0_numberAt_55 : decode cX0_numberAt 55 = .ok (.iconst 0, 1) := by decide +kernel
theorem dX0_numberAt_56 : decode cX0_numberAt 56 = .ok (.invokevirtual 24, 3) := by decide +kernel
theorem dX0_numberAt_59 : decode cX0_numberAt 59 = .ok (.istore 6, 2) := by decide +kernel
theorem dX0_numberAt_61 : decode cX0_numberAt 61 = .ok (.iinc 7 (-1), 3) := by decide +kernel
theorem dX0_numberAt_64 : decode cX0_numberAt 64 = .ok (.goto (-51), 3) := by decide +kernel
theorem dX0_numberAt_67 : decode cX0_numberAt 67 = .ok (.iload 5, 2) := by decide +kernel
theorem dX0_numberAt_69 : decode cX0_numberAt 69 = .ok (.ireturn, 1) := by decide +kernel
set_option maxRecDepth 20000 in
theorem ggX0_lastLink_X3_rows : GoodIn wsX0_lastLink wsX3_rows := goodIn_r _ [6, 7, 42, 43, 44, 45] (by decide +kernel) (by decide +kernel)
set_option maxRecDepth 20000 in
theorem gX0_lastLink_X3_rows : GoodIn wsX0_lastLink (wsV RX0 40 RX3 yX3_rows wsX3_rows) := goodIn_app (goodIn_of _ (by decide +kernel)) ggX0_lastLink_X3_rows
set_option maxRecDepth 20000 in
theorem ggX0_lastLink_X3_at : GoodIn wsX0_lastLink wsX3_at := goodIn_r _ [11, 7, 12, 13, 42, 43, 44, 45] (by decide +kernel) (by decide +kernel)
set_option maxRecDepth 20000 in
theorem gX0_lastLink_X3_at : GoodIn wsX0_lastLink (wsV RX0 24 RX3 yX3_at wsX3_at) := goodIn_app (goodIn_of _ (by decide +kernel)) ggX0_lastLink_X3_at
set_option maxRecDepth 20000 in
theorem ggX0_lastLink_X0_isLink : GoodIn wsX0_lastLink wsX0_isLink := goodIn_r _ [18, 1, 8, 9, 10, 5, 11, 7, 12, 13, 19, 20, 21, 17, 22, 23, 24, 25, 26, 27, 28, 29, 30, 31, 32, 33, 34, 35, 36, 37, 38, 39, 40, 41, 42, 43, 44, 45, 46] (by decide +kernel) (by decide +kernel)
set_option maxRecDepth 20000 in
theorem gX0_lastLink_X0_isLink : GoodIn wsX0_lastLink (wsV RX0 47 RX0 yX0_isLink wsX0_isLink) := goodIn_app (goodIn_of _ (by decide +kernel)) ggX0_lastLink_X0_isLink
theorem dX0_lastLink_0 : decode cX0_lastLink 0 = .ok (.iconst 0, 1) := by decide +kernel
theorem dX0_lastLink_1 : decode cX0_lastLink 1 = .ok (.istore 5, 2) := by decide +kernel
theorem dX0_lastLink_3 : decode cX0_lastLink 3 = .ok (.iload 5, 2) := by decide +kernel
theorem dX0_lastLink_5 : decode cX0_lastLink 5 = .ok (.aload_n 1, 1) := by decide +kernel
theorem dX0_lastLink_6 : decode cX0_lastLink 6 = .ok (.getfield 37, 3) := by decide +kernel
theorem dX0_lastLink_9 : decode cX0_lastLink 9 = .ok (.invokevirtual 40, 3) := by decide +kernel
theorem dX0_lastLink_12 : decode cX0_lastLink 12 = .ok (.if_icmp .ge 51, 3) := by decide +kernel
theorem dX0_lastLink_15 : decode cX0_lastLink 15 = .ok (.aload_n 1, 1) := by decide +kernel
theorem dX0_lastLink_16 : decode cX0_lastLink 16 = .ok (.getfield 37, 3) := by decide +kernel
theorem dX0_lastLink_19 : decode cX0_lastLink 19 = .ok (.iload 5, 2) := by decide +kernel
theorem dX0_lastLink_21 : decode cX0_lastLink 21 = .ok (.iconst 1, 1) := by decide +kernel
theorem dX0_lastLink_22 : decode cX0_lastLink 22 = .ok (.invokevirtual 24, 3) := by decide +kernel
theorem dX0_lastLink_25 : decode cX0_lastLink 25 = .ok (.iload_n 2, 1) := by decide +kernel
theorem dX0_lastLink_26 : decode cX0_lastLink 26 = .ok (.if_icmp .ne 7, 3) := by decide +kernel
theorem dX0_lastLink_29 : decode cX0_lastLink 29 = .ok (.iconst 1, 1) := by decide +kernel
theorem dX0_lastLink_30 : decode cX0_lastLink 30 = .ok (.goto 4, 3) := by decide +kernel
theorem dX0_lastLink_33 : decode cX0_lastLink 33 = .ok (.iconst 0, 1) := by decide +kernel
theorem dX0_lastLink_34 : decode cX0_lastLink 34 = .ok (.istore 6, 2) := by decide +kernel
theorem dX0_lastLink_36 : decode cX0_lastLink 36 = .ok (.iload 6, 2) := by decide +kernel
theorem dX0_lastLink_38 : decode cX0_lastLink 38 = .ok (.ifCond .eq 19, 3) := by decide +kernel
theorem dX0_lastLink_41 : decode cX0_lastLink 41 = .ok (.aload_n 0, 1) := by decide +kernel
theorem dX0_lastLink_42 : decode cX0_lastLink 42 = .ok (.aload_n 1, 1) := by decide +kernel
theorem dX0_lastLink_43 : decode cX0_lastLink 43 = .ok (.iload 5, 2) := by decide +kernel
theorem dX0_lastLink_45 : decode cX0_lastLink 45 = .ok (.iload_n 3, 1) := by decide +kernel
theorem dX0_lastLink_46 : decode cX0_lastLink 46 = .ok (.iload 4, 2) := by decide +kernel
theorem dX0_lastLink_48 : decode cX0_lastLink 48 = .ok (.invokevirtual 47, 3) := by decide +kernel
theorem dX0_lastLink_51 : decode cX0_lastLink 51 = .ok (.ifCond .eq 6, 3) := by decide +kernel
theorem dX0_lastLink_54 : decode cX0_lastLink 54 = .ok (.iload 5, 2) := by decide +kernel
theorem dX0_lastLink_56 : decode cX0_lastLink 56 = .ok (.ireturn, 1) := by decide +kernel
theorem dX0_lastLink_57 : decode cX0_lastLink 57 = .ok (.iinc 5 1, 3) := by decide +kernel
theorem dX0_lastLink_60 : decode cX0_lastLink 60 = .ok (.goto (-57), 3) := by decide +kernel
theorem dX0_lastLink_63 : decode cX0_lastLink 63 = .ok (.iconst (-1), 1) := by decide +kernel
theorem dX0_lastLink_64 : decode cX0_lastLink 64 = .ok (.ireturn, 1) := by decide +kernel
set_option maxRecDepth 20000 in
theorem ggX0_isLink_X3_at : GoodIn wsX0_isLink wsX3_at := goodIn_r _ [6, 7, 8, 9, 34, 35, 36, 37] (by decide +kernel) (by decide +kernel)
set_option maxRecDepth 20000 in
theorem gX0_isLink_X3_at : GoodIn wsX0_isLink (wsV RX0 24 RX3 yX3_at wsX3_at) := goodIn_app (goodIn_of _ (by decide +kernel)) ggX0_isLink_X3_at
set_option maxRecDepth 20000 in
theorem ggX0_isLink_X0_stepsTo : GoodIn wsX0_isLink wsX0_stepsTo := goodIn_r _ [14, 15, 2, 3, 4, 5, 6, 7, 8, 9, 38, 34, 35, 36, 37] (by decide +kernel) (by decide +kernel)
set_option maxRecDepth 20000 in
theorem gX0_isLink_X0_stepsTo : GoodIn wsX0_isLink (wsV RX0 43 RX0 yX0_stepsTo wsX0_stepsTo) := goodIn_app (goodIn_of _ (by decide +kernel)) ggX0_isLink_X0_stepsTo
set_option maxRecDepth 20000 in
theorem ggX0_isLink_X2_passedOn : GoodIn wsX0_isLink wsX2_passedOn := goodIn_r _ [20, 21, 22, 23, 24, 3, 4, 5, 6, 7, 8, 9, 25, 26, 27, 28, 29, 30, 31, 32, 33, 34, 35, 36, 37] (by decide +kernel) (by decide +kernel)
set_option maxRecDepth 20000 in
theorem gX0_isLink_X2_passedOn : GoodIn wsX0_isLink (wsV RX0 55 RX2 yX2_passedOn wsX2_passedOn) := goodIn_app (goodIn_of _ (by decide +kernel)) ggX0_isLink_X2_passedOn
theorem dX0_isLink_0 : decode cX0_isLink 0 = .ok (.aload_n 1, 1) := by decide +kernel
theorem dX0_isLink_1 : decode cX0_isLink 1 = .ok (.getfield 37, 3) := by decide +kernel
theorem dX0_isLink_4 : decode cX0_isLink 4 = .ok (.iload_n 2, 1) := by decide +kernel
theorem dX0_isLink_5 : decode cX0_isLink 5 = .ok (.iconst 2, 1) := by decide +kernel
theorem dX0_isLink_6 : decode cX0_isLink 6 = .ok (.invokevirtual 24, 3) := by decide +kernel
theorem dX0_isLink_9 : decode cX0_isLink 9 = .ok (.iload_n 3, 1) := by decide +kernel
theorem dX0_isLink_10 : decode cX0_isLink 10 = .ok (.if_icmp .ne 37, 3) := by decide +kernel
theorem dX0_isLink_13 : decode cX0_isLink 13 = .ok (.aload_n 0, 1) := by decide +kernel
theorem dX0_isLink_14 : decode cX0_isLink 14 = .ok (.aload_n 1, 1) := by decide +kernel
theorem dX0_isLink_15 : decode cX0_isLink 15 = .ok (.getfield 37, 3) := by decide +kernel
theorem dX0_isLink_18 : decode cX0_isLink 18 = .ok (.iload_n 2, 1) := by decide +kernel
theorem dX0_isLink_19 : decode cX0_isLink 19 = .ok (.iconst 0, 1) := by decide +kernel
theorem dX0_isLink_20 : decode cX0_isLink 20 = .ok (.invokevirtual 24, 3) := by decide +kernel
theorem dX0_isLink_23 : decode cX0_isLink 23 = .ok (.invokevirtual 43, 3) := by decide +kernel
theorem dX0_isLink_26 : decode cX0_isLink 26 = .ok (.iload 4, 2) := by decide +kernel
theorem dX0_isLink_28 : decode cX0_isLink 28 = .ok (.iconst 1, 1) := by decide +kernel
theorem dX0_isLink_29 : decode cX0_isLink 29 = .ok (.isub, 1) := by decide +kernel
theorem dX0_isLink_30 : decode cX0_isLink 30 = .ok (.if_icmp .ne 17, 3) := by decide +kernel
theorem dX0_isLink_33 : decode cX0_isLink 33 = .ok (.aload_n 1, 1) := by decide +kernel
theorem dX0_isLink_34 : decode cX0_isLink 34 = .ok (.iload_n 2, 1) := by decide +kernel
theorem dX0_isLink_35 : decode cX0_isLink 35 = .ok (.invokevirtual 55, 3) := by decide +kernel
theorem dX0_isLink_38 : decode cX0_isLink 38 = .ok (.iconst 1, 1) := by decide +kernel
theorem dX0_isLink_39 : decode cX0_isLink 39 = .ok (.iand, 1) := by decide +kernel
theorem dX0_isLink_40 : decode cX0_isLink 40 = .ok (.ifCond .eq 7, 3) := by decide +kernel
theorem dX0_isLink_43 : decode cX0_isLink 43 = .ok (.iconst 1, 1) := by decide +kernel
theorem dX0_isLink_44 : decode cX0_isLink 44 = .ok (.goto 4, 3) := by decide +kernel
theorem dX0_isLink_47 : decode cX0_isLink 47 = .ok (.iconst 0, 1) := by decide +kernel
theorem dX0_isLink_48 : decode cX0_isLink 48 = .ok (.ireturn, 1) := by decide +kernel
set_option maxRecDepth 20000 in
theorem ggX1_init_X2_init : GoodIn wsX1_init wsX2_init := goodIn_r _ [10, 11, 2, 3, 12, 13, 14, 15, 16, 17, 18, 19, 20, 21, 22, 23, 24, 25, 26, 27, 28, 29, 30, 31, 32, 33, 34, 35, 36, 48, 49, 50, 51, 39, 40, 41, 42, 43, 44, 45, 46, 47] (by decide +kernel) (by decide +kernel)
set_option maxRecDepth 20000 in
theorem gX1_init_X2_init : GoodIn wsX1_init (wsX2_init) := ggX1_init_X2_init
theorem dX1_init_0 : decode cX1_init 0 = .ok (.aload_n 0, 1) := by decide +kernel
theorem dX1_init_1 : decode cX1_init 1 = .ok (.invokespecial 3, 3) := by decide +kernel
theorem dX1_init_4 : decode cX1_init 4 = .ok (.aload_n 0, 1) := by decide +kernel
theorem dX1_init_5 : decode cX1_init 5 = .ok (.iconst 4, 1) := by decide +kernel
theorem dX1_init_6 : decode cX1_init 6 = .ok (.anewarray 9, 3) := by decide +kernel
theorem dX1_init_9 : decode cX1_init 9 = .ok (.putfield 11, 3) := by decide +kernel
theorem dX1_init_12 : decode cX1_init 12 = .ok (.iconst 0, 1) := by decide +kernel
theorem dX1_init_13 : decode cX1_init 13 = .ok (.istore_n 1, 1) := by decide +kernel
theorem dX1_init_14 : decode cX1_init 14 = .ok (.iload_n 1, 1) := by decide +kernel
theorem dX1_init_15 : decode cX1_init 15 = .ok (.aload_n 0, 1) := by decide +kernel
theorem dX1_init_16 : decode cX1_init 16 = .ok (.getfield 11, 3) := by decide +kernel
theorem dX1_init_19 : decode cX1_init 19 = .ok (.arraylength, 1) := by decide +kernel
theorem dX1_init_20 : decode cX1_init 20 = .ok (.if_icmp .ge 22, 3) := by decide +kernel
theorem dX1_init_23 : decode cX1_init 23 = .ok (.aload_n 0, 1) := by decide +kernel
theorem dX1_init_24 : decode cX1_init 24 = .ok (.getfield 11, 3) := by decide +kernel
theorem dX1_init_27 : decode cX1_init 27 = .ok (.iload_n 1, 1) := by decide +kernel
theorem dX1_init_28 : decode cX1_init 28 = .ok (.new 9, 3) := by decide +kernel
theorem dX1_init_31 : decode cX1_init 31 = .ok (.dup, 1) := by decide +kernel
theorem dX1_init_32 : decode cX1_init 32 = .ok (.invokespecial 17, 3) := by decide +kernel
theorem dX1_init_35 : decode cX1_init 35 = .ok (.aastore, 1) := by decide +kernel
theorem dX1_init_36 : decode cX1_init 36 = .ok (.iinc 1 1, 3) := by decide +kernel
theorem dX1_init_39 : decode cX1_init 39 = .ok (.goto (-25), 3) := by decide +kernel
theorem dX1_init_42 : decode cX1_init 42 = .ok (.return_, 1) := by decide +kernel
theorem dX1_count_0 : decode cX1_count 0 = .ok (.aload_n 0, 1) := by decide +kernel
theorem dX1_count_1 : decode cX1_count 1 = .ok (.getfield 18, 3) := by decide +kernel
theorem dX1_count_4 : decode cX1_count 4 = .ok (.ireturn, 1) := by decide +kernel
set_option maxRecDepth 20000 in
theorem ggX1_keep_X1_makeRoom : GoodIn wsX1_keep wsX1_makeRoom := goodIn_r _ [7, 2, 1, 31, 32] (by decide +kernel) (by decide +kernel)
set_option maxRecDepth 20000 in
theorem gX1_keep_X1_makeRoom : GoodIn wsX1_keep (wsV RX1 22 RX1 yX1_makeRoom wsX1_makeRoom) := goodIn_app (goodIn_of _ (by decide +kernel)) ggX1_keep_X1_makeRoom
set_option maxRecDepth 20000 in
theorem ggX1_keep_X2_takeOver : GoodIn wsX1_keep wsX2_takeOver := goodIn_r _ [12, 13, 14, 15, 16, 17, 18, 19, 20, 21, 22, 23, 24, 25, 26, 27, 28, 29, 30, 33, 34, 35, 36, 37, 38, 39, 40, 41, 42, 43, 44, 45] (by decide +kernel) (by decide +kernel)
set_option maxRecDepth 20000 in
theorem gX1_keep_X2_takeOver : GoodIn wsX1_keep (wsV RX1 25 RX2 yX2_takeOver wsX2_takeOver) := goodIn_app (goodIn_of _ (by decide +kernel)) ggX1_keep_X2_takeOver
theorem dX1_keep_0 : decode cX1_keep 0 = .ok (.aload_n 0, 1) := by decide +kernel
theorem dX1_keep_1 : decode cX1_keep 1 = .ok (.getfield 18, 3) := by decide +kernel
theorem dX1_keep_4 : decode cX1_keep 4 = .ok (.aload_n 0, 1) := by decide +kernel
theorem dX1_keep_5 : decode cX1_keep 5 = .ok (.getfield 11, 3) := by decide +kernel
theorem dX1_keep_8 : decode cX1_keep 8 = .ok (.arraylength, 1) := by decide +kernel
theorem dX1_keep_9 : decode cX1_keep 9 = .ok (.if_icmp .lt 7, 3) := by decide +kernel
theorem dX1_keep_12 : decode cX1_keep 12 = .ok (.aload_n 0, 1) := by decide +kernel
theorem dX1_keep_13 : decode cX1_keep 13 = .ok (.invokevirtual 22, 3) := by decide +kernel
theorem dX1_keep_16 : decode cX1_keep 16 = .ok (.aload_n 0, 1) := by decide +kernel
theorem dX1_keep_17 : decode cX1_keep 17 = .ok (.getfield 18, 3) := by decide +kernel
theorem dX1_keep_20 : decode cX1_keep 20 = .ok (.ifCond .lt 50, 3) := by decide +kernel
theorem dX1_keep_23 : decode cX1_keep 23 = .ok (.aload_n 0, 1) := by decide +kernel
theorem dX1_keep_24 : decode cX1_keep 24 = .ok (.getfield 18, 3) := by decide +kernel
theorem dX1_keep_27 : decode cX1_keep 27 = .ok (.aload_n 0, 1) := by decide +kernel
theorem dX1_keep_28 : decode cX1_keep 28 = .ok (.getfield 11, 3) := by decide +kernel
theorem dX1_keep_31 : decode cX1_keep 31 = .ok (.arraylength, 1) := by decide +kernel
theorem dX1_keep_32 : decode cX1_keep 32 = .ok (.if_icmp .ge 38, 3) := by decide +kernel
theorem dX1_keep_35 : decode cX1_keep 35 = .ok (.aload_n 0, 1) := by decide +kernel
theorem dX1_keep_36 : decode cX1_keep 36 = .ok (.getfield 11, 3) := by decide +kernel
theorem dX1_keep_39 : decode cX1_keep 39 = .ok (.aload_n 0, 1) := by decide +kernel
theorem dX1_keep_40 : decode cX1_keep 40 = .ok (.getfield 18, 3) := by decide +kernel
theorem dX1_keep_43 : decode cX1_keep 43 = .ok (.aaload, 1) := by decide +kernel
theorem dX1_keep_44 : decode cX1_keep 44 = .ok (.ifnull 26, 3) := by decide +kernel
theorem dX1_keep_47 : decode cX1_keep 47 = .ok (.aload_n 0, 1) := by decide +kernel
theorem dX1_keep_48 : decode cX1_keep 48 = .ok (.getfield 11, 3) := by decide +kernel
theorem dX1_keep_51 : decode cX1_keep 51 = .ok (.aload_n 0, 1) := by decide +kernel
theorem dX1_keep_52 : decode cX1_keep 52 = .ok (.getfield 18, 3) := by decide +kernel
theorem dX1_keep_55 : decode cX1_keep 55 = .ok (.aaload, 1) := by decide +kernel
theorem dX1_keep_56 : decode cX1_keep 56 = .ok (.aload_n 1, 1) := by decide +kernel
theorem dX1_keep_57 : decode cX1_keep 57 = .ok (.invokevirtual 25, 3) := by decide +kernel
theorem dX1_keep_60 : decode cX1_keep 60 = .ok (.aload_n 0, 1) := by decide +kernel
theorem dX1_keep_61 : decode cX1_keep 61 = .ok (.dup, 1) := by decide +kernel
theorem dX1_keep_62 : decode cX1_keep 62 = .ok (.getfield 18, 3) := by decide +kernel
theorem dX1_keep_65 : decode cX1_keep 65 = .ok (.iconst 1, 1) := by decide +kernel
theorem dX1_keep_66 : decode cX1_keep 66 = .ok (.iadd, 1) := by decide +kernel
theorem dX1_keep_67 : decode cX1_keep 67 = .ok (.putfield 18, 3) := by decide +kernel
theorem dX1_keep_70 : decode cX1_keep 70 = .ok (.return_, 1) := by decide +kernel
set_option maxRecDepth 20000 in
theorem ggX1_giveBack_X2_takeOver : GoodIn wsX1_giveBack wsX2_takeOver := goodIn_r _ [7, 8, 9, 10, 11, 12, 13, 14, 15, 16, 17, 18, 19, 20, 21, 22, 23, 24, 25, 28, 29, 30, 31, 32, 33, 34, 35, 36, 37, 38, 39, 40] (by decide +kernel) (by decide +kernel)
set_option maxRecDepth 20000 in
theorem gX1_giveBack_X2_takeOver : GoodIn wsX1_giveBack (wsV RX1 25 RX2 yX2_takeOver wsX2_takeOver) := goodIn_app (goodIn_of _ (by decide +kernel)) ggX1_giveBack_X2_takeOver
theorem dX1_giveBack_0 : decode cX1_giveBack 0 = .ok (.aload_n 0, 1) := by decide +kernel
theorem dX1_giveBack_1 : decode cX1_giveBack 1 = .ok (.getfield 18, 3) := by decide +kernel
theorem dX1_giveBack_4 : decode cX1_giveBack 4 = .ok (.iconst 1, 1) := by decide +kernel
theorem dX1_giveBack_5 : decode cX1_giveBack 5 = .ok (.isub, 1) := by decide +kernel
theorem dX1_giveBack_6 : decode cX1_giveBack 6 = .ok (.istore_n 2, 1) := by decide +kernel
theorem dX1_giveBack_7 : decode cX1_giveBack 7 = .ok (.iload_n 2, 1) := by decide +kernel
theorem dX1_giveBack_8 : decode cX1_giveBack 8 = .ok (.ifCond .lt 36, 3) := by decide +kernel
theorem dX1_giveBack_11 : decode cX1_giveBack 11 = .ok (.iload_n 2, 1) := by decide +kernel
theorem dX1_giveBack_12 : decode cX1_giveBack 12 = .ok (.aload_n 0, 1) := by decide +kernel
theorem dX1_giveBack_13 : decode cX1_giveBack 13 = .ok (.getfield 11, 3) := by decide +kernel
theorem dX1_giveBack_16 : decode cX1_giveBack 16 = .ok (.arraylength, 1) := by decide +kernel
theorem dX1_giveBack_17 : decode cX1_giveBack 17 = .ok (.if_icmp .ge 27, 3) := by decide +kernel
theorem dX1_giveBack_20 : decode cX1_giveBack 20 = .ok (.aload_n 0, 1) := by decide +kernel
theorem dX1_giveBack_21 : decode cX1_giveBack 21 = .ok (.getfield 11, 3) := by decide +kernel
theorem dX1_giveBack_24 : decode cX1_giveBack 24 = .ok (.iload_n 2, 1) := by decide +kernel
theorem dX1_giveBack_25 : decode cX1_giveBack 25 = .ok (.aaload, 1) := by decide +kernel
theorem dX1_giveBack_26 : decode cX1_giveBack 26 = .ok (.ifnull 18, 3) := by decide +kernel
theorem dX1_giveBack_29 : decode cX1_giveBack 29 = .ok (.aload_n 1, 1) := by decide +kernel
theorem dX1_giveBack_30 : decode cX1_giveBack 30 = .ok (.aload_n 0, 1) := by decide +kernel
theorem dX1_giveBack_31 : decode cX1_giveBack 31 = .ok (.getfield 11, 3) := by decide +kernel
theorem dX1_giveBack_34 : decode cX1_giveBack 34 = .ok (.iload_n 2, 1) := by decide +kernel
theorem dX1_giveBack_35 : decode cX1_giveBack 35 = .ok (.aaload, 1) := by decide +kernel
theorem dX1_giveBack_36 : decode cX1_giveBack 36 = .ok (.invokevirtual 25, 3) := by decide +kernel
theorem dX1_giveBack_39 : decode cX1_giveBack 39 = .ok (.aload_n 0, 1) := by decide +kernel
theorem dX1_giveBack_40 : decode cX1_giveBack 40 = .ok (.iload_n 2, 1) := by decide +kernel
theorem dX1_giveBack_41 : decode cX1_giveBack 41 = .ok (.putfield 18, 3) := by decide +kernel
theorem dX1_giveBack_44 : decode cX1_giveBack 44 = .ok (.return_, 1) := by decide +kernel
theorem dX1_makeRoom_0 : decode cX1_makeRoom 0 = .ok (.aload_n 0, 1) := by decide +kernel
theorem dX1_makeRoom_1 : decode cX1_makeRoom 1 = .ok (.getfield 11, 3) := by decide +kernel
theorem dX1_makeRoom_4 : decode cX1_makeRoom 4 = .ok (.arraylength, 1) := by decide +kernel
theorem dX1_makeRoom_5 : decode cX1_makeRoom 5 = .ok (.ifCond .ne 4, 3) := by decide +kernel
theorem dX1_makeRoom_8 : decode cX1_makeRoom 8 = .ok (.return_, 1) := by decide +kernel
theorem dX1_makeRoom_9 : decode cX1_makeRoom 9 = .ok (.aload_n 0, 1) := by decide +kernel
theorem dX1_makeRoom_10 : decode cX1_makeRoom 10 = .ok (.getfield 11, 3) := by decide +kernel
theorem dX1_makeRoom_13 : decode cX1_makeRoom 13 = .ok (.iconst 0, 1) := by decide +kernel
theorem dX1_makeRoom_14 : decode cX1_makeRoom 14 = .ok (.aaload, 1) := by decide +kernel
theorem dX1_makeRoom_15 : decode cX1_makeRoom 15 = .ok (.astore_n 1, 1) := by decide +kernel
theorem dX1_makeRoom_16 : decode cX1_makeRoom 16 = .ok (.iconst 1, 1) := by decide +kernel
theorem dX1_makeRoom_17 : decode cX1_makeRoom 17 = .ok (.istore_n 2, 1) := by decide +kernel
theorem dX1_makeRoom_18 : decode cX1_makeRoom 18 = .ok (.iload_n 2, 1) := by decide +kernel
theorem dX1_makeRoom_19 : decode cX1_makeRoom 19 = .ok (.aload_n 0, 1) := by decide +kernel
theorem dX1_makeRoom_20 : decode cX1_makeRoom 20 = .ok (.getfield 11, 3) := by decide +kernel
theorem dX1_makeRoom_23 : decode cX1_makeRoom 23 = .ok (.arraylength, 1) := by decide +kernel
theorem dX1_makeRoom_24 : decode cX1_makeRoom 24 = .ok (.if_icmp .ge 23, 3) := by decide +kernel
theorem dX1_makeRoom_27 : decode cX1_makeRoom 27 = .ok (.aload_n 0, 1) := by decide +kernel
theorem dX1_makeRoom_28 : decode cX1_makeRoom 28 = .ok (.getfield 11, 3) := by decide +kernel
theorem dX1_makeRoom_31 : decode cX1_makeRoom 31 = .ok (.iload_n 2, 1) := by decide +kernel
theorem dX1_makeRoom_32 : decode cX1_makeRoom 32 = .ok (.iconst 1, 1) := by decide +kernel
theorem dX1_makeRoom_33 : decode cX1_makeRoom 33 = .ok (.isub, 1) := by decide +kernel
theorem dX1_makeRoom_34 : decode cX1_makeRoom 34 = .ok (.aload_n 0, 1) := by decide +kernel
theorem dX1_makeRoom_35 : decode cX1_makeRoom 35 = .ok (.getfield 11, 3) := by decide +kernel
theorem dX1_makeRoom_38 : decode cX1_makeRoom 38 = .ok (.iload_n 2, 1) := by decide +kernel
theorem dX1_makeRoom_39 : decode cX1_makeRoom 39 = .ok (.aaload, 1) := by decide +kernel
theorem dX1_makeRoom_40 : decode cX1_makeRoom 40 = .ok (.aastore, 1) := by decide +kernel
theorem dX1_makeRoom_41 : decode cX1_makeRoom 41 = .ok (.iinc 2 1, 3) := by decide +kernel
theorem dX1_makeRoom_44 : decode cX1_makeRoom 44 = .ok (.goto (-26), 3) := by decide +kernel
theorem dX1_makeRoom_47 : decode cX1_makeRoom 47 = .ok (.aload_n 0, 1) := by decide +kernel
theorem dX1_makeRoom_48 : decode cX1_makeRoom 48 = .ok (.getfield 11, 3) := by decide +kernel
theorem dX1_makeRoom_51 : decode cX1_makeRoom 51 = .ok (.aload_n 0, 1) := by decide +kernel
theorem dX1_makeRoom_52 : decode cX1_makeRoom 52 = .ok (.getfield 11, 3) := by decide +kernel
theorem dX1_makeRoom_55 : decode cX1_makeRoom 55 = .ok (.arraylength, 1) := by decide +kernel
theorem dX1_makeRoom_56 : decode cX1_makeRoom 56 = .ok (.iconst 1, 1) := by decide +kernel
theorem dX1_makeRoom_57 : decode cX1_makeRoom 57 = .ok (.isub, 1) := by decide +kernel
theorem dX1_makeRoom_58 : decode cX1_makeRoom 58 = .ok (.aload_n 1, 1) := by decide +kernel
theorem dX1_makeRoom_59 : decode cX1_makeRoom 59 = .ok (.aastore, 1) := by decide +kernel
theorem dX1_makeRoom_60 : decode cX1_makeRoom 60 = .ok (.aload_n 0, 1) := by decide +kernel
theorem dX1_makeRoom_61 : decode cX1_makeRoom 61 = .ok (.aload_n 0, 1) := by decide +kernel
theorem dX1_makeRoom_62 : decode cX1_makeRoom 62 = .ok (.getfield 11, 3) := by decide +kernel
theorem dX1_makeRoom_65 : decode cX1_makeRoom 65 = .ok (.arraylength, 1) := by decide +kernel
theorem dX1_makeRoom_66 : decode cX1_makeRoom 66 = .ok (.iconst 1, 1) := by decide +kernel
theorem dX1_makeRoom_67 : decode cX1_makeRoom 67 = .ok (.isub, 1) := by decide +kernel
theorem dX1_makeRoom_68 : decode cX1_makeRoom 68 = .ok (.putfield 18, 3) := by decide +kernel
theorem dX1_makeRoom_71 : decode cX1_makeRoom 71 = .ok (.return_, 1) := by decide +kernel
set_option maxRecDepth 20000 in
theorem ggX2_init_X3_init : GoodIn wsX2_init wsX3_init := goodIn_r _ [14, 15, 2, 3, 16, 17, 18, 19, 29, 30, 31, 32] (by decide +kernel) (by decide +kernel)
set_option maxRecDepth 20000 in
theorem gX2_init_X3_init : GoodIn wsX2_init (wsX3_init) := ggX2_init_X3_init
set_option maxRecDepth 20000 in
theorem ggX2_init_X3_addRow : GoodIn wsX2_init wsX3_addRow := goodIn_r _ [23, 24, 16, 29, 30, 31, 32] (by decide +kernel) (by decide +kernel)
set_option maxRecDepth 20000 in
theorem gX2_init_X3_addRow : GoodIn wsX2_init (wsV RX2 32 RX3 yX3_addRow wsX3_addRow) := goodIn_app (goodIn_of _ (by decide +kernel)) ggX2_init_X3_addRow
set_option maxRecDepth 20000 in
theorem ggX2_init_X3_put : GoodIn wsX2_init wsX3_put := goodIn_r _ [28, 24, 17, 19, 29, 30, 31, 32] (by decide +kernel) (by decide +kernel)
set_option maxRecDepth 20000 in
theorem gX2_init_X3_put : GoodIn wsX2_init (wsV RX2 36 RX3 yX3_put wsX3_put) := goodIn_app (goodIn_of _ (by decide +kernel)) ggX2_init_X3_put
theorem dX2_init_0 : decode cX2_init 0 = .ok (.aload_n 0, 1) := by decide +kernel
theorem dX2_init_1 : decode cX2_init 1 = .ok (.invokespecial 3, 3) := by decide +kernel
theorem dX2_init_4 : decode cX2_init 4 = .ok (.aload_n 0, 1) := by decide +kernel
theorem dX2_init_5 : decode cX2_init 5 = .ok (.new 9, 3) := by decide +kernel
theorem dX2_init_8 : decode cX2_init 8 = .ok (.dup, 1) := by decide +kernel
theorem dX2_init_9 : decode cX2_init 9 = .ok (.bipush 10, 2) := by decide +kernel
theorem dX2_init_11 : decode cX2_init 11 = .ok (.iconst 2, 1) := by decide +kernel
theorem dX2_init_12 : decode cX2_init 12 = .ok (.invokespecial 11, 3) := by decide +kernel
theorem dX2_init_15 : decode cX2_init 15 = .ok (.putfield 14, 3) := by decide +kernel
theorem dX2_init_18 : decode cX2_init 18 = .ok (.aload_n 0, 1) := by decide +kernel
theorem dX2_init_19 : decode cX2_init 19 = .ok (.new 9, 3) := by decide +kernel
theorem dX2_init_22 : decode cX2_init 22 = .ok (.dup, 1) := by decide +kernel
theorem dX2_init_23 : decode cX2_init 23 = .ok (.bipush 8, 2) := by decide +kernel
theorem dX2_init_25 : decode cX2_init 25 = .ok (.iconst 2, 1) := by decide +kernel
theorem dX2_init_26 : decode cX2_init 26 = .ok (.invokespecial 11, 3) := by decide +kernel
theorem dX2_init_29 : decode cX2_init 29 = .ok (.putfield 20, 3) := by decide +kernel
theorem dX2_init_32 : decode cX2_init 32 = .ok (.aload_n 0, 1) := by decide +kernel
theorem dX2_init_33 : decode cX2_init 33 = .ok (.new 9, 3) := by decide +kernel
theorem dX2_init_36 : decode cX2_init 36 = .ok (.dup, 1) := by decide +kernel
theorem dX2_init_37 : decode cX2_init 37 = .ok (.bipush 40, 2) := by decide +kernel
theorem dX2_init_39 : decode cX2_init 39 = .ok (.bipush 6, 2) := by decide +kernel
theorem dX2_init_41 : decode cX2_init 41 = .ok (.invokespecial 11, 3) := by decide +kernel
theorem dX2_init_44 : decode cX2_init 44 = .ok (.putfield 23, 3) := by decide +kernel
theorem dX2_init_47 : decode cX2_init 47 = .ok (.aload_n 0, 1) := by decide +kernel
theorem dX2_init_48 : decode cX2_init 48 = .ok (.new 9, 3) := by decide +kernel
theorem dX2_init_51 : decode cX2_init 51 = .ok (.dup, 1) := by decide +kernel
theorem dX2_init_52 : decode cX2_init 52 = .ok (.bipush 12, 2) := by decide +kernel
theorem dX2_init_54 : decode cX2_init 54 = .ok (.iconst 3, 1) := by decide +kernel
theorem dX2_init_55 : decode cX2_init 55 = .ok (.invokespecial 11, 3) := by decide +kernel
theorem dX2_init_58 : decode cX2_init 58 = .ok (.putfield 26, 3) := by decide +kernel
theorem dX2_init_61 : decode cX2_init 61 = .ok (.aload_n 0, 1) := by decide +kernel
theorem dX2_init_62 : decode cX2_init 62 = .ok (.new 9, 3) := by decide +kernel
theorem dX2_init_65 : decode cX2_init 65 = .ok (.dup, 1) := by decide +kernel
theorem dX2_init_66 : decode cX2_init 66 = .ok (.bipush 8, 2) := by decide +kernel
theorem dX2_init_68 : decode cX2_init 68 = .ok (.bipush 10, 2) := by decide +kernel
theorem dX2_init_70 : decode cX2_init 70 = .ok (.invokespecial 11, 3) := by decide +kernel
theorem dX2_init_73 : decode cX2_init 73 = .ok (.putfield 29, 3) := by decide +kernel
theorem dX2_init_76 : decode cX2_init 76 = .ok (.iconst 0, 1) := by decide +kernel
theorem dX2_init_77 : decode cX2_init 77 = .ok (.istore_n 1, 1) := by decide +kernel
theorem dX2_init_78 : decode cX2_init 78 = .ok (.iload_n 1, 1) := by decide +kernel
theorem dX2_init_79 : decode cX2_init 79 = .ok (.bipush 10, 2) := by decide +kernel
theorem dX2_init_81 : decode cX2_init 81 = .ok (.if_icmp .ge 39, 3) := by decide +kernel
theorem dX2_init_84 : decode cX2_init 84 = .ok (.aload_n 0, 1) := by decide +kernel
theorem dX2_init_85 : decode cX2_init 85 = .ok (.getfield 14, 3) := by decide +kernel
theorem dX2_init_88 : decode cX2_init 88 = .ok (.invokevirtual 32, 3) := by decide +kernel
theorem dX2_init_91 : decode cX2_init 91 = .ok (.pop, 1) := by decide +kernel
theorem dX2_init_92 : decode cX2_init 92 = .ok (.aload_n 0, 1) := by decide +kernel
theorem dX2_init_93 : decode cX2_init 93 = .ok (.getfield 14, 3) := by decide +kernel
theorem dX2_init_96 : decode cX2_init 96 = .ok (.iload_n 1, 1) := by decide +kernel
theorem dX2_init_97 : decode cX2_init 97 = .ok (.iconst 0, 1) := by decide +kernel
theorem dX2_init_98 : decode cX2_init 98 = .ok (.bipush 60, 2) := by decide +kernel
theorem dX2_init_100 : decode cX2_init 100 = .ok (.invokevirtual 36, 3) := by decide +kernel
theorem dX2_init_103 : decode cX2_init 103 = .ok (.aload_n 0, 1) := by decide +kernel
theorem dX2_init_104 : decode cX2_init 104 = .ok (.getfield 14, 3) := by decide +kernel
theorem dX2_init_107 : decode cX2_init 107 = .ok (.iload_n 1, 1) := by decide +kernel
theorem dX2_init_108 : decode cX2_init 108 = .ok (.iconst 1, 1) := by decide +kernel
theorem dX2_init_109 : decode cX2_init 109 = .ok (.bipush 60, 2) := by decide +kernel
theorem dX2_init_111 : decode cX2_init 111 = .ok (.invokevirtual 36, 3) := by decide +kernel
theorem dX2_init_114 : decode cX2_init 114 = .ok (.iinc 1 1, 3) := by decide +kernel
theorem dX2_init_117 : decode cX2_init 117 = .ok (.goto (-39), 3) := by decide +kernel
theorem dX2_init_120 : decode cX2_init 120 = .ok (.return_, 1) := by decide +kernel
set_option maxRecDepth 20000 in
theorem ggX2_takeOver_X3_takeOver : GoodIn wsX2_takeOver wsX3_takeOver := goodIn_r _ [14, 15, 16, 17, 18, 28, 29, 30, 31] (by decide +kernel) (by decide +kernel)
set_option maxRecDepth 20000 in
theorem gX2_takeOver_X3_takeOver : GoodIn wsX2_takeOver (wsV RX2 40 RX3 yX3_takeOver wsX3_takeOver) := goodIn_app (goodIn_of _ (by decide +kernel)) ggX2_takeOver_X3_takeOver
theorem dX2_takeOver_0 : decode cX2_takeOver 0 = .ok (.aload_n 0, 1) := by decide +kernel
theorem dX2_takeOver_1 : decode cX2_takeOver 1 = .ok (.getfield 14, 3) := by decide +kernel
theorem dX2_takeOver_4 : decode cX2_takeOver 4 = .ok (.aload_n 1, 1) := by decide +kernel
theorem dX2_takeOver_5 : decode cX2_takeOver 5 = .ok (.getfield 14, 3) := by decide +kernel
theorem dX2_takeOver_8 : decode cX2_takeOver 8 = .ok (.invokevirtual 40, 3) := by decide +kernel
theorem dX2_takeOver_11 : decode cX2_takeOver 11 = .ok (.aload_n 0, 1) := by decide +kernel
theorem dX2_takeOver_12 : decode cX2_takeOver 12 = .ok (.getfield 20, 3) := by decide +kernel
theorem dX2_takeOver_15 : decode cX2_takeOver 15 = .ok (.aload_n 1, 1) := by decide +kernel
theorem dX2_takeOver_16 : decode cX2_takeOver 16 = .ok (.getfield 20, 3) := by decide +kernel
theorem dX2_takeOver_19 : decode cX2_takeOver 19 = .ok (.invokevirtual 40, 3) := by decide +kernel
theorem dX2_takeOver_22 : decode cX2_takeOver 22 = .ok (.aload_n 0, 1) := by decide +kernel
theorem dX2_takeOver_23 : decode cX2_takeOver 23 = .ok (.getfield 23, 3) := by decide +kernel
theorem dX2_takeOver_26 : decode cX2_takeOver 26 = .ok (.aload_n 1, 1) := by decide +kernel
theorem dX2_takeOver_27 : decode cX2_takeOver 27 = .ok (.getfield 23, 3) := by decide +kernel
theorem dX2_takeOver_30 : decode cX2_takeOver 30 = .ok (.invokevirtual 40, 3) := by decide +kernel
theorem dX2_takeOver_33 : decode cX2_takeOver 33 = .ok (.aload_n 0, 1) := by decide +kernel
theorem dX2_takeOver_34 : decode cX2_takeOver 34 = .ok (.getfield 26, 3) := by decide +kernel
theorem dX2_takeOver_37 : decode cX2_takeOver 37 = .ok (.aload_n 1, 1) := by decide +kernel
theorem dX2_takeOver_38 : decode cX2_takeOver 38 = .ok (.getfield 26, 3) := by decide +kernel
theorem dX2_takeOver_41 : decode cX2_takeOver 41 = .ok (.invokevirtual 40, 3) := by decide +kernel
theorem dX2_takeOver_44 : decode cX2_takeOver 44 = .ok (.aload_n 0, 1) := by decide +kernel
theorem dX2_takeOver_45 : decode cX2_takeOver 45 = .ok (.getfield 29, 3) := by decide +kernel
theorem dX2_takeOver_48 : decode cX2_takeOver 48 = .ok (.aload_n 1, 1) := by decide +kernel
theorem dX2_takeOver_49 : decode cX2_takeOver 49 = .ok (.getfield 29, 3) := by decide +kernel
theorem dX2_takeOver_52 : decode cX2_takeOver 52 = .ok (.invokevirtual 40, 3) := by decide +kernel
theorem dX2_takeOver_55 : decode cX2_takeOver 55 = .ok (.aload_n 0, 1) := by decide +kernel
theorem dX2_takeOver_56 : decode cX2_takeOver 56 = .ok (.aload_n 1, 1) := by decide +kernel
theorem dX2_takeOver_57 : decode cX2_takeOver 57 = .ok (.getfield 44, 3) := by decide +kernel
theorem dX2_takeOver_60 : decode cX2_takeOver 60 = .ok (.putfield 44, 3) := by decide +kernel
theorem dX2_takeOver_63 : decode cX2_takeOver 63 = .ok (.aload_n 0, 1) := by decide +kernel
theorem dX2_takeOver_64 : decode cX2_takeOver 64 = .ok (.aload_n 1, 1) := by decide +kernel
theorem dX2_takeOver_65 : decode cX2_takeOver 65 = .ok (.getfield 48, 3) := by decide +kernel
theorem dX2_takeOver_68 : decode cX2_takeOver 68 = .ok (.putfield 48, 3) := by decide +kernel
theorem dX2_takeOver_71 : decode cX2_takeOver 71 = .ok (.aload_n 0, 1) := by decide +kernel
theorem dX2_takeOver_72 : decode cX2_takeOver 72 = .ok (.aload_n 1, 1) := by decide +kernel
theorem dX2_takeOver_73 : decode cX2_takeOver 73 = .ok (.getfield 51, 3) := by decide +kernel
theorem dX2_takeOver_76 : decode cX2_takeOver 76 = .ok (.putfield 51, 3) := by decide +kernel
theorem dX2_takeOver_79 : decode cX2_takeOver 79 = .ok (.aload_n 0, 1) := by decide +kernel
theorem dX2_takeOver_80 : decode cX2_takeOver 80 = .ok (.aload_n 1, 1) := by decide +kernel
theorem dX2_takeOver_81 : decode cX2_takeOver 81 = .ok (.getfield 54, 3) := by decide +kernel
theorem dX2_takeOver_84 : decode cX2_takeOver 84 = .ok (.putfield 54, 3) := by decide +kernel
theorem dX2_takeOver_87 : decode cX2_takeOver 87 = .ok (.return_, 1) := by decide +kernel
set_option maxRecDepth 20000 in
theorem ggX2_takeIn_X3_addRow : GoodIn wsX2_takeIn wsX3_addRow := goodIn_r _ [7, 8, 9, 43, 44, 45, 46] (by decide +kernel) (by decide +kernel)
set_option maxRecDepth 20000 in
theorem gX2_takeIn_X3_addRow : GoodIn wsX2_takeIn (wsV RX2 32 RX3 yX3_addRow wsX3_addRow) := goodIn_app (goodIn_of _ (by decide +kernel)) ggX2_takeIn_X3_addRow
set_option maxRecDepth 20000 in
theorem ggX2_takeIn_X3_put : GoodIn wsX2_takeIn wsX3_put := goodIn_r _ [13, 8, 14, 15, 43, 44, 45, 46] (by decide +kernel) (by decide +kernel)
set_option maxRecDepth 20000 in
theorem gX2_takeIn_X3_put : GoodIn wsX2_takeIn (wsV RX2 36 RX3 yX3_put wsX3_put) := goodIn_app (goodIn_of _ (by decide +kernel)) ggX2_takeIn_X3_put
set_option maxRecDepth 20000 in
theorem ggX2_takeIn_X2_settle : GoodIn wsX2_takeIn wsX2_settle := goodIn_r _ [20, 1, 2, 21, 22, 23, 24, 6, 25, 8, 26, 27, 28, 29, 14, 15, 10, 11, 12, 13, 30, 31, 32, 19, 33, 34, 35, 36, 37, 38, 39, 40, 41, 42, 43, 44, 45, 46] (by decide +kernel) (by decide +kernel)
set_option maxRecDepth 20000 in
theorem gX2_takeIn_X2_settle : GoodIn wsX2_takeIn (wsV RX2 57 RX2 yX2_settle wsX2_settle) := goodIn_app (goodIn_of _ (by decide +kernel)) ggX2_takeIn_X2_settle
theorem dX2_takeIn_0 : decode cX2_takeIn 0 = .ok (.aload_n 0, 1) := by decide +kernel
theorem dX2_takeIn_1 : decode cX2_takeIn 1 = .ok (.getfield 20, 3) := by decide +kernel
theorem dX2_takeIn_4 : decode cX2_takeIn 4 = .ok (.invokevirtual 32, 3) := by decide +kernel
theorem dX2_takeIn_7 : decode cX2_takeIn 7 = .ok (.istore_n 3, 1) := by decide +kernel
theorem dX2_takeIn_8 : decode cX2_takeIn 8 = .ok (.aload_n 0, 1) := by decide +kernel
theorem dX2_takeIn_9 : decode cX2_takeIn 9 = .ok (.getfield 20, 3) := by decide +kernel
theorem dX2_takeIn_12 : decode cX2_takeIn 12 = .ok (.iload_n 3, 1) := by decide +kernel
theorem dX2_takeIn_13 : decode cX2_takeIn 13 = .ok (.iconst 0, 1) := by decide +kernel
theorem dX2_takeIn_14 : decode cX2_takeIn 14 = .ok (.iload_n 1, 1) := by decide +kernel
theorem dX2_takeIn_15 : decode cX2_takeIn 15 = .ok (.invokevirtual 36, 3) := by decide +kernel
theorem dX2_takeIn_18 : decode cX2_takeIn 18 = .ok (.aload_n 0, 1) := by decide +kernel
theorem dX2_takeIn_19 : decode cX2_takeIn 19 = .ok (.getfield 20, 3) := by decide +kernel
theorem dX2_takeIn_22 : decode cX2_takeIn 22 = .ok (.iload_n 3, 1) := by decide +kernel
theorem dX2_takeIn_23 : decode cX2_takeIn 23 = .ok (.iconst 1, 1) := by decide +kernel
theorem dX2_takeIn_24 : decode cX2_takeIn 24 = .ok (.iload_n 2, 1) := by decide +kernel
theorem dX2_takeIn_25 : decode cX2_takeIn 25 = .ok (.invokevirtual 36, 3) := by decide +kernel
theorem dX2_takeIn_28 : decode cX2_takeIn 28 = .ok (.aload_n 0, 1) := by decide +kernel
theorem dX2_takeIn_29 : decode cX2_takeIn 29 = .ok (.getfield 29, 3) := by decide +kernel
theorem dX2_takeIn_32 : decode cX2_takeIn 32 = .ok (.invokevirtual 32, 3) := by decide +kernel
theorem dX2_takeIn_35 : decode cX2_takeIn 35 = .ok (.pop, 1) := by decide +kernel
theorem dX2_takeIn_36 : decode cX2_takeIn 36 = .ok (.aload_n 0, 1) := by decide +kernel
theorem dX2_takeIn_37 : decode cX2_takeIn 37 = .ok (.invokevirtual 57, 3) := by decide +kernel
theorem dX2_takeIn_40 : decode cX2_takeIn 40 = .ok (.iload_n 3, 1) := by decide +kernel
theorem dX2_takeIn_41 : decode cX2_takeIn 41 = .ok (.ireturn, 1) := by decide +kernel
set_option maxRecDepth 20000 in
theorem ggX2_changeThing_X3_at : GoodIn wsX2_changeThing wsX3_at := goodIn_r _ [6, 7, 8, 9, 38, 39, 40, 41] (by decide +kernel) (by decide +kernel)
set_option maxRecDepth 20000 in
theorem gX2_changeThing_X3_at : GoodIn wsX2_changeThing (wsV RX2 60 RX3 yX3_at wsX3_at) := goodIn_app (goodIn_of _ (by decide +kernel)) ggX2_changeThing_X3_at
set_option maxRecDepth 20000 in
theorem ggX2_changeThing_X3_put : GoodIn wsX2_changeThing wsX3_put := goodIn_r _ [13, 7, 8, 9, 38, 39, 40, 41] (by decide +kernel) (by decide +kernel)
set_option maxRecDepth 20000 in
theorem gX2_changeThing_X3_put : GoodIn wsX2_changeThing (wsV RX2 36 RX3 yX3_put wsX3_put) := goodIn_app (goodIn_of _ (by decide +kernel)) ggX2_changeThing_X3_put
set_option maxRecDepth 20000 in
theorem ggX2_changeThing_X2_settle : GoodIn wsX2_changeThing wsX2_settle := goodIn_r _ [18, 1, 19, 20, 21, 22, 23, 5, 24, 7, 2, 3, 4, 6, 8, 9, 10, 11, 12, 13, 25, 26, 27, 17, 28, 29, 30, 31, 32, 33, 34, 35, 36, 37, 38, 39, 40, 41] (by decide +kernel) (by decide +kernel)
set_option maxRecDepth 20000 in
theorem gX2_changeThing_X2_settle : GoodIn wsX2_changeThing (wsV RX2 57 RX2 yX2_settle wsX2_settle) := goodIn_app (goodIn_of _ (by decide +kernel)) ggX2_changeThing_X2_settle
theorem dX2_changeThing_0 : decode cX2_changeThing 0 = .ok (.aload_n 0, 1) := by decide +kernel
theorem dX2_changeThing_1 : decode cX2_changeThing 1 = .ok (.getfield 20, 3) := by decide +kernel
theorem dX2_changeThing_4 : decode cX2_changeThing 4 = .ok (.iload_n 1, 1) := by decide +kernel
theorem dX2_changeThing_5 : decode cX2_changeThing 5 = .ok (.iload_n 2, 1) := by decide +kernel
theorem dX2_changeThing_6 : decode cX2_changeThing 6 = .ok (.invokevirtual 60, 3) := by decide +kernel
theorem dX2_changeThing_9 : decode cX2_changeThing 9 = .ok (.istore 4, 2) := by decide +kernel
theorem dX2_changeThing_11 : decode cX2_changeThing 11 = .ok (.aload_n 0, 1) := by decide +kernel
theorem dX2_changeThing_12 : decode cX2_changeThing 12 = .ok (.getfield 20, 3) := by decide +kernel
theorem dX2_changeThing_15 : decode cX2_changeThing 15 = .ok (.iload_n 1, 1) := by decide +kernel
theorem dX2_changeThing_16 : decode cX2_changeThing 16 = .ok (.iload_n 2, 1) := by decide +kernel
theorem dX2_changeThing_17 : decode cX2_changeThing 17 = .ok (.iload_n 3, 1) := by decide +kernel
theorem dX2_changeThing_18 : decode cX2_changeThing 18 = .ok (.invokevirtual 36, 3) := by decide +kernel
theorem dX2_changeThing_21 : decode cX2_changeThing 21 = .ok (.aload_n 0, 1) := by decide +kernel
theorem dX2_changeThing_22 : decode cX2_changeThing 22 = .ok (.invokevirtual 57, 3) := by decide +kernel
theorem dX2_changeThing_25 : decode cX2_changeThing 25 = .ok (.iload 4, 2) := by decide +kernel
theorem dX2_changeThing_27 : decode cX2_changeThing 27 = .ok (.ireturn, 1) := by decide +kernel
set_option maxRecDepth 20000 in
theorem ggX2_faultOfGrant_X5_isPerson : GoodIn wsX2_faultOfGrant wsX5_isPerson := goodIn_r _ [6, 7, 8, 5, 9] (by decide +kernel) (by decide +kernel)
set_option maxRecDepth 20000 in
theorem gX2_faultOfGrant_X5_isPerson_n64 : GoodIn wsX2_faultOfGrant (wsX5_isPerson) := ggX2_faultOfGrant_X5_isPerson
set_option maxRecDepth 20000 in
theorem ggX2_faultOfGrant_X3_has : GoodIn wsX2_faultOfGrant wsX3_has := goodIn_r _ [14, 15, 42, 43, 44, 45] (by decide +kernel) (by decide +kernel)
set_option maxRecDepth 20000 in
theorem gX2_faultOfGrant_X3_has : GoodIn wsX2_faultOfGrant (wsV RX2 68 RX3 yX3_has wsX3_has) := goodIn_app (goodIn_of _ (by decide +kernel)) ggX2_faultOfGrant_X3_has
set_option maxRecDepth 20000 in
theorem ggX2_faultOfGrant_X5_isBetween : GoodIn wsX2_faultOfGrant wsX5_isBetween := goodIn_r _ [9] (by decide +kernel) (by decide +kernel)
set_option maxRecDepth 20000 in
theorem gX2_faultOfGrant_X5_isBetween_n71 : GoodIn wsX2_faultOfGrant (wsX5_isBetween) := ggX2_faultOfGrant_X5_isBetween
set_option maxRecDepth 20000 in
theorem ggX2_faultOfGrant_X2_rightsOf : GoodIn wsX2_faultOfGrant wsX2_rightsOf := goodIn_r _ [20, 21, 22, 23, 24, 13, 25, 15, 26, 27, 33, 34, 35, 36, 37, 38, 39, 40, 41, 42, 43, 44, 45] (by decide +kernel) (by decide +kernel)
set_option maxRecDepth 20000 in
theorem gX2_faultOfGrant_X2_rightsOf : GoodIn wsX2_faultOfGrant (wsV RX2 75 RX2 yX2_rightsOf wsX2_rightsOf) := goodIn_app (goodIn_of _ (by decide +kernel)) ggX2_faultOfGrant_X2_rightsOf
set_option maxRecDepth 20000 in
theorem ggX2_faultOfGrant_X3_at : GoodIn wsX2_faultOfGrant wsX3_at := goodIn_r _ [25, 15, 26, 27, 42, 43, 44, 45] (by decide +kernel) (by decide +kernel)
set_option maxRecDepth 20000 in
theorem gX2_faultOfGrant_X3_at : GoodIn wsX2_faultOfGrant (wsV RX2 60 RX3 yX3_at wsX3_at) := goodIn_app (goodIn_of _ (by decide +kernel)) ggX2_faultOfGrant_X3_at
set_option maxRecDepth 20000 in
theorem ggX2_faultOfGrant_X3_isFull : GoodIn wsX2_faultOfGrant wsX3_isFull := goodIn_r _ [31, 15, 32, 42, 43, 44, 45] (by decide +kernel) (by decide +kernel)
set_option maxRecDepth 20000 in
theorem gX2_faultOfGrant_X3_isFull : GoodIn wsX2_faultOfGrant (wsV RX2 78 RX3 yX3_isFull wsX3_isFull) := goodIn_app (goodIn_of _ (by decide +kernel)) ggX2_faultOfGrant_X3_isFull
theorem dX2_faultOfGrant_0 : decode cX2_faultOfGrant 0 = .ok (.iload_n 1, 1) := by decide +kernel
theorem dX2_faultOfGrant_1 : decode cX2_faultOfGrant 1 = .ok (.invokestatic 64, 3) := by decide +kernel
theorem dX2_faultOfGrant_4 : decode cX2_faultOfGrant 4 = .ok (.ifCond .eq 21, 3) := by decide +kernel
theorem dX2_faultOfGrant_7 : decode cX2_faultOfGrant 7 = .ok (.iload_n 2, 1) := by decide +kernel
theorem dX2_faultOfGrant_8 : decode cX2_faultOfGrant 8 = .ok (.invokestatic 64, 3) := by decide +kernel
theorem dX2_faultOfGrant_11 : decode cX2_faultOfGrant 11 = .ok (.ifCond .eq 14, 3) := by decide +kernel
theorem dX2_faultOfGrant_14 : decode cX2_faultOfGrant 14 = .ok (.aload_n 0, 1) := by decide +kernel
theorem dX2_faultOfGrant_15 : decode cX2_faultOfGrant 15 = .ok (.getfield 20, 3) := by decide +kernel
theorem dX2_faultOfGrant_18 : decode cX2_faultOfGrant 18 = .ok (.iload_n 3, 1) := by decide +kernel
theorem dX2_faultOfGrant_19 : decode cX2_faultOfGrant 19 = .ok (.invokevirtual 68, 3) := by decide +kernel
theorem dX2_faultOfGrant_22 : decode cX2_faultOfGrant 22 = .ok (.ifCond .ne 5, 3) := by decide +kernel
theorem dX2_faultOfGrant_25 : decode cX2_faultOfGrant 25 = .ok (.iconst 1, 1) := by decide +kernel
theorem dX2_faultOfGrant_26 : decode cX2_faultOfGrant 26 = .ok (.ireturn, 1) := by decide +kernel
theorem dX2_faultOfGrant_27 : decode cX2_faultOfGrant 27 = .ok (.iload 4, 2) := by decide +kernel
theorem dX2_faultOfGrant_29 : decode cX2_faultOfGrant 29 = .ok (.iconst 1, 1) := by decide +kernel
theorem dX2_faultOfGrant_30 : decode cX2_faultOfGrant 30 = .ok (.bipush 7, 2) := by decide +kernel
theorem dX2_faultOfGrant_32 : decode cX2_faultOfGrant 32 = .ok (.invokestatic 71, 3) := by decide +kernel
theorem dX2_faultOfGrant_35 : decode cX2_faultOfGrant 35 = .ok (.ifCond .eq 18, 3) := by decide +kernel
theorem dX2_faultOfGrant_38 : decode cX2_faultOfGrant 38 = .ok (.iload 5, 2) := by decide +kernel
theorem dX2_faultOfGrant_40 : decode cX2_faultOfGrant 40 = .ok (.iconst 0, 1) := by decide +kernel
theorem dX2_faultOfGrant_41 : decode cX2_faultOfGrant 41 = .ok (.bipush 100, 2) := by decide +kernel
theorem dX2_faultOfGrant_43 : decode cX2_faultOfGrant 43 = .ok (.invokestatic 71, 3) := by decide +kernel
theorem dX2_faultOfGrant_46 : decode cX2_faultOfGrant 46 = .ok (.ifCond .eq 7, 3) := by decide +kernel
theorem dX2_faultOfGrant_49 : decode cX2_faultOfGrant 49 = .ok (.iconst 1, 1) := by decide +kernel
theorem dX2_faultOfGrant_50 : decode cX2_faultOfGrant 50 = .ok (.goto 4, 3) := by decide +kernel
theorem dX2_faultOfGrant_53 : decode cX2_faultOfGrant 53 = .ok (.iconst 0, 1) := by decide +kernel
theorem dX2_faultOfGrant_54 : decode cX2_faultOfGrant 54 = .ok (.istore 6, 2) := by decide +kernel
theorem dX2_faultOfGrant_56 : decode cX2_faultOfGrant 56 = .ok (.iload 6, 2) := by decide +kernel
theorem dX2_faultOfGrant_58 : decode cX2_faultOfGrant 58 = .ok (.ifCond .eq 8, 3) := by decide +kernel
theorem dX2_faultOfGrant_61 : decode cX2_faultOfGrant 61 = .ok (.iload_n 1, 1) := by decide +kernel
theorem dX2_faultOfGrant_62 : decode cX2_faultOfGrant 62 = .ok (.iload_n 2, 1) := by decide +kernel
theorem dX2_faultOfGrant_63 : decode cX2_faultOfGrant 63 = .ok (.if_icmp .ne 5, 3) := by decide +kernel
theorem dX2_faultOfGrant_66 : decode cX2_faultOfGrant 66 = .ok (.iconst 2, 1) := by decide +kernel
theorem dX2_faultOfGrant_67 : decode cX2_faultOfGrant 67 = .ok (.ireturn, 1) := by decide +kernel
theorem dX2_faultOfGrant_68 : decode cX2_faultOfGrant 68 = .ok (.iload 4, 2) := by decide +kernel
theorem dX2_faultOfGrant_70 : decode cX2_faultOfGrant 70 = .ok (.iconst 4, 1) := by decide +kernel
theorem dX2_faultOfGrant_71 : decode cX2_faultOfGrant 71 = .ok (.ior, 1) := by decide +kernel
theorem dX2_faultOfGrant_72 : decode cX2_faultOfGrant 72 = .ok (.istore 7, 2) := by decide +kernel
theorem dX2_faultOfGrant_74 : decode cX2_faultOfGrant 74 = .ok (.aload_n 0, 1) := by decide +kernel
theorem dX2_faultOfGrant_75 : decode cX2_faultOfGrant 75 = .ok (.iload_n 1, 1) := by decide +kernel
theorem dX2_faultOfGrant_76 : decode cX2_faultOfGrant 76 = .ok (.iload_n 3, 1) := by decide +kernel
theorem dX2_faultOfGrant_77 : decode cX2_faultOfGrant 77 = .ok (.invokevirtual 75, 3) := by decide +kernel
theorem dX2_faultOfGrant_80 : decode cX2_faultOfGrant 80 = .ok (.iload 7, 2) := by decide +kernel
theorem dX2_faultOfGrant_82 : decode cX2_faultOfGrant 82 = .ok (.iand, 1) := by decide +kernel
theorem dX2_faultOfGrant_83 : decode cX2_faultOfGrant 83 = .ok (.iload 7, 2) := by decide +kernel
theorem dX2_faultOfGrant_85 : decode cX2_faultOfGrant 85 = .ok (.if_icmp .ne 7, 3) := by decide +kernel
theorem dX2_faultOfGrant_88 : decode cX2_faultOfGrant 88 = .ok (.iconst 1, 1) := by decide +kernel
theorem dX2_faultOfGrant_89 : decode cX2_faultOfGrant 89 = .ok (.goto 4, 3) := by decide +kernel
theorem dX2_faultOfGrant_92 : decode cX2_faultOfGrant 92 = .ok (.iconst 0, 1) := by decide +kernel
theorem dX2_faultOfGrant_93 : decode cX2_faultOfGrant 93 = .ok (.istore 8, 2) := by decide +kernel
theorem dX2_faultOfGrant_95 : decode cX2_faultOfGrant 95 = .ok (.aload_n 0, 1) := by decide +kernel
theorem dX2_faultOfGrant_96 : decode cX2_faultOfGrant 96 = .ok (.getfield 14, 3) := by decide +kernel
theorem dX2_faultOfGrant_99 : decode cX2_faultOfGrant 99 = .ok (.iload_n 1, 1) := by decide +kernel
theorem dX2_faultOfGrant_100 : decode cX2_faultOfGrant 100 = .ok (.iconst 0, 1) := by decide +kernel
theorem dX2_faultOfGrant_101 : decode cX2_faultOfGrant 101 = .ok (.invokevirtual 60, 3) := by decide +kernel
theorem dX2_faultOfGrant_104 : decode cX2_faultOfGrant 104 = .ok (.iload 5, 2) := by decide +kernel
theorem dX2_faultOfGrant_106 : decode cX2_faultOfGrant 106 = .ok (.if_icmp .lt 7, 3) := by decide +kernel
theorem dX2_faultOfGrant_109 : decode cX2_faultOfGrant 109 = .ok (.iconst 1, 1) := by decide +kernel
theorem dX2_faultOfGrant_110 : decode cX2_faultOfGrant 110 = .ok (.goto 4, 3) := by decide +kernel
theorem dX2_faultOfGrant_113 : decode cX2_faultOfGrant 113 = .ok (.iconst 0, 1) := by decide +kernel
theorem dX2_faultOfGrant_114 : decode cX2_faultOfGrant 114 = .ok (.istore 9, 2) := by decide +kernel
theorem dX2_faultOfGrant_116 : decode cX2_faultOfGrant 116 = .ok (.iload 8, 2) := by decide +kernel
theorem dX2_faultOfGrant_118 : decode cX2_faultOfGrant 118 = .ok (.ifCond .eq 22, 3) := by decide +kernel
theorem dX2_faultOfGrant_121 : decode cX2_faultOfGrant 121 = .ok (.iload 9, 2) := by decide +kernel
theorem dX2_faultOfGrant_123 : decode cX2_faultOfGrant 123 = .ok (.ifCond .eq 17, 3) := by decide +kernel
theorem dX2_faultOfGrant_126 : decode cX2_faultOfGrant 126 = .ok (.aload_n 0, 1) := by decide +kernel
theorem dX2_faultOfGrant_127 : decode cX2_faultOfGrant 127 = .ok (.getfield 23, 3) := by decide +kernel
theorem dX2_faultOfGrant_130 : decode cX2_faultOfGrant 130 = .ok (.invokevirtual 78, 3) := by decide +kernel
theorem dX2_faultOfGrant_133 : decode cX2_faultOfGrant 133 = .ok (.ifCond .ne 7, 3) := by decide +kernel
theorem dX2_faultOfGrant_136 : decode cX2_faultOfGrant 136 = .ok (.iconst 0, 1) := by decide +kernel
theorem dX2_faultOfGrant_137 : decode cX2_faultOfGrant 137 = .ok (.goto 4, 3) := by decide +kernel
theorem dX2_faultOfGrant_140 : decode cX2_faultOfGrant 140 = .ok (.iconst 3, 1) := by decide +kernel
theorem dX2_faultOfGrant_141 : decode cX2_faultOfGrant 141 = .ok (.ireturn, 1) := by decide +kernel
set_option maxRecDepth 20000 in
theorem ggX2_lend_X3_addRow : GoodIn wsX2_lend wsX3_addRow := goodIn_r _ [7, 8, 9, 44, 45, 46, 47] (by decide +kernel) (by decide +kernel)
set_option maxRecDepth 20000 in
theorem gX2_lend_X3_addRow : GoodIn wsX2_lend (wsV RX2 32 RX3 yX3_addRow wsX3_addRow) := goodIn_app (goodIn_of _ (by decide +kernel)) ggX2_lend_X3_addRow
set_option maxRecDepth 20000 in
theorem ggX2_lend_X3_put : GoodIn wsX2_lend wsX3_put := goodIn_r _ [13, 8, 14, 15, 44, 45, 46, 47] (by decide +kernel) (by decide +kernel)
set_option maxRecDepth 20000 in
theorem gX2_lend_X3_put : GoodIn wsX2_lend (wsV RX2 36 RX3 yX3_put wsX3_put) := goodIn_app (goodIn_of _ (by decide +kernel)) ggX2_lend_X3_put
set_option maxRecDepth 20000 in
theorem ggX2_lend_X2_settle : GoodIn wsX2_lend wsX2_settle := goodIn_r _ [20, 21, 22, 2, 23, 24, 25, 6, 26, 8, 27, 28, 29, 30, 14, 15, 10, 11, 12, 13, 31, 32, 33, 19, 34, 35, 36, 37, 38, 39, 40, 41, 42, 43, 44, 45, 46, 47] (by decide +kernel) (by decide +kernel)
set_option maxRecDepth 20000 in
theorem gX2_lend_X2_settle : GoodIn wsX2_lend (wsV RX2 57 RX2 yX2_settle wsX2_settle) := goodIn_app (goodIn_of _ (by decide +kernel)) ggX2_lend_X2_settle
theorem dX2_lend_0 : decode cX2_lend 0 = .ok (.aload_n 0, 1) := by decide +kernel
theorem dX2_lend_1 : decode cX2_lend 1 = .ok (.getfield 44, 3) := by decide +kernel
theorem dX2_lend_4 : decode cX2_lend 4 = .ok (.istore 6, 2) := by decide +kernel
theorem dX2_lend_6 : decode cX2_lend 6 = .ok (.aload_n 0, 1) := by decide +kernel
theorem dX2_lend_7 : decode cX2_lend 7 = .ok (.getfield 23, 3) := by decide +kernel
theorem dX2_lend_10 : decode cX2_lend 10 = .ok (.invokevirtual 32, 3) := by decide +kernel
theorem dX2_lend_13 : decode cX2_lend 13 = .ok (.istore 7, 2) := by decide +kernel
theorem dX2_lend_15 : decode cX2_lend 15 = .ok (.aload_n 0, 1) := by decide +kernel
theorem dX2_lend_16 : decode cX2_lend 16 = .ok (.getfield 23, 3) := by decide +kernel
theorem dX2_lend_19 : decode cX2_lend 19 = .ok (.iload 7, 2) := by decide +kernel
theorem dX2_lend_21 : decode cX2_lend 21 = .ok (.iconst 0, 1) := by decide +kernel
theorem dX2_lend_22 : decode cX2_lend 22 = .ok (.iload_n 1, 1) := by decide +kernel
theorem dX2_lend_23 : decode cX2_lend 23 = .ok (.invokevirtual 36, 3) := by decide +kernel
theorem dX2_lend_26 : decode cX2_lend 26 = .ok (.aload_n 0, 1) := by decide +kernel
theorem dX2_lend_27 : decode cX2_lend 27 = .ok (.getfield 23, 3) := by decide +kernel
theorem dX2_lend_30 : decode cX2_lend 30 = .ok (.iload 7, 2) := by decide +kernel
theorem dX2_lend_32 : decode cX2_lend 32 = .ok (.iconst 1, 1) := by decide +kernel
theorem dX2_lend_33 : decode cX2_lend 33 = .ok (.iload_n 2, 1) := by decide +kernel
theorem dX2_lend_34 : decode cX2_lend 34 = .ok (.invokevirtual 36, 3) := by decide +kernel
theorem dX2_lend_37 : decode cX2_lend 37 = .ok (.aload_n 0, 1) := by decide +kernel
theorem dX2_lend_38 : decode cX2_lend 38 = .ok (.getfield 23, 3) := by decide +kernel
theorem dX2_lend_41 : decode cX2_lend 41 = .ok (.iload 7, 2) := by decide +kernel
theorem dX2_lend_43 : decode cX2_lend 43 = .ok (.iconst 2, 1) := by decide +kernel
theorem dX2_lend_44 : decode cX2_lend 44 = .ok (.iload_n 3, 1) := by decide +kernel
theorem dX2_lend_45 : decode cX2_lend 45 = .ok (.invokevirtual 36, 3) := by decide +kernel
theorem dX2_lend_48 : decode cX2_lend 48 = .ok (.aload_n 0, 1) := by decide +kernel
theorem dX2_lend_49 : decode cX2_lend 49 = .ok (.getfield 23, 3) := by decide +kernel
theorem dX2_lend_52 : decode cX2_lend 52 = .ok (.iload 7, 2) := by decide +kernel
theorem dX2_lend_54 : decode cX2_lend 54 = .ok (.iconst 3, 1) := by decide +kernel
theorem dX2_lend_55 : decode cX2_lend 55 = .ok (.iload 4, 2) := by decide +kernel
theorem dX2_lend_57 : decode cX2_lend 57 = .ok (.invokevirtual 36, 3) := by decide +kernel
theorem dX2_lend_60 : decode cX2_lend 60 = .ok (.aload_n 0, 1) := by decide +kernel
theorem dX2_lend_61 : decode cX2_lend 61 = .ok (.getfield 23, 3) := by decide +kernel
theorem dX2_lend_64 : decode cX2_lend 64 = .ok (.iload 7, 2) := by decide +kernel
theorem dX2_lend_66 : decode cX2_lend 66 = .ok (.iconst 4, 1) := by decide +kernel
theorem dX2_lend_67 : decode cX2_lend 67 = .ok (.iload 5, 2) := by decide +kernel
theorem dX2_lend_69 : decode cX2_lend 69 = .ok (.invokevirtual 36, 3) := by decide +kernel
theorem dX2_lend_72 : decode cX2_lend 72 = .ok (.aload_n 0, 1) := by decide +kernel
theorem dX2_lend_73 : decode cX2_lend 73 = .ok (.getfield 23, 3) := by decide +kernel
theorem dX2_lend_76 : decode cX2_lend 76 = .ok (.iload 7, 2) := by decide +kernel
theorem dX2_lend_78 : decode cX2_lend 78 = .ok (.iconst 5, 1) := by decide +kernel
theorem dX2_lend_79 : decode cX2_lend 79 = .ok (.iload 6, 2) := by decide +kernel
theorem dX2_lend_81 : decode cX2_lend 81 = .ok (.invokevirtual 36, 3) := by decide +kernel
theorem dX2_lend_84 : decode cX2_lend 84 = .ok (.aload_n 0, 1) := by decide +kernel
theorem dX2_lend_85 : decode cX2_lend 85 = .ok (.dup, 1) := by decide +kernel
theorem dX2_lend_86 : decode cX2_lend 86 = .ok (.getfield 44, 3) := by decide +kernel
theorem dX2_lend_89 : decode cX2_lend 89 = .ok (.iconst 1, 1) := by decide +kernel
theorem dX2_lend_90 : decode cX2_lend 90 = .ok (.iadd, 1) := by decide +kernel
theorem dX2_lend_91 : decode cX2_lend 91 = .ok (.putfield 44, 3) := by decide +kernel
theorem dX2_lend_94 : decode cX2_lend 94 = .ok (.aload_n 0, 1) := by decide +kernel
theorem dX2_lend_95 : decode cX2_lend 95 = .ok (.invokevirtual 57, 3) := by decide +kernel
theorem dX2_lend_98 : decode cX2_lend 98 = .ok (.iload 6, 2) := by decide +kernel
theorem dX2_lend_100 : decode cX2_lend 100 = .ok (.ireturn, 1) := by decide +kernel
set_option maxRecDepth 20000 in
theorem ggX2_takeBack_X2_countPairs : GoodIn wsX2_takeBack wsX2_countPairs := goodIn_r _ [7, 8, 9, 10, 11, 12, 13, 14, 15, 16, 17, 6, 18, 19, 20, 21, 22, 23, 24, 25, 26, 27, 28, 29, 30, 31, 32, 49, 50, 51, 52, 53, 54, 55, 56, 57, 58, 59, 60, 61] (by decide +kernel) (by decide +kernel)
set_option maxRecDepth 20000 in
theorem gX2_takeBack_X2_countPairs : GoodIn wsX2_takeBack (wsV RX2 82 RX2 yX2_countPairs wsX2_countPairs) := goodIn_app (goodIn_of _ (by decide +kernel)) ggX2_takeBack_X2_countPairs
set_option maxRecDepth 20000 in
theorem ggX2_takeBack_X3_drop : GoodIn wsX2_takeBack wsX3_drop := goodIn_r _ [36, 14, 24, 25, 58, 59, 60, 61] (by decide +kernel) (by decide +kernel)
set_option maxRecDepth 20000 in
theorem gX2_takeBack_X3_drop : GoodIn wsX2_takeBack (wsV RX2 85 RX3 yX3_drop wsX3_drop) := goodIn_app (goodIn_of _ (by decide +kernel)) ggX2_takeBack_X3_drop
set_option maxRecDepth 20000 in
theorem ggX2_takeBack_X2_settle : GoodIn wsX2_takeBack wsX2_settle := goodIn_r _ [40, 8, 19, 1, 9, 10, 11, 12, 13, 14, 20, 21, 22, 23, 24, 25, 41, 42, 43, 44, 45, 46, 47, 6, 48, 49, 50, 51, 52, 53, 54, 55, 56, 57, 58, 59, 60, 61] (by decide +kernel) (by decide +kernel)
set_option maxRecDepth 20000 in
theorem gX2_takeBack_X2_settle : GoodIn wsX2_takeBack (wsV RX2 57 RX2 yX2_settle wsX2_settle) := goodIn_app (goodIn_of _ (by decide +kernel)) ggX2_takeBack_X2_settle
theorem dX2_takeBack_0 : decode cX2_takeBack 0 = .ok (.aload_n 0, 1) := by decide +kernel
theorem dX2_takeBack_1 : decode cX2_takeBack 1 = .ok (.invokevirtual 82, 3) := by decide +kernel
theorem dX2_takeBack_4 : decode cX2_takeBack 4 = .ok (.istore_n 2, 1) := by decide +kernel
theorem dX2_takeBack_5 : decode cX2_takeBack 5 = .ok (.aload_n 0, 1) := by decide +kernel
theorem dX2_takeBack_6 : decode cX2_takeBack 6 = .ok (.getfield 23, 3) := by decide +kernel
theorem dX2_takeBack_9 : decode cX2_takeBack 9 = .ok (.iload_n 1, 1) := by decide +kernel
theorem dX2_takeBack_10 : decode cX2_takeBack 10 = .ok (.invokevirtual 85, 3) := by decide +kernel
theorem dX2_takeBack_13 : decode cX2_takeBack 13 = .ok (.aload_n 0, 1) := by decide +kernel
theorem dX2_takeBack_14 : decode cX2_takeBack 14 = .ok (.dup, 1) := by decide +kernel
theorem dX2_takeBack_15 : decode cX2_takeBack 15 = .ok (.getfield 51, 3) := by decide +kernel
theorem dX2_takeBack_18 : decode cX2_takeBack 18 = .ok (.iconst 1, 1) := by decide +kernel
theorem dX2_takeBack_19 : decode cX2_takeBack 19 = .ok (.iadd, 1) := by decide +kernel
theorem dX2_takeBack_20 : decode cX2_takeBack 20 = .ok (.putfield 51, 3) := by decide +kernel
theorem dX2_takeBack_23 : decode cX2_takeBack 23 = .ok (.aload_n 0, 1) := by decide +kernel
theorem dX2_takeBack_24 : decode cX2_takeBack 24 = .ok (.invokevirtual 57, 3) := by decide +kernel
theorem dX2_takeBack_27 : decode cX2_takeBack 27 = .ok (.iload_n 2, 1) := by decide +kernel
theorem dX2_takeBack_28 : decode cX2_takeBack 28 = .ok (.aload_n 0, 1) := by decide +kernel
theorem dX2_takeBack_29 : decode cX2_takeBack 29 = .ok (.invokevirtual 82, 3) := by decide +kernel
theorem dX2_takeBack_32 : decode cX2_takeBack 32 = .ok (.isub, 1) := by decide +kernel
theorem dX2_takeBack_33 : decode cX2_takeBack 33 = .ok (.ireturn, 1) := by decide +kernel
set_option maxRecDepth 20000 in
theorem ggX2_changeMood_X3_at : GoodIn wsX2_changeMood wsX3_at := goodIn_r _ [13, 14, 15, 16, 74, 75, 76, 77] (by decide +kernel) (by decide +kernel)
set_option maxRecDepth 20000 in
theorem gX2_changeMood_X3_at : GoodIn wsX2_changeMood (wsV RX2 60 RX3 yX3_at wsX3_at) := goodIn_app (goodIn_of _ (by decide +kernel)) ggX2_changeMood_X3_at
set_option maxRecDepth 20000 in
theorem ggX2_changeMood_X3_put : GoodIn wsX2_changeMood wsX3_put := goodIn_r _ [20, 14, 15, 16, 74, 75, 76, 77] (by decide +kernel) (by decide +kernel)
set_option maxRecDepth 20000 in
theorem gX2_changeMood_X3_put : GoodIn wsX2_changeMood (wsV RX2 36 RX3 yX3_put wsX3_put) := goodIn_app (goodIn_of _ (by decide +kernel)) ggX2_changeMood_X3_put
set_option maxRecDepth 20000 in
theorem ggX2_changeMood_X2_buryDying : GoodIn wsX2_changeMood wsX2_buryDying := goodIn_r _ [25, 26, 27, 28, 29, 30, 12, 31, 14, 32, 33, 34, 24, 35, 1, 9, 10, 11, 13, 15, 16, 36, 37, 38, 39, 40, 41, 42, 43, 44, 45, 46, 47, 48, 49, 50, 51, 52, 53, 54, 17, 18, 19, 20, 65, 66, 67, 68, 69, 70, 71, 72, 73, 74, 75, 76, 77] (by decide +kernel) (by decide +kernel)
set_option maxRecDepth 20000 in
theorem gX2_changeMood_X2_buryDying : GoodIn wsX2_changeMood (wsV RX2 97 RX2 yX2_buryDying wsX2_buryDying) := goodIn_app (goodIn_of _ (by decide +kernel)) ggX2_changeMood_X2_buryDying
set_option maxRecDepth 20000 in
theorem ggX2_changeMood_X2_settle : GoodIn wsX2_changeMood wsX2_settle := goodIn_r _ [58, 59, 60, 26, 28, 29, 30, 12, 31, 14, 9, 10, 11, 13, 15, 16, 17, 18, 19, 20, 61, 62, 63, 24, 64, 65, 66, 67, 68, 69, 70, 71, 72, 73, 74, 75, 76, 77] (by decide +kernel) (by decide +kernel)
set_option maxRecDepth 20000 in
theorem gX2_changeMood_X2_settle : GoodIn wsX2_changeMood (wsV RX2 57 RX2 yX2_settle wsX2_settle) := goodIn_app (goodIn_of _ (by decide +kernel)) ggX2_changeMood_X2_settle
theorem dX2_changeMood_0 : decode cX2_changeMood 0 = .ok (.aload_n 0, 1) := by decide +kernel
theorem dX2_changeMood_1 : decode cX2_changeMood 1 = .ok (.getfield 14, 3) := by decide +kernel
theorem dX2_changeMood_4 : decode cX2_changeMood 4 = .ok (.iload_n 1, 1) := by decide +kernel
theorem dX2_changeMood_5 : decode cX2_changeMood 5 = .ok (.iconst 0, 1) := by decide +kernel
theorem dX2_changeMood_6 : decode cX2_changeMood 6 = .ok (.invokevirtual 60, 3) := by decide +kernel
theorem dX2_changeMood_9 : decode cX2_changeMood 9 = .ok (.iload_n 2, 1) := by decide +kernel
theorem dX2_changeMood_10 : decode cX2_changeMood 10 = .ok (.iadd, 1) := by decide +kernel
theorem dX2_changeMood_11 : decode cX2_changeMood 11 = .ok (.istore_n 3, 1) := by decide +kernel
theorem dX2_changeMood_12 : decode cX2_changeMood 12 = .ok (.iconst 0, 1) := by decide +kernel
theorem dX2_changeMood_13 : decode cX2_changeMood 13 = .ok (.bipush 100, 2) := by decide +kernel
theorem dX2_changeMood_15 : decode cX2_changeMood 15 = .ok (.iload_n 3, 1) := by decide +kernel
theorem dX2_changeMood_16 : decode cX2_changeMood 16 = .ok (.invokestatic 89, 3) := by decide +kernel
theorem dX2_changeMood_19 : decode cX2_changeMood 19 = .ok (.invokestatic 94, 3) := by decide +kernel
theorem dX2_changeMood_22 : decode cX2_changeMood 22 = .ok (.istore 4, 2) := by decide +kernel
theorem dX2_changeMood_24 : decode cX2_changeMood 24 = .ok (.aload_n 0, 1) := by decide +kernel
theorem dX2_changeMood_25 : decode cX2_changeMood 25 = .ok (.getfield 14, 3) := by decide +kernel
theorem dX2_changeMood_28 : decode cX2_changeMood 28 = .ok (.iload_n 1, 1) := by decide +kernel
theorem dX2_changeMood_29 : decode cX2_changeMood 29 = .ok (.iconst 0, 1) := by decide +kernel
theorem dX2_changeMood_30 : decode cX2_changeMood 30 = .ok (.iload 4, 2) := by decide +kernel
theorem dX2_changeMood_32 : decode cX2_changeMood 32 = .ok (.invokevirtual 36, 3) := by decide +kernel
theorem dX2_changeMood_35 : decode cX2_changeMood 35 = .ok (.aload_n 0, 1) := by decide +kernel
theorem dX2_changeMood_36 : decode cX2_changeMood 36 = .ok (.invokevirtual 97, 3) := by decide +kernel
theorem dX2_changeMood_39 : decode cX2_changeMood 39 = .ok (.ifCond .le 7, 3) := by decide +kernel
theorem dX2_changeMood_42 : decode cX2_changeMood 42 = .ok (.aload_n 0, 1) := by decide +kernel
theorem dX2_changeMood_43 : decode cX2_changeMood 43 = .ok (.invokevirtual 57, 3) := by decide +kernel
theorem dX2_changeMood_46 : decode cX2_changeMood 46 = .ok (.iload 4, 2) := by decide +kernel
theorem dX2_changeMood_48 : decode cX2_changeMood 48 = .ok (.ireturn, 1) := by decide +kernel
theorem dX2_hasTimeFor_0 : decode cX2_hasTimeFor 0 = .ok (.aload_n 0, 1) := by decide +kernel
theorem dX2_hasTimeFor_1 : decode cX2_hasTimeFor 1 = .ok (.getfield 54, 3) := by decide +kernel
theorem dX2_hasTimeFor_4 : decode cX2_hasTimeFor 4 = .ok (.iload_n 1, 1) := by decide +kernel
theorem dX2_hasTimeFor_5 : decode cX2_hasTimeFor 5 = .ok (.iadd, 1) := by decide +kernel
theorem dX2_hasTimeFor_6 : decode cX2_hasTimeFor 6 = .ok (.ldc 100, 2) := by decide +kernel
theorem dX2_hasTimeFor_8 : decode cX2_hasTimeFor 8 = .ok (.if_icmp .gt 7, 3) := by decide +kernel
theorem dX2_hasTimeFor_11 : decode cX2_hasTimeFor 11 = .ok (.iconst 1, 1) := by decide +kernel
theorem dX2_hasTimeFor_12 : decode cX2_hasTimeFor 12 = .ok (.goto 4, 3) := by decide +kernel
theorem dX2_hasTimeFor_15 : decode cX2_hasTimeFor 15 = .ok (.iconst 0, 1) := by decide +kernel
theorem dX2_hasTimeFor_16 : decode cX2_hasTimeFor 16 = .ok (.ireturn, 1) := by decide +kernel
set_option maxRecDepth 20000 in
theorem ggX2_letPass_X2_calm : GoodIn wsX2_letPass wsX2_calm := goodIn_r _ [6, 7, 8, 9, 10, 11, 12, 13, 14, 15, 16, 17, 18, 19, 62, 63, 64, 65, 66, 67, 68, 69, 70, 71, 72, 73, 74] (by decide +kernel) (by decide +kernel)
set_option maxRecDepth 20000 in
theorem gX2_letPass_X2_calm : GoodIn wsX2_letPass (wsV RX2 101 RX2 yX2_calm wsX2_calm) := goodIn_app (goodIn_of _ (by decide +kernel)) ggX2_letPass_X2_calm
set_option maxRecDepth 20000 in
theorem ggX2_letPass_X2_buryDying : GoodIn wsX2_letPass wsX2_buryDying := goodIn_r _ [23, 24, 25, 26, 27, 28, 11, 29, 13, 30, 31, 32, 5, 33, 7, 8, 9, 10, 12, 14, 15, 34, 35, 36, 37, 38, 1, 39, 40, 41, 42, 43, 44, 45, 46, 47, 48, 49, 50, 51, 16, 17, 18, 19, 62, 63, 64, 65, 66, 67, 68, 69, 70, 71, 72, 73, 74] (by decide +kernel) (by decide +kernel)
set_option maxRecDepth 20000 in
theorem gX2_letPass_X2_buryDying : GoodIn wsX2_letPass (wsV RX2 97 RX2 yX2_buryDying wsX2_buryDying) := goodIn_app (goodIn_of _ (by decide +kernel)) ggX2_letPass_X2_buryDying
set_option maxRecDepth 20000 in
theorem ggX2_letPass_X2_settle : GoodIn wsX2_letPass wsX2_settle := goodIn_r _ [55, 56, 57, 24, 26, 27, 28, 11, 29, 13, 8, 9, 10, 12, 14, 15, 16, 17, 18, 19, 58, 59, 60, 5, 61, 62, 63, 64, 65, 66, 67, 68, 69, 70, 71, 72, 73, 74] (by decide +kernel) (by decide +kernel)
set_option maxRecDepth 20000 in
theorem gX2_letPass_X2_settle : GoodIn wsX2_letPass (wsV RX2 57 RX2 yX2_settle wsX2_settle) := goodIn_app (goodIn_of _ (by decide +kernel)) ggX2_letPass_X2_settle
theorem dX2_letPass_0 : decode cX2_letPass 0 = .ok (.iconst 0, 1) := by decide +kernel
theorem dX2_letPass_1 : decode cX2_letPass 1 = .ok (.istore_n 2, 1) := by decide +kernel
theorem dX2_letPass_2 : decode cX2_letPass 2 = .ok (.iconst 0, 1) := by decide +kernel
theorem dX2_letPass_3 : decode cX2_letPass 3 = .ok (.istore_n 3, 1) := by decide +kernel
theorem dX2_letPass_4 : decode cX2_letPass 4 = .ok (.iload_n 3, 1) := by decide +kernel
theorem dX2_letPass_5 : decode cX2_letPass 5 = .ok (.iload_n 1, 1) := by decide +kernel
theorem dX2_letPass_6 : decode cX2_letPass 6 = .ok (.if_icmp .ge 48, 3) := by decide +kernel
theorem dX2_letPass_9 : decode cX2_letPass 9 = .ok (.iconst 0, 1) := by decide +kernel
theorem dX2_letPass_10 : decode cX2_letPass 10 = .ok (.istore 4, 2) := by decide +kernel
theorem dX2_letPass_12 : decode cX2_letPass 12 = .ok (.iload 4, 2) := by decide +kernel
theorem dX2_letPass_14 : decode cX2_letPass 14 = .ok (.bipush 10, 2) := by decide +kernel
theorem dX2_letPass_16 : decode cX2_letPass 16 = .ok (.if_icmp .ge 15, 3) := by decide +kernel
theorem dX2_letPass_19 : decode cX2_letPass 19 = .ok (.aload_n 0, 1) := by decide +kernel
theorem dX2_letPass_20 : decode cX2_letPass 20 = .ok (.iload 4, 2) := by decide +kernel
theorem dX2_letPass_22 : decode cX2_letPass 22 = .ok (.invokevirtual 101, 3) := by decide +kernel
theorem dX2_letPass_25 : decode cX2_letPass 25 = .ok (.iinc 4 1, 3) := by decide +kernel
theorem dX2_letPass_28 : decode cX2_letPass 28 = .ok (.goto (-16), 3) := by decide +kernel
theorem dX2_letPass_31 : decode cX2_letPass 31 = .ok (.aload_n 0, 1) := by decide +kernel
theorem dX2_letPass_32 : decode cX2_letPass 32 = .ok (.dup, 1) := by decide +kernel
theorem dX2_letPass_33 : decode cX2_letPass 33 = .ok (.getfield 54, 3) := by decide +kernel
theorem dX2_letPass_36 : decode cX2_letPass 36 = .ok (.iconst 1, 1) := by decide +kernel
theorem dX2_letPass_37 : decode cX2_letPass 37 = .ok (.iadd, 1) := by decide +kernel
theorem dX2_letPass_38 : decode cX2_letPass 38 = .ok (.putfield 54, 3) := by decide +kernel
theorem dX2_letPass_41 : decode cX2_letPass 41 = .ok (.iload_n 2, 1) := by decide +kernel
theorem dX2_letPass_42 : decode cX2_letPass 42 = .ok (.aload_n 0, 1) := by decide +kernel
theorem dX2_letPass_43 : decode cX2_letPass 43 = .ok (.invokevirtual 97, 3) := by decide +kernel
theorem dX2_letPass_46 : decode cX2_letPass 46 = .ok (.iadd, 1) := by decide +kernel
theorem dX2_letPass_47 : decode cX2_letPass 47 = .ok (.istore_n 2, 1) := by decide +kernel
theorem dX2_letPass_48 : decode cX2_letPass 48 = .ok (.iinc 3 1, 3) := by decide +kernel
theorem dX2_letPass_51 : decode cX2_letPass 51 = .ok (.goto (-47), 3) := by decide +kernel
theorem dX2_letPass_54 : decode cX2_letPass 54 = .ok (.iload_n 2, 1) := by decide +kernel
theorem dX2_letPass_55 : decode cX2_letPass 55 = .ok (.ifCond .le 7, 3) := by decide +kernel
theorem dX2_letPass_58 : decode cX2_letPass 58 = .ok (.aload_n 0, 1) := by decide +kernel
theorem dX2_letPass_59 : decode cX2_letPass 59 = .ok (.invokevirtual 57, 3) := by decide +kernel
theorem dX2_letPass_62 : decode cX2_letPass 62 = .ok (.iload_n 2, 1) := by decide +kernel
theorem dX2_letPass_63 : decode cX2_letPass 63 = .ok (.ireturn, 1) := by decide +kernel
set_option maxRecDepth 20000 in
theorem ggX2_rightsOf_X3_at : GoodIn wsX2_rightsOf wsX3_at := goodIn_r _ [6, 7, 8, 9, 19, 20, 21, 22] (by decide +kernel) (by decide +kernel)
set_option maxRecDepth 20000 in
theorem gX2_rightsOf_X3_at : GoodIn wsX2_rightsOf (wsV RX2 60 RX3 yX3_at wsX3_at) := goodIn_app (goodIn_of _ (by decide +kernel)) ggX2_rightsOf_X3_at
theorem dX2_rightsOf_0 : decode cX2_rightsOf 0 = .ok (.aload_n 0, 1) := by decide +kernel
theorem dX2_rightsOf_1 : decode cX2_rightsOf 1 = .ok (.getfield 29, 3) := by decide +kernel
theorem dX2_rightsOf_4 : decode cX2_rightsOf 4 = .ok (.iload_n 2, 1) := by decide +kernel
theorem dX2_rightsOf_5 : decode cX2_rightsOf 5 = .ok (.iload_n 1, 1) := by decide +kernel
theorem dX2_rightsOf_6 : decode cX2_rightsOf 6 = .ok (.invokevirtual 60, 3) := by decide +kernel
theorem dX2_rightsOf_9 : decode cX2_rightsOf 9 = .ok (.ireturn, 1) := by decide +kernel
set_option maxRecDepth 20000 in
theorem ggX2_placeOf_X3_rows : GoodIn wsX2_placeOf wsX3_rows := goodIn_r _ [6, 7, 23, 24, 25, 26] (by decide +kernel) (by decide +kernel)
set_option maxRecDepth 20000 in
theorem gX2_placeOf_X3_rows : GoodIn wsX2_placeOf (wsV RX2 104 RX3 yX3_rows wsX3_rows) := goodIn_app (goodIn_of _ (by decide +kernel)) ggX2_placeOf_X3_rows
set_option maxRecDepth 20000 in
theorem ggX2_placeOf_X3_at : GoodIn wsX2_placeOf wsX3_at := goodIn_r _ [11, 7, 12, 13, 23, 24, 25, 26] (by decide +kernel) (by decide +kernel)
set_option maxRecDepth 20000 in
theorem gX2_placeOf_X3_at : GoodIn wsX2_placeOf (wsV RX2 60 RX3 yX3_at wsX3_at) := goodIn_app (goodIn_of _ (by decide +kernel)) ggX2_placeOf_X3_at
theorem dX2_placeOf_0 : decode cX2_placeOf 0 = .ok (.iconst 0, 1) := by decide +kernel
theorem dX2_placeOf_1 : decode cX2_placeOf 1 = .ok (.istore_n 2, 1) := by decide +kernel
theorem dX2_placeOf_2 : decode cX2_placeOf 2 = .ok (.iload_n 2, 1) := by decide +kernel
theorem dX2_placeOf_3 : decode cX2_placeOf 3 = .ok (.aload_n 0, 1) := by decide +kernel
theorem dX2_placeOf_4 : decode cX2_placeOf 4 = .ok (.getfield 23, 3) := by decide +kernel
theorem dX2_placeOf_7 : decode cX2_placeOf 7 = .ok (.invokevirtual 104, 3) := by decide +kernel
theorem dX2_placeOf_10 : decode cX2_placeOf 10 = .ok (.if_icmp .ge 24, 3) := by decide +kernel
theorem dX2_placeOf_13 : decode cX2_placeOf 13 = .ok (.aload_n 0, 1) := by decide +kernel
theorem dX2_placeOf_14 : decode cX2_placeOf 14 = .ok (.getfield 23, 3) := by decide +kernel
theorem dX2_placeOf_17 : decode cX2_placeOf 17 = .ok (.iload_n 2, 1) := by decide +kernel
theorem dX2_placeOf_18 : decode cX2_placeOf 18 = .ok (.iconst 5, 1) := by decide +kernel
theorem dX2_placeOf_19 : decode cX2_placeOf 19 = .ok (.invokevirtual 60, 3) := by decide +kernel
theorem dX2_placeOf_22 : decode cX2_placeOf 22 = .ok (.iload_n 1, 1) := by decide +kernel
theorem dX2_placeOf_23 : decode cX2_placeOf 23 = .ok (.if_icmp .ne 5, 3) := by decide +kernel
theorem dX2_placeOf_26 : decode cX2_placeOf 26 = .ok (.iload_n 2, 1) := by decide +kernel
theorem dX2_placeOf_27 : decode cX2_placeOf 27 = .ok (.ireturn, 1) := by decide +kernel
theorem dX2_placeOf_28 : decode cX2_placeOf 28 = .ok (.iinc 2 1, 3) := by decide +kernel
theorem dX2_placeOf_31 : decode cX2_placeOf 31 = .ok (.goto (-29), 3) := by decide +kernel
theorem dX2_placeOf_34 : decode cX2_placeOf 34 = .ok (.iconst (-1), 1) := by decide +kernel
theorem dX2_placeOf_35 : decode cX2_placeOf 35 = .ok (.ireturn, 1) := by decide +kernel
set_option maxRecDepth 20000 in
theorem ggX2_passedOn_X3_at : GoodIn wsX2_passedOn wsX3_at := goodIn_r _ [8, 9, 10, 11, 21, 22, 23, 24] (by decide +kernel) (by decide +kernel)
set_option maxRecDepth 20000 in
theorem gX2_passedOn_X3_at : GoodIn wsX2_passedOn (wsV RX2 60 RX3 yX3_at wsX3_at) := goodIn_app (goodIn_of _ (by decide +kernel)) ggX2_passedOn_X3_at
theorem dX2_passedOn_0 : decode cX2_passedOn 0 = .ok (.aload_n 0, 1) := by decide +kernel
theorem dX2_passedOn_1 : decode cX2_passedOn 1 = .ok (.getfield 23, 3) := by decide +kernel
theorem dX2_passedOn_4 : decode cX2_passedOn 4 = .ok (.iload_n 1, 1) := by decide +kernel
theorem dX2_passedOn_5 : decode cX2_passedOn 5 = .ok (.iconst 2, 1) := by decide +kernel
theorem dX2_passedOn_6 : decode cX2_passedOn 6 = .ok (.invokevirtual 60, 3) := by decide +kernel
theorem dX2_passedOn_9 : decode cX2_passedOn 9 = .ok (.istore_n 2, 1) := by decide +kernel
theorem dX2_passedOn_10 : decode cX2_passedOn 10 = .ok (.aload_n 0, 1) := by decide +kernel
theorem dX2_passedOn_11 : decode cX2_passedOn 11 = .ok (.getfield 29, 3) := by decide +kernel
theorem dX2_passedOn_14 : decode cX2_passedOn 14 = .ok (.iload_n 2, 1) := by decide +kernel
theorem dX2_passedOn_15 : decode cX2_passedOn 15 = .ok (.aload_n 0, 1) := by decide +kernel
theorem dX2_passedOn_16 : decode cX2_passedOn 16 = .ok (.getfield 23, 3) := by decide +kernel
theorem dX2_passedOn_19 : decode cX2_passedOn 19 = .ok (.iload_n 1, 1) := by decide +kernel
theorem dX2_passedOn_20 : decode cX2_passedOn 20 = .ok (.iconst 0, 1) := by decide +kernel
theorem dX2_passedOn_21 : decode cX2_passedOn 21 = .ok (.invokevirtual 60, 3) := by decide +kernel
theorem dX2_passedOn_24 : decode cX2_passedOn 24 = .ok (.invokevirtual 60, 3) := by decide +kernel
theorem dX2_passedOn_27 : decode cX2_passedOn 27 = .ok (.istore_n 3, 1) := by decide +kernel
theorem dX2_passedOn_28 : decode cX2_passedOn 28 = .ok (.iload_n 3, 1) := by decide +kernel
theorem dX2_passedOn_29 : decode cX2_passedOn 29 = .ok (.iconst 4, 1) := by decide +kernel
theorem dX2_passedOn_30 : decode cX2_passedOn 30 = .ok (.iand, 1) := by decide +kernel
theorem dX2_passedOn_31 : decode cX2_passedOn 31 = .ok (.ifCond .ne 5, 3) := by decide +kernel
theorem dX2_passedOn_34 : decode cX2_passedOn 34 = .ok (.iconst 0, 1) := by decide +kernel
theorem dX2_passedOn_35 : decode cX2_passedOn 35 = .ok (.ireturn, 1) := by decide +kernel
theorem dX2_passedOn_36 : decode cX2_passedOn 36 = .ok (.aload_n 0, 1) := by decide +kernel
theorem dX2_passedOn_37 : decode cX2_passedOn 37 = .ok (.getfield 23, 3) := by decide +kernel
theorem dX2_passedOn_40 : decode cX2_passedOn 40 = .ok (.iload_n 1, 1) := by decide +kernel
theorem dX2_passedOn_41 : decode cX2_passedOn 41 = .ok (.iconst 3, 1) := by decide +kernel
theorem dX2_passedOn_42 : decode cX2_passedOn 42 = .ok (.invokevirtual 60, 3) := by decide +kernel
theorem dX2_passedOn_45 : decode cX2_passedOn 45 = .ok (.iload_n 3, 1) := by decide +kernel
theorem dX2_passedOn_46 : decode cX2_passedOn 46 = .ok (.iand, 1) := by decide +kernel
theorem dX2_passedOn_47 : decode cX2_passedOn 47 = .ok (.aload_n 0, 1) := by decide +kernel
theorem dX2_passedOn_48 : decode cX2_passedOn 48 = .ok (.getfield 20, 3) := by decide +kernel
theorem dX2_passedOn_51 : decode cX2_passedOn 51 = .ok (.iload_n 2, 1) := by decide +kernel
theorem dX2_passedOn_52 : decode cX2_passedOn 52 = .ok (.iconst 1, 1) := by decide +kernel
theorem dX2_passedOn_53 : decode cX2_passedOn 53 = .ok (.invokevirtual 60, 3) := by decide +kernel
theorem dX2_passedOn_56 : decode cX2_passedOn 56 = .ok (.iand, 1) := by decide +kernel
theorem dX2_passedOn_57 : decode cX2_passedOn 57 = .ok (.ireturn, 1) := by decide +kernel
set_option maxRecDepth 20000 in
theorem ggX2_countPairs_X3_rows : GoodIn wsX2_countPairs wsX3_rows := goodIn_r _ [6, 7, 36, 37, 38, 39] (by decide +kernel) (by decide +kernel)
set_option maxRecDepth 20000 in
theorem gX2_countPairs_X3_rows : GoodIn wsX2_countPairs (wsV RX2 104 RX3 yX3_rows wsX3_rows) := goodIn_app (goodIn_of _ (by decide +kernel)) ggX2_countPairs_X3_rows
set_option maxRecDepth 20000 in
theorem ggX2_countPairs_X2_holdersOf : GoodIn wsX2_countPairs wsX2_holdersOf := goodIn_r _ [12, 13, 14, 15, 16, 5, 17, 7, 18, 19, 27, 28, 29, 30, 31, 32, 33, 34, 35, 36, 37, 38, 39] (by decide +kernel) (by decide +kernel)
set_option maxRecDepth 20000 in
theorem gX2_countPairs_X2_holdersOf : GoodIn wsX2_countPairs (wsV RX2 107 RX2 yX2_holdersOf wsX2_holdersOf) := goodIn_app (goodIn_of _ (by decide +kernel)) ggX2_countPairs_X2_holdersOf
set_option maxRecDepth 20000 in
theorem ggX2_countPairs_J6_bitCount_0f7a4 : GoodIn wsX2_countPairs wsJ6_bitCount_0f7a4 := goodIn_r _ [23, 24, 25, 26] (by decide +kernel) (by decide +kernel)
set_option maxRecDepth 20000 in
theorem gX2_countPairs_J6_bitCount_0f7a4 : GoodIn wsX2_countPairs (va_wsS RX2 110 yJ6_bitCount_0f7a4 wsJ6_bitCount_0f7a4) := goodIn_app (goodIn_of _ (by decide +kernel)) ggX2_countPairs_J6_bitCount_0f7a4
theorem dX2_countPairs_0 : decode cX2_countPairs 0 = .ok (.iconst 0, 1) := by decide +kernel
theorem dX2_countPairs_1 : decode cX2_countPairs 1 = .ok (.istore_n 1, 1) := by decide +kernel
theorem dX2_countPairs_2 : decode cX2_countPairs 2 = .ok (.iconst 0, 1) := by decide +kernel
theorem dX2_countPairs_3 : decode cX2_countPairs 3 = .ok (.istore_n 2, 1) := by decide +kernel
theorem dX2_countPairs_4 : decode cX2_countPairs 4 = .ok (.iload_n 2, 1) := by decide +kernel
theorem dX2_countPairs_5 : decode cX2_countPairs 5 = .ok (.aload_n 0, 1) := by decide +kernel
theorem dX2_countPairs_6 : decode cX2_countPairs 6 = .ok (.getfield 20, 3) := by decide +kernel
theorem dX2_countPairs_9 : decode cX2_countPairs 9 = .ok (.invokevirtual 104, 3) := by decide +kernel
theorem dX2_countPairs_12 : decode cX2_countPairs 12 = .ok (.if_icmp .ge 21, 3) := by decide +kernel
theorem dX2_countPairs_15 : decode cX2_countPairs 15 = .ok (.iload_n 1, 1) := by decide +kernel
theorem dX2_countPairs_16 : decode cX2_countPairs 16 = .ok (.aload_n 0, 1) := by decide +kernel
theorem dX2_countPairs_17 : decode cX2_countPairs 17 = .ok (.iload_n 2, 1) := by decide +kernel
theorem dX2_countPairs_18 : decode cX2_countPairs 18 = .ok (.iconst 1, 1) := by decide +kernel
theorem dX2_countPairs_19 : decode cX2_countPairs 19 = .ok (.invokevirtual 107, 3) := by decide +kernel
theorem dX2_countPairs_22 : decode cX2_countPairs 22 = .ok (.invokestatic 110, 3) := by decide +kernel
theorem dX2_countPairs_25 : decode cX2_countPairs 25 = .ok (.iadd, 1) := by decide +kernel
theorem dX2_countPairs_26 : decode cX2_countPairs 26 = .ok (.istore_n 1, 1) := by decide +kernel
theorem dX2_countPairs_27 : decode cX2_countPairs 27 = .ok (.iinc 2 1, 3) := by decide +kernel
theorem dX2_countPairs_30 : decode cX2_countPairs 30 = .ok (.goto (-26), 3) := by decide +kernel
theorem dX2_countPairs_33 : decode cX2_countPairs 33 = .ok (.iload_n 1, 1) := by decide +kernel
theorem dX2_countPairs_34 : decode cX2_countPairs 34 = .ok (.ireturn, 1) := by decide +kernel
set_option maxRecDepth 20000 in
theorem ggX2_greatestThreshold_X3_rows : GoodIn wsX2_greatestThreshold wsX3_rows := goodIn_r _ [10, 11, 27, 28, 29, 30] (by decide +kernel) (by decide +kernel)
set_option maxRecDepth 20000 in
theorem gX2_greatestThreshold_X3_rows : GoodIn wsX2_greatestThreshold (wsV RX2 104 RX3 yX3_rows wsX3_rows) := goodIn_app (goodIn_of _ (by decide +kernel)) ggX2_greatestThreshold_X3_rows
set_option maxRecDepth 20000 in
theorem ggX2_greatestThreshold_X3_at : GoodIn wsX2_greatestThreshold wsX3_at := goodIn_r _ [15, 11, 16, 17, 27, 28, 29, 30] (by decide +kernel) (by decide +kernel)
set_option maxRecDepth 20000 in
theorem gX2_greatestThreshold_X3_at : GoodIn wsX2_greatestThreshold (wsV RX2 60 RX3 yX3_at wsX3_at) := goodIn_app (goodIn_of _ (by decide +kernel)) ggX2_greatestThreshold_X3_at
theorem dX2_greatestThreshold_0 : decode cX2_greatestThreshold 0 = .ok (.iconst 0, 1) := by decide +kernel
theorem dX2_greatestThreshold_1 : decode cX2_greatestThreshold 1 = .ok (.istore_n 2, 1) := by decide +kernel
theorem dX2_greatestThreshold_2 : decode cX2_greatestThreshold 2 = .ok (.iconst 0, 1) := by decide +kernel
theorem dX2_greatestThreshold_3 : decode cX2_greatestThreshold 3 = .ok (.istore_n 3, 1) := by decide +kernel
theorem dX2_greatestThreshold_4 : decode cX2_greatestThreshold 4 = .ok (.iload_n 3, 1) := by decide +kernel
theorem dX2_greatestThreshold_5 : decode cX2_greatestThreshold 5 = .ok (.aload_n 0, 1) := by decide +kernel
theorem dX2_greatestThreshold_6 : decode cX2_greatestThreshold 6 = .ok (.getfield 23, 3) := by decide +kernel
theorem dX2_greatestThreshold_9 : decode cX2_greatestThreshold 9 = .ok (.invokevirtual 104, 3) := by decide +kernel
theorem dX2_greatestThreshold_12 : decode cX2_greatestThreshold 12 = .ok (.if_icmp .ge 36, 3) := by decide +kernel
theorem dX2_greatestThreshold_15 : decode cX2_greatestThreshold 15 = .ok (.aload_n 0, 1) := by decide +kernel
theorem dX2_greatestThreshold_16 : decode cX2_greatestThreshold 16 = .ok (.getfield 23, 3) := by decide +kernel
theorem dX2_greatestThreshold_19 : decode cX2_greatestThreshold 19 = .ok (.iload_n 3, 1) := by decide +kernel
theorem dX2_greatestThreshold_20 : decode cX2_greatestThreshold 20 = .ok (.iconst 0, 1) := by decide +kernel
theorem dX2_greatestThreshold_21 : decode cX2_greatestThreshold 21 = .ok (.invokevirtual 60, 3) := by decide +kernel
theorem dX2_greatestThreshold_24 : decode cX2_greatestThreshold 24 = .ok (.iload_n 1, 1) := by decide +kernel
theorem dX2_greatestThreshold_25 : decode cX2_greatestThreshold 25 = .ok (.if_icmp .ne 17, 3) := by decide +kernel
theorem dX2_greatestThreshold_28 : decode cX2_greatestThreshold 28 = .ok (.iload_n 2, 1) := by decide +kernel
theorem dX2_greatestThreshold_29 : decode cX2_greatestThreshold 29 = .ok (.aload_n 0, 1) := by decide +kernel
theorem dX2_greatestThreshold_30 : decode cX2_greatestThreshold 30 = .ok (.getfield 23, 3) := by decide +kernel
theorem dX2_greatestThreshold_33 : decode cX2_greatestThreshold 33 = .ok (.iload_n 3, 1) := by decide +kernel
theorem dX2_greatestThreshold_34 : decode cX2_greatestThreshold 34 = .ok (.iconst 4, 1) := by decide +kernel
theorem dX2_greatestThreshold_35 : decode cX2_greatestThreshold 35 = .ok (.invokevirtual 60, 3) := by decide +kernel
theorem dX2_greatestThreshold_38 : decode cX2_greatestThreshold 38 = .ok (.invokestatic 94, 3) := by decide +kernel
theorem dX2_greatestThreshold_41 : decode cX2_greatestThreshold 41 = .ok (.istore_n 2, 1) := by decide +kernel
theorem dX2_greatestThreshold_42 : decode cX2_greatestThreshold 42 = .ok (.iinc 3 1, 3) := by decide +kernel
theorem dX2_greatestThreshold_45 : decode cX2_greatestThreshold 45 = .ok (.goto (-41), 3) := by decide +kernel
theorem dX2_greatestThreshold_48 : decode cX2_greatestThreshold 48 = .ok (.iload_n 2, 1) := by decide +kernel
theorem dX2_greatestThreshold_49 : decode cX2_greatestThreshold 49 = .ok (.ireturn, 1) := by decide +kernel
set_option maxRecDepth 20000 in
theorem ggX2_aboutPerson_X3_at : GoodIn wsX2_aboutPerson wsX3_at := goodIn_r _ [8, 9, 10, 11, 41, 42, 43, 44] (by decide +kernel) (by decide +kernel)
set_option maxRecDepth 20000 in
theorem gX2_aboutPerson_X3_at : GoodIn wsX2_aboutPerson (wsV RX2 60 RX3 yX3_at wsX3_at) := goodIn_app (goodIn_of _ (by decide +kernel)) ggX2_aboutPerson_X3_at
set_option maxRecDepth 20000 in
theorem ggX2_aboutPerson_X2_countEqual : GoodIn wsX2_aboutPerson wsX2_countEqual := goodIn_r _ [15, 16, 17, 18, 7, 19, 9, 4, 5, 6, 8, 10, 11, 41, 42, 43, 44] (by decide +kernel) (by decide +kernel)
set_option maxRecDepth 20000 in
theorem gX2_aboutPerson_X2_countEqual : GoodIn wsX2_aboutPerson (va_wsS RX2 116 yX2_countEqual wsX2_countEqual) := goodIn_app (goodIn_of _ (by decide +kernel)) ggX2_aboutPerson_X2_countEqual
set_option maxRecDepth 20000 in
theorem ggX2_aboutPerson_X2_thingsSeenBy : GoodIn wsX2_aboutPerson wsX2_thingsSeenBy := goodIn_r _ [23, 2, 24, 16, 17, 18, 7, 19, 9, 4, 5, 6, 8, 10, 11, 32, 33, 34, 35, 36, 37, 38, 39, 40, 41, 42, 43, 44] (by decide +kernel) (by decide +kernel)
set_option maxRecDepth 20000 in
theorem gX2_aboutPerson_X2_thingsSeenBy : GoodIn wsX2_aboutPerson (wsV RX2 120 RX2 yX2_thingsSeenBy wsX2_thingsSeenBy) := goodIn_app (goodIn_of _ (by decide +kernel)) ggX2_aboutPerson_X2_thingsSeenBy
set_option maxRecDepth 20000 in
theorem ggX2_aboutPerson_J6_bitCount_0f7a4 : GoodIn wsX2_aboutPerson wsJ6_bitCount_0f7a4 := goodIn_r _ [28, 29, 30, 31] (by decide +kernel) (by decide +kernel)
set_option maxRecDepth 20000 in
theorem gX2_aboutPerson_J6_bitCount_0f7a4 : GoodIn wsX2_aboutPerson (va_wsS RX2 110 yJ6_bitCount_0f7a4 wsJ6_bitCount_0f7a4) := goodIn_app (goodIn_of _ (by decide +kernel)) ggX2_aboutPerson_J6_bitCount_0f7a4
theorem dX2_aboutPerson_0 : decode cX2_aboutPerson 0 = .ok (.iload_n 2, 1) := by decide +kernel
theorem dX2_aboutPerson_1 : decode cX2_aboutPerson 1 = .ok (.tableswitch 98 0 5 #[39, 49, 59, 69, 78, 88], 39) := by decide +kernel
theorem dX2_aboutPerson_40 : decode cX2_aboutPerson 40 = .ok (.aload_n 0, 1) := by decide +kernel
theorem dX2_aboutPerson_41 : decode cX2_aboutPerson 41 = .ok (.getfield 14, 3) := by decide +kernel
theorem dX2_aboutPerson_44 : decode cX2_aboutPerson 44 = .ok (.iload_n 1, 1) := by decide +kernel
theorem dX2_aboutPerson_45 : decode cX2_aboutPerson 45 = .ok (.iconst 0, 1) := by decide +kernel
theorem dX2_aboutPerson_46 : decode cX2_aboutPerson 46 = .ok (.invokevirtual 60, 3) := by decide +kernel
theorem dX2_aboutPerson_49 : decode cX2_aboutPerson 49 = .ok (.ireturn, 1) := by decide +kernel
theorem dX2_aboutPerson_50 : decode cX2_aboutPerson 50 = .ok (.aload_n 0, 1) := by decide +kernel
theorem dX2_aboutPerson_51 : decode cX2_aboutPerson 51 = .ok (.getfield 14, 3) := by decide +kernel
theorem dX2_aboutPerson_54 : decode cX2_aboutPerson 54 = .ok (.iload_n 1, 1) := by decide +kernel
theorem dX2_aboutPerson_55 : decode cX2_aboutPerson 55 = .ok (.iconst 1, 1) := by decide +kernel
theorem dX2_aboutPerson_56 : decode cX2_aboutPerson 56 = .ok (.invokevirtual 60, 3) := by decide +kernel
theorem dX2_aboutPerson_59 : decode cX2_aboutPerson 59 = .ok (.ireturn, 1) := by decide +kernel
theorem dX2_aboutPerson_60 : decode cX2_aboutPerson 60 = .ok (.aload_n 0, 1) := by decide +kernel
theorem dX2_aboutPerson_61 : decode cX2_aboutPerson 61 = .ok (.getfield 20, 3) := by decide +kernel
theorem dX2_aboutPerson_64 : decode cX2_aboutPerson 64 = .ok (.iconst 0, 1) := by decide +kernel
theorem dX2_aboutPerson_65 : decode cX2_aboutPerson 65 = .ok (.iload_n 1, 1) := by decide +kernel
theorem dX2_aboutPerson_66 : decode cX2_aboutPerson 66 = .ok (.invokestatic 116, 3) := by decide +kernel
theorem dX2_aboutPerson_69 : decode cX2_aboutPerson 69 = .ok (.ireturn, 1) := by decide +kernel
theorem dX2_aboutPerson_70 : decode cX2_aboutPerson 70 = .ok (.aload_n 0, 1) := by decide +kernel
theorem dX2_aboutPerson_71 : decode cX2_aboutPerson 71 = .ok (.iload_n 1, 1) := by decide +kernel
theorem dX2_aboutPerson_72 : decode cX2_aboutPerson 72 = .ok (.invokevirtual 120, 3) := by decide +kernel
theorem dX2_aboutPerson_75 : decode cX2_aboutPerson 75 = .ok (.invokestatic 110, 3) := by decide +kernel
theorem dX2_aboutPerson_78 : decode cX2_aboutPerson 78 = .ok (.ireturn, 1) := by decide +kernel
theorem dX2_aboutPerson_79 : decode cX2_aboutPerson 79 = .ok (.aload_n 0, 1) := by decide +kernel
theorem dX2_aboutPerson_80 : decode cX2_aboutPerson 80 = .ok (.getfield 23, 3) := by decide +kernel
theorem dX2_aboutPerson_83 : decode cX2_aboutPerson 83 = .ok (.iconst 0, 1) := by decide +kernel
theorem dX2_aboutPerson_84 : decode cX2_aboutPerson 84 = .ok (.iload_n 1, 1) := by decide +kernel
theorem dX2_aboutPerson_85 : decode cX2_aboutPerson 85 = .ok (.invokestatic 116, 3) := by decide +kernel
theorem dX2_aboutPerson_88 : decode cX2_aboutPerson 88 = .ok (.ireturn, 1) := by decide +kernel
theorem dX2_aboutPerson_89 : decode cX2_aboutPerson 89 = .ok (.aload_n 0, 1) := by decide +kernel
theorem dX2_aboutPerson_90 : decode cX2_aboutPerson 90 = .ok (.getfield 23, 3) := by decide +kernel
theorem dX2_aboutPerson_93 : decode cX2_aboutPerson 93 = .ok (.iconst 1, 1) := by decide +kernel
theorem dX2_aboutPerson_94 : decode cX2_aboutPerson 94 = .ok (.iload_n 1, 1) := by decide +kernel
theorem dX2_aboutPerson_95 : decode cX2_aboutPerson 95 = .ok (.invokestatic 116, 3) := by decide +kernel
theorem dX2_aboutPerson_98 : decode cX2_aboutPerson 98 = .ok (.ireturn, 1) := by decide +kernel
theorem dX2_aboutPerson_99 : decode cX2_aboutPerson 99 = .ok (.aload_n 0, 1) := by decide +kernel
theorem dX2_aboutPerson_100 : decode cX2_aboutPerson 100 = .ok (.iload_n 1, 1) := by decide +kernel
theorem dX2_aboutPerson_101 : decode cX2_aboutPerson 101 = .ok (.invokevirtual 120, 3) := by decide +kernel
theorem dX2_aboutPerson_104 : decode cX2_aboutPerson 104 = .ok (.ireturn, 1) := by decide +kernel
set_option maxRecDepth 20000 in
theorem ggX2_aboutThing_X3_at : GoodIn wsX2_aboutThing wsX3_at := goodIn_r _ [7, 8, 9, 10, 33, 34, 35, 36] (by decide +kernel) (by decide +kernel)
set_option maxRecDepth 20000 in
theorem gX2_aboutThing_X3_at : GoodIn wsX2_aboutThing (wsV RX2 60 RX3 yX3_at wsX3_at) := goodIn_app (goodIn_of _ (by decide +kernel)) ggX2_aboutThing_X3_at
set_option maxRecDepth 20000 in
theorem ggX2_aboutThing_X2_countEqual : GoodIn wsX2_aboutThing wsX2_countEqual := goodIn_r _ [14, 15, 16, 17, 6, 18, 8, 3, 4, 5, 7, 9, 10, 33, 34, 35, 36] (by decide +kernel) (by decide +kernel)
set_option maxRecDepth 20000 in
theorem gX2_aboutThing_X2_countEqual : GoodIn wsX2_aboutThing (va_wsS RX2 116 yX2_countEqual wsX2_countEqual) := goodIn_app (goodIn_of _ (by decide +kernel)) ggX2_aboutThing_X2_countEqual
set_option maxRecDepth 20000 in
theorem ggX2_aboutThing_X2_holdersOf : GoodIn wsX2_aboutThing wsX2_holdersOf := goodIn_r _ [22, 23, 3, 4, 5, 6, 7, 8, 9, 10, 24, 25, 26, 27, 28, 29, 30, 31, 32, 33, 34, 35, 36] (by decide +kernel) (by decide +kernel)
set_option maxRecDepth 20000 in
theorem gX2_aboutThing_X2_holdersOf : GoodIn wsX2_aboutThing (wsV RX2 107 RX2 yX2_holdersOf wsX2_holdersOf) := goodIn_app (goodIn_of _ (by decide +kernel)) ggX2_aboutThing_X2_holdersOf
theorem dX2_aboutThing_0 : decode cX2_aboutThing 0 = .ok (.iload_n 2, 1) := by decide +kernel
theorem dX2_aboutThing_1 : decode cX2_aboutThing 1 = .ok (.tableswitch 79 0 4 #[35, 45, 55, 65, 72], 35) := by decide +kernel
theorem dX2_aboutThing_36 : decode cX2_aboutThing 36 = .ok (.aload_n 0, 1) := by decide +kernel
theorem dX2_aboutThing_37 : decode cX2_aboutThing 37 = .ok (.getfield 20, 3) := by decide +kernel
theorem dX2_aboutThing_40 : decode cX2_aboutThing 40 = .ok (.iload_n 1, 1) := by decide +kernel
theorem dX2_aboutThing_41 : decode cX2_aboutThing 41 = .ok (.iconst 0, 1) := by decide +kernel
theorem dX2_aboutThing_42 : decode cX2_aboutThing 42 = .ok (.invokevirtual 60, 3) := by decide +kernel
theorem dX2_aboutThing_45 : decode cX2_aboutThing 45 = .ok (.ireturn, 1) := by decide +kernel
theorem dX2_aboutThing_46 : decode cX2_aboutThing 46 = .ok (.aload_n 0, 1) := by decide +kernel
theorem dX2_aboutThing_47 : decode cX2_aboutThing 47 = .ok (.getfield 20, 3) := by decide +kernel
theorem dX2_aboutThing_50 : decode cX2_aboutThing 50 = .ok (.iload_n 1, 1) := by decide +kernel
theorem dX2_aboutThing_51 : decode cX2_aboutThing 51 = .ok (.iconst 1, 1) := by decide +kernel
theorem dX2_aboutThing_52 : decode cX2_aboutThing 52 = .ok (.invokevirtual 60, 3) := by decide +kernel
theorem dX2_aboutThing_55 : decode cX2_aboutThing 55 = .ok (.ireturn, 1) := by decide +kernel
theorem dX2_aboutThing_56 : decode cX2_aboutThing 56 = .ok (.aload_n 0, 1) := by decide +kernel
theorem dX2_aboutThing_57 : decode cX2_aboutThing 57 = .ok (.getfield 23, 3) := by decide +kernel
theorem dX2_aboutThing_60 : decode cX2_aboutThing 60 = .ok (.iconst 2, 1) := by decide +kernel
theorem dX2_aboutThing_61 : decode cX2_aboutThing 61 = .ok (.iload_n 1, 1) := by decide +kernel
theorem dX2_aboutThing_62 : decode cX2_aboutThing 62 = .ok (.invokestatic 116, 3) := by decide +kernel
theorem dX2_aboutThing_65 : decode cX2_aboutThing 65 = .ok (.ireturn, 1) := by decide +kernel
theorem dX2_aboutThing_66 : decode cX2_aboutThing 66 = .ok (.aload_n 0, 1) := by decide +kernel
theorem dX2_aboutThing_67 : decode cX2_aboutThing 67 = .ok (.iload_n 1, 1) := by decide +kernel
theorem dX2_aboutThing_68 : decode cX2_aboutThing 68 = .ok (.iconst 1, 1) := by decide +kernel
theorem dX2_aboutThing_69 : decode cX2_aboutThing 69 = .ok (.invokevirtual 107, 3) := by decide +kernel
theorem dX2_aboutThing_72 : decode cX2_aboutThing 72 = .ok (.ireturn, 1) := by decide +kernel
theorem dX2_aboutThing_73 : decode cX2_aboutThing 73 = .ok (.aload_n 0, 1) := by decide +kernel
theorem dX2_aboutThing_74 : decode cX2_aboutThing 74 = .ok (.iload_n 1, 1) := by decide +kernel
theorem dX2_aboutThing_75 : decode cX2_aboutThing 75 = .ok (.iconst 2, 1) := by decide +kernel
theorem dX2_aboutThing_76 : decode cX2_aboutThing 76 = .ok (.invokevirtual 107, 3) := by decide +kernel
theorem dX2_aboutThing_79 : decode cX2_aboutThing 79 = .ok (.ireturn, 1) := by decide +kernel
theorem dX2_aboutThing_80 : decode cX2_aboutThing 80 = .ok (.aload_n 0, 1) := by decide +kernel
theorem dX2_aboutThing_81 : decode cX2_aboutThing 81 = .ok (.iload_n 1, 1) := by decide +kernel
theorem dX2_aboutThing_82 : decode cX2_aboutThing 82 = .ok (.iconst 4, 1) := by decide +kernel
theorem dX2_aboutThing_83 : decode cX2_aboutThing 83 = .ok (.invokevirtual 107, 3) := by decide +kernel
theorem dX2_aboutThing_86 : decode cX2_aboutThing 86 = .ok (.ireturn, 1) := by decide +kernel
set_option maxRecDepth 20000 in
theorem ggX2_aboutGrant_X3_at : GoodIn wsX2_aboutGrant wsX3_at := goodIn_r _ [6, 7, 8, 9, 26, 27, 28, 29] (by decide +kernel) (by decide +kernel)
set_option maxRecDepth 20000 in
theorem gX2_aboutGrant_X3_at : GoodIn wsX2_aboutGrant (wsV RX2 60 RX3 yX3_at wsX3_at) := goodIn_app (goodIn_of _ (by decide +kernel)) ggX2_aboutGrant_X3_at
set_option maxRecDepth 20000 in
theorem ggX2_aboutGrant_X2_passedOn : GoodIn wsX2_aboutGrant wsX2_passedOn := goodIn_r _ [14, 1, 15, 16, 2, 3, 4, 5, 6, 7, 8, 9, 17, 18, 19, 20, 21, 22, 23, 24, 25, 26, 27, 28, 29] (by decide +kernel) (by decide +kernel)
set_option maxRecDepth 20000 in
theorem gX2_aboutGrant_X2_passedOn : GoodIn wsX2_aboutGrant (wsV RX2 123 RX2 yX2_passedOn wsX2_passedOn) := goodIn_app (goodIn_of _ (by decide +kernel)) ggX2_aboutGrant_X2_passedOn
theorem dX2_aboutGrant_0 : decode cX2_aboutGrant 0 = .ok (.iload_n 2, 1) := by decide +kernel
theorem dX2_aboutGrant_1 : decode cX2_aboutGrant 1 = .ok (.iconst 4, 1) := by decide +kernel
theorem dX2_aboutGrant_2 : decode cX2_aboutGrant 2 = .ok (.if_icmp .gt 15, 3) := by decide +kernel
theorem dX2_aboutGrant_5 : decode cX2_aboutGrant 5 = .ok (.aload_n 0, 1) := by decide +kernel
theorem dX2_aboutGrant_6 : decode cX2_aboutGrant 6 = .ok (.getfield 23, 3) := by decide +kernel
theorem dX2_aboutGrant_9 : decode cX2_aboutGrant 9 = .ok (.iload_n 1, 1) := by decide +kernel
theorem dX2_aboutGrant_10 : decode cX2_aboutGrant 10 = .ok (.iload_n 2, 1) := by decide +kernel
theorem dX2_aboutGrant_11 : decode cX2_aboutGrant 11 = .ok (.invokevirtual 60, 3) := by decide +kernel
theorem dX2_aboutGrant_14 : decode cX2_aboutGrant 14 = .ok (.goto 8, 3) := by decide +kernel
theorem dX2_aboutGrant_17 : decode cX2_aboutGrant 17 = .ok (.aload_n 0, 1) := by decide +kernel
theorem dX2_aboutGrant_18 : decode cX2_aboutGrant 18 = .ok (.iload_n 1, 1) := by decide +kernel
theorem dX2_aboutGrant_19 : decode cX2_aboutGrant 19 = .ok (.invokevirtual 123, 3) := by decide +kernel
theorem dX2_aboutGrant_22 : decode cX2_aboutGrant 22 = .ok (.ireturn, 1) := by decide +kernel
set_option maxRecDepth 20000 in
theorem ggX2_aboutEntry_X3_rows : GoodIn wsX2_aboutEntry wsX3_rows := goodIn_r _ [6, 7, 23, 24, 25, 26] (by decide +kernel) (by decide +kernel)
set_option maxRecDepth 20000 in
theorem gX2_aboutEntry_X3_rows : GoodIn wsX2_aboutEntry (wsV RX2 104 RX3 yX3_rows wsX3_rows) := goodIn_app (goodIn_of _ (by decide +kernel)) ggX2_aboutEntry_X3_rows
set_option maxRecDepth 20000 in
theorem ggX2_aboutEntry_X3_at : GoodIn wsX2_aboutEntry wsX3_at := goodIn_r _ [11, 7, 12, 13, 23, 24, 25, 26] (by decide +kernel) (by decide +kernel)
set_option maxRecDepth 20000 in
theorem gX2_aboutEntry_X3_at : GoodIn wsX2_aboutEntry (wsV RX2 60 RX3 yX3_at wsX3_at) := goodIn_app (goodIn_of _ (by decide +kernel)) ggX2_aboutEntry_X3_at
theorem dX2_aboutEntry_0 : decode cX2_aboutEntry 0 = .ok (.aload_n 0, 1) := by decide +kernel
theorem dX2_aboutEntry_1 : decode cX2_aboutEntry 1 = .ok (.getfield 26, 3) := by decide +kernel
theorem dX2_aboutEntry_4 : decode cX2_aboutEntry 4 = .ok (.aload_n 0, 1) := by decide +kernel
theorem dX2_aboutEntry_5 : decode cX2_aboutEntry 5 = .ok (.getfield 26, 3) := by decide +kernel
theorem dX2_aboutEntry_8 : decode cX2_aboutEntry 8 = .ok (.invokevirtual 104, 3) := by decide +kernel
theorem dX2_aboutEntry_11 : decode cX2_aboutEntry 11 = .ok (.iconst 1, 1) := by decide +kernel
theorem dX2_aboutEntry_12 : decode cX2_aboutEntry 12 = .ok (.isub, 1) := by decide +kernel
theorem dX2_aboutEntry_13 : decode cX2_aboutEntry 13 = .ok (.iload_n 1, 1) := by decide +kernel
theorem dX2_aboutEntry_14 : decode cX2_aboutEntry 14 = .ok (.isub, 1) := by decide +kernel
theorem dX2_aboutEntry_15 : decode cX2_aboutEntry 15 = .ok (.iload_n 2, 1) := by decide +kernel
theorem dX2_aboutEntry_16 : decode cX2_aboutEntry 16 = .ok (.invokevirtual 60, 3) := by decide +kernel
theorem dX2_aboutEntry_19 : decode cX2_aboutEntry 19 = .ok (.ireturn, 1) := by decide +kernel
set_option maxRecDepth 20000 in
theorem ggX2_aboutHouse_X3_rows : GoodIn wsX2_aboutHouse wsX3_rows := goodIn_r _ [12, 13, 54, 55, 56, 57] (by decide +kernel) (by decide +kernel)
set_option maxRecDepth 20000 in
theorem gX2_aboutHouse_X3_rows : GoodIn wsX2_aboutHouse (wsV RX2 104 RX3 yX3_rows wsX3_rows) := goodIn_app (goodIn_of _ (by decide +kernel)) ggX2_aboutHouse_X3_rows
set_option maxRecDepth 20000 in
theorem ggX2_aboutHouse_X2_countPairs : GoodIn wsX2_aboutHouse wsX2_countPairs := goodIn_r _ [18, 1, 8, 9, 10, 11, 12, 13, 19, 20, 21, 17, 22, 23, 24, 25, 26, 27, 28, 29, 30, 31, 32, 33, 34, 35, 36, 45, 46, 47, 48, 49, 50, 51, 52, 53, 54, 55, 56, 57] (by decide +kernel) (by decide +kernel)
set_option maxRecDepth 20000 in
theorem gX2_aboutHouse_X2_countPairs : GoodIn wsX2_aboutHouse (wsV RX2 82 RX2 yX2_countPairs wsX2_countPairs) := goodIn_app (goodIn_of _ (by decide +kernel)) ggX2_aboutHouse_X2_countPairs
set_option maxRecDepth 20000 in
theorem ggX2_aboutHouse_X2_countIdleGrants : GoodIn wsX2_aboutHouse wsX2_countIdleGrants := goodIn_r _ [40, 2, 8, 9, 10, 11, 12, 13, 41, 42, 43, 17, 44, 23, 1, 24, 25, 26, 27, 28, 29, 45, 46, 47, 48, 49, 50, 51, 52, 53, 54, 55, 56, 57] (by decide +kernel) (by decide +kernel)
set_option maxRecDepth 20000 in
theorem gX2_aboutHouse_X2_countIdleGrants : GoodIn wsX2_aboutHouse (wsV RX2 126 RX2 yX2_countIdleGrants wsX2_countIdleGrants) := goodIn_app (goodIn_of _ (by decide +kernel)) ggX2_aboutHouse_X2_countIdleGrants
theorem dX2_aboutHouse_0 : decode cX2_aboutHouse 0 = .ok (.iload_n 1, 1) := by decide +kernel
theorem dX2_aboutHouse_1 : decode cX2_aboutHouse 1 = .ok (.tableswitch 93 0 7 #[47, 55, 63, 68, 73, 78, 83, 88], 47) := by decide +kernel
theorem dX2_aboutHouse_48 : decode cX2_aboutHouse 48 = .ok (.aload_n 0, 1) := by decide +kernel
theorem dX2_aboutHouse_49 : decode cX2_aboutHouse 49 = .ok (.getfield 20, 3) := by decide +kernel
theorem dX2_aboutHouse_52 : decode cX2_aboutHouse 52 = .ok (.invokevirtual 104, 3) := by decide +kernel
theorem dX2_aboutHouse_55 : decode cX2_aboutHouse 55 = .ok (.ireturn, 1) := by decide +kernel
theorem dX2_aboutHouse_56 : decode cX2_aboutHouse 56 = .ok (.aload_n 0, 1) := by decide +kernel
theorem dX2_aboutHouse_57 : decode cX2_aboutHouse 57 = .ok (.getfield 23, 3) := by decide +kernel
theorem dX2_aboutHouse_60 : decode cX2_aboutHouse 60 = .ok (.invokevirtual 104, 3) := by decide +kernel
theorem dX2_aboutHouse_63 : decode cX2_aboutHouse 63 = .ok (.ireturn, 1) := by decide +kernel
theorem dX2_aboutHouse_64 : decode cX2_aboutHouse 64 = .ok (.aload_n 0, 1) := by decide +kernel
theorem dX2_aboutHouse_65 : decode cX2_aboutHouse 65 = .ok (.getfield 44, 3) := by decide +kernel
theorem dX2_aboutHouse_68 : decode cX2_aboutHouse 68 = .ok (.ireturn, 1) := by decide +kernel
theorem dX2_aboutHouse_69 : decode cX2_aboutHouse 69 = .ok (.aload_n 0, 1) := by decide +kernel
theorem dX2_aboutHouse_70 : decode cX2_aboutHouse 70 = .ok (.getfield 48, 3) := by decide +kernel
theorem dX2_aboutHouse_73 : decode cX2_aboutHouse 73 = .ok (.ireturn, 1) := by decide +kernel
theorem dX2_aboutHouse_74 : decode cX2_aboutHouse 74 = .ok (.aload_n 0, 1) := by decide +kernel
theorem dX2_aboutHouse_75 : decode cX2_aboutHouse 75 = .ok (.getfield 51, 3) := by decide +kernel
theorem dX2_aboutHouse_78 : decode cX2_aboutHouse 78 = .ok (.ireturn, 1) := by decide +kernel
theorem dX2_aboutHouse_79 : decode cX2_aboutHouse 79 = .ok (.aload_n 0, 1) := by decide +kernel
theorem dX2_aboutHouse_80 : decode cX2_aboutHouse 80 = .ok (.getfield 54, 3) := by decide +kernel
theorem dX2_aboutHouse_83 : decode cX2_aboutHouse 83 = .ok (.ireturn, 1) := by decide +kernel
theorem dX2_aboutHouse_84 : decode cX2_aboutHouse 84 = .ok (.aload_n 0, 1) := by decide +kernel
theorem dX2_aboutHouse_85 : decode cX2_aboutHouse 85 = .ok (.invokevirtual 82, 3) := by decide +kernel
theorem dX2_aboutHouse_88 : decode cX2_aboutHouse 88 = .ok (.ireturn, 1) := by decide +kernel
theorem dX2_aboutHouse_89 : decode cX2_aboutHouse 89 = .ok (.aload_n 0, 1) := by decide +kernel
theorem dX2_aboutHouse_90 : decode cX2_aboutHouse 90 = .ok (.invokevirtual 126, 3) := by decide +kernel
theorem dX2_aboutHouse_93 : decode cX2_aboutHouse 93 = .ok (.ireturn, 1) := by decide +kernel
theorem dX2_aboutHouse_94 : decode cX2_aboutHouse 94 = .ok (.aload_n 0, 1) := by decide +kernel
theorem dX2_aboutHouse_95 : decode cX2_aboutHouse 95 = .ok (.getfield 26, 3) := by decide +kernel
theorem dX2_aboutHouse_98 : decode cX2_aboutHouse 98 = .ok (.invokevirtual 104, 3) := by decide +kernel
theorem dX2_aboutHouse_101 : decode cX2_aboutHouse 101 = .ok (.ireturn, 1) := by decide +kernel
set_option maxRecDepth 20000 in
theorem ggX2_reasonAgainst_X2_rightsOf : GoodIn wsX2_reasonAgainst wsX2_rightsOf := goodIn_r _ [11, 12, 13, 14, 15, 16, 17, 18, 19, 20, 29, 30, 31, 32, 33, 34, 35, 36, 37, 38, 39, 40, 41] (by decide +kernel) (by decide +kernel)
set_option maxRecDepth 20000 in
theorem gX2_reasonAgainst_X2_rightsOf : GoodIn wsX2_reasonAgainst (wsV RX2 75 RX2 yX2_rightsOf wsX2_rightsOf) := goodIn_app (goodIn_of _ (by decide +kernel)) ggX2_reasonAgainst_X2_rightsOf
set_option maxRecDepth 20000 in
theorem ggX2_reasonAgainst_X3_at : GoodIn wsX2_reasonAgainst wsX3_at := goodIn_r _ [17, 18, 19, 20, 38, 39, 40, 41] (by decide +kernel) (by decide +kernel)
set_option maxRecDepth 20000 in
theorem gX2_reasonAgainst_X3_at : GoodIn wsX2_reasonAgainst (wsV RX2 60 RX3 yX3_at wsX3_at) := goodIn_app (goodIn_of _ (by decide +kernel)) ggX2_reasonAgainst_X3_at
set_option maxRecDepth 20000 in
theorem ggX2_reasonAgainst_X3_rows : GoodIn wsX2_reasonAgainst wsX3_rows := goodIn_r _ [24, 18, 38, 39, 40, 41] (by decide +kernel) (by decide +kernel)
set_option maxRecDepth 20000 in
theorem gX2_reasonAgainst_X3_rows : GoodIn wsX2_reasonAgainst (wsV RX2 104 RX3 yX3_rows wsX3_rows) := goodIn_app (goodIn_of _ (by decide +kernel)) ggX2_reasonAgainst_X3_rows
set_option maxRecDepth 20000 in
theorem ggX2_reasonAgainst_X2_isGrantOf : GoodIn wsX2_reasonAgainst wsX2_isGrantOf := goodIn_r _ [28, 2, 13, 14, 15, 16, 17, 18, 19, 20, 29, 30, 31, 32, 33, 34, 35, 36, 37, 38, 39, 40, 41] (by decide +kernel) (by decide +kernel)
set_option maxRecDepth 20000 in
theorem gX2_reasonAgainst_X2_isGrantOf : GoodIn wsX2_reasonAgainst (wsV RX2 129 RX2 yX2_isGrantOf wsX2_isGrantOf) := goodIn_app (goodIn_of _ (by decide +kernel)) ggX2_reasonAgainst_X2_isGrantOf
theorem dX2_reasonAgainst_0 : decode cX2_reasonAgainst 0 = .ok (.aload_n 0, 1) := by decide +kernel
theorem dX2_reasonAgainst_1 : decode cX2_reasonAgainst 1 = .ok (.iload_n 1, 1) := by decide +kernel
theorem dX2_reasonAgainst_2 : decode cX2_reasonAgainst 2 = .ok (.iload_n 2, 1) := by decide +kernel
theorem dX2_reasonAgainst_3 : decode cX2_reasonAgainst 3 = .ok (.invokevirtual 75, 3) := by decide +kernel
theorem dX2_reasonAgainst_6 : decode cX2_reasonAgainst 6 = .ok (.iload_n 3, 1) := by decide +kernel
theorem dX2_reasonAgainst_7 : decode cX2_reasonAgainst 7 = .ok (.iand, 1) := by decide +kernel
theorem dX2_reasonAgainst_8 : decode cX2_reasonAgainst 8 = .ok (.ifCond .eq 5, 3) := by decide +kernel
theorem dX2_reasonAgainst_11 : decode cX2_reasonAgainst 11 = .ok (.iconst 0, 1) := by decide +kernel
theorem dX2_reasonAgainst_12 : decode cX2_reasonAgainst 12 = .ok (.ireturn, 1) := by decide +kernel
theorem dX2_reasonAgainst_13 : decode cX2_reasonAgainst 13 = .ok (.aload_n 0, 1) := by decide +kernel
theorem dX2_reasonAgainst_14 : decode cX2_reasonAgainst 14 = .ok (.getfield 20, 3) := by decide +kernel
theorem dX2_reasonAgainst_17 : decode cX2_reasonAgainst 17 = .ok (.iload_n 2, 1) := by decide +kernel
theorem dX2_reasonAgainst_18 : decode cX2_reasonAgainst 18 = .ok (.iconst 1, 1) := by decide +kernel
theorem dX2_reasonAgainst_19 : decode cX2_reasonAgainst 19 = .ok (.invokevirtual 60, 3) := by decide +kernel
theorem dX2_reasonAgainst_22 : decode cX2_reasonAgainst 22 = .ok (.iload_n 3, 1) := by decide +kernel
theorem dX2_reasonAgainst_23 : decode cX2_reasonAgainst 23 = .ok (.iand, 1) := by decide +kernel
theorem dX2_reasonAgainst_24 : decode cX2_reasonAgainst 24 = .ok (.ifCond .ne 5, 3) := by decide +kernel
theorem dX2_reasonAgainst_27 : decode cX2_reasonAgainst 27 = .ok (.iconst 1, 1) := by decide +kernel
theorem dX2_reasonAgainst_28 : decode cX2_reasonAgainst 28 = .ok (.ireturn, 1) := by decide +kernel
theorem dX2_reasonAgainst_29 : decode cX2_reasonAgainst 29 = .ok (.iconst 2, 1) := by decide +kernel
theorem dX2_reasonAgainst_30 : decode cX2_reasonAgainst 30 = .ok (.istore 4, 2) := by decide +kernel
theorem dX2_reasonAgainst_32 : decode cX2_reasonAgainst 32 = .ok (.iconst 0, 1) := by decide +kernel
theorem dX2_reasonAgainst_33 : decode cX2_reasonAgainst 33 = .ok (.istore 5, 2) := by decide +kernel
theorem dX2_reasonAgainst_35 : decode cX2_reasonAgainst 35 = .ok (.iload 5, 2) := by decide +kernel
theorem dX2_reasonAgainst_37 : decode cX2_reasonAgainst 37 = .ok (.aload_n 0, 1) := by decide +kernel
theorem dX2_reasonAgainst_38 : decode cX2_reasonAgainst 38 = .ok (.getfield 23, 3) := by decide +kernel
theorem dX2_reasonAgainst_41 : decode cX2_reasonAgainst 41 = .ok (.invokevirtual 104, 3) := by decide +kernel
theorem dX2_reasonAgainst_44 : decode cX2_reasonAgainst 44 = .ok (.if_icmp .ge 57, 3) := by decide +kernel
theorem dX2_reasonAgainst_47 : decode cX2_reasonAgainst 47 = .ok (.aload_n 0, 1) := by decide +kernel
theorem dX2_reasonAgainst_48 : decode cX2_reasonAgainst 48 = .ok (.iload 5, 2) := by decide +kernel
theorem dX2_reasonAgainst_50 : decode cX2_reasonAgainst 50 = .ok (.iload_n 1, 1) := by decide +kernel
theorem dX2_reasonAgainst_51 : decode cX2_reasonAgainst 51 = .ok (.iload_n 2, 1) := by decide +kernel
theorem dX2_reasonAgainst_52 : decode cX2_reasonAgainst 52 = .ok (.iload_n 3, 1) := by decide +kernel
theorem dX2_reasonAgainst_53 : decode cX2_reasonAgainst 53 = .ok (.invokevirtual 129, 3) := by decide +kernel
theorem dX2_reasonAgainst_56 : decode cX2_reasonAgainst 56 = .ok (.ifCond .eq 39, 3) := by decide +kernel
theorem dX2_reasonAgainst_59 : decode cX2_reasonAgainst 59 = .ok (.aload_n 0, 1) := by decide +kernel
theorem dX2_reasonAgainst_60 : decode cX2_reasonAgainst 60 = .ok (.aload_n 0, 1) := by decide +kernel
theorem dX2_reasonAgainst_61 : decode cX2_reasonAgainst 61 = .ok (.getfield 23, 3) := by decide +kernel
theorem dX2_reasonAgainst_64 : decode cX2_reasonAgainst 64 = .ok (.iload 5, 2) := by decide +kernel
theorem dX2_reasonAgainst_66 : decode cX2_reasonAgainst 66 = .ok (.iconst 0, 1) := by decide +kernel
theorem dX2_reasonAgainst_67 : decode cX2_reasonAgainst 67 = .ok (.invokevirtual 60, 3) := by decide +kernel
theorem dX2_reasonAgainst_70 : decode cX2_reasonAgainst 70 = .ok (.iload_n 2, 1) := by decide +kernel
theorem dX2_reasonAgainst_71 : decode cX2_reasonAgainst 71 = .ok (.invokevirtual 75, 3) := by decide +kernel
theorem dX2_reasonAgainst_74 : decode cX2_reasonAgainst 74 = .ok (.istore 6, 2) := by decide +kernel
theorem dX2_reasonAgainst_76 : decode cX2_reasonAgainst 76 = .ok (.iload 4, 2) := by decide +kernel
theorem dX2_reasonAgainst_78 : decode cX2_reasonAgainst 78 = .ok (.iload 6, 2) := by decide +kernel
theorem dX2_reasonAgainst_80 : decode cX2_reasonAgainst 80 = .ok (.iconst 4, 1) := by decide +kernel
theorem dX2_reasonAgainst_81 : decode cX2_reasonAgainst 81 = .ok (.iand, 1) := by decide +kernel
theorem dX2_reasonAgainst_82 : decode cX2_reasonAgainst 82 = .ok (.ifCond .ne 7, 3) := by decide +kernel
theorem dX2_reasonAgainst_85 : decode cX2_reasonAgainst 85 = .ok (.iconst 3, 1) := by decide +kernel
theorem dX2_reasonAgainst_86 : decode cX2_reasonAgainst 86 = .ok (.goto 4, 3) := by decide +kernel
theorem dX2_reasonAgainst_89 : decode cX2_reasonAgainst 89 = .ok (.iconst 4, 1) := by decide +kernel
theorem dX2_reasonAgainst_90 : decode cX2_reasonAgainst 90 = .ok (.invokestatic 94, 3) := by decide +kernel
theorem dX2_reasonAgainst_93 : decode cX2_reasonAgainst 93 = .ok (.istore 4, 2) := by decide +kernel
theorem dX2_reasonAgainst_95 : decode cX2_reasonAgainst 95 = .ok (.iinc 5 1, 3) := by decide +kernel
theorem dX2_reasonAgainst_98 : decode cX2_reasonAgainst 98 = .ok (.goto (-63), 3) := by decide +kernel
theorem dX2_reasonAgainst_101 : decode cX2_reasonAgainst 101 = .ok (.iload 4, 2) := by decide +kernel
theorem dX2_reasonAgainst_103 : decode cX2_reasonAgainst 103 = .ok (.ireturn, 1) := by decide +kernel
set_option maxRecDepth 20000 in
theorem ggX2_isGrantOf_X3_at : GoodIn wsX2_isGrantOf wsX3_at := goodIn_r _ [6, 7, 8, 9, 19, 20, 21, 22] (by decide +kernel) (by decide +kernel)
set_option maxRecDepth 20000 in
theorem gX2_isGrantOf_X3_at : GoodIn wsX2_isGrantOf (wsV RX2 60 RX3 yX3_at wsX3_at) := goodIn_app (goodIn_of _ (by decide +kernel)) ggX2_isGrantOf_X3_at
theorem dX2_isGrantOf_0 : decode cX2_isGrantOf 0 = .ok (.aload_n 0, 1) := by decide +kernel
theorem dX2_isGrantOf_1 : decode cX2_isGrantOf 1 = .ok (.getfield 23, 3) := by decide +kernel
theorem dX2_isGrantOf_4 : decode cX2_isGrantOf 4 = .ok (.iload_n 1, 1) := by decide +kernel
theorem dX2_isGrantOf_5 : decode cX2_isGrantOf 5 = .ok (.iconst 1, 1) := by decide +kernel
theorem dX2_isGrantOf_6 : decode cX2_isGrantOf 6 = .ok (.invokevirtual 60, 3) := by decide +kernel
theorem dX2_isGrantOf_9 : decode cX2_isGrantOf 9 = .ok (.iload_n 2, 1) := by decide +kernel
theorem dX2_isGrantOf_10 : decode cX2_isGrantOf 10 = .ok (.if_icmp .ne 35, 3) := by decide +kernel
theorem dX2_isGrantOf_13 : decode cX2_isGrantOf 13 = .ok (.aload_n 0, 1) := by decide +kernel
theorem dX2_isGrantOf_14 : decode cX2_isGrantOf 14 = .ok (.getfield 23, 3) := by decide +kernel
theorem dX2_isGrantOf_17 : decode cX2_isGrantOf 17 = .ok (.iload_n 1, 1) := by decide +kernel
theorem dX2_isGrantOf_18 : decode cX2_isGrantOf 18 = .ok (.iconst 2, 1) := by decide +kernel
theorem dX2_isGrantOf_19 : decode cX2_isGrantOf 19 = .ok (.invokevirtual 60, 3) := by decide +kernel
theorem dX2_isGrantOf_22 : decode cX2_isGrantOf 22 = .ok (.iload_n 3, 1) := by decide +kernel
theorem dX2_isGrantOf_23 : decode cX2_isGrantOf 23 = .ok (.if_icmp .ne 22, 3) := by decide +kernel
theorem dX2_isGrantOf_26 : decode cX2_isGrantOf 26 = .ok (.aload_n 0, 1) := by decide +kernel
theorem dX2_isGrantOf_27 : decode cX2_isGrantOf 27 = .ok (.getfield 23, 3) := by decide +kernel
theorem dX2_isGrantOf_30 : decode cX2_isGrantOf 30 = .ok (.iload_n 1, 1) := by decide +kernel
theorem dX2_isGrantOf_31 : decode cX2_isGrantOf 31 = .ok (.iconst 3, 1) := by decide +kernel
theorem dX2_isGrantOf_32 : decode cX2_isGrantOf 32 = .ok (.invokevirtual 60, 3) := by decide +kernel
theorem dX2_isGrantOf_35 : decode cX2_isGrantOf 35 = .ok (.iload 4, 2) := by decide +kernel
theorem dX2_isGrantOf_37 : decode cX2_isGrantOf 37 = .ok (.iand, 1) := by decide +kernel
theorem dX2_isGrantOf_38 : decode cX2_isGrantOf 38 = .ok (.ifCond .eq 7, 3) := by decide +kernel
theorem dX2_isGrantOf_41 : decode cX2_isGrantOf 41 = .ok (.iconst 1, 1) := by decide +kernel
theorem dX2_isGrantOf_42 : decode cX2_isGrantOf 42 = .ok (.goto 4, 3) := by decide +kernel
theorem dX2_isGrantOf_45 : decode cX2_isGrantOf 45 = .ok (.iconst 0, 1) := by decide +kernel
theorem dX2_isGrantOf_46 : decode cX2_isGrantOf 46 = .ok (.ireturn, 1) := by decide +kernel
set_option maxRecDepth 20000 in
theorem ggX2_settle_X3_rows : GoodIn wsX2_settle wsX3_rows := goodIn_r _ [8, 9, 34, 35, 36, 37] (by decide +kernel) (by decide +kernel)
set_option maxRecDepth 20000 in
theorem gX2_settle_X3_rows : GoodIn wsX2_settle (wsV RX2 104 RX3 yX3_rows wsX3_rows) := goodIn_app (goodIn_of _ (by decide +kernel)) ggX2_settle_X3_rows
set_option maxRecDepth 20000 in
theorem ggX2_settle_X3_at : GoodIn wsX2_settle wsX3_at := goodIn_r _ [13, 9, 14, 15, 34, 35, 36, 37] (by decide +kernel) (by decide +kernel)
set_option maxRecDepth 20000 in
theorem gX2_settle_X3_at : GoodIn wsX2_settle (wsV RX2 60 RX3 yX3_at wsX3_at) := goodIn_app (goodIn_of _ (by decide +kernel)) ggX2_settle_X3_at
set_option maxRecDepth 20000 in
theorem ggX2_settle_X3_put : GoodIn wsX2_settle wsX3_put := goodIn_r _ [19, 9, 14, 15, 34, 35, 36, 37] (by decide +kernel) (by decide +kernel)
set_option maxRecDepth 20000 in
theorem gX2_settle_X3_put : GoodIn wsX2_settle (wsV RX2 36 RX3 yX3_put wsX3_put) := goodIn_app (goodIn_of _ (by decide +kernel)) ggX2_settle_X3_put
set_option maxRecDepth 20000 in
theorem ggX2_settle_X2_passedOn : GoodIn wsX2_settle wsX2_passedOn := goodIn_r _ [24, 3, 2, 1, 10, 11, 12, 7, 13, 9, 14, 15, 25, 26, 27, 28, 29, 30, 31, 32, 33, 34, 35, 36, 37] (by decide +kernel) (by decide +kernel)
set_option maxRecDepth 20000 in
theorem gX2_settle_X2_passedOn : GoodIn wsX2_settle (wsV RX2 123 RX2 yX2_passedOn wsX2_passedOn) := goodIn_app (goodIn_of _ (by decide +kernel)) ggX2_settle_X2_passedOn
theorem dX2_settle_0 : decode cX2_settle 0 = .ok (.iconst 0, 1) := by decide +kernel
theorem dX2_settle_1 : decode cX2_settle 1 = .ok (.istore_n 1, 1) := by decide +kernel
theorem dX2_settle_2 : decode cX2_settle 2 = .ok (.iload_n 1, 1) := by decide +kernel
theorem dX2_settle_3 : decode cX2_settle 3 = .ok (.aload_n 0, 1) := by decide +kernel
theorem dX2_settle_4 : decode cX2_settle 4 = .ok (.getfield 20, 3) := by decide +kernel
theorem dX2_settle_7 : decode cX2_settle 7 = .ok (.invokevirtual 104, 3) := by decide +kernel
theorem dX2_settle_10 : decode cX2_settle 10 = .ok (.if_icmp .ge 51, 3) := by decide +kernel
theorem dX2_settle_13 : decode cX2_settle 13 = .ok (.iconst 0, 1) := by decide +kernel
theorem dX2_settle_14 : decode cX2_settle 14 = .ok (.istore_n 2, 1) := by decide +kernel
theorem dX2_settle_15 : decode cX2_settle 15 = .ok (.iload_n 2, 1) := by decide +kernel
theorem dX2_settle_16 : decode cX2_settle 16 = .ok (.bipush 10, 2) := by decide +kernel
theorem dX2_settle_18 : decode cX2_settle 18 = .ok (.if_icmp .ge 37, 3) := by decide +kernel
theorem dX2_settle_21 : decode cX2_settle 21 = .ok (.aload_n 0, 1) := by decide +kernel
theorem dX2_settle_22 : decode cX2_settle 22 = .ok (.getfield 29, 3) := by decide +kernel
theorem dX2_settle_25 : decode cX2_settle 25 = .ok (.iload_n 1, 1) := by decide +kernel
theorem dX2_settle_26 : decode cX2_settle 26 = .ok (.iload_n 2, 1) := by decide +kernel
theorem dX2_settle_27 : decode cX2_settle 27 = .ok (.iload_n 2, 1) := by decide +kernel
theorem dX2_settle_28 : decode cX2_settle 28 = .ok (.aload_n 0, 1) := by decide +kernel
theorem dX2_settle_29 : decode cX2_settle 29 = .ok (.getfield 20, 3) := by decide +kernel
theorem dX2_settle_32 : decode cX2_settle 32 = .ok (.iload_n 1, 1) := by decide +kernel
theorem dX2_settle_33 : decode cX2_settle 33 = .ok (.iconst 0, 1) := by decide +kernel
theorem dX2_settle_34 : decode cX2_settle 34 = .ok (.invokevirtual 60, 3) := by decide +kernel
theorem dX2_settle_37 : decode cX2_settle 37 = .ok (.if_icmp .ne 8, 3) := by decide +kernel
theorem dX2_settle_40 : decode cX2_settle 40 = .ok (.bipush 7, 2) := by decide +kernel
theorem dX2_settle_42 : decode cX2_settle 42 = .ok (.goto 4, 3) := by decide +kernel
theorem dX2_settle_45 : decode cX2_settle 45 = .ok (.iconst 0, 1) := by decide +kernel
theorem dX2_settle_46 : decode cX2_settle 46 = .ok (.invokevirtual 36, 3) := by decide +kernel
theorem dX2_settle_49 : decode cX2_settle 49 = .ok (.iinc 2 1, 3) := by decide +kernel
theorem dX2_settle_52 : decode cX2_settle 52 = .ok (.goto (-37), 3) := by decide +kernel
theorem dX2_settle_55 : decode cX2_settle 55 = .ok (.iinc 1 1, 3) := by decide +kernel
theorem dX2_settle_58 : decode cX2_settle 58 = .ok (.goto (-56), 3) := by decide +kernel
theorem dX2_settle_61 : decode cX2_settle 61 = .ok (.iconst 1, 1) := by decide +kernel
theorem dX2_settle_62 : decode cX2_settle 62 = .ok (.istore_n 1, 1) := by decide +kernel
theorem dX2_settle_63 : decode cX2_settle 63 = .ok (.iconst 0, 1) := by decide +kernel
theorem dX2_settle_64 : decode cX2_settle 64 = .ok (.istore_n 2, 1) := by decide +kernel
theorem dX2_settle_65 : decode cX2_settle 65 = .ok (.iload_n 2, 1) := by decide +kernel
theorem dX2_settle_66 : decode cX2_settle 66 = .ok (.sipush 241, 3) := by decide +kernel
theorem dX2_settle_69 : decode cX2_settle 69 = .ok (.if_icmp .ge 109, 3) := by decide +kernel
theorem dX2_settle_72 : decode cX2_settle 72 = .ok (.iload_n 1, 1) := by decide +kernel
theorem dX2_settle_73 : decode cX2_settle 73 = .ok (.ifCond .eq 105, 3) := by decide +kernel
theorem dX2_settle_76 : decode cX2_settle 76 = .ok (.iconst 0, 1) := by decide +kernel
theorem dX2_settle_77 : decode cX2_settle 77 = .ok (.istore_n 1, 1) := by decide +kernel
theorem dX2_settle_78 : decode cX2_settle 78 = .ok (.iconst 0, 1) := by decide +kernel
theorem dX2_settle_79 : decode cX2_settle 79 = .ok (.istore_n 3, 1) := by decide +kernel
theorem dX2_settle_80 : decode cX2_settle 80 = .ok (.iload_n 3, 1) := by decide +kernel
theorem dX2_settle_81 : decode cX2_settle 81 = .ok (.aload_n 0, 1) := by decide +kernel
theorem dX2_settle_82 : decode cX2_settle 82 = .ok (.getfield 23, 3) := by decide +kernel
theorem dX2_settle_85 : decode cX2_settle 85 = .ok (.invokevirtual 104, 3) := by decide +kernel
theorem dX2_settle_88 : decode cX2_settle 88 = .ok (.if_icmp .ge 84, 3) := by decide +kernel
theorem dX2_settle_91 : decode cX2_settle 91 = .ok (.aload_n 0, 1) := by decide +kernel
theorem dX2_settle_92 : decode cX2_settle 92 = .ok (.getfield 23, 3) := by decide +kernel
theorem dX2_settle_95 : decode cX2_settle 95 = .ok (.iload_n 3, 1) := by decide +kernel
theorem dX2_settle_96 : decode cX2_settle 96 = .ok (.iconst 2, 1) := by decide +kernel
theorem dX2_settle_97 : decode cX2_settle 97 = .ok (.invokevirtual 60, 3) := by decide +kernel
theorem dX2_settle_100 : decode cX2_settle 100 = .ok (.istore 4, 2) := by decide +kernel
theorem dX2_settle_102 : decode cX2_settle 102 = .ok (.aload_n 0, 1) := by decide +kernel
theorem dX2_settle_103 : decode cX2_settle 103 = .ok (.getfield 23, 3) := by decide +kernel
theorem dX2_settle_106 : decode cX2_settle 106 = .ok (.iload_n 3, 1) := by decide +kernel
theorem dX2_settle_107 : decode cX2_settle 107 = .ok (.iconst 1, 1) := by decide +kernel
theorem dX2_settle_108 : decode cX2_settle 108 = .ok (.invokevirtual 60, 3) := by decide +kernel
theorem dX2_settle_111 : decode cX2_settle 111 = .ok (.istore 5, 2) := by decide +kernel
theorem dX2_settle_113 : decode cX2_settle 113 = .ok (.aload_n 0, 1) := by decide +kernel
theorem dX2_settle_114 : decode cX2_settle 114 = .ok (.getfield 29, 3) := by decide +kernel
theorem dX2_settle_117 : decode cX2_settle 117 = .ok (.iload 4, 2) := by decide +kernel
theorem dX2_settle_119 : decode cX2_settle 119 = .ok (.iload 5, 2) := by decide +kernel
theorem dX2_settle_121 : decode cX2_settle 121 = .ok (.invokevirtual 60, 3) := by decide +kernel
theorem dX2_settle_124 : decode cX2_settle 124 = .ok (.istore 6, 2) := by decide +kernel
theorem dX2_settle_126 : decode cX2_settle 126 = .ok (.iload 6, 2) := by decide +kernel
theorem dX2_settle_128 : decode cX2_settle 128 = .ok (.aload_n 0, 1) := by decide +kernel
theorem dX2_settle_129 : decode cX2_settle 129 = .ok (.iload_n 3, 1) := by decide +kernel
theorem dX2_settle_130 : decode cX2_settle 130 = .ok (.invokevirtual 123, 3) := by decide +kernel
theorem dX2_settle_133 : decode cX2_settle 133 = .ok (.ior, 1) := by decide +kernel
theorem dX2_settle_134 : decode cX2_settle 134 = .ok (.istore 7, 2) := by decide +kernel
theorem dX2_settle_136 : decode cX2_settle 136 = .ok (.aload_n 0, 1) := by decide +kernel
theorem dX2_settle_137 : decode cX2_settle 137 = .ok (.getfield 29, 3) := by decide +kernel
theorem dX2_settle_140 : decode cX2_settle 140 = .ok (.iload 4, 2) := by decide +kernel
theorem dX2_settle_142 : decode cX2_settle 142 = .ok (.iload 5, 2) := by decide +kernel
theorem dX2_settle_144 : decode cX2_settle 144 = .ok (.iload 7, 2) := by decide +kernel
theorem dX2_settle_146 : decode cX2_settle 146 = .ok (.invokevirtual 36, 3) := by decide +kernel
theorem dX2_settle_149 : decode cX2_settle 149 = .ok (.iload_n 1, 1) := by decide +kernel
theorem dX2_settle_150 : decode cX2_settle 150 = .ok (.ifCond .ne 10, 3) := by decide +kernel
theorem dX2_settle_153 : decode cX2_settle 153 = .ok (.iload 7, 2) := by decide +kernel
theorem dX2_settle_155 : decode cX2_settle 155 = .ok (.iload 6, 2) := by decide +kernel
theorem dX2_settle_157 : decode cX2_settle 157 = .ok (.if_icmp .eq 7, 3) := by decide +kernel
theorem dX2_settle_160 : decode cX2_settle 160 = .ok (.iconst 1, 1) := by decide +kernel
theorem dX2_settle_161 : decode cX2_settle 161 = .ok (.goto 4, 3) := by decide +kernel
theorem dX2_settle_164 : decode cX2_settle 164 = .ok (.iconst 0, 1) := by decide +kernel
theorem dX2_settle_165 : decode cX2_settle 165 = .ok (.istore_n 1, 1) := by decide +kernel
theorem dX2_settle_166 : decode cX2_settle 166 = .ok (.iinc 3 1, 3) := by decide +kernel
theorem dX2_settle_169 : decode cX2_settle 169 = .ok (.goto (-89), 3) := by decide +kernel
theorem dX2_settle_172 : decode cX2_settle 172 = .ok (.iinc 2 1, 3) := by decide +kernel
theorem dX2_settle_175 : decode cX2_settle 175 = .ok (.goto (-110), 3) := by decide +kernel
theorem dX2_settle_178 : decode cX2_settle 178 = .ok (.return_, 1) := by decide +kernel
set_option maxRecDepth 20000 in
theorem ggX2_calm_X3_at : GoodIn wsX2_calm wsX3_at := goodIn_r _ [6, 7, 8, 9, 23, 24, 25, 26] (by decide +kernel) (by decide +kernel)
set_option maxRecDepth 20000 in
theorem gX2_calm_X3_at : GoodIn wsX2_calm (wsV RX2 60 RX3 yX3_at wsX3_at) := goodIn_app (goodIn_of _ (by decide +kernel)) ggX2_calm_X3_at
set_option maxRecDepth 20000 in
theorem ggX2_calm_X3_put : GoodIn wsX2_calm wsX3_put := goodIn_r _ [13, 7, 8, 9, 23, 24, 25, 26] (by decide +kernel) (by decide +kernel)
set_option maxRecDepth 20000 in
theorem gX2_calm_X3_put : GoodIn wsX2_calm (wsV RX2 36 RX3 yX3_put wsX3_put) := goodIn_app (goodIn_of _ (by decide +kernel)) ggX2_calm_X3_put
theorem dX2_calm_0 : decode cX2_calm 0 = .ok (.aload_n 0, 1) := by decide +kernel
theorem dX2_calm_1 : decode cX2_calm 1 = .ok (.getfield 14, 3) := by decide +kernel
theorem dX2_calm_4 : decode cX2_calm 4 = .ok (.iload_n 1, 1) := by decide +kernel
theorem dX2_calm_5 : decode cX2_calm 5 = .ok (.iconst 0, 1) := by decide +kernel
theorem dX2_calm_6 : decode cX2_calm 6 = .ok (.invokevirtual 60, 3) := by decide +kernel
theorem dX2_calm_9 : decode cX2_calm 9 = .ok (.istore_n 2, 1) := by decide +kernel
theorem dX2_calm_10 : decode cX2_calm 10 = .ok (.aload_n 0, 1) := by decide +kernel
theorem dX2_calm_11 : decode cX2_calm 11 = .ok (.getfield 14, 3) := by decide +kernel
theorem dX2_calm_14 : decode cX2_calm 14 = .ok (.iload_n 1, 1) := by decide +kernel
theorem dX2_calm_15 : decode cX2_calm 15 = .ok (.iconst 1, 1) := by decide +kernel
theorem dX2_calm_16 : decode cX2_calm 16 = .ok (.invokevirtual 60, 3) := by decide +kernel
theorem dX2_calm_19 : decode cX2_calm 19 = .ok (.istore_n 3, 1) := by decide +kernel
theorem dX2_calm_20 : decode cX2_calm 20 = .ok (.iload_n 2, 1) := by decide +kernel
theorem dX2_calm_21 : decode cX2_calm 21 = .ok (.iload_n 3, 1) := by decide +kernel
theorem dX2_calm_22 : decode cX2_calm 22 = .ok (.if_icmp .eq 26, 3) := by decide +kernel
theorem dX2_calm_25 : decode cX2_calm 25 = .ok (.aload_n 0, 1) := by decide +kernel
theorem dX2_calm_26 : decode cX2_calm 26 = .ok (.getfield 14, 3) := by decide +kernel
theorem dX2_calm_29 : decode cX2_calm 29 = .ok (.iload_n 1, 1) := by decide +kernel
theorem dX2_calm_30 : decode cX2_calm 30 = .ok (.iconst 0, 1) := by decide +kernel
theorem dX2_calm_31 : decode cX2_calm 31 = .ok (.iload_n 2, 1) := by decide +kernel
theorem dX2_calm_32 : decode cX2_calm 32 = .ok (.iload_n 3, 1) := by decide +kernel
theorem dX2_calm_33 : decode cX2_calm 33 = .ok (.if_icmp .ge 9, 3) := by decide +kernel
theorem dX2_calm_36 : decode cX2_calm 36 = .ok (.iload_n 2, 1) := by decide +kernel
theorem dX2_calm_37 : decode cX2_calm 37 = .ok (.iconst 1, 1) := by decide +kernel
theorem dX2_calm_38 : decode cX2_calm 38 = .ok (.iadd, 1) := by decide +kernel
theorem dX2_calm_39 : decode cX2_calm 39 = .ok (.goto 6, 3) := by decide +kernel
theorem dX2_calm_42 : decode cX2_calm 42 = .ok (.iload_n 2, 1) := by decide +kernel
theorem dX2_calm_43 : decode cX2_calm 43 = .ok (.iconst 1, 1) := by decide +kernel
theorem dX2_calm_44 : decode cX2_calm 44 = .ok (.isub, 1) := by decide +kernel
theorem dX2_calm_45 : decode cX2_calm 45 = .ok (.invokevirtual 36, 3) := by decide +kernel
theorem dX2_calm_48 : decode cX2_calm 48 = .ok (.return_, 1) := by decide +kernel
set_option maxRecDepth 20000 in
theorem ggX2_buryDying_X3_rows : GoodIn wsX2_buryDying wsX3_rows := goodIn_r _ [7, 8, 53, 54, 55, 56] (by decide +kernel) (by decide +kernel)
set_option maxRecDepth 20000 in
theorem gX2_buryDying_X3_rows : GoodIn wsX2_buryDying (wsV RX2 104 RX3 yX3_rows wsX3_rows) := goodIn_app (goodIn_of _ (by decide +kernel)) ggX2_buryDying_X3_rows
set_option maxRecDepth 20000 in
theorem ggX2_buryDying_X2_isDying : GoodIn wsX2_buryDying wsX2_isDying := goodIn_r _ [13, 14, 1, 15, 16, 17, 6, 18, 8, 19, 20, 44, 45, 46, 47, 48, 49, 50, 51, 52, 53, 54, 55, 56] (by decide +kernel) (by decide +kernel)
set_option maxRecDepth 20000 in
theorem gX2_buryDying_X2_isDying : GoodIn wsX2_buryDying (wsV RX2 133 RX2 yX2_isDying wsX2_isDying) := goodIn_app (goodIn_of _ (by decide +kernel)) ggX2_buryDying_X2_isDying
set_option maxRecDepth 20000 in
theorem ggX2_buryDying_X2_enter : GoodIn wsX2_buryDying wsX2_enter := goodIn_r _ [24, 25, 1, 26, 27, 28, 29, 6, 30, 8, 31, 32, 33, 34, 35, 19, 20, 36, 37, 38, 39, 15, 16, 17, 18, 40, 41, 42, 43, 44, 45, 46, 47, 48, 49, 50, 51, 52, 53, 54, 55, 56] (by decide +kernel) (by decide +kernel)
set_option maxRecDepth 20000 in
theorem gX2_buryDying_X2_enter : GoodIn wsX2_buryDying (wsV RX2 136 RX2 yX2_enter wsX2_enter) := goodIn_app (goodIn_of _ (by decide +kernel)) ggX2_buryDying_X2_enter
set_option maxRecDepth 20000 in
theorem ggX2_buryDying_X3_drop : GoodIn wsX2_buryDying wsX3_drop := goodIn_r _ [35, 8, 19, 20, 53, 54, 55, 56] (by decide +kernel) (by decide +kernel)
set_option maxRecDepth 20000 in
theorem gX2_buryDying_X3_drop : GoodIn wsX2_buryDying (wsV RX2 85 RX3 yX3_drop wsX3_drop) := goodIn_app (goodIn_of _ (by decide +kernel)) ggX2_buryDying_X3_drop
theorem dX2_buryDying_0 : decode cX2_buryDying 0 = .ok (.iconst 0, 1) := by decide +kernel
theorem dX2_buryDying_1 : decode cX2_buryDying 1 = .ok (.istore_n 1, 1) := by decide +kernel
theorem dX2_buryDying_2 : decode cX2_buryDying 2 = .ok (.iconst 0, 1) := by decide +kernel
theorem dX2_buryDying_3 : decode cX2_buryDying 3 = .ok (.istore_n 2, 1) := by decide +kernel
theorem dX2_buryDying_4 : decode cX2_buryDying 4 = .ok (.iload_n 2, 1) := by decide +kernel
theorem dX2_buryDying_5 : decode cX2_buryDying 5 = .ok (.aload_n 0, 1) := by decide +kernel
theorem dX2_buryDying_6 : decode cX2_buryDying 6 = .ok (.getfield 23, 3) := by decide +kernel
theorem dX2_buryDying_9 : decode cX2_buryDying 9 = .ok (.invokevirtual 104, 3) := by decide +kernel
theorem dX2_buryDying_12 : decode cX2_buryDying 12 = .ok (.if_icmp .ge 25, 3) := by decide +kernel
theorem dX2_buryDying_15 : decode cX2_buryDying 15 = .ok (.aload_n 0, 1) := by decide +kernel
theorem dX2_buryDying_16 : decode cX2_buryDying 16 = .ok (.iload_n 2, 1) := by decide +kernel
theorem dX2_buryDying_17 : decode cX2_buryDying 17 = .ok (.invokevirtual 133, 3) := by decide +kernel
theorem dX2_buryDying_20 : decode cX2_buryDying 20 = .ok (.ifCond .eq 11, 3) := by decide +kernel
theorem dX2_buryDying_23 : decode cX2_buryDying 23 = .ok (.aload_n 0, 1) := by decide +kernel
theorem dX2_buryDying_24 : decode cX2_buryDying 24 = .ok (.iload_n 2, 1) := by decide +kernel
theorem dX2_buryDying_25 : decode cX2_buryDying 25 = .ok (.invokevirtual 136, 3) := by decide +kernel
theorem dX2_buryDying_28 : decode cX2_buryDying 28 = .ok (.iinc 1 1, 3) := by decide +kernel
theorem dX2_buryDying_31 : decode cX2_buryDying 31 = .ok (.iinc 2 1, 3) := by decide +kernel
theorem dX2_buryDying_34 : decode cX2_buryDying 34 = .ok (.goto (-30), 3) := by decide +kernel
theorem dX2_buryDying_37 : decode cX2_buryDying 37 = .ok (.aload_n 0, 1) := by decide +kernel
theorem dX2_buryDying_38 : decode cX2_buryDying 38 = .ok (.getfield 23, 3) := by decide +kernel
theorem dX2_buryDying_41 : decode cX2_buryDying 41 = .ok (.invokevirtual 104, 3) := by decide +kernel
theorem dX2_buryDying_44 : decode cX2_buryDying 44 = .ok (.iconst 1, 1) := by decide +kernel
theorem dX2_buryDying_45 : decode cX2_buryDying 45 = .ok (.isub, 1) := by decide +kernel
theorem dX2_buryDying_46 : decode cX2_buryDying 46 = .ok (.istore_n 2, 1) := by decide +kernel
theorem dX2_buryDying_47 : decode cX2_buryDying 47 = .ok (.iload_n 2, 1) := by decide +kernel
theorem dX2_buryDying_48 : decode cX2_buryDying 48 = .ok (.ifCond .lt 29, 3) := by decide +kernel
theorem dX2_buryDying_51 : decode cX2_buryDying 51 = .ok (.iload_n 1, 1) := by decide +kernel
theorem dX2_buryDying_52 : decode cX2_buryDying 52 = .ok (.ifCond .le 25, 3) := by decide +kernel
theorem dX2_buryDying_55 : decode cX2_buryDying 55 = .ok (.aload_n 0, 1) := by decide +kernel
theorem dX2_buryDying_56 : decode cX2_buryDying 56 = .ok (.iload_n 2, 1) := by decide +kernel
theorem dX2_buryDying_57 : decode cX2_buryDying 57 = .ok (.invokevirtual 133, 3) := by decide +kernel
theorem dX2_buryDying_60 : decode cX2_buryDying 60 = .ok (.ifCond .eq 11, 3) := by decide +kernel
theorem dX2_buryDying_63 : decode cX2_buryDying 63 = .ok (.aload_n 0, 1) := by decide +kernel
theorem dX2_buryDying_64 : decode cX2_buryDying 64 = .ok (.getfield 23, 3) := by decide +kernel
theorem dX2_buryDying_67 : decode cX2_buryDying 67 = .ok (.iload_n 2, 1) := by decide +kernel
theorem dX2_buryDying_68 : decode cX2_buryDying 68 = .ok (.invokevirtual 85, 3) := by decide +kernel
theorem dX2_buryDying_71 : decode cX2_buryDying 71 = .ok (.iinc 2 (-1), 3) := by decide +kernel
theorem dX2_buryDying_74 : decode cX2_buryDying 74 = .ok (.goto (-27), 3) := by decide +kernel
theorem dX2_buryDying_77 : decode cX2_buryDying 77 = .ok (.aload_n 0, 1) := by decide +kernel
theorem dX2_buryDying_78 : decode cX2_buryDying 78 = .ok (.dup, 1) := by decide +kernel
theorem dX2_buryDying_79 : decode cX2_buryDying 79 = .ok (.getfield 48, 3) := by decide +kernel
theorem dX2_buryDying_82 : decode cX2_buryDying 82 = .ok (.iload_n 1, 1) := by decide +kernel
theorem dX2_buryDying_83 : decode cX2_buryDying 83 = .ok (.iadd, 1) := by decide +kernel
theorem dX2_buryDying_84 : decode cX2_buryDying 84 = .ok (.putfield 48, 3) := by decide +kernel
theorem dX2_buryDying_87 : decode cX2_buryDying 87 = .ok (.iload_n 1, 1) := by decide +kernel
theorem dX2_buryDying_88 : decode cX2_buryDying 88 = .ok (.ireturn, 1) := by decide +kernel
set_option maxRecDepth 20000 in
theorem ggX2_isDying_X3_at : GoodIn wsX2_isDying wsX3_at := goodIn_r _ [7, 8, 9, 10, 20, 21, 22, 23] (by decide +kernel) (by decide +kernel)
set_option maxRecDepth 20000 in
theorem gX2_isDying_X3_at : GoodIn wsX2_isDying (wsV RX2 60 RX3 yX3_at wsX3_at) := goodIn_app (goodIn_of _ (by decide +kernel)) ggX2_isDying_X3_at
theorem dX2_isDying_0 : decode cX2_isDying 0 = .ok (.aload_n 0, 1) := by decide +kernel
theorem dX2_isDying_1 : decode cX2_isDying 1 = .ok (.getfield 14, 3) := by decide +kernel
theorem dX2_isDying_4 : decode cX2_isDying 4 = .ok (.aload_n 0, 1) := by decide +kernel
theorem dX2_isDying_5 : decode cX2_isDying 5 = .ok (.getfield 23, 3) := by decide +kernel
theorem dX2_isDying_8 : decode cX2_isDying 8 = .ok (.iload_n 1, 1) := by decide +kernel
theorem dX2_isDying_9 : decode cX2_isDying 9 = .ok (.iconst 0, 1) := by decide +kernel
theorem dX2_isDying_10 : decode cX2_isDying 10 = .ok (.invokevirtual 60, 3) := by decide +kernel
theorem dX2_isDying_13 : decode cX2_isDying 13 = .ok (.iconst 0, 1) := by decide +kernel
theorem dX2_isDying_14 : decode cX2_isDying 14 = .ok (.invokevirtual 60, 3) := by decide +kernel
theorem dX2_isDying_17 : decode cX2_isDying 17 = .ok (.aload_n 0, 1) := by decide +kernel
theorem dX2_isDying_18 : decode cX2_isDying 18 = .ok (.getfield 23, 3) := by decide +kernel
theorem dX2_isDying_21 : decode cX2_isDying 21 = .ok (.iload_n 1, 1) := by decide +kernel
theorem dX2_isDying_22 : decode cX2_isDying 22 = .ok (.iconst 4, 1) := by decide +kernel
theorem dX2_isDying_23 : decode cX2_isDying 23 = .ok (.invokevirtual 60, 3) := by decide +kernel
theorem dX2_isDying_26 : decode cX2_isDying 26 = .ok (.if_icmp .ge 7, 3) := by decide +kernel
theorem dX2_isDying_29 : decode cX2_isDying 29 = .ok (.iconst 1, 1) := by decide +kernel
theorem dX2_isDying_30 : decode cX2_isDying 30 = .ok (.goto 4, 3) := by decide +kernel
theorem dX2_isDying_33 : decode cX2_isDying 33 = .ok (.iconst 0, 1) := by decide +kernel
theorem dX2_isDying_34 : decode cX2_isDying 34 = .ok (.ireturn, 1) := by decide +kernel
set_option maxRecDepth 20000 in
theorem ggX2_enter_X3_isFull : GoodIn wsX2_enter wsX3_isFull := goodIn_r _ [8, 9, 10, 38, 39, 40, 41] (by decide +kernel) (by decide +kernel)
set_option maxRecDepth 20000 in
theorem gX2_enter_X3_isFull : GoodIn wsX2_enter (wsV RX2 78 RX3 yX3_isFull wsX3_isFull) := goodIn_app (goodIn_of _ (by decide +kernel)) ggX2_enter_X3_isFull
set_option maxRecDepth 20000 in
theorem ggX2_enter_X3_drop : GoodIn wsX2_enter wsX3_drop := goodIn_r _ [14, 9, 15, 16, 38, 39, 40, 41] (by decide +kernel) (by decide +kernel)
set_option maxRecDepth 20000 in
theorem gX2_enter_X3_drop : GoodIn wsX2_enter (wsV RX2 85 RX3 yX3_drop wsX3_drop) := goodIn_app (goodIn_of _ (by decide +kernel)) ggX2_enter_X3_drop
set_option maxRecDepth 20000 in
theorem ggX2_enter_X3_addRow : GoodIn wsX2_enter wsX3_addRow := goodIn_r _ [20, 9, 10, 38, 39, 40, 41] (by decide +kernel) (by decide +kernel)
set_option maxRecDepth 20000 in
theorem gX2_enter_X3_addRow : GoodIn wsX2_enter (wsV RX2 32 RX3 yX3_addRow wsX3_addRow) := goodIn_app (goodIn_of _ (by decide +kernel)) ggX2_enter_X3_addRow
set_option maxRecDepth 20000 in
theorem ggX2_enter_X3_at : GoodIn wsX2_enter wsX3_at := goodIn_r _ [24, 9, 15, 16, 38, 39, 40, 41] (by decide +kernel) (by decide +kernel)
set_option maxRecDepth 20000 in
theorem gX2_enter_X3_at : GoodIn wsX2_enter (wsV RX2 60 RX3 yX3_at wsX3_at) := goodIn_app (goodIn_of _ (by decide +kernel)) ggX2_enter_X3_at
