set_option maxRecDepth 20000 in
theorem ggX2_faultOfGrant_X5_isBetween : GoodIn wsX2_faultOfGrant wsX5_isBetween := goodIn_r _ [9] (by decide +kernel) (by decide +kernel)
set_option maxRecDepth 20000 in
theorem gX2_faultOfGrant_X5_isBetween_n71 : GoodIn wsX2_faultOfGrant (wsX5_isBetween) := ggX2_faultOfGrant_X5_isBetween
set_option maxRecDepth 20000 in
theorem ggX2_faultOfGrant_X2_rightsOf : GoodIn wsX2_faultOfGrant wsX2_rightsOf := goodIn_r _ [20, 21, 22, 23, 24, 13, 25, 15, 26, 27, 33, 34, 35, 36, 37, 38, 39, 40, 41, 42, 43, 44, 45] (by decide +kernel) (by decide +kernel)
set_option maxRecDepth 20000 in
theorem gX2_faultOfGrant_X2_rightsOf : GoodIn wsX2_faultOfGrant (wsV RX2 75 RX2 yX2_rightsOf wsX2_rightsOf) := goodIn_app (goodIn_of _ (by decide +kernel)) ggX2_faultOfGrant_X2_rightsOf
set_option maxRecDepth 20000 in
theorem ggX2_faultOfGrant_X3_at : GoodIn wsX2_faultOfGrant wsX3_at := goodIn_r _ [25, 15, 26, 27, 42, 43, 44, 45] (by decide +kernel) (by decide +kernel)
set_option maxRecDepth 20000 in
theorem gX2_faultOfGrant_X3_at : GoodIn wsX2_faultOfGrant (wsV RX2 60 RX3 yX3_at wsX3_at) := goodIn_app (goodIn_of _ (by decide +kernel)) ggX2_faultOfGrant_X3_at
set_option maxRecDepth 20000 in
theorem ggX2_faultOfGrant_X3_isFull : GoodIn wsX2_faultOfGrant wsX3_isFull := goodIn_r _ [31, 15, 32, 42, 43, 44, 45] (by decide +kernel) (by decide +kernel)
set_option maxRecDepth 20000 in
theorem gX2_faultOfGrant_X3_isFull : GoodIn wsX2_faultOfGrant (wsV RX2 78 RX3 yX3_isFull wsX3_isFull) := goodIn_app (goodIn_of _ (by decide +kernel)) ggX2_faultOfGrant_X3_isFull
theorem dX2_faultOfGrant_0 : decode cX2_faultOfGrant 0 = .ok (.iload_n 1, 1) := by decide +kernel
theorem dX2_faultOfGrant_1 : decode cX2_faultOfGrant 1 = .ok (.invokestatic 64, 3) := by decide +kernel
theorem dX2_faultOfGrant_4 : decode cX2_faultOfGrant 4 = .ok (.ifCond .eq 21, 3) := by decide +kernel
theorem dX2_faultOfGrant_7 : decode cX2_faultOfGrant 7 = .ok (.iload_n 2, 1) := by decide +kernel
theorem dX2_faultOfGrant_8 : decode cX2_faultOfGrant 8 = .ok (.invokestatic 64, 3) := by decide +kernel
theorem dX2_faultOfGrant_11 : decode cX2_faultOfGrant 11 = .ok (.ifCond .eq 14, 3) := by decide +kernel
theorem dX2_faultOfGrant_14 : decode cX2_faultOfGrant 14 = .ok (.aload_n 0, 1) := by decide +kernel
theorem dX2_faultOfGrant_15 : decode cX2_faultOfGrant 15 = .ok (.getfield 20, 3) := by decide +kernel
theorem dX2_faultOfGrant_18 : decode cX2_faultOfGrant 18 = .ok (.iload_n 3, 1) := by decide +kernel
theorem dX2_faultOfGrant_19 : decode cX2_faultOfGrant 19 = .ok (.invokevirtual 68, 3) := by decide +kernel
theorem dX2_faultOfGrant_22 : decode cX2_faultOfGrant 22 = .ok (.ifCond .ne 5, 3) := by decide +kernel
theorem dX2_faultOfGrant_25 : decode cX2_faultOfGrant 25 = .ok (.iconst 1, 1) := by decide +kernel
theorem dX2_faultOfGrant_26 : decode cX2_faultOfGrant 26 = .ok (.ireturn, 1) := by decide +kernel
theorem dX2_faultOfGrant_27 : decode cX2_faultOfGrant 27 = .ok (.iload 4, 2) := by decide +kernel
theorem dX2_faultOfGrant_29 : decode cX2_faultOfGrant 29 = .ok (.iconst 1, 1) := by decide +kernel
theorem dX2_faultOfGrant_30 : decode cX2_faultOfGrant 30 = .ok (.bipush 7, 2) := by decide +kernel
theorem dX2_faultOfGrant_32 : decode cX2_faultOfGrant 32 = .ok (.invokestatic 71, 3) := by decide +kernel
theorem dX2_faultOfGrant_35 : decode cX2_faultOfGrant 35 = .ok (.ifCond .eq 18, 3) := by decide +kernel
theorem dX2_faultOfGrant_38 : decode cX2_faultOfGrant 38 = .ok (.iload 5, 2) := by decide +kernel
theorem dX2_faultOfGrant_40 : decode cX2_faultOfGrant 40 = .ok (.iconst 0, 1) := by decide +kernel
theorem dX2_faultOfGrant_41 : decode cX2_faultOfGrant 41 = .ok (.bipush 100, 2) := by decide +kernel
theorem dX2_faultOfGrant_43 : decode cX2_faultOfGrant 43 = .ok (.invokestatic 71, 3) := by decide +kernel
theorem dX2_faultOfGrant_46 : decode cX2_faultOfGrant 46 = .ok (.ifCond .eq 7, 3) := by decide +kernel
theorem dX2_faultOfGrant_49 : decode cX2_faultOfGrant 49 = .ok (.iconst 1, 1) := by decide +kernel
theorem dX2_faultOfGrant_50 : decode cX2_faultOfGrant 50 = .ok (.goto 4, 3) := by decide +kernel
theorem dX2_faultOfGrant_53 : decode cX2_faultOfGrant 53 = .ok (.iconst 0, 1) := by decide +kernel
theorem dX2_faultOfGrant_54 : decode cX2_faultOfGrant 54 = .ok (.istore 6, 2) := by decide +kernel
theorem dX2_faultOfGrant_56 : decode cX2_faultOfGrant 56 = .ok (.iload 6, 2) := by decide +kernel
theorem dX2_faultOfGrant_58 : decode cX2_faultOfGrant 58 = .ok (.ifCond .eq 8, 3) := by decide +kernel
theorem dX2_faultOfGrant_61 : decode cX2_faultOfGrant 61 = .ok (.iload_n 1, 1) := by decide +kernel
theorem dX2_faultOfGrant_62 : decode cX2_faultOfGrant 62 = .ok (.iload_n 2, 1) := by decide +kernel
theorem dX2_faultOfGrant_63 : decode cX2_faultOfGrant 63 = .ok (.if_icmp .ne 5, 3) := by decide +kernel
theorem dX2_faultOfGrant_66 : decode cX2_faultOfGrant 66 = .ok (.iconst 2, 1) := by decide +kernel
theorem dX2_faultOfGrant_67 : decode cX2_faultOfGrant 67 = .ok (.ireturn, 1) := by decide +kernel
theorem dX2_faultOfGrant_68 : decode cX2_faultOfGrant 68 = .ok (.iload 4, 2) := by decide +kernel
theorem dX2_faultOfGrant_70 : decode cX2_faultOfGrant 70 = .ok (.iconst 4, 1) := by decide +kernel
theorem dX2_faultOfGrant_71 : decode cX2_faultOfGrant 71 = .ok (.ior, 1) := by decide +kernel
theorem dX2_faultOfGrant_72 : decode cX2_faultOfGrant 72 = .ok (.istore 7, 2) := by decide +kernel
theorem dX2_faultOfGrant_74 : decode cX2_faultOfGrant 74 = .ok (.aload_n 0, 1) := by decide +kernel
theorem dX2_faultOfGrant_75 : decode cX2_faultOfGrant 75 = .ok (.iload_n 1, 1) := by decide +kernel
theorem dX2_faultOfGrant_76 : decode cX2_faultOfGrant 76 = .ok (.iload_n 3, 1) := by decide +kernel
theorem dX2_faultOfGrant_77 : decode cX2_faultOfGrant 77 = .ok (.invokevirtual 75, 3) := by decide +kernel
theorem dX2_faultOfGrant_80 : decode cX2_faultOfGrant 80 = .ok (.iload 7, 2) := by decide +kernel
theorem dX2_faultOfGrant_82 : decode cX2_faultOfGrant 82 = .ok (.iand, 1) := by decide +kernel
theorem dX2_faultOfGrant_83 : decode cX2_faultOfGrant 83 = .ok (.iload 7, 2) := by decide +kernel
theorem dX2_faultOfGrant_85 : decode cX2_faultOfGrant 85 = .ok (.if_icmp .ne 7, 3) := by decide +kernel
theorem dX2_faultOfGrant_88 : decode cX2_faultOfGrant 88 = .ok (.iconst 1, 1) := by decide +kernel
theorem dX2_faultOfGrant_89 : decode cX2_faultOfGrant 89 = .ok (.goto 4, 3) := by decide +kernel
theorem dX2_faultOfGrant_92 : decode cX2_faultOfGrant 92 = .ok (.iconst 0, 1) := by decide +kernel
theorem dX2_faultOfGrant_93 : decode cX2_faultOfGrant 93 = .ok (.istore 8, 2) := by decide +kernel
theorem dX2_faultOfGrant_95 : decode cX2_faultOfGrant 95 = .ok (.aload_n 0, 1) := by decide +kernel
theorem dX2_faultOfGrant_96 : decode cX2_faultOfGrant 96 = .ok (.getfield 14, 3) := by decide +kernel
theorem dX2_faultOfGrant_99 : decode cX2_faultOfGrant 99 = .ok (.iload_n 1, 1) := by decide +kernel
theorem dX2_faultOfGrant_100 : decode cX2_faultOfGrant 100 = .ok (.iconst 0, 1) := by decide +kernel
theorem dX2_faultOfGrant_101 : decode cX2_faultOfGrant 101 = .ok (.invokevirtual 60, 3) := by decide +kernel
theorem dX2_faultOfGrant_104 : decode cX2_faultOfGrant 104 = .ok (.iload 5, 2) := by decide +kernel
theorem dX2_faultOfGrant_106 : decode cX2_faultOfGrant 106 = .ok (.if_icmp .lt 7, 3) := by decide +kernel
theorem dX2_faultOfGrant_109 : decode cX2_faultOfGrant 109 = .ok (.iconst 1, 1) := by decide +kernel
theorem dX2_faultOfGrant_110 : decode cX2_faultOfGrant 110 = .ok (.goto 4, 3) := by decide +kernel
theorem dX2_faultOfGrant_113 : decode cX2_faultOfGrant 113 = .ok (.iconst 0, 1) := by decide +kernel
theorem dX2_faultOfGrant_114 : decode cX2_faultOfGrant 114 = .ok (.istore 9, 2) := by decide +kernel
theorem dX2_faultOfGrant_116 : decode cX2_faultOfGrant 116 = .ok (.iload 8, 2) := by decide +kernel
theorem dX2_faultOfGrant_118 : decode cX2_faultOfGrant 118 = .ok (.ifCond .eq 22, 3) := by decide +kernel
theorem dX2_faultOfGrant_121 : decode cX2_faultOfGrant 121 = .ok (.iload 9, 2) := by decide +kernel
theorem dX2_faultOfGrant_123 : decode cX2_faultOfGrant 123 = .ok (.ifCond .eq 17, 3) := by decide +kernel
theorem dX2_faultOfGrant_126 : decode cX2_faultOfGrant 126 = .ok (.aload_n 0, 1) := by decide +kernel
theorem dX2_faultOfGrant_127 : decode cX2_faultOfGrant 127 = .ok (.getfield 23, 3) := by decide +kernel
theorem dX2_faultOfGrant_130 : decode cX2_faultOfGrant 130 = .ok (.invokevirtual 78, 3) := by decide +kernel
theorem dX2_faultOfGrant_133 : decode cX2_faultOfGrant 133 = .ok (.ifCond .ne 7, 3) := by decide +kernel
theorem dX2_faultOfGrant_136 : decode cX2_faultOfGrant 136 = .ok (.iconst 0, 1) := by decide +kernel
theorem dX2_faultOfGrant_137 : decode cX2_faultOfGrant 137 = .ok (.goto 4, 3) := by decide +kernel
theorem dX2_faultOfGrant_140 : decode cX2_faultOfGrant 140 = .ok (.iconst 3, 1) := by decide +kernel
theorem dX2_faultOfGrant_141 : decode cX2_faultOfGrant 141 = .ok (.ireturn, 1) := by decide +kernel
set_option maxRecDepth 20000 in
theorem ggX2_lend_X3_addRow : GoodIn wsX2_lend wsX3_addRow := goodIn_r _ [7, 8, 9, 44, 45, 46, 47] (by decide +kernel) (by decide +kernel)
set_option maxRecDepth 20000 in
theorem gX2_lend_X3_addRow : GoodIn wsX2_lend (wsV RX2 32 RX3 yX3_addRow wsX3_addRow) := goodIn_app (goodIn_of _ (by decide +kernel)) ggX2_lend_X3_addRow
set_option maxRecDepth 20000 in
theorem ggX2_lend_X3_put : GoodIn wsX2_lend wsX3_put := goodIn_r _ [13, 8, 14, 15, 44, 45, 46, 47] (by decide +kernel) (by decide +kernel)
set_option maxRecDepth 20000 in
theorem gX2_lend_X3_put : GoodIn wsX2_lend (wsV RX2 36 RX3 yX3_put wsX3_put) := goodIn_app (goodIn_of _ (by decide +kernel)) ggX2_lend_X3_put
set_option maxRecDepth 20000 in
theorem ggX2_lend_X2_settle : GoodIn wsX2_lend wsX2_settle := goodIn_r _ [20, 21, 22, 2, 23, 24, 25, 6, 26, 8, 27, 28, 29, 30, 14, 15, 10, 11, 12, 13, 31, 32, 33, 19, 34, 35, 36, 37, 38, 39, 40, 41, 42, 43, 44, 45, 46, 47] (by decide +kernel) (by decide +kernel)
set_option maxRecDepth 20000 in
theorem gX2_lend_X2_settle : GoodIn wsX2_lend (wsV RX2 57 RX2 yX2_settle wsX2_settle) := goodIn_app (goodIn_of _ (by decide +kernel)) ggX2_lend_X2_settle
theorem dX2_lend_0 : decode cX2_lend 0 = .ok (.aload_n 0, 1) := by decide +kernel
theorem dX2_lend_1 : decode cX2_lend 1 = .ok (.getfield 44, 3) := by decide +kernel
theorem dX2_lend_4 : decode cX2_lend 4 = .ok (.istore 6, 2) := by decide +kernel
theorem dX2_lend_6 : decode cX2_lend 6 = .ok (.aload_n 0, 1) := by decide +kernel
theorem dX2_lend_7 : decode cX2_lend 7 = .ok (.getfield 23, 3) := by decide +kernel
theorem dX2_lend_10 : decode cX2_lend 10 = .ok (.invokevirtual 32, 3) := by decide +kernel
theorem dX2_lend_13 : decode cX2_lend 13 = .ok (.istore 7, 2) := by decide +kernel
theorem dX2_lend_15 : decode cX2_lend 15 = .ok (.aload_n 0, 1) := by decide +kernel
theorem dX2_lend_16 : decode cX2_lend 16 = .ok (.getfield 23, 3) := by decide +kernel
theorem dX2_lend_19 : decode cX2_lend 19 = .ok (.iload 7, 2) := by decide +kernel
theorem dX2_lend_21 : decode cX2_lend 21 = .ok (.iconst 0, 1) := by decide +kernel
theorem dX2_lend_22 : decode cX2_lend 22 = .ok (.iload_n 1, 1) := by decide +kernel
theorem dX2_lend_23 : decode cX2_lend 23 = .ok (.invokevirtual 36, 3) := by decide +kernel
theorem dX2_lend_26 : decode cX2_lend 26 = .ok (.aload_n 0, 1) := by decide +kernel
theorem dX2_lend_27 : decode cX2_lend 27 = .ok (.getfield 23, 3) := by decide +kernel
theorem dX2_lend_30 : decode cX2_lend 30 = .ok (.iload 7, 2) := by decide +kernel
theorem dX2_lend_32 : decode cX2_lend 32 = .ok (.iconst 1, 1) := by decide +kernel
theorem dX2_lend_33 : decode cX2_lend 33 = .ok (.iload_n 2, 1) := by decide +kernel
theorem dX2_lend_34 : decode cX2_lend 34 = .ok (.invokevirtual 36, 3) := by decide +kernel
theorem dX2_lend_37 : decode cX2_lend 37 = .ok (.aload_n 0, 1) := by decide +kernel
theorem dX2_lend_38 : decode cX2_lend 38 = .ok (.getfield 23, 3) := by decide +kernel
theorem dX2_lend_41 : decode cX2_lend 41 = .ok (.iload 7, 2) := by decide +kernel
theorem dX2_lend_43 : decode cX2_lend 43 = .ok (.iconst 2, 1) := by decide +kernel
theorem dX2_lend_44 : decode cX2_lend 44 = .ok (.iload_n 3, 1) := by decide +kernel
theorem dX2_lend_45 : decode cX2_lend 45 = .ok (.invokevirtual 36, 3) := by decide +kernel
theorem dX2_lend_48 : decode cX2_lend 48 = .ok (.aload_n 0, 1) := by decide +kernel
theorem dX2_lend_49 : decode cX2_lend 49 = .ok (.getfield 23, 3) := by decide +kernel
theorem dX2_lend_52 : decode cX2_lend 52 = .ok (.iload 7, 2) := by decide +kernel
theorem dX2_lend_54 : decode cX2_lend 54 = .ok (.iconst 3, 1) := by decide +kernel
theorem dX2_lend_55 : decode cX2_lend 55 = .ok (.iload 4, 2) := by decide +kernel
theorem dX2_lend_57 : decode cX2_lend 57 = .ok (.invokevirtual 36, 3) := by decide +kernel
theorem dX2_lend_60 : decode cX2_lend 60 = .ok (.aload_n 0, 1) := by decide +kernel
theorem dX2_lend_61 : decode cX2_lend 61 = .ok (.getfield 23, 3) := by decide +kernel
theorem dX2_lend_64 : decode cX2_lend 64 = .ok (.iload 7, 2) := by decide +kernel
theorem dX2_lend_66 : decode cX2_lend 66 = .ok (.iconst 4, 1) := by decide +kernel
theorem dX2_lend_67 : decode cX2_lend 67 = .ok (.iload 5, 2) := by decide +kernel
theorem dX2_lend_69 : decode cX2_lend 69 = .ok (.invokevirtual 36, 3) := by decide +kernel
theorem dX2_lend_72 : decode cX2_lend 72 = .ok (.aload_n 0, 1) := by decide +kernel
theorem dX2_lend_73 : decode cX2_lend 73 = .ok (.getfield 23, 3) := by decide +kernel
theorem dX2_lend_76 : decode cX2_lend 76 = .ok (.iload 7, 2) := by decide +kernel
theorem dX2_lend_78 : decode cX2_lend 78 = .ok (.iconst 5, 1) := by decide +kernel
theorem dX2_lend_79 : decode cX2_lend 79 = .ok (.iload 6, 2) := by decide +kernel
theorem dX2_lend_81 : decode cX2_lend 81 = .ok (.invokevirtual 36, 3) := by decide +kernel
theorem dX2_lend_84 : decode cX2_lend 84 = .ok (.aload_n 0, 1) := by decide +kernel
theorem dX2_lend_85 : decode cX2_lend 85 = .ok (.dup, 1) := by decide +kernel
theorem dX2_lend_86 : decode cX2_lend 86 = .ok (.getfield 44, 3) := by decide +kernel
theorem dX2_lend_89 : decode cX2_lend 89 = .ok (.iconst 1, 1) := by decide +kernel
theorem dX2_lend_90 : decode cX2_lend 90 = .ok (.iadd, 1) := by decide +kernel
theorem dX2_lend_91 : decode cX2_lend 91 = .ok (.putfield 44, 3) := by decide +kernel
theorem dX2_lend_94 : decode cX2_lend 94 = .ok (.aload_n 0, 1) := by decide +kernel
theorem dX2_lend_95 : decode cX2_lend 95 = .ok (.invokevirtual 57, 3) := by decide +kernel
theorem dX2_lend_98 : decode cX2_lend 98 = .ok (.iload 6, 2) := by decide +kernel
theorem dX2_lend_100 : decode cX2_lend 100 = .ok (.ireturn, 1) := by decide +kernel
set_option maxRecDepth 20000 in
theorem ggX2_changeMood_X3_at : GoodIn wsX2_changeMood wsX3_at := goodIn_r _ [13, 14, 15, 16, 74, 75, 76, 77] (by decide +kernel) (by decide +kernel)
set_option maxRecDepth 20000 in
theorem gX2_changeMood_X3_at : GoodIn wsX2_changeMood (wsV RX2 60 RX3 yX3_at wsX3_at) := goodIn_app (goodIn_of _ (by decide +kernel)) ggX2_changeMood_X3_at
set_option maxRecDepth 20000 in
theorem ggX2_changeMood_X3_put : GoodIn wsX2_changeMood wsX3_put := goodIn_r _ [20, 14, 15, 16, 74, 75, 76, 77] (by decide +kernel) (by decide +kernel)
set_option maxRecDepth 20000 in
theorem gX2_changeMood_X3_put : GoodIn wsX2_changeMood (wsV RX2 36 RX3 yX3_put wsX3_put) := goodIn_app (goodIn_of _ (by decide +kernel)) ggX2_changeMood_X3_put
set_option maxRecDepth 20000 in
theorem ggX2_changeMood_X2_buryDying : GoodIn wsX2_changeMood wsX2_buryDying := goodIn_r _ [25, 26, 27, 28, 29, 30, 12, 31, 14, 32, 33, 34, 24, 35, 1, 9, 10, 11, 13, 15, 16, 36, 37, 38, 39, 40, 41, 42, 43, 44, 45, 46, 47, 48, 49, 50, 51, 52, 53, 54, 17, 18, 19, 20, 65, 66, 67, 68, 69, 70, 71, 72, 73, 74, 75, 76, 77] (by decide +kernel) (by decide +kernel)
set_option maxRecDepth 20000 in
theorem gX2_changeMood_X2_buryDying : GoodIn wsX2_changeMood (wsV RX2 97 RX2 yX2_buryDying wsX2_buryDying) := goodIn_app (goodIn_of _ (by decide +kernel)) ggX2_changeMood_X2_buryDying
set_option maxRecDepth 20000 in
theorem ggX2_changeMood_X2_settle : GoodIn wsX2_changeMood wsX2_settle := goodIn_r _ [58, 59, 60, 26, 28, 29, 30, 12, 31, 14, 9, 10, 11, 13, 15, 16, 17, 18, 19, 20, 61, 62, 63, 24, 64, 65, 66, 67, 68, 69, 70, 71, 72, 73, 74, 75, 76, 77] (by decide +kernel) (by decide +kernel)
set_option maxRecDepth 20000 in
theorem gX2_changeMood_X2_settle : GoodIn wsX2_changeMood (wsV RX2 57 RX2 yX2_settle wsX2_settle) := goodIn_app (goodIn_of _ (by decide +kernel)) ggX2_changeMood_X2_settle
theorem dX2_changeMood_0 : decode cX2_changeMood 0 = .ok (.aload_n 0, 1) := by decide +kernel
theorem dX2_changeMood_1 : decode cX2_changeMood 1 = .ok (.getfield 14, 3) := by decide +kernel
theorem dX2_changeMood_4 : decode cX2_changeMood 4 = .ok (.iload_n 1, 1) := by decide +kernel
theorem dX2_changeMood_5 : decode cX2_changeMood 5 = .ok (.iconst 0, 1) := by decide +kernel
theorem dX2_changeMood_6 : decode cX2_changeMood 6 = .ok (.invokevirtual 60, 3) := by decide +kernel
theorem dX2_changeMood_9 : decode cX2_changeMood 9 = .ok (.iload_n 2, 1) := by decide +kernel
theorem dX2_changeMood_10 : decode cX2_changeMood 10 = .ok (.iadd, 1) := by decide +kernel
theorem dX2_changeMood_11 : decode cX2_changeMood 11 = .ok (.istore_n 3, 1) := by decide +kernel
theorem dX2_changeMood_12 : decode cX2_changeMood 12 = .ok (.iconst 0, 1) := by decide +kernel
theorem dX2_changeMood_13 : decode cX2_changeMood 13 = .ok (.bipush 100, 2) := by decide +kernel
theorem dX2_changeMood_15 : decode cX2_changeMood 15 = .ok (.iload_n 3, 1) := by decide +kernel
theorem dX2_changeMood_16 : decode cX2_changeMood 16 = .ok (.invokestatic 89, 3) := by decide +kernel
theorem dX2_changeMood_19 : decode cX2_changeMood 19 = .ok (.invokestatic 94, 3) := by decide +kernel
theorem dX2_changeMood_22 : decode cX2_changeMood 22 = .ok (.istore 4, 2) := by decide +kernel
theorem dX2_changeMood_24 : decode cX2_changeMood 24 = .ok (.aload_n 0, 1) := by decide +kernel
theorem dX2_changeMood_25 : decode cX2_changeMood 25 = .ok (.getfield 14, 3) := by decide +kernel
theorem dX2_changeMood_28 : decode cX2_changeMood 28 = .ok (.iload_n 1, 1) := by decide +kernel
theorem dX2_changeMood_29 : decode cX2_changeMood 29 = .ok (.iconst 0, 1) := by decide +kernel
theorem dX2_changeMood_30 : decode cX2_changeMood 30 = .ok (.iload 4, 2) := by decide +kernel
theorem dX2_changeMood_32 : decode cX2_changeMood 32 = .ok (.invokevirtual 36, 3) := by decide +kernel
theorem dX2_changeMood_35 : decode cX2_changeMood 35 = .ok (.aload_n 0, 1) := by decide +kernel
theorem dX2_changeMood_36 : decode cX2_changeMood 36 = .ok (.invokevirtual 97, 3) := by decide +kernel
theorem dX2_changeMood_39 : decode cX2_changeMood 39 = .ok (.ifCond .le 7, 3) := by decide +kernel
theorem dX2_changeMood_42 : decode cX2_changeMood 42 = .ok (.aload_n 0, 1) := by decide +kernel
theorem dX2_changeMood_43 : decode cX2_changeMood 43 = .ok (.invokevirtual 57, 3) := by decide +kernel
theorem dX2_changeMood_46 : decode cX2_changeMood 46 = .ok (.iload 4, 2) := by decide +kernel
theorem dX2_changeMood_48 : decode cX2_changeMood 48 = .ok (.ireturn, 1) := by decide +kernel
theorem dX2_hasTimeFor_0 : decode cX2_hasTimeFor 0 = .ok (.aload_n 0, 1) := by decide +kernel
theorem dX2_hasTimeFor_1 : decode cX2_hasTimeFor 1 = .ok (.getfield 54, 3) := by decide +kernel
theorem dX2_hasTimeFor_4 : decode cX2_hasTimeFor 4 = .ok (.iload_n 1, 1) := by decide +kernel
theorem dX2_hasTimeFor_5 : decode cX2_hasTimeFor 5 = .ok (.iadd, 1) := by decide +kernel
theorem dX2_hasTimeFor_6 : decode cX2_hasTimeFor 6 = .ok (.ldc 100, 2) := by decide +kernel
theorem dX2_hasTimeFor_8 : decode cX2_hasTimeFor 8 = .ok (.if_icmp .gt 7, 3) := by decide +kernel
theorem dX2_hasTimeFor_11 : decode cX2_hasTimeFor 11 = .ok (.iconst 1, 1) := by decide +kernel
theorem dX2_hasTimeFor_12 : decode cX2_hasTimeFor 12 = .ok (.goto 4, 3) := by decide +kernel
theorem dX2_hasTimeFor_15 : decode cX2_hasTimeFor 15 = .ok (.iconst 0, 1) := by decide +kernel
theorem dX2_hasTimeFor_16 : decode cX2_hasTimeFor 16 = .ok (.ireturn, 1) := by decide +kernel
set_option maxRecDepth 20000 in
theorem ggX2_letPass_X2_calm : GoodIn wsX2_letPass wsX2_calm := goodIn_r _ [6, 7, 8, 9, 10, 11, 12, 13, 14, 15, 16, 17, 18, 19, 62, 63, 64, 65, 66, 67, 68, 69, 70, 71, 72, 73, 74] (by decide +kernel) (by decide +kernel)
set_option maxRecDepth 20000 in
theorem gX2_letPass_X2_calm : GoodIn wsX2_letPass (wsV RX2 101 RX2 yX2_calm wsX2_calm) := goodIn_app (goodIn_of _ (by decide +kernel)) ggX2_letPass_X2_calm
set_option maxRecDepth 20000 in
theorem ggX2_letPass_X2_buryDying : GoodIn wsX2_letPass wsX2_buryDying := goodIn_r _ [23, 24, 25, 26, 27, 28, 11, 29, 13, 30, 31, 32, 5, 33, 7, 8, 9, 10, 12, 14, 15, 34, 35, 36, 37, 38, 1, 39, 40, 41, 42, 43, 44, 45, 46, 47, 48, 49, 50, 51, 16, 17, 18, 19, 62, 63, 64, 65, 66, 67, 68, 69, 70, 71, 72, 73, 74] (by decide +kernel) (by decide +kernel)
set_option maxRecDepth 20000 in
theorem gX2_letPass_X2_buryDying : GoodIn wsX2_letPass (wsV RX2 97 RX2 yX2_buryDying wsX2_buryDying) := goodIn_app (goodIn_of _ (by decide +kernel)) ggX2_letPass_X2_buryDying
set_option maxRecDepth 20000 in
theorem ggX2_letPass_X2_settle : GoodIn wsX2_letPass wsX2_settle := goodIn_r _ [55, 56, 57, 24, 26, 27, 28, 11, 29, 13, 8, 9, 10, 12, 14, 15, 16, 17, 18, 19, 58, 59, 60, 5, 61, 62, 63, 64, 65, 66, 67, 68, 69, 70, 71, 72, 73, 74] (by decide +kernel) (by decide +kernel)
set_option maxRecDepth 20000 in
theorem gX2_letPass_X2_settle : GoodIn wsX2_letPass (wsV RX2 57 RX2 yX2_settle wsX2_settle) := goodIn_app (goodIn_of _ (by decide +kernel)) ggX2_letPass_X2_settle
theorem dX2_letPass_0 : decode cX2_letPass 0 = .ok (.iconst 0, 1) := by decide +kernel
theorem dX2_letPass_1 : decode cX2_letPass 1 = .ok (.istore_n 2, 1) := by decide +kernel
theorem dX2_letPass_2 : decode cX2_letPass 2 = .ok (.iconst 0, 1) := by decide +kernel
theorem dX2_letPass_3 : decode cX2_letPass 3 = .ok (.istore_n 3, 1) := by decide +kernel
theorem dX2_letPass_4 : decode cX2_letPass 4 = .ok (.iload_n 3, 1) := by decide +kernel
theorem dX2_letPass_5 : decode cX2_letPass 5 = .ok (.iload_n 1, 1) := by decide +kernel
theorem dX2_letPass_6 : decode cX2_letPass 6 = .ok (.if_icmp .ge 48, 3) := by decide +kernel
theorem dX2_letPass_9 : decode cX2_letPass 9 = .ok (.iconst 0, 1) := by decide +kernel
theorem dX2_letPass_10 : decode cX2_letPass 10 = .ok (.istore 4, 2) := by decide +kernel
theorem dX2_letPass_12 : decode cX2_letPass 12 = .ok (.iload 4, 2) := by decide +kernel
theorem dX2_letPass_14 : decode cX2_letPass 14 = .ok (.bipush 10, 2) := by decide +kernel
theorem dX2_letPass_16 : decode cX2_letPass 16 = .ok (.if_icmp .ge 15, 3) := by decide +kernel
theorem dX2_letPass_19 : decode cX2_letPass 19 = .ok (.aload_n 0, 1) := by decide +kernel
theorem dX2_letPass_20 : decode cX2_letPass 20 = .ok (.iload 4, 2) := by decide +kernel
theorem dX2_letPass_22 : decode cX2_letPass 22 = .ok (.invokevirtual 101, 3) := by decide +kernel
theorem dX2_letPass_25 : decode cX2_letPass 25 = .ok (.iinc 4 1, 3) := by decide +kernel
theorem dX2_letPass_28 : decode cX2_letPass 28 = .ok (.goto (-16), 3) := by decide +kernel
theorem dX2_letPass_31 : decode cX2_letPass 31 = .ok (.aload_n 0, 1) := by decide +kernel
theorem dX2_letPass_32 : decode cX2_letPass 32 = .ok (.dup, 1) := by decide +kernel
theorem dX2_letPass_33 : decode cX2_letPass 33 = .ok (.getfield 54, 3) := by decide +kernel
theorem dX2_letPass_36 : decode cX2_letPass 36 = .ok (.iconst 1, 1) := by decide +kernel
theorem dX2_letPass_37 : decode cX2_letPass 37 = .ok (.iadd, 1) := by decide +kernel
theorem dX2_letPass_38 : decode cX2_letPass 38 = .ok (.putfield 54, 3) := by decide +kernel
theorem dX2_letPass_41 : decode cX2_letPass 41 = .ok (.iload_n 2, 1) := by decide +kernel
theorem dX2_letPass_42 : decode cX2_letPass 42 = .ok (.aload_n 0, 1) := by decide +kernel
theorem dX2_letPass_43 : decode cX2_letPass 43 = .ok (.invokevirtual 97, 3) := by decide +kernel
theorem dX2_letPass_46 : decode cX2_letPass 46 = .ok (.iadd, 1) := by decide +kernel
theorem dX2_letPass_47 : decode cX2_letPass 47 = .ok (.istore_n 2, 1) := by decide +kernel
theorem dX2_letPass_48 : decode cX2_letPass 48 = .ok (.iinc 3 1, 3) := by decide +kernel
theorem dX2_letPass_51 : decode cX2_letPass 51 = .ok (.goto (-47), 3) := by decide +kernel
theorem dX2_letPass_54 : decode cX2_letPass 54 = .ok (.iload_n 2, 1) := by decide +kernel
theorem dX2_letPass_55 : decode cX2_letPass 55 = .ok (.ifCond .le 7, 3) := by decide +kernel
theorem dX2_letPass_58 : decode cX2_letPass 58 = .ok (.aload_n 0, 1) := by decide +kernel
theorem dX2_letPass_59 : decode cX2_letPass 59 = .ok (.invokevirtual 57, 3) := by decide +kernel
theorem dX2_letPass_62 : decode cX2_letPass 62 = .ok (.iload_n 2, 1) := by decide +kernel
theorem dX2_letPass_63 : decode cX2_letPass 63 = .ok (.ireturn, 1) := by decide +kernel
set_option maxRecDepth 20000 in
theorem ggX2_rightsOf_X3_at : GoodIn wsX2_rightsOf wsX3_at := goodIn_r _ [6, 7, 8, 9, 19, 20, 21, 22] (by decide +kernel) (by decide +kernel)
set_option maxRecDepth 20000 in
theorem gX2_rightsOf_X3_at : GoodIn wsX2_rightsOf (wsV RX2 60 RX3 yX3_at wsX3_at) := goodIn_app (goodIn_of _ (by decide +kernel)) ggX2_rightsOf_X3_at
theorem dX2_rightsOf_0 : decode cX2_rightsOf 0 = .ok (.aload_n 0, 1) := by decide +kernel
theorem dX2_rightsOf_1 : decode cX2_rightsOf 1 = .ok (.getfield 29, 3) := by decide +kernel
theorem dX2_rightsOf_4 : decode cX2_rightsOf 4 = .ok (.iload_n 2, 1) := by decide +kernel
theorem dX2_rightsOf_5 : decode cX2_rightsOf 5 = .ok (.iload_n 1, 1) := by decide +kernel
theorem dX2_rightsOf_6 : decode cX2_rightsOf 6 = .ok (.invokevirtual 60, 3) := by decide +kernel
theorem dX2_rightsOf_9 : decode cX2_rightsOf 9 = .ok (.ireturn, 1) := by decide +kernel
set_option maxRecDepth 20000 in
theorem ggX2_placeOf_X3_rows : GoodIn wsX2_placeOf wsX3_rows := goodIn_r _ [6, 7, 23, 24, 25, 26] (by decide +kernel) (by decide +kernel)
set_option maxRecDepth 20000 in
theorem gX2_placeOf_X3_rows : GoodIn wsX2_placeOf (wsV RX2 104 RX3 yX3_rows wsX3_rows) := goodIn_app (goodIn_of _ (by decide +kernel)) ggX2_placeOf_X3_rows
set_option maxRecDepth 20000 in
theorem ggX2_placeOf_X3_at : GoodIn wsX2_placeOf wsX3_at := goodIn_r _ [11, 7, 12, 13, 23, 24, 25, 26] (by decide +kernel) (by decide +kernel)
set_option maxRecDepth 20000 in
theorem gX2_placeOf_X3_at : GoodIn wsX2_placeOf (wsV RX2 60 RX3 yX3_at wsX3_at) := goodIn_app (goodIn_of _ (by decide +kernel)) ggX2_placeOf_X3_at
theorem dX2_placeOf_0 : decode cX2_placeOf 0 = .ok (.iconst 0, 1) := by decide +kernel
theorem dX2_placeOf_1 : decode cX2_placeOf 1 = .ok (.istore_n 2, 1) := by decide +kernel
theorem dX2_placeOf_2 : decode cX2_placeOf 2 = .ok (.iload_n 2, 1) := by decide +kernel
theorem dX2_placeOf_3 : decode cX2_placeOf 3 = .ok (.aload_n 0, 1) := by decide +kernel
theorem dX2_placeOf_4 : decode cX2_placeOf 4 = .ok (.getfield 23, 3) := by decide +kernel
theorem dX2_placeOf_7 : decode cX2_placeOf 7 = .ok (.invokevirtual 104, 3) := by decide +kernel
theorem dX2_placeOf_10 : decode cX2_placeOf 10 = .ok (.if_icmp .ge 24, 3) := by decide +kernel
theorem dX2_placeOf_13 : decode cX2_placeOf 13 = .ok (.aload_n 0, 1) := by decide +kernel
theorem dX2_placeOf_14 : decode cX2_placeOf 14 = .ok (.getfield 23, 3) := by decide +kernel
theorem dX2_placeOf_17 : decode cX2_placeOf 17 = .ok (.iload_n 2, 1) := by decide +kernel
theorem dX2_placeOf_18 : decode cX2_placeOf 18 = .ok (.iconst 5, 1) := by decide +kernel
theorem dX2_placeOf_19 : decode cX2_placeOf 19 = .ok (.invokevirtual 60, 3) := by decide +kernel
theorem dX2_placeOf_22 : decode cX2_placeOf 22 = .ok (.iload_n 1, 1) := by decide +kernel
theorem dX2_placeOf_23 : decode cX2_placeOf 23 = .ok (.if_icmp .ne 5, 3) := by decide +kernel
theorem dX2_placeOf_26 : decode cX2_placeOf 26 = .ok (.iload_n 2, 1) := by decide +kernel
theorem dX2_placeOf_27 : decode cX2_placeOf 27 = .ok (.ireturn, 1) := by decide +kernel
theorem dX2_placeOf_28 : decode cX2_placeOf 28 = .ok (.iinc 2 1, 3) := by decide +kernel
theorem dX2_placeOf_31 : decode cX2_placeOf 31 = .ok (.goto (-29), 3) := by decide +kernel
theorem dX2_placeOf_34 : decode cX2_placeOf 34 = .ok (.iconst (-1), 1) := by decide +kernel
theorem dX2_placeOf_35 : decode cX2_placeOf 35 = .ok (.ireturn, 1) := by decide +kernel
set_option maxRecDepth 20000 in
theorem ggX2_passedOn_X3_at : GoodIn wsX2_passedOn wsX3_at := goodIn_r _ [8, 9, 10, 11, 21, 22, 23, 24] (by decide +kernel) (by decide +kernel)
set_option maxRecDepth 20000 in
theorem gX2_passedOn_X3_at : GoodIn wsX2_passedOn (wsV RX2 60 RX3 yX3_at wsX3_at) := goodIn_app (goodIn_of _ (by decide +kernel)) ggX2_passedOn_X3_at
theorem dX2_passedOn_0 : decode cX2_passedOn 0 = .ok (.aload_n 0, 1) := by decide +kernel
theorem dX2_passedOn_1 : decode cX2_passedOn 1 = .ok (.getfield 23, 3) := by decide +kernel
theorem dX2_passedOn_4 : decode cX2_passedOn 4 = .ok (.iload_n 1, 1) := by decide +kernel
theorem dX2_passedOn_5 : decode cX2_passedOn 5 = .ok (.iconst 2, 1) := by decide +kernel
theorem dX2_passedOn_6 : decode cX2_passedOn 6 = .ok (.invokevirtual 60, 3) := by decide +kernel
theorem dX2_passedOn_9 : decode cX2_passedOn 9 = .ok (.istore_n 2, 1) := by decide +kernel
theorem dX2_passedOn_10 : decode cX2_passedOn 10 = .ok (.aload_n 0, 1) := by decide +kernel
theorem dX2_passedOn_11 : decode cX2_passedOn 11 = .ok (.getfield 29, 3) := by decide +kernel
theorem dX2_passedOn_14 : decode cX2_passedOn 14 = .ok (.iload_n 2, 1) := by decide +kernel
theorem dX2_passedOn_15 : decode cX2_passedOn 15 = .ok (.aload_n 0, 1) := by decide +kernel
theorem dX2_passedOn_16 : decode cX2_passedOn 16 = .ok (.getfield 23, 3) := by decide +kernel
theorem dX2_passedOn_19 : decode cX2_passedOn 19 = .ok (.iload_n 1, 1) := by decide +kernel
theorem dX2_passedOn_20 : decode cX2_passedOn 20 = .ok (.iconst 0, 1) := by decide +kernel
theorem dX2_passedOn_21 : decode cX2_passedOn 21 = .ok (.invokevirtual 60, 3) := by decide +kernel
theorem dX2_passedOn_24 : decode cX2_passedOn 24 = .ok (.invokevirtual 60, 3) := by decide +kernel
theorem dX2_passedOn_27 : decode cX2_passedOn 27 = .ok (.istore_n 3, 1) := by decide +kernel
theorem dX2_passedOn_28 : decode cX2_passedOn 28 = .ok (.iload_n 3, 1) := by decide +kernel
theorem dX2_passedOn_29 : decode cX2_passedOn 29 = .ok (.iconst 4, 1) := by decide +kernel
theorem dX2_passedOn_30 : decode cX2_passedOn 30 = .ok (.iand, 1) := by decide +kernel
theorem dX2_passedOn_31 : decode cX2_passedOn 31 = .ok (.ifCond .ne 5, 3) := by decide +kernel
theorem dX2_passedOn_34 : decode cX2_passedOn 34 = .ok (.iconst 0, 1) := by decide +kernel
theorem dX2_passedOn_35 : decode cX2_passedOn 35 = .ok (.ireturn, 1) := by decide +kernel
theorem dX2_passedOn_36 : decode cX2_passedOn 36 = .ok (.aload_n 0, 1) := by decide +kernel
theorem dX2_passedOn_37 : decode cX2_passedOn 37 = .ok (.getfield 23, 3) := by decide +kernel
theorem dX2_passedOn_40 : decode cX2_passedOn 40 = .ok (.iload_n 1, 1) := by decide +kernel
theorem dX2_passedOn_41 : decode cX2_passedOn 41 = .ok (.iconst 3, 1) := by decide +kernel
theorem dX2_passedOn_42 : decode cX2_passedOn 42 = .ok (.invokevirtual 60, 3) := by decide +kernel
theorem dX2_passedOn_45 : decode cX2_passedOn 45 = .ok (.iload_n 3, 1) := by decide +kernel
theorem dX2_passedOn_46 : decode cX2_passedOn 46 = .ok (.iand, 1) := by decide +kernel
theorem dX2_passedOn_47 : decode cX2_passedOn 47 = .ok (.aload_n 0, 1) := by decide +kernel
theorem dX2_passedOn_48 : decode cX2_passedOn 48 = .ok (.getfield 20, 3) := by decide +kernel
theorem dX2_passedOn_51 : decode cX2_passedOn 51 = .ok (.iload_n 2, 1) := by decide +kernel
theorem dX2_passedOn_52 : decode cX2_passedOn 52 = .ok (.iconst 1, 1) := by decide +kernel
theorem dX2_passedOn_53 : decode cX2_passedOn 53 = .ok (.invokevirtual 60, 3) := by decide +kernel
theorem dX2_passedOn_56 : decode cX2_passedOn 56 = .ok (.iand, 1) := by decide +kernel
theorem dX2_passedOn_57 : decode cX2_passedOn 57 = .ok (.ireturn, 1) := by decide +kernel
set_option maxRecDepth 20000 in
theorem ggX2_countPairs_X3_rows : GoodIn wsX2_countPairs wsX3_rows := goodIn_r _ [6, 7, 36, 37, 38, 39] (by decide +kernel) (by decide +kernel)
set_option maxRecDepth 20000 in
theorem gX2_countPairs_X3_rows : GoodIn wsX2_countPairs (wsV RX2 104 RX3 yX3_rows wsX3_rows) := goodIn_app (goodIn_of _ (by decide +kernel)) ggX2_countPairs_X3_rows
set_option maxRecDepth 20000 in
theorem ggX2_countPairs_X2_holdersOf : GoodIn wsX2_countPairs wsX2_holdersOf := goodIn_r _ [12, 13, 14, 15, 16, 5, 17, 7, 18, 19, 27, 28, 29, 30, 31, 32, 33, 34, 35, 36, 37, 38, 39] (by decide +kernel) (by decide +kernel)
set_option maxRecDepth 20000 in
theorem gX2_countPairs_X2_holdersOf : GoodIn wsX2_countPairs (wsV RX2 107 RX2 yX2_holdersOf wsX2_holdersOf) := goodIn_app (goodIn_of _ (by decide +kernel)) ggX2_countPairs_X2_holdersOf
set_option maxRecDepth 20000 in
theorem ggX2_countPairs_J6_bitCount_0f7a4 : GoodIn wsX2_countPairs wsJ6_bitCount_0f7a4 := goodIn_r _ [23, 24, 25, 26] (by decide +kernel) (by decide +kernel)
set_option maxRecDepth 20000 in
theorem gX2_countPairs_J6_bitCount_0f7a4 : GoodIn wsX2_countPairs (va_wsS RX2 110 yJ6_bitCount_0f7a4 wsJ6_bitCount_0f7a4) := goodIn_app (goodIn_of _ (by decide +kernel)) ggX2_countPairs_J6_bitCount_0f7a4
theorem dX2_countPairs_0 : decode cX2_countPairs 0 = .ok (.iconst 0, 1) := by decide +kernel
theorem dX2_countPairs_1 : decode cX2_countPairs 1 = .ok (.istore_n 1, 1) := by decide +kernel
theorem dX2_countPairs_2 : decode cX2_countPairs 2 = .ok (.iconst 0, 1) := by decide +kernel
theorem dX2_countPairs_3 : decode cX2_countPairs 3 = .ok (.istore_n 2, 1) := by decide +kernel
theorem dX2_countPairs_4 : decode cX2_countPairs 4 = .ok (.iload_n 2, 1) := by decide +kernel
theorem dX2_countPairs_5 : decode cX2_countPairs 5 = .ok (.aload_n 0, 1) := by decide +kernel
theorem dX2_countPairs_6 : decode cX2_countPairs 6 = .ok (.getfield 20, 3) := by decide +kernel
theorem dX2_countPairs_9 : decode cX2_countPairs 9 = .ok (.invokevirtual 104, 3) := by decide +kernel
theorem dX2_countPairs_12 : decode cX2_countPairs 12 = .ok (.if_icmp .ge 21, 3) := by decide +kernel
theorem dX2_countPairs_15 : decode cX2_countPairs 15 = .ok (.iload_n 1, 1) := by decide +kernel
theorem dX2_countPairs_16 : decode cX2_countPairs 16 = .ok (.aload_n 0, 1) := by decide +kernel
theorem dX2_countPairs_17 : decode cX2_countPairs 17 = .ok (.iload_n 2, 1) := by decide +kernel
theorem dX2_countPairs_18 : decode cX2_countPairs 18 = .ok (.iconst 1, 1) := by decide +kernel
theorem dX2_countPairs_19 : decode cX2_countPairs 19 = .ok (.invokevirtual 107, 3) := by decide +kernel
theorem dX2_countPairs_22 : decode cX2_countPairs 22 = .ok (.invokestatic 110, 3) := by decide +kernel
theorem dX2_countPairs_25 : decode cX2_countPairs 25 = .ok (.iadd, 1) := by decide +kernel
theorem dX2_countPairs_26 : decode cX2_countPairs 26 = .ok (.istore_n 1, 1) := by decide +kernel
theorem dX2_countPairs_27 : decode cX2_countPairs 27 = .ok (.iinc 2 1, 3) := by decide +kernel
theorem dX2_countPairs_30 : decode cX2_countPairs 30 = .ok (.goto (-26), 3) := by decide +kernel
theorem dX2_countPairs_33 : decode cX2_countPairs 33 = .ok (.iload_n 1, 1) := by decide +kernel
theorem dX2_countPairs_34 : decode cX2_countPairs 34 = .ok (.ireturn, 1) := by decide +kernel
set_option maxRecDepth 20000 in
theorem ggX2_greatestThreshold_X3_rows : GoodIn wsX2_greatestThreshold wsX3_rows := goodIn_r _ [10, 11, 27, 28, 29, 30] (by decide +kernel) (by decide +kernel)
set_option maxRecDepth 20000 in
theorem gX2_greatestThreshold_X3_rows : GoodIn wsX2_greatestThreshold (wsV RX2 104 RX3 yX3_rows wsX3_rows) := goodIn_app (goodIn_of _ (by decide +kernel)) ggX2_greatestThreshold_X3_rows
set_option maxRecDepth 20000 in
theorem ggX2_greatestThreshold_X3_at : GoodIn wsX2_greatestThreshold wsX3_at := goodIn_r _ [15, 11, 16, 17, 27, 28, 29, 30] (by decide +kernel) (by decide +kernel)
set_option maxRecDepth 20000 in
theorem gX2_greatestThreshold_X3_at : GoodIn wsX2_greatestThreshold (wsV RX2 60 RX3 yX3_at wsX3_at) := goodIn_app (goodIn_of _ (by decide +kernel)) ggX2_greatestThreshold_X3_at
theorem dX2_greatestThreshold_0 : decode cX2_greatestThreshold 0 = .ok (.iconst 0, 1) := by decide +kernel
theorem dX2_greatestThreshold_1 : decode cX2_greatestThreshold 1 = .ok (.istore_n 2, 1) := by decide +kernel
theorem dX2_greatestThreshold_2 : decode cX2_greatestThreshold 2 = .ok (.iconst 0, 1) := by decide +kernel
theorem dX2_greatestThreshold_3 : decode cX2_greatestThreshold 3 = .ok (.istore_n 3, 1) := by decide +kernel
theorem dX2_greatestThreshold_4 : decode cX2_greatestThreshold 4 = .ok (.iload_n 3, 1) := by decide +kernel
theorem dX2_greatestThreshold_5 : decode cX2_greatestThreshold 5 = .ok (.aload_n 0, 1) := by decide +kernel
theorem dX2_greatestThreshold_6 : decode cX2_greatestThreshold 6 = .ok (.getfield 23, 3) := by decide +kernel
theorem dX2_greatestThreshold_9 : decode cX2_greatestThreshold 9 = .ok (.invokevirtual 104, 3) := by decide +kernel
theorem dX2_greatestThreshold_12 : decode cX2_greatestThreshold 12 = .ok (.if_icmp .ge 36, 3) := by decide +kernel
theorem dX2_greatestThreshold_15 : decode cX2_greatestThreshold 15 = .ok (.aload_n 0, 1) := by decide +kernel
theorem dX2_greatestThreshold_16 : decode cX2_greatestThreshold 16 = .ok (.getfield 23, 3) := by decide +kernel
theorem dX2_greatestThreshold_19 : decode cX2_greatestThreshold 19 = .ok (.iload_n 3, 1) := by decide +kernel
theorem dX2_greatestThreshold_20 : decode cX2_greatestThreshold 20 = .ok (.iconst 0, 1) := by decide +kernel
theorem dX2_greatestThreshold_21 : decode cX2_greatestThreshold 21 = .ok (.invokevirtual 60, 3) := by decide +kernel
theorem dX2_greatestThreshold_24 : decode cX2_greatestThreshold 24 = .ok (.iload_n 1, 1) := by decide +kernel
theorem dX2_greatestThreshold_25 : decode cX2_greatestThreshold 25 = .ok (.if_icmp .ne 17, 3) := by decide +kernel
theorem dX2_greatestThreshold_28 : decode cX2_greatestThreshold 28 = .ok (.iload_n 2, 1) := by decide +kernel
theorem dX2_greatestThreshold_29 : decode cX2_greatestThreshold 29 = .ok (.aload_n 0, 1) := by decide +kernel
theorem dX2_greatestThreshold_30 : decode cX2_greatestThreshold 30 = .ok (.getfield 23, 3) := by decide +kernel
theorem dX2_greatestThreshold_33 : decode cX2_greatestThreshold 33 = .ok (.iload_n 3, 1) := by decide +kernel
theorem dX2_greatestThreshold_34 : decode cX2_greatestThreshold 34 = .ok (.iconst 4, 1) := by decide +kernel
theorem dX2_greatestThreshold_35 : decode cX2_greatestThreshold 35 = .ok (.invokevirtual 60, 3) := by decide +kernel
theorem dX2_greatestThreshold_38 : decode cX2_greatestThreshold 38 = .ok (.invokestatic 94, 3) := by decide +kernel
theorem dX2_greatestThreshold_41 : decode cX2_greatestThreshold 41 = .ok (.istore_n 2, 1) := by decide +kernel
theorem dX2_greatestThreshold_42 : decode cX2_greatestThreshold 42 = .ok (.iinc 3 1, 3) := by decide +kernel
theorem dX2_greatestThreshold_45 : decode cX2_greatestThreshold 45 = .ok (.goto (-41), 3) := by decide +kernel
theorem dX2_greatestThreshold_48 : decode cX2_greatestThreshold 48 = .ok (.iload_n 2, 1) := by decide +kernel
theorem dX2_greatestThreshold_49 : decode cX2_greatestThreshold 49 = .ok (.ireturn, 1) := by decide +kernel
set_option maxRecDepth 20000 in
theorem ggX2_aboutPerson_X3_at : GoodIn wsX2_aboutPerson wsX3_at := goodIn_r _ [8, 9, 10, 11, 41, 42, 43, 44] (by decide +kernel) (by decide +kernel)
set_option maxRecDepth 20000 in
theorem gX2_aboutPerson_X3_at : GoodIn wsX2_aboutPerson (wsV RX2 60 RX3 yX3_at wsX3_at) := goodIn_app (goodIn_of _ (by decide +kernel)) ggX2_aboutPerson_X3_at
set_option maxRecDepth 20000 in
theorem ggX2_aboutPerson_X2_countEqual : GoodIn wsX2_aboutPerson wsX2_countEqual := goodIn_r _ [15, 16, 17, 18, 7, 19, 9, 4, 5, 6, 8, 10, 11, 41, 42, 43, 44] (by decide +kernel) (by decide +kernel)
set_option maxRecDepth 20000 in
theorem gX2_aboutPerson_X2_countEqual : GoodIn wsX2_aboutPerson (va_wsS RX2 116 yX2_countEqual wsX2_countEqual) := goodIn_app (goodIn_of _ (by decide +kernel)) ggX2_aboutPerson_X2_countEqual
set_option maxRecDepth 20000 in
theorem ggX2_aboutPerson_X2_thingsSeenBy : GoodIn wsX2_aboutPerson wsX2_thingsSeenBy := goodIn_r _ [23, 2, 24, 16, 17, 18, 7, 19, 9, 4, 5, 6, 8, 10, 11, 32, 33, 34, 35, 36, 37, 38, 39, 40, 41, 42, 43, 44] (by decide +kernel) (by decide +kernel)
set_option maxRecDepth 20000 in
theorem gX2_aboutPerson_X2_thingsSeenBy : GoodIn wsX2_aboutPerson (wsV RX2 120 RX2 yX2_thingsSeenBy wsX2_thingsSeenBy) := goodIn_app (goodIn_of _ (by decide +kernel)) ggX2_aboutPerson_X2_thingsSeenBy
set_option maxRecDepth 20000 in
theorem ggX2_aboutPerson_J6_bitCount_0f7a4 : GoodIn wsX2_aboutPerson wsJ6_bitCount_0f7a4 := goodIn_r _ [28, 29, 30, 31] (by decide +kernel) (by decide +kernel)
set_option maxRecDepth 20000 in
theorem gX2_aboutPerson_J6_bitCount_0f7a4 : GoodIn wsX2_aboutPerson (va_wsS RX2 110 yJ6_bitCount_0f7a4 wsJ6_bitCount_0f7a4) := goodIn_app (goodIn_of _ (by decide +kernel)) ggX2_aboutPerson_J6_bitCount_0f7a4
theorem dX2_aboutPerson_0 : decode cX2_aboutPerson 0 = .ok (.iload_n 2, 1) := by decide +kernel
theorem dX2_aboutPerson_1 : decode cX2_aboutPerson 1 = .ok (.tableswitch 98 0 5 #[39, 49, 59, 69, 78, 88], 39) := by decide +kernel
theorem dX2_aboutPerson_40 : decode cX2_aboutPerson 40 = .ok (.aload_n 0, 1) := by decide +kernel
theorem dX2_aboutPerson_41 : decode cX2_aboutPerson 41 = .ok (.getfield 14, 3) := by decide +kernel
theorem dX2_aboutPerson_44 : decode cX2_aboutPerson 44 = .ok (.iload_n 1, 1) := by decide +kernel
theorem dX2_aboutPerson_45 : decode cX2_aboutPerson 45 = .ok (.iconst 0, 1) := by decide +kernel
theorem dX2_aboutPerson_46 : decode cX2_aboutPerson 46 = .ok (.invokevirtual 60, 3) := by decide +kernel
theorem dX2_aboutPerson_49 : decode cX2_aboutPerson 49 = .ok (.ireturn, 1) := by decide +kernel
theorem dX2_aboutPerson_50 : decode cX2_aboutPerson 50 = .ok (.aload_n 0, 1) := by decide +kernel
theorem dX2_aboutPerson_51 : decode cX2_aboutPerson 51 = .ok (.getfield 14, 3) := by decide +kernel
theorem dX2_aboutPerson_54 : decode cX2_aboutPerson 54 = .ok (.iload_n 1, 1) := by decide +kernel
theorem dX2_aboutPerson_55 : decode cX2_aboutPerson 55 = .ok (.iconst 1, 1) := by decide +kernel
theorem dX2_aboutPerson_56 : decode cX2_aboutPerson 56 = .ok (.invokevirtual 60, 3) := by decide +kernel
theorem dX2_aboutPerson_59 : decode cX2_aboutPerson 59 = .ok (.ireturn, 1) := by decide +kernel
theorem dX2_aboutPerson_60 : decode cX2_aboutPerson 60 = .ok (.aload_n 0, 1) := by decide +kernel
theorem dX2_aboutPerson_61 : decode cX2_aboutPerson 61 = .ok (.getfield 20, 3) := by decide +kernel
theorem dX2_aboutPerson_64 : decode cX2_aboutPerson 64 = .ok (.iconst 0, 1) := by decide +kernel
theorem dX2_aboutPerson_65 : decode cX2_aboutPerson 65 = .ok (.iload_n 1, 1) := by decide +kernel
theorem dX2_aboutPerson_66 : decode cX2_aboutPerson 66 = .ok (.invokestatic 116, 3) := by decide +kernel
theorem dX2_aboutPerson_69 : decode cX2_aboutPerson 69 = .ok (.ireturn, 1) := by decide +kernel
theorem dX2_aboutPerson_70 : decode cX2_aboutPerson 70 = .ok (.aload_n 0, 1) := by decide +kernel
theorem dX2_aboutPerson_71 : decode cX2_aboutPerson 71 = .ok (.iload_n 1, 1) := by decide +kernel
theorem dX2_aboutPerson_72 : decode cX2_aboutPerson 72 = .ok (.invokevirtual 120, 3) := by decide +kernel
theorem dX2_aboutPerson_75 : decode cX2_aboutPerson 75 = .ok (.invokestatic 110, 3) := by decide +kernel
theorem dX2_aboutPerson_78 : decode cX2_aboutPerson 78 = .ok (.ireturn, 1) := by decide +kernel
theorem dX2_aboutPerson_79 : decode cX2_aboutPerson 79 = .ok (.aload_n 0, 1) := by decide +kernel
theorem dX2_aboutPerson_80 : decode cX2_aboutPerson 80 = .ok (.getfield 23, 3) := by decide +kernel
theorem dX2_aboutPerson_83 : decode cX2_aboutPerson 83 = .ok (.iconst 0, 1) := by decide +kernel
theorem dX2_aboutPerson_84 : decode cX2_aboutPerson 84 = .ok (.iload_n 1, 1) := by decide +kernel
theorem dX2_aboutPerson_85 : decode cX2_aboutPerson 85 = .ok (.invokestatic 116, 3) := by decide +kernel
theorem dX2_aboutPerson_88 : decode cX2_aboutPerson 88 = .ok (.ireturn, 1) := by decide +kernel
theorem dX2_aboutPerson_89 : decode cX2_aboutPerson 89 = .ok (.aload_n 0, 1) := by decide +kernel
theorem dX2_aboutPerson_90 : decode cX2_aboutPerson 90 = .ok (.getfield 23, 3) := by decide +kernel
theorem dX2_aboutPerson_93 : decode cX2_aboutPerson 93 = .ok (.iconst 1, 1) := by decide +kernel
theorem dX2_aboutPerson_94 : decode cX2_aboutPerson 94 = .ok (.iload_n 1, 1) := by decide +kernel
theorem dX2_aboutPerson_95 : decode cX2_aboutPerson 95 = .ok (.invokestatic 116, 3) := by decide +kernel
theorem dX2_aboutPerson_98 : decode cX2_aboutPerson 98 = .ok (.ireturn, 1) := by decide +kernel
theorem dX2_aboutPerson_99 : decode cX2_aboutPerson 99 = .ok (.aload_n 0, 1) := by decide +kernel
theorem dX2_aboutPerson_100 : decode cX2_aboutPerson 100 = .ok (.iload_n 1, 1) := by decide +kernel
theorem dX2_aboutPerson_101 : decode cX2_aboutPerson 101 = .ok (.invokevirtual 120, 3) := by decide +kernel
theorem dX2_aboutPerson_104 : decode cX2_aboutPerson 104 = .ok (.ireturn, 1) := by decide +kernel
set_option maxRecDepth 20000 in
theorem ggX2_aboutThing_X3_at : GoodIn wsX2_aboutThing wsX3_at := goodIn_r _ [7, 8, 9, 10, 33, 34, 35, 36] (by decide +kernel) (by decide +kernel)
set_option maxRecDepth 20000 in
theorem gX2_aboutThing_X3_at : GoodIn wsX2_aboutThing (wsV RX2 60 RX3 yX3_at wsX3_at) := goodIn_app (goodIn_of _ (by decide +kernel)) ggX2_aboutThing_X3_at
set_option maxRecDepth 20000 in
theorem ggX2_aboutThing_X2_countEqual : GoodIn wsX2_aboutThing wsX2_countEqual := goodIn_r _ [14, 15, 16, 17, 6, 18, 8, 3, 4, 5, 7, 9, 10, 33, 34, 35, 36] (by decide +kernel) (by decide +kernel)
set_option maxRecDepth 20000 in
theorem gX2_aboutThing_X2_countEqual : GoodIn wsX2_aboutThing (va_wsS RX2 116 yX2_countEqual wsX2_countEqual) := goodIn_app (goodIn_of _ (by decide +kernel)) ggX2_aboutThing_X2_countEqual
set_option maxRecDepth 20000 in
theorem ggX2_aboutThing_X2_holdersOf : GoodIn wsX2_aboutThing wsX2_holdersOf := goodIn_r _ [22, 23, 3, 4, 5, 6, 7, 8, 9, 10, 24, 25, 26, 27, 28, 29, 30, 31, 32, 33, 34, 35, 36] (by decide +kernel) (by decide +kernel)
set_option maxRecDepth 20000 in
theorem gX2_aboutThing_X2_holdersOf : GoodIn wsX2_aboutThing (wsV RX2 107 RX2 yX2_holdersOf wsX2_holdersOf) := goodIn_app (goodIn_of _ (by decide +kernel)) ggX2_aboutThing_X2_holdersOf
theorem dX2_aboutThing_0 : decode cX2_aboutThing 0 = .ok (.iload_n 2, 1) := by decide +kernel
theorem dX2_aboutThing_1 : decode cX2_aboutThing 1 = .ok (.tableswitch 79 0 4 #[35, 45, 55, 65, 72], 35) := by decide +kernel
theorem dX2_aboutThing_36 : decode cX2_aboutThing 36 = .ok (.aload_n 0, 1) := by decide +kernel
theorem dX2_aboutThing_37 : decode cX2_aboutThing 37 = .ok (.getfield 20, 3) := by decide +kernel
theorem dX2_aboutThing_40 : decode cX2_aboutThing 40 = .ok (.iload_n 1, 1) := by decide +kernel
theorem dX2_aboutThing_41 : decode cX2_aboutThing 41 = .ok (.iconst 0, 1) := by decide +kernel
theorem dX2_aboutThing_42 : decode cX2_aboutThing 42 = .ok (.invokevirtual 60, 3) := by decide +kernel
theorem dX2_aboutThing_45 : decode cX2_aboutThing 45 = .ok (.ireturn, 1) := by decide +kernel
theorem dX2_aboutThing_46 : decode cX2_aboutThing 46 = .ok (.aload_n 0, 1) := by decide +kernel
theorem dX2_aboutThing_47 : decode cX2_aboutThing 47 = .ok (.getfield 20, 3) := by decide +kernel
theorem dX2_aboutThing_50 : decode cX2_aboutThing 50 = .ok (.iload_n 1, 1) := by decide +kernel
theorem dX2_aboutThing_51 : decode cX2_aboutThing 51 = .ok (.iconst 1, 1) := by decide +kernel
theorem dX2_aboutThing_52 : decode cX2_aboutThing 52 = .ok (.invokevirtual 60, 3) := by decide +kernel
theorem dX2_aboutThing_55 : decode cX2_aboutThing 55 = .ok (.ireturn, 1) := by decide +kernel
theorem dX2_aboutThing_56 : decode cX2_aboutThing 56 = .ok (.aload_n 0, 1) := by decide +kernel
theorem dX2_aboutThing_57 : decode cX2_aboutThing 57 = .ok (.getfield 23, 3) := by decide +kernel
theorem dX2_aboutThing_60 : decode cX2_aboutThing 60 = .ok (.iconst 2, 1) := by decide +kernel
theorem dX2_aboutThing_61 : decode cX2_aboutThing 61 = .ok (.iload_n 1, 1) := by decide +kernel
theorem dX2_aboutThing_62 : decode cX2_aboutThing 62 = .ok (.invokestatic 116, 3) := by decide +kernel
theorem dX2_aboutThing_65 : decode cX2_aboutThing 65 = .ok (.ireturn, 1) := by decide +kernel
theorem dX2_aboutThing_66 : decode cX2_aboutThing 66 = .ok (.aload_n 0, 1) := by decide +kernel
theorem dX2_aboutThing_67 : decode cX2_aboutThing 67 = .ok (.iload_n 1, 1) := by decide +kernel
theorem dX2_aboutThing_68 : decode cX2_aboutThing 68 = .ok (.iconst 1, 1) := by decide +kernel
theorem dX2_aboutThing_69 : decode cX2_aboutThing 69 = .ok (.invokevirtual 107, 3) := by decide +kernel
theorem dX2_aboutThing_72 : decode cX2_aboutThing 72 = .ok (.ireturn, 1) := by decide +kernel
theorem dX2_aboutThing_73 : decode cX2_aboutThing 73 = .ok (.aload_n 0, 1) := by decide +kernel
theorem dX2_aboutThing_74 : decode cX2_aboutThing 74 = .ok (.iload_n 1, 1) := by decide +kernel
theorem dX2_aboutThing_75 : decode cX2_aboutThing 75 = .ok (.iconst 2, 1) := by decide +kernel
theorem dX2_aboutThing_76 : decode cX2_aboutThing 76 = .ok (.invokevirtual 107, 3) := by decide +kernel
theorem dX2_aboutThing_79 : decode cX2_aboutThing 79 = .ok (.ireturn, 1) := by decide +kernel
theorem dX2_aboutThing_80 : decode cX2_aboutThing 80 = .ok (.aload_n 0, 1) := by decide +kernel
theorem dX2_aboutThing_81 : decode cX2_aboutThing 81 = .ok (.iload_n 1, 1) := by decide +kernel
theorem dX2_aboutThing_82 : decode cX2_aboutThing 82 = .ok (.iconst 4, 1) := by decide +kernel
theorem dX2_aboutThing_83 : decode cX2_aboutThing 83 = .ok (.invokevirtual 107, 3) := by decide +kernel
theorem dX2_aboutThing_86 : decode cX2_aboutThing 86 = .ok (.ireturn, 1) := by decide +kernel
set_option maxRecDepth 20000 in
theorem ggX2_aboutGrant_X3_at : GoodIn wsX2_aboutGrant wsX3_at := goodIn_r _ [6, 7, 8, 9, 26, 27, 28, 29] (by decide +kernel) (by decide +kernel)
set_option maxRecDepth 20000 in
theorem gX2_aboutGrant_X3_at : GoodIn wsX2_aboutGrant (wsV RX2 60 RX3 yX3_at wsX3_at) := goodIn_app (goodIn_of _ (by decide +kernel)) ggX2_aboutGrant_X3_at
set_option maxRecDepth 20000 in
theorem ggX2_aboutGrant_X2_passedOn : GoodIn wsX2_aboutGrant wsX2_passedOn := goodIn_r _ [14, 1, 15, 16, 2, 3, 4, 5, 6, 7, 8, 9, 17, 18, 19, 20, 21, 22, 23, 24, 25, 26, 27, 28, 29] (by decide +kernel) (by decide +kernel)
set_option maxRecDepth 20000 in
theorem gX2_aboutGrant_X2_passedOn : GoodIn wsX2_aboutGrant (wsV RX2 123 RX2 yX2_passedOn wsX2_passedOn) := goodIn_app (goodIn_of _ (by decide +kernel)) ggX2_aboutGrant_X2_passedOn
theorem dX2_aboutGrant_0 : decode cX2_aboutGrant 0 = .ok (.iload_n 2, 1) := by decide +kernel
theorem dX2_aboutGrant_1 : decode cX2_aboutGrant 1 = .ok (.iconst 4, 1) := by decide +kernel
theorem dX2_aboutGrant_2 : decode cX2_aboutGrant 2 = .ok (.if_icmp .gt 15, 3) := by decide +kernel
theorem dX2_aboutGrant_5 : decode cX2_aboutGrant 5 = .ok (.aload_n 0, 1) := by decide +kernel
theorem dX2_aboutGrant_6 : decode cX2_aboutGrant 6 = .ok (.getfield 23, 3) := by decide +kernel
theorem dX2_aboutGrant_9 : decode cX2_aboutGrant 9 = .ok (.iload_n 1, 1) := by decide +kernel
theorem dX2_aboutGrant_10 : decode cX2_aboutGrant 10 = .ok (.iload_n 2, 1) := by decide +kernel
theorem dX2_aboutGrant_11 : decode cX2_aboutGrant 11 = .ok (.invokevirtual 60, 3) := by decide +kernel
theorem dX2_aboutGrant_14 : decode cX2_aboutGrant 14 = .ok (.goto 8, 3) := by decide +kernel
theorem dX2_aboutGrant_17 : decode cX2_aboutGrant 17 = .ok (.aload_n 0, 1) := by decide +kernel
theorem dX2_aboutGrant_18 : decode cX2_aboutGrant 18 = .ok (.iload_n 1, 1) := by decide +kernel
theorem dX2_aboutGrant_19 : decode cX2_aboutGrant 19 = .ok (.invokevirtual 123, 3) := by decide +kernel
theorem dX2_aboutGrant_22 : decode cX2_aboutGrant 22 = .ok (.ireturn, 1) := by decide +kernel
set_option maxRecDepth 20000 in
theorem ggX2_aboutHouse_X3_rows : GoodIn wsX2_aboutHouse wsX3_rows := goodIn_r _ [12, 13, 54, 55, 56, 57] (by decide +kernel) (by decide +kernel)
set_option maxRecDepth 20000 in
theorem gX2_aboutHouse_X3_rows : GoodIn wsX2_aboutHouse (wsV RX2 104 RX3 yX3_rows wsX3_rows) := goodIn_app (goodIn_of _ (by decide +kernel)) ggX2_aboutHouse_X3_rows
set_option maxRecDepth 20000 in
theorem ggX2_aboutHouse_X2_countPairs : GoodIn wsX2_aboutHouse wsX2_countPairs := goodIn_r _ [18, 1, 8, 9, 10, 11, 12, 13, 19, 20, 21, 17, 22, 23, 24, 25, 26, 27, 28, 29, 30, 31, 32, 33, 34, 35, 36, 45, 46, 47, 48, 49, 50, 51, 52, 53, 54, 55, 56, 57] (by decide +kernel) (by decide +kernel)
set_option maxRecDepth 20000 in
theorem gX2_aboutHouse_X2_countPairs : GoodIn wsX2_aboutHouse (wsV RX2 82 RX2 yX2_countPairs wsX2_countPairs) := goodIn_app (goodIn_of _ (by decide +kernel)) ggX2_aboutHouse_X2_countPairs
set_option maxRecDepth 20000 in
theorem ggX2_aboutHouse_X2_countIdleGrants : GoodIn wsX2_aboutHouse wsX2_countIdleGrants := goodIn_r _ [40, 2, 8, 9, 10, 11, 12, 13, 41, 42, 43, 17, 44, 23, 1, 24, 25, 26, 27, 28, 29, 45, 46, 47, 48, 49, 50, 51, 52, 53, 54, 55, 56, 57] (by decide +kernel) (by decide +kernel)
set_option maxRecDepth 20000 in
theorem gX2_aboutHouse_X2_countIdleGrants : GoodIn wsX2_aboutHouse (wsV RX2 126 RX2 yX2_countIdleGrants wsX2_countIdleGrants) := goodIn_app (goodIn_of _ (by decide +kernel)) ggX2_aboutHouse_X2_countIdleGrants
theorem dX2_aboutHouse_0 : decode cX2_aboutHouse 0 = .ok (.iload_n 1, 1) := by decide +kernel
theorem dX2_aboutHouse_1 : decode cX2_aboutHouse 1 = .ok (.tableswitch 93 0 7 #[47, 55, 63, 68, 73, 78, 83, 88], 47) := by decide +kernel
theorem dX2_aboutHouse_48 : decode cX2_aboutHouse 48 = .ok (.aload_n 0, 1) := by decide +kernel
theorem dX2_aboutHouse_49 : decode cX2_aboutHouse 49 = .ok (.getfield 20, 3) := by decide +kernel
theorem dX2_aboutHouse_52 : decode cX2_aboutHouse 52 = .ok (.invokevirtual 104, 3) := by decide +kernel
theorem dX2_aboutHouse_55 : decode cX2_aboutHouse 55 = .ok (.ireturn, 1) := by decide +kernel
theorem dX2_aboutHouse_56 : decode cX2_aboutHouse 56 = .ok (.aload_n 0, 1) := by decide +kernel
theorem dX2_aboutHouse_57 : decode cX2_aboutHouse 57 = .ok (.getfield 23, 3) := by decide +kernel
theorem dX2_aboutHouse_60 : decode cX2_aboutHouse 60 = .ok (.invokevirtual 104, 3) := by decide +kernel
theorem dX2_aboutHouse_63 : decode cX2_aboutHouse 63 = .ok (.ireturn, 1) := by decide +kernel
theorem dX2_aboutHouse_64 : decode cX2_aboutHouse 64 = .ok (.aload_n 0, 1) := by decide +kernel
theorem dX2_aboutHouse_65 : decode cX2_aboutHouse 65 = .ok (.getfield 44, 3) := by decide +kernel
theorem dX2_aboutHouse_68 : decode cX2_aboutHouse 68 = .ok (.ireturn, 1) := by decide +kernel
theorem dX2_aboutHouse_69 : decode cX2_aboutHouse 69 = .ok (.aload_n 0, 1) := by decide +kernel
theorem dX2_aboutHouse_70 : decode cX2_aboutHouse 70 = .ok (.getfield 48, 3) := by decide +kernel
theorem dX2_aboutHouse_73 : decode cX2_aboutHouse 73 = .ok (.ireturn, 1) := by decide +kernel
theorem dX2_aboutHouse_74 : decode cX2_aboutHouse 74 = .ok (.aload_n 0, 1) := by decide +kernel
theorem dX2_aboutHouse_75 : decode cX2_aboutHouse 75 = .ok (.getfield 51, 3) := by decide +kernel
theorem dX2_aboutHouse_78 : decode cX2_aboutHouse 78 = .ok (.ireturn, 1) := by decide +kernel
theorem dX2_aboutHouse_79 : decode cX2_aboutHouse 79 = .ok (.aload_n 0, 1) := by decide +kernel
theorem dX2_aboutHouse_80 : decode cX2_aboutHouse 80 = .ok (.getfield 54, 3) := by decide +kernel
theorem dX2_aboutHouse_83 : decode cX2_aboutHouse 83 = .ok (.ireturn, 1) := by decide +kernel
theorem dX2_aboutHouse_84 : decode cX2_aboutHouse 84 = .ok (.aload_n 0, 1) := by decide +kernel
theorem dX2_aboutHouse_85 : decode cX2_aboutHouse 85 = .ok (.invokevirtual 82, 3) := by decide +kernel
theorem dX2_aboutHouse_88 : decode cX2_aboutHouse 88 = .ok (.ireturn, 1) := by decide +kernel
theorem dX2_aboutHouse_89 : decode cX2_aboutHouse 89 = .ok (.aload_n 0, 1) := by decide +kernel
theorem dX2_aboutHouse_90 : decode cX2_aboutHouse 90 = .ok (.invokevirtual 126, 3) := by decide +kernel
theorem dX2_aboutHouse_93 : decode cX2_aboutHouse 93 = .ok (.ireturn, 1) := by decide +kernel
theorem dX2_aboutHouse_94 : decode cX2_aboutHouse 94 = .ok (.aload_n 0, 1) := by decide +kernel
theorem dX2_aboutHouse_95 : decode cX2_aboutHouse 95 = .ok (.getfield 26, 3) := by decide +kernel
theorem dX2_aboutHouse_98 : decode cX2_aboutHouse 98 = .ok (.invokevirtual 104, 3) := by decide +kernel
theorem dX2_aboutHouse_101 : decode cX2_aboutHouse 101 = .ok (.ireturn, 1) := by decide +kernel
