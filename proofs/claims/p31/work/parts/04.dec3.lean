set_option maxRecDepth 20000 in
theorem ggX2_reasonAgainst_X2_rightsOf : GoodIn wsX2_reasonAgainst wsX2_rightsOf := goodIn_r _ [11, 12, 13, 14, 15, 16, 17, 18, 19, 20, 29, 30, 31, 32, 33, 34, 35, 36, 37, 38, 39, 40, 41] (by decide +kernel) (by decide +kernel)
set_option maxRecDepth 20000 in
theorem gX2_reasonAgainst_X2_rightsOf : GoodIn wsX2_reasonAgainst (wsV RX2 75 RX2 yX2_rightsOf wsX2_rightsOf) := goodIn_app (goodIn_of _ (by decide +kernel)) ggX2_reasonAgainst_X2_rightsOf
set_option maxRecDepth 20000 in
theorem ggX2_reasonAgainst_X3_at : GoodIn wsX2_reasonAgainst wsX3_at := goodIn_r _ [17, 18, 19, 20, 38, 39, 40, 41] (by decide +kernel) (by decide +kernel)
set_option maxRecDepth 20000 in
theorem gX2_reasonAgainst_X3_at : GoodIn wsX2_reasonAgainst (wsV RX2 60 RX3 yX3_at wsX3_at) := goodIn_app (goodIn_of _ (by decide +kernel)) ggX2_reasonAgainst_X3_at
set_option maxRecDepth 20000 in
theorem ggX2_reasonAgainst_X3_rows : GoodIn wsX2_reasonAgainst wsX3_rows := goodIn_r _ [24, 18, 38, 39, 40, 41] (by decide +kernel) (by decide +kernel)
set_option maxRecDepth 20000 in
theorem gX2_reasonAgainst_X3_rows : GoodIn wsX2_reasonAgainst (wsV RX2 104 RX3 yX3_rows wsX3_rows) := goodIn_app (goodIn_of _ (by decide +kernel)) ggX2_reasonAgainst_X3_rows
set_option maxRecDepth 20000 in
theorem ggX2_reasonAgainst_X2_isGrantOf : GoodIn wsX2_reasonAgainst wsX2_isGrantOf := goodIn_r _ [28, 2, 13, 14, 15, 16, 17, 18, 19, 20, 29, 30, 31, 32, 33, 34, 35, 36, 37, 38, 39, 40, 41] (by decide +kernel) (by decide +kernel)
set_option maxRecDepth 20000 in
theorem gX2_reasonAgainst_X2_isGrantOf : GoodIn wsX2_reasonAgainst (wsV RX2 129 RX2 yX2_isGrantOf wsX2_isGrantOf) := goodIn_app (goodIn_of _ (by decide +kernel)) ggX2_reasonAgainst_X2_isGrantOf
theorem dX2_reasonAgainst_0 : decode cX2_reasonAgainst 0 = .ok (.aload_n 0, 1) := by decide +kernel
theorem dX2_reasonAgainst_1 : decode cX2_reasonAgainst 1 = .ok (.iload_n 1, 1) := by decide +kernel
theorem dX2_reasonAgainst_2 : decode cX2_reasonAgainst 2 = .ok (.iload_n 2, 1) := by decide +kernel
theorem dX2_reasonAgainst_3 : decode cX2_reasonAgainst 3 = .ok (.invokevirtual 75, 3) := by decide +kernel
theorem dX2_reasonAgainst_6 : decode cX2_reasonAgainst 6 = .ok (.iload_n 3, 1) := by decide +kernel
theorem dX2_reasonAgainst_7 : decode cX2_reasonAgainst 7 = .ok (.iand, 1) := by decide +kernel
theorem dX2_reasonAgainst_8 : decode cX2_reasonAgainst 8 = .ok (.ifCond .eq 5, 3) := by decide +kernel
theorem dX2_reasonAgainst_11 : decode cX2_reasonAgainst 11 = .ok (.iconst 0, 1) := by decide +kernel
theorem dX2_reasonAgainst_12 : decode cX2_reasonAgainst 12 = .ok (.ireturn, 1) := by decide +kernel
theorem dX2_reasonAgainst_13 : decode cX2_reasonAgainst 13 = .ok (.aload_n 0, 1) := by decide +kernel
theorem dX2_reasonAgainst_14 : decode cX2_reasonAgainst 14 = .ok (.getfield 20, 3) := by decide +kernel
theorem dX2_reasonAgainst_17 : decode cX2_reasonAgainst 17 = .ok (.iload_n 2, 1) := by decide +kernel
theorem dX2_reasonAgainst_18 : decode cX2_reasonAgainst 18 = .ok (.iconst 1, 1) := by decide +kernel
theorem dX2_reasonAgainst_19 : decode cX2_reasonAgainst 19 = .ok (.invokevirtual 60, 3) := by decide +kernel
theorem dX2_reasonAgainst_22 : decode cX2_reasonAgainst 22 = .ok (.iload_n 3, 1) := by decide +kernel
theorem dX2_reasonAgainst_23 : decode cX2_reasonAgainst 23 = .ok (.iand, 1) := by decide +kernel
theorem dX2_reasonAgainst_24 : decode cX2_reasonAgainst 24 = .ok (.ifCond .ne 5, 3) := by decide +kernel
theorem dX2_reasonAgainst_27 : decode cX2_reasonAgainst 27 = .ok (.iconst 1, 1) := by decide +kernel
theorem dX2_reasonAgainst_28 : decode cX2_reasonAgainst 28 = .ok (.ireturn, 1) := by decide +kernel
theorem dX2_reasonAgainst_29 : decode cX2_reasonAgainst 29 = .ok (.iconst 2, 1) := by decide +kernel
theorem dX2_reasonAgainst_30 : decode cX2_reasonAgainst 30 = .ok (.istore 4, 2) := by decide +kernel
theorem dX2_reasonAgainst_32 : decode cX2_reasonAgainst 32 = .ok (.iconst 0, 1) := by decide +kernel
theorem dX2_reasonAgainst_33 : decode cX2_reasonAgainst 33 = .ok (.istore 5, 2) := by decide +kernel
theorem dX2_reasonAgainst_35 : decode cX2_reasonAgainst 35 = .ok (.iload 5, 2) := by decide +kernel
theorem dX2_reasonAgainst_37 : decode cX2_reasonAgainst 37 = .ok (.aload_n 0, 1) := by decide +kernel
theorem dX2_reasonAgainst_38 : decode cX2_reasonAgainst 38 = .ok (.getfield 23, 3) := by decide +kernel
theorem dX2_reasonAgainst_41 : decode cX2_reasonAgainst 41 = .ok (.invokevirtual 104, 3) := by decide +kernel
theorem dX2_reasonAgainst_44 : decode cX2_reasonAgainst 44 = .ok (.if_icmp .ge 57, 3) := by decide +kernel
theorem dX2_reasonAgainst_47 : decode cX2_reasonAgainst 47 = .ok (.aload_n 0, 1) := by decide +kernel
theorem dX2_reasonAgainst_48 : decode cX2_reasonAgainst 48 = .ok (.iload 5, 2) := by decide +kernel
theorem dX2_reasonAgainst_50 : decode cX2_reasonAgainst 50 = .ok (.iload_n 1, 1) := by decide +kernel
theorem dX2_reasonAgainst_51 : decode cX2_reasonAgainst 51 = .ok (.iload_n 2, 1) := by decide +kernel
theorem dX2_reasonAgainst_52 : decode cX2_reasonAgainst 52 = .ok (.iload_n 3, 1) := by decide +kernel
theorem dX2_reasonAgainst_53 : decode cX2_reasonAgainst 53 = .ok (.invokevirtual 129, 3) := by decide +kernel
theorem dX2_reasonAgainst_56 : decode cX2_reasonAgainst 56 = .ok (.ifCond .eq 39, 3) := by decide +kernel
theorem dX2_reasonAgainst_59 : decode cX2_reasonAgainst 59 = .ok (.aload_n 0, 1) := by decide +kernel
theorem dX2_reasonAgainst_60 : decode cX2_reasonAgainst 60 = .ok (.aload_n 0, 1) := by decide +kernel
theorem dX2_reasonAgainst_61 : decode cX2_reasonAgainst 61 = .ok (.getfield 23, 3) := by decide +kernel
theorem dX2_reasonAgainst_64 : decode cX2_reasonAgainst 64 = .ok (.iload 5, 2) := by decide +kernel
theorem dX2_reasonAgainst_66 : decode cX2_reasonAgainst 66 = .ok (.iconst 0, 1) := by decide +kernel
theorem dX2_reasonAgainst_67 : decode cX2_reasonAgainst 67 = .ok (.invokevirtual 60, 3) := by decide +kernel
theorem dX2_reasonAgainst_70 : decode cX2_reasonAgainst 70 = .ok (.iload_n 2, 1) := by decide +kernel
theorem dX2_reasonAgainst_71 : decode cX2_reasonAgainst 71 = .ok (.invokevirtual 75, 3) := by decide +kernel
theorem dX2_reasonAgainst_74 : decode cX2_reasonAgainst 74 = .ok (.istore 6, 2) := by decide +kernel
theorem dX2_reasonAgainst_76 : decode cX2_reasonAgainst 76 = .ok (.iload 4, 2) := by decide +kernel
theorem dX2_reasonAgainst_78 : decode cX2_reasonAgainst 78 = .ok (.iload 6, 2) := by decide +kernel
theorem dX2_reasonAgainst_80 : decode cX2_reasonAgainst 80 = .ok (.iconst 4, 1) := by decide +kernel
theorem dX2_reasonAgainst_81 : decode cX2_reasonAgainst 81 = .ok (.iand, 1) := by decide +kernel
theorem dX2_reasonAgainst_82 : decode cX2_reasonAgainst 82 = .ok (.ifCond .ne 7, 3) := by decide +kernel
theorem dX2_reasonAgainst_85 : decode cX2_reasonAgainst 85 = .ok (.iconst 3, 1) := by decide +kernel
theorem dX2_reasonAgainst_86 : decode cX2_reasonAgainst 86 = .ok (.goto 4, 3) := by decide +kernel
theorem dX2_reasonAgainst_89 : decode cX2_reasonAgainst 89 = .ok (.iconst 4, 1) := by decide +kernel
theorem dX2_reasonAgainst_90 : decode cX2_reasonAgainst 90 = .ok (.invokestatic 94, 3) := by decide +kernel
theorem dX2_reasonAgainst_93 : decode cX2_reasonAgainst 93 = .ok (.istore 4, 2) := by decide +kernel
theorem dX2_reasonAgainst_95 : decode cX2_reasonAgainst 95 = .ok (.iinc 5 1, 3) := by decide +kernel
theorem dX2_reasonAgainst_98 : decode cX2_reasonAgainst 98 = .ok (.goto (-63), 3) := by decide +kernel
theorem dX2_reasonAgainst_101 : decode cX2_reasonAgainst 101 = .ok (.iload 4, 2) := by decide +kernel
theorem dX2_reasonAgainst_103 : decode cX2_reasonAgainst 103 = .ok (.ireturn, 1) := by decide +kernel
set_option maxRecDepth 20000 in
theorem ggX2_isGrantOf_X3_at : GoodIn wsX2_isGrantOf wsX3_at := goodIn_r _ [6, 7, 8, 9, 19, 20, 21, 22] (by decide +kernel) (by decide +kernel)
set_option maxRecDepth 20000 in
theorem gX2_isGrantOf_X3_at : GoodIn wsX2_isGrantOf (wsV RX2 60 RX3 yX3_at wsX3_at) := goodIn_app (goodIn_of _ (by decide +kernel)) ggX2_isGrantOf_X3_at
theorem dX2_isGrantOf_0 : decode cX2_isGrantOf 0 = .ok (.aload_n 0, 1) := by decide +kernel
theorem dX2_isGrantOf_1 : decode cX2_isGrantOf 1 = .ok (.getfield 23, 3) := by decide +kernel
theorem dX2_isGrantOf_4 : decode cX2_isGrantOf 4 = .ok (.iload_n 1, 1) := by decide +kernel
theorem dX2_isGrantOf_5 : decode cX2_isGrantOf 5 = .ok (.iconst 1, 1) := by decide +kernel
theorem dX2_isGrantOf_6 : decode cX2_isGrantOf 6 = .ok (.invokevirtual 60, 3) := by decide +kernel
theorem dX2_isGrantOf_9 : decode cX2_isGrantOf 9 = .ok (.iload_n 2, 1) := by decide +kernel
theorem dX2_isGrantOf_10 : decode cX2_isGrantOf 10 = .ok (.if_icmp .ne 35, 3) := by decide +kernel
theorem dX2_isGrantOf_13 : decode cX2_isGrantOf 13 = .ok (.aload_n 0, 1) := by decide +kernel
theorem dX2_isGrantOf_14 : decode cX2_isGrantOf 14 = .ok (.getfield 23, 3) := by decide +kernel
theorem dX2_isGrantOf_17 : decode cX2_isGrantOf 17 = .ok (.iload_n 1, 1) := by decide +kernel
theorem dX2_isGrantOf_18 : decode cX2_isGrantOf 18 = .ok (.iconst 2, 1) := by decide +kernel
theorem dX2_isGrantOf_19 : decode cX2_isGrantOf 19 = .ok (.invokevirtual 60, 3) := by decide +kernel
theorem dX2_isGrantOf_22 : decode cX2_isGrantOf 22 = .ok (.iload_n 3, 1) := by decide +kernel
theorem dX2_isGrantOf_23 : decode cX2_isGrantOf 23 = .ok (.if_icmp .ne 22, 3) := by decide +kernel
theorem dX2_isGrantOf_26 : decode cX2_isGrantOf 26 = .ok (.aload_n 0, 1) := by decide +kernel
theorem dX2_isGrantOf_27 : decode cX2_isGrantOf 27 = .ok (.getfield 23, 3) := by decide +kernel
theorem dX2_isGrantOf_30 : decode cX2_isGrantOf 30 = .ok (.iload_n 1, 1) := by decide +kernel
theorem dX2_isGrantOf_31 : decode cX2_isGrantOf 31 = .ok (.iconst 3, 1) := by decide +kernel
theorem dX2_isGrantOf_32 : decode cX2_isGrantOf 32 = .ok (.invokevirtual 60, 3) := by decide +kernel
theorem dX2_isGrantOf_35 : decode cX2_isGrantOf 35 = .ok (.iload 4, 2) := by decide +kernel
theorem dX2_isGrantOf_37 : decode cX2_isGrantOf 37 = .ok (.iand, 1) := by decide +kernel
theorem dX2_isGrantOf_38 : decode cX2_isGrantOf 38 = .ok (.ifCond .eq 7, 3) := by decide +kernel
theorem dX2_isGrantOf_41 : decode cX2_isGrantOf 41 = .ok (.iconst 1, 1) := by decide +kernel
theorem dX2_isGrantOf_42 : decode cX2_isGrantOf 42 = .ok (.goto 4, 3) := by decide +kernel
theorem dX2_isGrantOf_45 : decode cX2_isGrantOf 45 = .ok (.iconst 0, 1) := by decide +kernel
theorem dX2_isGrantOf_46 : decode cX2_isGrantOf 46 = .ok (.ireturn, 1) := by decide +kernel
set_option maxRecDepth 20000 in
theorem ggX2_settle_X3_rows : GoodIn wsX2_settle wsX3_rows := goodIn_r _ [8, 9, 34, 35, 36, 37] (by decide +kernel) (by decide +kernel)
set_option maxRecDepth 20000 in
theorem gX2_settle_X3_rows : GoodIn wsX2_settle (wsV RX2 104 RX3 yX3_rows wsX3_rows) := goodIn_app (goodIn_of _ (by decide +kernel)) ggX2_settle_X3_rows
set_option maxRecDepth 20000 in
theorem ggX2_settle_X3_at : GoodIn wsX2_settle wsX3_at := goodIn_r _ [13, 9, 14, 15, 34, 35, 36, 37] (by decide +kernel) (by decide +kernel)
set_option maxRecDepth 20000 in
theorem gX2_settle_X3_at : GoodIn wsX2_settle (wsV RX2 60 RX3 yX3_at wsX3_at) := goodIn_app (goodIn_of _ (by decide +kernel)) ggX2_settle_X3_at
set_option maxRecDepth 20000 in
theorem ggX2_settle_X3_put : GoodIn wsX2_settle wsX3_put := goodIn_r _ [19, 9, 14, 15, 34, 35, 36, 37] (by decide +kernel) (by decide +kernel)
set_option maxRecDepth 20000 in
theorem gX2_settle_X3_put : GoodIn wsX2_settle (wsV RX2 36 RX3 yX3_put wsX3_put) := goodIn_app (goodIn_of _ (by decide +kernel)) ggX2_settle_X3_put
set_option maxRecDepth 20000 in
theorem ggX2_settle_X2_passedOn : GoodIn wsX2_settle wsX2_passedOn := goodIn_r _ [24, 3, 2, 1, 10, 11, 12, 7, 13, 9, 14, 15, 25, 26, 27, 28, 29, 30, 31, 32, 33, 34, 35, 36, 37] (by decide +kernel) (by decide +kernel)
set_option maxRecDepth 20000 in
theorem gX2_settle_X2_passedOn : GoodIn wsX2_settle (wsV RX2 123 RX2 yX2_passedOn wsX2_passedOn) := goodIn_app (goodIn_of _ (by decide +kernel)) ggX2_settle_X2_passedOn
theorem dX2_settle_0 : decode cX2_settle 0 = .ok (.iconst 0, 1) := by decide +kernel
theorem dX2_settle_1 : decode cX2_settle 1 = .ok (.istore_n 1, 1) := by decide +kernel
theorem dX2_settle_2 : decode cX2_settle 2 = .ok (.iload_n 1, 1) := by decide +kernel
theorem dX2_settle_3 : decode cX2_settle 3 = .ok (.aload_n 0, 1) := by decide +kernel
theorem dX2_settle_4 : decode cX2_settle 4 = .ok (.getfield 20, 3) := by decide +kernel
theorem dX2_settle_7 : decode cX2_settle 7 = .ok (.invokevirtual 104, 3) := by decide +kernel
theorem dX2_settle_10 : decode cX2_settle 10 = .ok (.if_icmp .ge 51, 3) := by decide +kernel
theorem dX2_settle_13 : decode cX2_settle 13 = .ok (.iconst 0, 1) := by decide +kernel
theorem dX2_settle_14 : decode cX2_settle 14 = .ok (.istore_n 2, 1) := by decide +kernel
theorem dX2_settle_15 : decode cX2_settle 15 = .ok (.iload_n 2, 1) := by decide +kernel
theorem dX2_settle_16 : decode cX2_settle 16 = .ok (.bipush 10, 2) := by decide +kernel
theorem dX2_settle_18 : decode cX2_settle 18 = .ok (.if_icmp .ge 37, 3) := by decide +kernel
theorem dX2_settle_21 : decode cX2_settle 21 = .ok (.aload_n 0, 1) := by decide +kernel
theorem dX2_settle_22 : decode cX2_settle 22 = .ok (.getfield 29, 3) := by decide +kernel
theorem dX2_settle_25 : decode cX2_settle 25 = .ok (.iload_n 1, 1) := by decide +kernel
theorem dX2_settle_26 : decode cX2_settle 26 = .ok (.iload_n 2, 1) := by decide +kernel
theorem dX2_settle_27 : decode cX2_settle 27 = .ok (.iload_n 2, 1) := by decide +kernel
theorem dX2_settle_28 : decode cX2_settle 28 = .ok (.aload_n 0, 1) := by decide +kernel
theorem dX2_settle_29 : decode cX2_settle 29 = .ok (.getfield 20, 3) := by decide +kernel
theorem dX2_settle_32 : decode cX2_settle 32 = .ok (.iload_n 1, 1) := by decide +kernel
theorem dX2_settle_33 : decode cX2_settle 33 = .ok (.iconst 0, 1) := by decide +kernel
theorem dX2_settle_34 : decode cX2_settle 34 = .ok (.invokevirtual 60, 3) := by decide +kernel
theorem dX2_settle_37 : decode cX2_settle 37 = .ok (.if_icmp .ne 8, 3) := by decide +kernel
theorem dX2_settle_40 : decode cX2_settle 40 = .ok (.bipush 7, 2) := by decide +kernel
theorem dX2_settle_42 : decode cX2_settle 42 = .ok (.goto 4, 3) := by decide +kernel
theorem dX2_settle_45 : decode cX2_settle 45 = .ok (.iconst 0, 1) := by decide +kernel
theorem dX2_settle_46 : decode cX2_settle 46 = .ok (.invokevirtual 36, 3) := by decide +kernel
theorem dX2_settle_49 : decode cX2_settle 49 = .ok (.iinc 2 1, 3) := by decide +kernel
theorem dX2_settle_52 : decode cX2_settle 52 = .ok (.goto (-37), 3) := by decide +kernel
theorem dX2_settle_55 : decode cX2_settle 55 = .ok (.iinc 1 1, 3) := by decide +kernel
theorem dX2_settle_58 : decode cX2_settle 58 = .ok (.goto (-56), 3) := by decide +kernel
theorem dX2_settle_61 : decode cX2_settle 61 = .ok (.iconst 1, 1) := by decide +kernel
theorem dX2_settle_62 : decode cX2_settle 62 = .ok (.istore_n 1, 1) := by decide +kernel
theorem dX2_settle_63 : decode cX2_settle 63 = .ok (.iconst 0, 1) := by decide +kernel
theorem dX2_settle_64 : decode cX2_settle 64 = .ok (.istore_n 2, 1) := by decide +kernel
theorem dX2_settle_65 : decode cX2_settle 65 = .ok (.iload_n 2, 1) := by decide +kernel
theorem dX2_settle_66 : decode cX2_settle 66 = .ok (.sipush 241, 3) := by decide +kernel
theorem dX2_settle_69 : decode cX2_settle 69 = .ok (.if_icmp .ge 109, 3) := by decide +kernel
theorem dX2_settle_72 : decode cX2_settle 72 = .ok (.iload_n 1, 1) := by decide +kernel
theorem dX2_settle_73 : decode cX2_settle 73 = .ok (.ifCond .eq 105, 3) := by decide +kernel
theorem dX2_settle_76 : decode cX2_settle 76 = .ok (.iconst 0, 1) := by decide +kernel
theorem dX2_settle_77 : decode cX2_settle 77 = .ok (.istore_n 1, 1) := by decide +kernel
theorem dX2_settle_78 : decode cX2_settle 78 = .ok (.iconst 0, 1) := by decide +kernel
theorem dX2_settle_79 : decode cX2_settle 79 = .ok (.istore_n 3, 1) := by decide +kernel
theorem dX2_settle_80 : decode cX2_settle 80 = .ok (.iload_n 3, 1) := by decide +kernel
theorem dX2_settle_81 : decode cX2_settle 81 = .ok (.aload_n 0, 1) := by decide +kernel
theorem dX2_settle_82 : decode cX2_settle 82 = .ok (.getfield 23, 3) := by decide +kernel
theorem dX2_settle_85 : decode cX2_settle 85 = .ok (.invokevirtual 104, 3) := by decide +kernel
theorem dX2_settle_88 : decode cX2_settle 88 = .ok (.if_icmp .ge 84, 3) := by decide +kernel
theorem dX2_settle_91 : decode cX2_settle 91 = .ok (.aload_n 0, 1) := by decide +kernel
theorem dX2_settle_92 : decode cX2_settle 92 = .ok (.getfield 23, 3) := by decide +kernel
theorem dX2_settle_95 : decode cX2_settle 95 = .ok (.iload_n 3, 1) := by decide +kernel
theorem dX2_settle_96 : decode cX2_settle 96 = .ok (.iconst 2, 1) := by decide +kernel
theorem dX2_settle_97 : decode cX2_settle 97 = .ok (.invokevirtual 60, 3) := by decide +kernel
theorem dX2_settle_100 : decode cX2_settle 100 = .ok (.istore 4, 2) := by decide +kernel
theorem dX2_settle_102 : decode cX2_settle 102 = .ok (.aload_n 0, 1) := by decide +kernel
theorem dX2_settle_103 : decode cX2_settle 103 = .ok (.getfield 23, 3) := by decide +kernel
theorem dX2_settle_106 : decode cX2_settle 106 = .ok (.iload_n 3, 1) := by decide +kernel
theorem dX2_settle_107 : decode cX2_settle 107 = .ok (.iconst 1, 1) := by decide +kernel
theorem dX2_settle_108 : decode cX2_settle 108 = .ok (.invokevirtual 60, 3) := by decide +kernel
theorem dX2_settle_111 : decode cX2_settle 111 = .ok (.istore 5, 2) := by decide +kernel
theorem dX2_settle_113 : decode cX2_settle 113 = .ok (.aload_n 0, 1) := by decide +kernel
theorem dX2_settle_114 : decode cX2_settle 114 = .ok (.getfield 29, 3) := by decide +kernel
theorem dX2_settle_117 : decode cX2_settle 117 = .ok (.iload 4, 2) := by decide +kernel
theorem dX2_settle_119 : decode cX2_settle 119 = .ok (.iload 5, 2) := by decide +kernel
theorem dX2_settle_121 : decode cX2_settle 121 = .ok (.invokevirtual 60, 3) := by decide +kernel
theorem dX2_settle_124 : decode cX2_settle 124 = .ok (.istore 6, 2) := by decide +kernel
theorem dX2_settle_126 : decode cX2_settle 126 = .ok (.iload 6, 2) := by decide +kernel
theorem dX2_settle_128 : decode cX2_settle 128 = .ok (.aload_n 0, 1) := by decide +kernel
theorem dX2_settle_129 : decode cX2_settle 129 = .ok (.iload_n 3, 1) := by decide +kernel
theorem dX2_settle_130 : decode cX2_settle 130 = .ok (.invokevirtual 123, 3) := by decide +kernel
theorem dX2_settle_133 : decode cX2_settle 133 = .ok (.ior, 1) := by decide +kernel
theorem dX2_settle_134 : decode cX2_settle 134 = .ok (.istore 7, 2) := by decide +kernel
theorem dX2_settle_136 : decode cX2_settle 136 = .ok (.aload_n 0, 1) := by decide +kernel
theorem dX2_settle_137 : decode cX2_settle 137 = .ok (.getfield 29, 3) := by decide +kernel
theorem dX2_settle_140 : decode cX2_settle 140 = .ok (.iload 4, 2) := by decide +kernel
theorem dX2_settle_142 : decode cX2_settle 142 = .ok (.iload 5, 2) := by decide +kernel
theorem dX2_settle_144 : decode cX2_settle 144 = .ok (.iload 7, 2) := by decide +kernel
theorem dX2_settle_146 : decode cX2_settle 146 = .ok (.invokevirtual 36, 3) := by decide +kernel
theorem dX2_settle_149 : decode cX2_settle 149 = .ok (.iload_n 1, 1) := by decide +kernel
theorem dX2_settle_150 : decode cX2_settle 150 = .ok (.ifCond .ne 10, 3) := by decide +kernel
theorem dX2_settle_153 : decode cX2_settle 153 = .ok (.iload 7, 2) := by decide +kernel
theorem dX2_settle_155 : decode cX2_settle 155 = .ok (.iload 6, 2) := by decide +kernel
theorem dX2_settle_157 : decode cX2_settle 157 = .ok (.if_icmp .eq 7, 3) := by decide +kernel
theorem dX2_settle_160 : decode cX2_settle 160 = .ok (.iconst 1, 1) := by decide +kernel
theorem dX2_settle_161 : decode cX2_settle 161 = .ok (.goto 4, 3) := by decide +kernel
theorem dX2_settle_164 : decode cX2_settle 164 = .ok (.iconst 0, 1) := by decide +kernel
theorem dX2_settle_165 : decode cX2_settle 165 = .ok (.istore_n 1, 1) := by decide +kernel
theorem dX2_settle_166 : decode cX2_settle 166 = .ok (.iinc 3 1, 3) := by decide +kernel
theorem dX2_settle_169 : decode cX2_settle 169 = .ok (.goto (-89), 3) := by decide +kernel
theorem dX2_settle_172 : decode cX2_settle 172 = .ok (.iinc 2 1, 3) := by decide +kernel
theorem dX2_settle_175 : decode cX2_settle 175 = .ok (.goto (-110), 3) := by decide +kernel
theorem dX2_settle_178 : decode cX2_settle 178 = .ok (.return_, 1) := by decide +kernel
set_option maxRecDepth 20000 in
theorem ggX2_calm_X3_at : GoodIn wsX2_calm wsX3_at := goodIn_r _ [6, 7, 8, 9, 23, 24, 25, 26] (by decide +kernel) (by decide +kernel)
set_option maxRecDepth 20000 in
theorem gX2_calm_X3_at : GoodIn wsX2_calm (wsV RX2 60 RX3 yX3_at wsX3_at) := goodIn_app (goodIn_of _ (by decide +kernel)) ggX2_calm_X3_at
set_option maxRecDepth 20000 in
theorem ggX2_calm_X3_put : GoodIn wsX2_calm wsX3_put := goodIn_r _ [13, 7, 8, 9, 23, 24, 25, 26] (by decide +kernel) (by decide +kernel)
set_option maxRecDepth 20000 in
theorem gX2_calm_X3_put : GoodIn wsX2_calm (wsV RX2 36 RX3 yX3_put wsX3_put) := goodIn_app (goodIn_of _ (by decide +kernel)) ggX2_calm_X3_put
theorem dX2_calm_0 : decode cX2_calm 0 = .ok (.aload_n 0, 1) := by decide +kernel
theorem dX2_calm_1 : decode cX2_calm 1 = .ok (.getfield 14, 3) := by decide +kernel
theorem dX2_calm_4 : decode cX2_calm 4 = .ok (.iload_n 1, 1) := by decide +kernel
theorem dX2_calm_5 : decode cX2_calm 5 = .ok (.iconst 0, 1) := by decide +kernel
theorem dX2_calm_6 : decode cX2_calm 6 = .ok (.invokevirtual 60, 3) := by decide +kernel
theorem dX2_calm_9 : decode cX2_calm 9 = .ok (.istore_n 2, 1) := by decide +kernel
theorem dX2_calm_10 : decode cX2_calm 10 = .ok (.aload_n 0, 1) := by decide +kernel
theorem dX2_calm_11 : decode cX2_calm 11 = .ok (.getfield 14, 3) := by decide +kernel
theorem dX2_calm_14 : decode cX2_calm 14 = .ok (.iload_n 1, 1) := by decide +kernel
theorem dX2_calm_15 : decode cX2_calm 15 = .ok (.iconst 1, 1) := by decide +kernel
theorem dX2_calm_16 : decode cX2_calm 16 = .ok (.invokevirtual 60, 3) := by decide +kernel
theorem dX2_calm_19 : decode cX2_calm 19 = .ok (.istore_n 3, 1) := by decide +kernel
theorem dX2_calm_20 : decode cX2_calm 20 = .ok (.iload_n 2, 1) := by decide +kernel
theorem dX2_calm_21 : decode cX2_calm 21 = .ok (.iload_n 3, 1) := by decide +kernel
theorem dX2_calm_22 : decode cX2_calm 22 = .ok (.if_icmp .eq 26, 3) := by decide +kernel
theorem dX2_calm_25 : decode cX2_calm 25 = .ok (.aload_n 0, 1) := by decide +kernel
theorem dX2_calm_26 : decode cX2_calm 26 = .ok (.getfield 14, 3) := by decide +kernel
theorem dX2_calm_29 : decode cX2_calm 29 = .ok (.iload_n 1, 1) := by decide +kernel
theorem dX2_calm_30 : decode cX2_calm 30 = .ok (.iconst 0, 1) := by decide +kernel
theorem dX2_calm_31 : decode cX2_calm 31 = .ok (.iload_n 2, 1) := by decide +kernel
theorem dX2_calm_32 : decode cX2_calm 32 = .ok (.iload_n 3, 1) := by decide +kernel
theorem dX2_calm_33 : decode cX2_calm 33 = .ok (.if_icmp .ge 9, 3) := by decide +kernel
theorem dX2_calm_36 : decode cX2_calm 36 = .ok (.iload_n 2, 1) := by decide +kernel
theorem dX2_calm_37 : decode cX2_calm 37 = .ok (.iconst 1, 1) := by decide +kernel
theorem dX2_calm_38 : decode cX2_calm 38 = .ok (.iadd, 1) := by decide +kernel
theorem dX2_calm_39 : decode cX2_calm 39 = .ok (.goto 6, 3) := by decide +kernel
theorem dX2_calm_42 : decode cX2_calm 42 = .ok (.iload_n 2, 1) := by decide +kernel
theorem dX2_calm_43 : decode cX2_calm 43 = .ok (.iconst 1, 1) := by decide +kernel
theorem dX2_calm_44 : decode cX2_calm 44 = .ok (.isub, 1) := by decide +kernel
theorem dX2_calm_45 : decode cX2_calm 45 = .ok (.invokevirtual 36, 3) := by decide +kernel
theorem dX2_calm_48 : decode cX2_calm 48 = .ok (.return_, 1) := by decide +kernel
set_option maxRecDepth 20000 in
theorem ggX2_buryDying_X3_rows : GoodIn wsX2_buryDying wsX3_rows := goodIn_r _ [7, 8, 53, 54, 55, 56] (by decide +kernel) (by decide +kernel)
set_option maxRecDepth 20000 in
theorem gX2_buryDying_X3_rows : GoodIn wsX2_buryDying (wsV RX2 104 RX3 yX3_rows wsX3_rows) := goodIn_app (goodIn_of _ (by decide +kernel)) ggX2_buryDying_X3_rows
set_option maxRecDepth 20000 in
theorem ggX2_buryDying_X2_isDying : GoodIn wsX2_buryDying wsX2_isDying := goodIn_r _ [13, 14, 1, 15, 16, 17, 6, 18, 8, 19, 20, 44, 45, 46, 47, 48, 49, 50, 51, 52, 53, 54, 55, 56] (by decide +kernel) (by decide +kernel)
set_option maxRecDepth 20000 in
theorem gX2_buryDying_X2_isDying : GoodIn wsX2_buryDying (wsV RX2 133 RX2 yX2_isDying wsX2_isDying) := goodIn_app (goodIn_of _ (by decide +kernel)) ggX2_buryDying_X2_isDying
set_option maxRecDepth 20000 in
theorem ggX2_buryDying_X2_enter : GoodIn wsX2_buryDying wsX2_enter := goodIn_r _ [24, 25, 1, 26, 27, 28, 29, 6, 30, 8, 31, 32, 33, 34, 35, 19, 20, 36, 37, 38, 39, 15, 16, 17, 18, 40, 41, 42, 43, 44, 45, 46, 47, 48, 49, 50, 51, 52, 53, 54, 55, 56] (by decide +kernel) (by decide +kernel)
set_option maxRecDepth 20000 in
theorem gX2_buryDying_X2_enter : GoodIn wsX2_buryDying (wsV RX2 136 RX2 yX2_enter wsX2_enter) := goodIn_app (goodIn_of _ (by decide +kernel)) ggX2_buryDying_X2_enter
set_option maxRecDepth 20000 in
theorem ggX2_buryDying_X3_drop : GoodIn wsX2_buryDying wsX3_drop := goodIn_r _ [35, 8, 19, 20, 53, 54, 55, 56] (by decide +kernel) (by decide +kernel)
set_option maxRecDepth 20000 in
theorem gX2_buryDying_X3_drop : GoodIn wsX2_buryDying (wsV RX2 85 RX3 yX3_drop wsX3_drop) := goodIn_app (goodIn_of _ (by decide +kernel)) ggX2_buryDying_X3_drop
theorem dX2_buryDying_0 : decode cX2_buryDying 0 = .ok (.iconst 0, 1) := by decide +kernel
theorem dX2_buryDying_1 : decode cX2_buryDying 1 = .ok (.istore_n 1, 1) := by decide +kernel
theorem dX2_buryDying_2 : decode cX2_buryDying 2 = .ok (.iconst 0, 1) := by decide +kernel
theorem dX2_buryDying_3 : decode cX2_buryDying 3 = .ok (.istore_n 2, 1) := by decide +kernel
theorem dX2_buryDying_4 : decode cX2_buryDying 4 = .ok (.iload_n 2, 1) := by decide +kernel
theorem dX2_buryDying_5 : decode cX2_buryDying 5 = .ok (.aload_n 0, 1) := by decide +kernel
theorem dX2_buryDying_6 : decode cX2_buryDying 6 = .ok (.getfield 23, 3) := by decide +kernel
theorem dX2_buryDying_9 : decode cX2_buryDying 9 = .ok (.invokevirtual 104, 3) := by decide +kernel
theorem dX2_buryDying_12 : decode cX2_buryDying 12 = .ok (.if_icmp .ge 25, 3) := by decide +kernel
theorem dX2_buryDying_15 : decode cX2_buryDying 15 = .ok (.aload_n 0, 1) := by decide +kernel
theorem dX2_buryDying_16 : decode cX2_buryDying 16 = .ok (.iload_n 2, 1) := by decide +kernel
theorem dX2_buryDying_17 : decode cX2_buryDying 17 = .ok (.invokevirtual 133, 3) := by decide +kernel
theorem dX2_buryDying_20 : decode cX2_buryDying 20 = .ok (.ifCond .eq 11, 3) := by decide +kernel
theorem dX2_buryDying_23 : decode cX2_buryDying 23 = .ok (.aload_n 0, 1) := by decide +kernel
theorem dX2_buryDying_24 : decode cX2_buryDying 24 = .ok (.iload_n 2, 1) := by decide +kernel
theorem dX2_buryDying_25 : decode cX2_buryDying 25 = .ok (.invokevirtual 136, 3) := by decide +kernel
theorem dX2_buryDying_28 : decode cX2_buryDying 28 = .ok (.iinc 1 1, 3) := by decide +kernel
theorem dX2_buryDying_31 : decode cX2_buryDying 31 = .ok (.iinc 2 1, 3) := by decide +kernel
theorem dX2_buryDying_34 : decode cX2_buryDying 34 = .ok (.goto (-30), 3) := by decide +kernel
theorem dX2_buryDying_37 : decode cX2_buryDying 37 = .ok (.aload_n 0, 1) := by decide +kernel
theorem dX2_buryDying_38 : decode cX2_buryDying 38 = .ok (.getfield 23, 3) := by decide +kernel
theorem dX2_buryDying_41 : decode cX2_buryDying 41 = .ok (.invokevirtual 104, 3) := by decide +kernel
theorem dX2_buryDying_44 : decode cX2_buryDying 44 = .ok (.iconst 1, 1) := by decide +kernel
theorem dX2_buryDying_45 : decode cX2_buryDying 45 = .ok (.isub, 1) := by decide +kernel
theorem dX2_buryDying_46 : decode cX2_buryDying 46 = .ok (.istore_n 2, 1) := by decide +kernel
theorem dX2_buryDying_47 : decode cX2_buryDying 47 = .ok (.iload_n 2, 1) := by decide +kernel
theorem dX2_buryDying_48 : decode cX2_buryDying 48 = .ok (.ifCond .lt 29, 3) := by decide +kernel
theorem dX2_buryDying_51 : decode cX2_buryDying 51 = .ok (.iload_n 1, 1) := by decide +kernel
theorem dX2_buryDying_52 : decode cX2_buryDying 52 = .ok (.ifCond .le 25, 3) := by decide +kernel
theorem dX2_buryDying_55 : decode cX2_buryDying 55 = .ok (.aload_n 0, 1) := by decide +kernel
theorem dX2_buryDying_56 : decode cX2_buryDying 56 = .ok (.iload_n 2, 1) := by decide +kernel
theorem dX2_buryDying_57 : decode cX2_buryDying 57 = .ok (.invokevirtual 133, 3) := by decide +kernel
theorem dX2_buryDying_60 : decode cX2_buryDying 60 = .ok (.ifCond .eq 11, 3) := by decide +kernel
theorem dX2_buryDying_63 : decode cX2_buryDying 63 = .ok (.aload_n 0, 1) := by decide +kernel
theorem dX2_buryDying_64 : decode cX2_buryDying 64 = .ok (.getfield 23, 3) := by decide +kernel
theorem dX2_buryDying_67 : decode cX2_buryDying 67 = .ok (.iload_n 2, 1) := by decide +kernel
theorem dX2_buryDying_68 : decode cX2_buryDying 68 = .ok (.invokevirtual 85, 3) := by decide +kernel
theorem dX2_buryDying_71 : decode cX2_buryDying 71 = .ok (.iinc 2 (-1), 3) := by decide +kernel
theorem dX2_buryDying_74 : decode cX2_buryDying 74 = .ok (.goto (-27), 3) := by decide +kernel
theorem dX2_buryDying_77 : decode cX2_buryDying 77 = .ok (.aload_n 0, 1) := by decide +kernel
theorem dX2_buryDying_78 : decode cX2_buryDying 78 = .ok (.dup, 1) := by decide +kernel
theorem dX2_buryDying_79 : decode cX2_buryDying 79 = .ok (.getfield 48, 3) := by decide +kernel
theorem dX2_buryDying_82 : decode cX2_buryDying 82 = .ok (.iload_n 1, 1) := by decide +kernel
theorem dX2_buryDying_83 : decode cX2_buryDying 83 = .ok (.iadd, 1) := by decide +kernel
theorem dX2_buryDying_84 : decode cX2_buryDying 84 = .ok (.putfield 48, 3) := by decide +kernel
theorem dX2_buryDying_87 : decode cX2_buryDying 87 = .ok (.iload_n 1, 1) := by decide +kernel
theorem dX2_buryDying_88 : decode cX2_buryDying 88 = .ok (.ireturn, 1) := by decide +kernel
set_option maxRecDepth 20000 in
theorem ggX2_isDying_X3_at : GoodIn wsX2_isDying wsX3_at := goodIn_r _ [7, 8, 9, 10, 20, 21, 22, 23] (by decide +kernel) (by decide +kernel)
set_option maxRecDepth 20000 in
theorem gX2_isDying_X3_at : GoodIn wsX2_isDying (wsV RX2 60 RX3 yX3_at wsX3_at) := goodIn_app (goodIn_of _ (by decide +kernel)) ggX2_isDying_X3_at
theorem dX2_isDying_0 : decode cX2_isDying 0 = .ok (.aload_n 0, 1) := by decide +kernel
theorem dX2_isDying_1 : decode cX2_isDying 1 = .ok (.getfield 14, 3) := by decide +kernel
theorem dX2_isDying_4 : decode cX2_isDying 4 = .ok (.aload_n 0, 1) := by decide +kernel
theorem dX2_isDying_5 : decode cX2_isDying 5 = .ok (.getfield 23, 3) := by decide +kernel
theorem dX2_isDying_8 : decode cX2_isDying 8 = .ok (.iload_n 1, 1) := by decide +kernel
theorem dX2_isDying_9 : decode cX2_isDying 9 = .ok (.iconst 0, 1) := by decide +kernel
theorem dX2_isDying_10 : decode cX2_isDying 10 = .ok (.invokevirtual 60, 3) := by decide +kernel
theorem dX2_isDying_13 : decode cX2_isDying 13 = .ok (.iconst 0, 1) := by decide +kernel
theorem dX2_isDying_14 : decode cX2_isDying 14 = .ok (.invokevirtual 60, 3) := by decide +kernel
theorem dX2_isDying_17 : decode cX2_isDying 17 = .ok (.aload_n 0, 1) := by decide +kernel
theorem dX2_isDying_18 : decode cX2_isDying 18 = .ok (.getfield 23, 3) := by decide +kernel
theorem dX2_isDying_21 : decode cX2_isDying 21 = .ok (.iload_n 1, 1) := by decide +kernel
theorem dX2_isDying_22 : decode cX2_isDying 22 = .ok (.iconst 4, 1) := by decide +kernel
theorem dX2_isDying_23 : decode cX2_isDying 23 = .ok (.invokevirtual 60, 3) := by decide +kernel
theorem dX2_isDying_26 : decode cX2_isDying 26 = .ok (.if_icmp .ge 7, 3) := by decide +kernel
theorem dX2_isDying_29 : decode cX2_isDying 29 = .ok (.iconst 1, 1) := by decide +kernel
theorem dX2_isDying_30 : decode cX2_isDying 30 = .ok (.goto 4, 3) := by decide +kernel
theorem dX2_isDying_33 : decode cX2_isDying 33 = .ok (.iconst 0, 1) := by decide +kernel
theorem dX2_isDying_34 : decode cX2_isDying 34 = .ok (.ireturn, 1) := by decide +kernel
set_option maxRecDepth 20000 in
theorem ggX2_enter_X3_isFull : GoodIn wsX2_enter wsX3_isFull := goodIn_r _ [8, 9, 10, 38, 39, 40, 41] (by decide +kernel) (by decide +kernel)
set_option maxRecDepth 20000 in
theorem gX2_enter_X3_isFull : GoodIn wsX2_enter (wsV RX2 78 RX3 yX3_isFull wsX3_isFull) := goodIn_app (goodIn_of _ (by decide +kernel)) ggX2_enter_X3_isFull
set_option maxRecDepth 20000 in
theorem ggX2_enter_X3_drop : GoodIn wsX2_enter wsX3_drop := goodIn_r _ [14, 9, 15, 16, 38, 39, 40, 41] (by decide +kernel) (by decide +kernel)
set_option maxRecDepth 20000 in
theorem gX2_enter_X3_drop : GoodIn wsX2_enter (wsV RX2 85 RX3 yX3_drop wsX3_drop) := goodIn_app (goodIn_of _ (by decide +kernel)) ggX2_enter_X3_drop
set_option maxRecDepth 20000 in
theorem ggX2_enter_X3_addRow : GoodIn wsX2_enter wsX3_addRow := goodIn_r _ [20, 9, 10, 38, 39, 40, 41] (by decide +kernel) (by decide +kernel)
set_option maxRecDepth 20000 in
theorem gX2_enter_X3_addRow : GoodIn wsX2_enter (wsV RX2 32 RX3 yX3_addRow wsX3_addRow) := goodIn_app (goodIn_of _ (by decide +kernel)) ggX2_enter_X3_addRow
set_option maxRecDepth 20000 in
theorem ggX2_enter_X3_at : GoodIn wsX2_enter wsX3_at := goodIn_r _ [24, 9, 15, 16, 38, 39, 40, 41] (by decide +kernel) (by decide +kernel)
set_option maxRecDepth 20000 in
theorem gX2_enter_X3_at : GoodIn wsX2_enter (wsV RX2 60 RX3 yX3_at wsX3_at) := goodIn_app (goodIn_of _ (by decide +kernel)) ggX2_enter_X3_at
set_option maxRecDepth 20000 in
theorem ggX2_enter_X3_put : GoodIn wsX2_enter wsX3_put := goodIn_r _ [28, 9, 15, 16, 38, 39, 40, 41] (by decide +kernel) (by decide +kernel)
set_option maxRecDepth 20000 in
theorem gX2_enter_X3_put : GoodIn wsX2_enter (wsV RX2 36 RX3 yX3_put wsX3_put) := goodIn_app (goodIn_of _ (by decide +kernel)) ggX2_enter_X3_put
theorem dX2_enter_0 : decode cX2_enter 0 = .ok (.aload_n 0, 1) := by decide +kernel
theorem dX2_enter_1 : decode cX2_enter 1 = .ok (.getfield 26, 3) := by decide +kernel
theorem dX2_enter_4 : decode cX2_enter 4 = .ok (.invokevirtual 78, 3) := by decide +kernel
theorem dX2_enter_7 : decode cX2_enter 7 = .ok (.ifCond .eq 11, 3) := by decide +kernel
theorem dX2_enter_10 : decode cX2_enter 10 = .ok (.aload_n 0, 1) := by decide +kernel
theorem dX2_enter_11 : decode cX2_enter 11 = .ok (.getfield 26, 3) := by decide +kernel
theorem dX2_enter_14 : decode cX2_enter 14 = .ok (.iconst 0, 1) := by decide +kernel
theorem dX2_enter_15 : decode cX2_enter 15 = .ok (.invokevirtual 85, 3) := by decide +kernel
theorem dX2_enter_18 : decode cX2_enter 18 = .ok (.aload_n 0, 1) := by decide +kernel
theorem dX2_enter_19 : decode cX2_enter 19 = .ok (.getfield 26, 3) := by decide +kernel
theorem dX2_enter_22 : decode cX2_enter 22 = .ok (.invokevirtual 32, 3) := by decide +kernel
theorem dX2_enter_25 : decode cX2_enter 25 = .ok (.istore_n 2, 1) := by decide +kernel
theorem dX2_enter_26 : decode cX2_enter 26 = .ok (.aload_n 0, 1) := by decide +kernel
theorem dX2_enter_27 : decode cX2_enter 27 = .ok (.getfield 26, 3) := by decide +kernel
theorem dX2_enter_30 : decode cX2_enter 30 = .ok (.iload_n 2, 1) := by decide +kernel
theorem dX2_enter_31 : decode cX2_enter 31 = .ok (.iconst 0, 1) := by decide +kernel
theorem dX2_enter_32 : decode cX2_enter 32 = .ok (.aload_n 0, 1) := by decide +kernel
theorem dX2_enter_33 : decode cX2_enter 33 = .ok (.getfield 23, 3) := by decide +kernel
theorem dX2_enter_36 : decode cX2_enter 36 = .ok (.iload_n 1, 1) := by decide +kernel
theorem dX2_enter_37 : decode cX2_enter 37 = .ok (.iconst 5, 1) := by decide +kernel
theorem dX2_enter_38 : decode cX2_enter 38 = .ok (.invokevirtual 60, 3) := by decide +kernel
theorem dX2_enter_41 : decode cX2_enter 41 = .ok (.invokevirtual 36, 3) := by decide +kernel
theorem dX2_enter_44 : decode cX2_enter 44 = .ok (.aload_n 0, 1) := by decide +kernel
theorem dX2_enter_45 : decode cX2_enter 45 = .ok (.getfield 26, 3) := by decide +kernel
theorem dX2_enter_48 : decode cX2_enter 48 = .ok (.iload_n 2, 1) := by decide +kernel
theorem dX2_enter_49 : decode cX2_enter 49 = .ok (.iconst 1, 1) := by decide +kernel
theorem dX2_enter_50 : decode cX2_enter 50 = .ok (.aload_n 0, 1) := by decide +kernel
theorem dX2_enter_51 : decode cX2_enter 51 = .ok (.getfield 54, 3) := by decide +kernel
theorem dX2_enter_54 : decode cX2_enter 54 = .ok (.invokevirtual 36, 3) := by decide +kernel
theorem dX2_enter_57 : decode cX2_enter 57 = .ok (.aload_n 0, 1) := by decide +kernel
theorem dX2_enter_58 : decode cX2_enter 58 = .ok (.getfield 26, 3) := by decide +kernel
theorem dX2_enter_61 : decode cX2_enter 61 = .ok (.iload_n 2, 1) := by decide +kernel
theorem dX2_enter_62 : decode cX2_enter 62 = .ok (.iconst 2, 1) := by decide +kernel
theorem dX2_enter_63 : decode cX2_enter 63 = .ok (.aload_n 0, 1) := by decide +kernel
theorem dX2_enter_64 : decode cX2_enter 64 = .ok (.getfield 23, 3) := by decide +kernel
theorem dX2_enter_67 : decode cX2_enter 67 = .ok (.iload_n 1, 1) := by decide +kernel
theorem dX2_enter_68 : decode cX2_enter 68 = .ok (.iconst 0, 1) := by decide +kernel
theorem dX2_enter_69 : decode cX2_enter 69 = .ok (.invokevirtual 60, 3) := by decide +kernel
theorem dX2_enter_72 : decode cX2_enter 72 = .ok (.invokevirtual 36, 3) := by decide +kernel
theorem dX2_enter_75 : decode cX2_enter 75 = .ok (.return_, 1) := by decide +kernel
set_option maxRecDepth 20000 in
theorem ggX2_thingsSeenBy_X3_rows : GoodIn wsX2_thingsSeenBy wsX3_rows := goodIn_r _ [7, 8, 24, 25, 26, 27] (by decide +kernel) (by decide +kernel)
set_option maxRecDepth 20000 in
theorem gX2_thingsSeenBy_X3_rows : GoodIn wsX2_thingsSeenBy (wsV RX2 104 RX3 yX3_rows wsX3_rows) := goodIn_app (goodIn_of _ (by decide +kernel)) ggX2_thingsSeenBy_X3_rows
set_option maxRecDepth 20000 in
theorem ggX2_thingsSeenBy_X3_at : GoodIn wsX2_thingsSeenBy wsX3_at := goodIn_r _ [12, 8, 13, 14, 24, 25, 26, 27] (by decide +kernel) (by decide +kernel)
set_option maxRecDepth 20000 in
theorem gX2_thingsSeenBy_X3_at : GoodIn wsX2_thingsSeenBy (wsV RX2 60 RX3 yX3_at wsX3_at) := goodIn_app (goodIn_of _ (by decide +kernel)) ggX2_thingsSeenBy_X3_at
theorem dX2_thingsSeenBy_0 : decode cX2_thingsSeenBy 0 = .ok (.iconst 0, 1) := by decide +kernel
theorem dX2_thingsSeenBy_1 : decode cX2_thingsSeenBy 1 = .ok (.istore_n 2, 1) := by decide +kernel
theorem dX2_thingsSeenBy_2 : decode cX2_thingsSeenBy 2 = .ok (.iconst 0, 1) := by decide +kernel
theorem dX2_thingsSeenBy_3 : decode cX2_thingsSeenBy 3 = .ok (.istore_n 3, 1) := by decide +kernel
theorem dX2_thingsSeenBy_4 : decode cX2_thingsSeenBy 4 = .ok (.iload_n 3, 1) := by decide +kernel
theorem dX2_thingsSeenBy_5 : decode cX2_thingsSeenBy 5 = .ok (.aload_n 0, 1) := by decide +kernel
theorem dX2_thingsSeenBy_6 : decode cX2_thingsSeenBy 6 = .ok (.getfield 20, 3) := by decide +kernel
theorem dX2_thingsSeenBy_9 : decode cX2_thingsSeenBy 9 = .ok (.invokevirtual 104, 3) := by decide +kernel
theorem dX2_thingsSeenBy_12 : decode cX2_thingsSeenBy 12 = .ok (.if_icmp .ge 29, 3) := by decide +kernel
theorem dX2_thingsSeenBy_15 : decode cX2_thingsSeenBy 15 = .ok (.aload_n 0, 1) := by decide +kernel
theorem dX2_thingsSeenBy_16 : decode cX2_thingsSeenBy 16 = .ok (.getfield 29, 3) := by decide +kernel
theorem dX2_thingsSeenBy_19 : decode cX2_thingsSeenBy 19 = .ok (.iload_n 3, 1) := by decide +kernel
theorem dX2_thingsSeenBy_20 : decode cX2_thingsSeenBy 20 = .ok (.iload_n 1, 1) := by decide +kernel
theorem dX2_thingsSeenBy_21 : decode cX2_thingsSeenBy 21 = .ok (.invokevirtual 60, 3) := by decide +kernel
theorem dX2_thingsSeenBy_24 : decode cX2_thingsSeenBy 24 = .ok (.iconst 1, 1) := by decide +kernel
theorem dX2_thingsSeenBy_25 : decode cX2_thingsSeenBy 25 = .ok (.iand, 1) := by decide +kernel
theorem dX2_thingsSeenBy_26 : decode cX2_thingsSeenBy 26 = .ok (.ifCond .eq 9, 3) := by decide +kernel
theorem dX2_thingsSeenBy_29 : decode cX2_thingsSeenBy 29 = .ok (.iload_n 2, 1) := by decide +kernel
theorem dX2_thingsSeenBy_30 : decode cX2_thingsSeenBy 30 = .ok (.iconst 1, 1) := by decide +kernel
theorem dX2_thingsSeenBy_31 : decode cX2_thingsSeenBy 31 = .ok (.iload_n 3, 1) := by decide +kernel
theorem dX2_thingsSeenBy_32 : decode cX2_thingsSeenBy 32 = .ok (.ishl, 1) := by decide +kernel
theorem dX2_thingsSeenBy_33 : decode cX2_thingsSeenBy 33 = .ok (.ior, 1) := by decide +kernel
theorem dX2_thingsSeenBy_34 : decode cX2_thingsSeenBy 34 = .ok (.istore_n 2, 1) := by decide +kernel
theorem dX2_thingsSeenBy_35 : decode cX2_thingsSeenBy 35 = .ok (.iinc 3 1, 3) := by decide +kernel
theorem dX2_thingsSeenBy_38 : decode cX2_thingsSeenBy 38 = .ok (.goto (-34), 3) := by decide +kernel
theorem dX2_thingsSeenBy_41 : decode cX2_thingsSeenBy 41 = .ok (.iload_n 2, 1) := by decide +kernel
theorem dX2_thingsSeenBy_42 : decode cX2_thingsSeenBy 42 = .ok (.ireturn, 1) := by decide +kernel
set_option maxRecDepth 20000 in
theorem ggX2_holdersOf_X3_at : GoodIn wsX2_holdersOf wsX3_at := goodIn_r _ [6, 7, 8, 9, 19, 20, 21, 22] (by decide +kernel) (by decide +kernel)
set_option maxRecDepth 20000 in
theorem gX2_holdersOf_X3_at : GoodIn wsX2_holdersOf (wsV RX2 60 RX3 yX3_at wsX3_at) := goodIn_app (goodIn_of _ (by decide +kernel)) ggX2_holdersOf_X3_at
theorem dX2_holdersOf_0 : decode cX2_holdersOf 0 = .ok (.iconst 0, 1) := by decide +kernel
theorem dX2_holdersOf_1 : decode cX2_holdersOf 1 = .ok (.istore_n 3, 1) := by decide +kernel
theorem dX2_holdersOf_2 : decode cX2_holdersOf 2 = .ok (.iconst 0, 1) := by decide +kernel
theorem dX2_holdersOf_3 : decode cX2_holdersOf 3 = .ok (.istore 4, 2) := by decide +kernel
theorem dX2_holdersOf_5 : decode cX2_holdersOf 5 = .ok (.iload 4, 2) := by decide +kernel
theorem dX2_holdersOf_7 : decode cX2_holdersOf 7 = .ok (.bipush 10, 2) := by decide +kernel
theorem dX2_holdersOf_9 : decode cX2_holdersOf 9 = .ok (.if_icmp .ge 31, 3) := by decide +kernel
theorem dX2_holdersOf_12 : decode cX2_holdersOf 12 = .ok (.aload_n 0, 1) := by decide +kernel
theorem dX2_holdersOf_13 : decode cX2_holdersOf 13 = .ok (.getfield 29, 3) := by decide +kernel
theorem dX2_holdersOf_16 : decode cX2_holdersOf 16 = .ok (.iload_n 1, 1) := by decide +kernel
theorem dX2_holdersOf_17 : decode cX2_holdersOf 17 = .ok (.iload 4, 2) := by decide +kernel
theorem dX2_holdersOf_19 : decode cX2_holdersOf 19 = .ok (.invokevirtual 60, 3) := by decide +kernel
theorem dX2_holdersOf_22 : decode cX2_holdersOf 22 = .ok (.iload_n 2, 1) := by decide +kernel
theorem dX2_holdersOf_23 : decode cX2_holdersOf 23 = .ok (.iand, 1) := by decide +kernel
theorem dX2_holdersOf_24 : decode cX2_holdersOf 24 = .ok (.ifCond .eq 10, 3) := by decide +kernel
theorem dX2_holdersOf_27 : decode cX2_holdersOf 27 = .ok (.iload_n 3, 1) := by decide +kernel
theorem dX2_holdersOf_28 : decode cX2_holdersOf 28 = .ok (.iconst 1, 1) := by decide +kernel
theorem dX2_holdersOf_29 : decode cX2_holdersOf 29 = .ok (.iload 4, 2) := by decide +kernel
theorem dX2_holdersOf_31 : decode cX2_holdersOf 31 = .ok (.ishl, 1) := by decide +kernel
theorem dX2_holdersOf_32 : decode cX2_holdersOf 32 = .ok (.ior, 1) := by decide +kernel
theorem dX2_holdersOf_33 : decode cX2_holdersOf 33 = .ok (.istore_n 3, 1) := by decide +kernel
theorem dX2_holdersOf_34 : decode cX2_holdersOf 34 = .ok (.iinc 4 1, 3) := by decide +kernel
theorem dX2_holdersOf_37 : decode cX2_holdersOf 37 = .ok (.goto (-32), 3) := by decide +kernel
theorem dX2_holdersOf_40 : decode cX2_holdersOf 40 = .ok (.iload_n 3, 1) := by decide +kernel
theorem dX2_holdersOf_41 : decode cX2_holdersOf 41 = .ok (.ireturn, 1) := by decide +kernel
set_option maxRecDepth 20000 in
theorem ggX2_countIdleGrants_X3_rows : GoodIn wsX2_countIdleGrants wsX3_rows := goodIn_r _ [6, 7, 30, 31, 32, 33] (by decide +kernel) (by decide +kernel)
set_option maxRecDepth 20000 in
theorem gX2_countIdleGrants_X3_rows : GoodIn wsX2_countIdleGrants (wsV RX2 104 RX3 yX3_rows wsX3_rows) := goodIn_app (goodIn_of _ (by decide +kernel)) ggX2_countIdleGrants_X3_rows
set_option maxRecDepth 20000 in
theorem ggX2_countIdleGrants_X2_passedOn : GoodIn wsX2_countIdleGrants wsX2_passedOn := goodIn_r _ [12, 1, 13, 14, 15, 16, 17, 5, 18, 7, 19, 20, 21, 22, 23, 24, 25, 26, 27, 28, 29, 30, 31, 32, 33] (by decide +kernel) (by decide +kernel)
set_option maxRecDepth 20000 in
theorem gX2_countIdleGrants_X2_passedOn : GoodIn wsX2_countIdleGrants (wsV RX2 123 RX2 yX2_passedOn wsX2_passedOn) := goodIn_app (goodIn_of _ (by decide +kernel)) ggX2_countIdleGrants_X2_passedOn
theorem dX2_countIdleGrants_0 : decode cX2_countIdleGrants 0 = .ok (.iconst 0, 1) := by decide +kernel
theorem dX2_countIdleGrants_1 : decode cX2_countIdleGrants 1 = .ok (.istore_n 1, 1) := by decide +kernel
theorem dX2_countIdleGrants_2 : decode cX2_countIdleGrants 2 = .ok (.iconst 0, 1) := by decide +kernel
theorem dX2_countIdleGrants_3 : decode cX2_countIdleGrants 3 = .ok (.istore_n 2, 1) := by decide +kernel
theorem dX2_countIdleGrants_4 : decode cX2_countIdleGrants 4 = .ok (.iload_n 2, 1) := by decide +kernel
theorem dX2_countIdleGrants_5 : decode cX2_countIdleGrants 5 = .ok (.aload_n 0, 1) := by decide +kernel
theorem dX2_countIdleGrants_6 : decode cX2_countIdleGrants 6 = .ok (.getfield 23, 3) := by decide +kernel
theorem dX2_countIdleGrants_9 : decode cX2_countIdleGrants 9 = .ok (.invokevirtual 104, 3) := by decide +kernel
theorem dX2_countIdleGrants_12 : decode cX2_countIdleGrants 12 = .ok (.if_icmp .ge 20, 3) := by decide +kernel
theorem dX2_countIdleGrants_15 : decode cX2_countIdleGrants 15 = .ok (.aload_n 0, 1) := by decide +kernel
theorem dX2_countIdleGrants_16 : decode cX2_countIdleGrants 16 = .ok (.iload_n 2, 1) := by decide +kernel
theorem dX2_countIdleGrants_17 : decode cX2_countIdleGrants 17 = .ok (.invokevirtual 123, 3) := by decide +kernel
theorem dX2_countIdleGrants_20 : decode cX2_countIdleGrants 20 = .ok (.ifCond .ne 6, 3) := by decide +kernel
theorem dX2_countIdleGrants_23 : decode cX2_countIdleGrants 23 = .ok (.iinc 1 1, 3) := by decide +kernel
theorem dX2_countIdleGrants_26 : decode cX2_countIdleGrants 26 = .ok (.iinc 2 1, 3) := by decide +kernel
theorem dX2_countIdleGrants_29 : decode cX2_countIdleGrants 29 = .ok (.goto (-25), 3) := by decide +kernel
theorem dX2_countIdleGrants_32 : decode cX2_countIdleGrants 32 = .ok (.iload_n 1, 1) := by decide +kernel
theorem dX2_countIdleGrants_33 : decode cX2_countIdleGrants 33 = .ok (.ireturn, 1) := by decide +kernel
set_option maxRecDepth 20000 in
theorem ggX2_countEqual_X3_rows : GoodIn wsX2_countEqual wsX3_rows := goodIn_r _ [5, 6, 13, 14, 15, 16] (by decide +kernel) (by decide +kernel)
set_option maxRecDepth 20000 in
theorem gX2_countEqual_X3_rows : GoodIn wsX2_countEqual (wsV RX2 104 RX3 yX3_rows wsX3_rows) := goodIn_app (goodIn_of _ (by decide +kernel)) ggX2_countEqual_X3_rows
set_option maxRecDepth 20000 in
theorem ggX2_countEqual_X3_at : GoodIn wsX2_countEqual wsX3_at := goodIn_r _ [10, 6, 11, 12, 13, 14, 15, 16] (by decide +kernel) (by decide +kernel)
set_option maxRecDepth 20000 in
theorem gX2_countEqual_X3_at : GoodIn wsX2_countEqual (wsV RX2 60 RX3 yX3_at wsX3_at) := goodIn_app (goodIn_of _ (by decide +kernel)) ggX2_countEqual_X3_at
theorem dX2_countEqual_0 : decode cX2_countEqual 0 = .ok (.iconst 0, 1) := by decide +kernel
theorem dX2_countEqual_1 : decode cX2_countEqual 1 = .ok (.istore_n 3, 1) := by decide +kernel
theorem dX2_countEqual_2 : decode cX2_countEqual 2 = .ok (.iconst 0, 1) := by decide +kernel
theorem dX2_countEqual_3 : decode cX2_countEqual 3 = .ok (.istore 4, 2) := by decide +kernel
theorem dX2_countEqual_5 : decode cX2_countEqual 5 = .ok (.iload 4, 2) := by decide +kernel
theorem dX2_countEqual_7 : decode cX2_countEqual 7 = .ok (.aload_n 0, 1) := by decide +kernel
theorem dX2_countEqual_8 : decode cX2_countEqual 8 = .ok (.invokevirtual 104, 3) := by decide +kernel
theorem dX2_countEqual_11 : decode cX2_countEqual 11 = .ok (.if_icmp .ge 23, 3) := by decide +kernel
theorem dX2_countEqual_14 : decode cX2_countEqual 14 = .ok (.aload_n 0, 1) := by decide +kernel
theorem dX2_countEqual_15 : decode cX2_countEqual 15 = .ok (.iload 4, 2) := by decide +kernel
theorem dX2_countEqual_17 : decode cX2_countEqual 17 = .ok (.iload_n 1, 1) := by decide +kernel
theorem dX2_countEqual_18 : decode cX2_countEqual 18 = .ok (.invokevirtual 60, 3) := by decide +kernel
theorem dX2_countEqual_21 : decode cX2_countEqual 21 = .ok (.iload_n 2, 1) := by decide +kernel
theorem dX2_countEqual_22 : decode cX2_countEqual 22 = .ok (.if_icmp .ne 6, 3) := by decide +kernel
theorem dX2_countEqual_25 : decode cX2_countEqual 25 = .ok (.iinc 3 1, 3) := by decide +kernel
theorem dX2_countEqual_28 : decode cX2_countEqual 28 = .ok (.iinc 4 1, 3) := by decide +kernel
theorem dX2_countEqual_31 : decode cX2_countEqual 31 = .ok (.goto (-26), 3) := by decide +kernel
theorem dX2_countEqual_34 : decode cX2_countEqual 34 = .ok (.iload_n 3, 1) := by decide +kernel
theorem dX2_countEqual_35 : decode cX2_countEqual 35 = .ok (.ireturn, 1) := by decide +kernel
theorem dX3_init_0 : decode cX3_init 0 = .ok (.aload_n 0, 1) := by decide +kernel
theorem dX3_init_1 : decode cX3_init 1 = .ok (.invokespecial 3, 3) := by decide +kernel
theorem dX3_init_4 : decode cX3_init 4 = .ok (.aload_n 0, 1) := by decide +kernel
theorem dX3_init_5 : decode cX3_init 5 = .ok (.iload_n 1, 1) := by decide +kernel
theorem dX3_init_6 : decode cX3_init 6 = .ok (.putfield 9, 3) := by decide +kernel
theorem dX3_init_9 : decode cX3_init 9 = .ok (.aload_n 0, 1) := by decide +kernel
theorem dX3_init_10 : decode cX3_init 10 = .ok (.iload_n 2, 1) := by decide +kernel
theorem dX3_init_11 : decode cX3_init 11 = .ok (.putfield 15, 3) := by decide +kernel
theorem dX3_init_14 : decode cX3_init 14 = .ok (.aload_n 0, 1) := by decide +kernel
theorem dX3_init_15 : decode cX3_init 15 = .ok (.iload_n 1, 1) := by decide +kernel
theorem dX3_init_16 : decode cX3_init 16 = .ok (.ifCond .le 13, 3) := by decide +kernel
theorem dX3_init_19 : decode cX3_init 19 = .ok (.iload_n 2, 1) := by decide +kernel
theorem dX3_init_20 : decode cX3_init 20 = .ok (.ifCond .le 9, 3) := by decide +kernel
theorem dX3_init_23 : decode cX3_init 23 = .ok (.iload_n 1, 1) := by decide +kernel
theorem dX3_init_24 : decode cX3_init 24 = .ok (.iload_n 2, 1) := by decide +kernel
theorem dX3_init_25 : decode cX3_init 25 = .ok (.imul, 1) := by decide +kernel
theorem dX3_init_26 : decode cX3_init 26 = .ok (.goto 4, 3) := by decide +kernel
theorem dX3_init_29 : decode cX3_init 29 = .ok (.iconst 0, 1) := by decide +kernel
theorem dX3_init_30 : decode cX3_init 30 = .ok (.newarray .int, 2) := by decide +kernel
theorem dX3_init_32 : decode cX3_init 32 = .ok (.putfield 18, 3) := by decide +kernel
theorem dX3_init_35 : decode cX3_init 35 = .ok (.return_, 1) := by decide +kernel
theorem dX3_rows_0 : decode cX3_rows 0 = .ok (.aload_n 0, 1) := by decide +kernel
theorem dX3_rows_1 : decode cX3_rows 1 = .ok (.getfield 22, 3) := by decide +kernel
theorem dX3_rows_4 : decode cX3_rows 4 = .ok (.ireturn, 1) := by decide +kernel
theorem dX3_has_0 : decode cX3_has 0 = .ok (.iload_n 1, 1) := by decide +kernel
theorem dX3_has_1 : decode cX3_has 1 = .ok (.ifCond .lt 15, 3) := by decide +kernel
theorem dX3_has_4 : decode cX3_has 4 = .ok (.iload_n 1, 1) := by decide +kernel
theorem dX3_has_5 : decode cX3_has 5 = .ok (.aload_n 0, 1) := by decide +kernel
theorem dX3_has_6 : decode cX3_has 6 = .ok (.getfield 22, 3) := by decide +kernel
theorem dX3_has_9 : decode cX3_has 9 = .ok (.if_icmp .ge 7, 3) := by decide +kernel
theorem dX3_has_12 : decode cX3_has 12 = .ok (.iconst 1, 1) := by decide +kernel
theorem dX3_has_13 : decode cX3_has 13 = .ok (.goto 4, 3) := by decide +kernel
theorem dX3_has_16 : decode cX3_has 16 = .ok (.iconst 0, 1) := by decide +kernel
theorem dX3_has_17 : decode cX3_has 17 = .ok (.ireturn, 1) := by decide +kernel
theorem dX3_isFull_0 : decode cX3_isFull 0 = .ok (.aload_n 0, 1) := by decide +kernel
theorem dX3_isFull_1 : decode cX3_isFull 1 = .ok (.getfield 22, 3) := by decide +kernel
theorem dX3_isFull_4 : decode cX3_isFull 4 = .ok (.aload_n 0, 1) := by decide +kernel
theorem dX3_isFull_5 : decode cX3_isFull 5 = .ok (.getfield 9, 3) := by decide +kernel
theorem dX3_isFull_8 : decode cX3_isFull 8 = .ok (.if_icmp .lt 7, 3) := by decide +kernel
theorem dX3_isFull_11 : decode cX3_isFull 11 = .ok (.iconst 1, 1) := by decide +kernel
theorem dX3_isFull_12 : decode cX3_isFull 12 = .ok (.goto 4, 3) := by decide +kernel
theorem dX3_isFull_15 : decode cX3_isFull 15 = .ok (.iconst 0, 1) := by decide +kernel
