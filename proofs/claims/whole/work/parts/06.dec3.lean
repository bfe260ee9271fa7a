theorem dX5_obey_80 : decode cX5_obey 80 = .ok (.invokevirtual 111, 3) := by decide +kernel
theorem dX5_obey_83 : decode cX5_obey 83 = .ok (.pop, 1) := by decide +kernel
theorem dX5_obey_84 : decode cX5_obey 84 = .ok (.iconst 1, 1) := by decide +kernel
theorem dX5_obey_85 : decode cX5_obey 85 = .ok (.ireturn, 1) := by decide +kernel
theorem dX5_obey_86 : decode cX5_obey 86 = .ok (.aload_n 0, 1) := by decide +kernel
theorem dX5_obey_87 : decode cX5_obey 87 = .ok (.iload_n 3, 1) := by decide +kernel
theorem dX5_obey_88 : decode cX5_obey 88 = .ok (.invokevirtual 242, 3) := by decide +kernel
theorem dX5_obey_91 : decode cX5_obey 91 = .ok (.ireturn, 1) := by decide +kernel
theorem dX5_obey_92 : decode cX5_obey 92 = .ok (.iconst 0, 1) := by decide +kernel
theorem dX5_obey_93 : decode cX5_obey 93 = .ok (.ireturn, 1) := by decide +kernel
set_option maxRecDepth 20000 in
theorem ggX5_obeyGrant_X3_at : GoodIn wsX5_obeyGrant wsX3_at := goodIn_r _ [6, 7, 8, 9, 69, 70, 71, 72] (by decide +kernel) (by decide +kernel)
set_option maxRecDepth 20000 in
theorem gX5_obeyGrant_X3_at : GoodIn wsX5_obeyGrant (wsV RX5 86 RX3 yX3_at wsX3_at) := goodIn_app (goodIn_of _ (by decide +kernel)) ggX5_obeyGrant_X3_at
set_option maxRecDepth 20000 in
theorem ggX5_obeyGrant_X2_faultOfGrant : GoodIn wsX5_obeyGrant wsX2_faultOfGrant := goodIn_r _ [14, 15, 16, 17, 18, 19, 20, 21, 22, 23, 24, 25, 26, 5, 27, 7, 28, 29, 30, 13, 31, 32, 33, 3, 4, 6, 8, 9, 34, 35, 36, 37, 38, 73, 74, 75, 76, 77, 78, 79, 80, 81, 69, 70, 71, 72] (by decide +kernel) (by decide +kernel)
set_option maxRecDepth 20000 in
theorem gX5_obeyGrant_X2_faultOfGrant : GoodIn wsX5_obeyGrant (wsV RX5 92 RX2 yX2_faultOfGrant wsX2_faultOfGrant) := goodIn_app (goodIn_of _ (by decide +kernel)) ggX5_obeyGrant_X2_faultOfGrant
set_option maxRecDepth 20000 in
theorem ggX5_obeyGrant_X2_lend : GoodIn wsX5_obeyGrant wsX2_lend := goodIn_r _ [42, 43, 17, 44, 45, 46, 5, 47, 7, 38, 48, 49, 50, 51, 8, 9, 52, 53, 54, 13, 55, 15, 32, 56, 57, 58, 59, 33, 3, 4, 6, 60, 61, 62, 63, 73, 74, 75, 76, 77, 78, 79, 80, 81, 69, 70, 71, 72] (by decide +kernel) (by decide +kernel)
set_option maxRecDepth 20000 in
theorem gX5_obeyGrant_X2_lend : GoodIn wsX5_obeyGrant (wsV RX5 101 RX2 yX2_lend wsX2_lend) := goodIn_app (goodIn_of _ (by decide +kernel)) ggX5_obeyGrant_X2_lend
theorem dX5_obeyGrant_0 : decode cX5_obeyGrant 0 = .ok (.aload_n 1, 1) := by decide +kernel
theorem dX5_obeyGrant_1 : decode cX5_obeyGrant 1 = .ok (.iload_n 2, 1) := by decide +kernel
theorem dX5_obeyGrant_2 : decode cX5_obeyGrant 2 = .ok (.iconst 1, 1) := by decide +kernel
theorem dX5_obeyGrant_3 : decode cX5_obeyGrant 3 = .ok (.invokevirtual 86, 3) := by decide +kernel
theorem dX5_obeyGrant_6 : decode cX5_obeyGrant 6 = .ok (.istore_n 3, 1) := by decide +kernel
theorem dX5_obeyGrant_7 : decode cX5_obeyGrant 7 = .ok (.aload_n 1, 1) := by decide +kernel
theorem dX5_obeyGrant_8 : decode cX5_obeyGrant 8 = .ok (.iload_n 2, 1) := by decide +kernel
theorem dX5_obeyGrant_9 : decode cX5_obeyGrant 9 = .ok (.iconst 2, 1) := by decide +kernel
theorem dX5_obeyGrant_10 : decode cX5_obeyGrant 10 = .ok (.invokevirtual 86, 3) := by decide +kernel
theorem dX5_obeyGrant_13 : decode cX5_obeyGrant 13 = .ok (.istore 4, 2) := by decide +kernel
theorem dX5_obeyGrant_15 : decode cX5_obeyGrant 15 = .ok (.aload_n 1, 1) := by decide +kernel
theorem dX5_obeyGrant_16 : decode cX5_obeyGrant 16 = .ok (.iload_n 2, 1) := by decide +kernel
theorem dX5_obeyGrant_17 : decode cX5_obeyGrant 17 = .ok (.iconst 3, 1) := by decide +kernel
theorem dX5_obeyGrant_18 : decode cX5_obeyGrant 18 = .ok (.invokevirtual 86, 3) := by decide +kernel
theorem dX5_obeyGrant_21 : decode cX5_obeyGrant 21 = .ok (.istore 5, 2) := by decide +kernel
theorem dX5_obeyGrant_23 : decode cX5_obeyGrant 23 = .ok (.aload_n 1, 1) := by decide +kernel
theorem dX5_obeyGrant_24 : decode cX5_obeyGrant 24 = .ok (.iload_n 2, 1) := by decide +kernel
theorem dX5_obeyGrant_25 : decode cX5_obeyGrant 25 = .ok (.iconst 4, 1) := by decide +kernel
theorem dX5_obeyGrant_26 : decode cX5_obeyGrant 26 = .ok (.invokevirtual 86, 3) := by decide +kernel
theorem dX5_obeyGrant_29 : decode cX5_obeyGrant 29 = .ok (.istore 6, 2) := by decide +kernel
theorem dX5_obeyGrant_31 : decode cX5_obeyGrant 31 = .ok (.aload_n 1, 1) := by decide +kernel
theorem dX5_obeyGrant_32 : decode cX5_obeyGrant 32 = .ok (.iload_n 2, 1) := by decide +kernel
theorem dX5_obeyGrant_33 : decode cX5_obeyGrant 33 = .ok (.iconst 5, 1) := by decide +kernel
theorem dX5_obeyGrant_34 : decode cX5_obeyGrant 34 = .ok (.invokevirtual 86, 3) := by decide +kernel
theorem dX5_obeyGrant_37 : decode cX5_obeyGrant 37 = .ok (.istore 7, 2) := by decide +kernel
theorem dX5_obeyGrant_39 : decode cX5_obeyGrant 39 = .ok (.aload_n 0, 1) := by decide +kernel
theorem dX5_obeyGrant_40 : decode cX5_obeyGrant 40 = .ok (.getfield 10, 3) := by decide +kernel
theorem dX5_obeyGrant_43 : decode cX5_obeyGrant 43 = .ok (.iload_n 3, 1) := by decide +kernel
theorem dX5_obeyGrant_44 : decode cX5_obeyGrant 44 = .ok (.iload 4, 2) := by decide +kernel
theorem dX5_obeyGrant_46 : decode cX5_obeyGrant 46 = .ok (.iload 5, 2) := by decide +kernel
theorem dX5_obeyGrant_48 : decode cX5_obeyGrant 48 = .ok (.iload 6, 2) := by decide +kernel
theorem dX5_obeyGrant_50 : decode cX5_obeyGrant 50 = .ok (.iload 7, 2) := by decide +kernel
theorem dX5_obeyGrant_52 : decode cX5_obeyGrant 52 = .ok (.invokevirtual 92, 3) := by decide +kernel
theorem dX5_obeyGrant_55 : decode cX5_obeyGrant 55 = .ok (.ifCond .eq 5, 3) := by decide +kernel
theorem dX5_obeyGrant_58 : decode cX5_obeyGrant 58 = .ok (.iconst 0, 1) := by decide +kernel
theorem dX5_obeyGrant_59 : decode cX5_obeyGrant 59 = .ok (.ireturn, 1) := by decide +kernel
theorem dX5_obeyGrant_60 : decode cX5_obeyGrant 60 = .ok (.aload_n 0, 1) := by decide +kernel
theorem dX5_obeyGrant_61 : decode cX5_obeyGrant 61 = .ok (.getfield 10, 3) := by decide +kernel
theorem dX5_obeyGrant_64 : decode cX5_obeyGrant 64 = .ok (.iload_n 3, 1) := by decide +kernel
theorem dX5_obeyGrant_65 : decode cX5_obeyGrant 65 = .ok (.iload 4, 2) := by decide +kernel
theorem dX5_obeyGrant_67 : decode cX5_obeyGrant 67 = .ok (.iload 5, 2) := by decide +kernel
theorem dX5_obeyGrant_69 : decode cX5_obeyGrant 69 = .ok (.iload 6, 2) := by decide +kernel
theorem dX5_obeyGrant_71 : decode cX5_obeyGrant 71 = .ok (.iload 7, 2) := by decide +kernel
theorem dX5_obeyGrant_73 : decode cX5_obeyGrant 73 = .ok (.invokevirtual 101, 3) := by decide +kernel
theorem dX5_obeyGrant_76 : decode cX5_obeyGrant 76 = .ok (.pop, 1) := by decide +kernel
theorem dX5_obeyGrant_77 : decode cX5_obeyGrant 77 = .ok (.iconst 1, 1) := by decide +kernel
theorem dX5_obeyGrant_78 : decode cX5_obeyGrant 78 = .ok (.ireturn, 1) := by decide +kernel
set_option maxRecDepth 20000 in
theorem ggX5_obeyRevoke_X2_placeOf : GoodIn wsX5_obeyRevoke wsX2_placeOf := goodIn_r _ [6, 7, 8, 9, 10, 11, 12, 13, 14, 15, 16, 17, 18, 19, 63, 64, 65, 66, 67, 68, 69, 70, 71, 72, 73, 74, 75] (by decide +kernel) (by decide +kernel)
set_option maxRecDepth 20000 in
theorem gX5_obeyRevoke_X2_placeOf : GoodIn wsX5_obeyRevoke (wsV RX5 245 RX2 yX2_placeOf wsX2_placeOf) := goodIn_app (goodIn_of _ (by decide +kernel)) ggX5_obeyRevoke_X2_placeOf
set_option maxRecDepth 20000 in
theorem ggX5_obeyRevoke_X2_takeBack : GoodIn wsX5_obeyRevoke wsX2_takeBack := goodIn_r _ [23, 7, 24, 25, 26, 27, 5, 28, 29, 8, 9, 10, 11, 12, 13, 30, 31, 32, 33, 34, 14, 15, 16, 17, 18, 19, 35, 36, 37, 38, 39, 40, 41, 42, 43, 44, 45, 46, 47, 48, 49, 50, 51, 52, 53, 54, 55, 56, 57, 63, 64, 65, 66, 67, 68, 69, 70, 71, 72, 73, 74, 75] (by decide +kernel) (by decide +kernel)
set_option maxRecDepth 20000 in
theorem gX5_obeyRevoke_X2_takeBack : GoodIn wsX5_obeyRevoke (wsV RX5 108 RX2 yX2_takeBack wsX2_takeBack) := goodIn_app (goodIn_of _ (by decide +kernel)) ggX5_obeyRevoke_X2_takeBack
theorem dX5_obeyRevoke_0 : decode cX5_obeyRevoke 0 = .ok (.aload_n 0, 1) := by decide +kernel
theorem dX5_obeyRevoke_1 : decode cX5_obeyRevoke 1 = .ok (.getfield 10, 3) := by decide +kernel
theorem dX5_obeyRevoke_4 : decode cX5_obeyRevoke 4 = .ok (.iload_n 1, 1) := by decide +kernel
theorem dX5_obeyRevoke_5 : decode cX5_obeyRevoke 5 = .ok (.invokevirtual 245, 3) := by decide +kernel
theorem dX5_obeyRevoke_8 : decode cX5_obeyRevoke 8 = .ok (.istore_n 2, 1) := by decide +kernel
theorem dX5_obeyRevoke_9 : decode cX5_obeyRevoke 9 = .ok (.iload_n 2, 1) := by decide +kernel
theorem dX5_obeyRevoke_10 : decode cX5_obeyRevoke 10 = .ok (.iconst (-1), 1) := by decide +kernel
theorem dX5_obeyRevoke_11 : decode cX5_obeyRevoke 11 = .ok (.if_icmp .ne 5, 3) := by decide +kernel
theorem dX5_obeyRevoke_14 : decode cX5_obeyRevoke 14 = .ok (.iconst 0, 1) := by decide +kernel
theorem dX5_obeyRevoke_15 : decode cX5_obeyRevoke 15 = .ok (.ireturn, 1) := by decide +kernel
theorem dX5_obeyRevoke_16 : decode cX5_obeyRevoke 16 = .ok (.aload_n 0, 1) := by decide +kernel
theorem dX5_obeyRevoke_17 : decode cX5_obeyRevoke 17 = .ok (.getfield 10, 3) := by decide +kernel
theorem dX5_obeyRevoke_20 : decode cX5_obeyRevoke 20 = .ok (.iload_n 2, 1) := by decide +kernel
theorem dX5_obeyRevoke_21 : decode cX5_obeyRevoke 21 = .ok (.invokevirtual 108, 3) := by decide +kernel
theorem dX5_obeyRevoke_24 : decode cX5_obeyRevoke 24 = .ok (.pop, 1) := by decide +kernel
theorem dX5_obeyRevoke_25 : decode cX5_obeyRevoke 25 = .ok (.iconst 1, 1) := by decide +kernel
theorem dX5_obeyRevoke_26 : decode cX5_obeyRevoke 26 = .ok (.ireturn, 1) := by decide +kernel
set_option maxRecDepth 20000 in
theorem ggX5_obeyPass_X2_hasTimeFor : GoodIn wsX5_obeyPass wsX2_hasTimeFor := goodIn_r _ [6, 7, 8, 77, 78, 79, 80, 81, 82, 83, 84, 85] (by decide +kernel) (by decide +kernel)
set_option maxRecDepth 20000 in
theorem gX5_obeyPass_X2_hasTimeFor : GoodIn wsX5_obeyPass (wsV RX5 114 RX2 yX2_hasTimeFor wsX2_hasTimeFor) := goodIn_app (goodIn_of _ (by decide +kernel)) ggX5_obeyPass_X2_hasTimeFor
set_option maxRecDepth 20000 in
theorem ggX5_obeyPass_X2_letPass : GoodIn wsX5_obeyPass wsX2_letPass := goodIn_r _ [12, 7, 13, 14, 15, 5, 16, 17, 18, 19, 20, 21, 22, 23, 24, 25, 26, 27, 28, 29, 30, 31, 32, 33, 34, 35, 36, 37, 38, 39, 40, 41, 42, 43, 44, 45, 46, 47, 48, 49, 50, 51, 52, 53, 54, 55, 56, 57, 58, 59, 60, 61, 62, 63, 64, 65, 66, 67, 68, 69, 70, 71, 77, 78, 79, 80, 81, 82, 83, 84, 85, 86, 87, 88, 89] (by decide +kernel) (by decide +kernel)
set_option maxRecDepth 20000 in
theorem gX5_obeyPass_X2_letPass : GoodIn wsX5_obeyPass (wsV RX5 120 RX2 yX2_letPass wsX2_letPass) := goodIn_app (goodIn_of _ (by decide +kernel)) ggX5_obeyPass_X2_letPass
theorem dX5_obeyPass_0 : decode cX5_obeyPass 0 = .ok (.aload_n 0, 1) := by decide +kernel
theorem dX5_obeyPass_1 : decode cX5_obeyPass 1 = .ok (.getfield 10, 3) := by decide +kernel
theorem dX5_obeyPass_4 : decode cX5_obeyPass 4 = .ok (.iload_n 1, 1) := by decide +kernel
theorem dX5_obeyPass_5 : decode cX5_obeyPass 5 = .ok (.invokevirtual 114, 3) := by decide +kernel
theorem dX5_obeyPass_8 : decode cX5_obeyPass 8 = .ok (.ifCond .ne 5, 3) := by decide +kernel
theorem dX5_obeyPass_11 : decode cX5_obeyPass 11 = .ok (.iconst 0, 1) := by decide +kernel
theorem dX5_obeyPass_12 : decode cX5_obeyPass 12 = .ok (.ireturn, 1) := by decide +kernel
theorem dX5_obeyPass_13 : decode cX5_obeyPass 13 = .ok (.aload_n 0, 1) := by decide +kernel
theorem dX5_obeyPass_14 : decode cX5_obeyPass 14 = .ok (.getfield 10, 3) := by decide +kernel
theorem dX5_obeyPass_17 : decode cX5_obeyPass 17 = .ok (.iload_n 1, 1) := by decide +kernel
theorem dX5_obeyPass_18 : decode cX5_obeyPass 18 = .ok (.invokevirtual 120, 3) := by decide +kernel
theorem dX5_obeyPass_21 : decode cX5_obeyPass 21 = .ok (.pop, 1) := by decide +kernel
theorem dX5_obeyPass_22 : decode cX5_obeyPass 22 = .ok (.iconst 1, 1) := by decide +kernel
theorem dX5_obeyPass_23 : decode cX5_obeyPass 23 = .ok (.ireturn, 1) := by decide +kernel
theorem dX5_requireFit_0 : decode cX5_requireFit 0 = .ok (.iload_n 0, 1) := by decide +kernel
theorem dX5_requireFit_1 : decode cX5_requireFit 1 = .ok (.iconst 1, 1) := by decide +kernel
theorem dX5_requireFit_2 : decode cX5_requireFit 2 = .ok (.if_icmp .ne 13, 3) := by decide +kernel
theorem dX5_requireFit_5 : decode cX5_requireFit 5 = .ok (.new 142, 3) := by decide +kernel
theorem dX5_requireFit_8 : decode cX5_requireFit 8 = .ok (.dup, 1) := by decide +kernel
theorem dX5_requireFit_9 : decode cX5_requireFit 9 = .ok (.ldc 248, 2) := by decide +kernel
theorem dX5_requireFit_11 : decode cX5_requireFit 11 = .ok (.invokespecial 146, 3) := by decide +kernel
theorem dX5_requireFit_14 : decode cX5_requireFit 14 = .ok (.athrow, 1) := by decide +kernel
theorem dX5_requireFit_15 : decode cX5_requireFit 15 = .ok (.iload_n 0, 1) := by decide +kernel
theorem dX5_requireFit_16 : decode cX5_requireFit 16 = .ok (.iconst 2, 1) := by decide +kernel
theorem dX5_requireFit_17 : decode cX5_requireFit 17 = .ok (.if_icmp .ne 13, 3) := by decide +kernel
theorem dX5_requireFit_20 : decode cX5_requireFit 20 = .ok (.new 151, 3) := by decide +kernel
theorem dX5_requireFit_23 : decode cX5_requireFit 23 = .ok (.dup, 1) := by decide +kernel
theorem dX5_requireFit_24 : decode cX5_requireFit 24 = .ok (.ldc 250, 2) := by decide +kernel
theorem dX5_requireFit_26 : decode cX5_requireFit 26 = .ok (.invokespecial 155, 3) := by decide +kernel
theorem dX5_requireFit_29 : decode cX5_requireFit 29 = .ok (.athrow, 1) := by decide +kernel
theorem dX5_requireFit_30 : decode cX5_requireFit 30 = .ok (.return_, 1) := by decide +kernel
set_option maxRecDepth 20000 in
theorem ggX5_requireGrant_X2_placeOf : GoodIn wsX5_requireGrant wsX2_placeOf := goodIn_r _ [8, 9, 10, 11, 12, 13, 14, 15, 16, 17, 18, 19, 20, 21, 27, 28, 29, 30, 31, 32, 33, 34, 35, 36, 37, 38, 39] (by decide +kernel) (by decide +kernel)
set_option maxRecDepth 20000 in
theorem gX5_requireGrant_X2_placeOf : GoodIn wsX5_requireGrant (wsV RX5 245 RX2 yX2_placeOf wsX2_placeOf) := goodIn_app (goodIn_of _ (by decide +kernel)) ggX5_requireGrant_X2_placeOf
theorem dX5_requireGrant_0 : decode cX5_requireGrant 0 = .ok (.aload_n 0, 1) := by decide +kernel
theorem dX5_requireGrant_1 : decode cX5_requireGrant 1 = .ok (.getfield 10, 3) := by decide +kernel
theorem dX5_requireGrant_4 : decode cX5_requireGrant 4 = .ok (.iload_n 1, 1) := by decide +kernel
theorem dX5_requireGrant_5 : decode cX5_requireGrant 5 = .ok (.invokevirtual 245, 3) := by decide +kernel
theorem dX5_requireGrant_8 : decode cX5_requireGrant 8 = .ok (.istore_n 2, 1) := by decide +kernel
theorem dX5_requireGrant_9 : decode cX5_requireGrant 9 = .ok (.iload_n 2, 1) := by decide +kernel
theorem dX5_requireGrant_10 : decode cX5_requireGrant 10 = .ok (.iconst (-1), 1) := by decide +kernel
theorem dX5_requireGrant_11 : decode cX5_requireGrant 11 = .ok (.if_icmp .ne 13, 3) := by decide +kernel
theorem dX5_requireGrant_14 : decode cX5_requireGrant 14 = .ok (.new 252, 3) := by decide +kernel
theorem dX5_requireGrant_17 : decode cX5_requireGrant 17 = .ok (.dup, 1) := by decide +kernel
theorem dX5_requireGrant_18 : decode cX5_requireGrant 18 = .ok (.ldc 254, 2) := by decide +kernel
theorem dX5_requireGrant_20 : decode cX5_requireGrant 20 = .ok (.invokespecial 256, 3) := by decide +kernel
theorem dX5_requireGrant_23 : decode cX5_requireGrant 23 = .ok (.athrow, 1) := by decide +kernel
theorem dX5_requireGrant_24 : decode cX5_requireGrant 24 = .ok (.iload_n 2, 1) := by decide +kernel
theorem dX5_requireGrant_25 : decode cX5_requireGrant 25 = .ok (.ireturn, 1) := by decide +kernel
set_option maxRecDepth 20000 in
theorem ggX5_requireThing_X3_has : GoodIn wsX5_requireThing wsX3_has := goodIn_r _ [9, 10, 25, 26, 27, 28] (by decide +kernel) (by decide +kernel)
set_option maxRecDepth 20000 in
theorem gX5_requireThing_X3_has : GoodIn wsX5_requireThing (wsV RX5 257 RX3 yX3_has wsX3_has) := goodIn_app (goodIn_of _ (by decide +kernel)) ggX5_requireThing_X3_has
theorem dX5_requireThing_0 : decode cX5_requireThing 0 = .ok (.aload_n 0, 1) := by decide +kernel
theorem dX5_requireThing_1 : decode cX5_requireThing 1 = .ok (.getfield 10, 3) := by decide +kernel
theorem dX5_requireThing_4 : decode cX5_requireThing 4 = .ok (.getfield 47, 3) := by decide +kernel
theorem dX5_requireThing_7 : decode cX5_requireThing 7 = .ok (.iload_n 1, 1) := by decide +kernel
theorem dX5_requireThing_8 : decode cX5_requireThing 8 = .ok (.invokevirtual 257, 3) := by decide +kernel
theorem dX5_requireThing_11 : decode cX5_requireThing 11 = .ok (.ifCond .ne 14, 3) := by decide +kernel
theorem dX5_requireThing_14 : decode cX5_requireThing 14 = .ok (.new 142, 3) := by decide +kernel
theorem dX5_requireThing_17 : decode cX5_requireThing 17 = .ok (.dup, 1) := by decide +kernel
theorem dX5_requireThing_18 : decode cX5_requireThing 18 = .ok (.ldc_w 260, 3) := by decide +kernel
theorem dX5_requireThing_21 : decode cX5_requireThing 21 = .ok (.invokespecial 146, 3) := by decide +kernel
theorem dX5_requireThing_24 : decode cX5_requireThing 24 = .ok (.athrow, 1) := by decide +kernel
theorem dX5_requireThing_25 : decode cX5_requireThing 25 = .ok (.return_, 1) := by decide +kernel
set_option maxRecDepth 20000 in
theorem ggX5_requirePerson_X5_isPerson : GoodIn wsX5_requirePerson wsX5_isPerson := goodIn_r _ [6, 7, 8, 5, 9] (by decide +kernel) (by decide +kernel)
set_option maxRecDepth 20000 in
theorem gX5_requirePerson_X5_isPerson : GoodIn wsX5_requirePerson (va_wsS RX5 262 yX5_isPerson wsX5_isPerson) := goodIn_app (goodIn_of _ (by decide +kernel)) ggX5_requirePerson_X5_isPerson
theorem dX5_requirePerson_0 : decode cX5_requirePerson 0 = .ok (.iload_n 0, 1) := by decide +kernel
theorem dX5_requirePerson_1 : decode cX5_requirePerson 1 = .ok (.invokestatic 262, 3) := by decide +kernel
theorem dX5_requirePerson_4 : decode cX5_requirePerson 4 = .ok (.ifCond .ne 14, 3) := by decide +kernel
theorem dX5_requirePerson_7 : decode cX5_requirePerson 7 = .ok (.new 142, 3) := by decide +kernel
theorem dX5_requirePerson_10 : decode cX5_requirePerson 10 = .ok (.dup, 1) := by decide +kernel
theorem dX5_requirePerson_11 : decode cX5_requirePerson 11 = .ok (.ldc_w 265, 3) := by decide +kernel
theorem dX5_requirePerson_14 : decode cX5_requirePerson 14 = .ok (.invokespecial 146, 3) := by decide +kernel
theorem dX5_requirePerson_17 : decode cX5_requirePerson 17 = .ok (.athrow, 1) := by decide +kernel
theorem dX5_requirePerson_18 : decode cX5_requirePerson 18 = .ok (.return_, 1) := by decide +kernel
set_option maxRecDepth 20000 in
theorem ggX5_requireMask_X5_requireRange : GoodIn wsX5_requireMask wsX5_requireRange := goodIn_ca (goodIn_r _ [4, 5, 6, 7, 8, 3, 9] (by decide +kernel) (by decide +kernel)) (goodIn_sub (fun _ h => List.mem_cons_of_mem _ (List.mem_append_right _ h)) (by decide +kernel))
set_option maxRecDepth 20000 in
theorem gX5_requireMask_X5_requireRange : GoodIn wsX5_requireMask (va_wsS RX5 79 yX5_requireRange wsX5_requireRange) := goodIn_app (goodIn_of _ (by decide +kernel)) ggX5_requireMask_X5_requireRange
theorem dX5_requireMask_0 : decode cX5_requireMask 0 = .ok (.iload_n 0, 1) := by decide +kernel
theorem dX5_requireMask_1 : decode cX5_requireMask 1 = .ok (.iconst 0, 1) := by decide +kernel
theorem dX5_requireMask_2 : decode cX5_requireMask 2 = .ok (.bipush 7, 2) := by decide +kernel
theorem dX5_requireMask_4 : decode cX5_requireMask 4 = .ok (.invokestatic 79, 3) := by decide +kernel
theorem dX5_requireMask_7 : decode cX5_requireMask 7 = .ok (.return_, 1) := by decide +kernel
set_option maxRecDepth 20000 in
theorem ggX5_requireRange_X5_isBetween : GoodIn wsX5_requireRange wsX5_isBetween := goodIn_r _ [6] (by decide +kernel) (by decide +kernel)
set_option maxRecDepth 20000 in
theorem gX5_requireRange_X5_isBetween : GoodIn wsX5_requireRange (va_wsS RX5 267 yX5_isBetween wsX5_isBetween) := goodIn_app (goodIn_of _ (by decide +kernel)) ggX5_requireRange_X5_isBetween
theorem dX5_requireRange_0 : decode cX5_requireRange 0 = .ok (.iload_n 0, 1) := by decide +kernel
theorem dX5_requireRange_1 : decode cX5_requireRange 1 = .ok (.iload_n 1, 1) := by decide +kernel
theorem dX5_requireRange_2 : decode cX5_requireRange 2 = .ok (.iload_n 2, 1) := by decide +kernel
theorem dX5_requireRange_3 : decode cX5_requireRange 3 = .ok (.invokestatic 267, 3) := by decide +kernel
theorem dX5_requireRange_6 : decode cX5_requireRange 6 = .ok (.ifCond .ne 14, 3) := by decide +kernel
theorem dX5_requireRange_9 : decode cX5_requireRange 9 = .ok (.new 151, 3) := by decide +kernel
theorem dX5_requireRange_12 : decode cX5_requireRange 12 = .ok (.dup, 1) := by decide +kernel
theorem dX5_requireRange_13 : decode cX5_requireRange 13 = .ok (.ldc_w 271, 3) := by decide +kernel
theorem dX5_requireRange_16 : decode cX5_requireRange 16 = .ok (.invokespecial 155, 3) := by decide +kernel
theorem dX5_requireRange_19 : decode cX5_requireRange 19 = .ok (.athrow, 1) := by decide +kernel
theorem dX5_requireRange_20 : decode cX5_requireRange 20 = .ok (.return_, 1) := by decide +kernel
set_option maxRecDepth 20000 in
theorem ggX5_isPerson_X5_isBetween : GoodIn wsX5_isPerson wsX5_isBetween := goodIn_r _ [4] (by decide +kernel) (by decide +kernel)
set_option maxRecDepth 20000 in
theorem gX5_isPerson_X5_isBetween : GoodIn wsX5_isPerson (va_wsS RX5 267 yX5_isBetween wsX5_isBetween) := goodIn_app (goodIn_of _ (by decide +kernel)) ggX5_isPerson_X5_isBetween
theorem dX5_isPerson_0 : decode cX5_isPerson 0 = .ok (.iload_n 0, 1) := by decide +kernel
theorem dX5_isPerson_1 : decode cX5_isPerson 1 = .ok (.iconst 0, 1) := by decide +kernel
theorem dX5_isPerson_2 : decode cX5_isPerson 2 = .ok (.bipush 9, 2) := by decide +kernel
theorem dX5_isPerson_4 : decode cX5_isPerson 4 = .ok (.invokestatic 267, 3) := by decide +kernel
theorem dX5_isPerson_7 : decode cX5_isPerson 7 = .ok (.ireturn, 1) := by decide +kernel
theorem dX5_isBetween_0 : decode cX5_isBetween 0 = .ok (.iload_n 0, 1) := by decide +kernel
theorem dX5_isBetween_1 : decode cX5_isBetween 1 = .ok (.iload_n 1, 1) := by decide +kernel
theorem dX5_isBetween_2 : decode cX5_isBetween 2 = .ok (.if_icmp .lt 12, 3) := by decide +kernel
theorem dX5_isBetween_5 : decode cX5_isBetween 5 = .ok (.iload_n 0, 1) := by decide +kernel
theorem dX5_isBetween_6 : decode cX5_isBetween 6 = .ok (.iload_n 2, 1) := by decide +kernel
theorem dX5_isBetween_7 : decode cX5_isBetween 7 = .ok (.if_icmp .gt 7, 3) := by decide +kernel
theorem dX5_isBetween_10 : decode cX5_isBetween 10 = .ok (.iconst 1, 1) := by decide +kernel
theorem dX5_isBetween_11 : decode cX5_isBetween 11 = .ok (.goto 4, 3) := by decide +kernel
theorem dX5_isBetween_14 : decode cX5_isBetween 14 = .ok (.iconst 0, 1) := by decide +kernel
theorem dX5_isBetween_15 : decode cX5_isBetween 15 = .ok (.ireturn, 1) := by decide +kernel
theorem dX6_init_0 : decode cX6_init 0 = .ok (.aload_n 0, 1) := by decide +kernel
theorem dX6_init_1 : decode cX6_init 1 = .ok (.invokespecial 1, 3) := by decide +kernel
theorem dX6_init_4 : decode cX6_init 4 = .ok (.aload_n 0, 1) := by decide +kernel
theorem dX6_init_5 : decode cX6_init 5 = .ok (.sipush 320, 3) := by decide +kernel
theorem dX6_init_8 : decode cX6_init 8 = .ok (.newarray .int, 2) := by decide +kernel
theorem dX6_init_10 : decode cX6_init 10 = .ok (.putfield 7, 3) := by decide +kernel
theorem dX6_init_13 : decode cX6_init 13 = .ok (.aload_n 0, 1) := by decide +kernel
theorem dX6_init_14 : decode cX6_init 14 = .ok (.sipush 1280, 3) := by decide +kernel
theorem dX6_init_17 : decode cX6_init 17 = .ok (.newarray .int, 2) := by decide +kernel
theorem dX6_init_19 : decode cX6_init 19 = .ok (.putfield 13, 3) := by decide +kernel
theorem dX6_init_22 : decode cX6_init 22 = .ok (.aload_n 0, 1) := by decide +kernel
theorem dX6_init_23 : decode cX6_init 23 = .ok (.sipush 320, 3) := by decide +kernel
theorem dX6_init_26 : decode cX6_init 26 = .ok (.newarray .int, 2) := by decide +kernel
theorem dX6_init_28 : decode cX6_init 28 = .ok (.putfield 16, 3) := by decide +kernel
theorem dX6_init_31 : decode cX6_init 31 = .ok (.aload_n 0, 1) := by decide +kernel
theorem dX6_init_32 : decode cX6_init 32 = .ok (.bipush 80, 2) := by decide +kernel
theorem dX6_init_34 : decode cX6_init 34 = .ok (.newarray .int, 2) := by decide +kernel
theorem dX6_init_36 : decode cX6_init 36 = .ok (.putfield 19, 3) := by decide +kernel
theorem dX6_init_39 : decode cX6_init 39 = .ok (.aload_n 0, 1) := by decide +kernel
theorem dX6_init_40 : decode cX6_init 40 = .ok (.bipush 10, 2) := by decide +kernel
theorem dX6_init_42 : decode cX6_init 42 = .ok (.newarray .int, 2) := by decide +kernel
theorem dX6_init_44 : decode cX6_init 44 = .ok (.putfield 22, 3) := by decide +kernel
theorem dX6_init_47 : decode cX6_init 47 = .ok (.aload_n 0, 1) := by decide +kernel
theorem dX6_init_48 : decode cX6_init 48 = .ok (.bipush 100, 2) := by decide +kernel
theorem dX6_init_50 : decode cX6_init 50 = .ok (.newarray .int, 2) := by decide +kernel
theorem dX6_init_52 : decode cX6_init 52 = .ok (.putfield 25, 3) := by decide +kernel
theorem dX6_init_55 : decode cX6_init 55 = .ok (.aload_n 0, 1) := by decide +kernel
theorem dX6_init_56 : decode cX6_init 56 = .ok (.iconst 5, 1) := by decide +kernel
theorem dX6_init_57 : decode cX6_init 57 = .ok (.newarray .int, 2) := by decide +kernel
theorem dX6_init_59 : decode cX6_init 59 = .ok (.putfield 28, 3) := by decide +kernel
theorem dX6_init_62 : decode cX6_init 62 = .ok (.iconst 0, 1) := by decide +kernel
theorem dX6_init_63 : decode cX6_init 63 = .ok (.istore_n 1, 1) := by decide +kernel
theorem dX6_init_64 : decode cX6_init 64 = .ok (.iload_n 1, 1) := by decide +kernel
theorem dX6_init_65 : decode cX6_init 65 = .ok (.bipush 10, 2) := by decide +kernel
theorem dX6_init_67 : decode cX6_init 67 = .ok (.if_icmp .ge 31, 3) := by decide +kernel
theorem dX6_init_70 : decode cX6_init 70 = .ok (.aload_n 0, 1) := by decide +kernel
theorem dX6_init_71 : decode cX6_init 71 = .ok (.getfield 7, 3) := by decide +kernel
theorem dX6_init_74 : decode cX6_init 74 = .ok (.bipush 8, 2) := by decide +kernel
theorem dX6_init_76 : decode cX6_init 76 = .ok (.iload_n 1, 1) := by decide +kernel
theorem dX6_init_77 : decode cX6_init 77 = .ok (.iadd, 1) := by decide +kernel
theorem dX6_init_78 : decode cX6_init 78 = .ok (.bipush 60, 2) := by decide +kernel
theorem dX6_init_80 : decode cX6_init 80 = .ok (.iastore, 1) := by decide +kernel
theorem dX6_init_81 : decode cX6_init 81 = .ok (.aload_n 0, 1) := by decide +kernel
theorem dX6_init_82 : decode cX6_init 82 = .ok (.getfield 7, 3) := by decide +kernel
theorem dX6_init_85 : decode cX6_init 85 = .ok (.bipush 18, 2) := by decide +kernel
theorem dX6_init_87 : decode cX6_init 87 = .ok (.iload_n 1, 1) := by decide +kernel
theorem dX6_init_88 : decode cX6_init 88 = .ok (.iadd, 1) := by decide +kernel
theorem dX6_init_89 : decode cX6_init 89 = .ok (.bipush 60, 2) := by decide +kernel
theorem dX6_init_91 : decode cX6_init 91 = .ok (.iastore, 1) := by decide +kernel
theorem dX6_init_92 : decode cX6_init 92 = .ok (.iinc 1 1, 3) := by decide +kernel
theorem dX6_init_95 : decode cX6_init 95 = .ok (.goto (-31), 3) := by decide +kernel
theorem dX6_init_98 : decode cX6_init 98 = .ok (.return_, 1) := by decide +kernel
theorem dX6_thrown_0 : decode cX6_thrown 0 = .ok (.aload_n 0, 1) := by decide +kernel
theorem dX6_thrown_1 : decode cX6_thrown 1 = .ok (.getfield 31, 3) := by decide +kernel
theorem dX6_thrown_4 : decode cX6_thrown 4 = .ok (.ireturn, 1) := by decide +kernel
theorem dX6_in_0 : decode cX6_in 0 = .ok (.lload_n 0, 1) := by decide +kernel
theorem dX6_in_1 : decode cX6_in 1 = .ok (.lload_n 2, 1) := by decide +kernel
theorem dX6_in_2 : decode cX6_in 2 = .ok (.lcmp, 1) := by decide +kernel
theorem dX6_in_3 : decode cX6_in 3 = .ok (.ifCond .lt 14, 3) := by decide +kernel
theorem dX6_in_6 : decode cX6_in 6 = .ok (.lload_n 0, 1) := by decide +kernel
theorem dX6_in_7 : decode cX6_in 7 = .ok (.lload 4, 2) := by decide +kernel
theorem dX6_in_9 : decode cX6_in 9 = .ok (.lcmp, 1) := by decide +kernel
theorem dX6_in_10 : decode cX6_in 10 = .ok (.ifCond .gt 7, 3) := by decide +kernel
theorem dX6_in_13 : decode cX6_in 13 = .ok (.iconst 1, 1) := by decide +kernel
theorem dX6_in_14 : decode cX6_in 14 = .ok (.goto 4, 3) := by decide +kernel
theorem dX6_in_17 : decode cX6_in 17 = .ok (.iconst 0, 1) := by decide +kernel
theorem dX6_in_18 : decode cX6_in 18 = .ok (.ireturn, 1) := by decide +kernel
theorem dX6_goes_0 : decode cX6_goes 0 = .ok (.aload_n 0, 1) := by decide +kernel
theorem dX6_goes_1 : decode cX6_goes 1 = .ok (.iload_n 1, 1) := by decide +kernel
theorem dX6_goes_2 : decode cX6_goes 2 = .ok (.ifCond .ne 7, 3) := by decide +kernel
theorem dX6_goes_5 : decode cX6_goes 5 = .ok (.iconst 1, 1) := by decide +kernel
theorem dX6_goes_6 : decode cX6_goes 6 = .ok (.goto 20, 3) := by decide +kernel
theorem dX6_goes_9 : decode cX6_goes 9 = .ok (.iload_n 2, 1) := by decide +kernel
theorem dX6_goes_10 : decode cX6_goes 10 = .ok (.ifCond .ne 7, 3) := by decide +kernel
theorem dX6_goes_13 : decode cX6_goes 13 = .ok (.iconst 2, 1) := by decide +kernel
theorem dX6_goes_14 : decode cX6_goes 14 = .ok (.goto 12, 3) := by decide +kernel
theorem dX6_goes_17 : decode cX6_goes 17 = .ok (.iload_n 3, 1) := by decide +kernel
theorem dX6_goes_18 : decode cX6_goes 18 = .ok (.ifCond .ne 7, 3) := by decide +kernel
theorem dX6_goes_21 : decode cX6_goes 21 = .ok (.iconst 3, 1) := by decide +kernel
theorem dX6_goes_22 : decode cX6_goes 22 = .ok (.goto 4, 3) := by decide +kernel
theorem dX6_goes_25 : decode cX6_goes 25 = .ok (.iconst 0, 1) := by decide +kernel
theorem dX6_goes_26 : decode cX6_goes 26 = .ok (.putfield 31, 3) := by decide +kernel
theorem dX6_goes_29 : decode cX6_goes 29 = .ok (.aload_n 0, 1) := by decide +kernel
theorem dX6_goes_30 : decode cX6_goes 30 = .ok (.getfield 31, 3) := by decide +kernel
theorem dX6_goes_33 : decode cX6_goes 33 = .ok (.ifCond .ne 7, 3) := by decide +kernel
theorem dX6_goes_36 : decode cX6_goes 36 = .ok (.iconst 1, 1) := by decide +kernel
theorem dX6_goes_37 : decode cX6_goes 37 = .ok (.goto 4, 3) := by decide +kernel
theorem dX6_goes_40 : decode cX6_goes 40 = .ok (.iconst 0, 1) := by decide +kernel
theorem dX6_goes_41 : decode cX6_goes 41 = .ok (.ireturn, 1) := by decide +kernel
theorem dX6_save_0 : decode cX6_save 0 = .ok (.aload_n 0, 1) := by decide +kernel
theorem dX6_save_1 : decode cX6_save 1 = .ok (.getfield 35, 3) := by decide +kernel
theorem dX6_save_4 : decode cX6_save 4 = .ok (.iconst 4, 1) := by decide +kernel
theorem dX6_save_5 : decode cX6_save 5 = .ok (.if_icmp .ne 44, 3) := by decide +kernel
theorem dX6_save_8 : decode cX6_save 8 = .ok (.iconst 0, 1) := by decide +kernel
theorem dX6_save_9 : decode cX6_save 9 = .ok (.istore_n 1, 1) := by decide +kernel
theorem dX6_save_10 : decode cX6_save 10 = .ok (.iload_n 1, 1) := by decide +kernel
theorem dX6_save_11 : decode cX6_save 11 = .ok (.sipush 960, 3) := by decide +kernel
theorem dX6_save_14 : decode cX6_save 14 = .ok (.if_icmp .ge 25, 3) := by decide +kernel
theorem dX6_save_17 : decode cX6_save 17 = .ok (.aload_n 0, 1) := by decide +kernel
theorem dX6_save_18 : decode cX6_save 18 = .ok (.getfield 13, 3) := by decide +kernel
theorem dX6_save_21 : decode cX6_save 21 = .ok (.iload_n 1, 1) := by decide +kernel
theorem dX6_save_22 : decode cX6_save 22 = .ok (.aload_n 0, 1) := by decide +kernel
theorem dX6_save_23 : decode cX6_save 23 = .ok (.getfield 13, 3) := by decide +kernel
theorem dX6_save_26 : decode cX6_save 26 = .ok (.iload_n 1, 1) := by decide +kernel
theorem dX6_save_27 : decode cX6_save 27 = .ok (.sipush 320, 3) := by decide +kernel
theorem dX6_save_30 : decode cX6_save 30 = .ok (.iadd, 1) := by decide +kernel
theorem dX6_save_31 : decode cX6_save 31 = .ok (.iaload, 1) := by decide +kernel
theorem dX6_save_32 : decode cX6_save 32 = .ok (.iastore, 1) := by decide +kernel
theorem dX6_save_33 : decode cX6_save 33 = .ok (.iinc 1 1, 3) := by decide +kernel
theorem dX6_save_36 : decode cX6_save 36 = .ok (.goto (-26), 3) := by decide +kernel
theorem dX6_save_39 : decode cX6_save 39 = .ok (.aload_n 0, 1) := by decide +kernel
theorem dX6_save_40 : decode cX6_save 40 = .ok (.dup, 1) := by decide +kernel
theorem dX6_save_41 : decode cX6_save 41 = .ok (.getfield 35, 3) := by decide +kernel
theorem dX6_save_44 : decode cX6_save 44 = .ok (.iconst 1, 1) := by decide +kernel
theorem dX6_save_45 : decode cX6_save 45 = .ok (.isub, 1) := by decide +kernel
theorem dX6_save_46 : decode cX6_save 46 = .ok (.putfield 35, 3) := by decide +kernel
theorem dX6_save_49 : decode cX6_save 49 = .ok (.iconst 0, 1) := by decide +kernel
theorem dX6_save_50 : decode cX6_save 50 = .ok (.istore_n 1, 1) := by decide +kernel
theorem dX6_save_51 : decode cX6_save 51 = .ok (.iload_n 1, 1) := by decide +kernel
theorem dX6_save_52 : decode cX6_save 52 = .ok (.sipush 320, 3) := by decide +kernel
theorem dX6_save_55 : decode cX6_save 55 = .ok (.if_icmp .ge 30, 3) := by decide +kernel
theorem dX6_save_58 : decode cX6_save 58 = .ok (.aload_n 0, 1) := by decide +kernel
theorem dX6_save_59 : decode cX6_save 59 = .ok (.getfield 13, 3) := by decide +kernel
theorem dX6_save_62 : decode cX6_save 62 = .ok (.sipush 320, 3) := by decide +kernel
theorem dX6_save_65 : decode cX6_save 65 = .ok (.aload_n 0, 1) := by decide +kernel
theorem dX6_save_66 : decode cX6_save 66 = .ok (.getfield 35, 3) := by decide +kernel
theorem dX6_save_69 : decode cX6_save 69 = .ok (.imul, 1) := by decide +kernel
theorem dX6_save_70 : decode cX6_save 70 = .ok (.iload_n 1, 1) := by decide +kernel
theorem dX6_save_71 : decode cX6_save 71 = .ok (.iadd, 1) := by decide +kernel
theorem dX6_save_72 : decode cX6_save 72 = .ok (.aload_n 0, 1) := by decide +kernel
theorem dX6_save_73 : decode cX6_save 73 = .ok (.getfield 7, 3) := by decide +kernel
theorem dX6_save_76 : decode cX6_save 76 = .ok (.iload_n 1, 1) := by decide +kernel
theorem dX6_save_77 : decode cX6_save 77 = .ok (.iaload, 1) := by decide +kernel
theorem dX6_save_78 : decode cX6_save 78 = .ok (.iastore, 1) := by decide +kernel
theorem dX6_save_79 : decode cX6_save 79 = .ok (.iinc 1 1, 3) := by decide +kernel
theorem dX6_save_82 : decode cX6_save 82 = .ok (.goto (-31), 3) := by decide +kernel
theorem dX6_save_85 : decode cX6_save 85 = .ok (.aload_n 0, 1) := by decide +kernel
theorem dX6_save_86 : decode cX6_save 86 = .ok (.dup, 1) := by decide +kernel
theorem dX6_save_87 : decode cX6_save 87 = .ok (.getfield 35, 3) := by decide +kernel
theorem dX6_save_90 : decode cX6_save 90 = .ok (.iconst 1, 1) := by decide +kernel
theorem dX6_save_91 : decode cX6_save 91 = .ok (.iadd, 1) := by decide +kernel
theorem dX6_save_92 : decode cX6_save 92 = .ok (.putfield 35, 3) := by decide +kernel
theorem dX6_save_95 : decode cX6_save 95 = .ok (.return_, 1) := by decide +kernel
theorem dX6_layAside_0 : decode cX6_layAside 0 = .ok (.iconst 0, 1) := by decide +kernel
theorem dX6_layAside_1 : decode cX6_layAside 1 = .ok (.istore_n 1, 1) := by decide +kernel
theorem dX6_layAside_2 : decode cX6_layAside 2 = .ok (.iload_n 1, 1) := by decide +kernel
theorem dX6_layAside_3 : decode cX6_layAside 3 = .ok (.sipush 320, 3) := by decide +kernel
theorem dX6_layAside_6 : decode cX6_layAside 6 = .ok (.if_icmp .ge 21, 3) := by decide +kernel
theorem dX6_layAside_9 : decode cX6_layAside 9 = .ok (.aload_n 0, 1) := by decide +kernel
theorem dX6_layAside_10 : decode cX6_layAside 10 = .ok (.getfield 16, 3) := by decide +kernel
theorem dX6_layAside_13 : decode cX6_layAside 13 = .ok (.iload_n 1, 1) := by decide +kernel
theorem dX6_layAside_14 : decode cX6_layAside 14 = .ok (.aload_n 0, 1) := by decide +kernel
theorem dX6_layAside_15 : decode cX6_layAside 15 = .ok (.getfield 7, 3) := by decide +kernel
theorem dX6_layAside_18 : decode cX6_layAside 18 = .ok (.iload_n 1, 1) := by decide +kernel
theorem dX6_layAside_19 : decode cX6_layAside 19 = .ok (.iaload, 1) := by decide +kernel
theorem dX6_layAside_20 : decode cX6_layAside 20 = .ok (.iastore, 1) := by decide +kernel
theorem dX6_layAside_21 : decode cX6_layAside 21 = .ok (.iinc 1 1, 3) := by decide +kernel
theorem dX6_layAside_24 : decode cX6_layAside 24 = .ok (.goto (-22), 3) := by decide +kernel
theorem dX6_layAside_27 : decode cX6_layAside 27 = .ok (.return_, 1) := by decide +kernel
theorem dX6_takeBack_0 : decode cX6_takeBack 0 = .ok (.iconst 0, 1) := by decide +kernel
theorem dX6_takeBack_1 : decode cX6_takeBack 1 = .ok (.istore_n 1, 1) := by decide +kernel
theorem dX6_takeBack_2 : decode cX6_takeBack 2 = .ok (.iload_n 1, 1) := by decide +kernel
theorem dX6_takeBack_3 : decode cX6_takeBack 3 = .ok (.sipush 320, 3) := by decide +kernel
theorem dX6_takeBack_6 : decode cX6_takeBack 6 = .ok (.if_icmp .ge 21, 3) := by decide +kernel
theorem dX6_takeBack_9 : decode cX6_takeBack 9 = .ok (.aload_n 0, 1) := by decide +kernel
theorem dX6_takeBack_10 : decode cX6_takeBack 10 = .ok (.getfield 7, 3) := by decide +kernel
theorem dX6_takeBack_13 : decode cX6_takeBack 13 = .ok (.iload_n 1, 1) := by decide +kernel
theorem dX6_takeBack_14 : decode cX6_takeBack 14 = .ok (.aload_n 0, 1) := by decide +kernel
theorem dX6_takeBack_15 : decode cX6_takeBack 15 = .ok (.getfield 16, 3) := by decide +kernel
theorem dX6_takeBack_18 : decode cX6_takeBack 18 = .ok (.iload_n 1, 1) := by decide +kernel
theorem dX6_takeBack_19 : decode cX6_takeBack 19 = .ok (.iaload, 1) := by decide +kernel
theorem dX6_takeBack_20 : decode cX6_takeBack 20 = .ok (.iastore, 1) := by decide +kernel
theorem dX6_takeBack_21 : decode cX6_takeBack 21 = .ok (.iinc 1 1, 3) := by decide +kernel
theorem dX6_takeBack_24 : decode cX6_takeBack 24 = .ok (.goto (-22), 3) := by decide +kernel
theorem dX6_takeBack_27 : decode cX6_takeBack 27 = .ok (.return_, 1) := by decide +kernel
set_option maxRecDepth 20000 in
theorem ggX6_isPerson_X6_in : GoodIn wsX6_isPerson wsX6_in := goodIn_r _ [5] (by decide +kernel) (by decide +kernel)
set_option maxRecDepth 20000 in
theorem gX6_isPerson_X6_in : GoodIn wsX6_isPerson (va_wsS RX6 40 yX6_in wsX6_in) := goodIn_app (goodIn_of _ (by decide +kernel)) ggX6_isPerson_X6_in
theorem dX6_isPerson_0 : decode cX6_isPerson 0 = .ok (.iload_n 0, 1) := by decide +kernel
theorem dX6_isPerson_1 : decode cX6_isPerson 1 = .ok (.i2l, 1) := by decide +kernel
theorem dX6_isPerson_2 : decode cX6_isPerson 2 = .ok (.lconst 0, 1) := by decide +kernel
theorem dX6_isPerson_3 : decode cX6_isPerson 3 = .ok (.ldc2_w 38, 3) := by decide +kernel
theorem dX6_isPerson_6 : decode cX6_isPerson 6 = .ok (.invokestatic 40, 3) := by decide +kernel
theorem dX6_isPerson_9 : decode cX6_isPerson 9 = .ok (.ireturn, 1) := by decide +kernel
set_option maxRecDepth 20000 in
theorem ggX6_isThing_X6_in : GoodIn wsX6_isThing wsX6_in := goodIn_r _ [5] (by decide +kernel) (by decide +kernel)
set_option maxRecDepth 20000 in
theorem gX6_isThing_X6_in : GoodIn wsX6_isThing (va_wsS RX6 40 yX6_in wsX6_in) := goodIn_app (goodIn_of _ (by decide +kernel)) ggX6_isThing_X6_in
theorem dX6_isThing_0 : decode cX6_isThing 0 = .ok (.iload_n 1, 1) := by decide +kernel
theorem dX6_isThing_1 : decode cX6_isThing 1 = .ok (.i2l, 1) := by decide +kernel
theorem dX6_isThing_2 : decode cX6_isThing 2 = .ok (.lconst 0, 1) := by decide +kernel
theorem dX6_isThing_3 : decode cX6_isThing 3 = .ok (.aload_n 0, 1) := by decide +kernel
theorem dX6_isThing_4 : decode cX6_isThing 4 = .ok (.getfield 7, 3) := by decide +kernel
theorem dX6_isThing_7 : decode cX6_isThing 7 = .ok (.iconst 4, 1) := by decide +kernel
theorem dX6_isThing_8 : decode cX6_isThing 8 = .ok (.iaload, 1) := by decide +kernel
theorem dX6_isThing_9 : decode cX6_isThing 9 = .ok (.i2l, 1) := by decide +kernel
theorem dX6_isThing_10 : decode cX6_isThing 10 = .ok (.lconst 1, 1) := by decide +kernel
theorem dX6_isThing_11 : decode cX6_isThing 11 = .ok (.lsub, 1) := by decide +kernel
theorem dX6_isThing_12 : decode cX6_isThing 12 = .ok (.invokestatic 40, 3) := by decide +kernel
theorem dX6_isThing_15 : decode cX6_isThing 15 = .ok (.ireturn, 1) := by decide +kernel
theorem dX6_owner_0 : decode cX6_owner 0 = .ok (.aload_n 0, 1) := by decide +kernel
theorem dX6_owner_1 : decode cX6_owner 1 = .ok (.getfield 7, 3) := by decide +kernel
theorem dX6_owner_4 : decode cX6_owner 4 = .ok (.bipush 28, 2) := by decide +kernel
theorem dX6_owner_6 : decode cX6_owner 6 = .ok (.iconst 2, 1) := by decide +kernel
theorem dX6_owner_7 : decode cX6_owner 7 = .ok (.iload_n 1, 1) := by decide +kernel
theorem dX6_owner_8 : decode cX6_owner 8 = .ok (.imul, 1) := by decide +kernel
theorem dX6_owner_9 : decode cX6_owner 9 = .ok (.iadd, 1) := by decide +kernel
theorem dX6_owner_10 : decode cX6_owner 10 = .ok (.iaload, 1) := by decide +kernel
theorem dX6_owner_11 : decode cX6_owner 11 = .ok (.ireturn, 1) := by decide +kernel
theorem dX6_mask_0 : decode cX6_mask 0 = .ok (.aload_n 0, 1) := by decide +kernel
theorem dX6_mask_1 : decode cX6_mask 1 = .ok (.getfield 7, 3) := by decide +kernel
theorem dX6_mask_4 : decode cX6_mask 4 = .ok (.bipush 28, 2) := by decide +kernel
theorem dX6_mask_6 : decode cX6_mask 6 = .ok (.iconst 2, 1) := by decide +kernel
theorem dX6_mask_7 : decode cX6_mask 7 = .ok (.iload_n 1, 1) := by decide +kernel
theorem dX6_mask_8 : decode cX6_mask 8 = .ok (.imul, 1) := by decide +kernel
theorem dX6_mask_9 : decode cX6_mask 9 = .ok (.iadd, 1) := by decide +kernel
theorem dX6_mask_10 : decode cX6_mask 10 = .ok (.iconst 1, 1) := by decide +kernel
theorem dX6_mask_11 : decode cX6_mask 11 = .ok (.iadd, 1) := by decide +kernel
theorem dX6_mask_12 : decode cX6_mask 12 = .ok (.iaload, 1) := by decide +kernel
theorem dX6_mask_13 : decode cX6_mask 13 = .ok (.ireturn, 1) := by decide +kernel
theorem dX6_of_0 : decode cX6_of 0 = .ok (.aload_n 0, 1) := by decide +kernel
theorem dX6_of_1 : decode cX6_of 1 = .ok (.getfield 7, 3) := by decide +kernel
theorem dX6_of_4 : decode cX6_of 4 = .ok (.bipush 44, 2) := by decide +kernel
theorem dX6_of_6 : decode cX6_of 6 = .ok (.bipush 6, 2) := by decide +kernel
theorem dX6_of_8 : decode cX6_of 8 = .ok (.iload_n 1, 1) := by decide +kernel
theorem dX6_of_9 : decode cX6_of 9 = .ok (.imul, 1) := by decide +kernel
theorem dX6_of_10 : decode cX6_of 10 = .ok (.iadd, 1) := by decide +kernel
theorem dX6_of_11 : decode cX6_of 11 = .ok (.iload_n 2, 1) := by decide +kernel
theorem dX6_of_12 : decode cX6_of 12 = .ok (.iadd, 1) := by decide +kernel
theorem dX6_of_13 : decode cX6_of 13 = .ok (.iaload, 1) := by decide +kernel
theorem dX6_of_14 : decode cX6_of 14 = .ok (.ireturn, 1) := by decide +kernel
set_option maxRecDepth 20000 in
theorem ggX6_placeOf_X6_of : GoodIn wsX6_placeOf wsX6_of := goodIn_r _ [6, 1, 7, 8, 9, 10, 11, 12, 13, 14, 15, 16, 17, 18, 19] (by decide +kernel) (by decide +kernel)
set_option maxRecDepth 20000 in
theorem gX6_placeOf_X6_of : GoodIn wsX6_placeOf (wsV RX6 44 RX6 yX6_of wsX6_of) := goodIn_app (goodIn_of _ (by decide +kernel)) ggX6_placeOf_X6_of
theorem dX6_placeOf_0 : decode cX6_placeOf 0 = .ok (.iconst 0, 1) := by decide +kernel
theorem dX6_placeOf_1 : decode cX6_placeOf 1 = .ok (.istore_n 2, 1) := by decide +kernel
theorem dX6_placeOf_2 : decode cX6_placeOf 2 = .ok (.iload_n 2, 1) := by decide +kernel
theorem dX6_placeOf_3 : decode cX6_placeOf 3 = .ok (.aload_n 0, 1) := by decide +kernel
theorem dX6_placeOf_4 : decode cX6_placeOf 4 = .ok (.getfield 7, 3) := by decide +kernel
theorem dX6_placeOf_7 : decode cX6_placeOf 7 = .ok (.iconst 5, 1) := by decide +kernel
theorem dX6_placeOf_8 : decode cX6_placeOf 8 = .ok (.iaload, 1) := by decide +kernel
theorem dX6_placeOf_9 : decode cX6_placeOf 9 = .ok (.if_icmp .ge 21, 3) := by decide +kernel
theorem dX6_placeOf_12 : decode cX6_placeOf 12 = .ok (.aload_n 0, 1) := by decide +kernel
theorem dX6_placeOf_13 : decode cX6_placeOf 13 = .ok (.iload_n 2, 1) := by decide +kernel
theorem dX6_placeOf_14 : decode cX6_placeOf 14 = .ok (.iconst 0, 1) := by decide +kernel
theorem dX6_placeOf_15 : decode cX6_placeOf 15 = .ok (.invokevirtual 44, 3) := by decide +kernel
theorem dX6_placeOf_18 : decode cX6_placeOf 18 = .ok (.iload_n 1, 1) := by decide +kernel
theorem dX6_placeOf_19 : decode cX6_placeOf 19 = .ok (.if_icmp .ne 5, 3) := by decide +kernel
theorem dX6_placeOf_22 : decode cX6_placeOf 22 = .ok (.iload_n 2, 1) := by decide +kernel
theorem dX6_placeOf_23 : decode cX6_placeOf 23 = .ok (.ireturn, 1) := by decide +kernel
theorem dX6_placeOf_24 : decode cX6_placeOf 24 = .ok (.iinc 2 1, 3) := by decide +kernel
theorem dX6_placeOf_27 : decode cX6_placeOf 27 = .ok (.goto (-25), 3) := by decide +kernel
theorem dX6_placeOf_30 : decode cX6_placeOf 30 = .ok (.iconst (-1), 1) := by decide +kernel
theorem dX6_placeOf_31 : decode cX6_placeOf 31 = .ok (.ireturn, 1) := by decide +kernel
theorem dX6_takeOut_0 : decode cX6_takeOut 0 = .ok (.aload_n 0, 1) := by decide +kernel
theorem dX6_takeOut_1 : decode cX6_takeOut 1 = .ok (.getfield 7, 3) := by decide +kernel
theorem dX6_takeOut_4 : decode cX6_takeOut 4 = .ok (.iconst 5, 1) := by decide +kernel
theorem dX6_takeOut_5 : decode cX6_takeOut 5 = .ok (.dup2, 1) := by decide +kernel
theorem dX6_takeOut_6 : decode cX6_takeOut 6 = .ok (.iaload, 1) := by decide +kernel
theorem dX6_takeOut_7 : decode cX6_takeOut 7 = .ok (.iconst 1, 1) := by decide +kernel
theorem dX6_takeOut_8 : decode cX6_takeOut 8 = .ok (.isub, 1) := by decide +kernel
theorem dX6_takeOut_9 : decode cX6_takeOut 9 = .ok (.iastore, 1) := by decide +kernel
theorem dX6_takeOut_10 : decode cX6_takeOut 10 = .ok (.bipush 6, 2) := by decide +kernel
theorem dX6_takeOut_12 : decode cX6_takeOut 12 = .ok (.iload_n 1, 1) := by decide +kernel
theorem dX6_takeOut_13 : decode cX6_takeOut 13 = .ok (.imul, 1) := by decide +kernel
theorem dX6_takeOut_14 : decode cX6_takeOut 14 = .ok (.istore_n 2, 1) := by decide +kernel
theorem dX6_takeOut_15 : decode cX6_takeOut 15 = .ok (.iload_n 2, 1) := by decide +kernel
theorem dX6_takeOut_16 : decode cX6_takeOut 16 = .ok (.bipush 6, 2) := by decide +kernel
theorem dX6_takeOut_18 : decode cX6_takeOut 18 = .ok (.aload_n 0, 1) := by decide +kernel
theorem dX6_takeOut_19 : decode cX6_takeOut 19 = .ok (.getfield 7, 3) := by decide +kernel
theorem dX6_takeOut_22 : decode cX6_takeOut 22 = .ok (.iconst 5, 1) := by decide +kernel
theorem dX6_takeOut_23 : decode cX6_takeOut 23 = .ok (.iaload, 1) := by decide +kernel
theorem dX6_takeOut_24 : decode cX6_takeOut 24 = .ok (.imul, 1) := by decide +kernel
theorem dX6_takeOut_25 : decode cX6_takeOut 25 = .ok (.if_icmp .ge 30, 3) := by decide +kernel
theorem dX6_takeOut_28 : decode cX6_takeOut 28 = .ok (.aload_n 0, 1) := by decide +kernel
theorem dX6_takeOut_29 : decode cX6_takeOut 29 = .ok (.getfield 7, 3) := by decide +kernel
theorem dX6_takeOut_32 : decode cX6_takeOut 32 = .ok (.bipush 44, 2) := by decide +kernel
theorem dX6_takeOut_34 : decode cX6_takeOut 34 = .ok (.iload_n 2, 1) := by decide +kernel
theorem dX6_takeOut_35 : decode cX6_takeOut 35 = .ok (.iadd, 1) := by decide +kernel
theorem dX6_takeOut_36 : decode cX6_takeOut 36 = .ok (.aload_n 0, 1) := by decide +kernel
theorem dX6_takeOut_37 : decode cX6_takeOut 37 = .ok (.getfield 7, 3) := by decide +kernel
theorem dX6_takeOut_40 : decode cX6_takeOut 40 = .ok (.bipush 44, 2) := by decide +kernel
theorem dX6_takeOut_42 : decode cX6_takeOut 42 = .ok (.iload_n 2, 1) := by decide +kernel
theorem dX6_takeOut_43 : decode cX6_takeOut 43 = .ok (.iadd, 1) := by decide +kernel
theorem dX6_takeOut_44 : decode cX6_takeOut 44 = .ok (.bipush 6, 2) := by decide +kernel
theorem dX6_takeOut_46 : decode cX6_takeOut 46 = .ok (.iadd, 1) := by decide +kernel
theorem dX6_takeOut_47 : decode cX6_takeOut 47 = .ok (.iaload, 1) := by decide +kernel
theorem dX6_takeOut_48 : decode cX6_takeOut 48 = .ok (.iastore, 1) := by decide +kernel
theorem dX6_takeOut_49 : decode cX6_takeOut 49 = .ok (.iinc 2 1, 3) := by decide +kernel
theorem dX6_takeOut_52 : decode cX6_takeOut 52 = .ok (.goto (-37), 3) := by decide +kernel
theorem dX6_takeOut_55 : decode cX6_takeOut 55 = .ok (.iconst 0, 1) := by decide +kernel
theorem dX6_takeOut_56 : decode cX6_takeOut 56 = .ok (.istore_n 2, 1) := by decide +kernel
theorem dX6_takeOut_57 : decode cX6_takeOut 57 = .ok (.iload_n 2, 1) := by decide +kernel
theorem dX6_takeOut_58 : decode cX6_takeOut 58 = .ok (.bipush 6, 2) := by decide +kernel
theorem dX6_takeOut_60 : decode cX6_takeOut 60 = .ok (.if_icmp .ge 29, 3) := by decide +kernel
theorem dX6_takeOut_63 : decode cX6_takeOut 63 = .ok (.aload_n 0, 1) := by decide +kernel
theorem dX6_takeOut_64 : decode cX6_takeOut 64 = .ok (.getfield 7, 3) := by decide +kernel
theorem dX6_takeOut_67 : decode cX6_takeOut 67 = .ok (.bipush 44, 2) := by decide +kernel
theorem dX6_takeOut_69 : decode cX6_takeOut 69 = .ok (.bipush 6, 2) := by decide +kernel
theorem dX6_takeOut_71 : decode cX6_takeOut 71 = .ok (.aload_n 0, 1) := by decide +kernel
theorem dX6_takeOut_72 : decode cX6_takeOut 72 = .ok (.getfield 7, 3) := by decide +kernel
theorem dX6_takeOut_75 : decode cX6_takeOut 75 = .ok (.iconst 5, 1) := by decide +kernel
theorem dX6_takeOut_76 : decode cX6_takeOut 76 = .ok (.iaload, 1) := by decide +kernel
theorem dX6_takeOut_77 : decode cX6_takeOut 77 = .ok (.imul, 1) := by decide +kernel
theorem dX6_takeOut_78 : decode cX6_takeOut 78 = .ok (.iadd, 1) := by decide +kernel
theorem dX6_takeOut_79 : decode cX6_takeOut 79 = .ok (.iload_n 2, 1) := by decide +kernel
theorem dX6_takeOut_80 : decode cX6_takeOut 80 = .ok (.iadd, 1) := by decide +kernel
theorem dX6_takeOut_81 : decode cX6_takeOut 81 = .ok (.iconst 0, 1) := by decide +kernel
theorem dX6_takeOut_82 : decode cX6_takeOut 82 = .ok (.iastore, 1) := by decide +kernel
theorem dX6_takeOut_83 : decode cX6_takeOut 83 = .ok (.iinc 2 1, 3) := by decide +kernel
theorem dX6_takeOut_86 : decode cX6_takeOut 86 = .ok (.goto (-29), 3) := by decide +kernel
theorem dX6_takeOut_89 : decode cX6_takeOut 89 = .ok (.return_, 1) := by decide +kernel
set_option maxRecDepth 20000 in
theorem ggX6_log_X6_of : GoodIn wsX6_log wsX6_of := goodIn_r _ [6, 1, 7, 8, 9, 10, 11, 12, 13, 14, 15, 16, 17, 18, 19] (by decide +kernel) (by decide +kernel)
set_option maxRecDepth 20000 in
theorem gX6_log_X6_of : GoodIn wsX6_log (wsV RX6 44 RX6 yX6_of wsX6_of) := goodIn_app (goodIn_of _ (by decide +kernel)) ggX6_log_X6_of
theorem dX6_log_0 : decode cX6_log 0 = .ok (.bipush 35, 2) := by decide +kernel
theorem dX6_log_2 : decode cX6_log 2 = .ok (.istore_n 2, 1) := by decide +kernel
theorem dX6_log_3 : decode cX6_log 3 = .ok (.iload_n 2, 1) := by decide +kernel
theorem dX6_log_4 : decode cX6_log 4 = .ok (.iconst 3, 1) := by decide +kernel
theorem dX6_log_5 : decode cX6_log 5 = .ok (.if_icmp .lt 31, 3) := by decide +kernel
theorem dX6_log_8 : decode cX6_log 8 = .ok (.aload_n 0, 1) := by decide +kernel
theorem dX6_log_9 : decode cX6_log 9 = .ok (.getfield 7, 3) := by decide +kernel
theorem dX6_log_12 : decode cX6_log 12 = .ok (.sipush 284, 3) := by decide +kernel
theorem dX6_log_15 : decode cX6_log 15 = .ok (.iload_n 2, 1) := by decide +kernel
theorem dX6_log_16 : decode cX6_log 16 = .ok (.iadd, 1) := by decide +kernel
theorem dX6_log_17 : decode cX6_log 17 = .ok (.aload_n 0, 1) := by decide +kernel
theorem dX6_log_18 : decode cX6_log 18 = .ok (.getfield 7, 3) := by decide +kernel
theorem dX6_log_21 : decode cX6_log 21 = .ok (.sipush 284, 3) := by decide +kernel
theorem dX6_log_24 : decode cX6_log 24 = .ok (.iload_n 2, 1) := by decide +kernel
theorem dX6_log_25 : decode cX6_log 25 = .ok (.iadd, 1) := by decide +kernel
theorem dX6_log_26 : decode cX6_log 26 = .ok (.iconst 3, 1) := by decide +kernel
theorem dX6_log_27 : decode cX6_log 27 = .ok (.isub, 1) := by decide +kernel
theorem dX6_log_28 : decode cX6_log 28 = .ok (.iaload, 1) := by decide +kernel
theorem dX6_log_29 : decode cX6_log 29 = .ok (.iastore, 1) := by decide +kernel
theorem dX6_log_30 : decode cX6_log 30 = .ok (.iinc 2 (-1), 3) := by decide +kernel
theorem dX6_log_33 : decode cX6_log 33 = .ok (.goto (-30), 3) := by decide +kernel
theorem dX6_log_36 : decode cX6_log 36 = .ok (.aload_n 0, 1) := by decide +kernel
theorem dX6_log_37 : decode cX6_log 37 = .ok (.getfield 7, 3) := by decide +kernel
theorem dX6_log_40 : decode cX6_log 40 = .ok (.sipush 284, 3) := by decide +kernel
theorem dX6_log_43 : decode cX6_log 43 = .ok (.aload_n 0, 1) := by decide +kernel
theorem dX6_log_44 : decode cX6_log 44 = .ok (.iload_n 1, 1) := by decide +kernel
theorem dX6_log_45 : decode cX6_log 45 = .ok (.iconst 0, 1) := by decide +kernel
theorem dX6_log_46 : decode cX6_log 46 = .ok (.invokevirtual 44, 3) := by decide +kernel
theorem dX6_log_49 : decode cX6_log 49 = .ok (.iastore, 1) := by decide +kernel
theorem dX6_log_50 : decode cX6_log 50 = .ok (.aload_n 0, 1) := by decide +kernel
theorem dX6_log_51 : decode cX6_log 51 = .ok (.getfield 7, 3) := by decide +kernel
theorem dX6_log_54 : decode cX6_log 54 = .ok (.sipush 285, 3) := by decide +kernel
theorem dX6_log_57 : decode cX6_log 57 = .ok (.aload_n 0, 1) := by decide +kernel
theorem dX6_log_58 : decode cX6_log 58 = .ok (.getfield 7, 3) := by decide +kernel
theorem dX6_log_61 : decode cX6_log 61 = .ok (.iconst 0, 1) := by decide +kernel
theorem dX6_log_62 : decode cX6_log 62 = .ok (.iaload, 1) := by decide +kernel
theorem dX6_log_63 : decode cX6_log 63 = .ok (.iastore, 1) := by decide +kernel
theorem dX6_log_64 : decode cX6_log 64 = .ok (.aload_n 0, 1) := by decide +kernel
theorem dX6_log_65 : decode cX6_log 65 = .ok (.getfield 7, 3) := by decide +kernel
theorem dX6_log_68 : decode cX6_log 68 = .ok (.sipush 286, 3) := by decide +kernel
theorem dX6_log_71 : decode cX6_log 71 = .ok (.aload_n 0, 1) := by decide +kernel
theorem dX6_log_72 : decode cX6_log 72 = .ok (.iload_n 1, 1) := by decide +kernel
theorem dX6_log_73 : decode cX6_log 73 = .ok (.iconst 1, 1) := by decide +kernel
theorem dX6_log_74 : decode cX6_log 74 = .ok (.invokevirtual 44, 3) := by decide +kernel
theorem dX6_log_77 : decode cX6_log 77 = .ok (.iastore, 1) := by decide +kernel
theorem dX6_log_78 : decode cX6_log 78 = .ok (.aload_n 0, 1) := by decide +kernel
theorem dX6_log_79 : decode cX6_log 79 = .ok (.getfield 7, 3) := by decide +kernel
theorem dX6_log_82 : decode cX6_log 82 = .ok (.bipush 6, 2) := by decide +kernel
theorem dX6_log_84 : decode cX6_log 84 = .ok (.dup2, 1) := by decide +kernel
theorem dX6_log_85 : decode cX6_log 85 = .ok (.iaload, 1) := by decide +kernel
theorem dX6_log_86 : decode cX6_log 86 = .ok (.aload_n 0, 1) := by decide +kernel
theorem dX6_log_87 : decode cX6_log 87 = .ok (.getfield 7, 3) := by decide +kernel
theorem dX6_log_90 : decode cX6_log 90 = .ok (.bipush 6, 2) := by decide +kernel
theorem dX6_log_92 : decode cX6_log 92 = .ok (.iaload, 1) := by decide +kernel
theorem dX6_log_93 : decode cX6_log 93 = .ok (.bipush 12, 2) := by decide +kernel
theorem dX6_log_95 : decode cX6_log 95 = .ok (.if_icmp .ge 7, 3) := by decide +kernel
theorem dX6_log_98 : decode cX6_log 98 = .ok (.iconst 1, 1) := by decide +kernel
theorem dX6_log_99 : decode cX6_log 99 = .ok (.goto 4, 3) := by decide +kernel
theorem dX6_log_102 : decode cX6_log 102 = .ok (.iconst 0, 1) := by decide +kernel
theorem dX6_log_103 : decode cX6_log 103 = .ok (.iadd, 1) := by decide +kernel
theorem dX6_log_104 : decode cX6_log 104 = .ok (.iastore, 1) := by decide +kernel
theorem dX6_log_105 : decode cX6_log 105 = .ok (.return_, 1) := by decide +kernel
set_option maxRecDepth 20000 in
theorem ggX6_die_X6_of : GoodIn wsX6_die wsX6_of := goodIn_r _ [6, 1, 15, 16, 17, 18, 19, 20, 21, 22, 23, 24, 25, 26, 27] (by decide +kernel) (by decide +kernel)
set_option maxRecDepth 20000 in
theorem gX6_die_X6_of : GoodIn wsX6_die (wsV RX6 44 RX6 yX6_of wsX6_of) := goodIn_app (goodIn_of _ (by decide +kernel)) ggX6_die_X6_of
set_option maxRecDepth 20000 in
theorem ggX6_die_X6_log : GoodIn wsX6_die wsX6_log := goodIn_r _ [10, 1, 2, 3, 4, 5, 6, 15, 16, 17, 18, 19, 20, 21, 22, 23, 24, 25, 26, 27] (by decide +kernel) (by decide +kernel)
set_option maxRecDepth 20000 in
theorem gX6_die_X6_log : GoodIn wsX6_die (wsV RX6 48 RX6 yX6_log wsX6_log) := goodIn_app (goodIn_of _ (by decide +kernel)) ggX6_die_X6_log
set_option maxRecDepth 20000 in
theorem ggX6_die_X6_takeOut : GoodIn wsX6_die wsX6_takeOut := goodIn_r _ [14, 1, 15, 16, 17, 18, 19, 20, 21, 22, 23, 24, 25, 26, 27] (by decide +kernel) (by decide +kernel)
set_option maxRecDepth 20000 in
theorem gX6_die_X6_takeOut : GoodIn wsX6_die (wsV RX6 52 RX6 yX6_takeOut wsX6_takeOut) := goodIn_app (goodIn_of _ (by decide +kernel)) ggX6_die_X6_takeOut
theorem dX6_die_0 : decode cX6_die 0 = .ok (.iconst 0, 1) := by decide +kernel
theorem dX6_die_1 : decode cX6_die 1 = .ok (.istore_n 1, 1) := by decide +kernel
theorem dX6_die_2 : decode cX6_die 2 = .ok (.iconst 0, 1) := by decide +kernel
theorem dX6_die_3 : decode cX6_die 3 = .ok (.istore_n 2, 1) := by decide +kernel
theorem dX6_die_4 : decode cX6_die 4 = .ok (.iload_n 2, 1) := by decide +kernel
theorem dX6_die_5 : decode cX6_die 5 = .ok (.aload_n 0, 1) := by decide +kernel
theorem dX6_die_6 : decode cX6_die 6 = .ok (.getfield 7, 3) := by decide +kernel
theorem dX6_die_9 : decode cX6_die 9 = .ok (.iconst 5, 1) := by decide +kernel
theorem dX6_die_10 : decode cX6_die 10 = .ok (.iaload, 1) := by decide +kernel
theorem dX6_die_11 : decode cX6_die 11 = .ok (.if_icmp .ge 48, 3) := by decide +kernel
theorem dX6_die_14 : decode cX6_die 14 = .ok (.aload_n 0, 1) := by decide +kernel
theorem dX6_die_15 : decode cX6_die 15 = .ok (.getfield 7, 3) := by decide +kernel
theorem dX6_die_18 : decode cX6_die 18 = .ok (.bipush 8, 2) := by decide +kernel
theorem dX6_die_20 : decode cX6_die 20 = .ok (.aload_n 0, 1) := by decide +kernel
theorem dX6_die_21 : decode cX6_die 21 = .ok (.iload_n 2, 1) := by decide +kernel
theorem dX6_die_22 : decode cX6_die 22 = .ok (.iconst 1, 1) := by decide +kernel
theorem dX6_die_23 : decode cX6_die 23 = .ok (.invokevirtual 44, 3) := by decide +kernel
theorem dX6_die_26 : decode cX6_die 26 = .ok (.iadd, 1) := by decide +kernel
theorem dX6_die_27 : decode cX6_die 27 = .ok (.iaload, 1) := by decide +kernel
theorem dX6_die_28 : decode cX6_die 28 = .ok (.aload_n 0, 1) := by decide +kernel
theorem dX6_die_29 : decode cX6_die 29 = .ok (.iload_n 2, 1) := by decide +kernel
theorem dX6_die_30 : decode cX6_die 30 = .ok (.iconst 5, 1) := by decide +kernel
theorem dX6_die_31 : decode cX6_die 31 = .ok (.invokevirtual 44, 3) := by decide +kernel
theorem dX6_die_34 : decode cX6_die 34 = .ok (.if_icmp .ge 19, 3) := by decide +kernel
theorem dX6_die_37 : decode cX6_die 37 = .ok (.aload_n 0, 1) := by decide +kernel
theorem dX6_die_38 : decode cX6_die 38 = .ok (.iload_n 2, 1) := by decide +kernel
theorem dX6_die_39 : decode cX6_die 39 = .ok (.invokevirtual 48, 3) := by decide +kernel
theorem dX6_die_42 : decode cX6_die 42 = .ok (.aload_n 0, 1) := by decide +kernel
theorem dX6_die_43 : decode cX6_die 43 = .ok (.iload_n 2, 1) := by decide +kernel
theorem dX6_die_44 : decode cX6_die 44 = .ok (.invokevirtual 52, 3) := by decide +kernel
theorem dX6_die_47 : decode cX6_die 47 = .ok (.iinc 1 1, 3) := by decide +kernel
theorem dX6_die_50 : decode cX6_die 50 = .ok (.goto (-46), 3) := by decide +kernel
theorem dX6_die_53 : decode cX6_die 53 = .ok (.iinc 2 1, 3) := by decide +kernel
theorem dX6_die_56 : decode cX6_die 56 = .ok (.goto (-52), 3) := by decide +kernel
theorem dX6_die_59 : decode cX6_die 59 = .ok (.aload_n 0, 1) := by decide +kernel
theorem dX6_die_60 : decode cX6_die 60 = .ok (.getfield 7, 3) := by decide +kernel
theorem dX6_die_63 : decode cX6_die 63 = .ok (.iconst 2, 1) := by decide +kernel
theorem dX6_die_64 : decode cX6_die 64 = .ok (.dup2, 1) := by decide +kernel
theorem dX6_die_65 : decode cX6_die 65 = .ok (.iaload, 1) := by decide +kernel
theorem dX6_die_66 : decode cX6_die 66 = .ok (.iload_n 1, 1) := by decide +kernel
theorem dX6_die_67 : decode cX6_die 67 = .ok (.iadd, 1) := by decide +kernel
theorem dX6_die_68 : decode cX6_die 68 = .ok (.iastore, 1) := by decide +kernel
theorem dX6_die_69 : decode cX6_die 69 = .ok (.iload_n 1, 1) := by decide +kernel
theorem dX6_die_70 : decode cX6_die 70 = .ok (.ireturn, 1) := by decide +kernel
theorem dX6_holds_0 : decode cX6_holds 0 = .ok (.aload_n 0, 1) := by decide +kernel
theorem dX6_holds_1 : decode cX6_holds 1 = .ok (.getfield 19, 3) := by decide +kernel
theorem dX6_holds_4 : decode cX6_holds 4 = .ok (.bipush 10, 2) := by decide +kernel
theorem dX6_holds_6 : decode cX6_holds 6 = .ok (.iload_n 2, 1) := by decide +kernel
theorem dX6_holds_7 : decode cX6_holds 7 = .ok (.imul, 1) := by decide +kernel
theorem dX6_holds_8 : decode cX6_holds 8 = .ok (.iload_n 1, 1) := by decide +kernel
theorem dX6_holds_9 : decode cX6_holds 9 = .ok (.iadd, 1) := by decide +kernel
theorem dX6_holds_10 : decode cX6_holds 10 = .ok (.iaload, 1) := by decide +kernel
theorem dX6_holds_11 : decode cX6_holds 11 = .ok (.ireturn, 1) := by decide +kernel
set_option maxRecDepth 20000 in
theorem ggX6_passes_X6_of : GoodIn wsX6_passes wsX6_of := goodIn_r _ [5, 6, 16, 17, 18, 19, 20, 21, 22, 23, 24, 25, 26, 27, 28] (by decide +kernel) (by decide +kernel)
set_option maxRecDepth 20000 in
theorem gX6_passes_X6_of : GoodIn wsX6_passes (wsV RX6 44 RX6 yX6_of wsX6_of) := goodIn_app (goodIn_of _ (by decide +kernel)) ggX6_passes_X6_of
set_option maxRecDepth 20000 in
theorem ggX6_passes_X6_holds : GoodIn wsX6_passes wsX6_holds := goodIn_r _ [10, 11, 16, 17, 18, 19, 20, 21, 22, 23, 24, 25, 26, 27, 28] (by decide +kernel) (by decide +kernel)
set_option maxRecDepth 20000 in
theorem gX6_passes_X6_holds : GoodIn wsX6_passes (wsV RX6 55 RX6 yX6_holds wsX6_holds) := goodIn_app (goodIn_of _ (by decide +kernel)) ggX6_passes_X6_holds
set_option maxRecDepth 20000 in
theorem ggX6_passes_X6_mask : GoodIn wsX6_passes wsX6_mask := goodIn_r _ [15, 6, 16, 17, 18, 19, 20, 21, 22, 23, 24, 25, 26, 27, 28] (by decide +kernel) (by decide +kernel)
set_option maxRecDepth 20000 in
theorem gX6_passes_X6_mask : GoodIn wsX6_passes (wsV RX6 57 RX6 yX6_mask wsX6_mask) := goodIn_app (goodIn_of _ (by decide +kernel)) ggX6_passes_X6_mask
theorem dX6_passes_0 : decode cX6_passes 0 = .ok (.aload_n 0, 1) := by decide +kernel
theorem dX6_passes_1 : decode cX6_passes 1 = .ok (.aload_n 0, 1) := by decide +kernel
theorem dX6_passes_2 : decode cX6_passes 2 = .ok (.iload_n 1, 1) := by decide +kernel
theorem dX6_passes_3 : decode cX6_passes 3 = .ok (.iconst 1, 1) := by decide +kernel
theorem dX6_passes_4 : decode cX6_passes 4 = .ok (.invokevirtual 44, 3) := by decide +kernel
theorem dX6_passes_7 : decode cX6_passes 7 = .ok (.aload_n 0, 1) := by decide +kernel
theorem dX6_passes_8 : decode cX6_passes 8 = .ok (.iload_n 1, 1) := by decide +kernel
theorem dX6_passes_9 : decode cX6_passes 9 = .ok (.iconst 3, 1) := by decide +kernel
theorem dX6_passes_10 : decode cX6_passes 10 = .ok (.invokevirtual 44, 3) := by decide +kernel
theorem dX6_passes_13 : decode cX6_passes 13 = .ok (.invokevirtual 55, 3) := by decide +kernel
theorem dX6_passes_16 : decode cX6_passes 16 = .ok (.istore_n 2, 1) := by decide +kernel
theorem dX6_passes_17 : decode cX6_passes 17 = .ok (.iload_n 2, 1) := by decide +kernel
theorem dX6_passes_18 : decode cX6_passes 18 = .ok (.iconst 4, 1) := by decide +kernel
theorem dX6_passes_19 : decode cX6_passes 19 = .ok (.iand, 1) := by decide +kernel
theorem dX6_passes_20 : decode cX6_passes 20 = .ok (.ifCond .ne 7, 3) := by decide +kernel
theorem dX6_passes_23 : decode cX6_passes 23 = .ok (.iconst 0, 1) := by decide +kernel
theorem dX6_passes_24 : decode cX6_passes 24 = .ok (.goto 22, 3) := by decide +kernel
theorem dX6_passes_27 : decode cX6_passes 27 = .ok (.aload_n 0, 1) := by decide +kernel
theorem dX6_passes_28 : decode cX6_passes 28 = .ok (.iload_n 1, 1) := by decide +kernel
theorem dX6_passes_29 : decode cX6_passes 29 = .ok (.iconst 4, 1) := by decide +kernel
theorem dX6_passes_30 : decode cX6_passes 30 = .ok (.invokevirtual 44, 3) := by decide +kernel
theorem dX6_passes_33 : decode cX6_passes 33 = .ok (.iload_n 2, 1) := by decide +kernel
theorem dX6_passes_34 : decode cX6_passes 34 = .ok (.iand, 1) := by decide +kernel
theorem dX6_passes_35 : decode cX6_passes 35 = .ok (.aload_n 0, 1) := by decide +kernel
theorem dX6_passes_36 : decode cX6_passes 36 = .ok (.aload_n 0, 1) := by decide +kernel
theorem dX6_passes_37 : decode cX6_passes 37 = .ok (.iload_n 1, 1) := by decide +kernel
theorem dX6_passes_38 : decode cX6_passes 38 = .ok (.iconst 3, 1) := by decide +kernel
theorem dX6_passes_39 : decode cX6_passes 39 = .ok (.invokevirtual 44, 3) := by decide +kernel
theorem dX6_passes_42 : decode cX6_passes 42 = .ok (.invokevirtual 57, 3) := by decide +kernel
theorem dX6_passes_45 : decode cX6_passes 45 = .ok (.iand, 1) := by decide +kernel
theorem dX6_passes_46 : decode cX6_passes 46 = .ok (.ireturn, 1) := by decide +kernel
set_option maxRecDepth 20000 in
theorem ggX6_lay_X6_owner : GoodIn wsX6_lay wsX6_owner := goodIn_r _ [7, 2, 24, 25, 26, 27, 28, 29, 30, 31, 32, 33, 34, 35, 36] (by decide +kernel) (by decide +kernel)
set_option maxRecDepth 20000 in
theorem gX6_lay_X6_owner : GoodIn wsX6_lay (wsV RX6 61 RX6 yX6_owner wsX6_owner) := goodIn_app (goodIn_of _ (by decide +kernel)) ggX6_lay_X6_owner
set_option maxRecDepth 20000 in
theorem ggX6_lay_X6_of : GoodIn wsX6_lay wsX6_of := goodIn_r _ [11, 2, 24, 25, 26, 27, 28, 29, 30, 31, 32, 33, 34, 35, 36] (by decide +kernel) (by decide +kernel)
set_option maxRecDepth 20000 in
theorem gX6_lay_X6_of : GoodIn wsX6_lay (wsV RX6 44 RX6 yX6_of wsX6_of) := goodIn_app (goodIn_of _ (by decide +kernel)) ggX6_lay_X6_of
set_option maxRecDepth 20000 in
theorem ggX6_lay_X6_passes : GoodIn wsX6_lay wsX6_passes := goodIn_r _ [15, 8, 9, 10, 6, 11, 2, 16, 17, 18, 19, 1, 20, 21, 22, 23, 24, 25, 26, 27, 28, 29, 30, 31, 32, 33, 34, 35, 36] (by decide +kernel) (by decide +kernel)
set_option maxRecDepth 20000 in
theorem gX6_lay_X6_passes : GoodIn wsX6_lay (wsV RX6 64 RX6 yX6_passes wsX6_passes) := goodIn_app (goodIn_of _ (by decide +kernel)) ggX6_lay_X6_passes
theorem dX6_lay_0 : decode cX6_lay 0 = .ok (.iconst 0, 1) := by decide +kernel
theorem dX6_lay_1 : decode cX6_lay 1 = .ok (.istore_n 1, 1) := by decide +kernel
theorem dX6_lay_2 : decode cX6_lay 2 = .ok (.iload_n 1, 1) := by decide +kernel
theorem dX6_lay_3 : decode cX6_lay 3 = .ok (.bipush 80, 2) := by decide +kernel
theorem dX6_lay_5 : decode cX6_lay 5 = .ok (.if_icmp .ge 16, 3) := by decide +kernel
theorem dX6_lay_8 : decode cX6_lay 8 = .ok (.aload_n 0, 1) := by decide +kernel
theorem dX6_lay_9 : decode cX6_lay 9 = .ok (.getfield 19, 3) := by decide +kernel
theorem dX6_lay_12 : decode cX6_lay 12 = .ok (.iload_n 1, 1) := by decide +kernel
theorem dX6_lay_13 : decode cX6_lay 13 = .ok (.iconst 0, 1) := by decide +kernel
theorem dX6_lay_14 : decode cX6_lay 14 = .ok (.iastore, 1) := by decide +kernel
theorem dX6_lay_15 : decode cX6_lay 15 = .ok (.iinc 1 1, 3) := by decide +kernel
theorem dX6_lay_18 : decode cX6_lay 18 = .ok (.goto (-16), 3) := by decide +kernel
theorem dX6_lay_21 : decode cX6_lay 21 = .ok (.iconst 0, 1) := by decide +kernel
theorem dX6_lay_22 : decode cX6_lay 22 = .ok (.istore_n 1, 1) := by decide +kernel
theorem dX6_lay_23 : decode cX6_lay 23 = .ok (.iload_n 1, 1) := by decide +kernel
theorem dX6_lay_24 : decode cX6_lay 24 = .ok (.aload_n 0, 1) := by decide +kernel
theorem dX6_lay_25 : decode cX6_lay 25 = .ok (.getfield 7, 3) := by decide +kernel
theorem dX6_lay_28 : decode cX6_lay 28 = .ok (.iconst 4, 1) := by decide +kernel
theorem dX6_lay_29 : decode cX6_lay 29 = .ok (.iaload, 1) := by decide +kernel
theorem dX6_lay_30 : decode cX6_lay 30 = .ok (.if_icmp .ge 26, 3) := by decide +kernel
theorem dX6_lay_33 : decode cX6_lay 33 = .ok (.aload_n 0, 1) := by decide +kernel
theorem dX6_lay_34 : decode cX6_lay 34 = .ok (.getfield 19, 3) := by decide +kernel
theorem dX6_lay_37 : decode cX6_lay 37 = .ok (.bipush 10, 2) := by decide +kernel
theorem dX6_lay_39 : decode cX6_lay 39 = .ok (.iload_n 1, 1) := by decide +kernel
theorem dX6_lay_40 : decode cX6_lay 40 = .ok (.imul, 1) := by decide +kernel
theorem dX6_lay_41 : decode cX6_lay 41 = .ok (.aload_n 0, 1) := by decide +kernel
theorem dX6_lay_42 : decode cX6_lay 42 = .ok (.iload_n 1, 1) := by decide +kernel
theorem dX6_lay_43 : decode cX6_lay 43 = .ok (.invokevirtual 61, 3) := by decide +kernel
theorem dX6_lay_46 : decode cX6_lay 46 = .ok (.iadd, 1) := by decide +kernel
theorem dX6_lay_47 : decode cX6_lay 47 = .ok (.bipush 7, 2) := by decide +kernel
theorem dX6_lay_49 : decode cX6_lay 49 = .ok (.iastore, 1) := by decide +kernel
theorem dX6_lay_50 : decode cX6_lay 50 = .ok (.iinc 1 1, 3) := by decide +kernel
theorem dX6_lay_53 : decode cX6_lay 53 = .ok (.goto (-30), 3) := by decide +kernel
theorem dX6_lay_56 : decode cX6_lay 56 = .ok (.iconst 1, 1) := by decide +kernel
theorem dX6_lay_57 : decode cX6_lay 57 = .ok (.istore_n 1, 1) := by decide +kernel
theorem dX6_lay_58 : decode cX6_lay 58 = .ok (.iload_n 1, 1) := by decide +kernel
theorem dX6_lay_59 : decode cX6_lay 59 = .ok (.ifCond .eq 86, 3) := by decide +kernel
theorem dX6_lay_62 : decode cX6_lay 62 = .ok (.iconst 0, 1) := by decide +kernel
theorem dX6_lay_63 : decode cX6_lay 63 = .ok (.istore_n 1, 1) := by decide +kernel
theorem dX6_lay_64 : decode cX6_lay 64 = .ok (.iconst 0, 1) := by decide +kernel
theorem dX6_lay_65 : decode cX6_lay 65 = .ok (.istore_n 2, 1) := by decide +kernel
theorem dX6_lay_66 : decode cX6_lay 66 = .ok (.iload_n 2, 1) := by decide +kernel
theorem dX6_lay_67 : decode cX6_lay 67 = .ok (.aload_n 0, 1) := by decide +kernel
theorem dX6_lay_68 : decode cX6_lay 68 = .ok (.getfield 7, 3) := by decide +kernel
theorem dX6_lay_71 : decode cX6_lay 71 = .ok (.iconst 5, 1) := by decide +kernel
theorem dX6_lay_72 : decode cX6_lay 72 = .ok (.iaload, 1) := by decide +kernel
theorem dX6_lay_73 : decode cX6_lay 73 = .ok (.if_icmp .ge 69, 3) := by decide +kernel
theorem dX6_lay_76 : decode cX6_lay 76 = .ok (.bipush 10, 2) := by decide +kernel
theorem dX6_lay_78 : decode cX6_lay 78 = .ok (.aload_n 0, 1) := by decide +kernel
theorem dX6_lay_79 : decode cX6_lay 79 = .ok (.iload_n 2, 1) := by decide +kernel
theorem dX6_lay_80 : decode cX6_lay 80 = .ok (.iconst 3, 1) := by decide +kernel
theorem dX6_lay_81 : decode cX6_lay 81 = .ok (.invokevirtual 44, 3) := by decide +kernel
theorem dX6_lay_84 : decode cX6_lay 84 = .ok (.imul, 1) := by decide +kernel
theorem dX6_lay_85 : decode cX6_lay 85 = .ok (.aload_n 0, 1) := by decide +kernel
theorem dX6_lay_86 : decode cX6_lay 86 = .ok (.iload_n 2, 1) := by decide +kernel
theorem dX6_lay_87 : decode cX6_lay 87 = .ok (.iconst 2, 1) := by decide +kernel
theorem dX6_lay_88 : decode cX6_lay 88 = .ok (.invokevirtual 44, 3) := by decide +kernel
theorem dX6_lay_91 : decode cX6_lay 91 = .ok (.iadd, 1) := by decide +kernel
theorem dX6_lay_92 : decode cX6_lay 92 = .ok (.istore_n 3, 1) := by decide +kernel
theorem dX6_lay_93 : decode cX6_lay 93 = .ok (.aload_n 0, 1) := by decide +kernel
theorem dX6_lay_94 : decode cX6_lay 94 = .ok (.getfield 19, 3) := by decide +kernel
theorem dX6_lay_97 : decode cX6_lay 97 = .ok (.iload_n 3, 1) := by decide +kernel
theorem dX6_lay_98 : decode cX6_lay 98 = .ok (.iaload, 1) := by decide +kernel
theorem dX6_lay_99 : decode cX6_lay 99 = .ok (.aload_n 0, 1) := by decide +kernel
theorem dX6_lay_100 : decode cX6_lay 100 = .ok (.iload_n 2, 1) := by decide +kernel
theorem dX6_lay_101 : decode cX6_lay 101 = .ok (.invokevirtual 64, 3) := by decide +kernel
theorem dX6_lay_104 : decode cX6_lay 104 = .ok (.ior, 1) := by decide +kernel
theorem dX6_lay_105 : decode cX6_lay 105 = .ok (.istore 4, 2) := by decide +kernel
theorem dX6_lay_107 : decode cX6_lay 107 = .ok (.iload_n 1, 1) := by decide +kernel
theorem dX6_lay_108 : decode cX6_lay 108 = .ok (.ifCond .ne 14, 3) := by decide +kernel
theorem dX6_lay_111 : decode cX6_lay 111 = .ok (.iload 4, 2) := by decide +kernel
theorem dX6_lay_113 : decode cX6_lay 113 = .ok (.aload_n 0, 1) := by decide +kernel
theorem dX6_lay_114 : decode cX6_lay 114 = .ok (.getfield 19, 3) := by decide +kernel
theorem dX6_lay_117 : decode cX6_lay 117 = .ok (.iload_n 3, 1) := by decide +kernel
theorem dX6_lay_118 : decode cX6_lay 118 = .ok (.iaload, 1) := by decide +kernel
theorem dX6_lay_119 : decode cX6_lay 119 = .ok (.if_icmp .eq 7, 3) := by decide +kernel
theorem dX6_lay_122 : decode cX6_lay 122 = .ok (.iconst 1, 1) := by decide +kernel
theorem dX6_lay_123 : decode cX6_lay 123 = .ok (.goto 4, 3) := by decide +kernel
theorem dX6_lay_126 : decode cX6_lay 126 = .ok (.iconst 0, 1) := by decide +kernel
theorem dX6_lay_127 : decode cX6_lay 127 = .ok (.istore_n 1, 1) := by decide +kernel
theorem dX6_lay_128 : decode cX6_lay 128 = .ok (.aload_n 0, 1) := by decide +kernel
theorem dX6_lay_129 : decode cX6_lay 129 = .ok (.getfield 19, 3) := by decide +kernel
theorem dX6_lay_132 : decode cX6_lay 132 = .ok (.iload_n 3, 1) := by decide +kernel
theorem dX6_lay_133 : decode cX6_lay 133 = .ok (.iload 4, 2) := by decide +kernel
theorem dX6_lay_135 : decode cX6_lay 135 = .ok (.iastore, 1) := by decide +kernel
theorem dX6_lay_136 : decode cX6_lay 136 = .ok (.iinc 2 1, 3) := by decide +kernel
theorem dX6_lay_139 : decode cX6_lay 139 = .ok (.goto (-73), 3) := by decide +kernel
theorem dX6_lay_142 : decode cX6_lay 142 = .ok (.goto (-84), 3) := by decide +kernel
theorem dX6_lay_145 : decode cX6_lay 145 = .ok (.return_, 1) := by decide +kernel
set_option maxRecDepth 20000 in
theorem ggX6_whoHas_X6_holds : GoodIn wsX6_whoHas wsX6_holds := goodIn_r _ [5, 6, 7, 8, 9, 10, 11, 12, 13, 14, 15, 16, 17, 18, 19] (by decide +kernel) (by decide +kernel)
set_option maxRecDepth 20000 in
theorem gX6_whoHas_X6_holds : GoodIn wsX6_whoHas (wsV RX6 55 RX6 yX6_holds wsX6_holds) := goodIn_app (goodIn_of _ (by decide +kernel)) ggX6_whoHas_X6_holds
theorem dX6_whoHas_0 : decode cX6_whoHas 0 = .ok (.iconst 0, 1) := by decide +kernel
theorem dX6_whoHas_1 : decode cX6_whoHas 1 = .ok (.istore_n 3, 1) := by decide +kernel
theorem dX6_whoHas_2 : decode cX6_whoHas 2 = .ok (.iconst 0, 1) := by decide +kernel
theorem dX6_whoHas_3 : decode cX6_whoHas 3 = .ok (.istore 4, 2) := by decide +kernel
theorem dX6_whoHas_5 : decode cX6_whoHas 5 = .ok (.iload 4, 2) := by decide +kernel
theorem dX6_whoHas_7 : decode cX6_whoHas 7 = .ok (.bipush 10, 2) := by decide +kernel
theorem dX6_whoHas_9 : decode cX6_whoHas 9 = .ok (.if_icmp .ge 32, 3) := by decide +kernel
theorem dX6_whoHas_12 : decode cX6_whoHas 12 = .ok (.iload_n 3, 1) := by decide +kernel
theorem dX6_whoHas_13 : decode cX6_whoHas 13 = .ok (.aload_n 0, 1) := by decide +kernel
theorem dX6_whoHas_14 : decode cX6_whoHas 14 = .ok (.iload 4, 2) := by decide +kernel
theorem dX6_whoHas_16 : decode cX6_whoHas 16 = .ok (.iload_n 1, 1) := by decide +kernel
theorem dX6_whoHas_17 : decode cX6_whoHas 17 = .ok (.invokevirtual 55, 3) := by decide +kernel
theorem dX6_whoHas_20 : decode cX6_whoHas 20 = .ok (.iload_n 2, 1) := by decide +kernel
theorem dX6_whoHas_21 : decode cX6_whoHas 21 = .ok (.iand, 1) := by decide +kernel
theorem dX6_whoHas_22 : decode cX6_whoHas 22 = .ok (.ifCond .eq 10, 3) := by decide +kernel
theorem dX6_whoHas_25 : decode cX6_whoHas 25 = .ok (.iconst 1, 1) := by decide +kernel
theorem dX6_whoHas_26 : decode cX6_whoHas 26 = .ok (.iload 4, 2) := by decide +kernel
theorem dX6_whoHas_28 : decode cX6_whoHas 28 = .ok (.ishl, 1) := by decide +kernel
theorem dX6_whoHas_29 : decode cX6_whoHas 29 = .ok (.goto 4, 3) := by decide +kernel
theorem dX6_whoHas_32 : decode cX6_whoHas 32 = .ok (.iconst 0, 1) := by decide +kernel
theorem dX6_whoHas_33 : decode cX6_whoHas 33 = .ok (.ior, 1) := by decide +kernel
theorem dX6_whoHas_34 : decode cX6_whoHas 34 = .ok (.istore_n 3, 1) := by decide +kernel
theorem dX6_whoHas_35 : decode cX6_whoHas 35 = .ok (.iinc 4 1, 3) := by decide +kernel
theorem dX6_whoHas_38 : decode cX6_whoHas 38 = .ok (.goto (-33), 3) := by decide +kernel
theorem dX6_whoHas_41 : decode cX6_whoHas 41 = .ok (.iload_n 3, 1) := by decide +kernel
theorem dX6_whoHas_42 : decode cX6_whoHas 42 = .ok (.ireturn, 1) := by decide +kernel
theorem dX6_bits_0 : decode cX6_bits 0 = .ok (.iconst 0, 1) := by decide +kernel
theorem dX6_bits_1 : decode cX6_bits 1 = .ok (.istore_n 1, 1) := by decide +kernel
theorem dX6_bits_2 : decode cX6_bits 2 = .ok (.iload_n 0, 1) := by decide +kernel
theorem dX6_bits_3 : decode cX6_bits 3 = .ok (.istore_n 2, 1) := by decide +kernel
theorem dX6_bits_4 : decode cX6_bits 4 = .ok (.iload_n 2, 1) := by decide +kernel
theorem dX6_bits_5 : decode cX6_bits 5 = .ok (.ifCond .le 16, 3) := by decide +kernel
theorem dX6_bits_8 : decode cX6_bits 8 = .ok (.iload_n 1, 1) := by decide +kernel
theorem dX6_bits_9 : decode cX6_bits 9 = .ok (.iload_n 2, 1) := by decide +kernel
theorem dX6_bits_10 : decode cX6_bits 10 = .ok (.iconst 1, 1) := by decide +kernel
theorem dX6_bits_11 : decode cX6_bits 11 = .ok (.iand, 1) := by decide +kernel
theorem dX6_bits_12 : decode cX6_bits 12 = .ok (.iadd, 1) := by decide +kernel
theorem dX6_bits_13 : decode cX6_bits 13 = .ok (.istore_n 1, 1) := by decide +kernel
theorem dX6_bits_14 : decode cX6_bits 14 = .ok (.iload_n 2, 1) := by decide +kernel
theorem dX6_bits_15 : decode cX6_bits 15 = .ok (.iconst 1, 1) := by decide +kernel
theorem dX6_bits_16 : decode cX6_bits 16 = .ok (.ishr, 1) := by decide +kernel
theorem dX6_bits_17 : decode cX6_bits 17 = .ok (.istore_n 2, 1) := by decide +kernel
theorem dX6_bits_18 : decode cX6_bits 18 = .ok (.goto (-14), 3) := by decide +kernel
theorem dX6_bits_21 : decode cX6_bits 21 = .ok (.iload_n 1, 1) := by decide +kernel
theorem dX6_bits_22 : decode cX6_bits 22 = .ok (.ireturn, 1) := by decide +kernel
set_option maxRecDepth 20000 in
theorem ggX6_pairs_X6_lay : GoodIn wsX6_pairs wsX6_lay := goodIn_r _ [6, 7, 1, 8, 9, 10, 5, 11, 12, 13, 14, 15, 16, 17, 18, 19, 20, 21, 22, 23, 24, 25, 26, 27, 35, 36, 37, 38, 39, 40, 41, 42, 43, 44, 45, 46, 47] (by decide +kernel) (by decide +kernel)
set_option maxRecDepth 20000 in
theorem gX6_pairs_X6_lay : GoodIn wsX6_pairs (wsV RX6 67 RX6 yX6_lay wsX6_lay) := goodIn_app (goodIn_of _ (by decide +kernel)) ggX6_pairs_X6_lay
set_option maxRecDepth 20000 in
theorem ggX6_pairs_X6_whoHas : GoodIn wsX6_pairs wsX6_whoHas := goodIn_r _ [31, 20, 21, 22, 5, 23, 7, 35, 36, 37, 38, 39, 40, 41, 42, 43, 44, 45, 46, 47] (by decide +kernel) (by decide +kernel)
set_option maxRecDepth 20000 in
theorem gX6_pairs_X6_whoHas : GoodIn wsX6_pairs (wsV RX6 70 RX6 yX6_whoHas wsX6_whoHas) := goodIn_app (goodIn_of _ (by decide +kernel)) ggX6_pairs_X6_whoHas
set_option maxRecDepth 20000 in
theorem ggX6_pairs_X6_bits : GoodIn wsX6_pairs wsX6_bits := goodIn_r _ [34] (by decide +kernel) (by decide +kernel)
set_option maxRecDepth 20000 in
theorem gX6_pairs_X6_bits : GoodIn wsX6_pairs (va_wsS RX6 73 yX6_bits wsX6_bits) := goodIn_app (goodIn_of _ (by decide +kernel)) ggX6_pairs_X6_bits
theorem dX6_pairs_0 : decode cX6_pairs 0 = .ok (.aload_n 0, 1) := by decide +kernel
theorem dX6_pairs_1 : decode cX6_pairs 1 = .ok (.invokevirtual 67, 3) := by decide +kernel
theorem dX6_pairs_4 : decode cX6_pairs 4 = .ok (.iconst 0, 1) := by decide +kernel
theorem dX6_pairs_5 : decode cX6_pairs 5 = .ok (.istore_n 1, 1) := by decide +kernel
theorem dX6_pairs_6 : decode cX6_pairs 6 = .ok (.iconst 0, 1) := by decide +kernel
theorem dX6_pairs_7 : decode cX6_pairs 7 = .ok (.istore_n 2, 1) := by decide +kernel
theorem dX6_pairs_8 : decode cX6_pairs 8 = .ok (.iload_n 2, 1) := by decide +kernel
theorem dX6_pairs_9 : decode cX6_pairs 9 = .ok (.aload_n 0, 1) := by decide +kernel
theorem dX6_pairs_10 : decode cX6_pairs 10 = .ok (.getfield 7, 3) := by decide +kernel
theorem dX6_pairs_13 : decode cX6_pairs 13 = .ok (.iconst 4, 1) := by decide +kernel
theorem dX6_pairs_14 : decode cX6_pairs 14 = .ok (.iaload, 1) := by decide +kernel
theorem dX6_pairs_15 : decode cX6_pairs 15 = .ok (.if_icmp .ge 21, 3) := by decide +kernel
theorem dX6_pairs_18 : decode cX6_pairs 18 = .ok (.iload_n 1, 1) := by decide +kernel
theorem dX6_pairs_19 : decode cX6_pairs 19 = .ok (.aload_n 0, 1) := by decide +kernel
theorem dX6_pairs_20 : decode cX6_pairs 20 = .ok (.iload_n 2, 1) := by decide +kernel
theorem dX6_pairs_21 : decode cX6_pairs 21 = .ok (.iconst 1, 1) := by decide +kernel
theorem dX6_pairs_22 : decode cX6_pairs 22 = .ok (.invokevirtual 70, 3) := by decide +kernel
theorem dX6_pairs_25 : decode cX6_pairs 25 = .ok (.invokestatic 73, 3) := by decide +kernel
theorem dX6_pairs_28 : decode cX6_pairs 28 = .ok (.iadd, 1) := by decide +kernel
theorem dX6_pairs_29 : decode cX6_pairs 29 = .ok (.istore_n 1, 1) := by decide +kernel
theorem dX6_pairs_30 : decode cX6_pairs 30 = .ok (.iinc 2 1, 3) := by decide +kernel
theorem dX6_pairs_33 : decode cX6_pairs 33 = .ok (.goto (-25), 3) := by decide +kernel
theorem dX6_pairs_36 : decode cX6_pairs 36 = .ok (.iload_n 1, 1) := by decide +kernel
theorem dX6_pairs_37 : decode cX6_pairs 37 = .ok (.ireturn, 1) := by decide +kernel
set_option maxRecDepth 20000 in
theorem ggX6_addThing_X6_isPerson : GoodIn wsX6_addThing wsX6_isPerson := goodIn_r _ [6, 7, 8, 9, 5, 10] (by decide +kernel) (by decide +kernel)
set_option maxRecDepth 20000 in
theorem gX6_addThing_X6_isPerson : GoodIn wsX6_addThing (va_wsS RX6 76 yX6_isPerson wsX6_isPerson) := goodIn_app (goodIn_of _ (by decide +kernel)) ggX6_addThing_X6_isPerson
set_option maxRecDepth 20000 in
theorem ggX6_addThing_X6_in : GoodIn wsX6_addThing wsX6_in := goodIn_r _ [10] (by decide +kernel) (by decide +kernel)
set_option maxRecDepth 20000 in
theorem gX6_addThing_X6_in : GoodIn wsX6_addThing (va_wsS RX6 40 yX6_in wsX6_in) := goodIn_app (goodIn_of _ (by decide +kernel)) ggX6_addThing_X6_in
set_option maxRecDepth 20000 in
theorem ggX6_addThing_X6_goes : GoodIn wsX6_addThing wsX6_goes := goodIn_r _ [14, 15, 22, 23, 24, 25, 26, 27, 28, 29, 30, 31, 32, 33, 34] (by decide +kernel) (by decide +kernel)
set_option maxRecDepth 20000 in
theorem gX6_addThing_X6_goes : GoodIn wsX6_addThing (wsV RX6 82 RX6 yX6_goes wsX6_goes) := goodIn_app (goodIn_of _ (by decide +kernel)) ggX6_addThing_X6_goes
set_option maxRecDepth 20000 in
theorem ggX6_addThing_X6_save : GoodIn wsX6_addThing wsX6_save := goodIn_r _ [19, 20, 21, 2, 22, 23, 24, 25, 26, 27, 28, 29, 30, 31, 32, 33, 34] (by decide +kernel) (by decide +kernel)
set_option maxRecDepth 20000 in
theorem gX6_addThing_X6_save : GoodIn wsX6_addThing (wsV RX6 86 RX6 yX6_save wsX6_save) := goodIn_app (goodIn_of _ (by decide +kernel)) ggX6_addThing_X6_save
theorem dX6_addThing_0 : decode cX6_addThing 0 = .ok (.aload_n 0, 1) := by decide +kernel
theorem dX6_addThing_1 : decode cX6_addThing 1 = .ok (.iload_n 1, 1) := by decide +kernel
theorem dX6_addThing_2 : decode cX6_addThing 2 = .ok (.invokestatic 76, 3) := by decide +kernel
theorem dX6_addThing_5 : decode cX6_addThing 5 = .ok (.iload_n 2, 1) := by decide +kernel
theorem dX6_addThing_6 : decode cX6_addThing 6 = .ok (.i2l, 1) := by decide +kernel
theorem dX6_addThing_7 : decode cX6_addThing 7 = .ok (.lconst 0, 1) := by decide +kernel
theorem dX6_addThing_8 : decode cX6_addThing 8 = .ok (.ldc2_w 80, 3) := by decide +kernel
theorem dX6_addThing_11 : decode cX6_addThing 11 = .ok (.invokestatic 40, 3) := by decide +kernel
theorem dX6_addThing_14 : decode cX6_addThing 14 = .ok (.aload_n 0, 1) := by decide +kernel
theorem dX6_addThing_15 : decode cX6_addThing 15 = .ok (.getfield 7, 3) := by decide +kernel
theorem dX6_addThing_18 : decode cX6_addThing 18 = .ok (.iconst 4, 1) := by decide +kernel
theorem dX6_addThing_19 : decode cX6_addThing 19 = .ok (.iaload, 1) := by decide +kernel
theorem dX6_addThing_20 : decode cX6_addThing 20 = .ok (.bipush 8, 2) := by decide +kernel
theorem dX6_addThing_22 : decode cX6_addThing 22 = .ok (.if_icmp .ge 7, 3) := by decide +kernel
theorem dX6_addThing_25 : decode cX6_addThing 25 = .ok (.iconst 1, 1) := by decide +kernel
theorem dX6_addThing_26 : decode cX6_addThing 26 = .ok (.goto 4, 3) := by decide +kernel
theorem dX6_addThing_29 : decode cX6_addThing 29 = .ok (.iconst 0, 1) := by decide +kernel
theorem dX6_addThing_30 : decode cX6_addThing 30 = .ok (.invokevirtual 82, 3) := by decide +kernel
theorem dX6_addThing_33 : decode cX6_addThing 33 = .ok (.ifCond .ne 5, 3) := by decide +kernel
theorem dX6_addThing_36 : decode cX6_addThing 36 = .ok (.iconst 0, 1) := by decide +kernel
theorem dX6_addThing_37 : decode cX6_addThing 37 = .ok (.ireturn, 1) := by decide +kernel
theorem dX6_addThing_38 : decode cX6_addThing 38 = .ok (.aload_n 0, 1) := by decide +kernel
theorem dX6_addThing_39 : decode cX6_addThing 39 = .ok (.invokevirtual 86, 3) := by decide +kernel
theorem dX6_addThing_42 : decode cX6_addThing 42 = .ok (.aload_n 0, 1) := by decide +kernel
theorem dX6_addThing_43 : decode cX6_addThing 43 = .ok (.getfield 7, 3) := by decide +kernel
theorem dX6_addThing_46 : decode cX6_addThing 46 = .ok (.iconst 4, 1) := by decide +kernel
theorem dX6_addThing_47 : decode cX6_addThing 47 = .ok (.iaload, 1) := by decide +kernel
theorem dX6_addThing_48 : decode cX6_addThing 48 = .ok (.istore_n 3, 1) := by decide +kernel
theorem dX6_addThing_49 : decode cX6_addThing 49 = .ok (.aload_n 0, 1) := by decide +kernel
theorem dX6_addThing_50 : decode cX6_addThing 50 = .ok (.getfield 7, 3) := by decide +kernel
theorem dX6_addThing_53 : decode cX6_addThing 53 = .ok (.bipush 28, 2) := by decide +kernel
theorem dX6_addThing_55 : decode cX6_addThing 55 = .ok (.iconst 2, 1) := by decide +kernel
theorem dX6_addThing_56 : decode cX6_addThing 56 = .ok (.iload_n 3, 1) := by decide +kernel
theorem dX6_addThing_57 : decode cX6_addThing 57 = .ok (.imul, 1) := by decide +kernel
theorem dX6_addThing_58 : decode cX6_addThing 58 = .ok (.iadd, 1) := by decide +kernel
theorem dX6_addThing_59 : decode cX6_addThing 59 = .ok (.iload_n 1, 1) := by decide +kernel
theorem dX6_addThing_60 : decode cX6_addThing 60 = .ok (.iastore, 1) := by decide +kernel
theorem dX6_addThing_61 : decode cX6_addThing 61 = .ok (.aload_n 0, 1) := by decide +kernel
theorem dX6_addThing_62 : decode cX6_addThing 62 = .ok (.getfield 7, 3) := by decide +kernel
theorem dX6_addThing_65 : decode cX6_addThing 65 = .ok (.bipush 28, 2) := by decide +kernel
theorem dX6_addThing_67 : decode cX6_addThing 67 = .ok (.iconst 2, 1) := by decide +kernel
theorem dX6_addThing_68 : decode cX6_addThing 68 = .ok (.iload_n 3, 1) := by decide +kernel
theorem dX6_addThing_69 : decode cX6_addThing 69 = .ok (.imul, 1) := by decide +kernel
theorem dX6_addThing_70 : decode cX6_addThing 70 = .ok (.iadd, 1) := by decide +kernel
theorem dX6_addThing_71 : decode cX6_addThing 71 = .ok (.iconst 1, 1) := by decide +kernel
theorem dX6_addThing_72 : decode cX6_addThing 72 = .ok (.iadd, 1) := by decide +kernel
theorem dX6_addThing_73 : decode cX6_addThing 73 = .ok (.iload_n 2, 1) := by decide +kernel
theorem dX6_addThing_74 : decode cX6_addThing 74 = .ok (.iastore, 1) := by decide +kernel
theorem dX6_addThing_75 : decode cX6_addThing 75 = .ok (.aload_n 0, 1) := by decide +kernel
theorem dX6_addThing_76 : decode cX6_addThing 76 = .ok (.getfield 7, 3) := by decide +kernel
theorem dX6_addThing_79 : decode cX6_addThing 79 = .ok (.iconst 4, 1) := by decide +kernel
theorem dX6_addThing_80 : decode cX6_addThing 80 = .ok (.dup2, 1) := by decide +kernel
theorem dX6_addThing_81 : decode cX6_addThing 81 = .ok (.iaload, 1) := by decide +kernel
theorem dX6_addThing_82 : decode cX6_addThing 82 = .ok (.iconst 1, 1) := by decide +kernel
theorem dX6_addThing_83 : decode cX6_addThing 83 = .ok (.iadd, 1) := by decide +kernel
theorem dX6_addThing_84 : decode cX6_addThing 84 = .ok (.iastore, 1) := by decide +kernel
theorem dX6_addThing_85 : decode cX6_addThing 85 = .ok (.iload_n 3, 1) := by decide +kernel
theorem dX6_addThing_86 : decode cX6_addThing 86 = .ok (.ireturn, 1) := by decide +kernel
set_option maxRecDepth 20000 in
theorem ggX6_exchange_X6_save : GoodIn wsX6_exchange wsX6_save := goodIn_r _ [6, 7, 8, 1, 9, 10, 11, 12, 13, 14, 15, 16, 17, 18, 19, 20, 21] (by decide +kernel) (by decide +kernel)
set_option maxRecDepth 20000 in
theorem gX6_exchange_X6_save : GoodIn wsX6_exchange (wsV RX6 86 RX6 yX6_save wsX6_save) := goodIn_app (goodIn_of _ (by decide +kernel)) ggX6_exchange_X6_save
theorem dX6_exchange_0 : decode cX6_exchange 0 = .ok (.aload_n 0, 1) := by decide +kernel
theorem dX6_exchange_1 : decode cX6_exchange 1 = .ok (.invokevirtual 86, 3) := by decide +kernel
theorem dX6_exchange_4 : decode cX6_exchange 4 = .ok (.aload_n 0, 1) := by decide +kernel
theorem dX6_exchange_5 : decode cX6_exchange 5 = .ok (.getfield 7, 3) := by decide +kernel
theorem dX6_exchange_8 : decode cX6_exchange 8 = .ok (.iload_n 1, 1) := by decide +kernel
theorem dX6_exchange_9 : decode cX6_exchange 9 = .ok (.iaload, 1) := by decide +kernel
theorem dX6_exchange_10 : decode cX6_exchange 10 = .ok (.istore_n 3, 1) := by decide +kernel
theorem dX6_exchange_11 : decode cX6_exchange 11 = .ok (.aload_n 0, 1) := by decide +kernel
theorem dX6_exchange_12 : decode cX6_exchange 12 = .ok (.getfield 7, 3) := by decide +kernel
theorem dX6_exchange_15 : decode cX6_exchange 15 = .ok (.iload_n 1, 1) := by decide +kernel
theorem dX6_exchange_16 : decode cX6_exchange 16 = .ok (.iload_n 2, 1) := by decide +kernel
theorem dX6_exchange_17 : decode cX6_exchange 17 = .ok (.iastore, 1) := by decide +kernel
theorem dX6_exchange_18 : decode cX6_exchange 18 = .ok (.iload_n 3, 1) := by decide +kernel
theorem dX6_exchange_19 : decode cX6_exchange 19 = .ok (.ireturn, 1) := by decide +kernel
set_option maxRecDepth 20000 in
theorem ggX6_setMask_X6_isThing : GoodIn wsX6_setMask wsX6_isThing := goodIn_r _ [6, 7, 8, 9, 5, 10, 26, 27, 28, 29, 30, 31, 32, 33, 34, 35, 36, 37, 38] (by decide +kernel) (by decide +kernel)
set_option maxRecDepth 20000 in
theorem gX6_setMask_X6_isThing : GoodIn wsX6_setMask (wsV RX6 89 RX6 yX6_isThing wsX6_isThing) := goodIn_app (goodIn_of _ (by decide +kernel)) ggX6_setMask_X6_isThing
set_option maxRecDepth 20000 in
theorem ggX6_setMask_X6_in : GoodIn wsX6_setMask wsX6_in := goodIn_r _ [10] (by decide +kernel) (by decide +kernel)
set_option maxRecDepth 20000 in
theorem gX6_setMask_X6_in : GoodIn wsX6_setMask (va_wsS RX6 40 yX6_in wsX6_in) := goodIn_app (goodIn_of _ (by decide +kernel)) ggX6_setMask_X6_in
set_option maxRecDepth 20000 in
theorem ggX6_setMask_X6_goes : GoodIn wsX6_setMask wsX6_goes := goodIn_r _ [14, 15, 26, 27, 28, 29, 30, 31, 32, 33, 34, 35, 36, 37, 38] (by decide +kernel) (by decide +kernel)
set_option maxRecDepth 20000 in
theorem gX6_setMask_X6_goes : GoodIn wsX6_setMask (wsV RX6 82 RX6 yX6_goes wsX6_goes) := goodIn_app (goodIn_of _ (by decide +kernel)) ggX6_setMask_X6_goes
set_option maxRecDepth 20000 in
theorem ggX6_setMask_X6_exchange : GoodIn wsX6_setMask wsX6_exchange := goodIn_r _ [19, 7, 20, 21, 22, 5, 23, 24, 25, 26, 27, 28, 29, 30, 31, 32, 33, 34, 35, 36, 37, 38] (by decide +kernel) (by decide +kernel)
set_option maxRecDepth 20000 in
theorem gX6_setMask_X6_exchange : GoodIn wsX6_setMask (wsV RX6 92 RX6 yX6_exchange wsX6_exchange) := goodIn_app (goodIn_of _ (by decide +kernel)) ggX6_setMask_X6_exchange
theorem dX6_setMask_0 : decode cX6_setMask 0 = .ok (.aload_n 0, 1) := by decide +kernel
theorem dX6_setMask_1 : decode cX6_setMask 1 = .ok (.aload_n 0, 1) := by decide +kernel
theorem dX6_setMask_2 : decode cX6_setMask 2 = .ok (.iload_n 1, 1) := by decide +kernel
theorem dX6_setMask_3 : decode cX6_setMask 3 = .ok (.invokevirtual 89, 3) := by decide +kernel
theorem dX6_setMask_6 : decode cX6_setMask 6 = .ok (.iload_n 2, 1) := by decide +kernel
theorem dX6_setMask_7 : decode cX6_setMask 7 = .ok (.i2l, 1) := by decide +kernel
theorem dX6_setMask_8 : decode cX6_setMask 8 = .ok (.lconst 0, 1) := by decide +kernel
theorem dX6_setMask_9 : decode cX6_setMask 9 = .ok (.ldc2_w 80, 3) := by decide +kernel
theorem dX6_setMask_12 : decode cX6_setMask 12 = .ok (.invokestatic 40, 3) := by decide +kernel
theorem dX6_setMask_15 : decode cX6_setMask 15 = .ok (.iconst 1, 1) := by decide +kernel
theorem dX6_setMask_16 : decode cX6_setMask 16 = .ok (.invokevirtual 82, 3) := by decide +kernel
theorem dX6_setMask_19 : decode cX6_setMask 19 = .ok (.ifCond .eq 19, 3) := by decide +kernel
theorem dX6_setMask_22 : decode cX6_setMask 22 = .ok (.aload_n 0, 1) := by decide +kernel
theorem dX6_setMask_23 : decode cX6_setMask 23 = .ok (.bipush 28, 2) := by decide +kernel
theorem dX6_setMask_25 : decode cX6_setMask 25 = .ok (.iconst 2, 1) := by decide +kernel
theorem dX6_setMask_26 : decode cX6_setMask 26 = .ok (.iload_n 1, 1) := by decide +kernel
theorem dX6_setMask_27 : decode cX6_setMask 27 = .ok (.imul, 1) := by decide +kernel
theorem dX6_setMask_28 : decode cX6_setMask 28 = .ok (.iadd, 1) := by decide +kernel
theorem dX6_setMask_29 : decode cX6_setMask 29 = .ok (.iconst 1, 1) := by decide +kernel
theorem dX6_setMask_30 : decode cX6_setMask 30 = .ok (.iadd, 1) := by decide +kernel
theorem dX6_setMask_31 : decode cX6_setMask 31 = .ok (.iload_n 2, 1) := by decide +kernel
theorem dX6_setMask_32 : decode cX6_setMask 32 = .ok (.invokevirtual 92, 3) := by decide +kernel
theorem dX6_setMask_35 : decode cX6_setMask 35 = .ok (.goto 4, 3) := by decide +kernel
theorem dX6_setMask_38 : decode cX6_setMask 38 = .ok (.iconst 0, 1) := by decide +kernel
theorem dX6_setMask_39 : decode cX6_setMask 39 = .ok (.ireturn, 1) := by decide +kernel
set_option maxRecDepth 20000 in
theorem ggX6_setBase_X6_isPerson : GoodIn wsX6_setBase wsX6_isPerson := goodIn_r _ [5, 6, 7, 8, 4, 9] (by decide +kernel) (by decide +kernel)
set_option maxRecDepth 20000 in
theorem gX6_setBase_X6_isPerson : GoodIn wsX6_setBase (va_wsS RX6 76 yX6_isPerson wsX6_isPerson) := goodIn_app (goodIn_of _ (by decide +kernel)) ggX6_setBase_X6_isPerson
set_option maxRecDepth 20000 in
theorem ggX6_setBase_X6_in : GoodIn wsX6_setBase wsX6_in := goodIn_r _ [9] (by decide +kernel) (by decide +kernel)
set_option maxRecDepth 20000 in
theorem gX6_setBase_X6_in : GoodIn wsX6_setBase (va_wsS RX6 40 yX6_in wsX6_in) := goodIn_app (goodIn_of _ (by decide +kernel)) ggX6_setBase_X6_in
set_option maxRecDepth 20000 in
theorem ggX6_setBase_X6_goes : GoodIn wsX6_setBase wsX6_goes := goodIn_r _ [13, 14, 26, 27, 28, 29, 30, 31, 32, 33, 34, 35, 36, 37, 38] (by decide +kernel) (by decide +kernel)
set_option maxRecDepth 20000 in
theorem gX6_setBase_X6_goes : GoodIn wsX6_setBase (wsV RX6 82 RX6 yX6_goes wsX6_goes) := goodIn_app (goodIn_of _ (by decide +kernel)) ggX6_setBase_X6_goes
set_option maxRecDepth 20000 in
theorem ggX6_setBase_X6_exchange : GoodIn wsX6_setBase wsX6_exchange := goodIn_r _ [18, 19, 20, 21, 22, 4, 23, 24, 25, 26, 27, 28, 29, 30, 31, 32, 33, 34, 35, 36, 37, 38] (by decide +kernel) (by decide +kernel)
set_option maxRecDepth 20000 in
theorem gX6_setBase_X6_exchange : GoodIn wsX6_setBase (wsV RX6 92 RX6 yX6_exchange wsX6_exchange) := goodIn_app (goodIn_of _ (by decide +kernel)) ggX6_setBase_X6_exchange
theorem dX6_setBase_0 : decode cX6_setBase 0 = .ok (.aload_n 0, 1) := by decide +kernel
theorem dX6_setBase_1 : decode cX6_setBase 1 = .ok (.iload_n 1, 1) := by decide +kernel
theorem dX6_setBase_2 : decode cX6_setBase 2 = .ok (.invokestatic 76, 3) := by decide +kernel
theorem dX6_setBase_5 : decode cX6_setBase 5 = .ok (.iload_n 2, 1) := by decide +kernel
theorem dX6_setBase_6 : decode cX6_setBase 6 = .ok (.i2l, 1) := by decide +kernel
theorem dX6_setBase_7 : decode cX6_setBase 7 = .ok (.lconst 0, 1) := by decide +kernel
theorem dX6_setBase_8 : decode cX6_setBase 8 = .ok (.ldc2_w 95, 3) := by decide +kernel
theorem dX6_setBase_11 : decode cX6_setBase 11 = .ok (.invokestatic 40, 3) := by decide +kernel
theorem dX6_setBase_14 : decode cX6_setBase 14 = .ok (.iconst 1, 1) := by decide +kernel
theorem dX6_setBase_15 : decode cX6_setBase 15 = .ok (.invokevirtual 82, 3) := by decide +kernel
theorem dX6_setBase_18 : decode cX6_setBase 18 = .ok (.ifCond .eq 15, 3) := by decide +kernel
theorem dX6_setBase_21 : decode cX6_setBase 21 = .ok (.aload_n 0, 1) := by decide +kernel
theorem dX6_setBase_22 : decode cX6_setBase 22 = .ok (.bipush 18, 2) := by decide +kernel
theorem dX6_setBase_24 : decode cX6_setBase 24 = .ok (.iload_n 1, 1) := by decide +kernel
theorem dX6_setBase_25 : decode cX6_setBase 25 = .ok (.iadd, 1) := by decide +kernel
theorem dX6_setBase_26 : decode cX6_setBase 26 = .ok (.iload_n 2, 1) := by decide +kernel
theorem dX6_setBase_27 : decode cX6_setBase 27 = .ok (.invokevirtual 92, 3) := by decide +kernel
theorem dX6_setBase_30 : decode cX6_setBase 30 = .ok (.goto 4, 3) := by decide +kernel
theorem dX6_setBase_33 : decode cX6_setBase 33 = .ok (.iconst 0, 1) := by decide +kernel
theorem dX6_setBase_34 : decode cX6_setBase 34 = .ok (.ireturn, 1) := by decide +kernel
set_option maxRecDepth 20000 in
theorem ggX6_give_X6_isThing : GoodIn wsX6_give wsX6_isThing := goodIn_r _ [5, 6, 7, 8, 4, 9, 29, 30, 31, 32, 33, 34, 35, 36, 37, 38, 39, 40, 41] (by decide +kernel) (by decide +kernel)
set_option maxRecDepth 20000 in
theorem gX6_give_X6_isThing : GoodIn wsX6_give (wsV RX6 89 RX6 yX6_isThing wsX6_isThing) := goodIn_app (goodIn_of _ (by decide +kernel)) ggX6_give_X6_isThing
set_option maxRecDepth 20000 in
theorem ggX6_give_X6_isPerson : GoodIn wsX6_give wsX6_isPerson := goodIn_r _ [12, 13, 7, 8, 4, 9] (by decide +kernel) (by decide +kernel)
set_option maxRecDepth 20000 in
theorem gX6_give_X6_isPerson : GoodIn wsX6_give (va_wsS RX6 76 yX6_isPerson wsX6_isPerson) := goodIn_app (goodIn_of _ (by decide +kernel)) ggX6_give_X6_isPerson
set_option maxRecDepth 20000 in
theorem ggX6_give_X6_goes : GoodIn wsX6_give wsX6_goes := goodIn_r _ [17, 18, 29, 30, 31, 32, 33, 34, 35, 36, 37, 38, 39, 40, 41] (by decide +kernel) (by decide +kernel)
set_option maxRecDepth 20000 in
theorem gX6_give_X6_goes : GoodIn wsX6_give (wsV RX6 82 RX6 yX6_goes wsX6_goes) := goodIn_app (goodIn_of _ (by decide +kernel)) ggX6_give_X6_goes
set_option maxRecDepth 20000 in
theorem ggX6_give_X6_exchange : GoodIn wsX6_give wsX6_exchange := goodIn_r _ [22, 6, 23, 24, 25, 4, 26, 27, 28, 29, 30, 31, 32, 33, 34, 35, 36, 37, 38, 39, 40, 41] (by decide +kernel) (by decide +kernel)
set_option maxRecDepth 20000 in
theorem gX6_give_X6_exchange : GoodIn wsX6_give (wsV RX6 92 RX6 yX6_exchange wsX6_exchange) := goodIn_app (goodIn_of _ (by decide +kernel)) ggX6_give_X6_exchange
theorem dX6_give_0 : decode cX6_give 0 = .ok (.aload_n 0, 1) := by decide +kernel
theorem dX6_give_1 : decode cX6_give 1 = .ok (.aload_n 0, 1) := by decide +kernel
theorem dX6_give_2 : decode cX6_give 2 = .ok (.iload_n 1, 1) := by decide +kernel
theorem dX6_give_3 : decode cX6_give 3 = .ok (.invokevirtual 89, 3) := by decide +kernel
theorem dX6_give_6 : decode cX6_give 6 = .ok (.ifCond .eq 14, 3) := by decide +kernel
theorem dX6_give_9 : decode cX6_give 9 = .ok (.iload_n 2, 1) := by decide +kernel
theorem dX6_give_10 : decode cX6_give 10 = .ok (.invokestatic 76, 3) := by decide +kernel
theorem dX6_give_13 : decode cX6_give 13 = .ok (.ifCond .eq 7, 3) := by decide +kernel
theorem dX6_give_16 : decode cX6_give 16 = .ok (.iconst 1, 1) := by decide +kernel
theorem dX6_give_17 : decode cX6_give 17 = .ok (.goto 4, 3) := by decide +kernel
theorem dX6_give_20 : decode cX6_give 20 = .ok (.iconst 0, 1) := by decide +kernel
theorem dX6_give_21 : decode cX6_give 21 = .ok (.iconst 1, 1) := by decide +kernel
theorem dX6_give_22 : decode cX6_give 22 = .ok (.iconst 1, 1) := by decide +kernel
theorem dX6_give_23 : decode cX6_give 23 = .ok (.invokevirtual 82, 3) := by decide +kernel
theorem dX6_give_26 : decode cX6_give 26 = .ok (.ifCond .eq 17, 3) := by decide +kernel
theorem dX6_give_29 : decode cX6_give 29 = .ok (.aload_n 0, 1) := by decide +kernel
theorem dX6_give_30 : decode cX6_give 30 = .ok (.bipush 28, 2) := by decide +kernel
theorem dX6_give_32 : decode cX6_give 32 = .ok (.iconst 2, 1) := by decide +kernel
theorem dX6_give_33 : decode cX6_give 33 = .ok (.iload_n 1, 1) := by decide +kernel
theorem dX6_give_34 : decode cX6_give 34 = .ok (.imul, 1) := by decide +kernel
theorem dX6_give_35 : decode cX6_give 35 = .ok (.iadd, 1) := by decide +kernel
theorem dX6_give_36 : decode cX6_give 36 = .ok (.iload_n 2, 1) := by decide +kernel
theorem dX6_give_37 : decode cX6_give 37 = .ok (.invokevirtual 92, 3) := by decide +kernel
theorem dX6_give_40 : decode cX6_give 40 = .ok (.goto 4, 3) := by decide +kernel
theorem dX6_give_43 : decode cX6_give 43 = .ok (.iconst 0, 1) := by decide +kernel
theorem dX6_give_44 : decode cX6_give 44 = .ok (.ireturn, 1) := by decide +kernel
set_option maxRecDepth 20000 in
theorem ggX6_arePersons_X6_isPerson : GoodIn wsX6_arePersons wsX6_isPerson := goodIn_r _ [4, 5, 6, 7, 3, 8] (by decide +kernel) (by decide +kernel)
set_option maxRecDepth 20000 in
theorem gX6_arePersons_X6_isPerson : GoodIn wsX6_arePersons (va_wsS RX6 76 yX6_isPerson wsX6_isPerson) := goodIn_app (goodIn_of _ (by decide +kernel)) ggX6_arePersons_X6_isPerson
set_option maxRecDepth 20000 in
theorem ggX6_arePersons_X6_isThing : GoodIn wsX6_arePersons wsX6_isThing := goodIn_r _ [12, 13, 6, 7, 3, 8, 14, 15, 16, 17, 18, 19, 20, 21, 22, 23, 24, 25, 26] (by decide +kernel) (by decide +kernel)
set_option maxRecDepth 20000 in
theorem gX6_arePersons_X6_isThing : GoodIn wsX6_arePersons (wsV RX6 89 RX6 yX6_isThing wsX6_isThing) := goodIn_app (goodIn_of _ (by decide +kernel)) ggX6_arePersons_X6_isThing
theorem dX6_arePersons_0 : decode cX6_arePersons 0 = .ok (.iload_n 1, 1) := by decide +kernel
theorem dX6_arePersons_1 : decode cX6_arePersons 1 = .ok (.invokestatic 76, 3) := by decide +kernel
theorem dX6_arePersons_4 : decode cX6_arePersons 4 = .ok (.ifCond .eq 22, 3) := by decide +kernel
theorem dX6_arePersons_7 : decode cX6_arePersons 7 = .ok (.iload_n 2, 1) := by decide +kernel
theorem dX6_arePersons_8 : decode cX6_arePersons 8 = .ok (.invokestatic 76, 3) := by decide +kernel
theorem dX6_arePersons_11 : decode cX6_arePersons 11 = .ok (.ifCond .eq 15, 3) := by decide +kernel
theorem dX6_arePersons_14 : decode cX6_arePersons 14 = .ok (.aload_n 0, 1) := by decide +kernel
theorem dX6_arePersons_15 : decode cX6_arePersons 15 = .ok (.iload_n 3, 1) := by decide +kernel
theorem dX6_arePersons_16 : decode cX6_arePersons 16 = .ok (.invokevirtual 89, 3) := by decide +kernel
theorem dX6_arePersons_19 : decode cX6_arePersons 19 = .ok (.ifCond .eq 7, 3) := by decide +kernel
theorem dX6_arePersons_22 : decode cX6_arePersons 22 = .ok (.iconst 1, 1) := by decide +kernel
theorem dX6_arePersons_23 : decode cX6_arePersons 23 = .ok (.goto 4, 3) := by decide +kernel
theorem dX6_arePersons_26 : decode cX6_arePersons 26 = .ok (.iconst 0, 1) := by decide +kernel
theorem dX6_arePersons_27 : decode cX6_arePersons 27 = .ok (.ireturn, 1) := by decide +kernel
set_option maxRecDepth 20000 in
theorem ggX6_isGrant_X6_in : GoodIn wsX6_isGrant wsX6_in := goodIn_r _ [6] (by decide +kernel) (by decide +kernel)
set_option maxRecDepth 20000 in
theorem gX6_isGrant_X6_in : GoodIn wsX6_isGrant (va_wsS RX6 40 yX6_in wsX6_in) := goodIn_app (goodIn_of _ (by decide +kernel)) ggX6_isGrant_X6_in
theorem dX6_isGrant_0 : decode cX6_isGrant 0 = .ok (.iload_n 2, 1) := by decide +kernel
theorem dX6_isGrant_1 : decode cX6_isGrant 1 = .ok (.i2l, 1) := by decide +kernel
theorem dX6_isGrant_2 : decode cX6_isGrant 2 = .ok (.lconst 1, 1) := by decide +kernel
theorem dX6_isGrant_3 : decode cX6_isGrant 3 = .ok (.ldc2_w 80, 3) := by decide +kernel
theorem dX6_isGrant_6 : decode cX6_isGrant 6 = .ok (.invokestatic 40, 3) := by decide +kernel
theorem dX6_isGrant_9 : decode cX6_isGrant 9 = .ok (.ifCond .eq 24, 3) := by decide +kernel
theorem dX6_isGrant_12 : decode cX6_isGrant 12 = .ok (.iload_n 3, 1) := by decide +kernel
theorem dX6_isGrant_13 : decode cX6_isGrant 13 = .ok (.i2l, 1) := by decide +kernel
theorem dX6_isGrant_14 : decode cX6_isGrant 14 = .ok (.lconst 0, 1) := by decide +kernel
theorem dX6_isGrant_15 : decode cX6_isGrant 15 = .ok (.ldc2_w 95, 3) := by decide +kernel
theorem dX6_isGrant_18 : decode cX6_isGrant 18 = .ok (.invokestatic 40, 3) := by decide +kernel
theorem dX6_isGrant_21 : decode cX6_isGrant 21 = .ok (.ifCond .eq 12, 3) := by decide +kernel
theorem dX6_isGrant_24 : decode cX6_isGrant 24 = .ok (.iload_n 0, 1) := by decide +kernel
theorem dX6_isGrant_25 : decode cX6_isGrant 25 = .ok (.iload_n 1, 1) := by decide +kernel
theorem dX6_isGrant_26 : decode cX6_isGrant 26 = .ok (.if_icmp .eq 7, 3) := by decide +kernel
theorem dX6_isGrant_29 : decode cX6_isGrant 29 = .ok (.iconst 1, 1) := by decide +kernel
theorem dX6_isGrant_30 : decode cX6_isGrant 30 = .ok (.goto 4, 3) := by decide +kernel
theorem dX6_isGrant_33 : decode cX6_isGrant 33 = .ok (.iconst 0, 1) := by decide +kernel
theorem dX6_isGrant_34 : decode cX6_isGrant 34 = .ok (.ireturn, 1) := by decide +kernel
set_option maxRecDepth 20000 in
theorem ggX6_mayGrant_X6_lay : GoodIn wsX6_mayGrant wsX6_lay := goodIn_r _ [6, 7, 1, 8, 9, 10, 5, 11, 12, 13, 14, 15, 16, 17, 18, 19, 20, 21, 22, 23, 24, 25, 26, 27, 28, 29, 30, 31, 32, 33, 34, 35, 36, 37, 38, 39, 40] (by decide +kernel) (by decide +kernel)
set_option maxRecDepth 20000 in
theorem gX6_mayGrant_X6_lay : GoodIn wsX6_mayGrant (wsV RX6 67 RX6 yX6_lay wsX6_lay) := goodIn_app (goodIn_of _ (by decide +kernel)) ggX6_mayGrant_X6_lay
set_option maxRecDepth 20000 in
theorem ggX6_mayGrant_X6_holds : GoodIn wsX6_mayGrant wsX6_holds := goodIn_r _ [23, 7, 28, 29, 30, 31, 32, 33, 34, 35, 36, 37, 38, 39, 40] (by decide +kernel) (by decide +kernel)
set_option maxRecDepth 20000 in
theorem gX6_mayGrant_X6_holds : GoodIn wsX6_mayGrant (wsV RX6 55 RX6 yX6_holds wsX6_holds) := goodIn_app (goodIn_of _ (by decide +kernel)) ggX6_mayGrant_X6_holds
theorem dX6_mayGrant_0 : decode cX6_mayGrant 0 = .ok (.aload_n 0, 1) := by decide +kernel
theorem dX6_mayGrant_1 : decode cX6_mayGrant 1 = .ok (.invokevirtual 67, 3) := by decide +kernel
theorem dX6_mayGrant_4 : decode cX6_mayGrant 4 = .ok (.aload_n 0, 1) := by decide +kernel
theorem dX6_mayGrant_5 : decode cX6_mayGrant 5 = .ok (.iload_n 1, 1) := by decide +kernel
theorem dX6_mayGrant_6 : decode cX6_mayGrant 6 = .ok (.iload_n 2, 1) := by decide +kernel
theorem dX6_mayGrant_7 : decode cX6_mayGrant 7 = .ok (.invokevirtual 55, 3) := by decide +kernel
theorem dX6_mayGrant_10 : decode cX6_mayGrant 10 = .ok (.iload_n 3, 1) := by decide +kernel
theorem dX6_mayGrant_11 : decode cX6_mayGrant 11 = .ok (.iconst 4, 1) := by decide +kernel
theorem dX6_mayGrant_12 : decode cX6_mayGrant 12 = .ok (.ior, 1) := by decide +kernel
theorem dX6_mayGrant_13 : decode cX6_mayGrant 13 = .ok (.iand, 1) := by decide +kernel
theorem dX6_mayGrant_14 : decode cX6_mayGrant 14 = .ok (.iload_n 3, 1) := by decide +kernel
theorem dX6_mayGrant_15 : decode cX6_mayGrant 15 = .ok (.iconst 4, 1) := by decide +kernel
theorem dX6_mayGrant_16 : decode cX6_mayGrant 16 = .ok (.ior, 1) := by decide +kernel
theorem dX6_mayGrant_17 : decode cX6_mayGrant 17 = .ok (.if_icmp .ne 7, 3) := by decide +kernel
theorem dX6_mayGrant_20 : decode cX6_mayGrant 20 = .ok (.iconst 1, 1) := by decide +kernel
theorem dX6_mayGrant_21 : decode cX6_mayGrant 21 = .ok (.goto 4, 3) := by decide +kernel
theorem dX6_mayGrant_24 : decode cX6_mayGrant 24 = .ok (.iconst 0, 1) := by decide +kernel
theorem dX6_mayGrant_25 : decode cX6_mayGrant 25 = .ok (.istore 5, 2) := by decide +kernel
theorem dX6_mayGrant_27 : decode cX6_mayGrant 27 = .ok (.iload 5, 2) := by decide +kernel
theorem dX6_mayGrant_29 : decode cX6_mayGrant 29 = .ok (.ifCond .eq 32, 3) := by decide +kernel
theorem dX6_mayGrant_32 : decode cX6_mayGrant 32 = .ok (.aload_n 0, 1) := by decide +kernel
theorem dX6_mayGrant_33 : decode cX6_mayGrant 33 = .ok (.getfield 7, 3) := by decide +kernel
theorem dX6_mayGrant_36 : decode cX6_mayGrant 36 = .ok (.bipush 8, 2) := by decide +kernel
theorem dX6_mayGrant_38 : decode cX6_mayGrant 38 = .ok (.iload_n 1, 1) := by decide +kernel
theorem dX6_mayGrant_39 : decode cX6_mayGrant 39 = .ok (.iadd, 1) := by decide +kernel
theorem dX6_mayGrant_40 : decode cX6_mayGrant 40 = .ok (.iaload, 1) := by decide +kernel
theorem dX6_mayGrant_41 : decode cX6_mayGrant 41 = .ok (.iload 4, 2) := by decide +kernel
theorem dX6_mayGrant_43 : decode cX6_mayGrant 43 = .ok (.if_icmp .lt 18, 3) := by decide +kernel
theorem dX6_mayGrant_46 : decode cX6_mayGrant 46 = .ok (.aload_n 0, 1) := by decide +kernel
theorem dX6_mayGrant_47 : decode cX6_mayGrant 47 = .ok (.getfield 7, 3) := by decide +kernel
theorem dX6_mayGrant_50 : decode cX6_mayGrant 50 = .ok (.iconst 5, 1) := by decide +kernel
theorem dX6_mayGrant_51 : decode cX6_mayGrant 51 = .ok (.iaload, 1) := by decide +kernel
theorem dX6_mayGrant_52 : decode cX6_mayGrant 52 = .ok (.bipush 40, 2) := by decide +kernel
theorem dX6_mayGrant_54 : decode cX6_mayGrant 54 = .ok (.if_icmp .ge 7, 3) := by decide +kernel
theorem dX6_mayGrant_57 : decode cX6_mayGrant 57 = .ok (.iconst 1, 1) := by decide +kernel
theorem dX6_mayGrant_58 : decode cX6_mayGrant 58 = .ok (.goto 4, 3) := by decide +kernel
theorem dX6_mayGrant_61 : decode cX6_mayGrant 61 = .ok (.iconst 0, 1) := by decide +kernel
theorem dX6_mayGrant_62 : decode cX6_mayGrant 62 = .ok (.ireturn, 1) := by decide +kernel
theorem dX6_lays_0 : decode cX6_lays 0 = .ok (.bipush 44, 2) := by decide +kernel
theorem dX6_lays_2 : decode cX6_lays 2 = .ok (.bipush 6, 2) := by decide +kernel
theorem dX6_lays_4 : decode cX6_lays 4 = .ok (.aload_n 0, 1) := by decide +kernel
theorem dX6_lays_5 : decode cX6_lays 5 = .ok (.getfield 7, 3) := by decide +kernel
theorem dX6_lays_8 : decode cX6_lays 8 = .ok (.iconst 5, 1) := by decide +kernel
theorem dX6_lays_9 : decode cX6_lays 9 = .ok (.iaload, 1) := by decide +kernel
theorem dX6_lays_10 : decode cX6_lays 10 = .ok (.imul, 1) := by decide +kernel
theorem dX6_lays_11 : decode cX6_lays 11 = .ok (.iadd, 1) := by decide +kernel
theorem dX6_lays_12 : decode cX6_lays 12 = .ok (.istore 6, 2) := by decide +kernel
theorem dX6_lays_14 : decode cX6_lays 14 = .ok (.aload_n 0, 1) := by decide +kernel
theorem dX6_lays_15 : decode cX6_lays 15 = .ok (.getfield 7, 3) := by decide +kernel
theorem dX6_lays_18 : decode cX6_lays 18 = .ok (.iload 6, 2) := by decide +kernel
theorem dX6_lays_20 : decode cX6_lays 20 = .ok (.aload_n 0, 1) := by decide +kernel
theorem dX6_lays_21 : decode cX6_lays 21 = .ok (.getfield 7, 3) := by decide +kernel
theorem dX6_lays_24 : decode cX6_lays 24 = .ok (.iconst 1, 1) := by decide +kernel
theorem dX6_lays_25 : decode cX6_lays 25 = .ok (.iaload, 1) := by decide +kernel
theorem dX6_lays_26 : decode cX6_lays 26 = .ok (.iastore, 1) := by decide +kernel
theorem dX6_lays_27 : decode cX6_lays 27 = .ok (.aload_n 0, 1) := by decide +kernel
theorem dX6_lays_28 : decode cX6_lays 28 = .ok (.getfield 7, 3) := by decide +kernel
theorem dX6_lays_31 : decode cX6_lays 31 = .ok (.iload 6, 2) := by decide +kernel
theorem dX6_lays_33 : decode cX6_lays 33 = .ok (.iconst 1, 1) := by decide +kernel
theorem dX6_lays_34 : decode cX6_lays 34 = .ok (.iadd, 1) := by decide +kernel
theorem dX6_lays_35 : decode cX6_lays 35 = .ok (.iload_n 1, 1) := by decide +kernel
theorem dX6_lays_36 : decode cX6_lays 36 = .ok (.iastore, 1) := by decide +kernel
theorem dX6_lays_37 : decode cX6_lays 37 = .ok (.aload_n 0, 1) := by decide +kernel
theorem dX6_lays_38 : decode cX6_lays 38 = .ok (.getfield 7, 3) := by decide +kernel
theorem dX6_lays_41 : decode cX6_lays 41 = .ok (.iload 6, 2) := by decide +kernel
theorem dX6_lays_43 : decode cX6_lays 43 = .ok (.iconst 2, 1) := by decide +kernel
theorem dX6_lays_44 : decode cX6_lays 44 = .ok (.iadd, 1) := by decide +kernel
theorem dX6_lays_45 : decode cX6_lays 45 = .ok (.iload_n 2, 1) := by decide +kernel
theorem dX6_lays_46 : decode cX6_lays 46 = .ok (.iastore, 1) := by decide +kernel
theorem dX6_lays_47 : decode cX6_lays 47 = .ok (.aload_n 0, 1) := by decide +kernel
theorem dX6_lays_48 : decode cX6_lays 48 = .ok (.getfield 7, 3) := by decide +kernel
theorem dX6_lays_51 : decode cX6_lays 51 = .ok (.iload 6, 2) := by decide +kernel
theorem dX6_lays_53 : decode cX6_lays 53 = .ok (.iconst 3, 1) := by decide +kernel
theorem dX6_lays_54 : decode cX6_lays 54 = .ok (.iadd, 1) := by decide +kernel
theorem dX6_lays_55 : decode cX6_lays 55 = .ok (.iload_n 3, 1) := by decide +kernel
theorem dX6_lays_56 : decode cX6_lays 56 = .ok (.iastore, 1) := by decide +kernel
theorem dX6_lays_57 : decode cX6_lays 57 = .ok (.aload_n 0, 1) := by decide +kernel
theorem dX6_lays_58 : decode cX6_lays 58 = .ok (.getfield 7, 3) := by decide +kernel
theorem dX6_lays_61 : decode cX6_lays 61 = .ok (.iload 6, 2) := by decide +kernel
theorem dX6_lays_63 : decode cX6_lays 63 = .ok (.iconst 4, 1) := by decide +kernel
theorem dX6_lays_64 : decode cX6_lays 64 = .ok (.iadd, 1) := by decide +kernel
theorem dX6_lays_65 : decode cX6_lays 65 = .ok (.iload 4, 2) := by decide +kernel
theorem dX6_lays_67 : decode cX6_lays 67 = .ok (.iastore, 1) := by decide +kernel
theorem dX6_lays_68 : decode cX6_lays 68 = .ok (.aload_n 0, 1) := by decide +kernel
theorem dX6_lays_69 : decode cX6_lays 69 = .ok (.getfield 7, 3) := by decide +kernel
theorem dX6_lays_72 : decode cX6_lays 72 = .ok (.iload 6, 2) := by decide +kernel
theorem dX6_lays_74 : decode cX6_lays 74 = .ok (.iconst 5, 1) := by decide +kernel
theorem dX6_lays_75 : decode cX6_lays 75 = .ok (.iadd, 1) := by decide +kernel
theorem dX6_lays_76 : decode cX6_lays 76 = .ok (.iload 5, 2) := by decide +kernel
theorem dX6_lays_78 : decode cX6_lays 78 = .ok (.iastore, 1) := by decide +kernel
theorem dX6_lays_79 : decode cX6_lays 79 = .ok (.aload_n 0, 1) := by decide +kernel
theorem dX6_lays_80 : decode cX6_lays 80 = .ok (.getfield 7, 3) := by decide +kernel
theorem dX6_lays_83 : decode cX6_lays 83 = .ok (.iconst 5, 1) := by decide +kernel
theorem dX6_lays_84 : decode cX6_lays 84 = .ok (.dup2, 1) := by decide +kernel
theorem dX6_lays_85 : decode cX6_lays 85 = .ok (.iaload, 1) := by decide +kernel
theorem dX6_lays_86 : decode cX6_lays 86 = .ok (.iconst 1, 1) := by decide +kernel
theorem dX6_lays_87 : decode cX6_lays 87 = .ok (.iadd, 1) := by decide +kernel
theorem dX6_lays_88 : decode cX6_lays 88 = .ok (.iastore, 1) := by decide +kernel
theorem dX6_lays_89 : decode cX6_lays 89 = .ok (.aload_n 0, 1) := by decide +kernel
theorem dX6_lays_90 : decode cX6_lays 90 = .ok (.getfield 7, 3) := by decide +kernel
theorem dX6_lays_93 : decode cX6_lays 93 = .ok (.iconst 1, 1) := by decide +kernel
theorem dX6_lays_94 : decode cX6_lays 94 = .ok (.dup2, 1) := by decide +kernel
theorem dX6_lays_95 : decode cX6_lays 95 = .ok (.iaload, 1) := by decide +kernel
theorem dX6_lays_96 : decode cX6_lays 96 = .ok (.iconst 1, 1) := by decide +kernel
theorem dX6_lays_97 : decode cX6_lays 97 = .ok (.iadd, 1) := by decide +kernel
theorem dX6_lays_98 : decode cX6_lays 98 = .ok (.iastore, 1) := by decide +kernel
theorem dX6_lays_99 : decode cX6_lays 99 = .ok (.return_, 1) := by decide +kernel
set_option maxRecDepth 20000 in
theorem ggX6_grant_X6_arePersons : GoodIn wsX6_grant wsX6_arePersons := goodIn_r _ [6, 7, 8, 5, 9, 10, 11, 12, 13, 14, 15, 16, 17, 1, 67, 68, 69, 70, 71, 72, 73, 74, 75, 76, 77, 78, 79] (by decide +kernel) (by decide +kernel)
set_option maxRecDepth 20000 in
theorem gX6_grant_X6_arePersons : GoodIn wsX6_grant (wsV RX6 97 RX6 yX6_arePersons wsX6_arePersons) := goodIn_app (goodIn_of _ (by decide +kernel)) ggX6_grant_X6_arePersons
set_option maxRecDepth 20000 in
theorem ggX6_grant_X6_isGrant : GoodIn wsX6_grant wsX6_isGrant := goodIn_r _ [20, 21, 22, 11, 12, 5, 13] (by decide +kernel) (by decide +kernel)
set_option maxRecDepth 20000 in
theorem gX6_grant_X6_isGrant : GoodIn wsX6_grant (va_wsS RX6 101 yX6_isGrant wsX6_isGrant) := goodIn_app (goodIn_of _ (by decide +kernel)) ggX6_grant_X6_isGrant
set_option maxRecDepth 20000 in
theorem ggX6_grant_X6_mayGrant : GoodIn wsX6_grant wsX6_mayGrant := goodIn_r _ [26, 1, 27, 28, 29, 5, 30, 31, 32, 33, 34, 35, 36, 37, 38, 39, 40, 41, 42, 43, 44, 45, 46, 47, 48, 49, 50, 51, 67, 68, 69, 70, 71, 72, 73, 74, 75, 76, 77, 78, 79] (by decide +kernel) (by decide +kernel)
set_option maxRecDepth 20000 in
theorem gX6_grant_X6_mayGrant : GoodIn wsX6_grant (wsV RX6 105 RX6 yX6_mayGrant wsX6_mayGrant) := goodIn_app (goodIn_of _ (by decide +kernel)) ggX6_grant_X6_mayGrant
set_option maxRecDepth 20000 in
theorem ggX6_grant_X6_goes : GoodIn wsX6_grant wsX6_goes := goodIn_r _ [55, 56, 67, 68, 69, 70, 71, 72, 73, 74, 75, 76, 77, 78, 79] (by decide +kernel) (by decide +kernel)
set_option maxRecDepth 20000 in
theorem gX6_grant_X6_goes : GoodIn wsX6_grant (wsV RX6 82 RX6 yX6_goes wsX6_goes) := goodIn_app (goodIn_of _ (by decide +kernel)) ggX6_grant_X6_goes
set_option maxRecDepth 20000 in
theorem ggX6_grant_X6_save : GoodIn wsX6_grant wsX6_save := goodIn_r _ [60, 61, 62, 1, 67, 68, 69, 70, 71, 72, 73, 74, 75, 76, 77, 78, 79] (by decide +kernel) (by decide +kernel)
set_option maxRecDepth 20000 in
theorem gX6_grant_X6_save : GoodIn wsX6_grant (wsV RX6 86 RX6 yX6_save wsX6_save) := goodIn_app (goodIn_of _ (by decide +kernel)) ggX6_grant_X6_save
set_option maxRecDepth 20000 in
theorem ggX6_grant_X6_lays : GoodIn wsX6_grant wsX6_lays := goodIn_r _ [66, 1, 67, 68, 69, 70, 71, 72, 73, 74, 75, 76, 77, 78, 79] (by decide +kernel) (by decide +kernel)
set_option maxRecDepth 20000 in
theorem gX6_grant_X6_lays : GoodIn wsX6_grant (wsV RX6 108 RX6 yX6_lays wsX6_lays) := goodIn_app (goodIn_of _ (by decide +kernel)) ggX6_grant_X6_lays
theorem dX6_grant_0 : decode cX6_grant 0 = .ok (.aload_n 0, 1) := by decide +kernel
theorem dX6_grant_1 : decode cX6_grant 1 = .ok (.iload_n 1, 1) := by decide +kernel
theorem dX6_grant_2 : decode cX6_grant 2 = .ok (.iload_n 2, 1) := by decide +kernel
theorem dX6_grant_3 : decode cX6_grant 3 = .ok (.iload_n 3, 1) := by decide +kernel
theorem dX6_grant_4 : decode cX6_grant 4 = .ok (.invokevirtual 97, 3) := by decide +kernel
theorem dX6_grant_7 : decode cX6_grant 7 = .ok (.istore 6, 2) := by decide +kernel
theorem dX6_grant_9 : decode cX6_grant 9 = .ok (.iload_n 1, 1) := by decide +kernel
theorem dX6_grant_10 : decode cX6_grant 10 = .ok (.iload_n 2, 1) := by decide +kernel
theorem dX6_grant_11 : decode cX6_grant 11 = .ok (.iload 4, 2) := by decide +kernel
theorem dX6_grant_13 : decode cX6_grant 13 = .ok (.iload 5, 2) := by decide +kernel
theorem dX6_grant_15 : decode cX6_grant 15 = .ok (.invokestatic 101, 3) := by decide +kernel
theorem dX6_grant_18 : decode cX6_grant 18 = .ok (.istore 7, 2) := by decide +kernel
theorem dX6_grant_20 : decode cX6_grant 20 = .ok (.aload_n 0, 1) := by decide +kernel
theorem dX6_grant_21 : decode cX6_grant 21 = .ok (.iload 6, 2) := by decide +kernel
theorem dX6_grant_23 : decode cX6_grant 23 = .ok (.iload 7, 2) := by decide +kernel
theorem dX6_grant_25 : decode cX6_grant 25 = .ok (.iload 6, 2) := by decide +kernel
theorem dX6_grant_27 : decode cX6_grant 27 = .ok (.ifCond .eq 25, 3) := by decide +kernel
theorem dX6_grant_30 : decode cX6_grant 30 = .ok (.iload 7, 2) := by decide +kernel
theorem dX6_grant_32 : decode cX6_grant 32 = .ok (.ifCond .eq 20, 3) := by decide +kernel
theorem dX6_grant_35 : decode cX6_grant 35 = .ok (.aload_n 0, 1) := by decide +kernel
theorem dX6_grant_36 : decode cX6_grant 36 = .ok (.iload_n 1, 1) := by decide +kernel
theorem dX6_grant_37 : decode cX6_grant 37 = .ok (.iload_n 3, 1) := by decide +kernel
theorem dX6_grant_38 : decode cX6_grant 38 = .ok (.iload 4, 2) := by decide +kernel
theorem dX6_grant_40 : decode cX6_grant 40 = .ok (.iload 5, 2) := by decide +kernel
theorem dX6_grant_42 : decode cX6_grant 42 = .ok (.invokevirtual 105, 3) := by decide +kernel
theorem dX6_grant_45 : decode cX6_grant 45 = .ok (.ifCond .eq 7, 3) := by decide +kernel
theorem dX6_grant_48 : decode cX6_grant 48 = .ok (.iconst 1, 1) := by decide +kernel
theorem dX6_grant_49 : decode cX6_grant 49 = .ok (.goto 4, 3) := by decide +kernel
theorem dX6_grant_52 : decode cX6_grant 52 = .ok (.iconst 0, 1) := by decide +kernel
theorem dX6_grant_53 : decode cX6_grant 53 = .ok (.invokevirtual 82, 3) := by decide +kernel
theorem dX6_grant_56 : decode cX6_grant 56 = .ok (.ifCond .ne 5, 3) := by decide +kernel
theorem dX6_grant_59 : decode cX6_grant 59 = .ok (.iconst 0, 1) := by decide +kernel
theorem dX6_grant_60 : decode cX6_grant 60 = .ok (.ireturn, 1) := by decide +kernel
theorem dX6_grant_61 : decode cX6_grant 61 = .ok (.aload_n 0, 1) := by decide +kernel
theorem dX6_grant_62 : decode cX6_grant 62 = .ok (.invokevirtual 86, 3) := by decide +kernel
theorem dX6_grant_65 : decode cX6_grant 65 = .ok (.aload_n 0, 1) := by decide +kernel
theorem dX6_grant_66 : decode cX6_grant 66 = .ok (.iload_n 1, 1) := by decide +kernel
theorem dX6_grant_67 : decode cX6_grant 67 = .ok (.iload_n 2, 1) := by decide +kernel
theorem dX6_grant_68 : decode cX6_grant 68 = .ok (.iload_n 3, 1) := by decide +kernel
theorem dX6_grant_69 : decode cX6_grant 69 = .ok (.iload 4, 2) := by decide +kernel
theorem dX6_grant_71 : decode cX6_grant 71 = .ok (.iload 5, 2) := by decide +kernel
theorem dX6_grant_73 : decode cX6_grant 73 = .ok (.invokevirtual 108, 3) := by decide +kernel
theorem dX6_grant_76 : decode cX6_grant 76 = .ok (.aload_n 0, 1) := by decide +kernel
theorem dX6_grant_77 : decode cX6_grant 77 = .ok (.getfield 7, 3) := by decide +kernel
theorem dX6_grant_80 : decode cX6_grant 80 = .ok (.iconst 1, 1) := by decide +kernel
theorem dX6_grant_81 : decode cX6_grant 81 = .ok (.iaload, 1) := by decide +kernel
theorem dX6_grant_82 : decode cX6_grant 82 = .ok (.iconst 1, 1) := by decide +kernel
theorem dX6_grant_83 : decode cX6_grant 83 = .ok (.isub, 1) := by decide +kernel
theorem dX6_grant_84 : decode cX6_grant 84 = .ok (.ireturn, 1) := by decide +kernel
set_option maxRecDepth 20000 in
theorem ggX6_revokes_X6_pairs : GoodIn wsX6_revokes wsX6_pairs := goodIn_r _ [6, 1, 7, 8, 9, 5, 10, 11, 12, 13, 14, 15, 16, 17, 18, 19, 20, 21, 22, 23, 24, 25, 26, 27, 28, 29, 30, 31, 32, 33, 34, 35, 36, 37, 38, 43, 44, 45, 46, 47, 48, 49, 50, 51, 52, 53, 54, 55] (by decide +kernel) (by decide +kernel)
set_option maxRecDepth 20000 in
theorem gX6_revokes_X6_pairs : GoodIn wsX6_revokes (wsV RX6 112 RX6 yX6_pairs wsX6_pairs) := goodIn_app (goodIn_of _ (by decide +kernel)) ggX6_revokes_X6_pairs
set_option maxRecDepth 20000 in
theorem ggX6_revokes_X6_takeOut : GoodIn wsX6_revokes wsX6_takeOut := goodIn_r _ [42, 1, 43, 44, 45, 46, 47, 48, 49, 50, 51, 52, 53, 54, 55] (by decide +kernel) (by decide +kernel)
set_option maxRecDepth 20000 in
theorem gX6_revokes_X6_takeOut : GoodIn wsX6_revokes (wsV RX6 52 RX6 yX6_takeOut wsX6_takeOut) := goodIn_app (goodIn_of _ (by decide +kernel)) ggX6_revokes_X6_takeOut
theorem dX6_revokes_0 : decode cX6_revokes 0 = .ok (.aload_n 0, 1) := by decide +kernel
theorem dX6_revokes_1 : decode cX6_revokes 1 = .ok (.invokevirtual 112, 3) := by decide +kernel
theorem dX6_revokes_4 : decode cX6_revokes 4 = .ok (.istore_n 2, 1) := by decide +kernel
theorem dX6_revokes_5 : decode cX6_revokes 5 = .ok (.aload_n 0, 1) := by decide +kernel
theorem dX6_revokes_6 : decode cX6_revokes 6 = .ok (.iload_n 1, 1) := by decide +kernel
theorem dX6_revokes_7 : decode cX6_revokes 7 = .ok (.invokevirtual 52, 3) := by decide +kernel
theorem dX6_revokes_10 : decode cX6_revokes 10 = .ok (.aload_n 0, 1) := by decide +kernel
theorem dX6_revokes_11 : decode cX6_revokes 11 = .ok (.getfield 7, 3) := by decide +kernel
theorem dX6_revokes_14 : decode cX6_revokes 14 = .ok (.iconst 3, 1) := by decide +kernel
theorem dX6_revokes_15 : decode cX6_revokes 15 = .ok (.dup2, 1) := by decide +kernel
theorem dX6_revokes_16 : decode cX6_revokes 16 = .ok (.iaload, 1) := by decide +kernel
theorem dX6_revokes_17 : decode cX6_revokes 17 = .ok (.iconst 1, 1) := by decide +kernel
theorem dX6_revokes_18 : decode cX6_revokes 18 = .ok (.iadd, 1) := by decide +kernel
theorem dX6_revokes_19 : decode cX6_revokes 19 = .ok (.iastore, 1) := by decide +kernel
theorem dX6_revokes_20 : decode cX6_revokes 20 = .ok (.iload_n 2, 1) := by decide +kernel
theorem dX6_revokes_21 : decode cX6_revokes 21 = .ok (.aload_n 0, 1) := by decide +kernel
theorem dX6_revokes_22 : decode cX6_revokes 22 = .ok (.invokevirtual 112, 3) := by decide +kernel
theorem dX6_revokes_25 : decode cX6_revokes 25 = .ok (.isub, 1) := by decide +kernel
theorem dX6_revokes_26 : decode cX6_revokes 26 = .ok (.ireturn, 1) := by decide +kernel
set_option maxRecDepth 20000 in
theorem ggX6_revoke_X6_placeOf : GoodIn wsX6_revoke wsX6_placeOf := goodIn_r _ [5, 6, 7, 8, 9, 4, 10, 62, 63, 64, 65, 66, 67, 68, 69, 70, 71, 72, 73, 74] (by decide +kernel) (by decide +kernel)
set_option maxRecDepth 20000 in
theorem gX6_revoke_X6_placeOf : GoodIn wsX6_revoke (wsV RX6 116 RX6 yX6_placeOf wsX6_placeOf) := goodIn_app (goodIn_of _ (by decide +kernel)) ggX6_revoke_X6_placeOf
set_option maxRecDepth 20000 in
theorem ggX6_revoke_X6_goes : GoodIn wsX6_revoke wsX6_goes := goodIn_r _ [14, 15, 62, 63, 64, 65, 66, 67, 68, 69, 70, 71, 72, 73, 74] (by decide +kernel) (by decide +kernel)
set_option maxRecDepth 20000 in
theorem gX6_revoke_X6_goes : GoodIn wsX6_revoke (wsV RX6 82 RX6 yX6_goes wsX6_goes) := goodIn_app (goodIn_of _ (by decide +kernel)) ggX6_revoke_X6_goes
set_option maxRecDepth 20000 in
theorem ggX6_revoke_X6_save : GoodIn wsX6_revoke wsX6_save := goodIn_r _ [19, 20, 21, 6, 62, 63, 64, 65, 66, 67, 68, 69, 70, 71, 72, 73, 74] (by decide +kernel) (by decide +kernel)
set_option maxRecDepth 20000 in
theorem gX6_revoke_X6_save : GoodIn wsX6_revoke (wsV RX6 86 RX6 yX6_save wsX6_save) := goodIn_app (goodIn_of _ (by decide +kernel)) ggX6_revoke_X6_save
set_option maxRecDepth 20000 in
theorem ggX6_revoke_X6_revokes : GoodIn wsX6_revoke wsX6_revokes := goodIn_r _ [25, 6, 26, 27, 28, 4, 29, 30, 31, 32, 33, 34, 35, 36, 37, 38, 7, 8, 9, 10, 39, 40, 41, 42, 43, 44, 45, 46, 47, 48, 49, 50, 51, 52, 53, 54, 55, 56, 57, 58, 59, 60, 61, 62, 63, 64, 65, 66, 67, 68, 69, 70, 71, 72, 73, 74] (by decide +kernel) (by decide +kernel)
set_option maxRecDepth 20000 in
theorem gX6_revoke_X6_revokes : GoodIn wsX6_revoke (wsV RX6 119 RX6 yX6_revokes wsX6_revokes) := goodIn_app (goodIn_of _ (by decide +kernel)) ggX6_revoke_X6_revokes
theorem dX6_revoke_0 : decode cX6_revoke 0 = .ok (.aload_n 0, 1) := by decide +kernel
theorem dX6_revoke_1 : decode cX6_revoke 1 = .ok (.aload_n 0, 1) := by decide +kernel
theorem dX6_revoke_2 : decode cX6_revoke 2 = .ok (.iload_n 1, 1) := by decide +kernel
theorem dX6_revoke_3 : decode cX6_revoke 3 = .ok (.invokevirtual 116, 3) := by decide +kernel
theorem dX6_revoke_6 : decode cX6_revoke 6 = .ok (.iconst (-1), 1) := by decide +kernel
theorem dX6_revoke_7 : decode cX6_revoke 7 = .ok (.if_icmp .eq 7, 3) := by decide +kernel
theorem dX6_revoke_10 : decode cX6_revoke 10 = .ok (.iconst 1, 1) := by decide +kernel
theorem dX6_revoke_11 : decode cX6_revoke 11 = .ok (.goto 4, 3) := by decide +kernel
theorem dX6_revoke_14 : decode cX6_revoke 14 = .ok (.iconst 0, 1) := by decide +kernel
theorem dX6_revoke_15 : decode cX6_revoke 15 = .ok (.iconst 1, 1) := by decide +kernel
theorem dX6_revoke_16 : decode cX6_revoke 16 = .ok (.iconst 1, 1) := by decide +kernel
theorem dX6_revoke_17 : decode cX6_revoke 17 = .ok (.invokevirtual 82, 3) := by decide +kernel
theorem dX6_revoke_20 : decode cX6_revoke 20 = .ok (.ifCond .ne 5, 3) := by decide +kernel
theorem dX6_revoke_23 : decode cX6_revoke 23 = .ok (.iconst 0, 1) := by decide +kernel
theorem dX6_revoke_24 : decode cX6_revoke 24 = .ok (.ireturn, 1) := by decide +kernel
theorem dX6_revoke_25 : decode cX6_revoke 25 = .ok (.aload_n 0, 1) := by decide +kernel
theorem dX6_revoke_26 : decode cX6_revoke 26 = .ok (.invokevirtual 86, 3) := by decide +kernel
theorem dX6_revoke_29 : decode cX6_revoke 29 = .ok (.aload_n 0, 1) := by decide +kernel
theorem dX6_revoke_30 : decode cX6_revoke 30 = .ok (.aload_n 0, 1) := by decide +kernel
theorem dX6_revoke_31 : decode cX6_revoke 31 = .ok (.iload_n 1, 1) := by decide +kernel
theorem dX6_revoke_32 : decode cX6_revoke 32 = .ok (.invokevirtual 116, 3) := by decide +kernel
theorem dX6_revoke_35 : decode cX6_revoke 35 = .ok (.invokevirtual 119, 3) := by decide +kernel
theorem dX6_revoke_38 : decode cX6_revoke 38 = .ok (.ireturn, 1) := by decide +kernel
set_option maxRecDepth 20000 in
theorem ggX6_cheers_X6_die : GoodIn wsX6_cheers wsX6_die := goodIn_r _ [6, 1, 7, 8, 9, 5, 10, 11, 12, 13, 14, 15, 16, 17, 18, 19, 20, 21, 22, 23, 24, 25, 26, 27, 28, 29, 30, 31] (by decide +kernel) (by decide +kernel)
set_option maxRecDepth 20000 in
theorem gX6_cheers_X6_die : GoodIn wsX6_cheers (wsV RX6 122 RX6 yX6_die wsX6_die) := goodIn_app (goodIn_of _ (by decide +kernel)) ggX6_cheers_X6_die
theorem dX6_cheers_0 : decode cX6_cheers 0 = .ok (.aload_n 0, 1) := by decide +kernel
theorem dX6_cheers_1 : decode cX6_cheers 1 = .ok (.getfield 7, 3) := by decide +kernel
theorem dX6_cheers_4 : decode cX6_cheers 4 = .ok (.bipush 8, 2) := by decide +kernel
theorem dX6_cheers_6 : decode cX6_cheers 6 = .ok (.iload_n 1, 1) := by decide +kernel
theorem dX6_cheers_7 : decode cX6_cheers 7 = .ok (.iadd, 1) := by decide +kernel
theorem dX6_cheers_8 : decode cX6_cheers 8 = .ok (.iaload, 1) := by decide +kernel
theorem dX6_cheers_9 : decode cX6_cheers 9 = .ok (.iload_n 2, 1) := by decide +kernel
theorem dX6_cheers_10 : decode cX6_cheers 10 = .ok (.iadd, 1) := by decide +kernel
theorem dX6_cheers_11 : decode cX6_cheers 11 = .ok (.istore_n 3, 1) := by decide +kernel
theorem dX6_cheers_12 : decode cX6_cheers 12 = .ok (.aload_n 0, 1) := by decide +kernel
theorem dX6_cheers_13 : decode cX6_cheers 13 = .ok (.getfield 7, 3) := by decide +kernel
theorem dX6_cheers_16 : decode cX6_cheers 16 = .ok (.bipush 8, 2) := by decide +kernel
theorem dX6_cheers_18 : decode cX6_cheers 18 = .ok (.iload_n 1, 1) := by decide +kernel
theorem dX6_cheers_19 : decode cX6_cheers 19 = .ok (.iadd, 1) := by decide +kernel
theorem dX6_cheers_20 : decode cX6_cheers 20 = .ok (.iload_n 3, 1) := by decide +kernel
theorem dX6_cheers_21 : decode cX6_cheers 21 = .ok (.ifCond .ge 7, 3) := by decide +kernel
theorem dX6_cheers_24 : decode cX6_cheers 24 = .ok (.iconst 0, 1) := by decide +kernel
theorem dX6_cheers_25 : decode cX6_cheers 25 = .ok (.goto 15, 3) := by decide +kernel
theorem dX6_cheers_28 : decode cX6_cheers 28 = .ok (.iload_n 3, 1) := by decide +kernel
theorem dX6_cheers_29 : decode cX6_cheers 29 = .ok (.bipush 100, 2) := by decide +kernel
theorem dX6_cheers_31 : decode cX6_cheers 31 = .ok (.if_icmp .le 8, 3) := by decide +kernel
theorem dX6_cheers_34 : decode cX6_cheers 34 = .ok (.bipush 100, 2) := by decide +kernel
theorem dX6_cheers_36 : decode cX6_cheers 36 = .ok (.goto 4, 3) := by decide +kernel
theorem dX6_cheers_39 : decode cX6_cheers 39 = .ok (.iload_n 3, 1) := by decide +kernel
theorem dX6_cheers_40 : decode cX6_cheers 40 = .ok (.iastore, 1) := by decide +kernel
theorem dX6_cheers_41 : decode cX6_cheers 41 = .ok (.aload_n 0, 1) := by decide +kernel
theorem dX6_cheers_42 : decode cX6_cheers 42 = .ok (.invokevirtual 122, 3) := by decide +kernel
theorem dX6_cheers_45 : decode cX6_cheers 45 = .ok (.istore 4, 2) := by decide +kernel
theorem dX6_cheers_47 : decode cX6_cheers 47 = .ok (.return_, 1) := by decide +kernel
set_option maxRecDepth 20000 in
theorem ggX6_cheer_X6_isPerson : GoodIn wsX6_cheer wsX6_isPerson := goodIn_r _ [7, 8, 9, 10, 6, 11] (by decide +kernel) (by decide +kernel)
set_option maxRecDepth 20000 in
theorem gX6_cheer_X6_isPerson : GoodIn wsX6_cheer (va_wsS RX6 76 yX6_isPerson wsX6_isPerson) := goodIn_app (goodIn_of _ (by decide +kernel)) ggX6_cheer_X6_isPerson
set_option maxRecDepth 20000 in
theorem ggX6_cheer_X6_in : GoodIn wsX6_cheer wsX6_in := goodIn_r _ [11] (by decide +kernel) (by decide +kernel)
set_option maxRecDepth 20000 in
theorem gX6_cheer_X6_in : GoodIn wsX6_cheer (va_wsS RX6 40 yX6_in wsX6_in) := goodIn_app (goodIn_of _ (by decide +kernel)) ggX6_cheer_X6_in
set_option maxRecDepth 20000 in
theorem ggX6_cheer_X6_goes : GoodIn wsX6_cheer wsX6_goes := goodIn_r _ [15, 16, 43, 44, 45, 46, 47, 48, 49, 50, 51, 52, 53, 54, 55] (by decide +kernel) (by decide +kernel)
set_option maxRecDepth 20000 in
theorem gX6_cheer_X6_goes : GoodIn wsX6_cheer (wsV RX6 82 RX6 yX6_goes wsX6_goes) := goodIn_app (goodIn_of _ (by decide +kernel)) ggX6_cheer_X6_goes
set_option maxRecDepth 20000 in
theorem ggX6_cheer_X6_save : GoodIn wsX6_cheer wsX6_save := goodIn_r _ [20, 21, 22, 3, 43, 44, 45, 46, 47, 48, 49, 50, 51, 52, 53, 54, 55] (by decide +kernel) (by decide +kernel)
set_option maxRecDepth 20000 in
theorem gX6_cheer_X6_save : GoodIn wsX6_cheer (wsV RX6 86 RX6 yX6_save wsX6_save) := goodIn_app (goodIn_of _ (by decide +kernel)) ggX6_cheer_X6_save
set_option maxRecDepth 20000 in
theorem ggX6_cheer_X6_cheers : GoodIn wsX6_cheer wsX6_cheers := goodIn_r _ [26, 3, 27, 28, 29, 6, 30, 31, 32, 33, 34, 35, 36, 37, 38, 39, 40, 41, 42, 43, 44, 45, 46, 47, 48, 49, 50, 51, 52, 53, 54, 55] (by decide +kernel) (by decide +kernel)
set_option maxRecDepth 20000 in
theorem gX6_cheer_X6_cheers : GoodIn wsX6_cheer (wsV RX6 127 RX6 yX6_cheers wsX6_cheers) := goodIn_app (goodIn_of _ (by decide +kernel)) ggX6_cheer_X6_cheers
theorem dX6_cheer_0 : decode cX6_cheer 0 = .ok (.aload_n 0, 1) := by decide +kernel
theorem dX6_cheer_1 : decode cX6_cheer 1 = .ok (.iload_n 1, 1) := by decide +kernel
theorem dX6_cheer_2 : decode cX6_cheer 2 = .ok (.invokestatic 76, 3) := by decide +kernel
theorem dX6_cheer_5 : decode cX6_cheer 5 = .ok (.iload_n 2, 1) := by decide +kernel
theorem dX6_cheer_6 : decode cX6_cheer 6 = .ok (.i2l, 1) := by decide +kernel
theorem dX6_cheer_7 : decode cX6_cheer 7 = .ok (.ldc2_w 125, 3) := by decide +kernel
theorem dX6_cheer_10 : decode cX6_cheer 10 = .ok (.ldc2_w 95, 3) := by decide +kernel
theorem dX6_cheer_13 : decode cX6_cheer 13 = .ok (.invokestatic 40, 3) := by decide +kernel
theorem dX6_cheer_16 : decode cX6_cheer 16 = .ok (.iconst 1, 1) := by decide +kernel
theorem dX6_cheer_17 : decode cX6_cheer 17 = .ok (.invokevirtual 82, 3) := by decide +kernel
theorem dX6_cheer_20 : decode cX6_cheer 20 = .ok (.ifCond .ne 5, 3) := by decide +kernel
theorem dX6_cheer_23 : decode cX6_cheer 23 = .ok (.iconst 0, 1) := by decide +kernel
theorem dX6_cheer_24 : decode cX6_cheer 24 = .ok (.ireturn, 1) := by decide +kernel
theorem dX6_cheer_25 : decode cX6_cheer 25 = .ok (.aload_n 0, 1) := by decide +kernel
theorem dX6_cheer_26 : decode cX6_cheer 26 = .ok (.invokevirtual 86, 3) := by decide +kernel
theorem dX6_cheer_29 : decode cX6_cheer 29 = .ok (.aload_n 0, 1) := by decide +kernel
theorem dX6_cheer_30 : decode cX6_cheer 30 = .ok (.iload_n 1, 1) := by decide +kernel
theorem dX6_cheer_31 : decode cX6_cheer 31 = .ok (.iload_n 2, 1) := by decide +kernel
theorem dX6_cheer_32 : decode cX6_cheer 32 = .ok (.invokevirtual 127, 3) := by decide +kernel
theorem dX6_cheer_35 : decode cX6_cheer 35 = .ok (.aload_n 0, 1) := by decide +kernel
theorem dX6_cheer_36 : decode cX6_cheer 36 = .ok (.getfield 7, 3) := by decide +kernel
theorem dX6_cheer_39 : decode cX6_cheer 39 = .ok (.bipush 8, 2) := by decide +kernel
theorem dX6_cheer_41 : decode cX6_cheer 41 = .ok (.iload_n 1, 1) := by decide +kernel
theorem dX6_cheer_42 : decode cX6_cheer 42 = .ok (.iadd, 1) := by decide +kernel
theorem dX6_cheer_43 : decode cX6_cheer 43 = .ok (.iaload, 1) := by decide +kernel
theorem dX6_cheer_44 : decode cX6_cheer 44 = .ok (.ireturn, 1) := by decide +kernel
set_option maxRecDepth 20000 in
theorem ggX6_tick_X6_die : GoodIn wsX6_tick wsX6_die := goodIn_r _ [6, 1, 7, 8, 9, 5, 10, 11, 12, 13, 14, 15, 16, 17, 18, 19, 20, 21, 22, 23, 24, 25, 26, 27, 28, 29, 30, 31] (by decide +kernel) (by decide +kernel)
set_option maxRecDepth 20000 in
theorem gX6_tick_X6_die : GoodIn wsX6_tick (wsV RX6 122 RX6 yX6_die wsX6_die) := goodIn_app (goodIn_of _ (by decide +kernel)) ggX6_tick_X6_die
theorem dX6_tick_0 : decode cX6_tick 0 = .ok (.aload_n 0, 1) := by decide +kernel
theorem dX6_tick_1 : decode cX6_tick 1 = .ok (.getfield 7, 3) := by decide +kernel
theorem dX6_tick_4 : decode cX6_tick 4 = .ok (.iconst 0, 1) := by decide +kernel
theorem dX6_tick_5 : decode cX6_tick 5 = .ok (.dup2, 1) := by decide +kernel
theorem dX6_tick_6 : decode cX6_tick 6 = .ok (.iaload, 1) := by decide +kernel
theorem dX6_tick_7 : decode cX6_tick 7 = .ok (.iconst 1, 1) := by decide +kernel
theorem dX6_tick_8 : decode cX6_tick 8 = .ok (.iadd, 1) := by decide +kernel
theorem dX6_tick_9 : decode cX6_tick 9 = .ok (.iastore, 1) := by decide +kernel
theorem dX6_tick_10 : decode cX6_tick 10 = .ok (.iconst 0, 1) := by decide +kernel
theorem dX6_tick_11 : decode cX6_tick 11 = .ok (.istore_n 1, 1) := by decide +kernel
theorem dX6_tick_12 : decode cX6_tick 12 = .ok (.iload_n 1, 1) := by decide +kernel
theorem dX6_tick_13 : decode cX6_tick 13 = .ok (.bipush 10, 2) := by decide +kernel
theorem dX6_tick_15 : decode cX6_tick 15 = .ok (.if_icmp .ge 58, 3) := by decide +kernel
theorem dX6_tick_18 : decode cX6_tick 18 = .ok (.aload_n 0, 1) := by decide +kernel
theorem dX6_tick_19 : decode cX6_tick 19 = .ok (.getfield 7, 3) := by decide +kernel
theorem dX6_tick_22 : decode cX6_tick 22 = .ok (.bipush 18, 2) := by decide +kernel
theorem dX6_tick_24 : decode cX6_tick 24 = .ok (.iload_n 1, 1) := by decide +kernel
theorem dX6_tick_25 : decode cX6_tick 25 = .ok (.iadd, 1) := by decide +kernel
theorem dX6_tick_26 : decode cX6_tick 26 = .ok (.iaload, 1) := by decide +kernel
theorem dX6_tick_27 : decode cX6_tick 27 = .ok (.aload_n 0, 1) := by decide +kernel
theorem dX6_tick_28 : decode cX6_tick 28 = .ok (.getfield 7, 3) := by decide +kernel
theorem dX6_tick_31 : decode cX6_tick 31 = .ok (.bipush 8, 2) := by decide +kernel
theorem dX6_tick_33 : decode cX6_tick 33 = .ok (.iload_n 1, 1) := by decide +kernel
theorem dX6_tick_34 : decode cX6_tick 34 = .ok (.iadd, 1) := by decide +kernel
theorem dX6_tick_35 : decode cX6_tick 35 = .ok (.iaload, 1) := by decide +kernel
theorem dX6_tick_36 : decode cX6_tick 36 = .ok (.isub, 1) := by decide +kernel
theorem dX6_tick_37 : decode cX6_tick 37 = .ok (.istore_n 2, 1) := by decide +kernel
theorem dX6_tick_38 : decode cX6_tick 38 = .ok (.aload_n 0, 1) := by decide +kernel
theorem dX6_tick_39 : decode cX6_tick 39 = .ok (.getfield 7, 3) := by decide +kernel
theorem dX6_tick_42 : decode cX6_tick 42 = .ok (.bipush 8, 2) := by decide +kernel
theorem dX6_tick_44 : decode cX6_tick 44 = .ok (.iload_n 1, 1) := by decide +kernel
theorem dX6_tick_45 : decode cX6_tick 45 = .ok (.iadd, 1) := by decide +kernel
theorem dX6_tick_46 : decode cX6_tick 46 = .ok (.dup2, 1) := by decide +kernel
theorem dX6_tick_47 : decode cX6_tick 47 = .ok (.iaload, 1) := by decide +kernel
theorem dX6_tick_48 : decode cX6_tick 48 = .ok (.iload_n 2, 1) := by decide +kernel
theorem dX6_tick_49 : decode cX6_tick 49 = .ok (.ifCond .le 7, 3) := by decide +kernel
theorem dX6_tick_52 : decode cX6_tick 52 = .ok (.iconst 1, 1) := by decide +kernel
theorem dX6_tick_53 : decode cX6_tick 53 = .ok (.goto 12, 3) := by decide +kernel
theorem dX6_tick_56 : decode cX6_tick 56 = .ok (.iload_n 2, 1) := by decide +kernel
theorem dX6_tick_57 : decode cX6_tick 57 = .ok (.ifCond .ge 7, 3) := by decide +kernel
theorem dX6_tick_60 : decode cX6_tick 60 = .ok (.iconst (-1), 1) := by decide +kernel
theorem dX6_tick_61 : decode cX6_tick 61 = .ok (.goto 4, 3) := by decide +kernel
theorem dX6_tick_64 : decode cX6_tick 64 = .ok (.iconst 0, 1) := by decide +kernel
theorem dX6_tick_65 : decode cX6_tick 65 = .ok (.iadd, 1) := by decide +kernel
theorem dX6_tick_66 : decode cX6_tick 66 = .ok (.iastore, 1) := by decide +kernel
theorem dX6_tick_67 : decode cX6_tick 67 = .ok (.iinc 1 1, 3) := by decide +kernel
theorem dX6_tick_70 : decode cX6_tick 70 = .ok (.goto (-58), 3) := by decide +kernel
theorem dX6_tick_73 : decode cX6_tick 73 = .ok (.aload_n 0, 1) := by decide +kernel
theorem dX6_tick_74 : decode cX6_tick 74 = .ok (.invokevirtual 122, 3) := by decide +kernel
theorem dX6_tick_77 : decode cX6_tick 77 = .ok (.ireturn, 1) := by decide +kernel
set_option maxRecDepth 20000 in
theorem ggX6_ticks_X6_tick : GoodIn wsX6_ticks wsX6_tick := goodIn_r _ [5, 6, 7, 8, 9, 4, 10, 11, 12, 13, 14, 15, 16, 17, 18, 19, 20, 21, 22, 23, 24, 25, 26, 27, 28, 29, 30, 31, 32, 33, 34, 35] (by decide +kernel) (by decide +kernel)
set_option maxRecDepth 20000 in
theorem gX6_ticks_X6_tick : GoodIn wsX6_ticks (wsV RX6 131 RX6 yX6_tick wsX6_tick) := goodIn_app (goodIn_of _ (by decide +kernel)) ggX6_ticks_X6_tick
theorem dX6_ticks_0 : decode cX6_ticks 0 = .ok (.iconst 0, 1) := by decide +kernel
theorem dX6_ticks_1 : decode cX6_ticks 1 = .ok (.istore_n 2, 1) := by decide +kernel
theorem dX6_ticks_2 : decode cX6_ticks 2 = .ok (.iconst 0, 1) := by decide +kernel
theorem dX6_ticks_3 : decode cX6_ticks 3 = .ok (.istore_n 3, 1) := by decide +kernel
theorem dX6_ticks_4 : decode cX6_ticks 4 = .ok (.iload_n 3, 1) := by decide +kernel
theorem dX6_ticks_5 : decode cX6_ticks 5 = .ok (.iload_n 1, 1) := by decide +kernel
theorem dX6_ticks_6 : decode cX6_ticks 6 = .ok (.if_icmp .ge 16, 3) := by decide +kernel
theorem dX6_ticks_9 : decode cX6_ticks 9 = .ok (.iload_n 2, 1) := by decide +kernel
theorem dX6_ticks_10 : decode cX6_ticks 10 = .ok (.aload_n 0, 1) := by decide +kernel
theorem dX6_ticks_11 : decode cX6_ticks 11 = .ok (.invokevirtual 131, 3) := by decide +kernel
theorem dX6_ticks_14 : decode cX6_ticks 14 = .ok (.iadd, 1) := by decide +kernel
theorem dX6_ticks_15 : decode cX6_ticks 15 = .ok (.istore_n 2, 1) := by decide +kernel
theorem dX6_ticks_16 : decode cX6_ticks 16 = .ok (.iinc 3 1, 3) := by decide +kernel
theorem dX6_ticks_19 : decode cX6_ticks 19 = .ok (.goto (-15), 3) := by decide +kernel
theorem dX6_ticks_22 : decode cX6_ticks 22 = .ok (.iload_n 2, 1) := by decide +kernel
theorem dX6_ticks_23 : decode cX6_ticks 23 = .ok (.ireturn, 1) := by decide +kernel
theorem dX6_mayPass_0 : decode cX6_mayPass 0 = .ok (.aload_n 0, 1) := by decide +kernel
theorem dX6_mayPass_1 : decode cX6_mayPass 1 = .ok (.getfield 7, 3) := by decide +kernel
theorem dX6_mayPass_4 : decode cX6_mayPass 4 = .ok (.iconst 0, 1) := by decide +kernel
theorem dX6_mayPass_5 : decode cX6_mayPass 5 = .ok (.iaload, 1) := by decide +kernel
theorem dX6_mayPass_6 : decode cX6_mayPass 6 = .ok (.iload_n 1, 1) := by decide +kernel
theorem dX6_mayPass_7 : decode cX6_mayPass 7 = .ok (.iadd, 1) := by decide +kernel
theorem dX6_mayPass_8 : decode cX6_mayPass 8 = .ok (.ldc 134, 2) := by decide +kernel
theorem dX6_mayPass_10 : decode cX6_mayPass 10 = .ok (.if_icmp .gt 7, 3) := by decide +kernel
theorem dX6_mayPass_13 : decode cX6_mayPass 13 = .ok (.iconst 1, 1) := by decide +kernel
theorem dX6_mayPass_14 : decode cX6_mayPass 14 = .ok (.goto 4, 3) := by decide +kernel
theorem dX6_mayPass_17 : decode cX6_mayPass 17 = .ok (.iconst 0, 1) := by decide +kernel
theorem dX6_mayPass_18 : decode cX6_mayPass 18 = .ok (.ireturn, 1) := by decide +kernel
set_option maxRecDepth 20000 in
theorem ggX6_pass_X6_in : GoodIn wsX6_pass wsX6_in := goodIn_r _ [5] (by decide +kernel) (by decide +kernel)
set_option maxRecDepth 20000 in
theorem gX6_pass_X6_in : GoodIn wsX6_pass (va_wsS RX6 40 yX6_in wsX6_in) := goodIn_app (goodIn_of _ (by decide +kernel)) ggX6_pass_X6_in
set_option maxRecDepth 20000 in
theorem ggX6_pass_X6_mayPass : GoodIn wsX6_pass wsX6_mayPass := goodIn_r _ [9, 10, 11, 47, 48, 49, 50, 51, 52, 53, 54, 55, 56, 57, 58, 59] (by decide +kernel) (by decide +kernel)
set_option maxRecDepth 20000 in
theorem gX6_pass_X6_mayPass : GoodIn wsX6_pass (wsV RX6 135 RX6 yX6_mayPass wsX6_mayPass) := goodIn_app (goodIn_of _ (by decide +kernel)) ggX6_pass_X6_mayPass
set_option maxRecDepth 20000 in
theorem ggX6_pass_X6_goes : GoodIn wsX6_pass wsX6_goes := goodIn_r _ [15, 16, 47, 48, 49, 50, 51, 52, 53, 54, 55, 56, 57, 58, 59] (by decide +kernel) (by decide +kernel)
set_option maxRecDepth 20000 in
theorem gX6_pass_X6_goes : GoodIn wsX6_pass (wsV RX6 82 RX6 yX6_goes wsX6_goes) := goodIn_app (goodIn_of _ (by decide +kernel)) ggX6_pass_X6_goes
set_option maxRecDepth 20000 in
theorem ggX6_pass_X6_save : GoodIn wsX6_pass wsX6_save := goodIn_r _ [20, 21, 22, 10, 47, 48, 49, 50, 51, 52, 53, 54, 55, 56, 57, 58, 59] (by decide +kernel) (by decide +kernel)
set_option maxRecDepth 20000 in
theorem gX6_pass_X6_save : GoodIn wsX6_pass (wsV RX6 86 RX6 yX6_save wsX6_save) := goodIn_app (goodIn_of _ (by decide +kernel)) ggX6_pass_X6_save
set_option maxRecDepth 20000 in
theorem ggX6_pass_X6_ticks : GoodIn wsX6_pass wsX6_ticks := goodIn_r _ [26, 27, 28, 29, 4, 30, 10, 31, 32, 33, 34, 35, 36, 37, 38, 39, 40, 41, 42, 43, 44, 45, 46, 47, 48, 49, 50, 51, 52, 53, 54, 55, 56, 57, 58, 59] (by decide +kernel) (by decide +kernel)
set_option maxRecDepth 20000 in
theorem gX6_pass_X6_ticks : GoodIn wsX6_pass (wsV RX6 138 RX6 yX6_ticks wsX6_ticks) := goodIn_app (goodIn_of _ (by decide +kernel)) ggX6_pass_X6_ticks
theorem dX6_pass_0 : decode cX6_pass 0 = .ok (.iload_n 1, 1) := by decide +kernel
theorem dX6_pass_1 : decode cX6_pass 1 = .ok (.i2l, 1) := by decide +kernel
theorem dX6_pass_2 : decode cX6_pass 2 = .ok (.lconst 1, 1) := by decide +kernel
theorem dX6_pass_3 : decode cX6_pass 3 = .ok (.ldc2_w 95, 3) := by decide +kernel
theorem dX6_pass_6 : decode cX6_pass 6 = .ok (.invokestatic 40, 3) := by decide +kernel
theorem dX6_pass_9 : decode cX6_pass 9 = .ok (.istore_n 2, 1) := by decide +kernel
theorem dX6_pass_10 : decode cX6_pass 10 = .ok (.aload_n 0, 1) := by decide +kernel
theorem dX6_pass_11 : decode cX6_pass 11 = .ok (.iload_n 2, 1) := by decide +kernel
theorem dX6_pass_12 : decode cX6_pass 12 = .ok (.iload_n 2, 1) := by decide +kernel
theorem dX6_pass_13 : decode cX6_pass 13 = .ok (.ifCond .eq 15, 3) := by decide +kernel
theorem dX6_pass_16 : decode cX6_pass 16 = .ok (.aload_n 0, 1) := by decide +kernel
theorem dX6_pass_17 : decode cX6_pass 17 = .ok (.iload_n 1, 1) := by decide +kernel
theorem dX6_pass_18 : decode cX6_pass 18 = .ok (.invokevirtual 135, 3) := by decide +kernel
theorem dX6_pass_21 : decode cX6_pass 21 = .ok (.ifCond .eq 7, 3) := by decide +kernel
theorem dX6_pass_24 : decode cX6_pass 24 = .ok (.iconst 1, 1) := by decide +kernel
theorem dX6_pass_25 : decode cX6_pass 25 = .ok (.goto 4, 3) := by decide +kernel
theorem dX6_pass_28 : decode cX6_pass 28 = .ok (.iconst 0, 1) := by decide +kernel
theorem dX6_pass_29 : decode cX6_pass 29 = .ok (.iconst 1, 1) := by decide +kernel
theorem dX6_pass_30 : decode cX6_pass 30 = .ok (.invokevirtual 82, 3) := by decide +kernel
theorem dX6_pass_33 : decode cX6_pass 33 = .ok (.ifCond .ne 5, 3) := by decide +kernel
theorem dX6_pass_36 : decode cX6_pass 36 = .ok (.iconst 0, 1) := by decide +kernel
theorem dX6_pass_37 : decode cX6_pass 37 = .ok (.ireturn, 1) := by decide +kernel
theorem dX6_pass_38 : decode cX6_pass 38 = .ok (.aload_n 0, 1) := by decide +kernel
theorem dX6_pass_39 : decode cX6_pass 39 = .ok (.invokevirtual 86, 3) := by decide +kernel
theorem dX6_pass_42 : decode cX6_pass 42 = .ok (.aload_n 0, 1) := by decide +kernel
theorem dX6_pass_43 : decode cX6_pass 43 = .ok (.iload_n 1, 1) := by decide +kernel
theorem dX6_pass_44 : decode cX6_pass 44 = .ok (.invokevirtual 138, 3) := by decide +kernel
theorem dX6_pass_47 : decode cX6_pass 47 = .ok (.ireturn, 1) := by decide +kernel
set_option maxRecDepth 20000 in
theorem ggX6_held_X6_isPerson : GoodIn wsX6_held wsX6_isPerson := goodIn_r _ [4, 5, 6, 7, 3, 8] (by decide +kernel) (by decide +kernel)
set_option maxRecDepth 20000 in
theorem gX6_held_X6_isPerson : GoodIn wsX6_held (va_wsS RX6 76 yX6_isPerson wsX6_isPerson) := goodIn_app (goodIn_of _ (by decide +kernel)) ggX6_held_X6_isPerson
set_option maxRecDepth 20000 in
theorem ggX6_held_X6_isThing : GoodIn wsX6_held wsX6_isThing := goodIn_r _ [12, 13, 6, 7, 3, 8, 44, 45, 46, 47, 48, 49, 50, 51, 52, 53, 54, 55, 56] (by decide +kernel) (by decide +kernel)
set_option maxRecDepth 20000 in
theorem gX6_held_X6_isThing : GoodIn wsX6_held (wsV RX6 89 RX6 yX6_isThing wsX6_isThing) := goodIn_app (goodIn_of _ (by decide +kernel)) ggX6_held_X6_isThing
set_option maxRecDepth 20000 in
theorem ggX6_held_X6_goes : GoodIn wsX6_held wsX6_goes := goodIn_r _ [17, 18, 44, 45, 46, 47, 48, 49, 50, 51, 52, 53, 54, 55, 56] (by decide +kernel) (by decide +kernel)
set_option maxRecDepth 20000 in
theorem gX6_held_X6_goes : GoodIn wsX6_held (wsV RX6 82 RX6 yX6_goes wsX6_goes) := goodIn_app (goodIn_of _ (by decide +kernel)) ggX6_held_X6_goes
set_option maxRecDepth 20000 in
theorem ggX6_held_X6_lay : GoodIn wsX6_held wsX6_lay := goodIn_r _ [22, 23, 13, 24, 25, 26, 3, 27, 28, 29, 30, 31, 32, 33, 34, 35, 36, 37, 38, 39, 40, 41, 42, 43, 44, 45, 46, 47, 48, 49, 50, 51, 52, 53, 54, 55, 56] (by decide +kernel) (by decide +kernel)
set_option maxRecDepth 20000 in
theorem gX6_held_X6_lay : GoodIn wsX6_held (wsV RX6 67 RX6 yX6_lay wsX6_lay) := goodIn_app (goodIn_of _ (by decide +kernel)) ggX6_held_X6_lay
set_option maxRecDepth 20000 in
theorem ggX6_held_X6_holds : GoodIn wsX6_held wsX6_holds := goodIn_r _ [39, 23, 44, 45, 46, 47, 48, 49, 50, 51, 52, 53, 54, 55, 56] (by decide +kernel) (by decide +kernel)
set_option maxRecDepth 20000 in
theorem gX6_held_X6_holds : GoodIn wsX6_held (wsV RX6 55 RX6 yX6_holds wsX6_holds) := goodIn_app (goodIn_of _ (by decide +kernel)) ggX6_held_X6_holds
theorem dX6_held_0 : decode cX6_held 0 = .ok (.aload_n 0, 1) := by decide +kernel
theorem dX6_held_1 : decode cX6_held 1 = .ok (.iload_n 1, 1) := by decide +kernel
theorem dX6_held_2 : decode cX6_held 2 = .ok (.invokestatic 76, 3) := by decide +kernel
theorem dX6_held_5 : decode cX6_held 5 = .ok (.ifCond .eq 15, 3) := by decide +kernel
theorem dX6_held_8 : decode cX6_held 8 = .ok (.aload_n 0, 1) := by decide +kernel
theorem dX6_held_9 : decode cX6_held 9 = .ok (.iload_n 2, 1) := by decide +kernel
theorem dX6_held_10 : decode cX6_held 10 = .ok (.invokevirtual 89, 3) := by decide +kernel
theorem dX6_held_13 : decode cX6_held 13 = .ok (.ifCond .eq 7, 3) := by decide +kernel
theorem dX6_held_16 : decode cX6_held 16 = .ok (.iconst 1, 1) := by decide +kernel
theorem dX6_held_17 : decode cX6_held 17 = .ok (.goto 4, 3) := by decide +kernel
theorem dX6_held_20 : decode cX6_held 20 = .ok (.iconst 0, 1) := by decide +kernel
theorem dX6_held_21 : decode cX6_held 21 = .ok (.iconst 1, 1) := by decide +kernel
theorem dX6_held_22 : decode cX6_held 22 = .ok (.iconst 1, 1) := by decide +kernel
theorem dX6_held_23 : decode cX6_held 23 = .ok (.invokevirtual 82, 3) := by decide +kernel
theorem dX6_held_26 : decode cX6_held 26 = .ok (.ifCond .ne 5, 3) := by decide +kernel
theorem dX6_held_29 : decode cX6_held 29 = .ok (.iconst 0, 1) := by decide +kernel
theorem dX6_held_30 : decode cX6_held 30 = .ok (.ireturn, 1) := by decide +kernel
theorem dX6_held_31 : decode cX6_held 31 = .ok (.aload_n 0, 1) := by decide +kernel
theorem dX6_held_32 : decode cX6_held 32 = .ok (.invokevirtual 67, 3) := by decide +kernel
theorem dX6_held_35 : decode cX6_held 35 = .ok (.aload_n 0, 1) := by decide +kernel
theorem dX6_held_36 : decode cX6_held 36 = .ok (.iload_n 1, 1) := by decide +kernel
theorem dX6_held_37 : decode cX6_held 37 = .ok (.iload_n 2, 1) := by decide +kernel
theorem dX6_held_38 : decode cX6_held 38 = .ok (.invokevirtual 55, 3) := by decide +kernel
theorem dX6_held_41 : decode cX6_held 41 = .ok (.ireturn, 1) := by decide +kernel
set_option maxRecDepth 20000 in
theorem ggX6_grantsBy_X6_of : GoodIn wsX6_grantsBy wsX6_of := goodIn_r _ [6, 1, 7, 8, 9, 10, 11, 12, 13, 14, 15, 16, 17, 18, 19] (by decide +kernel) (by decide +kernel)
set_option maxRecDepth 20000 in
theorem gX6_grantsBy_X6_of : GoodIn wsX6_grantsBy (wsV RX6 44 RX6 yX6_of wsX6_of) := goodIn_app (goodIn_of _ (by decide +kernel)) ggX6_grantsBy_X6_of
theorem dX6_grantsBy_0 : decode cX6_grantsBy 0 = .ok (.iconst 0, 1) := by decide +kernel
theorem dX6_grantsBy_1 : decode cX6_grantsBy 1 = .ok (.istore_n 3, 1) := by decide +kernel
theorem dX6_grantsBy_2 : decode cX6_grantsBy 2 = .ok (.iconst 0, 1) := by decide +kernel
theorem dX6_grantsBy_3 : decode cX6_grantsBy 3 = .ok (.istore 4, 2) := by decide +kernel
theorem dX6_grantsBy_5 : decode cX6_grantsBy 5 = .ok (.iload 4, 2) := by decide +kernel
theorem dX6_grantsBy_7 : decode cX6_grantsBy 7 = .ok (.aload_n 0, 1) := by decide +kernel
theorem dX6_grantsBy_8 : decode cX6_grantsBy 8 = .ok (.getfield 7, 3) := by decide +kernel
theorem dX6_grantsBy_11 : decode cX6_grantsBy 11 = .ok (.iconst 5, 1) := by decide +kernel
theorem dX6_grantsBy_12 : decode cX6_grantsBy 12 = .ok (.iaload, 1) := by decide +kernel
theorem dX6_grantsBy_13 : decode cX6_grantsBy 13 = .ok (.if_icmp .ge 28, 3) := by decide +kernel
theorem dX6_grantsBy_16 : decode cX6_grantsBy 16 = .ok (.iload_n 3, 1) := by decide +kernel
theorem dX6_grantsBy_17 : decode cX6_grantsBy 17 = .ok (.aload_n 0, 1) := by decide +kernel
theorem dX6_grantsBy_18 : decode cX6_grantsBy 18 = .ok (.iload 4, 2) := by decide +kernel
theorem dX6_grantsBy_20 : decode cX6_grantsBy 20 = .ok (.iload_n 2, 1) := by decide +kernel
theorem dX6_grantsBy_21 : decode cX6_grantsBy 21 = .ok (.invokevirtual 44, 3) := by decide +kernel
theorem dX6_grantsBy_24 : decode cX6_grantsBy 24 = .ok (.iload_n 1, 1) := by decide +kernel
theorem dX6_grantsBy_25 : decode cX6_grantsBy 25 = .ok (.if_icmp .ne 7, 3) := by decide +kernel
theorem dX6_grantsBy_28 : decode cX6_grantsBy 28 = .ok (.iconst 1, 1) := by decide +kernel
theorem dX6_grantsBy_29 : decode cX6_grantsBy 29 = .ok (.goto 4, 3) := by decide +kernel
theorem dX6_grantsBy_32 : decode cX6_grantsBy 32 = .ok (.iconst 0, 1) := by decide +kernel
theorem dX6_grantsBy_33 : decode cX6_grantsBy 33 = .ok (.iadd, 1) := by decide +kernel
theorem dX6_grantsBy_34 : decode cX6_grantsBy 34 = .ok (.istore_n 3, 1) := by decide +kernel
theorem dX6_grantsBy_35 : decode cX6_grantsBy 35 = .ok (.iinc 4 1, 3) := by decide +kernel
theorem dX6_grantsBy_38 : decode cX6_grantsBy 38 = .ok (.goto (-33), 3) := by decide +kernel
theorem dX6_grantsBy_41 : decode cX6_grantsBy 41 = .ok (.iload_n 3, 1) := by decide +kernel
theorem dX6_grantsBy_42 : decode cX6_grantsBy 42 = .ok (.ireturn, 1) := by decide +kernel
set_option maxRecDepth 20000 in
theorem ggX6_personValue_X6_owner : GoodIn wsX6_personValue wsX6_owner := goodIn_r _ [6, 1, 23, 24, 25, 26, 27, 28, 29, 30, 31, 32, 33, 34, 35] (by decide +kernel) (by decide +kernel)
set_option maxRecDepth 20000 in
theorem gX6_personValue_X6_owner : GoodIn wsX6_personValue (wsV RX6 61 RX6 yX6_owner wsX6_owner) := goodIn_app (goodIn_of _ (by decide +kernel)) ggX6_personValue_X6_owner
set_option maxRecDepth 20000 in
theorem ggX6_personValue_X6_holds : GoodIn wsX6_personValue wsX6_holds := goodIn_r _ [10, 11, 23, 24, 25, 26, 27, 28, 29, 30, 31, 32, 33, 34, 35] (by decide +kernel) (by decide +kernel)
set_option maxRecDepth 20000 in
theorem gX6_personValue_X6_holds : GoodIn wsX6_personValue (wsV RX6 55 RX6 yX6_holds wsX6_holds) := goodIn_app (goodIn_of _ (by decide +kernel)) ggX6_personValue_X6_holds
set_option maxRecDepth 20000 in
theorem ggX6_personValue_X6_bits : GoodIn wsX6_personValue wsX6_bits := goodIn_r _ [14] (by decide +kernel) (by decide +kernel)
set_option maxRecDepth 20000 in
theorem gX6_personValue_X6_bits : GoodIn wsX6_personValue (va_wsS RX6 73 yX6_bits wsX6_bits) := goodIn_app (goodIn_of _ (by decide +kernel)) ggX6_personValue_X6_bits
set_option maxRecDepth 20000 in
theorem ggX6_personValue_X6_grantsBy : GoodIn wsX6_personValue wsX6_grantsBy := goodIn_r _ [18, 1, 19, 20, 21, 5, 22, 23, 24, 25, 26, 27, 28, 29, 30, 31, 32, 33, 34, 35] (by decide +kernel) (by decide +kernel)
set_option maxRecDepth 20000 in
theorem gX6_personValue_X6_grantsBy : GoodIn wsX6_personValue (wsV RX6 141 RX6 yX6_grantsBy wsX6_grantsBy) := goodIn_app (goodIn_of _ (by decide +kernel)) ggX6_personValue_X6_grantsBy
theorem dX6_personValue_0 : decode cX6_personValue 0 = .ok (.iconst 0, 1) := by decide +kernel
theorem dX6_personValue_1 : decode cX6_personValue 1 = .ok (.istore_n 3, 1) := by decide +kernel
theorem dX6_personValue_2 : decode cX6_personValue 2 = .ok (.iconst 0, 1) := by decide +kernel
theorem dX6_personValue_3 : decode cX6_personValue 3 = .ok (.istore 4, 2) := by decide +kernel
theorem dX6_personValue_5 : decode cX6_personValue 5 = .ok (.iconst 0, 1) := by decide +kernel
theorem dX6_personValue_6 : decode cX6_personValue 6 = .ok (.istore 5, 2) := by decide +kernel
theorem dX6_personValue_8 : decode cX6_personValue 8 = .ok (.iload 5, 2) := by decide +kernel
theorem dX6_personValue_10 : decode cX6_personValue 10 = .ok (.aload_n 0, 1) := by decide +kernel
theorem dX6_personValue_11 : decode cX6_personValue 11 = .ok (.getfield 7, 3) := by decide +kernel
theorem dX6_personValue_14 : decode cX6_personValue 14 = .ok (.iconst 4, 1) := by decide +kernel
theorem dX6_personValue_15 : decode cX6_personValue 15 = .ok (.iaload, 1) := by decide +kernel
theorem dX6_personValue_16 : decode cX6_personValue 16 = .ok (.if_icmp .ge 44, 3) := by decide +kernel
theorem dX6_personValue_19 : decode cX6_personValue 19 = .ok (.iload_n 3, 1) := by decide +kernel
theorem dX6_personValue_20 : decode cX6_personValue 20 = .ok (.aload_n 0, 1) := by decide +kernel
theorem dX6_personValue_21 : decode cX6_personValue 21 = .ok (.iload 5, 2) := by decide +kernel
theorem dX6_personValue_23 : decode cX6_personValue 23 = .ok (.invokevirtual 61, 3) := by decide +kernel
theorem dX6_personValue_26 : decode cX6_personValue 26 = .ok (.iload_n 1, 1) := by decide +kernel
theorem dX6_personValue_27 : decode cX6_personValue 27 = .ok (.if_icmp .ne 7, 3) := by decide +kernel
theorem dX6_personValue_30 : decode cX6_personValue 30 = .ok (.iconst 1, 1) := by decide +kernel
theorem dX6_personValue_31 : decode cX6_personValue 31 = .ok (.goto 4, 3) := by decide +kernel
theorem dX6_personValue_34 : decode cX6_personValue 34 = .ok (.iconst 0, 1) := by decide +kernel
theorem dX6_personValue_35 : decode cX6_personValue 35 = .ok (.iadd, 1) := by decide +kernel
theorem dX6_personValue_36 : decode cX6_personValue 36 = .ok (.istore_n 3, 1) := by decide +kernel
theorem dX6_personValue_37 : decode cX6_personValue 37 = .ok (.iload 4, 2) := by decide +kernel
theorem dX6_personValue_39 : decode cX6_personValue 39 = .ok (.aload_n 0, 1) := by decide +kernel
theorem dX6_personValue_40 : decode cX6_personValue 40 = .ok (.iload_n 1, 1) := by decide +kernel
theorem dX6_personValue_41 : decode cX6_personValue 41 = .ok (.iload 5, 2) := by decide +kernel
theorem dX6_personValue_43 : decode cX6_personValue 43 = .ok (.invokevirtual 55, 3) := by decide +kernel
theorem dX6_personValue_46 : decode cX6_personValue 46 = .ok (.iconst 1, 1) := by decide +kernel
theorem dX6_personValue_47 : decode cX6_personValue 47 = .ok (.iand, 1) := by decide +kernel
theorem dX6_personValue_48 : decode cX6_personValue 48 = .ok (.iload 5, 2) := by decide +kernel
theorem dX6_personValue_50 : decode cX6_personValue 50 = .ok (.ishl, 1) := by decide +kernel
theorem dX6_personValue_51 : decode cX6_personValue 51 = .ok (.ior, 1) := by decide +kernel
theorem dX6_personValue_52 : decode cX6_personValue 52 = .ok (.istore 4, 2) := by decide +kernel
theorem dX6_personValue_54 : decode cX6_personValue 54 = .ok (.iinc 5 1, 3) := by decide +kernel
theorem dX6_personValue_57 : decode cX6_personValue 57 = .ok (.goto (-49), 3) := by decide +kernel
theorem dX6_personValue_60 : decode cX6_personValue 60 = .ok (.iload_n 2, 1) := by decide +kernel
theorem dX6_personValue_61 : decode cX6_personValue 61 = .ok (.tableswitch 81 0 5 #[39, 49, 59, 61, 67, 74], 39) := by decide +kernel
theorem dX6_personValue_100 : decode cX6_personValue 100 = .ok (.aload_n 0, 1) := by decide +kernel
theorem dX6_personValue_101 : decode cX6_personValue 101 = .ok (.getfield 7, 3) := by decide +kernel
theorem dX6_personValue_104 : decode cX6_personValue 104 = .ok (.bipush 8, 2) := by decide +kernel
theorem dX6_personValue_106 : decode cX6_personValue 106 = .ok (.iload_n 1, 1) := by decide +kernel
theorem dX6_personValue_107 : decode cX6_personValue 107 = .ok (.iadd, 1) := by decide +kernel
theorem dX6_personValue_108 : decode cX6_personValue 108 = .ok (.iaload, 1) := by decide +kernel
theorem dX6_personValue_109 : decode cX6_personValue 109 = .ok (.ireturn, 1) := by decide +kernel
theorem dX6_personValue_110 : decode cX6_personValue 110 = .ok (.aload_n 0, 1) := by decide +kernel
theorem dX6_personValue_111 : decode cX6_personValue 111 = .ok (.getfield 7, 3) := by decide +kernel
theorem dX6_personValue_114 : decode cX6_personValue 114 = .ok (.bipush 18, 2) := by decide +kernel
theorem dX6_personValue_116 : decode cX6_personValue 116 = .ok (.iload_n 1, 1) := by decide +kernel
theorem dX6_personValue_117 : decode cX6_personValue 117 = .ok (.iadd, 1) := by decide +kernel
theorem dX6_personValue_118 : decode cX6_personValue 118 = .ok (.iaload, 1) := by decide +kernel
theorem dX6_personValue_119 : decode cX6_personValue 119 = .ok (.ireturn, 1) := by decide +kernel
theorem dX6_personValue_120 : decode cX6_personValue 120 = .ok (.iload_n 3, 1) := by decide +kernel
theorem dX6_personValue_121 : decode cX6_personValue 121 = .ok (.ireturn, 1) := by decide +kernel
theorem dX6_personValue_122 : decode cX6_personValue 122 = .ok (.iload 4, 2) := by decide +kernel
theorem dX6_personValue_124 : decode cX6_personValue 124 = .ok (.invokestatic 73, 3) := by decide +kernel
theorem dX6_personValue_127 : decode cX6_personValue 127 = .ok (.ireturn, 1) := by decide +kernel
theorem dX6_personValue_128 : decode cX6_personValue 128 = .ok (.aload_n 0, 1) := by decide +kernel
theorem dX6_personValue_129 : decode cX6_personValue 129 = .ok (.iload_n 1, 1) := by decide +kernel
theorem dX6_personValue_130 : decode cX6_personValue 130 = .ok (.iconst 1, 1) := by decide +kernel
theorem dX6_personValue_131 : decode cX6_personValue 131 = .ok (.invokevirtual 141, 3) := by decide +kernel
theorem dX6_personValue_134 : decode cX6_personValue 134 = .ok (.ireturn, 1) := by decide +kernel
theorem dX6_personValue_135 : decode cX6_personValue 135 = .ok (.aload_n 0, 1) := by decide +kernel
theorem dX6_personValue_136 : decode cX6_personValue 136 = .ok (.iload_n 1, 1) := by decide +kernel
theorem dX6_personValue_137 : decode cX6_personValue 137 = .ok (.iconst 2, 1) := by decide +kernel
theorem dX6_personValue_138 : decode cX6_personValue 138 = .ok (.invokevirtual 141, 3) := by decide +kernel
theorem dX6_personValue_141 : decode cX6_personValue 141 = .ok (.ireturn, 1) := by decide +kernel
theorem dX6_personValue_142 : decode cX6_personValue 142 = .ok (.iload 4, 2) := by decide +kernel
theorem dX6_personValue_144 : decode cX6_personValue 144 = .ok (.ireturn, 1) := by decide +kernel
set_option maxRecDepth 20000 in
theorem ggX6_person_X6_isPerson : GoodIn wsX6_person wsX6_isPerson := goodIn_r _ [5, 6, 7, 8, 4, 9] (by decide +kernel) (by decide +kernel)
set_option maxRecDepth 20000 in
theorem gX6_person_X6_isPerson : GoodIn wsX6_person (va_wsS RX6 76 yX6_isPerson wsX6_isPerson) := goodIn_app (goodIn_of _ (by decide +kernel)) ggX6_person_X6_isPerson
set_option maxRecDepth 20000 in
theorem ggX6_person_X6_in : GoodIn wsX6_person wsX6_in := goodIn_r _ [9] (by decide +kernel) (by decide +kernel)
set_option maxRecDepth 20000 in
theorem gX6_person_X6_in : GoodIn wsX6_person (va_wsS RX6 40 yX6_in wsX6_in) := goodIn_app (goodIn_of _ (by decide +kernel)) ggX6_person_X6_in
set_option maxRecDepth 20000 in
theorem ggX6_person_X6_goes : GoodIn wsX6_person wsX6_goes := goodIn_r _ [13, 14, 52, 53, 54, 55, 56, 57, 58, 59, 60, 61, 62, 63, 64] (by decide +kernel) (by decide +kernel)
set_option maxRecDepth 20000 in
theorem gX6_person_X6_goes : GoodIn wsX6_person (wsV RX6 82 RX6 yX6_goes wsX6_goes) := goodIn_app (goodIn_of _ (by decide +kernel)) ggX6_person_X6_goes
set_option maxRecDepth 20000 in
theorem ggX6_person_X6_lay : GoodIn wsX6_person wsX6_lay := goodIn_r _ [18, 19, 20, 21, 22, 23, 4, 24, 25, 26, 27, 28, 29, 30, 31, 32, 33, 34, 35, 36, 37, 38, 39, 40, 52, 53, 54, 55, 56, 57, 58, 59, 60, 61, 62, 63, 64] (by decide +kernel) (by decide +kernel)
set_option maxRecDepth 20000 in
theorem gX6_person_X6_lay : GoodIn wsX6_person (wsV RX6 67 RX6 yX6_lay wsX6_lay) := goodIn_app (goodIn_of _ (by decide +kernel)) ggX6_person_X6_lay
set_option maxRecDepth 20000 in
theorem ggX6_person_X6_personValue : GoodIn wsX6_person wsX6_personValue := goodIn_r _ [44, 20, 21, 22, 23, 4, 24, 33, 34, 35, 36, 19, 45, 46, 47, 48, 49, 50, 51, 25, 26, 27, 28, 52, 53, 54, 55, 56, 57, 58, 59, 60, 61, 62, 63, 64] (by decide +kernel) (by decide +kernel)
set_option maxRecDepth 20000 in
theorem gX6_person_X6_personValue : GoodIn wsX6_person (wsV RX6 146 RX6 yX6_personValue wsX6_personValue) := goodIn_app (goodIn_of _ (by decide +kernel)) ggX6_person_X6_personValue
theorem dX6_person_0 : decode cX6_person 0 = .ok (.aload_n 0, 1) := by decide +kernel
theorem dX6_person_1 : decode cX6_person 1 = .ok (.iload_n 1, 1) := by decide +kernel
theorem dX6_person_2 : decode cX6_person 2 = .ok (.invokestatic 76, 3) := by decide +kernel
theorem dX6_person_5 : decode cX6_person 5 = .ok (.iload_n 2, 1) := by decide +kernel
theorem dX6_person_6 : decode cX6_person 6 = .ok (.i2l, 1) := by decide +kernel
theorem dX6_person_7 : decode cX6_person 7 = .ok (.lconst 0, 1) := by decide +kernel
theorem dX6_person_8 : decode cX6_person 8 = .ok (.ldc2_w 144, 3) := by decide +kernel
theorem dX6_person_11 : decode cX6_person 11 = .ok (.invokestatic 40, 3) := by decide +kernel
theorem dX6_person_14 : decode cX6_person 14 = .ok (.iconst 1, 1) := by decide +kernel
theorem dX6_person_15 : decode cX6_person 15 = .ok (.invokevirtual 82, 3) := by decide +kernel
theorem dX6_person_18 : decode cX6_person 18 = .ok (.ifCond .ne 5, 3) := by decide +kernel
theorem dX6_person_21 : decode cX6_person 21 = .ok (.iconst 0, 1) := by decide +kernel
theorem dX6_person_22 : decode cX6_person 22 = .ok (.ireturn, 1) := by decide +kernel
theorem dX6_person_23 : decode cX6_person 23 = .ok (.aload_n 0, 1) := by decide +kernel
theorem dX6_person_24 : decode cX6_person 24 = .ok (.invokevirtual 67, 3) := by decide +kernel
theorem dX6_person_27 : decode cX6_person 27 = .ok (.aload_n 0, 1) := by decide +kernel
theorem dX6_person_28 : decode cX6_person 28 = .ok (.iload_n 1, 1) := by decide +kernel
theorem dX6_person_29 : decode cX6_person 29 = .ok (.iload_n 2, 1) := by decide +kernel
theorem dX6_person_30 : decode cX6_person 30 = .ok (.invokevirtual 146, 3) := by decide +kernel
theorem dX6_person_33 : decode cX6_person 33 = .ok (.ireturn, 1) := by decide +kernel
set_option maxRecDepth 20000 in
theorem ggX6_thingValue_X6_grantsBy : GoodIn wsX6_thingValue wsX6_grantsBy := goodIn_r _ [6, 1, 7, 8, 9, 5, 10, 20, 21, 22, 23, 24, 25, 26, 27, 28, 29, 30, 31, 32] (by decide +kernel) (by decide +kernel)
set_option maxRecDepth 20000 in
theorem gX6_thingValue_X6_grantsBy : GoodIn wsX6_thingValue (wsV RX6 141 RX6 yX6_grantsBy wsX6_grantsBy) := goodIn_app (goodIn_of _ (by decide +kernel)) ggX6_thingValue_X6_grantsBy
set_option maxRecDepth 20000 in
theorem ggX6_thingValue_X6_whoHas : GoodIn wsX6_thingValue wsX6_whoHas := goodIn_r _ [14, 15, 16, 17, 5, 18, 19, 20, 21, 22, 23, 24, 25, 26, 27, 28, 29, 30, 31, 32] (by decide +kernel) (by decide +kernel)
set_option maxRecDepth 20000 in
theorem gX6_thingValue_X6_whoHas : GoodIn wsX6_thingValue (wsV RX6 70 RX6 yX6_whoHas wsX6_whoHas) := goodIn_app (goodIn_of _ (by decide +kernel)) ggX6_thingValue_X6_whoHas
theorem dX6_thingValue_0 : decode cX6_thingValue 0 = .ok (.iload_n 2, 1) := by decide +kernel
theorem dX6_thingValue_1 : decode cX6_thingValue 1 = .ok (.iconst 2, 1) := by decide +kernel
theorem dX6_thingValue_2 : decode cX6_thingValue 2 = .ok (.if_icmp .ge 19, 3) := by decide +kernel
theorem dX6_thingValue_5 : decode cX6_thingValue 5 = .ok (.aload_n 0, 1) := by decide +kernel
theorem dX6_thingValue_6 : decode cX6_thingValue 6 = .ok (.getfield 7, 3) := by decide +kernel
theorem dX6_thingValue_9 : decode cX6_thingValue 9 = .ok (.bipush 28, 2) := by decide +kernel
theorem dX6_thingValue_11 : decode cX6_thingValue 11 = .ok (.iconst 2, 1) := by decide +kernel
theorem dX6_thingValue_12 : decode cX6_thingValue 12 = .ok (.iload_n 1, 1) := by decide +kernel
theorem dX6_thingValue_13 : decode cX6_thingValue 13 = .ok (.imul, 1) := by decide +kernel
theorem dX6_thingValue_14 : decode cX6_thingValue 14 = .ok (.iadd, 1) := by decide +kernel
theorem dX6_thingValue_15 : decode cX6_thingValue 15 = .ok (.iload_n 2, 1) := by decide +kernel
theorem dX6_thingValue_16 : decode cX6_thingValue 16 = .ok (.iadd, 1) := by decide +kernel
theorem dX6_thingValue_17 : decode cX6_thingValue 17 = .ok (.iaload, 1) := by decide +kernel
theorem dX6_thingValue_18 : decode cX6_thingValue 18 = .ok (.goto 27, 3) := by decide +kernel
theorem dX6_thingValue_21 : decode cX6_thingValue 21 = .ok (.iload_n 2, 1) := by decide +kernel
theorem dX6_thingValue_22 : decode cX6_thingValue 22 = .ok (.iconst 2, 1) := by decide +kernel
theorem dX6_thingValue_23 : decode cX6_thingValue 23 = .ok (.if_icmp .ne 12, 3) := by decide +kernel
theorem dX6_thingValue_26 : decode cX6_thingValue 26 = .ok (.aload_n 0, 1) := by decide +kernel
theorem dX6_thingValue_27 : decode cX6_thingValue 27 = .ok (.iload_n 1, 1) := by decide +kernel
theorem dX6_thingValue_28 : decode cX6_thingValue 28 = .ok (.iconst 3, 1) := by decide +kernel
theorem dX6_thingValue_29 : decode cX6_thingValue 29 = .ok (.invokevirtual 141, 3) := by decide +kernel
theorem dX6_thingValue_32 : decode cX6_thingValue 32 = .ok (.goto 13, 3) := by decide +kernel
theorem dX6_thingValue_35 : decode cX6_thingValue 35 = .ok (.aload_n 0, 1) := by decide +kernel
theorem dX6_thingValue_36 : decode cX6_thingValue 36 = .ok (.iload_n 1, 1) := by decide +kernel
theorem dX6_thingValue_37 : decode cX6_thingValue 37 = .ok (.iconst 1, 1) := by decide +kernel
theorem dX6_thingValue_38 : decode cX6_thingValue 38 = .ok (.iload_n 2, 1) := by decide +kernel
theorem dX6_thingValue_39 : decode cX6_thingValue 39 = .ok (.iconst 3, 1) := by decide +kernel
theorem dX6_thingValue_40 : decode cX6_thingValue 40 = .ok (.isub, 1) := by decide +kernel
theorem dX6_thingValue_41 : decode cX6_thingValue 41 = .ok (.ishl, 1) := by decide +kernel
theorem dX6_thingValue_42 : decode cX6_thingValue 42 = .ok (.invokevirtual 70, 3) := by decide +kernel
theorem dX6_thingValue_45 : decode cX6_thingValue 45 = .ok (.ireturn, 1) := by decide +kernel
set_option maxRecDepth 20000 in
theorem ggX6_thing_X6_isThing : GoodIn wsX6_thing wsX6_isThing := goodIn_r _ [6, 7, 8, 9, 5, 10, 53, 54, 55, 56, 57, 58, 59, 60, 61, 62, 63, 64, 65] (by decide +kernel) (by decide +kernel)
set_option maxRecDepth 20000 in
theorem gX6_thing_X6_isThing : GoodIn wsX6_thing (wsV RX6 89 RX6 yX6_isThing wsX6_isThing) := goodIn_app (goodIn_of _ (by decide +kernel)) ggX6_thing_X6_isThing
set_option maxRecDepth 20000 in
theorem ggX6_thing_X6_in : GoodIn wsX6_thing wsX6_in := goodIn_r _ [10] (by decide +kernel) (by decide +kernel)
set_option maxRecDepth 20000 in
theorem gX6_thing_X6_in : GoodIn wsX6_thing (va_wsS RX6 40 yX6_in wsX6_in) := goodIn_app (goodIn_of _ (by decide +kernel)) ggX6_thing_X6_in
set_option maxRecDepth 20000 in
theorem ggX6_thing_X6_goes : GoodIn wsX6_thing wsX6_goes := goodIn_r _ [14, 15, 53, 54, 55, 56, 57, 58, 59, 60, 61, 62, 63, 64, 65] (by decide +kernel) (by decide +kernel)
set_option maxRecDepth 20000 in
theorem gX6_thing_X6_goes : GoodIn wsX6_thing (wsV RX6 82 RX6 yX6_goes wsX6_goes) := goodIn_app (goodIn_of _ (by decide +kernel)) ggX6_thing_X6_goes
set_option maxRecDepth 20000 in
theorem ggX6_thing_X6_lay : GoodIn wsX6_thing wsX6_lay := goodIn_r _ [19, 20, 7, 21, 22, 23, 5, 24, 25, 26, 27, 28, 29, 30, 31, 32, 33, 34, 35, 36, 37, 38, 39, 40, 53, 54, 55, 56, 57, 58, 59, 60, 61, 62, 63, 64, 65] (by decide +kernel) (by decide +kernel)
set_option maxRecDepth 20000 in
theorem gX6_thing_X6_lay : GoodIn wsX6_thing (wsV RX6 67 RX6 yX6_lay wsX6_lay) := goodIn_app (goodIn_of _ (by decide +kernel)) ggX6_thing_X6_lay
set_option maxRecDepth 20000 in
theorem ggX6_thing_X6_thingValue : GoodIn wsX6_thing wsX6_thingValue := goodIn_r _ [44, 7, 45, 46, 47, 5, 48, 25, 26, 27, 28, 49, 50, 51, 52, 33, 34, 35, 36, 20, 53, 54, 55, 56, 57, 58, 59, 60, 61, 62, 63, 64, 65] (by decide +kernel) (by decide +kernel)
set_option maxRecDepth 20000 in
theorem gX6_thing_X6_thingValue : GoodIn wsX6_thing (wsV RX6 151 RX6 yX6_thingValue wsX6_thingValue) := goodIn_app (goodIn_of _ (by decide +kernel)) ggX6_thing_X6_thingValue
theorem dX6_thing_0 : decode cX6_thing 0 = .ok (.aload_n 0, 1) := by decide +kernel
theorem dX6_thing_1 : decode cX6_thing 1 = .ok (.aload_n 0, 1) := by decide +kernel
theorem dX6_thing_2 : decode cX6_thing 2 = .ok (.iload_n 1, 1) := by decide +kernel
theorem dX6_thing_3 : decode cX6_thing 3 = .ok (.invokevirtual 89, 3) := by decide +kernel
theorem dX6_thing_6 : decode cX6_thing 6 = .ok (.iload_n 2, 1) := by decide +kernel
theorem dX6_thing_7 : decode cX6_thing 7 = .ok (.i2l, 1) := by decide +kernel
theorem dX6_thing_8 : decode cX6_thing 8 = .ok (.lconst 0, 1) := by decide +kernel
theorem dX6_thing_9 : decode cX6_thing 9 = .ok (.ldc2_w 149, 3) := by decide +kernel
theorem dX6_thing_12 : decode cX6_thing 12 = .ok (.invokestatic 40, 3) := by decide +kernel
theorem dX6_thing_15 : decode cX6_thing 15 = .ok (.iconst 1, 1) := by decide +kernel
theorem dX6_thing_16 : decode cX6_thing 16 = .ok (.invokevirtual 82, 3) := by decide +kernel
theorem dX6_thing_19 : decode cX6_thing 19 = .ok (.ifCond .ne 5, 3) := by decide +kernel
theorem dX6_thing_22 : decode cX6_thing 22 = .ok (.iconst 0, 1) := by decide +kernel
theorem dX6_thing_23 : decode cX6_thing 23 = .ok (.ireturn, 1) := by decide +kernel
theorem dX6_thing_24 : decode cX6_thing 24 = .ok (.aload_n 0, 1) := by decide +kernel
theorem dX6_thing_25 : decode cX6_thing 25 = .ok (.invokevirtual 67, 3) := by decide +kernel
theorem dX6_thing_28 : decode cX6_thing 28 = .ok (.aload_n 0, 1) := by decide +kernel
theorem dX6_thing_29 : decode cX6_thing 29 = .ok (.iload_n 1, 1) := by decide +kernel
theorem dX6_thing_30 : decode cX6_thing 30 = .ok (.iload_n 2, 1) := by decide +kernel
theorem dX6_thing_31 : decode cX6_thing 31 = .ok (.invokevirtual 151, 3) := by decide +kernel
theorem dX6_thing_34 : decode cX6_thing 34 = .ok (.ireturn, 1) := by decide +kernel
set_option maxRecDepth 20000 in
theorem ggX6_grantValue_X6_of : GoodIn wsX6_grantValue wsX6_of := goodIn_r _ [5, 6, 20, 21, 22, 23, 24, 25, 26, 27, 28, 29, 30, 31, 32] (by decide +kernel) (by decide +kernel)
set_option maxRecDepth 20000 in
theorem gX6_grantValue_X6_of : GoodIn wsX6_grantValue (wsV RX6 44 RX6 yX6_of wsX6_of) := goodIn_app (goodIn_of _ (by decide +kernel)) ggX6_grantValue_X6_of
set_option maxRecDepth 20000 in
theorem ggX6_grantValue_X6_passes : GoodIn wsX6_grantValue wsX6_passes := goodIn_r _ [10, 1, 2, 3, 4, 5, 6, 11, 12, 13, 14, 15, 16, 17, 18, 19, 20, 21, 22, 23, 24, 25, 26, 27, 28, 29, 30, 31, 32] (by decide +kernel) (by decide +kernel)
set_option maxRecDepth 20000 in
theorem gX6_grantValue_X6_passes : GoodIn wsX6_grantValue (wsV RX6 64 RX6 yX6_passes wsX6_passes) := goodIn_app (goodIn_of _ (by decide +kernel)) ggX6_grantValue_X6_passes
theorem dX6_grantValue_0 : decode cX6_grantValue 0 = .ok (.iload_n 2, 1) := by decide +kernel
theorem dX6_grantValue_1 : decode cX6_grantValue 1 = .ok (.iconst 5, 1) := by decide +kernel
theorem dX6_grantValue_2 : decode cX6_grantValue 2 = .ok (.if_icmp .ge 14, 3) := by decide +kernel
theorem dX6_grantValue_5 : decode cX6_grantValue 5 = .ok (.aload_n 0, 1) := by decide +kernel
theorem dX6_grantValue_6 : decode cX6_grantValue 6 = .ok (.iload_n 1, 1) := by decide +kernel
theorem dX6_grantValue_7 : decode cX6_grantValue 7 = .ok (.iload_n 2, 1) := by decide +kernel
theorem dX6_grantValue_8 : decode cX6_grantValue 8 = .ok (.iconst 1, 1) := by decide +kernel
theorem dX6_grantValue_9 : decode cX6_grantValue 9 = .ok (.iadd, 1) := by decide +kernel
theorem dX6_grantValue_10 : decode cX6_grantValue 10 = .ok (.invokevirtual 44, 3) := by decide +kernel
theorem dX6_grantValue_13 : decode cX6_grantValue 13 = .ok (.goto 8, 3) := by decide +kernel
theorem dX6_grantValue_16 : decode cX6_grantValue 16 = .ok (.aload_n 0, 1) := by decide +kernel
theorem dX6_grantValue_17 : decode cX6_grantValue 17 = .ok (.iload_n 1, 1) := by decide +kernel
theorem dX6_grantValue_18 : decode cX6_grantValue 18 = .ok (.invokevirtual 64, 3) := by decide +kernel
theorem dX6_grantValue_21 : decode cX6_grantValue 21 = .ok (.ireturn, 1) := by decide +kernel
set_option maxRecDepth 20000 in
theorem ggX6_grantOf_X6_placeOf : GoodIn wsX6_grantOf wsX6_placeOf := goodIn_r _ [6, 7, 8, 9, 10, 5, 11, 45, 46, 47, 48, 49, 50, 51, 52, 53, 54, 55, 56, 57] (by decide +kernel) (by decide +kernel)
set_option maxRecDepth 20000 in
theorem gX6_grantOf_X6_placeOf : GoodIn wsX6_grantOf (wsV RX6 116 RX6 yX6_placeOf wsX6_placeOf) := goodIn_app (goodIn_of _ (by decide +kernel)) ggX6_grantOf_X6_placeOf
set_option maxRecDepth 20000 in
theorem ggX6_grantOf_X6_in : GoodIn wsX6_grantOf wsX6_in := goodIn_r _ [14] (by decide +kernel) (by decide +kernel)
set_option maxRecDepth 20000 in
theorem gX6_grantOf_X6_in : GoodIn wsX6_grantOf (va_wsS RX6 40 yX6_in wsX6_in) := goodIn_app (goodIn_of _ (by decide +kernel)) ggX6_grantOf_X6_in
set_option maxRecDepth 20000 in
theorem ggX6_grantOf_X6_goes : GoodIn wsX6_grantOf wsX6_goes := goodIn_r _ [18, 19, 45, 46, 47, 48, 49, 50, 51, 52, 53, 54, 55, 56, 57] (by decide +kernel) (by decide +kernel)
set_option maxRecDepth 20000 in
theorem gX6_grantOf_X6_goes : GoodIn wsX6_grantOf (wsV RX6 82 RX6 yX6_goes wsX6_goes) := goodIn_app (goodIn_of _ (by decide +kernel)) ggX6_grantOf_X6_goes
set_option maxRecDepth 20000 in
theorem ggX6_grantOf_X6_lay : GoodIn wsX6_grantOf wsX6_lay := goodIn_r _ [23, 24, 7, 25, 26, 27, 5, 28, 8, 9, 10, 11, 29, 30, 31, 32, 33, 34, 35, 36, 37, 38, 39, 40, 45, 46, 47, 48, 49, 50, 51, 52, 53, 54, 55, 56, 57] (by decide +kernel) (by decide +kernel)
set_option maxRecDepth 20000 in
theorem gX6_grantOf_X6_lay : GoodIn wsX6_grantOf (wsV RX6 67 RX6 yX6_lay wsX6_lay) := goodIn_app (goodIn_of _ (by decide +kernel)) ggX6_grantOf_X6_lay
set_option maxRecDepth 20000 in
theorem ggX6_grantOf_X6_grantValue : GoodIn wsX6_grantOf wsX6_grantValue := goodIn_r _ [44, 8, 9, 10, 5, 11, 7, 29, 30, 31, 32, 33, 34, 35, 36, 24, 37, 38, 39, 40, 45, 46, 47, 48, 49, 50, 51, 52, 53, 54, 55, 56, 57] (by decide +kernel) (by decide +kernel)
set_option maxRecDepth 20000 in
theorem gX6_grantOf_X6_grantValue : GoodIn wsX6_grantOf (wsV RX6 154 RX6 yX6_grantValue wsX6_grantValue) := goodIn_app (goodIn_of _ (by decide +kernel)) ggX6_grantOf_X6_grantValue
theorem dX6_grantOf_0 : decode cX6_grantOf 0 = .ok (.aload_n 0, 1) := by decide +kernel
theorem dX6_grantOf_1 : decode cX6_grantOf 1 = .ok (.iload_n 1, 1) := by decide +kernel
theorem dX6_grantOf_2 : decode cX6_grantOf 2 = .ok (.invokevirtual 116, 3) := by decide +kernel
theorem dX6_grantOf_5 : decode cX6_grantOf 5 = .ok (.istore_n 3, 1) := by decide +kernel
theorem dX6_grantOf_6 : decode cX6_grantOf 6 = .ok (.aload_n 0, 1) := by decide +kernel
theorem dX6_grantOf_7 : decode cX6_grantOf 7 = .ok (.iload_n 3, 1) := by decide +kernel
theorem dX6_grantOf_8 : decode cX6_grantOf 8 = .ok (.iconst (-1), 1) := by decide +kernel
theorem dX6_grantOf_9 : decode cX6_grantOf 9 = .ok (.if_icmp .eq 7, 3) := by decide +kernel
theorem dX6_grantOf_12 : decode cX6_grantOf 12 = .ok (.iconst 1, 1) := by decide +kernel
theorem dX6_grantOf_13 : decode cX6_grantOf 13 = .ok (.goto 4, 3) := by decide +kernel
theorem dX6_grantOf_16 : decode cX6_grantOf 16 = .ok (.iconst 0, 1) := by decide +kernel
theorem dX6_grantOf_17 : decode cX6_grantOf 17 = .ok (.iload_n 2, 1) := by decide +kernel
theorem dX6_grantOf_18 : decode cX6_grantOf 18 = .ok (.i2l, 1) := by decide +kernel
theorem dX6_grantOf_19 : decode cX6_grantOf 19 = .ok (.lconst 0, 1) := by decide +kernel
theorem dX6_grantOf_20 : decode cX6_grantOf 20 = .ok (.ldc2_w 149, 3) := by decide +kernel
theorem dX6_grantOf_23 : decode cX6_grantOf 23 = .ok (.invokestatic 40, 3) := by decide +kernel
theorem dX6_grantOf_26 : decode cX6_grantOf 26 = .ok (.iconst 1, 1) := by decide +kernel
theorem dX6_grantOf_27 : decode cX6_grantOf 27 = .ok (.invokevirtual 82, 3) := by decide +kernel
theorem dX6_grantOf_30 : decode cX6_grantOf 30 = .ok (.ifCond .ne 5, 3) := by decide +kernel
theorem dX6_grantOf_33 : decode cX6_grantOf 33 = .ok (.iconst 0, 1) := by decide +kernel
theorem dX6_grantOf_34 : decode cX6_grantOf 34 = .ok (.ireturn, 1) := by decide +kernel
theorem dX6_grantOf_35 : decode cX6_grantOf 35 = .ok (.aload_n 0, 1) := by decide +kernel
theorem dX6_grantOf_36 : decode cX6_grantOf 36 = .ok (.invokevirtual 67, 3) := by decide +kernel
theorem dX6_grantOf_39 : decode cX6_grantOf 39 = .ok (.aload_n 0, 1) := by decide +kernel
theorem dX6_grantOf_40 : decode cX6_grantOf 40 = .ok (.iload_n 3, 1) := by decide +kernel
theorem dX6_grantOf_41 : decode cX6_grantOf 41 = .ok (.iload_n 2, 1) := by decide +kernel
theorem dX6_grantOf_42 : decode cX6_grantOf 42 = .ok (.invokevirtual 154, 3) := by decide +kernel
theorem dX6_grantOf_45 : decode cX6_grantOf 45 = .ok (.ireturn, 1) := by decide +kernel
set_option maxRecDepth 20000 in
theorem ggX6_isLink_X6_of : GoodIn wsX6_isLink wsX6_of := goodIn_r _ [5, 6, 16, 17, 18, 19, 20, 21, 22, 23, 24, 25, 26, 27, 28] (by decide +kernel) (by decide +kernel)
set_option maxRecDepth 20000 in
theorem gX6_isLink_X6_of : GoodIn wsX6_isLink (wsV RX6 44 RX6 yX6_of wsX6_of) := goodIn_app (goodIn_of _ (by decide +kernel)) ggX6_isLink_X6_of
set_option maxRecDepth 20000 in
theorem ggX6_isLink_X6_holds : GoodIn wsX6_isLink wsX6_holds := goodIn_r _ [10, 11, 16, 17, 18, 19, 20, 21, 22, 23, 24, 25, 26, 27, 28] (by decide +kernel) (by decide +kernel)
set_option maxRecDepth 20000 in
theorem gX6_isLink_X6_holds : GoodIn wsX6_isLink (wsV RX6 55 RX6 yX6_holds wsX6_holds) := goodIn_app (goodIn_of _ (by decide +kernel)) ggX6_isLink_X6_holds
set_option maxRecDepth 20000 in
theorem ggX6_isLink_X6_mask : GoodIn wsX6_isLink wsX6_mask := goodIn_r _ [15, 6, 16, 17, 18, 19, 20, 21, 22, 23, 24, 25, 26, 27, 28] (by decide +kernel) (by decide +kernel)
set_option maxRecDepth 20000 in
theorem gX6_isLink_X6_mask : GoodIn wsX6_isLink (wsV RX6 57 RX6 yX6_mask wsX6_mask) := goodIn_app (goodIn_of _ (by decide +kernel)) ggX6_isLink_X6_mask
theorem dX6_isLink_0 : decode cX6_isLink 0 = .ok (.aload_n 0, 1) := by decide +kernel
theorem dX6_isLink_1 : decode cX6_isLink 1 = .ok (.iload_n 1, 1) := by decide +kernel
theorem dX6_isLink_2 : decode cX6_isLink 2 = .ok (.iconst 3, 1) := by decide +kernel
theorem dX6_isLink_3 : decode cX6_isLink 3 = .ok (.invokevirtual 44, 3) := by decide +kernel
theorem dX6_isLink_6 : decode cX6_isLink 6 = .ok (.iload_n 2, 1) := by decide +kernel
theorem dX6_isLink_7 : decode cX6_isLink 7 = .ok (.if_icmp .ne 45, 3) := by decide +kernel
theorem dX6_isLink_10 : decode cX6_isLink 10 = .ok (.aload_n 0, 1) := by decide +kernel
theorem dX6_isLink_11 : decode cX6_isLink 11 = .ok (.iload_n 1, 1) := by decide +kernel
theorem dX6_isLink_12 : decode cX6_isLink 12 = .ok (.iconst 4, 1) := by decide +kernel
theorem dX6_isLink_13 : decode cX6_isLink 13 = .ok (.invokevirtual 44, 3) := by decide +kernel
theorem dX6_isLink_16 : decode cX6_isLink 16 = .ok (.iconst 1, 1) := by decide +kernel
theorem dX6_isLink_17 : decode cX6_isLink 17 = .ok (.iand, 1) := by decide +kernel
theorem dX6_isLink_18 : decode cX6_isLink 18 = .ok (.ifCond .eq 34, 3) := by decide +kernel
theorem dX6_isLink_21 : decode cX6_isLink 21 = .ok (.aload_n 0, 1) := by decide +kernel
theorem dX6_isLink_22 : decode cX6_isLink 22 = .ok (.aload_n 0, 1) := by decide +kernel
theorem dX6_isLink_23 : decode cX6_isLink 23 = .ok (.iload_n 1, 1) := by decide +kernel
theorem dX6_isLink_24 : decode cX6_isLink 24 = .ok (.iconst 1, 1) := by decide +kernel
theorem dX6_isLink_25 : decode cX6_isLink 25 = .ok (.invokevirtual 44, 3) := by decide +kernel
