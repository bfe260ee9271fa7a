theorem dX6_numberOf_49 : decode cX6_numberOf 49 = .ok (.getfield 7, 3) := by decide +kernel
theorem dX6_numberOf_52 : decode cX6_numberOf 52 = .ok (.iconst 4, 1) := by decide +kernel
theorem dX6_numberOf_53 : decode cX6_numberOf 53 = .ok (.iaload, 1) := by decide +kernel
theorem dX6_numberOf_54 : decode cX6_numberOf 54 = .ok (.ireturn, 1) := by decide +kernel
theorem dX6_numberOf_55 : decode cX6_numberOf 55 = .ok (.aload_n 0, 1) := by decide +kernel
theorem dX6_numberOf_56 : decode cX6_numberOf 56 = .ok (.getfield 7, 3) := by decide +kernel
theorem dX6_numberOf_59 : decode cX6_numberOf 59 = .ok (.iconst 5, 1) := by decide +kernel
theorem dX6_numberOf_60 : decode cX6_numberOf 60 = .ok (.iaload, 1) := by decide +kernel
theorem dX6_numberOf_61 : decode cX6_numberOf 61 = .ok (.ireturn, 1) := by decide +kernel
theorem dX6_numberOf_62 : decode cX6_numberOf 62 = .ok (.aload_n 0, 1) := by decide +kernel
theorem dX6_numberOf_63 : decode cX6_numberOf 63 = .ok (.getfield 7, 3) := by decide +kernel
theorem dX6_numberOf_66 : decode cX6_numberOf 66 = .ok (.iconst 1, 1) := by decide +kernel
theorem dX6_numberOf_67 : decode cX6_numberOf 67 = .ok (.iload_n 1, 1) := by decide +kernel
theorem dX6_numberOf_68 : decode cX6_numberOf 68 = .ok (.iadd, 1) := by decide +kernel
theorem dX6_numberOf_69 : decode cX6_numberOf 69 = .ok (.iconst 2, 1) := by decide +kernel
theorem dX6_numberOf_70 : decode cX6_numberOf 70 = .ok (.isub, 1) := by decide +kernel
theorem dX6_numberOf_71 : decode cX6_numberOf 71 = .ok (.iaload, 1) := by decide +kernel
theorem dX6_numberOf_72 : decode cX6_numberOf 72 = .ok (.ireturn, 1) := by decide +kernel
theorem dX6_numberOf_73 : decode cX6_numberOf 73 = .ok (.aload_n 0, 1) := by decide +kernel
theorem dX6_numberOf_74 : decode cX6_numberOf 74 = .ok (.getfield 7, 3) := by decide +kernel
theorem dX6_numberOf_77 : decode cX6_numberOf 77 = .ok (.iconst 0, 1) := by decide +kernel
theorem dX6_numberOf_78 : decode cX6_numberOf 78 = .ok (.iaload, 1) := by decide +kernel
theorem dX6_numberOf_79 : decode cX6_numberOf 79 = .ok (.ireturn, 1) := by decide +kernel
theorem dX6_numberOf_80 : decode cX6_numberOf 80 = .ok (.aload_n 0, 1) := by decide +kernel
theorem dX6_numberOf_81 : decode cX6_numberOf 81 = .ok (.invokevirtual 112, 3) := by decide +kernel
theorem dX6_numberOf_84 : decode cX6_numberOf 84 = .ok (.ireturn, 1) := by decide +kernel
theorem dX6_numberOf_85 : decode cX6_numberOf 85 = .ok (.aload_n 0, 1) := by decide +kernel
theorem dX6_numberOf_86 : decode cX6_numberOf 86 = .ok (.invokevirtual 67, 3) := by decide +kernel
theorem dX6_numberOf_89 : decode cX6_numberOf 89 = .ok (.aload_n 0, 1) := by decide +kernel
theorem dX6_numberOf_90 : decode cX6_numberOf 90 = .ok (.invokevirtual 174, 3) := by decide +kernel
theorem dX6_numberOf_93 : decode cX6_numberOf 93 = .ok (.ireturn, 1) := by decide +kernel
theorem dX6_numberOf_94 : decode cX6_numberOf 94 = .ok (.aload_n 0, 1) := by decide +kernel
theorem dX6_numberOf_95 : decode cX6_numberOf 95 = .ok (.getfield 7, 3) := by decide +kernel
theorem dX6_numberOf_98 : decode cX6_numberOf 98 = .ok (.bipush 6, 2) := by decide +kernel
theorem dX6_numberOf_100 : decode cX6_numberOf 100 = .ok (.iaload, 1) := by decide +kernel
theorem dX6_numberOf_101 : decode cX6_numberOf 101 = .ok (.ireturn, 1) := by decide +kernel
set_option maxRecDepth 20000 in
theorem ggX6_value_X6_in : GoodIn wsX6_value wsX6_in := goodIn_r _ [5] (by decide +kernel) (by decide +kernel)
set_option maxRecDepth 20000 in
theorem gX6_value_X6_in : GoodIn wsX6_value (va_wsS RX6 40 yX6_in wsX6_in) := goodIn_app (goodIn_of _ (by decide +kernel)) ggX6_value_X6_in
set_option maxRecDepth 20000 in
theorem ggX6_value_X6_goes : GoodIn wsX6_value wsX6_goes := goodIn_r _ [9, 10, 56, 57, 58, 59, 60, 61, 62, 63, 64, 65, 66, 67, 68] (by decide +kernel) (by decide +kernel)
set_option maxRecDepth 20000 in
theorem gX6_value_X6_goes : GoodIn wsX6_value (wsV RX6 82 RX6 yX6_goes wsX6_goes) := goodIn_app (goodIn_of _ (by decide +kernel)) ggX6_value_X6_goes
set_option maxRecDepth 20000 in
theorem ggX6_value_X6_numberOf : GoodIn wsX6_value wsX6_numberOf := goodIn_r _ [14, 15, 16, 17, 18, 4, 19, 20, 21, 22, 23, 24, 25, 26, 27, 28, 29, 30, 31, 32, 33, 34, 35, 36, 37, 38, 39, 40, 41, 42, 43, 44, 45, 46, 47, 48, 49, 50, 51, 52, 53, 54, 55, 56, 57, 58, 59, 60, 61, 62, 63, 64, 65, 66, 67, 68] (by decide +kernel) (by decide +kernel)
set_option maxRecDepth 20000 in
theorem gX6_value_X6_numberOf : GoodIn wsX6_value (wsV RX6 179 RX6 yX6_numberOf wsX6_numberOf) := goodIn_app (goodIn_of _ (by decide +kernel)) ggX6_value_X6_numberOf
theorem dX6_value_0 : decode cX6_value 0 = .ok (.aload_n 0, 1) := by decide +kernel
theorem dX6_value_1 : decode cX6_value 1 = .ok (.iload_n 1, 1) := by decide +kernel
theorem dX6_value_2 : decode cX6_value 2 = .ok (.i2l, 1) := by decide +kernel
theorem dX6_value_3 : decode cX6_value 3 = .ok (.lconst 0, 1) := by decide +kernel
theorem dX6_value_4 : decode cX6_value 4 = .ok (.ldc2_w 177, 3) := by decide +kernel
theorem dX6_value_7 : decode cX6_value 7 = .ok (.invokestatic 40, 3) := by decide +kernel
theorem dX6_value_10 : decode cX6_value 10 = .ok (.iconst 1, 1) := by decide +kernel
theorem dX6_value_11 : decode cX6_value 11 = .ok (.iconst 1, 1) := by decide +kernel
theorem dX6_value_12 : decode cX6_value 12 = .ok (.invokevirtual 82, 3) := by decide +kernel
theorem dX6_value_15 : decode cX6_value 15 = .ok (.ifCond .eq 11, 3) := by decide +kernel
theorem dX6_value_18 : decode cX6_value 18 = .ok (.aload_n 0, 1) := by decide +kernel
theorem dX6_value_19 : decode cX6_value 19 = .ok (.iload_n 1, 1) := by decide +kernel
theorem dX6_value_20 : decode cX6_value 20 = .ok (.invokevirtual 179, 3) := by decide +kernel
theorem dX6_value_23 : decode cX6_value 23 = .ok (.goto 4, 3) := by decide +kernel
theorem dX6_value_26 : decode cX6_value 26 = .ok (.iconst 0, 1) := by decide +kernel
theorem dX6_value_27 : decode cX6_value 27 = .ok (.ireturn, 1) := by decide +kernel
set_option maxRecDepth 20000 in
theorem ggX6_entry_X6_in : GoodIn wsX6_entry wsX6_in := goodIn_r _ [6] (by decide +kernel) (by decide +kernel)
set_option maxRecDepth 20000 in
theorem gX6_entry_X6_in : GoodIn wsX6_entry (va_wsS RX6 40 yX6_in wsX6_in) := goodIn_app (goodIn_of _ (by decide +kernel)) ggX6_entry_X6_in
set_option maxRecDepth 20000 in
theorem ggX6_entry_X6_goes : GoodIn wsX6_entry wsX6_goes := goodIn_r _ [10, 11, 12, 13, 14, 15, 16, 17, 18, 19, 20, 21, 22, 23, 24] (by decide +kernel) (by decide +kernel)
set_option maxRecDepth 20000 in
theorem gX6_entry_X6_goes : GoodIn wsX6_entry (wsV RX6 82 RX6 yX6_goes wsX6_goes) := goodIn_app (goodIn_of _ (by decide +kernel)) ggX6_entry_X6_goes
theorem dX6_entry_0 : decode cX6_entry 0 = .ok (.aload_n 0, 1) := by decide +kernel
theorem dX6_entry_1 : decode cX6_entry 1 = .ok (.iload_n 1, 1) := by decide +kernel
theorem dX6_entry_2 : decode cX6_entry 2 = .ok (.i2l, 1) := by decide +kernel
theorem dX6_entry_3 : decode cX6_entry 3 = .ok (.lconst 0, 1) := by decide +kernel
theorem dX6_entry_4 : decode cX6_entry 4 = .ok (.aload_n 0, 1) := by decide +kernel
theorem dX6_entry_5 : decode cX6_entry 5 = .ok (.getfield 7, 3) := by decide +kernel
theorem dX6_entry_8 : decode cX6_entry 8 = .ok (.bipush 6, 2) := by decide +kernel
theorem dX6_entry_10 : decode cX6_entry 10 = .ok (.iaload, 1) := by decide +kernel
theorem dX6_entry_11 : decode cX6_entry 11 = .ok (.i2l, 1) := by decide +kernel
theorem dX6_entry_12 : decode cX6_entry 12 = .ok (.lconst 1, 1) := by decide +kernel
theorem dX6_entry_13 : decode cX6_entry 13 = .ok (.lsub, 1) := by decide +kernel
theorem dX6_entry_14 : decode cX6_entry 14 = .ok (.invokestatic 40, 3) := by decide +kernel
theorem dX6_entry_17 : decode cX6_entry 17 = .ok (.iload_n 2, 1) := by decide +kernel
theorem dX6_entry_18 : decode cX6_entry 18 = .ok (.i2l, 1) := by decide +kernel
theorem dX6_entry_19 : decode cX6_entry 19 = .ok (.lconst 0, 1) := by decide +kernel
theorem dX6_entry_20 : decode cX6_entry 20 = .ok (.ldc2_w 182, 3) := by decide +kernel
theorem dX6_entry_23 : decode cX6_entry 23 = .ok (.invokestatic 40, 3) := by decide +kernel
theorem dX6_entry_26 : decode cX6_entry 26 = .ok (.iconst 1, 1) := by decide +kernel
theorem dX6_entry_27 : decode cX6_entry 27 = .ok (.invokevirtual 82, 3) := by decide +kernel
theorem dX6_entry_30 : decode cX6_entry 30 = .ok (.ifCond .eq 20, 3) := by decide +kernel
theorem dX6_entry_33 : decode cX6_entry 33 = .ok (.aload_n 0, 1) := by decide +kernel
theorem dX6_entry_34 : decode cX6_entry 34 = .ok (.getfield 7, 3) := by decide +kernel
theorem dX6_entry_37 : decode cX6_entry 37 = .ok (.sipush 284, 3) := by decide +kernel
theorem dX6_entry_40 : decode cX6_entry 40 = .ok (.iconst 3, 1) := by decide +kernel
theorem dX6_entry_41 : decode cX6_entry 41 = .ok (.iload_n 1, 1) := by decide +kernel
theorem dX6_entry_42 : decode cX6_entry 42 = .ok (.imul, 1) := by decide +kernel
theorem dX6_entry_43 : decode cX6_entry 43 = .ok (.iadd, 1) := by decide +kernel
theorem dX6_entry_44 : decode cX6_entry 44 = .ok (.iload_n 2, 1) := by decide +kernel
theorem dX6_entry_45 : decode cX6_entry 45 = .ok (.iadd, 1) := by decide +kernel
theorem dX6_entry_46 : decode cX6_entry 46 = .ok (.iaload, 1) := by decide +kernel
theorem dX6_entry_47 : decode cX6_entry 47 = .ok (.goto 4, 3) := by decide +kernel
theorem dX6_entry_50 : decode cX6_entry 50 = .ok (.iconst 0, 1) := by decide +kernel
theorem dX6_entry_51 : decode cX6_entry 51 = .ok (.ireturn, 1) := by decide +kernel
set_option maxRecDepth 20000 in
theorem ggX6_lost_X6_pairs : GoodIn wsX6_lost wsX6_pairs := goodIn_r _ [6, 1, 7, 8, 9, 5, 10, 11, 12, 13, 14, 15, 16, 17, 18, 19, 20, 21, 22, 23, 24, 25, 26, 27, 28, 29, 30, 31, 32, 33, 34, 35, 36, 37, 38, 60, 61, 62, 63, 64, 65, 66, 67, 68, 69, 70, 71, 72] (by decide +kernel) (by decide +kernel)
set_option maxRecDepth 20000 in
theorem gX6_lost_X6_pairs : GoodIn wsX6_lost (wsV RX6 112 RX6 yX6_pairs wsX6_pairs) := goodIn_app (goodIn_of _ (by decide +kernel)) ggX6_lost_X6_pairs
set_option maxRecDepth 20000 in
theorem ggX6_lost_X6_layAside : GoodIn wsX6_lost wsX6_layAside := goodIn_r _ [42, 43, 1, 60, 61, 62, 63, 64, 65, 66, 67, 68, 69, 70, 71, 72] (by decide +kernel) (by decide +kernel)
set_option maxRecDepth 20000 in
theorem gX6_lost_X6_layAside : GoodIn wsX6_lost (wsV RX6 184 RX6 yX6_layAside wsX6_layAside) := goodIn_app (goodIn_of _ (by decide +kernel)) ggX6_lost_X6_layAside
set_option maxRecDepth 20000 in
theorem ggX6_lost_X6_die : GoodIn wsX6_lost wsX6_die := goodIn_r _ [47, 1, 16, 17, 18, 5, 19, 48, 49, 50, 51, 52, 53, 54, 55, 60, 61, 62, 63, 64, 65, 66, 67, 68, 69, 70, 71, 72] (by decide +kernel) (by decide +kernel)
set_option maxRecDepth 20000 in
theorem gX6_lost_X6_die : GoodIn wsX6_lost (wsV RX6 122 RX6 yX6_die wsX6_die) := goodIn_app (goodIn_of _ (by decide +kernel)) ggX6_lost_X6_die
set_option maxRecDepth 20000 in
theorem ggX6_lost_X6_takeBack : GoodIn wsX6_lost wsX6_takeBack := goodIn_r _ [59, 1, 43, 60, 61, 62, 63, 64, 65, 66, 67, 68, 69, 70, 71, 72] (by decide +kernel) (by decide +kernel)
set_option maxRecDepth 20000 in
theorem gX6_lost_X6_takeBack : GoodIn wsX6_lost (wsV RX6 187 RX6 yX6_takeBack wsX6_takeBack) := goodIn_app (goodIn_of _ (by decide +kernel)) ggX6_lost_X6_takeBack
theorem dX6_lost_0 : decode cX6_lost 0 = .ok (.aload_n 0, 1) := by decide +kernel
theorem dX6_lost_1 : decode cX6_lost 1 = .ok (.invokevirtual 112, 3) := by decide +kernel
theorem dX6_lost_4 : decode cX6_lost 4 = .ok (.istore_n 2, 1) := by decide +kernel
theorem dX6_lost_5 : decode cX6_lost 5 = .ok (.aload_n 0, 1) := by decide +kernel
theorem dX6_lost_6 : decode cX6_lost 6 = .ok (.invokevirtual 184, 3) := by decide +kernel
theorem dX6_lost_9 : decode cX6_lost 9 = .ok (.aload_n 0, 1) := by decide +kernel
theorem dX6_lost_10 : decode cX6_lost 10 = .ok (.getfield 7, 3) := by decide +kernel
theorem dX6_lost_13 : decode cX6_lost 13 = .ok (.bipush 8, 2) := by decide +kernel
theorem dX6_lost_15 : decode cX6_lost 15 = .ok (.iload_n 1, 1) := by decide +kernel
theorem dX6_lost_16 : decode cX6_lost 16 = .ok (.iadd, 1) := by decide +kernel
theorem dX6_lost_17 : decode cX6_lost 17 = .ok (.iconst 0, 1) := by decide +kernel
theorem dX6_lost_18 : decode cX6_lost 18 = .ok (.iastore, 1) := by decide +kernel
theorem dX6_lost_19 : decode cX6_lost 19 = .ok (.aload_n 0, 1) := by decide +kernel
theorem dX6_lost_20 : decode cX6_lost 20 = .ok (.invokevirtual 122, 3) := by decide +kernel
theorem dX6_lost_23 : decode cX6_lost 23 = .ok (.istore_n 3, 1) := by decide +kernel
theorem dX6_lost_24 : decode cX6_lost 24 = .ok (.iload_n 2, 1) := by decide +kernel
theorem dX6_lost_25 : decode cX6_lost 25 = .ok (.aload_n 0, 1) := by decide +kernel
theorem dX6_lost_26 : decode cX6_lost 26 = .ok (.invokevirtual 112, 3) := by decide +kernel
theorem dX6_lost_29 : decode cX6_lost 29 = .ok (.isub, 1) := by decide +kernel
theorem dX6_lost_30 : decode cX6_lost 30 = .ok (.istore 4, 2) := by decide +kernel
theorem dX6_lost_32 : decode cX6_lost 32 = .ok (.aload_n 0, 1) := by decide +kernel
theorem dX6_lost_33 : decode cX6_lost 33 = .ok (.invokevirtual 187, 3) := by decide +kernel
theorem dX6_lost_36 : decode cX6_lost 36 = .ok (.iload 4, 2) := by decide +kernel
theorem dX6_lost_38 : decode cX6_lost 38 = .ok (.ireturn, 1) := by decide +kernel
set_option maxRecDepth 20000 in
theorem ggX6_lostBy_X6_isPerson : GoodIn wsX6_lostBy wsX6_isPerson := goodIn_r _ [4, 5, 6, 7, 3, 8] (by decide +kernel) (by decide +kernel)
set_option maxRecDepth 20000 in
theorem gX6_lostBy_X6_isPerson : GoodIn wsX6_lostBy (va_wsS RX6 76 yX6_isPerson wsX6_isPerson) := goodIn_app (goodIn_of _ (by decide +kernel)) ggX6_lostBy_X6_isPerson
set_option maxRecDepth 20000 in
theorem ggX6_lostBy_X6_goes : GoodIn wsX6_lostBy wsX6_goes := goodIn_r _ [12, 13, 76, 77, 78, 79, 80, 81, 82, 83, 84, 85, 86, 87, 88] (by decide +kernel) (by decide +kernel)
set_option maxRecDepth 20000 in
theorem gX6_lostBy_X6_goes : GoodIn wsX6_lostBy (wsV RX6 82 RX6 yX6_goes wsX6_goes) := goodIn_app (goodIn_of _ (by decide +kernel)) ggX6_lostBy_X6_goes
set_option maxRecDepth 20000 in
theorem ggX6_lostBy_X6_lost : GoodIn wsX6_lostBy wsX6_lost := goodIn_r _ [17, 18, 19, 20, 21, 3, 22, 23, 24, 25, 26, 27, 28, 29, 30, 31, 32, 33, 34, 35, 36, 37, 38, 39, 40, 41, 42, 43, 44, 45, 46, 47, 48, 49, 50, 51, 52, 53, 54, 55, 56, 57, 58, 59, 60, 61, 62, 63, 64, 65, 66, 67, 68, 69, 70, 71, 72, 73, 74, 75, 76, 77, 78, 79, 80, 81, 82, 83, 84, 85, 86, 87, 88] (by decide +kernel) (by decide +kernel)
set_option maxRecDepth 20000 in
theorem gX6_lostBy_X6_lost : GoodIn wsX6_lostBy (wsV RX6 190 RX6 yX6_lost wsX6_lost) := goodIn_app (goodIn_of _ (by decide +kernel)) ggX6_lostBy_X6_lost
theorem dX6_lostBy_0 : decode cX6_lostBy 0 = .ok (.aload_n 0, 1) := by decide +kernel
theorem dX6_lostBy_1 : decode cX6_lostBy 1 = .ok (.iload_n 1, 1) := by decide +kernel
theorem dX6_lostBy_2 : decode cX6_lostBy 2 = .ok (.invokestatic 76, 3) := by decide +kernel
theorem dX6_lostBy_5 : decode cX6_lostBy 5 = .ok (.iconst 1, 1) := by decide +kernel
theorem dX6_lostBy_6 : decode cX6_lostBy 6 = .ok (.iconst 1, 1) := by decide +kernel
theorem dX6_lostBy_7 : decode cX6_lostBy 7 = .ok (.invokevirtual 82, 3) := by decide +kernel
theorem dX6_lostBy_10 : decode cX6_lostBy 10 = .ok (.ifCond .eq 11, 3) := by decide +kernel
theorem dX6_lostBy_13 : decode cX6_lostBy 13 = .ok (.aload_n 0, 1) := by decide +kernel
theorem dX6_lostBy_14 : decode cX6_lostBy 14 = .ok (.iload_n 1, 1) := by decide +kernel
theorem dX6_lostBy_15 : decode cX6_lostBy 15 = .ok (.invokevirtual 190, 3) := by decide +kernel
theorem dX6_lostBy_18 : decode cX6_lostBy 18 = .ok (.goto 4, 3) := by decide +kernel
theorem dX6_lostBy_21 : decode cX6_lostBy 21 = .ok (.iconst 0, 1) := by decide +kernel
theorem dX6_lostBy_22 : decode cX6_lostBy 22 = .ok (.ireturn, 1) := by decide +kernel
set_option maxRecDepth 20000 in
theorem ggX6_mostNeeded_X6_lost : GoodIn wsX6_mostNeeded wsX6_lost := goodIn_r _ [6, 7, 8, 9, 10, 5, 11, 12, 13, 14, 15, 16, 17, 18, 19, 20, 21, 22, 23, 24, 25, 26, 27, 28, 29, 30, 31, 32, 33, 34, 35, 36, 37, 38, 39, 40, 41, 42, 43, 44, 45, 46, 47, 48, 49, 50, 51, 52, 53, 54, 55, 56, 57, 58, 59, 60, 61, 62, 63, 64, 65, 66, 67, 68, 69, 70, 71, 72, 73, 74, 75, 76, 77] (by decide +kernel) (by decide +kernel)
set_option maxRecDepth 20000 in
theorem gX6_mostNeeded_X6_lost : GoodIn wsX6_mostNeeded (wsV RX6 190 RX6 yX6_lost wsX6_lost) := goodIn_app (goodIn_of _ (by decide +kernel)) ggX6_mostNeeded_X6_lost
theorem dX6_mostNeeded_0 : decode cX6_mostNeeded 0 = .ok (.aload_n 0, 1) := by decide +kernel
theorem dX6_mostNeeded_1 : decode cX6_mostNeeded 1 = .ok (.iconst 0, 1) := by decide +kernel
theorem dX6_mostNeeded_2 : decode cX6_mostNeeded 2 = .ok (.putfield 31, 3) := by decide +kernel
theorem dX6_mostNeeded_5 : decode cX6_mostNeeded 5 = .ok (.iconst (-1), 1) := by decide +kernel
theorem dX6_mostNeeded_6 : decode cX6_mostNeeded 6 = .ok (.istore_n 1, 1) := by decide +kernel
theorem dX6_mostNeeded_7 : decode cX6_mostNeeded 7 = .ok (.iconst 0, 1) := by decide +kernel
theorem dX6_mostNeeded_8 : decode cX6_mostNeeded 8 = .ok (.istore_n 2, 1) := by decide +kernel
theorem dX6_mostNeeded_9 : decode cX6_mostNeeded 9 = .ok (.iconst 0, 1) := by decide +kernel
theorem dX6_mostNeeded_10 : decode cX6_mostNeeded 10 = .ok (.istore_n 3, 1) := by decide +kernel
theorem dX6_mostNeeded_11 : decode cX6_mostNeeded 11 = .ok (.iload_n 3, 1) := by decide +kernel
theorem dX6_mostNeeded_12 : decode cX6_mostNeeded 12 = .ok (.bipush 10, 2) := by decide +kernel
theorem dX6_mostNeeded_14 : decode cX6_mostNeeded 14 = .ok (.if_icmp .ge 41, 3) := by decide +kernel
theorem dX6_mostNeeded_17 : decode cX6_mostNeeded 17 = .ok (.aload_n 0, 1) := by decide +kernel
theorem dX6_mostNeeded_18 : decode cX6_mostNeeded 18 = .ok (.iload_n 3, 1) := by decide +kernel
theorem dX6_mostNeeded_19 : decode cX6_mostNeeded 19 = .ok (.invokevirtual 190, 3) := by decide +kernel
theorem dX6_mostNeeded_22 : decode cX6_mostNeeded 22 = .ok (.istore 4, 2) := by decide +kernel
theorem dX6_mostNeeded_24 : decode cX6_mostNeeded 24 = .ok (.iload 4, 2) := by decide +kernel
theorem dX6_mostNeeded_26 : decode cX6_mostNeeded 26 = .ok (.iload_n 2, 1) := by decide +kernel
theorem dX6_mostNeeded_27 : decode cX6_mostNeeded 27 = .ok (.if_icmp .le 7, 3) := by decide +kernel
theorem dX6_mostNeeded_30 : decode cX6_mostNeeded 30 = .ok (.iload_n 3, 1) := by decide +kernel
theorem dX6_mostNeeded_31 : decode cX6_mostNeeded 31 = .ok (.goto 4, 3) := by decide +kernel
theorem dX6_mostNeeded_34 : decode cX6_mostNeeded 34 = .ok (.iload_n 1, 1) := by decide +kernel
theorem dX6_mostNeeded_35 : decode cX6_mostNeeded 35 = .ok (.istore_n 1, 1) := by decide +kernel
theorem dX6_mostNeeded_36 : decode cX6_mostNeeded 36 = .ok (.iload 4, 2) := by decide +kernel
theorem dX6_mostNeeded_38 : decode cX6_mostNeeded 38 = .ok (.iload_n 2, 1) := by decide +kernel
theorem dX6_mostNeeded_39 : decode cX6_mostNeeded 39 = .ok (.if_icmp .le 8, 3) := by decide +kernel
theorem dX6_mostNeeded_42 : decode cX6_mostNeeded 42 = .ok (.iload 4, 2) := by decide +kernel
theorem dX6_mostNeeded_44 : decode cX6_mostNeeded 44 = .ok (.goto 4, 3) := by decide +kernel
theorem dX6_mostNeeded_47 : decode cX6_mostNeeded 47 = .ok (.iload_n 2, 1) := by decide +kernel
theorem dX6_mostNeeded_48 : decode cX6_mostNeeded 48 = .ok (.istore_n 2, 1) := by decide +kernel
theorem dX6_mostNeeded_49 : decode cX6_mostNeeded 49 = .ok (.iinc 3 1, 3) := by decide +kernel
theorem dX6_mostNeeded_52 : decode cX6_mostNeeded 52 = .ok (.goto (-41), 3) := by decide +kernel
theorem dX6_mostNeeded_55 : decode cX6_mostNeeded 55 = .ok (.iload_n 1, 1) := by decide +kernel
theorem dX6_mostNeeded_56 : decode cX6_mostNeeded 56 = .ok (.ireturn, 1) := by decide +kernel
set_option maxRecDepth 20000 in
theorem ggX6_seenIn_X6_in : GoodIn wsX6_seenIn wsX6_in := goodIn_r _ [5] (by decide +kernel) (by decide +kernel)
set_option maxRecDepth 20000 in
theorem gX6_seenIn_X6_in : GoodIn wsX6_seenIn (va_wsS RX6 40 yX6_in wsX6_in) := goodIn_app (goodIn_of _ (by decide +kernel)) ggX6_seenIn_X6_in
set_option maxRecDepth 20000 in
theorem ggX6_seenIn_X6_goes : GoodIn wsX6_seenIn wsX6_goes := goodIn_r _ [9, 10, 77, 78, 79, 80, 81, 82, 83, 84, 85, 86, 87, 88, 89] (by decide +kernel) (by decide +kernel)
set_option maxRecDepth 20000 in
theorem gX6_seenIn_X6_goes : GoodIn wsX6_seenIn (wsV RX6 82 RX6 yX6_goes wsX6_goes) := goodIn_app (goodIn_of _ (by decide +kernel)) ggX6_seenIn_X6_goes
set_option maxRecDepth 20000 in
theorem ggX6_seenIn_X6_layAside : GoodIn wsX6_seenIn wsX6_layAside := goodIn_r _ [14, 15, 16, 77, 78, 79, 80, 81, 82, 83, 84, 85, 86, 87, 88, 89] (by decide +kernel) (by decide +kernel)
set_option maxRecDepth 20000 in
theorem gX6_seenIn_X6_layAside : GoodIn wsX6_seenIn (wsV RX6 184 RX6 yX6_layAside wsX6_layAside) := goodIn_app (goodIn_of _ (by decide +kernel)) ggX6_seenIn_X6_layAside
set_option maxRecDepth 20000 in
theorem ggX6_seenIn_X6_ticks : GoodIn wsX6_seenIn wsX6_ticks := goodIn_r _ [20, 21, 22, 23, 4, 24, 16, 25, 26, 27, 28, 29, 30, 31, 32, 33, 34, 35, 36, 37, 38, 39, 40, 77, 78, 79, 80, 81, 82, 83, 84, 85, 86, 87, 88, 89] (by decide +kernel) (by decide +kernel)
set_option maxRecDepth 20000 in
theorem gX6_seenIn_X6_ticks : GoodIn wsX6_seenIn (wsV RX6 138 RX6 yX6_ticks wsX6_ticks) := goodIn_app (goodIn_of _ (by decide +kernel)) ggX6_seenIn_X6_ticks
set_option maxRecDepth 20000 in
theorem ggX6_seenIn_X6_pairs : GoodIn wsX6_seenIn wsX6_pairs := goodIn_r _ [44, 16, 45, 46, 47, 4, 48, 49, 50, 51, 52, 53, 29, 30, 31, 32, 54, 55, 56, 57, 58, 59, 60, 61, 62, 63, 64, 65, 66, 67, 68, 69, 70, 71, 72, 77, 78, 79, 80, 81, 82, 83, 84, 85, 86, 87, 88, 89] (by decide +kernel) (by decide +kernel)
set_option maxRecDepth 20000 in
theorem gX6_seenIn_X6_pairs : GoodIn wsX6_seenIn (wsV RX6 112 RX6 yX6_pairs wsX6_pairs) := goodIn_app (goodIn_of _ (by decide +kernel)) ggX6_seenIn_X6_pairs
set_option maxRecDepth 20000 in
theorem ggX6_seenIn_X6_takeBack : GoodIn wsX6_seenIn wsX6_takeBack := goodIn_r _ [76, 16, 15, 77, 78, 79, 80, 81, 82, 83, 84, 85, 86, 87, 88, 89] (by decide +kernel) (by decide +kernel)
set_option maxRecDepth 20000 in
theorem gX6_seenIn_X6_takeBack : GoodIn wsX6_seenIn (wsV RX6 187 RX6 yX6_takeBack wsX6_takeBack) := goodIn_app (goodIn_of _ (by decide +kernel)) ggX6_seenIn_X6_takeBack
theorem dX6_seenIn_0 : decode cX6_seenIn 0 = .ok (.aload_n 0, 1) := by decide +kernel
theorem dX6_seenIn_1 : decode cX6_seenIn 1 = .ok (.iload_n 1, 1) := by decide +kernel
theorem dX6_seenIn_2 : decode cX6_seenIn 2 = .ok (.i2l, 1) := by decide +kernel
theorem dX6_seenIn_3 : decode cX6_seenIn 3 = .ok (.lconst 0, 1) := by decide +kernel
theorem dX6_seenIn_4 : decode cX6_seenIn 4 = .ok (.ldc2_w 95, 3) := by decide +kernel
theorem dX6_seenIn_7 : decode cX6_seenIn 7 = .ok (.invokestatic 40, 3) := by decide +kernel
theorem dX6_seenIn_10 : decode cX6_seenIn 10 = .ok (.iconst 1, 1) := by decide +kernel
theorem dX6_seenIn_11 : decode cX6_seenIn 11 = .ok (.iconst 1, 1) := by decide +kernel
theorem dX6_seenIn_12 : decode cX6_seenIn 12 = .ok (.invokevirtual 82, 3) := by decide +kernel
theorem dX6_seenIn_15 : decode cX6_seenIn 15 = .ok (.ifCond .ne 5, 3) := by decide +kernel
theorem dX6_seenIn_18 : decode cX6_seenIn 18 = .ok (.iconst 0, 1) := by decide +kernel
theorem dX6_seenIn_19 : decode cX6_seenIn 19 = .ok (.ireturn, 1) := by decide +kernel
theorem dX6_seenIn_20 : decode cX6_seenIn 20 = .ok (.aload_n 0, 1) := by decide +kernel
theorem dX6_seenIn_21 : decode cX6_seenIn 21 = .ok (.invokevirtual 184, 3) := by decide +kernel
theorem dX6_seenIn_24 : decode cX6_seenIn 24 = .ok (.aload_n 0, 1) := by decide +kernel
theorem dX6_seenIn_25 : decode cX6_seenIn 25 = .ok (.iload_n 1, 1) := by decide +kernel
theorem dX6_seenIn_26 : decode cX6_seenIn 26 = .ok (.invokevirtual 138, 3) := by decide +kernel
theorem dX6_seenIn_29 : decode cX6_seenIn 29 = .ok (.istore_n 2, 1) := by decide +kernel
theorem dX6_seenIn_30 : decode cX6_seenIn 30 = .ok (.aload_n 0, 1) := by decide +kernel
theorem dX6_seenIn_31 : decode cX6_seenIn 31 = .ok (.invokevirtual 112, 3) := by decide +kernel
theorem dX6_seenIn_34 : decode cX6_seenIn 34 = .ok (.istore_n 3, 1) := by decide +kernel
theorem dX6_seenIn_35 : decode cX6_seenIn 35 = .ok (.aload_n 0, 1) := by decide +kernel
theorem dX6_seenIn_36 : decode cX6_seenIn 36 = .ok (.invokevirtual 187, 3) := by decide +kernel
theorem dX6_seenIn_39 : decode cX6_seenIn 39 = .ok (.iload_n 3, 1) := by decide +kernel
theorem dX6_seenIn_40 : decode cX6_seenIn 40 = .ok (.ireturn, 1) := by decide +kernel
set_option maxRecDepth 20000 in
theorem ggX6_gainBy_X6_arePersons : GoodIn wsX6_gainBy wsX6_arePersons := goodIn_r _ [5, 6, 7, 4, 8, 9, 10, 11, 12, 13, 14, 15, 16, 17, 81, 82, 83, 84, 85, 86, 87, 88, 89, 90, 91, 92, 93] (by decide +kernel) (by decide +kernel)
set_option maxRecDepth 20000 in
theorem gX6_gainBy_X6_arePersons : GoodIn wsX6_gainBy (wsV RX6 97 RX6 yX6_arePersons wsX6_arePersons) := goodIn_app (goodIn_of _ (by decide +kernel)) ggX6_gainBy_X6_arePersons
set_option maxRecDepth 20000 in
theorem ggX6_gainBy_X6_isGrant : GoodIn wsX6_gainBy wsX6_isGrant := goodIn_r _ [20, 21, 22, 10, 11, 4, 12] (by decide +kernel) (by decide +kernel)
set_option maxRecDepth 20000 in
theorem gX6_gainBy_X6_isGrant : GoodIn wsX6_gainBy (va_wsS RX6 101 yX6_isGrant wsX6_isGrant) := goodIn_app (goodIn_of _ (by decide +kernel)) ggX6_gainBy_X6_isGrant
set_option maxRecDepth 20000 in
theorem ggX6_gainBy_X6_goes : GoodIn wsX6_gainBy wsX6_goes := goodIn_r _ [26, 27, 81, 82, 83, 84, 85, 86, 87, 88, 89, 90, 91, 92, 93] (by decide +kernel) (by decide +kernel)
set_option maxRecDepth 20000 in
theorem gX6_gainBy_X6_goes : GoodIn wsX6_gainBy (wsV RX6 82 RX6 yX6_goes wsX6_goes) := goodIn_app (goodIn_of _ (by decide +kernel)) ggX6_gainBy_X6_goes
set_option maxRecDepth 20000 in
theorem ggX6_gainBy_X6_mayGrant : GoodIn wsX6_gainBy wsX6_mayGrant := goodIn_r _ [31, 17, 32, 33, 34, 4, 35, 36, 37, 38, 39, 40, 41, 42, 43, 44, 45, 46, 47, 48, 49, 50, 51, 52, 53, 54, 55, 56, 81, 82, 83, 84, 85, 86, 87, 88, 89, 90, 91, 92, 93] (by decide +kernel) (by decide +kernel)
set_option maxRecDepth 20000 in
theorem gX6_gainBy_X6_mayGrant : GoodIn wsX6_gainBy (wsV RX6 105 RX6 yX6_mayGrant wsX6_mayGrant) := goodIn_app (goodIn_of _ (by decide +kernel)) ggX6_gainBy_X6_mayGrant
set_option maxRecDepth 20000 in
theorem ggX6_gainBy_X6_pairs : GoodIn wsX6_gainBy wsX6_pairs := goodIn_r _ [60, 17, 32, 33, 34, 4, 35, 36, 37, 38, 39, 40, 41, 42, 43, 44, 45, 46, 47, 48, 49, 50, 51, 52, 53, 54, 55, 56, 61, 62, 63, 64, 65, 66, 67, 81, 82, 83, 84, 85, 86, 87, 88, 89, 90, 91, 92, 93] (by decide +kernel) (by decide +kernel)
set_option maxRecDepth 20000 in
theorem gX6_gainBy_X6_pairs : GoodIn wsX6_gainBy (wsV RX6 112 RX6 yX6_pairs wsX6_pairs) := goodIn_app (goodIn_of _ (by decide +kernel)) ggX6_gainBy_X6_pairs
set_option maxRecDepth 20000 in
theorem ggX6_gainBy_X6_layAside : GoodIn wsX6_gainBy wsX6_layAside := goodIn_r _ [71, 72, 17, 81, 82, 83, 84, 85, 86, 87, 88, 89, 90, 91, 92, 93] (by decide +kernel) (by decide +kernel)
set_option maxRecDepth 20000 in
theorem gX6_gainBy_X6_layAside : GoodIn wsX6_gainBy (wsV RX6 184 RX6 yX6_layAside wsX6_layAside) := goodIn_app (goodIn_of _ (by decide +kernel)) ggX6_gainBy_X6_layAside
set_option maxRecDepth 20000 in
theorem ggX6_gainBy_X6_lays : GoodIn wsX6_gainBy wsX6_lays := goodIn_r _ [76, 17, 81, 82, 83, 84, 85, 86, 87, 88, 89, 90, 91, 92, 93] (by decide +kernel) (by decide +kernel)
set_option maxRecDepth 20000 in
theorem gX6_gainBy_X6_lays : GoodIn wsX6_gainBy (wsV RX6 108 RX6 yX6_lays wsX6_lays) := goodIn_app (goodIn_of _ (by decide +kernel)) ggX6_gainBy_X6_lays
set_option maxRecDepth 20000 in
theorem ggX6_gainBy_X6_takeBack : GoodIn wsX6_gainBy wsX6_takeBack := goodIn_r _ [80, 17, 72, 81, 82, 83, 84, 85, 86, 87, 88, 89, 90, 91, 92, 93] (by decide +kernel) (by decide +kernel)
set_option maxRecDepth 20000 in
theorem gX6_gainBy_X6_takeBack : GoodIn wsX6_gainBy (wsV RX6 187 RX6 yX6_takeBack wsX6_takeBack) := goodIn_app (goodIn_of _ (by decide +kernel)) ggX6_gainBy_X6_takeBack
theorem dX6_gainBy_0 : decode cX6_gainBy 0 = .ok (.aload_n 0, 1) := by decide +kernel
theorem dX6_gainBy_1 : decode cX6_gainBy 1 = .ok (.aload_n 0, 1) := by decide +kernel
theorem dX6_gainBy_2 : decode cX6_gainBy 2 = .ok (.iload_n 1, 1) := by decide +kernel
theorem dX6_gainBy_3 : decode cX6_gainBy 3 = .ok (.iload_n 2, 1) := by decide +kernel
theorem dX6_gainBy_4 : decode cX6_gainBy 4 = .ok (.iload_n 3, 1) := by decide +kernel
theorem dX6_gainBy_5 : decode cX6_gainBy 5 = .ok (.invokevirtual 97, 3) := by decide +kernel
theorem dX6_gainBy_8 : decode cX6_gainBy 8 = .ok (.iload_n 1, 1) := by decide +kernel
theorem dX6_gainBy_9 : decode cX6_gainBy 9 = .ok (.iload_n 2, 1) := by decide +kernel
theorem dX6_gainBy_10 : decode cX6_gainBy 10 = .ok (.iload 4, 2) := by decide +kernel
theorem dX6_gainBy_12 : decode cX6_gainBy 12 = .ok (.iload 5, 2) := by decide +kernel
theorem dX6_gainBy_14 : decode cX6_gainBy 14 = .ok (.invokestatic 101, 3) := by decide +kernel
theorem dX6_gainBy_17 : decode cX6_gainBy 17 = .ok (.iconst 1, 1) := by decide +kernel
theorem dX6_gainBy_18 : decode cX6_gainBy 18 = .ok (.invokevirtual 82, 3) := by decide +kernel
theorem dX6_gainBy_21 : decode cX6_gainBy 21 = .ok (.ifCond .ne 5, 3) := by decide +kernel
theorem dX6_gainBy_24 : decode cX6_gainBy 24 = .ok (.iconst 0, 1) := by decide +kernel
theorem dX6_gainBy_25 : decode cX6_gainBy 25 = .ok (.ireturn, 1) := by decide +kernel
theorem dX6_gainBy_26 : decode cX6_gainBy 26 = .ok (.aload_n 0, 1) := by decide +kernel
theorem dX6_gainBy_27 : decode cX6_gainBy 27 = .ok (.iload_n 1, 1) := by decide +kernel
theorem dX6_gainBy_28 : decode cX6_gainBy 28 = .ok (.iload_n 3, 1) := by decide +kernel
theorem dX6_gainBy_29 : decode cX6_gainBy 29 = .ok (.iload 4, 2) := by decide +kernel
theorem dX6_gainBy_31 : decode cX6_gainBy 31 = .ok (.iload 5, 2) := by decide +kernel
theorem dX6_gainBy_33 : decode cX6_gainBy 33 = .ok (.invokevirtual 105, 3) := by decide +kernel
theorem dX6_gainBy_36 : decode cX6_gainBy 36 = .ok (.ifCond .ne 5, 3) := by decide +kernel
theorem dX6_gainBy_39 : decode cX6_gainBy 39 = .ok (.iconst (-1), 1) := by decide +kernel
theorem dX6_gainBy_40 : decode cX6_gainBy 40 = .ok (.ireturn, 1) := by decide +kernel
theorem dX6_gainBy_41 : decode cX6_gainBy 41 = .ok (.aload_n 0, 1) := by decide +kernel
theorem dX6_gainBy_42 : decode cX6_gainBy 42 = .ok (.invokevirtual 112, 3) := by decide +kernel
theorem dX6_gainBy_45 : decode cX6_gainBy 45 = .ok (.istore 6, 2) := by decide +kernel
theorem dX6_gainBy_47 : decode cX6_gainBy 47 = .ok (.aload_n 0, 1) := by decide +kernel
theorem dX6_gainBy_48 : decode cX6_gainBy 48 = .ok (.invokevirtual 184, 3) := by decide +kernel
theorem dX6_gainBy_51 : decode cX6_gainBy 51 = .ok (.aload_n 0, 1) := by decide +kernel
theorem dX6_gainBy_52 : decode cX6_gainBy 52 = .ok (.iload_n 1, 1) := by decide +kernel
theorem dX6_gainBy_53 : decode cX6_gainBy 53 = .ok (.iload_n 2, 1) := by decide +kernel
theorem dX6_gainBy_54 : decode cX6_gainBy 54 = .ok (.iload_n 3, 1) := by decide +kernel
theorem dX6_gainBy_55 : decode cX6_gainBy 55 = .ok (.iload 4, 2) := by decide +kernel
theorem dX6_gainBy_57 : decode cX6_gainBy 57 = .ok (.iload 5, 2) := by decide +kernel
theorem dX6_gainBy_59 : decode cX6_gainBy 59 = .ok (.invokevirtual 108, 3) := by decide +kernel
theorem dX6_gainBy_62 : decode cX6_gainBy 62 = .ok (.aload_n 0, 1) := by decide +kernel
theorem dX6_gainBy_63 : decode cX6_gainBy 63 = .ok (.invokevirtual 112, 3) := by decide +kernel
theorem dX6_gainBy_66 : decode cX6_gainBy 66 = .ok (.iload 6, 2) := by decide +kernel
theorem dX6_gainBy_68 : decode cX6_gainBy 68 = .ok (.isub, 1) := by decide +kernel
theorem dX6_gainBy_69 : decode cX6_gainBy 69 = .ok (.istore 7, 2) := by decide +kernel
theorem dX6_gainBy_71 : decode cX6_gainBy 71 = .ok (.aload_n 0, 1) := by decide +kernel
theorem dX6_gainBy_72 : decode cX6_gainBy 72 = .ok (.invokevirtual 187, 3) := by decide +kernel
theorem dX6_gainBy_75 : decode cX6_gainBy 75 = .ok (.iload 7, 2) := by decide +kernel
theorem dX6_gainBy_77 : decode cX6_gainBy 77 = .ok (.ireturn, 1) := by decide +kernel
set_option maxRecDepth 20000 in
theorem ggX6_patience_X6_isPerson : GoodIn wsX6_patience wsX6_isPerson := goodIn_r _ [5, 6, 7, 8, 4, 9] (by decide +kernel) (by decide +kernel)
set_option maxRecDepth 20000 in
theorem gX6_patience_X6_isPerson : GoodIn wsX6_patience (va_wsS RX6 76 yX6_isPerson wsX6_isPerson) := goodIn_app (goodIn_of _ (by decide +kernel)) ggX6_patience_X6_isPerson
set_option maxRecDepth 20000 in
theorem ggX6_patience_X6_goes : GoodIn wsX6_patience wsX6_goes := goodIn_r _ [13, 14, 19, 20, 21, 22, 23, 24, 25, 26, 27, 28, 29, 30, 31] (by decide +kernel) (by decide +kernel)
set_option maxRecDepth 20000 in
theorem gX6_patience_X6_goes : GoodIn wsX6_patience (wsV RX6 82 RX6 yX6_goes wsX6_goes) := goodIn_app (goodIn_of _ (by decide +kernel)) ggX6_patience_X6_goes
set_option maxRecDepth 20000 in
theorem ggX6_patience_X6_of : GoodIn wsX6_patience wsX6_of := goodIn_r _ [18, 1, 19, 20, 21, 22, 23, 24, 25, 26, 27, 28, 29, 30, 31] (by decide +kernel) (by decide +kernel)
set_option maxRecDepth 20000 in
theorem gX6_patience_X6_of : GoodIn wsX6_patience (wsV RX6 44 RX6 yX6_of wsX6_of) := goodIn_app (goodIn_of _ (by decide +kernel)) ggX6_patience_X6_of
theorem dX6_patience_0 : decode cX6_patience 0 = .ok (.aload_n 0, 1) := by decide +kernel
theorem dX6_patience_1 : decode cX6_patience 1 = .ok (.iload_n 1, 1) := by decide +kernel
theorem dX6_patience_2 : decode cX6_patience 2 = .ok (.invokestatic 76, 3) := by decide +kernel
theorem dX6_patience_5 : decode cX6_patience 5 = .ok (.iconst 1, 1) := by decide +kernel
theorem dX6_patience_6 : decode cX6_patience 6 = .ok (.iconst 1, 1) := by decide +kernel
theorem dX6_patience_7 : decode cX6_patience 7 = .ok (.invokevirtual 82, 3) := by decide +kernel
theorem dX6_patience_10 : decode cX6_patience 10 = .ok (.ifCond .ne 5, 3) := by decide +kernel
theorem dX6_patience_13 : decode cX6_patience 13 = .ok (.iconst 0, 1) := by decide +kernel
theorem dX6_patience_14 : decode cX6_patience 14 = .ok (.ireturn, 1) := by decide +kernel
theorem dX6_patience_15 : decode cX6_patience 15 = .ok (.iconst 0, 1) := by decide +kernel
theorem dX6_patience_16 : decode cX6_patience 16 = .ok (.istore_n 2, 1) := by decide +kernel
theorem dX6_patience_17 : decode cX6_patience 17 = .ok (.iconst 0, 1) := by decide +kernel
theorem dX6_patience_18 : decode cX6_patience 18 = .ok (.istore_n 3, 1) := by decide +kernel
theorem dX6_patience_19 : decode cX6_patience 19 = .ok (.iload_n 3, 1) := by decide +kernel
theorem dX6_patience_20 : decode cX6_patience 20 = .ok (.aload_n 0, 1) := by decide +kernel
theorem dX6_patience_21 : decode cX6_patience 21 = .ok (.getfield 7, 3) := by decide +kernel
theorem dX6_patience_24 : decode cX6_patience 24 = .ok (.iconst 5, 1) := by decide +kernel
theorem dX6_patience_25 : decode cX6_patience 25 = .ok (.iaload, 1) := by decide +kernel
theorem dX6_patience_26 : decode cX6_patience 26 = .ok (.if_icmp .ge 40, 3) := by decide +kernel
theorem dX6_patience_29 : decode cX6_patience 29 = .ok (.aload_n 0, 1) := by decide +kernel
theorem dX6_patience_30 : decode cX6_patience 30 = .ok (.iload_n 3, 1) := by decide +kernel
theorem dX6_patience_31 : decode cX6_patience 31 = .ok (.iconst 1, 1) := by decide +kernel
theorem dX6_patience_32 : decode cX6_patience 32 = .ok (.invokevirtual 44, 3) := by decide +kernel
theorem dX6_patience_35 : decode cX6_patience 35 = .ok (.iload_n 1, 1) := by decide +kernel
theorem dX6_patience_36 : decode cX6_patience 36 = .ok (.if_icmp .ne 22, 3) := by decide +kernel
theorem dX6_patience_39 : decode cX6_patience 39 = .ok (.aload_n 0, 1) := by decide +kernel
theorem dX6_patience_40 : decode cX6_patience 40 = .ok (.iload_n 3, 1) := by decide +kernel
theorem dX6_patience_41 : decode cX6_patience 41 = .ok (.iconst 5, 1) := by decide +kernel
theorem dX6_patience_42 : decode cX6_patience 42 = .ok (.invokevirtual 44, 3) := by decide +kernel
theorem dX6_patience_45 : decode cX6_patience 45 = .ok (.iload_n 2, 1) := by decide +kernel
theorem dX6_patience_46 : decode cX6_patience 46 = .ok (.if_icmp .le 12, 3) := by decide +kernel
theorem dX6_patience_49 : decode cX6_patience 49 = .ok (.aload_n 0, 1) := by decide +kernel
theorem dX6_patience_50 : decode cX6_patience 50 = .ok (.iload_n 3, 1) := by decide +kernel
theorem dX6_patience_51 : decode cX6_patience 51 = .ok (.iconst 5, 1) := by decide +kernel
theorem dX6_patience_52 : decode cX6_patience 52 = .ok (.invokevirtual 44, 3) := by decide +kernel
theorem dX6_patience_55 : decode cX6_patience 55 = .ok (.goto 4, 3) := by decide +kernel
theorem dX6_patience_58 : decode cX6_patience 58 = .ok (.iload_n 2, 1) := by decide +kernel
theorem dX6_patience_59 : decode cX6_patience 59 = .ok (.istore_n 2, 1) := by decide +kernel
theorem dX6_patience_60 : decode cX6_patience 60 = .ok (.iinc 3 1, 3) := by decide +kernel
theorem dX6_patience_63 : decode cX6_patience 63 = .ok (.goto (-44), 3) := by decide +kernel
theorem dX6_patience_66 : decode cX6_patience 66 = .ok (.aload_n 0, 1) := by decide +kernel
theorem dX6_patience_67 : decode cX6_patience 67 = .ok (.getfield 7, 3) := by decide +kernel
theorem dX6_patience_70 : decode cX6_patience 70 = .ok (.bipush 8, 2) := by decide +kernel
theorem dX6_patience_72 : decode cX6_patience 72 = .ok (.iload_n 1, 1) := by decide +kernel
theorem dX6_patience_73 : decode cX6_patience 73 = .ok (.iadd, 1) := by decide +kernel
theorem dX6_patience_74 : decode cX6_patience 74 = .ok (.iaload, 1) := by decide +kernel
theorem dX6_patience_75 : decode cX6_patience 75 = .ok (.iload_n 2, 1) := by decide +kernel
theorem dX6_patience_76 : decode cX6_patience 76 = .ok (.isub, 1) := by decide +kernel
theorem dX6_patience_77 : decode cX6_patience 77 = .ok (.ireturn, 1) := by decide +kernel
set_option maxRecDepth 20000 in
theorem ggX6_meanChain_X6_lay : GoodIn wsX6_meanChain wsX6_lay := goodIn_r _ [8, 9, 2, 10, 11, 12, 7, 13, 14, 15, 16, 17, 18, 19, 20, 21, 22, 23, 24, 25, 26, 27, 28, 29, 38, 39, 40, 41, 42, 43, 44, 45, 46, 47, 48, 49, 50] (by decide +kernel) (by decide +kernel)
set_option maxRecDepth 20000 in
theorem gX6_meanChain_X6_lay : GoodIn wsX6_meanChain (wsV RX6 67 RX6 yX6_lay wsX6_lay) := goodIn_app (goodIn_of _ (by decide +kernel)) ggX6_meanChain_X6_lay
set_option maxRecDepth 20000 in
theorem ggX6_meanChain_X6_measure : GoodIn wsX6_meanChain wsX6_measure := goodIn_r _ [33, 3, 2, 10, 11, 12, 7, 13, 34, 35, 36, 37, 14, 15, 16, 17, 22, 23, 24, 25, 9, 26, 27, 28, 29, 38, 39, 40, 41, 42, 43, 44, 45, 46, 47, 48, 49, 50] (by decide +kernel) (by decide +kernel)
set_option maxRecDepth 20000 in
theorem gX6_meanChain_X6_measure : GoodIn wsX6_meanChain (wsV RX6 161 RX6 yX6_measure wsX6_measure) := goodIn_app (goodIn_of _ (by decide +kernel)) ggX6_meanChain_X6_measure
theorem dX6_meanChain_0 : decode cX6_meanChain 0 = .ok (.aload_n 0, 1) := by decide +kernel
theorem dX6_meanChain_1 : decode cX6_meanChain 1 = .ok (.iconst 0, 1) := by decide +kernel
theorem dX6_meanChain_2 : decode cX6_meanChain 2 = .ok (.putfield 31, 3) := by decide +kernel
theorem dX6_meanChain_5 : decode cX6_meanChain 5 = .ok (.iconst 0, 1) := by decide +kernel
theorem dX6_meanChain_6 : decode cX6_meanChain 6 = .ok (.istore_n 1, 1) := by decide +kernel
theorem dX6_meanChain_7 : decode cX6_meanChain 7 = .ok (.iconst 0, 1) := by decide +kernel
theorem dX6_meanChain_8 : decode cX6_meanChain 8 = .ok (.istore_n 2, 1) := by decide +kernel
theorem dX6_meanChain_9 : decode cX6_meanChain 9 = .ok (.aload_n 0, 1) := by decide +kernel
theorem dX6_meanChain_10 : decode cX6_meanChain 10 = .ok (.invokevirtual 67, 3) := by decide +kernel
theorem dX6_meanChain_13 : decode cX6_meanChain 13 = .ok (.iconst 0, 1) := by decide +kernel
theorem dX6_meanChain_14 : decode cX6_meanChain 14 = .ok (.istore_n 3, 1) := by decide +kernel
theorem dX6_meanChain_15 : decode cX6_meanChain 15 = .ok (.iload_n 3, 1) := by decide +kernel
theorem dX6_meanChain_16 : decode cX6_meanChain 16 = .ok (.aload_n 0, 1) := by decide +kernel
theorem dX6_meanChain_17 : decode cX6_meanChain 17 = .ok (.getfield 7, 3) := by decide +kernel
theorem dX6_meanChain_20 : decode cX6_meanChain 20 = .ok (.iconst 4, 1) := by decide +kernel
theorem dX6_meanChain_21 : decode cX6_meanChain 21 = .ok (.iaload, 1) := by decide +kernel
theorem dX6_meanChain_22 : decode cX6_meanChain 22 = .ok (.if_icmp .ge 72, 3) := by decide +kernel
theorem dX6_meanChain_25 : decode cX6_meanChain 25 = .ok (.aload_n 0, 1) := by decide +kernel
theorem dX6_meanChain_26 : decode cX6_meanChain 26 = .ok (.iload_n 3, 1) := by decide +kernel
theorem dX6_meanChain_27 : decode cX6_meanChain 27 = .ok (.invokevirtual 161, 3) := by decide +kernel
theorem dX6_meanChain_30 : decode cX6_meanChain 30 = .ok (.iconst 0, 1) := by decide +kernel
theorem dX6_meanChain_31 : decode cX6_meanChain 31 = .ok (.istore 4, 2) := by decide +kernel
theorem dX6_meanChain_33 : decode cX6_meanChain 33 = .ok (.iload 4, 2) := by decide +kernel
theorem dX6_meanChain_35 : decode cX6_meanChain 35 = .ok (.bipush 10, 2) := by decide +kernel
theorem dX6_meanChain_37 : decode cX6_meanChain 37 = .ok (.if_icmp .ge 51, 3) := by decide +kernel
theorem dX6_meanChain_40 : decode cX6_meanChain 40 = .ok (.iload_n 1, 1) := by decide +kernel
theorem dX6_meanChain_41 : decode cX6_meanChain 41 = .ok (.aload_n 0, 1) := by decide +kernel
theorem dX6_meanChain_42 : decode cX6_meanChain 42 = .ok (.getfield 22, 3) := by decide +kernel
theorem dX6_meanChain_45 : decode cX6_meanChain 45 = .ok (.iload 4, 2) := by decide +kernel
theorem dX6_meanChain_47 : decode cX6_meanChain 47 = .ok (.iaload, 1) := by decide +kernel
theorem dX6_meanChain_48 : decode cX6_meanChain 48 = .ok (.ifCond .le 13, 3) := by decide +kernel
theorem dX6_meanChain_51 : decode cX6_meanChain 51 = .ok (.aload_n 0, 1) := by decide +kernel
theorem dX6_meanChain_52 : decode cX6_meanChain 52 = .ok (.getfield 22, 3) := by decide +kernel
theorem dX6_meanChain_55 : decode cX6_meanChain 55 = .ok (.iload 4, 2) := by decide +kernel
theorem dX6_meanChain_57 : decode cX6_meanChain 57 = .ok (.iaload, 1) := by decide +kernel
theorem dX6_meanChain_58 : decode cX6_meanChain 58 = .ok (.goto 4, 3) := by decide +kernel
theorem dX6_meanChain_61 : decode cX6_meanChain 61 = .ok (.iconst 0, 1) := by decide +kernel
theorem dX6_meanChain_62 : decode cX6_meanChain 62 = .ok (.iadd, 1) := by decide +kernel
theorem dX6_meanChain_63 : decode cX6_meanChain 63 = .ok (.istore_n 1, 1) := by decide +kernel
theorem dX6_meanChain_64 : decode cX6_meanChain 64 = .ok (.iload_n 2, 1) := by decide +kernel
theorem dX6_meanChain_65 : decode cX6_meanChain 65 = .ok (.aload_n 0, 1) := by decide +kernel
theorem dX6_meanChain_66 : decode cX6_meanChain 66 = .ok (.getfield 22, 3) := by decide +kernel
theorem dX6_meanChain_69 : decode cX6_meanChain 69 = .ok (.iload 4, 2) := by decide +kernel
theorem dX6_meanChain_71 : decode cX6_meanChain 71 = .ok (.iaload, 1) := by decide +kernel
theorem dX6_meanChain_72 : decode cX6_meanChain 72 = .ok (.ifCond .lt 7, 3) := by decide +kernel
theorem dX6_meanChain_75 : decode cX6_meanChain 75 = .ok (.iconst 1, 1) := by decide +kernel
theorem dX6_meanChain_76 : decode cX6_meanChain 76 = .ok (.goto 4, 3) := by decide +kernel
theorem dX6_meanChain_79 : decode cX6_meanChain 79 = .ok (.iconst 0, 1) := by decide +kernel
theorem dX6_meanChain_80 : decode cX6_meanChain 80 = .ok (.iadd, 1) := by decide +kernel
theorem dX6_meanChain_81 : decode cX6_meanChain 81 = .ok (.istore_n 2, 1) := by decide +kernel
theorem dX6_meanChain_82 : decode cX6_meanChain 82 = .ok (.iinc 4 1, 3) := by decide +kernel
theorem dX6_meanChain_85 : decode cX6_meanChain 85 = .ok (.goto (-52), 3) := by decide +kernel
theorem dX6_meanChain_88 : decode cX6_meanChain 88 = .ok (.iinc 3 1, 3) := by decide +kernel
theorem dX6_meanChain_91 : decode cX6_meanChain 91 = .ok (.goto (-76), 3) := by decide +kernel
theorem dX6_meanChain_94 : decode cX6_meanChain 94 = .ok (.iload_n 2, 1) := by decide +kernel
theorem dX6_meanChain_95 : decode cX6_meanChain 95 = .ok (.ifCond .ne 7, 3) := by decide +kernel
theorem dX6_meanChain_98 : decode cX6_meanChain 98 = .ok (.dconst 0, 1) := by decide +kernel
theorem dX6_meanChain_99 : decode cX6_meanChain 99 = .ok (.goto 8, 3) := by decide +kernel
theorem dX6_meanChain_102 : decode cX6_meanChain 102 = .ok (.iload_n 1, 1) := by decide +kernel
theorem dX6_meanChain_103 : decode cX6_meanChain 103 = .ok (.i2d, 1) := by decide +kernel
theorem dX6_meanChain_104 : decode cX6_meanChain 104 = .ok (.iload_n 2, 1) := by decide +kernel
theorem dX6_meanChain_105 : decode cX6_meanChain 105 = .ok (.i2d, 1) := by decide +kernel
theorem dX6_meanChain_106 : decode cX6_meanChain 106 = .ok (.ddiv, 1) := by decide +kernel
theorem dX6_meanChain_107 : decode cX6_meanChain 107 = .ok (.dreturn, 1) := by decide +kernel
set_option maxRecDepth 20000 in
theorem ggX6_append_X6_in : GoodIn wsX6_append wsX6_in := goodIn_r _ [7] (by decide +kernel) (by decide +kernel)
set_option maxRecDepth 20000 in
theorem gX6_append_X6_in : GoodIn wsX6_append (va_wsS RX6 40 yX6_in wsX6_in) := goodIn_app (goodIn_of _ (by decide +kernel)) ggX6_append_X6_in
set_option maxRecDepth 20000 in
theorem ggX6_append_X6_goes : GoodIn wsX6_append wsX6_goes := goodIn_r _ [11, 12, 13, 14, 15, 16, 17, 18, 19, 20, 21, 22, 23, 24, 25] (by decide +kernel) (by decide +kernel)
set_option maxRecDepth 20000 in
theorem gX6_append_X6_goes : GoodIn wsX6_append (wsV RX6 82 RX6 yX6_goes wsX6_goes) := goodIn_app (goodIn_of _ (by decide +kernel)) ggX6_append_X6_goes
theorem dX6_append_0 : decode cX6_append 0 = .ok (.aload_n 0, 1) := by decide +kernel
theorem dX6_append_1 : decode cX6_append 1 = .ok (.iload_n 1, 1) := by decide +kernel
theorem dX6_append_2 : decode cX6_append 2 = .ok (.i2l, 1) := by decide +kernel
theorem dX6_append_3 : decode cX6_append 3 = .ok (.lconst 0, 1) := by decide +kernel
theorem dX6_append_4 : decode cX6_append 4 = .ok (.ldc2_w 193, 3) := by decide +kernel
theorem dX6_append_7 : decode cX6_append 7 = .ok (.invokestatic 40, 3) := by decide +kernel
theorem dX6_append_10 : decode cX6_append 10 = .ok (.aload_n 0, 1) := by decide +kernel
theorem dX6_append_11 : decode cX6_append 11 = .ok (.getfield 195, 3) := by decide +kernel
theorem dX6_append_14 : decode cX6_append 14 = .ok (.bipush 100, 2) := by decide +kernel
theorem dX6_append_16 : decode cX6_append 16 = .ok (.if_icmp .ge 7, 3) := by decide +kernel
theorem dX6_append_19 : decode cX6_append 19 = .ok (.iconst 1, 1) := by decide +kernel
theorem dX6_append_20 : decode cX6_append 20 = .ok (.goto 4, 3) := by decide +kernel
theorem dX6_append_23 : decode cX6_append 23 = .ok (.iconst 0, 1) := by decide +kernel
theorem dX6_append_24 : decode cX6_append 24 = .ok (.iconst 1, 1) := by decide +kernel
theorem dX6_append_25 : decode cX6_append 25 = .ok (.invokevirtual 82, 3) := by decide +kernel
theorem dX6_append_28 : decode cX6_append 28 = .ok (.ifCond .ne 5, 3) := by decide +kernel
theorem dX6_append_31 : decode cX6_append 31 = .ok (.iconst 0, 1) := by decide +kernel
theorem dX6_append_32 : decode cX6_append 32 = .ok (.ireturn, 1) := by decide +kernel
theorem dX6_append_33 : decode cX6_append 33 = .ok (.aload_n 0, 1) := by decide +kernel
theorem dX6_append_34 : decode cX6_append 34 = .ok (.getfield 25, 3) := by decide +kernel
theorem dX6_append_37 : decode cX6_append 37 = .ok (.aload_n 0, 1) := by decide +kernel
theorem dX6_append_38 : decode cX6_append 38 = .ok (.getfield 195, 3) := by decide +kernel
theorem dX6_append_41 : decode cX6_append 41 = .ok (.iload_n 1, 1) := by decide +kernel
theorem dX6_append_42 : decode cX6_append 42 = .ok (.iastore, 1) := by decide +kernel
theorem dX6_append_43 : decode cX6_append 43 = .ok (.aload_n 0, 1) := by decide +kernel
theorem dX6_append_44 : decode cX6_append 44 = .ok (.dup, 1) := by decide +kernel
theorem dX6_append_45 : decode cX6_append 45 = .ok (.getfield 195, 3) := by decide +kernel
theorem dX6_append_48 : decode cX6_append 48 = .ok (.iconst 1, 1) := by decide +kernel
theorem dX6_append_49 : decode cX6_append 49 = .ok (.iadd, 1) := by decide +kernel
theorem dX6_append_50 : decode cX6_append 50 = .ok (.putfield 195, 3) := by decide +kernel
theorem dX6_append_53 : decode cX6_append 53 = .ok (.aload_n 0, 1) := by decide +kernel
theorem dX6_append_54 : decode cX6_append 54 = .ok (.getfield 195, 3) := by decide +kernel
theorem dX6_append_57 : decode cX6_append 57 = .ok (.ireturn, 1) := by decide +kernel
theorem dX6_clearText_0 : decode cX6_clearText 0 = .ok (.aload_n 0, 1) := by decide +kernel
theorem dX6_clearText_1 : decode cX6_clearText 1 = .ok (.iconst 0, 1) := by decide +kernel
theorem dX6_clearText_2 : decode cX6_clearText 2 = .ok (.putfield 31, 3) := by decide +kernel
theorem dX6_clearText_5 : decode cX6_clearText 5 = .ok (.aload_n 0, 1) := by decide +kernel
theorem dX6_clearText_6 : decode cX6_clearText 6 = .ok (.getfield 195, 3) := by decide +kernel
theorem dX6_clearText_9 : decode cX6_clearText 9 = .ok (.istore_n 1, 1) := by decide +kernel
theorem dX6_clearText_10 : decode cX6_clearText 10 = .ok (.aload_n 0, 1) := by decide +kernel
theorem dX6_clearText_11 : decode cX6_clearText 11 = .ok (.iconst 0, 1) := by decide +kernel
theorem dX6_clearText_12 : decode cX6_clearText 12 = .ok (.putfield 195, 3) := by decide +kernel
theorem dX6_clearText_15 : decode cX6_clearText 15 = .ok (.iload_n 1, 1) := by decide +kernel
theorem dX6_clearText_16 : decode cX6_clearText 16 = .ok (.ireturn, 1) := by decide +kernel
theorem dX6_here_0 : decode cX6_here 0 = .ok (.aload_n 0, 1) := by decide +kernel
theorem dX6_here_1 : decode cX6_here 1 = .ok (.getfield 198, 3) := by decide +kernel
theorem dX6_here_4 : decode cX6_here 4 = .ok (.aload_n 0, 1) := by decide +kernel
theorem dX6_here_5 : decode cX6_here 5 = .ok (.getfield 195, 3) := by decide +kernel
theorem dX6_here_8 : decode cX6_here 8 = .ok (.if_icmp .ge 15, 3) := by decide +kernel
theorem dX6_here_11 : decode cX6_here 11 = .ok (.aload_n 0, 1) := by decide +kernel
theorem dX6_here_12 : decode cX6_here 12 = .ok (.getfield 25, 3) := by decide +kernel
theorem dX6_here_15 : decode cX6_here 15 = .ok (.aload_n 0, 1) := by decide +kernel
theorem dX6_here_16 : decode cX6_here 16 = .ok (.getfield 198, 3) := by decide +kernel
theorem dX6_here_19 : decode cX6_here 19 = .ok (.iaload, 1) := by decide +kernel
theorem dX6_here_20 : decode cX6_here 20 = .ok (.goto 4, 3) := by decide +kernel
theorem dX6_here_23 : decode cX6_here 23 = .ok (.iconst (-1), 1) := by decide +kernel
theorem dX6_here_24 : decode cX6_here 24 = .ok (.ireturn, 1) := by decide +kernel
set_option maxRecDepth 20000 in
theorem ggX6_takesByte_X6_here : GoodIn wsX6_takesByte wsX6_here := goodIn_r _ [6, 1, 7, 8, 9, 10, 11, 12, 13, 14, 15, 16, 17, 18, 19, 20, 21] (by decide +kernel) (by decide +kernel)
set_option maxRecDepth 20000 in
theorem gX6_takesByte_X6_here : GoodIn wsX6_takesByte (wsV RX6 201 RX6 yX6_here wsX6_here) := goodIn_app (goodIn_of _ (by decide +kernel)) ggX6_takesByte_X6_here
theorem dX6_takesByte_0 : decode cX6_takesByte 0 = .ok (.aload_n 0, 1) := by decide +kernel
theorem dX6_takesByte_1 : decode cX6_takesByte 1 = .ok (.invokevirtual 201, 3) := by decide +kernel
theorem dX6_takesByte_4 : decode cX6_takesByte 4 = .ok (.iload_n 1, 1) := by decide +kernel
theorem dX6_takesByte_5 : decode cX6_takesByte 5 = .ok (.if_icmp .ne 7, 3) := by decide +kernel
theorem dX6_takesByte_8 : decode cX6_takesByte 8 = .ok (.iconst 1, 1) := by decide +kernel
theorem dX6_takesByte_9 : decode cX6_takesByte 9 = .ok (.goto 4, 3) := by decide +kernel
theorem dX6_takesByte_12 : decode cX6_takesByte 12 = .ok (.iconst 0, 1) := by decide +kernel
theorem dX6_takesByte_13 : decode cX6_takesByte 13 = .ok (.istore_n 2, 1) := by decide +kernel
theorem dX6_takesByte_14 : decode cX6_takesByte 14 = .ok (.aload_n 0, 1) := by decide +kernel
theorem dX6_takesByte_15 : decode cX6_takesByte 15 = .ok (.dup, 1) := by decide +kernel
theorem dX6_takesByte_16 : decode cX6_takesByte 16 = .ok (.getfield 198, 3) := by decide +kernel
theorem dX6_takesByte_19 : decode cX6_takesByte 19 = .ok (.iload_n 2, 1) := by decide +kernel
theorem dX6_takesByte_20 : decode cX6_takesByte 20 = .ok (.ifCond .eq 7, 3) := by decide +kernel
theorem dX6_takesByte_23 : decode cX6_takesByte 23 = .ok (.iconst 1, 1) := by decide +kernel
theorem dX6_takesByte_24 : decode cX6_takesByte 24 = .ok (.goto 4, 3) := by decide +kernel
theorem dX6_takesByte_27 : decode cX6_takesByte 27 = .ok (.iconst 0, 1) := by decide +kernel
theorem dX6_takesByte_28 : decode cX6_takesByte 28 = .ok (.iadd, 1) := by decide +kernel
theorem dX6_takesByte_29 : decode cX6_takesByte 29 = .ok (.putfield 198, 3) := by decide +kernel
theorem dX6_takesByte_32 : decode cX6_takesByte 32 = .ok (.iload_n 2, 1) := by decide +kernel
theorem dX6_takesByte_33 : decode cX6_takesByte 33 = .ok (.ireturn, 1) := by decide +kernel
set_option maxRecDepth 20000 in
theorem ggX6_takesDigit_X6_here : GoodIn wsX6_takesDigit wsX6_here := goodIn_r _ [7, 2, 8, 9, 13, 14, 15, 16, 17, 18, 19, 20, 21, 22, 23, 24, 25] (by decide +kernel) (by decide +kernel)
set_option maxRecDepth 20000 in
theorem gX6_takesDigit_X6_here : GoodIn wsX6_takesDigit (wsV RX6 201 RX6 yX6_here wsX6_here) := goodIn_app (goodIn_of _ (by decide +kernel)) ggX6_takesDigit_X6_here
set_option maxRecDepth 20000 in
theorem ggX6_takesDigit_X6_in : GoodIn wsX6_takesDigit wsX6_in := goodIn_r _ [12] (by decide +kernel) (by decide +kernel)
set_option maxRecDepth 20000 in
theorem gX6_takesDigit_X6_in : GoodIn wsX6_takesDigit (va_wsS RX6 40 yX6_in wsX6_in) := goodIn_app (goodIn_of _ (by decide +kernel)) ggX6_takesDigit_X6_in
theorem dX6_takesDigit_0 : decode cX6_takesDigit 0 = .ok (.aload_n 0, 1) := by decide +kernel
theorem dX6_takesDigit_1 : decode cX6_takesDigit 1 = .ok (.invokevirtual 201, 3) := by decide +kernel
theorem dX6_takesDigit_4 : decode cX6_takesDigit 4 = .ok (.i2l, 1) := by decide +kernel
theorem dX6_takesDigit_5 : decode cX6_takesDigit 5 = .ok (.bipush 48, 2) := by decide +kernel
theorem dX6_takesDigit_7 : decode cX6_takesDigit 7 = .ok (.iload_n 2, 1) := by decide +kernel
theorem dX6_takesDigit_8 : decode cX6_takesDigit 8 = .ok (.iadd, 1) := by decide +kernel
theorem dX6_takesDigit_9 : decode cX6_takesDigit 9 = .ok (.i2l, 1) := by decide +kernel
theorem dX6_takesDigit_10 : decode cX6_takesDigit 10 = .ok (.bipush 48, 2) := by decide +kernel
theorem dX6_takesDigit_12 : decode cX6_takesDigit 12 = .ok (.iload_n 3, 1) := by decide +kernel
theorem dX6_takesDigit_13 : decode cX6_takesDigit 13 = .ok (.iadd, 1) := by decide +kernel
theorem dX6_takesDigit_14 : decode cX6_takesDigit 14 = .ok (.i2l, 1) := by decide +kernel
theorem dX6_takesDigit_15 : decode cX6_takesDigit 15 = .ok (.invokestatic 40, 3) := by decide +kernel
theorem dX6_takesDigit_18 : decode cX6_takesDigit 18 = .ok (.ifCond .ne 5, 3) := by decide +kernel
theorem dX6_takesDigit_21 : decode cX6_takesDigit 21 = .ok (.iconst 0, 1) := by decide +kernel
theorem dX6_takesDigit_22 : decode cX6_takesDigit 22 = .ok (.ireturn, 1) := by decide +kernel
theorem dX6_takesDigit_23 : decode cX6_takesDigit 23 = .ok (.aload_n 0, 1) := by decide +kernel
theorem dX6_takesDigit_24 : decode cX6_takesDigit 24 = .ok (.getfield 28, 3) := by decide +kernel
theorem dX6_takesDigit_27 : decode cX6_takesDigit 27 = .ok (.iload_n 1, 1) := by decide +kernel
theorem dX6_takesDigit_28 : decode cX6_takesDigit 28 = .ok (.aload_n 0, 1) := by decide +kernel
theorem dX6_takesDigit_29 : decode cX6_takesDigit 29 = .ok (.invokevirtual 201, 3) := by decide +kernel
theorem dX6_takesDigit_32 : decode cX6_takesDigit 32 = .ok (.bipush 48, 2) := by decide +kernel
theorem dX6_takesDigit_34 : decode cX6_takesDigit 34 = .ok (.isub, 1) := by decide +kernel
theorem dX6_takesDigit_35 : decode cX6_takesDigit 35 = .ok (.iastore, 1) := by decide +kernel
theorem dX6_takesDigit_36 : decode cX6_takesDigit 36 = .ok (.aload_n 0, 1) := by decide +kernel
theorem dX6_takesDigit_37 : decode cX6_takesDigit 37 = .ok (.dup, 1) := by decide +kernel
theorem dX6_takesDigit_38 : decode cX6_takesDigit 38 = .ok (.getfield 198, 3) := by decide +kernel
theorem dX6_takesDigit_41 : decode cX6_takesDigit 41 = .ok (.iconst 1, 1) := by decide +kernel
theorem dX6_takesDigit_42 : decode cX6_takesDigit 42 = .ok (.iadd, 1) := by decide +kernel
theorem dX6_takesDigit_43 : decode cX6_takesDigit 43 = .ok (.putfield 198, 3) := by decide +kernel
theorem dX6_takesDigit_46 : decode cX6_takesDigit 46 = .ok (.iconst 1, 1) := by decide +kernel
theorem dX6_takesDigit_47 : decode cX6_takesDigit 47 = .ok (.ireturn, 1) := by decide +kernel
set_option maxRecDepth 20000 in
theorem ggX6_takesNumber_X6_here : GoodIn wsX6_takesNumber wsX6_here := goodIn_r _ [9, 1, 10, 11, 15, 16, 17, 18, 19, 20, 21, 22, 23, 24, 25, 26, 27] (by decide +kernel) (by decide +kernel)
set_option maxRecDepth 20000 in
theorem gX6_takesNumber_X6_here : GoodIn wsX6_takesNumber (wsV RX6 201 RX6 yX6_here wsX6_here) := goodIn_app (goodIn_of _ (by decide +kernel)) ggX6_takesNumber_X6_here
set_option maxRecDepth 20000 in
theorem ggX6_takesNumber_X6_in : GoodIn wsX6_takesNumber wsX6_in := goodIn_r _ [14] (by decide +kernel) (by decide +kernel)
set_option maxRecDepth 20000 in
theorem gX6_takesNumber_X6_in : GoodIn wsX6_takesNumber (va_wsS RX6 40 yX6_in wsX6_in) := goodIn_app (goodIn_of _ (by decide +kernel)) ggX6_takesNumber_X6_in
theorem dX6_takesNumber_0 : decode cX6_takesNumber 0 = .ok (.aload_n 0, 1) := by decide +kernel
theorem dX6_takesNumber_1 : decode cX6_takesNumber 1 = .ok (.getfield 198, 3) := by decide +kernel
theorem dX6_takesNumber_4 : decode cX6_takesNumber 4 = .ok (.istore 5, 2) := by decide +kernel
theorem dX6_takesNumber_6 : decode cX6_takesNumber 6 = .ok (.iconst 0, 1) := by decide +kernel
theorem dX6_takesNumber_7 : decode cX6_takesNumber 7 = .ok (.istore 6, 2) := by decide +kernel
theorem dX6_takesNumber_9 : decode cX6_takesNumber 9 = .ok (.aload_n 0, 1) := by decide +kernel
theorem dX6_takesNumber_10 : decode cX6_takesNumber 10 = .ok (.invokevirtual 201, 3) := by decide +kernel
theorem dX6_takesNumber_13 : decode cX6_takesNumber 13 = .ok (.i2l, 1) := by decide +kernel
theorem dX6_takesNumber_14 : decode cX6_takesNumber 14 = .ok (.ldc2_w 204, 3) := by decide +kernel
theorem dX6_takesNumber_17 : decode cX6_takesNumber 17 = .ok (.ldc2_w 206, 3) := by decide +kernel
theorem dX6_takesNumber_20 : decode cX6_takesNumber 20 = .ok (.invokestatic 40, 3) := by decide +kernel
theorem dX6_takesNumber_23 : decode cX6_takesNumber 23 = .ok (.ifCond .eq 42, 3) := by decide +kernel
theorem dX6_takesNumber_26 : decode cX6_takesNumber 26 = .ok (.aload_n 0, 1) := by decide +kernel
theorem dX6_takesNumber_27 : decode cX6_takesNumber 27 = .ok (.getfield 198, 3) := by decide +kernel
theorem dX6_takesNumber_30 : decode cX6_takesNumber 30 = .ok (.iload 5, 2) := by decide +kernel
theorem dX6_takesNumber_32 : decode cX6_takesNumber 32 = .ok (.iload_n 2, 1) := by decide +kernel
theorem dX6_takesNumber_33 : decode cX6_takesNumber 33 = .ok (.iadd, 1) := by decide +kernel
theorem dX6_takesNumber_34 : decode cX6_takesNumber 34 = .ok (.if_icmp .ge 31, 3) := by decide +kernel
theorem dX6_takesNumber_37 : decode cX6_takesNumber 37 = .ok (.bipush 10, 2) := by decide +kernel
theorem dX6_takesNumber_39 : decode cX6_takesNumber 39 = .ok (.iload 6, 2) := by decide +kernel
theorem dX6_takesNumber_41 : decode cX6_takesNumber 41 = .ok (.imul, 1) := by decide +kernel
theorem dX6_takesNumber_42 : decode cX6_takesNumber 42 = .ok (.aload_n 0, 1) := by decide +kernel
theorem dX6_takesNumber_43 : decode cX6_takesNumber 43 = .ok (.invokevirtual 201, 3) := by decide +kernel
theorem dX6_takesNumber_46 : decode cX6_takesNumber 46 = .ok (.iadd, 1) := by decide +kernel
theorem dX6_takesNumber_47 : decode cX6_takesNumber 47 = .ok (.bipush 48, 2) := by decide +kernel
theorem dX6_takesNumber_49 : decode cX6_takesNumber 49 = .ok (.isub, 1) := by decide +kernel
theorem dX6_takesNumber_50 : decode cX6_takesNumber 50 = .ok (.istore 6, 2) := by decide +kernel
theorem dX6_takesNumber_52 : decode cX6_takesNumber 52 = .ok (.aload_n 0, 1) := by decide +kernel
theorem dX6_takesNumber_53 : decode cX6_takesNumber 53 = .ok (.dup, 1) := by decide +kernel
theorem dX6_takesNumber_54 : decode cX6_takesNumber 54 = .ok (.getfield 198, 3) := by decide +kernel
theorem dX6_takesNumber_57 : decode cX6_takesNumber 57 = .ok (.iconst 1, 1) := by decide +kernel
theorem dX6_takesNumber_58 : decode cX6_takesNumber 58 = .ok (.iadd, 1) := by decide +kernel
theorem dX6_takesNumber_59 : decode cX6_takesNumber 59 = .ok (.putfield 198, 3) := by decide +kernel
theorem dX6_takesNumber_62 : decode cX6_takesNumber 62 = .ok (.goto (-53), 3) := by decide +kernel
theorem dX6_takesNumber_65 : decode cX6_takesNumber 65 = .ok (.aload_n 0, 1) := by decide +kernel
theorem dX6_takesNumber_66 : decode cX6_takesNumber 66 = .ok (.getfield 198, 3) := by decide +kernel
theorem dX6_takesNumber_69 : decode cX6_takesNumber 69 = .ok (.iload 5, 2) := by decide +kernel
theorem dX6_takesNumber_71 : decode cX6_takesNumber 71 = .ok (.if_icmp .eq 20, 3) := by decide +kernel
theorem dX6_takesNumber_74 : decode cX6_takesNumber 74 = .ok (.aload_n 0, 1) := by decide +kernel
theorem dX6_takesNumber_75 : decode cX6_takesNumber 75 = .ok (.invokevirtual 201, 3) := by decide +kernel
theorem dX6_takesNumber_78 : decode cX6_takesNumber 78 = .ok (.i2l, 1) := by decide +kernel
theorem dX6_takesNumber_79 : decode cX6_takesNumber 79 = .ok (.ldc2_w 204, 3) := by decide +kernel
theorem dX6_takesNumber_82 : decode cX6_takesNumber 82 = .ok (.ldc2_w 206, 3) := by decide +kernel
theorem dX6_takesNumber_85 : decode cX6_takesNumber 85 = .ok (.invokestatic 40, 3) := by decide +kernel
theorem dX6_takesNumber_88 : decode cX6_takesNumber 88 = .ok (.ifCond .eq 5, 3) := by decide +kernel
theorem dX6_takesNumber_91 : decode cX6_takesNumber 91 = .ok (.iconst 0, 1) := by decide +kernel
theorem dX6_takesNumber_92 : decode cX6_takesNumber 92 = .ok (.ireturn, 1) := by decide +kernel
theorem dX6_takesNumber_93 : decode cX6_takesNumber 93 = .ok (.aload_n 0, 1) := by decide +kernel
theorem dX6_takesNumber_94 : decode cX6_takesNumber 94 = .ok (.getfield 28, 3) := by decide +kernel
theorem dX6_takesNumber_97 : decode cX6_takesNumber 97 = .ok (.iload_n 1, 1) := by decide +kernel
theorem dX6_takesNumber_98 : decode cX6_takesNumber 98 = .ok (.iload 6, 2) := by decide +kernel
theorem dX6_takesNumber_100 : decode cX6_takesNumber 100 = .ok (.iastore, 1) := by decide +kernel
theorem dX6_takesNumber_101 : decode cX6_takesNumber 101 = .ok (.aload_n 0, 1) := by decide +kernel
theorem dX6_takesNumber_102 : decode cX6_takesNumber 102 = .ok (.iload 6, 2) := by decide +kernel
theorem dX6_takesNumber_104 : decode cX6_takesNumber 104 = .ok (.i2l, 1) := by decide +kernel
theorem dX6_takesNumber_105 : decode cX6_takesNumber 105 = .ok (.iload_n 3, 1) := by decide +kernel
theorem dX6_takesNumber_106 : decode cX6_takesNumber 106 = .ok (.i2l, 1) := by decide +kernel
theorem dX6_takesNumber_107 : decode cX6_takesNumber 107 = .ok (.iload 4, 2) := by decide +kernel
theorem dX6_takesNumber_109 : decode cX6_takesNumber 109 = .ok (.i2l, 1) := by decide +kernel
theorem dX6_takesNumber_110 : decode cX6_takesNumber 110 = .ok (.invokestatic 40, 3) := by decide +kernel
theorem dX6_takesNumber_113 : decode cX6_takesNumber 113 = .ok (.ifCond .eq 10, 3) := by decide +kernel
theorem dX6_takesNumber_116 : decode cX6_takesNumber 116 = .ok (.aload_n 0, 1) := by decide +kernel
theorem dX6_takesNumber_117 : decode cX6_takesNumber 117 = .ok (.getfield 198, 3) := by decide +kernel
theorem dX6_takesNumber_120 : decode cX6_takesNumber 120 = .ok (.goto 5, 3) := by decide +kernel
theorem dX6_takesNumber_123 : decode cX6_takesNumber 123 = .ok (.iload 5, 2) := by decide +kernel
theorem dX6_takesNumber_125 : decode cX6_takesNumber 125 = .ok (.putfield 198, 3) := by decide +kernel
theorem dX6_takesNumber_128 : decode cX6_takesNumber 128 = .ok (.aload_n 0, 1) := by decide +kernel
theorem dX6_takesNumber_129 : decode cX6_takesNumber 129 = .ok (.getfield 198, 3) := by decide +kernel
theorem dX6_takesNumber_132 : decode cX6_takesNumber 132 = .ok (.iload 5, 2) := by decide +kernel
theorem dX6_takesNumber_134 : decode cX6_takesNumber 134 = .ok (.if_icmp .le 7, 3) := by decide +kernel
theorem dX6_takesNumber_137 : decode cX6_takesNumber 137 = .ok (.iconst 1, 1) := by decide +kernel
theorem dX6_takesNumber_138 : decode cX6_takesNumber 138 = .ok (.goto 4, 3) := by decide +kernel
theorem dX6_takesNumber_141 : decode cX6_takesNumber 141 = .ok (.iconst 0, 1) := by decide +kernel
theorem dX6_takesNumber_142 : decode cX6_takesNumber 142 = .ok (.ireturn, 1) := by decide +kernel
set_option maxRecDepth 20000 in
theorem ggX6_takesParts_X6_takesDigit : GoodIn wsX6_takesParts wsX6_takesDigit := goodIn_r _ [6, 7, 8, 9, 10, 11, 5, 12, 13, 14, 15, 16, 17, 32, 33, 34, 35, 36, 37, 38, 39, 40, 41, 42, 43, 44] (by decide +kernel) (by decide +kernel)
set_option maxRecDepth 20000 in
theorem gX6_takesParts_X6_takesDigit : GoodIn wsX6_takesParts (wsV RX6 211 RX6 yX6_takesDigit wsX6_takesDigit) := goodIn_app (goodIn_of _ (by decide +kernel)) ggX6_takesParts_X6_takesDigit
set_option maxRecDepth 20000 in
theorem ggX6_takesParts_X6_takesByte : GoodIn wsX6_takesParts wsX6_takesByte := goodIn_r _ [21, 8, 9, 10, 11, 5, 12, 13, 14, 32, 33, 34, 35, 36, 37, 38, 39, 40, 41, 42, 43, 44] (by decide +kernel) (by decide +kernel)
set_option maxRecDepth 20000 in
theorem gX6_takesParts_X6_takesByte : GoodIn wsX6_takesParts (wsV RX6 214 RX6 yX6_takesByte wsX6_takesByte) := goodIn_app (goodIn_of _ (by decide +kernel)) ggX6_takesParts_X6_takesByte
set_option maxRecDepth 20000 in
theorem ggX6_takesParts_X6_takesNumber : GoodIn wsX6_takesParts wsX6_takesNumber := goodIn_r _ [25, 8, 26, 27, 7, 9, 10, 11, 5, 12, 13, 14, 15, 16, 17, 32, 33, 34, 35, 36, 37, 38, 39, 40, 41, 42, 43, 44] (by decide +kernel) (by decide +kernel)
set_option maxRecDepth 20000 in
theorem gX6_takesParts_X6_takesNumber : GoodIn wsX6_takesParts (wsV RX6 217 RX6 yX6_takesNumber wsX6_takesNumber) := goodIn_app (goodIn_of _ (by decide +kernel)) ggX6_takesParts_X6_takesNumber
set_option maxRecDepth 20000 in
theorem ggX6_takesParts_X6_takesSign : GoodIn wsX6_takesParts wsX6_takesSign := goodIn_r _ [31, 7, 8, 9, 10, 11, 5, 12, 13, 14, 32, 33, 34, 35, 36, 37, 38, 39, 40, 41, 42, 43, 44] (by decide +kernel) (by decide +kernel)
set_option maxRecDepth 20000 in
theorem gX6_takesParts_X6_takesSign : GoodIn wsX6_takesParts (wsV RX6 220 RX6 yX6_takesSign wsX6_takesSign) := goodIn_app (goodIn_of _ (by decide +kernel)) ggX6_takesParts_X6_takesSign
theorem dX6_takesParts_0 : decode cX6_takesParts 0 = .ok (.aload_n 0, 1) := by decide +kernel
theorem dX6_takesParts_1 : decode cX6_takesParts 1 = .ok (.getfield 208, 3) := by decide +kernel
theorem dX6_takesParts_4 : decode cX6_takesParts 4 = .ok (.lookupswitch 154 #[(99, 118), (103, 36), (118, 107)], 36) := by decide +kernel
theorem dX6_takesParts_40 : decode cX6_takesParts 40 = .ok (.aload_n 0, 1) := by decide +kernel
theorem dX6_takesParts_41 : decode cX6_takesParts 41 = .ok (.iconst 0, 1) := by decide +kernel
theorem dX6_takesParts_42 : decode cX6_takesParts 42 = .ok (.iconst 0, 1) := by decide +kernel
theorem dX6_takesParts_43 : decode cX6_takesParts 43 = .ok (.bipush 9, 2) := by decide +kernel
theorem dX6_takesParts_45 : decode cX6_takesParts 45 = .ok (.invokevirtual 211, 3) := by decide +kernel
theorem dX6_takesParts_48 : decode cX6_takesParts 48 = .ok (.ifCond .eq 61, 3) := by decide +kernel
theorem dX6_takesParts_51 : decode cX6_takesParts 51 = .ok (.aload_n 0, 1) := by decide +kernel
theorem dX6_takesParts_52 : decode cX6_takesParts 52 = .ok (.iconst 1, 1) := by decide +kernel
theorem dX6_takesParts_53 : decode cX6_takesParts 53 = .ok (.iconst 0, 1) := by decide +kernel
theorem dX6_takesParts_54 : decode cX6_takesParts 54 = .ok (.bipush 9, 2) := by decide +kernel
theorem dX6_takesParts_56 : decode cX6_takesParts 56 = .ok (.invokevirtual 211, 3) := by decide +kernel
theorem dX6_takesParts_59 : decode cX6_takesParts 59 = .ok (.ifCond .eq 50, 3) := by decide +kernel
theorem dX6_takesParts_62 : decode cX6_takesParts 62 = .ok (.aload_n 0, 1) := by decide +kernel
theorem dX6_takesParts_63 : decode cX6_takesParts 63 = .ok (.iconst 2, 1) := by decide +kernel
theorem dX6_takesParts_64 : decode cX6_takesParts 64 = .ok (.iconst 0, 1) := by decide +kernel
theorem dX6_takesParts_65 : decode cX6_takesParts 65 = .ok (.bipush 7, 2) := by decide +kernel
theorem dX6_takesParts_67 : decode cX6_takesParts 67 = .ok (.invokevirtual 211, 3) := by decide +kernel
theorem dX6_takesParts_70 : decode cX6_takesParts 70 = .ok (.ifCond .eq 39, 3) := by decide +kernel
theorem dX6_takesParts_73 : decode cX6_takesParts 73 = .ok (.aload_n 0, 1) := by decide +kernel
theorem dX6_takesParts_74 : decode cX6_takesParts 74 = .ok (.iconst 3, 1) := by decide +kernel
theorem dX6_takesParts_75 : decode cX6_takesParts 75 = .ok (.iconst 1, 1) := by decide +kernel
theorem dX6_takesParts_76 : decode cX6_takesParts 76 = .ok (.bipush 7, 2) := by decide +kernel
theorem dX6_takesParts_78 : decode cX6_takesParts 78 = .ok (.invokevirtual 211, 3) := by decide +kernel
theorem dX6_takesParts_81 : decode cX6_takesParts 81 = .ok (.ifCond .eq 28, 3) := by decide +kernel
theorem dX6_takesParts_84 : decode cX6_takesParts 84 = .ok (.aload_n 0, 1) := by decide +kernel
theorem dX6_takesParts_85 : decode cX6_takesParts 85 = .ok (.bipush 44, 2) := by decide +kernel
theorem dX6_takesParts_87 : decode cX6_takesParts 87 = .ok (.invokevirtual 214, 3) := by decide +kernel
theorem dX6_takesParts_90 : decode cX6_takesParts 90 = .ok (.ifCond .eq 19, 3) := by decide +kernel
theorem dX6_takesParts_93 : decode cX6_takesParts 93 = .ok (.aload_n 0, 1) := by decide +kernel
theorem dX6_takesParts_94 : decode cX6_takesParts 94 = .ok (.iconst 4, 1) := by decide +kernel
theorem dX6_takesParts_95 : decode cX6_takesParts 95 = .ok (.iconst 3, 1) := by decide +kernel
theorem dX6_takesParts_96 : decode cX6_takesParts 96 = .ok (.iconst 0, 1) := by decide +kernel
theorem dX6_takesParts_97 : decode cX6_takesParts 97 = .ok (.bipush 100, 2) := by decide +kernel
theorem dX6_takesParts_99 : decode cX6_takesParts 99 = .ok (.invokevirtual 217, 3) := by decide +kernel
theorem dX6_takesParts_102 : decode cX6_takesParts 102 = .ok (.ifCond .eq 7, 3) := by decide +kernel
theorem dX6_takesParts_105 : decode cX6_takesParts 105 = .ok (.iconst 1, 1) := by decide +kernel
theorem dX6_takesParts_106 : decode cX6_takesParts 106 = .ok (.goto 4, 3) := by decide +kernel
theorem dX6_takesParts_109 : decode cX6_takesParts 109 = .ok (.iconst 0, 1) := by decide +kernel
theorem dX6_takesParts_110 : decode cX6_takesParts 110 = .ok (.ireturn, 1) := by decide +kernel
theorem dX6_takesParts_111 : decode cX6_takesParts 111 = .ok (.aload_n 0, 1) := by decide +kernel
theorem dX6_takesParts_112 : decode cX6_takesParts 112 = .ok (.iconst 0, 1) := by decide +kernel
theorem dX6_takesParts_113 : decode cX6_takesParts 113 = .ok (.iconst 3, 1) := by decide +kernel
theorem dX6_takesParts_114 : decode cX6_takesParts 114 = .ok (.iconst 0, 1) := by decide +kernel
theorem dX6_takesParts_115 : decode cX6_takesParts 115 = .ok (.sipush 999, 3) := by decide +kernel
theorem dX6_takesParts_118 : decode cX6_takesParts 118 = .ok (.invokevirtual 217, 3) := by decide +kernel
theorem dX6_takesParts_121 : decode cX6_takesParts 121 = .ok (.ireturn, 1) := by decide +kernel
theorem dX6_takesParts_122 : decode cX6_takesParts 122 = .ok (.aload_n 0, 1) := by decide +kernel
theorem dX6_takesParts_123 : decode cX6_takesParts 123 = .ok (.iconst 0, 1) := by decide +kernel
theorem dX6_takesParts_124 : decode cX6_takesParts 124 = .ok (.iconst 0, 1) := by decide +kernel
theorem dX6_takesParts_125 : decode cX6_takesParts 125 = .ok (.bipush 9, 2) := by decide +kernel
theorem dX6_takesParts_127 : decode cX6_takesParts 127 = .ok (.invokevirtual 211, 3) := by decide +kernel
theorem dX6_takesParts_130 : decode cX6_takesParts 130 = .ok (.ifCond .eq 26, 3) := by decide +kernel
theorem dX6_takesParts_133 : decode cX6_takesParts 133 = .ok (.aload_n 0, 1) := by decide +kernel
theorem dX6_takesParts_134 : decode cX6_takesParts 134 = .ok (.invokevirtual 220, 3) := by decide +kernel
theorem dX6_takesParts_137 : decode cX6_takesParts 137 = .ok (.ifCond .eq 19, 3) := by decide +kernel
theorem dX6_takesParts_140 : decode cX6_takesParts 140 = .ok (.aload_n 0, 1) := by decide +kernel
theorem dX6_takesParts_141 : decode cX6_takesParts 141 = .ok (.iconst 1, 1) := by decide +kernel
theorem dX6_takesParts_142 : decode cX6_takesParts 142 = .ok (.iconst 3, 1) := by decide +kernel
theorem dX6_takesParts_143 : decode cX6_takesParts 143 = .ok (.iconst 0, 1) := by decide +kernel
theorem dX6_takesParts_144 : decode cX6_takesParts 144 = .ok (.bipush 100, 2) := by decide +kernel
theorem dX6_takesParts_146 : decode cX6_takesParts 146 = .ok (.invokevirtual 217, 3) := by decide +kernel
theorem dX6_takesParts_149 : decode cX6_takesParts 149 = .ok (.ifCond .eq 7, 3) := by decide +kernel
theorem dX6_takesParts_152 : decode cX6_takesParts 152 = .ok (.iconst 1, 1) := by decide +kernel
theorem dX6_takesParts_153 : decode cX6_takesParts 153 = .ok (.goto 4, 3) := by decide +kernel
theorem dX6_takesParts_156 : decode cX6_takesParts 156 = .ok (.iconst 0, 1) := by decide +kernel
theorem dX6_takesParts_157 : decode cX6_takesParts 157 = .ok (.ireturn, 1) := by decide +kernel
theorem dX6_takesParts_158 : decode cX6_takesParts 158 = .ok (.aload_n 0, 1) := by decide +kernel
theorem dX6_takesParts_159 : decode cX6_takesParts 159 = .ok (.iconst 0, 1) := by decide +kernel
theorem dX6_takesParts_160 : decode cX6_takesParts 160 = .ok (.iconst 2, 1) := by decide +kernel
theorem dX6_takesParts_161 : decode cX6_takesParts 161 = .ok (.iconst 1, 1) := by decide +kernel
theorem dX6_takesParts_162 : decode cX6_takesParts 162 = .ok (.bipush 50, 2) := by decide +kernel
theorem dX6_takesParts_164 : decode cX6_takesParts 164 = .ok (.invokevirtual 217, 3) := by decide +kernel
theorem dX6_takesParts_167 : decode cX6_takesParts 167 = .ok (.ireturn, 1) := by decide +kernel
set_option maxRecDepth 20000 in
theorem ggX6_takesSign_X6_here : GoodIn wsX6_takesSign wsX6_here := goodIn_r _ [7, 2, 8, 9, 10, 11, 12, 13, 14, 15, 16, 17, 18, 19, 20, 21, 22] (by decide +kernel) (by decide +kernel)
set_option maxRecDepth 20000 in
theorem gX6_takesSign_X6_here : GoodIn wsX6_takesSign (wsV RX6 201 RX6 yX6_here wsX6_here) := goodIn_app (goodIn_of _ (by decide +kernel)) ggX6_takesSign_X6_here
theorem dX6_takesSign_0 : decode cX6_takesSign 0 = .ok (.aload_n 0, 1) := by decide +kernel
theorem dX6_takesSign_1 : decode cX6_takesSign 1 = .ok (.getfield 28, 3) := by decide +kernel
theorem dX6_takesSign_4 : decode cX6_takesSign 4 = .ok (.iconst 2, 1) := by decide +kernel
theorem dX6_takesSign_5 : decode cX6_takesSign 5 = .ok (.aload_n 0, 1) := by decide +kernel
theorem dX6_takesSign_6 : decode cX6_takesSign 6 = .ok (.invokevirtual 201, 3) := by decide +kernel
theorem dX6_takesSign_9 : decode cX6_takesSign 9 = .ok (.bipush 45, 2) := by decide +kernel
theorem dX6_takesSign_11 : decode cX6_takesSign 11 = .ok (.if_icmp .ne 7, 3) := by decide +kernel
theorem dX6_takesSign_14 : decode cX6_takesSign 14 = .ok (.iconst (-1), 1) := by decide +kernel
theorem dX6_takesSign_15 : decode cX6_takesSign 15 = .ok (.goto 4, 3) := by decide +kernel
theorem dX6_takesSign_18 : decode cX6_takesSign 18 = .ok (.iconst 1, 1) := by decide +kernel
theorem dX6_takesSign_19 : decode cX6_takesSign 19 = .ok (.iastore, 1) := by decide +kernel
theorem dX6_takesSign_20 : decode cX6_takesSign 20 = .ok (.aload_n 0, 1) := by decide +kernel
theorem dX6_takesSign_21 : decode cX6_takesSign 21 = .ok (.invokevirtual 201, 3) := by decide +kernel
theorem dX6_takesSign_24 : decode cX6_takesSign 24 = .ok (.bipush 43, 2) := by decide +kernel
theorem dX6_takesSign_26 : decode cX6_takesSign 26 = .ok (.if_icmp .eq 12, 3) := by decide +kernel
theorem dX6_takesSign_29 : decode cX6_takesSign 29 = .ok (.aload_n 0, 1) := by decide +kernel
theorem dX6_takesSign_30 : decode cX6_takesSign 30 = .ok (.invokevirtual 201, 3) := by decide +kernel
theorem dX6_takesSign_33 : decode cX6_takesSign 33 = .ok (.bipush 45, 2) := by decide +kernel
theorem dX6_takesSign_35 : decode cX6_takesSign 35 = .ok (.if_icmp .ne 7, 3) := by decide +kernel
theorem dX6_takesSign_38 : decode cX6_takesSign 38 = .ok (.iconst 1, 1) := by decide +kernel
theorem dX6_takesSign_39 : decode cX6_takesSign 39 = .ok (.goto 4, 3) := by decide +kernel
theorem dX6_takesSign_42 : decode cX6_takesSign 42 = .ok (.iconst 0, 1) := by decide +kernel
theorem dX6_takesSign_43 : decode cX6_takesSign 43 = .ok (.istore_n 1, 1) := by decide +kernel
theorem dX6_takesSign_44 : decode cX6_takesSign 44 = .ok (.aload_n 0, 1) := by decide +kernel
theorem dX6_takesSign_45 : decode cX6_takesSign 45 = .ok (.dup, 1) := by decide +kernel
theorem dX6_takesSign_46 : decode cX6_takesSign 46 = .ok (.getfield 198, 3) := by decide +kernel
theorem dX6_takesSign_49 : decode cX6_takesSign 49 = .ok (.iload_n 1, 1) := by decide +kernel
theorem dX6_takesSign_50 : decode cX6_takesSign 50 = .ok (.ifCond .eq 7, 3) := by decide +kernel
theorem dX6_takesSign_53 : decode cX6_takesSign 53 = .ok (.iconst 1, 1) := by decide +kernel
theorem dX6_takesSign_54 : decode cX6_takesSign 54 = .ok (.goto 4, 3) := by decide +kernel
theorem dX6_takesSign_57 : decode cX6_takesSign 57 = .ok (.iconst 0, 1) := by decide +kernel
theorem dX6_takesSign_58 : decode cX6_takesSign 58 = .ok (.iadd, 1) := by decide +kernel
theorem dX6_takesSign_59 : decode cX6_takesSign 59 = .ok (.putfield 198, 3) := by decide +kernel
theorem dX6_takesSign_62 : decode cX6_takesSign 62 = .ok (.iload_n 1, 1) := by decide +kernel
theorem dX6_takesSign_63 : decode cX6_takesSign 63 = .ok (.ireturn, 1) := by decide +kernel
set_option maxRecDepth 20000 in
theorem ggX6_takesOrder_X6_here : GoodIn wsX6_takesOrder wsX6_here := goodIn_r _ [7, 2, 8, 9, 36, 37, 38, 39, 40, 41, 42, 43, 44, 45, 46, 47, 48] (by decide +kernel) (by decide +kernel)
set_option maxRecDepth 20000 in
theorem gX6_takesOrder_X6_here : GoodIn wsX6_takesOrder (wsV RX6 201 RX6 yX6_here wsX6_here) := goodIn_app (goodIn_of _ (by decide +kernel)) ggX6_takesOrder_X6_here
set_option maxRecDepth 20000 in
theorem ggX6_takesOrder_X6_takesParts : GoodIn wsX6_takesOrder wsX6_takesParts := goodIn_r _ [13, 1, 14, 15, 16, 6, 17, 18, 2, 3, 4, 5, 7, 8, 9, 19, 20, 21, 22, 23, 24, 25, 26, 27, 28, 29, 30, 31, 32, 33, 34, 35, 36, 37, 38, 39, 40, 41, 42, 43, 44, 45, 46, 47, 48] (by decide +kernel) (by decide +kernel)
set_option maxRecDepth 20000 in
theorem gX6_takesOrder_X6_takesParts : GoodIn wsX6_takesOrder (wsV RX6 224 RX6 yX6_takesParts wsX6_takesParts) := goodIn_app (goodIn_of _ (by decide +kernel)) ggX6_takesOrder_X6_takesParts
theorem dX6_takesOrder_0 : decode cX6_takesOrder 0 = .ok (.aload_n 0, 1) := by decide +kernel
theorem dX6_takesOrder_1 : decode cX6_takesOrder 1 = .ok (.aload_n 0, 1) := by decide +kernel
theorem dX6_takesOrder_2 : decode cX6_takesOrder 2 = .ok (.invokevirtual 201, 3) := by decide +kernel
theorem dX6_takesOrder_5 : decode cX6_takesOrder 5 = .ok (.putfield 208, 3) := by decide +kernel
theorem dX6_takesOrder_8 : decode cX6_takesOrder 8 = .ok (.aload_n 0, 1) := by decide +kernel
theorem dX6_takesOrder_9 : decode cX6_takesOrder 9 = .ok (.getfield 208, 3) := by decide +kernel
theorem dX6_takesOrder_12 : decode cX6_takesOrder 12 = .ok (.bipush 103, 2) := by decide +kernel
theorem dX6_takesOrder_14 : decode cX6_takesOrder 14 = .ok (.if_icmp .eq 32, 3) := by decide +kernel
theorem dX6_takesOrder_17 : decode cX6_takesOrder 17 = .ok (.aload_n 0, 1) := by decide +kernel
theorem dX6_takesOrder_18 : decode cX6_takesOrder 18 = .ok (.getfield 208, 3) := by decide +kernel
theorem dX6_takesOrder_21 : decode cX6_takesOrder 21 = .ok (.bipush 118, 2) := by decide +kernel
theorem dX6_takesOrder_23 : decode cX6_takesOrder 23 = .ok (.if_icmp .eq 23, 3) := by decide +kernel
theorem dX6_takesOrder_26 : decode cX6_takesOrder 26 = .ok (.aload_n 0, 1) := by decide +kernel
theorem dX6_takesOrder_27 : decode cX6_takesOrder 27 = .ok (.getfield 208, 3) := by decide +kernel
theorem dX6_takesOrder_30 : decode cX6_takesOrder 30 = .ok (.bipush 99, 2) := by decide +kernel
theorem dX6_takesOrder_32 : decode cX6_takesOrder 32 = .ok (.if_icmp .eq 14, 3) := by decide +kernel
theorem dX6_takesOrder_35 : decode cX6_takesOrder 35 = .ok (.aload_n 0, 1) := by decide +kernel
theorem dX6_takesOrder_36 : decode cX6_takesOrder 36 = .ok (.getfield 208, 3) := by decide +kernel
theorem dX6_takesOrder_39 : decode cX6_takesOrder 39 = .ok (.bipush 116, 2) := by decide +kernel
theorem dX6_takesOrder_41 : decode cX6_takesOrder 41 = .ok (.if_icmp .eq 5, 3) := by decide +kernel
theorem dX6_takesOrder_44 : decode cX6_takesOrder 44 = .ok (.iconst 0, 1) := by decide +kernel
theorem dX6_takesOrder_45 : decode cX6_takesOrder 45 = .ok (.ireturn, 1) := by decide +kernel
theorem dX6_takesOrder_46 : decode cX6_takesOrder 46 = .ok (.aload_n 0, 1) := by decide +kernel
theorem dX6_takesOrder_47 : decode cX6_takesOrder 47 = .ok (.dup, 1) := by decide +kernel
theorem dX6_takesOrder_48 : decode cX6_takesOrder 48 = .ok (.getfield 198, 3) := by decide +kernel
theorem dX6_takesOrder_51 : decode cX6_takesOrder 51 = .ok (.iconst 1, 1) := by decide +kernel
theorem dX6_takesOrder_52 : decode cX6_takesOrder 52 = .ok (.iadd, 1) := by decide +kernel
theorem dX6_takesOrder_53 : decode cX6_takesOrder 53 = .ok (.putfield 198, 3) := by decide +kernel
theorem dX6_takesOrder_56 : decode cX6_takesOrder 56 = .ok (.aload_n 0, 1) := by decide +kernel
theorem dX6_takesOrder_57 : decode cX6_takesOrder 57 = .ok (.invokevirtual 224, 3) := by decide +kernel
theorem dX6_takesOrder_60 : decode cX6_takesOrder 60 = .ok (.ifCond .eq 12, 3) := by decide +kernel
theorem dX6_takesOrder_63 : decode cX6_takesOrder 63 = .ok (.aload_n 0, 1) := by decide +kernel
theorem dX6_takesOrder_64 : decode cX6_takesOrder 64 = .ok (.invokevirtual 201, 3) := by decide +kernel
theorem dX6_takesOrder_67 : decode cX6_takesOrder 67 = .ok (.bipush 59, 2) := by decide +kernel
theorem dX6_takesOrder_69 : decode cX6_takesOrder 69 = .ok (.if_icmp .eq 5, 3) := by decide +kernel
theorem dX6_takesOrder_72 : decode cX6_takesOrder 72 = .ok (.iconst 0, 1) := by decide +kernel
theorem dX6_takesOrder_73 : decode cX6_takesOrder 73 = .ok (.ireturn, 1) := by decide +kernel
theorem dX6_takesOrder_74 : decode cX6_takesOrder 74 = .ok (.aload_n 0, 1) := by decide +kernel
theorem dX6_takesOrder_75 : decode cX6_takesOrder 75 = .ok (.dup, 1) := by decide +kernel
theorem dX6_takesOrder_76 : decode cX6_takesOrder 76 = .ok (.getfield 198, 3) := by decide +kernel
theorem dX6_takesOrder_79 : decode cX6_takesOrder 79 = .ok (.iconst 1, 1) := by decide +kernel
theorem dX6_takesOrder_80 : decode cX6_takesOrder 80 = .ok (.iadd, 1) := by decide +kernel
theorem dX6_takesOrder_81 : decode cX6_takesOrder 81 = .ok (.putfield 198, 3) := by decide +kernel
theorem dX6_takesOrder_84 : decode cX6_takesOrder 84 = .ok (.iconst 1, 1) := by decide +kernel
theorem dX6_takesOrder_85 : decode cX6_takesOrder 85 = .ok (.ireturn, 1) := by decide +kernel
set_option maxRecDepth 20000 in
theorem ggX6_grantsOrder_X6_arePersons : GoodIn wsX6_grantsOrder wsX6_arePersons := goodIn_r _ [6, 7, 8, 5, 9, 10, 11, 12, 13, 14, 15, 16, 17, 18, 52, 53, 54, 55, 56, 57, 58, 59, 60, 61, 62, 63, 64] (by decide +kernel) (by decide +kernel)
set_option maxRecDepth 20000 in
theorem gX6_grantsOrder_X6_arePersons : GoodIn wsX6_grantsOrder (wsV RX6 97 RX6 yX6_arePersons wsX6_arePersons) := goodIn_app (goodIn_of _ (by decide +kernel)) ggX6_grantsOrder_X6_arePersons
set_option maxRecDepth 20000 in
theorem ggX6_grantsOrder_X6_mayGrant : GoodIn wsX6_grantsOrder wsX6_mayGrant := goodIn_r _ [22, 18, 23, 24, 25, 5, 26, 27, 28, 29, 30, 31, 32, 33, 34, 35, 36, 37, 38, 39, 40, 41, 42, 43, 44, 45, 46, 47, 52, 53, 54, 55, 56, 57, 58, 59, 60, 61, 62, 63, 64] (by decide +kernel) (by decide +kernel)
set_option maxRecDepth 20000 in
theorem gX6_grantsOrder_X6_mayGrant : GoodIn wsX6_grantsOrder (wsV RX6 105 RX6 yX6_mayGrant wsX6_mayGrant) := goodIn_app (goodIn_of _ (by decide +kernel)) ggX6_grantsOrder_X6_mayGrant
set_option maxRecDepth 20000 in
theorem ggX6_grantsOrder_X6_lays : GoodIn wsX6_grantsOrder wsX6_lays := goodIn_r _ [51, 18, 52, 53, 54, 55, 56, 57, 58, 59, 60, 61, 62, 63, 64] (by decide +kernel) (by decide +kernel)
set_option maxRecDepth 20000 in
theorem gX6_grantsOrder_X6_lays : GoodIn wsX6_grantsOrder (wsV RX6 108 RX6 yX6_lays wsX6_lays) := goodIn_app (goodIn_of _ (by decide +kernel)) ggX6_grantsOrder_X6_lays
theorem dX6_grantsOrder_0 : decode cX6_grantsOrder 0 = .ok (.aload_n 0, 1) := by decide +kernel
theorem dX6_grantsOrder_1 : decode cX6_grantsOrder 1 = .ok (.aload_n 0, 1) := by decide +kernel
theorem dX6_grantsOrder_2 : decode cX6_grantsOrder 2 = .ok (.getfield 28, 3) := by decide +kernel
theorem dX6_grantsOrder_5 : decode cX6_grantsOrder 5 = .ok (.iconst 0, 1) := by decide +kernel
theorem dX6_grantsOrder_6 : decode cX6_grantsOrder 6 = .ok (.iaload, 1) := by decide +kernel
theorem dX6_grantsOrder_7 : decode cX6_grantsOrder 7 = .ok (.aload_n 0, 1) := by decide +kernel
theorem dX6_grantsOrder_8 : decode cX6_grantsOrder 8 = .ok (.getfield 28, 3) := by decide +kernel
theorem dX6_grantsOrder_11 : decode cX6_grantsOrder 11 = .ok (.iconst 1, 1) := by decide +kernel
theorem dX6_grantsOrder_12 : decode cX6_grantsOrder 12 = .ok (.iaload, 1) := by decide +kernel
theorem dX6_grantsOrder_13 : decode cX6_grantsOrder 13 = .ok (.aload_n 0, 1) := by decide +kernel
theorem dX6_grantsOrder_14 : decode cX6_grantsOrder 14 = .ok (.getfield 28, 3) := by decide +kernel
theorem dX6_grantsOrder_17 : decode cX6_grantsOrder 17 = .ok (.iconst 2, 1) := by decide +kernel
theorem dX6_grantsOrder_18 : decode cX6_grantsOrder 18 = .ok (.iaload, 1) := by decide +kernel
theorem dX6_grantsOrder_19 : decode cX6_grantsOrder 19 = .ok (.invokevirtual 97, 3) := by decide +kernel
theorem dX6_grantsOrder_22 : decode cX6_grantsOrder 22 = .ok (.ifCond .eq 22, 3) := by decide +kernel
theorem dX6_grantsOrder_25 : decode cX6_grantsOrder 25 = .ok (.aload_n 0, 1) := by decide +kernel
theorem dX6_grantsOrder_26 : decode cX6_grantsOrder 26 = .ok (.getfield 28, 3) := by decide +kernel
theorem dX6_grantsOrder_29 : decode cX6_grantsOrder 29 = .ok (.iconst 0, 1) := by decide +kernel
theorem dX6_grantsOrder_30 : decode cX6_grantsOrder 30 = .ok (.iaload, 1) := by decide +kernel
theorem dX6_grantsOrder_31 : decode cX6_grantsOrder 31 = .ok (.aload_n 0, 1) := by decide +kernel
theorem dX6_grantsOrder_32 : decode cX6_grantsOrder 32 = .ok (.getfield 28, 3) := by decide +kernel
theorem dX6_grantsOrder_35 : decode cX6_grantsOrder 35 = .ok (.iconst 1, 1) := by decide +kernel
theorem dX6_grantsOrder_36 : decode cX6_grantsOrder 36 = .ok (.iaload, 1) := by decide +kernel
theorem dX6_grantsOrder_37 : decode cX6_grantsOrder 37 = .ok (.if_icmp .eq 7, 3) := by decide +kernel
theorem dX6_grantsOrder_40 : decode cX6_grantsOrder 40 = .ok (.iconst 1, 1) := by decide +kernel
theorem dX6_grantsOrder_41 : decode cX6_grantsOrder 41 = .ok (.goto 4, 3) := by decide +kernel
theorem dX6_grantsOrder_44 : decode cX6_grantsOrder 44 = .ok (.iconst 0, 1) := by decide +kernel
theorem dX6_grantsOrder_45 : decode cX6_grantsOrder 45 = .ok (.istore_n 1, 1) := by decide +kernel
theorem dX6_grantsOrder_46 : decode cX6_grantsOrder 46 = .ok (.iload_n 1, 1) := by decide +kernel
theorem dX6_grantsOrder_47 : decode cX6_grantsOrder 47 = .ok (.ifCond .eq 34, 3) := by decide +kernel
theorem dX6_grantsOrder_50 : decode cX6_grantsOrder 50 = .ok (.aload_n 0, 1) := by decide +kernel
theorem dX6_grantsOrder_51 : decode cX6_grantsOrder 51 = .ok (.aload_n 0, 1) := by decide +kernel
theorem dX6_grantsOrder_52 : decode cX6_grantsOrder 52 = .ok (.getfield 28, 3) := by decide +kernel
theorem dX6_grantsOrder_55 : decode cX6_grantsOrder 55 = .ok (.iconst 0, 1) := by decide +kernel
theorem dX6_grantsOrder_56 : decode cX6_grantsOrder 56 = .ok (.iaload, 1) := by decide +kernel
theorem dX6_grantsOrder_57 : decode cX6_grantsOrder 57 = .ok (.aload_n 0, 1) := by decide +kernel
theorem dX6_grantsOrder_58 : decode cX6_grantsOrder 58 = .ok (.getfield 28, 3) := by decide +kernel
theorem dX6_grantsOrder_61 : decode cX6_grantsOrder 61 = .ok (.iconst 2, 1) := by decide +kernel
theorem dX6_grantsOrder_62 : decode cX6_grantsOrder 62 = .ok (.iaload, 1) := by decide +kernel
theorem dX6_grantsOrder_63 : decode cX6_grantsOrder 63 = .ok (.aload_n 0, 1) := by decide +kernel
theorem dX6_grantsOrder_64 : decode cX6_grantsOrder 64 = .ok (.getfield 28, 3) := by decide +kernel
theorem dX6_grantsOrder_67 : decode cX6_grantsOrder 67 = .ok (.iconst 3, 1) := by decide +kernel
theorem dX6_grantsOrder_68 : decode cX6_grantsOrder 68 = .ok (.iaload, 1) := by decide +kernel
theorem dX6_grantsOrder_69 : decode cX6_grantsOrder 69 = .ok (.aload_n 0, 1) := by decide +kernel
theorem dX6_grantsOrder_70 : decode cX6_grantsOrder 70 = .ok (.getfield 28, 3) := by decide +kernel
theorem dX6_grantsOrder_73 : decode cX6_grantsOrder 73 = .ok (.iconst 4, 1) := by decide +kernel
theorem dX6_grantsOrder_74 : decode cX6_grantsOrder 74 = .ok (.iaload, 1) := by decide +kernel
theorem dX6_grantsOrder_75 : decode cX6_grantsOrder 75 = .ok (.invokevirtual 105, 3) := by decide +kernel
theorem dX6_grantsOrder_78 : decode cX6_grantsOrder 78 = .ok (.ifCond .ne 5, 3) := by decide +kernel
theorem dX6_grantsOrder_81 : decode cX6_grantsOrder 81 = .ok (.iconst 0, 1) := by decide +kernel
theorem dX6_grantsOrder_82 : decode cX6_grantsOrder 82 = .ok (.ireturn, 1) := by decide +kernel
theorem dX6_grantsOrder_83 : decode cX6_grantsOrder 83 = .ok (.aload_n 0, 1) := by decide +kernel
theorem dX6_grantsOrder_84 : decode cX6_grantsOrder 84 = .ok (.aload_n 0, 1) := by decide +kernel
theorem dX6_grantsOrder_85 : decode cX6_grantsOrder 85 = .ok (.getfield 28, 3) := by decide +kernel
theorem dX6_grantsOrder_88 : decode cX6_grantsOrder 88 = .ok (.iconst 0, 1) := by decide +kernel
theorem dX6_grantsOrder_89 : decode cX6_grantsOrder 89 = .ok (.iaload, 1) := by decide +kernel
theorem dX6_grantsOrder_90 : decode cX6_grantsOrder 90 = .ok (.aload_n 0, 1) := by decide +kernel
theorem dX6_grantsOrder_91 : decode cX6_grantsOrder 91 = .ok (.getfield 28, 3) := by decide +kernel
theorem dX6_grantsOrder_94 : decode cX6_grantsOrder 94 = .ok (.iconst 1, 1) := by decide +kernel
theorem dX6_grantsOrder_95 : decode cX6_grantsOrder 95 = .ok (.iaload, 1) := by decide +kernel
theorem dX6_grantsOrder_96 : decode cX6_grantsOrder 96 = .ok (.aload_n 0, 1) := by decide +kernel
theorem dX6_grantsOrder_97 : decode cX6_grantsOrder 97 = .ok (.getfield 28, 3) := by decide +kernel
theorem dX6_grantsOrder_100 : decode cX6_grantsOrder 100 = .ok (.iconst 2, 1) := by decide +kernel
theorem dX6_grantsOrder_101 : decode cX6_grantsOrder 101 = .ok (.iaload, 1) := by decide +kernel
theorem dX6_grantsOrder_102 : decode cX6_grantsOrder 102 = .ok (.aload_n 0, 1) := by decide +kernel
theorem dX6_grantsOrder_103 : decode cX6_grantsOrder 103 = .ok (.getfield 28, 3) := by decide +kernel
theorem dX6_grantsOrder_106 : decode cX6_grantsOrder 106 = .ok (.iconst 3, 1) := by decide +kernel
theorem dX6_grantsOrder_107 : decode cX6_grantsOrder 107 = .ok (.iaload, 1) := by decide +kernel
theorem dX6_grantsOrder_108 : decode cX6_grantsOrder 108 = .ok (.aload_n 0, 1) := by decide +kernel
theorem dX6_grantsOrder_109 : decode cX6_grantsOrder 109 = .ok (.getfield 28, 3) := by decide +kernel
theorem dX6_grantsOrder_112 : decode cX6_grantsOrder 112 = .ok (.iconst 4, 1) := by decide +kernel
theorem dX6_grantsOrder_113 : decode cX6_grantsOrder 113 = .ok (.iaload, 1) := by decide +kernel
theorem dX6_grantsOrder_114 : decode cX6_grantsOrder 114 = .ok (.invokevirtual 108, 3) := by decide +kernel
theorem dX6_grantsOrder_117 : decode cX6_grantsOrder 117 = .ok (.iconst 1, 1) := by decide +kernel
theorem dX6_grantsOrder_118 : decode cX6_grantsOrder 118 = .ok (.ireturn, 1) := by decide +kernel
set_option maxRecDepth 20000 in
theorem ggX6_does_X6_grantsOrder : GoodIn wsX6_does wsX6_grantsOrder := goodIn_r _ [7, 2, 8, 9, 10, 6, 11, 12, 13, 14, 15, 16, 17, 18, 19, 20, 21, 22, 23, 24, 25, 26, 27, 28, 29, 30, 31, 32, 33, 34, 35, 36, 37, 38, 39, 40, 41, 42, 43, 44, 45, 46, 47, 48, 49, 50, 51, 52, 53, 54, 55, 56, 105, 106, 107, 108, 109, 110, 111, 112, 113, 114, 115, 116, 117] (by decide +kernel) (by decide +kernel)
set_option maxRecDepth 20000 in
theorem gX6_does_X6_grantsOrder : GoodIn wsX6_does (wsV RX6 227 RX6 yX6_grantsOrder wsX6_grantsOrder) := goodIn_app (goodIn_of _ (by decide +kernel)) ggX6_does_X6_grantsOrder
set_option maxRecDepth 20000 in
theorem ggX6_does_X6_placeOf : GoodIn wsX6_does wsX6_placeOf := goodIn_r _ [60, 23, 37, 38, 39, 6, 40, 105, 106, 107, 108, 109, 110, 111, 112, 113, 114, 115, 116, 117] (by decide +kernel) (by decide +kernel)
set_option maxRecDepth 20000 in
theorem gX6_does_X6_placeOf : GoodIn wsX6_does (wsV RX6 116 RX6 yX6_placeOf wsX6_placeOf) := goodIn_app (goodIn_of _ (by decide +kernel)) ggX6_does_X6_placeOf
set_option maxRecDepth 20000 in
theorem ggX6_does_X6_revokes : GoodIn wsX6_does wsX6_revokes := goodIn_r _ [64, 23, 65, 66, 67, 6, 68, 28, 29, 30, 31, 32, 33, 34, 35, 36, 37, 38, 39, 40, 41, 42, 43, 44, 45, 46, 47, 48, 49, 50, 51, 52, 69, 70, 71, 72, 73, 74, 75, 76, 77, 78, 79, 105, 106, 107, 108, 109, 110, 111, 112, 113, 114, 115, 116, 117] (by decide +kernel) (by decide +kernel)
set_option maxRecDepth 20000 in
theorem gX6_does_X6_revokes : GoodIn wsX6_does (wsV RX6 119 RX6 yX6_revokes wsX6_revokes) := goodIn_app (goodIn_of _ (by decide +kernel)) ggX6_does_X6_revokes
set_option maxRecDepth 20000 in
theorem ggX6_does_X6_cheers : GoodIn wsX6_does wsX6_cheers := goodIn_r _ [83, 23, 84, 85, 86, 6, 87, 37, 38, 39, 40, 88, 89, 90, 91, 76, 77, 78, 79, 105, 106, 107, 108, 109, 110, 111, 112, 113, 114, 115, 116, 117] (by decide +kernel) (by decide +kernel)
set_option maxRecDepth 20000 in
theorem gX6_does_X6_cheers : GoodIn wsX6_does (wsV RX6 127 RX6 yX6_cheers wsX6_cheers) := goodIn_app (goodIn_of _ (by decide +kernel)) ggX6_does_X6_cheers
set_option maxRecDepth 20000 in
theorem ggX6_does_X6_mayPass : GoodIn wsX6_does wsX6_mayPass := goodIn_r _ [95, 23, 96, 105, 106, 107, 108, 109, 110, 111, 112, 113, 114, 115, 116, 117] (by decide +kernel) (by decide +kernel)
set_option maxRecDepth 20000 in
theorem gX6_does_X6_mayPass : GoodIn wsX6_does (wsV RX6 135 RX6 yX6_mayPass wsX6_mayPass) := goodIn_app (goodIn_of _ (by decide +kernel)) ggX6_does_X6_mayPass
set_option maxRecDepth 20000 in
theorem ggX6_does_X6_ticks : GoodIn wsX6_does wsX6_ticks := goodIn_r _ [100, 101, 102, 103, 6, 104, 23, 84, 85, 86, 87, 37, 38, 39, 40, 88, 89, 90, 91, 76, 77, 78, 79, 105, 106, 107, 108, 109, 110, 111, 112, 113, 114, 115, 116, 117] (by decide +kernel) (by decide +kernel)
set_option maxRecDepth 20000 in
theorem gX6_does_X6_ticks : GoodIn wsX6_does (wsV RX6 138 RX6 yX6_ticks wsX6_ticks) := goodIn_app (goodIn_of _ (by decide +kernel)) ggX6_does_X6_ticks
theorem dX6_does_0 : decode cX6_does 0 = .ok (.iconst 0, 1) := by decide +kernel
theorem dX6_does_1 : decode cX6_does 1 = .ok (.istore_n 1, 1) := by decide +kernel
theorem dX6_does_2 : decode cX6_does 2 = .ok (.aload_n 0, 1) := by decide +kernel
theorem dX6_does_3 : decode cX6_does 3 = .ok (.getfield 208, 3) := by decide +kernel
theorem dX6_does_6 : decode cX6_does 6 = .ok (.lookupswitch 97 #[(99, 72), (103, 34), (118, 39)], 34) := by decide +kernel
theorem dX6_does_40 : decode cX6_does 40 = .ok (.aload_n 0, 1) := by decide +kernel
theorem dX6_does_41 : decode cX6_does 41 = .ok (.invokevirtual 227, 3) := by decide +kernel
theorem dX6_does_44 : decode cX6_does 44 = .ok (.ireturn, 1) := by decide +kernel
theorem dX6_does_45 : decode cX6_does 45 = .ok (.aload_n 0, 1) := by decide +kernel
theorem dX6_does_46 : decode cX6_does 46 = .ok (.aload_n 0, 1) := by decide +kernel
theorem dX6_does_47 : decode cX6_does 47 = .ok (.getfield 28, 3) := by decide +kernel
theorem dX6_does_50 : decode cX6_does 50 = .ok (.iconst 0, 1) := by decide +kernel
theorem dX6_does_51 : decode cX6_does 51 = .ok (.iaload, 1) := by decide +kernel
theorem dX6_does_52 : decode cX6_does 52 = .ok (.invokevirtual 116, 3) := by decide +kernel
theorem dX6_does_55 : decode cX6_does 55 = .ok (.iconst (-1), 1) := by decide +kernel
theorem dX6_does_56 : decode cX6_does 56 = .ok (.if_icmp .ne 5, 3) := by decide +kernel
theorem dX6_does_59 : decode cX6_does 59 = .ok (.iconst 0, 1) := by decide +kernel
theorem dX6_does_60 : decode cX6_does 60 = .ok (.ireturn, 1) := by decide +kernel
theorem dX6_does_61 : decode cX6_does 61 = .ok (.aload_n 0, 1) := by decide +kernel
theorem dX6_does_62 : decode cX6_does 62 = .ok (.aload_n 0, 1) := by decide +kernel
theorem dX6_does_63 : decode cX6_does 63 = .ok (.aload_n 0, 1) := by decide +kernel
theorem dX6_does_64 : decode cX6_does 64 = .ok (.getfield 28, 3) := by decide +kernel
theorem dX6_does_67 : decode cX6_does 67 = .ok (.iconst 0, 1) := by decide +kernel
theorem dX6_does_68 : decode cX6_does 68 = .ok (.iaload, 1) := by decide +kernel
theorem dX6_does_69 : decode cX6_does 69 = .ok (.invokevirtual 116, 3) := by decide +kernel
theorem dX6_does_72 : decode cX6_does 72 = .ok (.invokevirtual 119, 3) := by decide +kernel
theorem dX6_does_75 : decode cX6_does 75 = .ok (.istore_n 1, 1) := by decide +kernel
theorem dX6_does_76 : decode cX6_does 76 = .ok (.iconst 1, 1) := by decide +kernel
theorem dX6_does_77 : decode cX6_does 77 = .ok (.ireturn, 1) := by decide +kernel
theorem dX6_does_78 : decode cX6_does 78 = .ok (.aload_n 0, 1) := by decide +kernel
theorem dX6_does_79 : decode cX6_does 79 = .ok (.aload_n 0, 1) := by decide +kernel
theorem dX6_does_80 : decode cX6_does 80 = .ok (.getfield 28, 3) := by decide +kernel
theorem dX6_does_83 : decode cX6_does 83 = .ok (.iconst 0, 1) := by decide +kernel
theorem dX6_does_84 : decode cX6_does 84 = .ok (.iaload, 1) := by decide +kernel
theorem dX6_does_85 : decode cX6_does 85 = .ok (.aload_n 0, 1) := by decide +kernel
theorem dX6_does_86 : decode cX6_does 86 = .ok (.getfield 28, 3) := by decide +kernel
theorem dX6_does_89 : decode cX6_does 89 = .ok (.iconst 2, 1) := by decide +kernel
theorem dX6_does_90 : decode cX6_does 90 = .ok (.iaload, 1) := by decide +kernel
theorem dX6_does_91 : decode cX6_does 91 = .ok (.aload_n 0, 1) := by decide +kernel
theorem dX6_does_92 : decode cX6_does 92 = .ok (.getfield 28, 3) := by decide +kernel
theorem dX6_does_95 : decode cX6_does 95 = .ok (.iconst 1, 1) := by decide +kernel
theorem dX6_does_96 : decode cX6_does 96 = .ok (.iaload, 1) := by decide +kernel
theorem dX6_does_97 : decode cX6_does 97 = .ok (.imul, 1) := by decide +kernel
theorem dX6_does_98 : decode cX6_does 98 = .ok (.invokevirtual 127, 3) := by decide +kernel
theorem dX6_does_101 : decode cX6_does 101 = .ok (.iconst 1, 1) := by decide +kernel
theorem dX6_does_102 : decode cX6_does 102 = .ok (.ireturn, 1) := by decide +kernel
theorem dX6_does_103 : decode cX6_does 103 = .ok (.aload_n 0, 1) := by decide +kernel
theorem dX6_does_104 : decode cX6_does 104 = .ok (.aload_n 0, 1) := by decide +kernel
theorem dX6_does_105 : decode cX6_does 105 = .ok (.getfield 28, 3) := by decide +kernel
theorem dX6_does_108 : decode cX6_does 108 = .ok (.iconst 0, 1) := by decide +kernel
theorem dX6_does_109 : decode cX6_does 109 = .ok (.iaload, 1) := by decide +kernel
theorem dX6_does_110 : decode cX6_does 110 = .ok (.invokevirtual 135, 3) := by decide +kernel
theorem dX6_does_113 : decode cX6_does 113 = .ok (.ifCond .ne 5, 3) := by decide +kernel
theorem dX6_does_116 : decode cX6_does 116 = .ok (.iconst 0, 1) := by decide +kernel
theorem dX6_does_117 : decode cX6_does 117 = .ok (.ireturn, 1) := by decide +kernel
theorem dX6_does_118 : decode cX6_does 118 = .ok (.aload_n 0, 1) := by decide +kernel
theorem dX6_does_119 : decode cX6_does 119 = .ok (.aload_n 0, 1) := by decide +kernel
theorem dX6_does_120 : decode cX6_does 120 = .ok (.getfield 28, 3) := by decide +kernel
theorem dX6_does_123 : decode cX6_does 123 = .ok (.iconst 0, 1) := by decide +kernel
theorem dX6_does_124 : decode cX6_does 124 = .ok (.iaload, 1) := by decide +kernel
theorem dX6_does_125 : decode cX6_does 125 = .ok (.invokevirtual 138, 3) := by decide +kernel
theorem dX6_does_128 : decode cX6_does 128 = .ok (.istore_n 1, 1) := by decide +kernel
theorem dX6_does_129 : decode cX6_does 129 = .ok (.iconst 1, 1) := by decide +kernel
theorem dX6_does_130 : decode cX6_does 130 = .ok (.ireturn, 1) := by decide +kernel
set_option maxRecDepth 20000 in
theorem ggX6_carryOut_X6_takesOrder : GoodIn wsX6_carryOut wsX6_takesOrder := goodIn_r _ [8, 9, 2, 10, 11, 12, 7, 13, 3, 14, 15, 16, 17, 18, 19, 20, 21, 22, 23, 24, 25, 26, 27, 28, 29, 30, 31, 32, 33, 34, 35, 36, 37, 38, 39, 40, 149, 150, 151, 152, 153, 154, 155, 156, 157, 158, 159, 160, 161] (by decide +kernel) (by decide +kernel)
set_option maxRecDepth 20000 in
theorem gX6_carryOut_X6_takesOrder : GoodIn wsX6_carryOut (wsV RX6 230 RX6 yX6_takesOrder wsX6_takesOrder) := goodIn_app (goodIn_of _ (by decide +kernel)) ggX6_carryOut_X6_takesOrder
set_option maxRecDepth 20000 in
theorem ggX6_carryOut_X6_save : GoodIn wsX6_carryOut wsX6_save := goodIn_r _ [44, 45, 46, 47, 149, 150, 151, 152, 153, 154, 155, 156, 157, 158, 159, 160, 161] (by decide +kernel) (by decide +kernel)
set_option maxRecDepth 20000 in
theorem gX6_carryOut_X6_save : GoodIn wsX6_carryOut (wsV RX6 86 RX6 yX6_save wsX6_save) := goodIn_app (goodIn_of _ (by decide +kernel)) ggX6_carryOut_X6_save
set_option maxRecDepth 20000 in
theorem ggX6_carryOut_X6_does : GoodIn wsX6_carryOut wsX6_does := goodIn_r _ [51, 9, 23, 52, 53, 54, 7, 55, 56, 57, 58, 59, 60, 61, 62, 63, 24, 25, 26, 64, 65, 66, 67, 47, 68, 69, 70, 71, 72, 73, 74, 75, 76, 77, 78, 79, 80, 81, 82, 83, 84, 85, 86, 87, 88, 89, 90, 91, 92, 93, 94, 95, 96, 97, 98, 99, 100, 101, 102, 103, 104, 105, 106, 107, 108, 109, 110, 111, 112, 113, 114, 115, 116, 117, 118, 119, 120, 121, 122, 123, 124, 125, 126, 127, 128, 129, 130, 131, 132, 133, 134, 135, 136, 137, 138, 139, 140, 141, 142, 143, 144, 145, 146, 147, 148, 149, 150, 151, 152, 153, 154, 155, 156, 157, 158, 159, 160, 161] (by decide +kernel) (by decide +kernel)
set_option maxRecDepth 20000 in
theorem gX6_carryOut_X6_does : GoodIn wsX6_carryOut (wsV RX6 233 RX6 yX6_does wsX6_does) := goodIn_app (goodIn_of _ (by decide +kernel)) ggX6_carryOut_X6_does
theorem dX6_carryOut_0 : decode cX6_carryOut 0 = .ok (.aload_n 0, 1) := by decide +kernel
theorem dX6_carryOut_1 : decode cX6_carryOut 1 = .ok (.iconst 0, 1) := by decide +kernel
theorem dX6_carryOut_2 : decode cX6_carryOut 2 = .ok (.putfield 31, 3) := by decide +kernel
theorem dX6_carryOut_5 : decode cX6_carryOut 5 = .ok (.aload_n 0, 1) := by decide +kernel
theorem dX6_carryOut_6 : decode cX6_carryOut 6 = .ok (.iconst 0, 1) := by decide +kernel
theorem dX6_carryOut_7 : decode cX6_carryOut 7 = .ok (.putfield 198, 3) := by decide +kernel
theorem dX6_carryOut_10 : decode cX6_carryOut 10 = .ok (.aload_n 0, 1) := by decide +kernel
theorem dX6_carryOut_11 : decode cX6_carryOut 11 = .ok (.getfield 198, 3) := by decide +kernel
theorem dX6_carryOut_14 : decode cX6_carryOut 14 = .ok (.aload_n 0, 1) := by decide +kernel
theorem dX6_carryOut_15 : decode cX6_carryOut 15 = .ok (.getfield 195, 3) := by decide +kernel
theorem dX6_carryOut_18 : decode cX6_carryOut 18 = .ok (.if_icmp .ge 18, 3) := by decide +kernel
theorem dX6_carryOut_21 : decode cX6_carryOut 21 = .ok (.aload_n 0, 1) := by decide +kernel
theorem dX6_carryOut_22 : decode cX6_carryOut 22 = .ok (.invokevirtual 230, 3) := by decide +kernel
theorem dX6_carryOut_25 : decode cX6_carryOut 25 = .ok (.ifCond .ne (-15), 3) := by decide +kernel
theorem dX6_carryOut_28 : decode cX6_carryOut 28 = .ok (.bipush (-10), 2) := by decide +kernel
theorem dX6_carryOut_30 : decode cX6_carryOut 30 = .ok (.aload_n 0, 1) := by decide +kernel
theorem dX6_carryOut_31 : decode cX6_carryOut 31 = .ok (.getfield 198, 3) := by decide +kernel
theorem dX6_carryOut_34 : decode cX6_carryOut 34 = .ok (.isub, 1) := by decide +kernel
theorem dX6_carryOut_35 : decode cX6_carryOut 35 = .ok (.ireturn, 1) := by decide +kernel
theorem dX6_carryOut_36 : decode cX6_carryOut 36 = .ok (.aload_n 0, 1) := by decide +kernel
theorem dX6_carryOut_37 : decode cX6_carryOut 37 = .ok (.invokevirtual 86, 3) := by decide +kernel
theorem dX6_carryOut_40 : decode cX6_carryOut 40 = .ok (.aload_n 0, 1) := by decide +kernel
theorem dX6_carryOut_41 : decode cX6_carryOut 41 = .ok (.iconst 0, 1) := by decide +kernel
theorem dX6_carryOut_42 : decode cX6_carryOut 42 = .ok (.putfield 198, 3) := by decide +kernel
theorem dX6_carryOut_45 : decode cX6_carryOut 45 = .ok (.iconst 0, 1) := by decide +kernel
theorem dX6_carryOut_46 : decode cX6_carryOut 46 = .ok (.istore_n 1, 1) := by decide +kernel
theorem dX6_carryOut_47 : decode cX6_carryOut 47 = .ok (.aload_n 0, 1) := by decide +kernel
theorem dX6_carryOut_48 : decode cX6_carryOut 48 = .ok (.getfield 198, 3) := by decide +kernel
theorem dX6_carryOut_51 : decode cX6_carryOut 51 = .ok (.aload_n 0, 1) := by decide +kernel
theorem dX6_carryOut_52 : decode cX6_carryOut 52 = .ok (.getfield 195, 3) := by decide +kernel
theorem dX6_carryOut_55 : decode cX6_carryOut 55 = .ok (.if_icmp .ge 23, 3) := by decide +kernel
theorem dX6_carryOut_58 : decode cX6_carryOut 58 = .ok (.aload_n 0, 1) := by decide +kernel
theorem dX6_carryOut_59 : decode cX6_carryOut 59 = .ok (.invokevirtual 230, 3) := by decide +kernel
theorem dX6_carryOut_62 : decode cX6_carryOut 62 = .ok (.ifCond .eq 16, 3) := by decide +kernel
theorem dX6_carryOut_65 : decode cX6_carryOut 65 = .ok (.aload_n 0, 1) := by decide +kernel
theorem dX6_carryOut_66 : decode cX6_carryOut 66 = .ok (.invokevirtual 233, 3) := by decide +kernel
theorem dX6_carryOut_69 : decode cX6_carryOut 69 = .ok (.ifCond .eq 9, 3) := by decide +kernel
theorem dX6_carryOut_72 : decode cX6_carryOut 72 = .ok (.iinc 1 1, 3) := by decide +kernel
theorem dX6_carryOut_75 : decode cX6_carryOut 75 = .ok (.goto (-28), 3) := by decide +kernel
theorem dX6_carryOut_78 : decode cX6_carryOut 78 = .ok (.iload_n 1, 1) := by decide +kernel
theorem dX6_carryOut_79 : decode cX6_carryOut 79 = .ok (.ireturn, 1) := by decide +kernel
set_option maxRecDepth 20000 in
theorem ggX6_undo_X6_goes : GoodIn wsX6_undo wsX6_goes := goodIn_r _ [8, 9, 10, 11, 12, 13, 14, 15, 16, 17, 18, 19, 20, 21, 22] (by decide +kernel) (by decide +kernel)
set_option maxRecDepth 20000 in
theorem gX6_undo_X6_goes : GoodIn wsX6_undo (wsV RX6 82 RX6 yX6_goes wsX6_goes) := goodIn_app (goodIn_of _ (by decide +kernel)) ggX6_undo_X6_goes
theorem dX6_undo_0 : decode cX6_undo 0 = .ok (.aload_n 0, 1) := by decide +kernel
theorem dX6_undo_1 : decode cX6_undo 1 = .ok (.aload_n 0, 1) := by decide +kernel
theorem dX6_undo_2 : decode cX6_undo 2 = .ok (.getfield 35, 3) := by decide +kernel
theorem dX6_undo_5 : decode cX6_undo 5 = .ok (.ifCond .le 7, 3) := by decide +kernel
theorem dX6_undo_8 : decode cX6_undo 8 = .ok (.iconst 1, 1) := by decide +kernel
theorem dX6_undo_9 : decode cX6_undo 9 = .ok (.goto 4, 3) := by decide +kernel
theorem dX6_undo_12 : decode cX6_undo 12 = .ok (.iconst 0, 1) := by decide +kernel
theorem dX6_undo_13 : decode cX6_undo 13 = .ok (.iconst 1, 1) := by decide +kernel
theorem dX6_undo_14 : decode cX6_undo 14 = .ok (.iconst 1, 1) := by decide +kernel
theorem dX6_undo_15 : decode cX6_undo 15 = .ok (.invokevirtual 82, 3) := by decide +kernel
theorem dX6_undo_18 : decode cX6_undo 18 = .ok (.ifCond .ne 5, 3) := by decide +kernel
theorem dX6_undo_21 : decode cX6_undo 21 = .ok (.iconst 0, 1) := by decide +kernel
theorem dX6_undo_22 : decode cX6_undo 22 = .ok (.ireturn, 1) := by decide +kernel
theorem dX6_undo_23 : decode cX6_undo 23 = .ok (.aload_n 0, 1) := by decide +kernel
theorem dX6_undo_24 : decode cX6_undo 24 = .ok (.dup, 1) := by decide +kernel
theorem dX6_undo_25 : decode cX6_undo 25 = .ok (.getfield 35, 3) := by decide +kernel
theorem dX6_undo_28 : decode cX6_undo 28 = .ok (.iconst 1, 1) := by decide +kernel
theorem dX6_undo_29 : decode cX6_undo 29 = .ok (.isub, 1) := by decide +kernel
theorem dX6_undo_30 : decode cX6_undo 30 = .ok (.putfield 35, 3) := by decide +kernel
theorem dX6_undo_33 : decode cX6_undo 33 = .ok (.iconst 0, 1) := by decide +kernel
theorem dX6_undo_34 : decode cX6_undo 34 = .ok (.istore_n 1, 1) := by decide +kernel
theorem dX6_undo_35 : decode cX6_undo 35 = .ok (.iload_n 1, 1) := by decide +kernel
theorem dX6_undo_36 : decode cX6_undo 36 = .ok (.sipush 320, 3) := by decide +kernel
theorem dX6_undo_39 : decode cX6_undo 39 = .ok (.if_icmp .ge 30, 3) := by decide +kernel
theorem dX6_undo_42 : decode cX6_undo 42 = .ok (.aload_n 0, 1) := by decide +kernel
theorem dX6_undo_43 : decode cX6_undo 43 = .ok (.getfield 7, 3) := by decide +kernel
theorem dX6_undo_46 : decode cX6_undo 46 = .ok (.iload_n 1, 1) := by decide +kernel
theorem dX6_undo_47 : decode cX6_undo 47 = .ok (.aload_n 0, 1) := by decide +kernel
theorem dX6_undo_48 : decode cX6_undo 48 = .ok (.getfield 13, 3) := by decide +kernel
theorem dX6_undo_51 : decode cX6_undo 51 = .ok (.sipush 320, 3) := by decide +kernel
theorem dX6_undo_54 : decode cX6_undo 54 = .ok (.aload_n 0, 1) := by decide +kernel
theorem dX6_undo_55 : decode cX6_undo 55 = .ok (.getfield 35, 3) := by decide +kernel
theorem dX6_undo_58 : decode cX6_undo 58 = .ok (.imul, 1) := by decide +kernel
theorem dX6_undo_59 : decode cX6_undo 59 = .ok (.iload_n 1, 1) := by decide +kernel
theorem dX6_undo_60 : decode cX6_undo 60 = .ok (.iadd, 1) := by decide +kernel
theorem dX6_undo_61 : decode cX6_undo 61 = .ok (.iaload, 1) := by decide +kernel
theorem dX6_undo_62 : decode cX6_undo 62 = .ok (.iastore, 1) := by decide +kernel
theorem dX6_undo_63 : decode cX6_undo 63 = .ok (.iinc 1 1, 3) := by decide +kernel
theorem dX6_undo_66 : decode cX6_undo 66 = .ok (.goto (-31), 3) := by decide +kernel
theorem dX6_undo_69 : decode cX6_undo 69 = .ok (.aload_n 0, 1) := by decide +kernel
theorem dX6_undo_70 : decode cX6_undo 70 = .ok (.getfield 35, 3) := by decide +kernel
theorem dX6_undo_73 : decode cX6_undo 73 = .ok (.ireturn, 1) := by decide +kernel
theorem dX6_adds_0 : decode cX6_adds 0 = .ok (.aload_n 0, 1) := by decide +kernel
theorem dX6_adds_1 : decode cX6_adds 1 = .ok (.ldc2_w 236, 3) := by decide +kernel
theorem dX6_adds_4 : decode cX6_adds 4 = .ok (.aload_n 0, 1) := by decide +kernel
theorem dX6_adds_5 : decode cX6_adds 5 = .ok (.getfield 238, 3) := by decide +kernel
theorem dX6_adds_8 : decode cX6_adds 8 = .ok (.lmul, 1) := by decide +kernel
theorem dX6_adds_9 : decode cX6_adds 9 = .ok (.iload_n 1, 1) := by decide +kernel
theorem dX6_adds_10 : decode cX6_adds 10 = .ok (.i2l, 1) := by decide +kernel
theorem dX6_adds_11 : decode cX6_adds 11 = .ok (.ladd, 1) := by decide +kernel
theorem dX6_adds_12 : decode cX6_adds 12 = .ok (.putfield 238, 3) := by decide +kernel
theorem dX6_adds_15 : decode cX6_adds 15 = .ok (.return_, 1) := by decide +kernel
set_option maxRecDepth 20000 in
theorem ggX6_digest_X6_adds : GoodIn wsX6_digest wsX6_adds := goodIn_r _ [11, 12, 3, 73, 74, 75, 76, 77, 78, 79, 80, 81, 82, 83, 84, 85] (by decide +kernel) (by decide +kernel)
set_option maxRecDepth 20000 in
theorem gX6_digest_X6_adds : GoodIn wsX6_digest (wsV RX6 244 RX6 yX6_adds wsX6_adds) := goodIn_app (goodIn_of _ (by decide +kernel)) ggX6_digest_X6_adds
set_option maxRecDepth 20000 in
theorem ggX6_digest_X6_numberOf : GoodIn wsX6_digest wsX6_numberOf := goodIn_r _ [16, 5, 17, 18, 19, 10, 20, 21, 22, 23, 24, 25, 26, 27, 28, 29, 30, 31, 32, 33, 34, 35, 36, 37, 38, 39, 40, 41, 42, 43, 44, 45, 46, 47, 48, 49, 50, 51, 52, 53, 54, 55, 56, 73, 74, 75, 76, 77, 78, 79, 80, 81, 82, 83, 84, 85] (by decide +kernel) (by decide +kernel)
set_option maxRecDepth 20000 in
theorem gX6_digest_X6_numberOf : GoodIn wsX6_digest (wsV RX6 179 RX6 yX6_numberOf wsX6_numberOf) := goodIn_app (goodIn_of _ (by decide +kernel)) ggX6_digest_X6_numberOf
set_option maxRecDepth 20000 in
theorem ggX6_digest_X6_lay : GoodIn wsX6_digest wsX6_lay := goodIn_r _ [24, 25, 5, 26, 27, 28, 10, 29, 30, 31, 32, 33, 34, 35, 36, 37, 38, 39, 40, 41, 42, 43, 44, 45, 73, 74, 75, 76, 77, 78, 79, 80, 81, 82, 83, 84, 85] (by decide +kernel) (by decide +kernel)
set_option maxRecDepth 20000 in
theorem gX6_digest_X6_lay : GoodIn wsX6_digest (wsV RX6 67 RX6 yX6_lay wsX6_lay) := goodIn_app (goodIn_of _ (by decide +kernel)) ggX6_digest_X6_lay
set_option maxRecDepth 20000 in
theorem ggX6_digest_X6_personValue : GoodIn wsX6_digest wsX6_personValue := goodIn_r _ [60, 5, 26, 27, 28, 10, 29, 38, 39, 40, 41, 25, 50, 51, 52, 61, 62, 63, 64, 30, 31, 32, 33, 73, 74, 75, 76, 77, 78, 79, 80, 81, 82, 83, 84, 85] (by decide +kernel) (by decide +kernel)
set_option maxRecDepth 20000 in
theorem gX6_digest_X6_personValue : GoodIn wsX6_digest (wsV RX6 146 RX6 yX6_personValue wsX6_personValue) := goodIn_app (goodIn_of _ (by decide +kernel)) ggX6_digest_X6_personValue
set_option maxRecDepth 20000 in
theorem ggX6_digest_X6_thingValue : GoodIn wsX6_digest wsX6_thingValue := goodIn_r _ [68, 5, 61, 62, 63, 10, 64, 30, 31, 32, 33, 46, 47, 48, 49, 38, 39, 40, 41, 25, 73, 74, 75, 76, 77, 78, 79, 80, 81, 82, 83, 84, 85] (by decide +kernel) (by decide +kernel)
set_option maxRecDepth 20000 in
theorem gX6_digest_X6_thingValue : GoodIn wsX6_digest (wsV RX6 151 RX6 yX6_thingValue wsX6_thingValue) := goodIn_app (goodIn_of _ (by decide +kernel)) ggX6_digest_X6_thingValue
set_option maxRecDepth 20000 in
theorem ggX6_digest_X6_of : GoodIn wsX6_digest wsX6_of := goodIn_r _ [33, 5, 73, 74, 75, 76, 77, 78, 79, 80, 81, 82, 83, 84, 85] (by decide +kernel) (by decide +kernel)
set_option maxRecDepth 20000 in
theorem gX6_digest_X6_of : GoodIn wsX6_digest (wsV RX6 44 RX6 yX6_of wsX6_of) := goodIn_app (goodIn_of _ (by decide +kernel)) ggX6_digest_X6_of
set_option maxRecDepth 20000 in
theorem ggX6_digest_X6_grantValue : GoodIn wsX6_digest wsX6_grantValue := goodIn_r _ [72, 30, 31, 32, 10, 33, 5, 34, 35, 36, 37, 38, 39, 40, 41, 25, 42, 43, 44, 45, 73, 74, 75, 76, 77, 78, 79, 80, 81, 82, 83, 84, 85] (by decide +kernel) (by decide +kernel)
set_option maxRecDepth 20000 in
theorem gX6_digest_X6_grantValue : GoodIn wsX6_digest (wsV RX6 154 RX6 yX6_grantValue wsX6_grantValue) := goodIn_app (goodIn_of _ (by decide +kernel)) ggX6_digest_X6_grantValue
theorem dX6_digest_0 : decode cX6_digest 0 = .ok (.aload_n 0, 1) := by decide +kernel
theorem dX6_digest_1 : decode cX6_digest 1 = .ok (.iconst 0, 1) := by decide +kernel
theorem dX6_digest_2 : decode cX6_digest 2 = .ok (.putfield 31, 3) := by decide +kernel
theorem dX6_digest_5 : decode cX6_digest 5 = .ok (.aload_n 0, 1) := by decide +kernel
theorem dX6_digest_6 : decode cX6_digest 6 = .ok (.ldc2_w 242, 3) := by decide +kernel
theorem dX6_digest_9 : decode cX6_digest 9 = .ok (.putfield 238, 3) := by decide +kernel
theorem dX6_digest_12 : decode cX6_digest 12 = .ok (.aload_n 0, 1) := by decide +kernel
theorem dX6_digest_13 : decode cX6_digest 13 = .ok (.aload_n 0, 1) := by decide +kernel
theorem dX6_digest_14 : decode cX6_digest 14 = .ok (.getfield 195, 3) := by decide +kernel
theorem dX6_digest_17 : decode cX6_digest 17 = .ok (.invokevirtual 244, 3) := by decide +kernel
theorem dX6_digest_20 : decode cX6_digest 20 = .ok (.iconst 0, 1) := by decide +kernel
theorem dX6_digest_21 : decode cX6_digest 21 = .ok (.istore_n 1, 1) := by decide +kernel
theorem dX6_digest_22 : decode cX6_digest 22 = .ok (.iload_n 1, 1) := by decide +kernel
theorem dX6_digest_23 : decode cX6_digest 23 = .ok (.bipush 9, 2) := by decide +kernel
theorem dX6_digest_25 : decode cX6_digest 25 = .ok (.if_icmp .ge 18, 3) := by decide +kernel
theorem dX6_digest_28 : decode cX6_digest 28 = .ok (.aload_n 0, 1) := by decide +kernel
theorem dX6_digest_29 : decode cX6_digest 29 = .ok (.aload_n 0, 1) := by decide +kernel
theorem dX6_digest_30 : decode cX6_digest 30 = .ok (.iload_n 1, 1) := by decide +kernel
theorem dX6_digest_31 : decode cX6_digest 31 = .ok (.invokevirtual 179, 3) := by decide +kernel
theorem dX6_digest_34 : decode cX6_digest 34 = .ok (.invokevirtual 244, 3) := by decide +kernel
theorem dX6_digest_37 : decode cX6_digest 37 = .ok (.iinc 1 1, 3) := by decide +kernel
theorem dX6_digest_40 : decode cX6_digest 40 = .ok (.goto (-18), 3) := by decide +kernel
theorem dX6_digest_43 : decode cX6_digest 43 = .ok (.aload_n 0, 1) := by decide +kernel
theorem dX6_digest_44 : decode cX6_digest 44 = .ok (.invokevirtual 67, 3) := by decide +kernel
theorem dX6_digest_47 : decode cX6_digest 47 = .ok (.iconst 0, 1) := by decide +kernel
theorem dX6_digest_48 : decode cX6_digest 48 = .ok (.istore_n 1, 1) := by decide +kernel
theorem dX6_digest_49 : decode cX6_digest 49 = .ok (.iload_n 1, 1) := by decide +kernel
theorem dX6_digest_50 : decode cX6_digest 50 = .ok (.bipush 70, 2) := by decide +kernel
theorem dX6_digest_52 : decode cX6_digest 52 = .ok (.if_icmp .ge 25, 3) := by decide +kernel
theorem dX6_digest_55 : decode cX6_digest 55 = .ok (.aload_n 0, 1) := by decide +kernel
theorem dX6_digest_56 : decode cX6_digest 56 = .ok (.aload_n 0, 1) := by decide +kernel
theorem dX6_digest_57 : decode cX6_digest 57 = .ok (.iload_n 1, 1) := by decide +kernel
theorem dX6_digest_58 : decode cX6_digest 58 = .ok (.bipush 7, 2) := by decide +kernel
theorem dX6_digest_60 : decode cX6_digest 60 = .ok (.idiv, 1) := by decide +kernel
theorem dX6_digest_61 : decode cX6_digest 61 = .ok (.iload_n 1, 1) := by decide +kernel
theorem dX6_digest_62 : decode cX6_digest 62 = .ok (.bipush 7, 2) := by decide +kernel
theorem dX6_digest_64 : decode cX6_digest 64 = .ok (.irem, 1) := by decide +kernel
theorem dX6_digest_65 : decode cX6_digest 65 = .ok (.invokevirtual 146, 3) := by decide +kernel
theorem dX6_digest_68 : decode cX6_digest 68 = .ok (.invokevirtual 244, 3) := by decide +kernel
theorem dX6_digest_71 : decode cX6_digest 71 = .ok (.iinc 1 1, 3) := by decide +kernel
theorem dX6_digest_74 : decode cX6_digest 74 = .ok (.goto (-25), 3) := by decide +kernel
theorem dX6_digest_77 : decode cX6_digest 77 = .ok (.iconst 0, 1) := by decide +kernel
theorem dX6_digest_78 : decode cX6_digest 78 = .ok (.istore_n 1, 1) := by decide +kernel
theorem dX6_digest_79 : decode cX6_digest 79 = .ok (.iload_n 1, 1) := by decide +kernel
theorem dX6_digest_80 : decode cX6_digest 80 = .ok (.bipush 6, 2) := by decide +kernel
theorem dX6_digest_82 : decode cX6_digest 82 = .ok (.aload_n 0, 1) := by decide +kernel
theorem dX6_digest_83 : decode cX6_digest 83 = .ok (.getfield 7, 3) := by decide +kernel
theorem dX6_digest_86 : decode cX6_digest 86 = .ok (.iconst 4, 1) := by decide +kernel
theorem dX6_digest_87 : decode cX6_digest 87 = .ok (.iaload, 1) := by decide +kernel
theorem dX6_digest_88 : decode cX6_digest 88 = .ok (.imul, 1) := by decide +kernel
theorem dX6_digest_89 : decode cX6_digest 89 = .ok (.if_icmp .ge 25, 3) := by decide +kernel
theorem dX6_digest_92 : decode cX6_digest 92 = .ok (.aload_n 0, 1) := by decide +kernel
theorem dX6_digest_93 : decode cX6_digest 93 = .ok (.aload_n 0, 1) := by decide +kernel
theorem dX6_digest_94 : decode cX6_digest 94 = .ok (.iload_n 1, 1) := by decide +kernel
theorem dX6_digest_95 : decode cX6_digest 95 = .ok (.bipush 6, 2) := by decide +kernel
theorem dX6_digest_97 : decode cX6_digest 97 = .ok (.idiv, 1) := by decide +kernel
theorem dX6_digest_98 : decode cX6_digest 98 = .ok (.iload_n 1, 1) := by decide +kernel
theorem dX6_digest_99 : decode cX6_digest 99 = .ok (.bipush 6, 2) := by decide +kernel
theorem dX6_digest_101 : decode cX6_digest 101 = .ok (.irem, 1) := by decide +kernel
theorem dX6_digest_102 : decode cX6_digest 102 = .ok (.invokevirtual 151, 3) := by decide +kernel
theorem dX6_digest_105 : decode cX6_digest 105 = .ok (.invokevirtual 244, 3) := by decide +kernel
theorem dX6_digest_108 : decode cX6_digest 108 = .ok (.iinc 1 1, 3) := by decide +kernel
theorem dX6_digest_111 : decode cX6_digest 111 = .ok (.goto (-32), 3) := by decide +kernel
theorem dX6_digest_114 : decode cX6_digest 114 = .ok (.iconst 0, 1) := by decide +kernel
theorem dX6_digest_115 : decode cX6_digest 115 = .ok (.istore_n 1, 1) := by decide +kernel
theorem dX6_digest_116 : decode cX6_digest 116 = .ok (.iload_n 1, 1) := by decide +kernel
theorem dX6_digest_117 : decode cX6_digest 117 = .ok (.aload_n 0, 1) := by decide +kernel
theorem dX6_digest_118 : decode cX6_digest 118 = .ok (.getfield 7, 3) := by decide +kernel
theorem dX6_digest_121 : decode cX6_digest 121 = .ok (.iconst 5, 1) := by decide +kernel
theorem dX6_digest_122 : decode cX6_digest 122 = .ok (.iaload, 1) := by decide +kernel
theorem dX6_digest_123 : decode cX6_digest 123 = .ok (.if_icmp .ge 43, 3) := by decide +kernel
theorem dX6_digest_126 : decode cX6_digest 126 = .ok (.aload_n 0, 1) := by decide +kernel
theorem dX6_digest_127 : decode cX6_digest 127 = .ok (.aload_n 0, 1) := by decide +kernel
theorem dX6_digest_128 : decode cX6_digest 128 = .ok (.iload_n 1, 1) := by decide +kernel
theorem dX6_digest_129 : decode cX6_digest 129 = .ok (.iconst 0, 1) := by decide +kernel
theorem dX6_digest_130 : decode cX6_digest 130 = .ok (.invokevirtual 44, 3) := by decide +kernel
theorem dX6_digest_133 : decode cX6_digest 133 = .ok (.invokevirtual 244, 3) := by decide +kernel
theorem dX6_digest_136 : decode cX6_digest 136 = .ok (.iconst 0, 1) := by decide +kernel
theorem dX6_digest_137 : decode cX6_digest 137 = .ok (.istore_n 2, 1) := by decide +kernel
theorem dX6_digest_138 : decode cX6_digest 138 = .ok (.iload_n 2, 1) := by decide +kernel
theorem dX6_digest_139 : decode cX6_digest 139 = .ok (.bipush 6, 2) := by decide +kernel
theorem dX6_digest_141 : decode cX6_digest 141 = .ok (.if_icmp .ge 19, 3) := by decide +kernel
theorem dX6_digest_144 : decode cX6_digest 144 = .ok (.aload_n 0, 1) := by decide +kernel
theorem dX6_digest_145 : decode cX6_digest 145 = .ok (.aload_n 0, 1) := by decide +kernel
theorem dX6_digest_146 : decode cX6_digest 146 = .ok (.iload_n 1, 1) := by decide +kernel
theorem dX6_digest_147 : decode cX6_digest 147 = .ok (.iload_n 2, 1) := by decide +kernel
theorem dX6_digest_148 : decode cX6_digest 148 = .ok (.invokevirtual 154, 3) := by decide +kernel
theorem dX6_digest_151 : decode cX6_digest 151 = .ok (.invokevirtual 244, 3) := by decide +kernel
theorem dX6_digest_154 : decode cX6_digest 154 = .ok (.iinc 2 1, 3) := by decide +kernel
theorem dX6_digest_157 : decode cX6_digest 157 = .ok (.goto (-19), 3) := by decide +kernel
theorem dX6_digest_160 : decode cX6_digest 160 = .ok (.iinc 1 1, 3) := by decide +kernel
theorem dX6_digest_163 : decode cX6_digest 163 = .ok (.goto (-47), 3) := by decide +kernel
theorem dX6_digest_166 : decode cX6_digest 166 = .ok (.iconst 0, 1) := by decide +kernel
theorem dX6_digest_167 : decode cX6_digest 167 = .ok (.istore_n 1, 1) := by decide +kernel
theorem dX6_digest_168 : decode cX6_digest 168 = .ok (.iload_n 1, 1) := by decide +kernel
theorem dX6_digest_169 : decode cX6_digest 169 = .ok (.iconst 3, 1) := by decide +kernel
theorem dX6_digest_170 : decode cX6_digest 170 = .ok (.aload_n 0, 1) := by decide +kernel
theorem dX6_digest_171 : decode cX6_digest 171 = .ok (.getfield 7, 3) := by decide +kernel
theorem dX6_digest_174 : decode cX6_digest 174 = .ok (.bipush 6, 2) := by decide +kernel
theorem dX6_digest_176 : decode cX6_digest 176 = .ok (.iaload, 1) := by decide +kernel
theorem dX6_digest_177 : decode cX6_digest 177 = .ok (.imul, 1) := by decide +kernel
theorem dX6_digest_178 : decode cX6_digest 178 = .ok (.if_icmp .ge 23, 3) := by decide +kernel
theorem dX6_digest_181 : decode cX6_digest 181 = .ok (.aload_n 0, 1) := by decide +kernel
theorem dX6_digest_182 : decode cX6_digest 182 = .ok (.aload_n 0, 1) := by decide +kernel
theorem dX6_digest_183 : decode cX6_digest 183 = .ok (.getfield 7, 3) := by decide +kernel
theorem dX6_digest_186 : decode cX6_digest 186 = .ok (.sipush 284, 3) := by decide +kernel
theorem dX6_digest_189 : decode cX6_digest 189 = .ok (.iload_n 1, 1) := by decide +kernel
theorem dX6_digest_190 : decode cX6_digest 190 = .ok (.iadd, 1) := by decide +kernel
theorem dX6_digest_191 : decode cX6_digest 191 = .ok (.iaload, 1) := by decide +kernel
theorem dX6_digest_192 : decode cX6_digest 192 = .ok (.invokevirtual 244, 3) := by decide +kernel
theorem dX6_digest_195 : decode cX6_digest 195 = .ok (.iinc 1 1, 3) := by decide +kernel
theorem dX6_digest_198 : decode cX6_digest 198 = .ok (.goto (-30), 3) := by decide +kernel
theorem dX6_digest_201 : decode cX6_digest 201 = .ok (.aload_n 0, 1) := by decide +kernel
theorem dX6_digest_202 : decode cX6_digest 202 = .ok (.aload_n 0, 1) := by decide +kernel
theorem dX6_digest_203 : decode cX6_digest 203 = .ok (.getfield 35, 3) := by decide +kernel
theorem dX6_digest_206 : decode cX6_digest 206 = .ok (.invokevirtual 244, 3) := by decide +kernel
theorem dX6_digest_209 : decode cX6_digest 209 = .ok (.aload_n 0, 1) := by decide +kernel
theorem dX6_digest_210 : decode cX6_digest 210 = .ok (.getfield 238, 3) := by decide +kernel
theorem dX6_digest_213 : decode cX6_digest 213 = .ok (.lreturn, 1) := by decide +kernel
theorem dJ6_bitCount_0f7a4_0 : decode cJ6_bitCount_0f7a4 0 = .ok (.iload_n 0, 1) := by decide +kernel
theorem dJ6_bitCount_0f7a4_1 : decode cJ6_bitCount_0f7a4 1 = .ok (.iload_n 0, 1) := by decide +kernel
theorem dJ6_bitCount_0f7a4_2 : decode cJ6_bitCount_0f7a4 2 = .ok (.iconst 1, 1) := by decide +kernel
theorem dJ6_bitCount_0f7a4_3 : decode cJ6_bitCount_0f7a4 3 = .ok (.iushr, 1) := by decide +kernel
theorem dJ6_bitCount_0f7a4_4 : decode cJ6_bitCount_0f7a4 4 = .ok (.ldc_w 265, 3) := by decide +kernel
theorem dJ6_bitCount_0f7a4_7 : decode cJ6_bitCount_0f7a4 7 = .ok (.iand, 1) := by decide +kernel
theorem dJ6_bitCount_0f7a4_8 : decode cJ6_bitCount_0f7a4 8 = .ok (.isub, 1) := by decide +kernel
theorem dJ6_bitCount_0f7a4_9 : decode cJ6_bitCount_0f7a4 9 = .ok (.istore_n 0, 1) := by decide +kernel
theorem dJ6_bitCount_0f7a4_10 : decode cJ6_bitCount_0f7a4 10 = .ok (.iload_n 0, 1) := by decide +kernel
theorem dJ6_bitCount_0f7a4_11 : decode cJ6_bitCount_0f7a4 11 = .ok (.ldc_w 266, 3) := by decide +kernel
theorem dJ6_bitCount_0f7a4_14 : decode cJ6_bitCount_0f7a4 14 = .ok (.iand, 1) := by decide +kernel
theorem dJ6_bitCount_0f7a4_15 : decode cJ6_bitCount_0f7a4 15 = .ok (.iload_n 0, 1) := by decide +kernel
theorem dJ6_bitCount_0f7a4_16 : decode cJ6_bitCount_0f7a4 16 = .ok (.iconst 2, 1) := by decide +kernel
theorem dJ6_bitCount_0f7a4_17 : decode cJ6_bitCount_0f7a4 17 = .ok (.iushr, 1) := by decide +kernel
theorem dJ6_bitCount_0f7a4_18 : decode cJ6_bitCount_0f7a4 18 = .ok (.ldc_w 266, 3) := by decide +kernel
theorem dJ6_bitCount_0f7a4_21 : decode cJ6_bitCount_0f7a4 21 = .ok (.iand, 1) := by decide +kernel
theorem dJ6_bitCount_0f7a4_22 : decode cJ6_bitCount_0f7a4 22 = .ok (.iadd, 1) := by decide +kernel
theorem dJ6_bitCount_0f7a4_23 : decode cJ6_bitCount_0f7a4 23 = .ok (.istore_n 0, 1) := by decide +kernel
theorem dJ6_bitCount_0f7a4_24 : decode cJ6_bitCount_0f7a4 24 = .ok (.iload_n 0, 1) := by decide +kernel
theorem dJ6_bitCount_0f7a4_25 : decode cJ6_bitCount_0f7a4 25 = .ok (.iload_n 0, 1) := by decide +kernel
theorem dJ6_bitCount_0f7a4_26 : decode cJ6_bitCount_0f7a4 26 = .ok (.iconst 4, 1) := by decide +kernel
theorem dJ6_bitCount_0f7a4_27 : decode cJ6_bitCount_0f7a4 27 = .ok (.iushr, 1) := by decide +kernel
theorem dJ6_bitCount_0f7a4_28 : decode cJ6_bitCount_0f7a4 28 = .ok (.iadd, 1) := by decide +kernel
theorem dJ6_bitCount_0f7a4_29 : decode cJ6_bitCount_0f7a4 29 = .ok (.ldc_w 267, 3) := by decide +kernel
theorem dJ6_bitCount_0f7a4_32 : decode cJ6_bitCount_0f7a4 32 = .ok (.iand, 1) := by decide +kernel
theorem dJ6_bitCount_0f7a4_33 : decode cJ6_bitCount_0f7a4 33 = .ok (.istore_n 0, 1) := by decide +kernel
theorem dJ6_bitCount_0f7a4_34 : decode cJ6_bitCount_0f7a4 34 = .ok (.iload_n 0, 1) := by decide +kernel
theorem dJ6_bitCount_0f7a4_35 : decode cJ6_bitCount_0f7a4 35 = .ok (.iload_n 0, 1) := by decide +kernel
theorem dJ6_bitCount_0f7a4_36 : decode cJ6_bitCount_0f7a4 36 = .ok (.bipush 8, 2) := by decide +kernel
theorem dJ6_bitCount_0f7a4_38 : decode cJ6_bitCount_0f7a4 38 = .ok (.iushr, 1) := by decide +kernel
theorem dJ6_bitCount_0f7a4_39 : decode cJ6_bitCount_0f7a4 39 = .ok (.iadd, 1) := by decide +kernel
theorem dJ6_bitCount_0f7a4_40 : decode cJ6_bitCount_0f7a4 40 = .ok (.istore_n 0, 1) := by decide +kernel
theorem dJ6_bitCount_0f7a4_41 : decode cJ6_bitCount_0f7a4 41 = .ok (.iload_n 0, 1) := by decide +kernel
theorem dJ6_bitCount_0f7a4_42 : decode cJ6_bitCount_0f7a4 42 = .ok (.iload_n 0, 1) := by decide +kernel
theorem dJ6_bitCount_0f7a4_43 : decode cJ6_bitCount_0f7a4 43 = .ok (.bipush 16, 2) := by decide +kernel
theorem dJ6_bitCount_0f7a4_45 : decode cJ6_bitCount_0f7a4 45 = .ok (.iushr, 1) := by decide +kernel
theorem dJ6_bitCount_0f7a4_46 : decode cJ6_bitCount_0f7a4 46 = .ok (.iadd, 1) := by decide +kernel
theorem dJ6_bitCount_0f7a4_47 : decode cJ6_bitCount_0f7a4 47 = .ok (.istore_n 0, 1) := by decide +kernel
theorem dJ6_bitCount_0f7a4_48 : decode cJ6_bitCount_0f7a4 48 = .ok (.iload_n 0, 1) := by decide +kernel
theorem dJ6_bitCount_0f7a4_49 : decode cJ6_bitCount_0f7a4 49 = .ok (.bipush 63, 2) := by decide +kernel
theorem dJ6_bitCount_0f7a4_51 : decode cJ6_bitCount_0f7a4 51 = .ok (.iand, 1) := by decide +kernel
theorem dJ6_bitCount_0f7a4_52 : decode cJ6_bitCount_0f7a4 52 = .ok (.ireturn, 1) := by decide +kernel
theorem dJ9_max_7cf53_0 : decode cJ9_max_7cf53 0 = .ok (.iload_n 0, 1) := by decide +kernel
theorem dJ9_max_7cf53_1 : decode cJ9_max_7cf53 1 = .ok (.iload_n 1, 1) := by decide +kernel
theorem dJ9_max_7cf53_2 : decode cJ9_max_7cf53 2 = .ok (.if_icmp .lt 7, 3) := by decide +kernel
theorem dJ9_max_7cf53_5 : decode cJ9_max_7cf53 5 = .ok (.iload_n 0, 1) := by decide +kernel
theorem dJ9_max_7cf53_6 : decode cJ9_max_7cf53 6 = .ok (.goto 4, 3) := by decide +kernel
theorem dJ9_max_7cf53_9 : decode cJ9_max_7cf53 9 = .ok (.iload_n 1, 1) := by decide +kernel
theorem dJ9_max_7cf53_10 : decode cJ9_max_7cf53 10 = .ok (.ireturn, 1) := by decide +kernel
theorem dJ9_min_7cf53_0 : decode cJ9_min_7cf53 0 = .ok (.iload_n 0, 1) := by decide +kernel
theorem dJ9_min_7cf53_1 : decode cJ9_min_7cf53 1 = .ok (.iload_n 1, 1) := by decide +kernel
theorem dJ9_min_7cf53_2 : decode cJ9_min_7cf53 2 = .ok (.if_icmp .gt 7, 3) := by decide +kernel
theorem dJ9_min_7cf53_5 : decode cJ9_min_7cf53 5 = .ok (.iload_n 0, 1) := by decide +kernel
theorem dJ9_min_7cf53_6 : decode cJ9_min_7cf53 6 = .ok (.goto 4, 3) := by decide +kernel
theorem dJ9_min_7cf53_9 : decode cJ9_min_7cf53 9 = .ok (.iload_n 1, 1) := by decide +kernel
theorem dJ9_min_7cf53_10 : decode cJ9_min_7cf53 10 = .ok (.ireturn, 1) := by decide +kernel
set_option maxRecDepth 20000 in
theorem ggL_addThing_X5_addThing : GoodIn wsL_addThing wsX5_addThing := goodIn_ca (goodIn_ca (goodIn_ca (goodIn_r _ [8, 9, 10, 11, 12, 13, 14, 15, 7, 16, 17, 18, 19, 20, 21, 22, 23, 24, 25, 26, 27, 28, 29, 30, 31, 32, 33, 34, 35, 36, 37, 38, 39, 40, 41, 42, 43, 44, 45, 46, 47, 48, 49, 50, 51, 52, 53, 54, 55, 56, 57, 58, 59, 60, 61, 62, 63, 64, 65, 66, 67, 68, 69, 70, 71, 72, 73, 74, 75, 76, 77, 78, 79, 80, 81, 82, 83, 84, 85, 86, 87, 88, 89, 90, 91, 92, 93, 94, 95, 96, 97, 98, 99, 100, 101, 102, 103, 104, 105, 106, 107, 108, 109, 110, 111, 112, 113, 114, 115, 116, 117, 118] (by decide +kernel) (by decide +kernel)) (goodIn_sub (fun _ h => List.mem_cons_of_mem _ (List.mem_append_left _ (List.mem_append_left _ (List.mem_append_right _ h)))) (by decide +kernel))) (goodIn_sub (fun _ h => List.mem_cons_of_mem _ (List.mem_append_left _ (List.mem_append_right _ h))) (by decide +kernel))) (goodIn_sub (fun _ h => List.mem_cons_of_mem _ (List.mem_append_right _ h)) (by decide +kernel))
set_option maxRecDepth 20000 in
theorem gL_addThing_X5_addThing : GoodIn wsL_addThing (wsV RL 7 RX5 yX5_addThing wsX5_addThing) := goodIn_app (goodIn_of _ (by decide +kernel)) ggL_addThing_X5_addThing
theorem dL_addThing_0 : decode cL_addThing 0 = .ok (.aload_n 3, 1) := by decide +kernel
theorem dL_addThing_1 : decode cL_addThing 1 = .ok (.iconst 0, 1) := by decide +kernel
theorem dL_addThing_2 : decode cL_addThing 2 = .ok (.aload_n 0, 1) := by decide +kernel
theorem dL_addThing_3 : decode cL_addThing 3 = .ok (.iload_n 1, 1) := by decide +kernel
theorem dL_addThing_4 : decode cL_addThing 4 = .ok (.iload_n 2, 1) := by decide +kernel
theorem dL_addThing_5 : decode cL_addThing 5 = .ok (.invokevirtual 7, 3) := by decide +kernel
theorem dL_addThing_8 : decode cL_addThing 8 = .ok (.i2l, 1) := by decide +kernel
theorem dL_addThing_9 : decode cL_addThing 9 = .ok (.lastore, 1) := by decide +kernel
theorem dL_addThing_10 : decode cL_addThing 10 = .ok (.goto 15, 3) := by decide +kernel
theorem dL_addThing_13 : decode cL_addThing 13 = .ok (.astore 4, 2) := by decide +kernel
theorem dL_addThing_15 : decode cL_addThing 15 = .ok (.iconst 1, 1) := by decide +kernel
theorem dL_addThing_16 : decode cL_addThing 16 = .ok (.ireturn, 1) := by decide +kernel
theorem dL_addThing_17 : decode cL_addThing 17 = .ok (.astore 4, 2) := by decide +kernel
theorem dL_addThing_19 : decode cL_addThing 19 = .ok (.iconst 2, 1) := by decide +kernel
theorem dL_addThing_20 : decode cL_addThing 20 = .ok (.ireturn, 1) := by decide +kernel
theorem dL_addThing_21 : decode cL_addThing 21 = .ok (.astore 4, 2) := by decide +kernel
theorem dL_addThing_23 : decode cL_addThing 23 = .ok (.iconst 3, 1) := by decide +kernel
theorem dL_addThing_24 : decode cL_addThing 24 = .ok (.ireturn, 1) := by decide +kernel
theorem dL_addThing_25 : decode cL_addThing 25 = .ok (.iconst 0, 1) := by decide +kernel
theorem dL_addThing_26 : decode cL_addThing 26 = .ok (.ireturn, 1) := by decide +kernel
set_option maxRecDepth 20000 in
theorem ggL_setMask_X5_setMask : GoodIn wsL_setMask wsX5_setMask := goodIn_ca (goodIn_ca (goodIn_r _ [7, 8, 9, 10, 11, 12, 6, 13, 14, 15, 16, 17, 18, 19, 20, 21, 22, 23, 24, 25, 26, 27, 28, 29, 30, 31, 32, 33, 34, 35, 36, 37, 38, 39, 40, 41, 42, 43, 44, 45, 46, 47, 48, 49, 50, 51, 52, 53, 54, 55, 56, 57, 58, 59, 60, 61, 62, 63, 64, 65, 66, 67, 68, 69, 70, 71, 72, 73, 74, 75, 76, 77, 78, 79, 80, 81, 82, 83, 84, 85, 86, 87, 88, 89, 90, 91, 92, 93, 94, 95, 96, 97, 98, 99, 100, 101, 102, 103, 104, 105, 106, 107, 108, 109] (by decide +kernel) (by decide +kernel)) (goodIn_sub (fun _ h => List.mem_cons_of_mem _ (List.mem_append_left _ (List.mem_append_right _ h))) (by decide +kernel))) (goodIn_sub (fun _ h => List.mem_cons_of_mem _ (List.mem_append_right _ h)) (by decide +kernel))
set_option maxRecDepth 20000 in
theorem gL_setMask_X5_setMask : GoodIn wsL_setMask (wsV RL 19 RX5 yX5_setMask wsX5_setMask) := goodIn_app (goodIn_of _ (by decide +kernel)) ggL_setMask_X5_setMask
theorem dL_setMask_0 : decode cL_setMask 0 = .ok (.aload_n 3, 1) := by decide +kernel
theorem dL_setMask_1 : decode cL_setMask 1 = .ok (.iconst 0, 1) := by decide +kernel
theorem dL_setMask_2 : decode cL_setMask 2 = .ok (.aload_n 0, 1) := by decide +kernel
theorem dL_setMask_3 : decode cL_setMask 3 = .ok (.iload_n 1, 1) := by decide +kernel
theorem dL_setMask_4 : decode cL_setMask 4 = .ok (.iload_n 2, 1) := by decide +kernel
theorem dL_setMask_5 : decode cL_setMask 5 = .ok (.invokevirtual 19, 3) := by decide +kernel
theorem dL_setMask_8 : decode cL_setMask 8 = .ok (.i2l, 1) := by decide +kernel
theorem dL_setMask_9 : decode cL_setMask 9 = .ok (.lastore, 1) := by decide +kernel
theorem dL_setMask_10 : decode cL_setMask 10 = .ok (.goto 11, 3) := by decide +kernel
theorem dL_setMask_13 : decode cL_setMask 13 = .ok (.astore 4, 2) := by decide +kernel
theorem dL_setMask_15 : decode cL_setMask 15 = .ok (.iconst 1, 1) := by decide +kernel
theorem dL_setMask_16 : decode cL_setMask 16 = .ok (.ireturn, 1) := by decide +kernel
theorem dL_setMask_17 : decode cL_setMask 17 = .ok (.astore 4, 2) := by decide +kernel
theorem dL_setMask_19 : decode cL_setMask 19 = .ok (.iconst 2, 1) := by decide +kernel
theorem dL_setMask_20 : decode cL_setMask 20 = .ok (.ireturn, 1) := by decide +kernel
theorem dL_setMask_21 : decode cL_setMask 21 = .ok (.iconst 0, 1) := by decide +kernel
theorem dL_setMask_22 : decode cL_setMask 22 = .ok (.ireturn, 1) := by decide +kernel
set_option maxRecDepth 20000 in
theorem ggL_setBase_X5_setBase : GoodIn wsL_setBase wsX5_setBase := goodIn_ca (goodIn_ca (goodIn_r _ [7, 8, 9, 10, 11, 12, 6, 13, 14, 15, 16, 17, 18, 19, 20, 21, 22, 23, 24, 25, 26, 27, 28, 29, 30, 31, 32, 33, 34, 35, 36, 37, 38, 39, 40, 41, 42, 43, 44, 45, 46, 47, 48, 49, 50, 51, 52, 53, 54, 55, 56, 57, 58, 59, 60, 61, 62, 63, 64, 65, 66, 67, 68, 69, 70, 71, 72, 73, 74, 75, 76, 77, 78, 79, 80, 81, 82, 83, 84, 85, 86, 87, 88] (by decide +kernel) (by decide +kernel)) (goodIn_sub (fun _ h => List.mem_cons_of_mem _ (List.mem_append_left _ (List.mem_append_right _ h))) (by decide +kernel))) (goodIn_sub (fun _ h => List.mem_cons_of_mem _ (List.mem_append_right _ h)) (by decide +kernel))
set_option maxRecDepth 20000 in
theorem gL_setBase_X5_setBase : GoodIn wsL_setBase (wsV RL 22 RX5 yX5_setBase wsX5_setBase) := goodIn_app (goodIn_of _ (by decide +kernel)) ggL_setBase_X5_setBase
theorem dL_setBase_0 : decode cL_setBase 0 = .ok (.aload_n 3, 1) := by decide +kernel
theorem dL_setBase_1 : decode cL_setBase 1 = .ok (.iconst 0, 1) := by decide +kernel
theorem dL_setBase_2 : decode cL_setBase 2 = .ok (.aload_n 0, 1) := by decide +kernel
theorem dL_setBase_3 : decode cL_setBase 3 = .ok (.iload_n 1, 1) := by decide +kernel
theorem dL_setBase_4 : decode cL_setBase 4 = .ok (.iload_n 2, 1) := by decide +kernel
theorem dL_setBase_5 : decode cL_setBase 5 = .ok (.invokevirtual 22, 3) := by decide +kernel
theorem dL_setBase_8 : decode cL_setBase 8 = .ok (.i2l, 1) := by decide +kernel
theorem dL_setBase_9 : decode cL_setBase 9 = .ok (.lastore, 1) := by decide +kernel
theorem dL_setBase_10 : decode cL_setBase 10 = .ok (.goto 11, 3) := by decide +kernel
theorem dL_setBase_13 : decode cL_setBase 13 = .ok (.astore 4, 2) := by decide +kernel
theorem dL_setBase_15 : decode cL_setBase 15 = .ok (.iconst 1, 1) := by decide +kernel
theorem dL_setBase_16 : decode cL_setBase 16 = .ok (.ireturn, 1) := by decide +kernel
theorem dL_setBase_17 : decode cL_setBase 17 = .ok (.astore 4, 2) := by decide +kernel
theorem dL_setBase_19 : decode cL_setBase 19 = .ok (.iconst 2, 1) := by decide +kernel
theorem dL_setBase_20 : decode cL_setBase 20 = .ok (.ireturn, 1) := by decide +kernel
theorem dL_setBase_21 : decode cL_setBase 21 = .ok (.iconst 0, 1) := by decide +kernel
theorem dL_setBase_22 : decode cL_setBase 22 = .ok (.ireturn, 1) := by decide +kernel
set_option maxRecDepth 20000 in
theorem ggL_give_X5_give : GoodIn wsL_give wsX5_give := goodIn_ca (goodIn_r _ [6, 7, 8, 9, 10, 5, 11, 12, 13, 14, 15, 16, 17, 18, 19, 20, 21, 22, 23, 24, 25, 26, 27, 28, 29, 30, 31, 32, 33, 34, 35, 36, 37, 38, 39, 40, 41, 42, 43, 44, 45, 46, 47, 48, 49, 50, 51, 52, 53, 54, 55, 56, 57, 58, 59, 60, 61, 62, 63, 64, 65, 66, 67, 68, 69, 70, 71, 72, 73, 74, 75, 76, 77, 78, 79, 80, 81, 82, 83, 84, 85, 86, 87, 88, 89, 90, 91, 92, 93, 94, 95, 96, 97, 98, 99, 100, 101, 102, 103, 104, 105, 106] (by decide +kernel) (by decide +kernel)) (goodIn_sub (fun _ h => List.mem_cons_of_mem _ (List.mem_append_right _ h)) (by decide +kernel))
set_option maxRecDepth 20000 in
theorem gL_give_X5_give : GoodIn wsL_give (wsV RL 25 RX5 yX5_give wsX5_give) := goodIn_app (goodIn_of _ (by decide +kernel)) ggL_give_X5_give
theorem dL_give_0 : decode cL_give 0 = .ok (.aload_n 3, 1) := by decide +kernel
theorem dL_give_1 : decode cL_give 1 = .ok (.iconst 0, 1) := by decide +kernel
theorem dL_give_2 : decode cL_give 2 = .ok (.aload_n 0, 1) := by decide +kernel
theorem dL_give_3 : decode cL_give 3 = .ok (.iload_n 1, 1) := by decide +kernel
theorem dL_give_4 : decode cL_give 4 = .ok (.iload_n 2, 1) := by decide +kernel
theorem dL_give_5 : decode cL_give 5 = .ok (.invokevirtual 25, 3) := by decide +kernel
theorem dL_give_8 : decode cL_give 8 = .ok (.i2l, 1) := by decide +kernel
theorem dL_give_9 : decode cL_give 9 = .ok (.lastore, 1) := by decide +kernel
theorem dL_give_10 : decode cL_give 10 = .ok (.goto 7, 3) := by decide +kernel
theorem dL_give_13 : decode cL_give 13 = .ok (.astore 4, 2) := by decide +kernel
theorem dL_give_15 : decode cL_give 15 = .ok (.iconst 1, 1) := by decide +kernel
theorem dL_give_16 : decode cL_give 16 = .ok (.ireturn, 1) := by decide +kernel
theorem dL_give_17 : decode cL_give 17 = .ok (.iconst 0, 1) := by decide +kernel
theorem dL_give_18 : decode cL_give 18 = .ok (.ireturn, 1) := by decide +kernel
set_option maxRecDepth 20000 in
theorem ggL_grant_X5_grant : GoodIn wsL_grant wsX5_grant := goodIn_ca (goodIn_ca (goodIn_ca (goodIn_r _ [8, 9, 10, 11, 12, 13, 14, 15, 16, 17, 18, 19, 20, 21, 7, 22, 23, 24, 25, 26, 27, 28, 29, 30, 31, 32, 33, 34, 35, 36, 37, 38, 39, 40, 41, 42, 43, 44, 45, 46, 47, 48, 49, 50, 51, 52, 53, 54, 55, 56, 57, 58, 59, 60, 61, 62, 63, 64, 65, 66, 67, 68, 69, 70, 71, 72, 73, 74, 75, 76, 77, 78, 79, 80, 81, 82, 83, 84, 85, 86, 87, 88, 89, 90, 91, 92, 93, 94, 95, 96, 97, 98, 99, 100, 101, 102, 103, 104, 105, 106, 107, 108, 109, 110, 111, 112, 113, 114, 115, 116, 117, 118, 119, 120, 121, 122] (by decide +kernel) (by decide +kernel)) (goodIn_sub (fun _ h => List.mem_cons_of_mem _ (List.mem_append_left _ (List.mem_append_left _ (List.mem_append_right _ h)))) (by decide +kernel))) (goodIn_sub (fun _ h => List.mem_cons_of_mem _ (List.mem_append_left _ (List.mem_append_right _ h))) (by decide +kernel))) (goodIn_sub (fun _ h => List.mem_cons_of_mem _ (List.mem_append_right _ h)) (by decide +kernel))
set_option maxRecDepth 20000 in
theorem gL_grant_X5_grant : GoodIn wsL_grant (wsV RL 28 RX5 yX5_grant wsX5_grant) := goodIn_app (goodIn_of _ (by decide +kernel)) ggL_grant_X5_grant
theorem dL_grant_0 : decode cL_grant 0 = .ok (.aload 6, 2) := by decide +kernel
theorem dL_grant_2 : decode cL_grant 2 = .ok (.iconst 0, 1) := by decide +kernel
theorem dL_grant_3 : decode cL_grant 3 = .ok (.aload_n 0, 1) := by decide +kernel
theorem dL_grant_4 : decode cL_grant 4 = .ok (.iload_n 1, 1) := by decide +kernel
theorem dL_grant_5 : decode cL_grant 5 = .ok (.iload_n 2, 1) := by decide +kernel
theorem dL_grant_6 : decode cL_grant 6 = .ok (.iload_n 3, 1) := by decide +kernel
theorem dL_grant_7 : decode cL_grant 7 = .ok (.iload 4, 2) := by decide +kernel
theorem dL_grant_9 : decode cL_grant 9 = .ok (.iload 5, 2) := by decide +kernel
theorem dL_grant_11 : decode cL_grant 11 = .ok (.invokevirtual 28, 3) := by decide +kernel
theorem dL_grant_14 : decode cL_grant 14 = .ok (.i2l, 1) := by decide +kernel
theorem dL_grant_15 : decode cL_grant 15 = .ok (.lastore, 1) := by decide +kernel
theorem dL_grant_16 : decode cL_grant 16 = .ok (.goto 15, 3) := by decide +kernel
theorem dL_grant_19 : decode cL_grant 19 = .ok (.astore 7, 2) := by decide +kernel
theorem dL_grant_21 : decode cL_grant 21 = .ok (.iconst 1, 1) := by decide +kernel
theorem dL_grant_22 : decode cL_grant 22 = .ok (.ireturn, 1) := by decide +kernel
theorem dL_grant_23 : decode cL_grant 23 = .ok (.astore 7, 2) := by decide +kernel
theorem dL_grant_25 : decode cL_grant 25 = .ok (.iconst 2, 1) := by decide +kernel
theorem dL_grant_26 : decode cL_grant 26 = .ok (.ireturn, 1) := by decide +kernel
theorem dL_grant_27 : decode cL_grant 27 = .ok (.astore 7, 2) := by decide +kernel
theorem dL_grant_29 : decode cL_grant 29 = .ok (.iconst 3, 1) := by decide +kernel
theorem dL_grant_30 : decode cL_grant 30 = .ok (.ireturn, 1) := by decide +kernel
theorem dL_grant_31 : decode cL_grant 31 = .ok (.iconst 0, 1) := by decide +kernel
theorem dL_grant_32 : decode cL_grant 32 = .ok (.ireturn, 1) := by decide +kernel
set_option maxRecDepth 20000 in
theorem ggL_revoke_X5_revoke : GoodIn wsL_revoke wsX5_revoke := goodIn_ca (goodIn_r _ [6, 7, 8, 9, 10, 11, 5, 12, 13, 14, 15, 16, 17, 18, 19, 20, 21, 22, 23, 24, 25, 26, 27, 28, 29, 30, 31, 32, 33, 34, 35, 36, 37, 38, 39, 40, 41, 42, 43, 44, 45, 46, 47, 48, 49, 50, 51, 52, 53, 54, 55, 56, 57, 58, 59, 60, 61, 62, 63, 64, 65, 66, 67, 68, 69, 70, 71, 72, 73, 74, 75, 76, 77, 78, 79, 80, 81, 82, 83, 84, 85, 86, 87, 88, 89, 90, 91, 92, 93, 94, 95, 96, 97, 98, 99, 100, 101, 102, 103, 104, 105, 106, 107, 108, 109, 110, 111, 112, 113, 114, 115] (by decide +kernel) (by decide +kernel)) (goodIn_sub (fun _ h => List.mem_cons_of_mem _ (List.mem_append_right _ h)) (by decide +kernel))
set_option maxRecDepth 20000 in
theorem gL_revoke_X5_revoke : GoodIn wsL_revoke (wsV RL 32 RX5 yX5_revoke wsX5_revoke) := goodIn_app (goodIn_of _ (by decide +kernel)) ggL_revoke_X5_revoke
theorem dL_revoke_0 : decode cL_revoke 0 = .ok (.aload_n 2, 1) := by decide +kernel
theorem dL_revoke_1 : decode cL_revoke 1 = .ok (.iconst 0, 1) := by decide +kernel
theorem dL_revoke_2 : decode cL_revoke 2 = .ok (.aload_n 0, 1) := by decide +kernel
theorem dL_revoke_3 : decode cL_revoke 3 = .ok (.iload_n 1, 1) := by decide +kernel
theorem dL_revoke_4 : decode cL_revoke 4 = .ok (.invokevirtual 32, 3) := by decide +kernel
theorem dL_revoke_7 : decode cL_revoke 7 = .ok (.i2l, 1) := by decide +kernel
theorem dL_revoke_8 : decode cL_revoke 8 = .ok (.lastore, 1) := by decide +kernel
theorem dL_revoke_9 : decode cL_revoke 9 = .ok (.goto 6, 3) := by decide +kernel
theorem dL_revoke_12 : decode cL_revoke 12 = .ok (.astore_n 3, 1) := by decide +kernel
theorem dL_revoke_13 : decode cL_revoke 13 = .ok (.iconst 1, 1) := by decide +kernel
theorem dL_revoke_14 : decode cL_revoke 14 = .ok (.ireturn, 1) := by decide +kernel
theorem dL_revoke_15 : decode cL_revoke 15 = .ok (.iconst 0, 1) := by decide +kernel
theorem dL_revoke_16 : decode cL_revoke 16 = .ok (.ireturn, 1) := by decide +kernel
set_option maxRecDepth 20000 in
theorem ggL_cheer_X5_cheer : GoodIn wsL_cheer wsX5_cheer := goodIn_ca (goodIn_ca (goodIn_r _ [7, 8, 9, 10, 11, 6, 12, 13, 14, 15, 16, 17, 18, 19, 20, 21, 22, 23, 24, 25, 26, 27, 28, 29, 30, 31, 32, 33, 34, 35, 36, 37, 38, 39, 40, 41, 42, 43, 44, 45, 46, 47, 48, 49, 50, 51, 52, 53, 54, 55, 56, 57, 58, 59, 60, 61, 62, 63, 64, 65, 66, 67, 68, 69, 70, 71, 72, 73, 74, 75, 76, 77, 78, 79, 80, 81, 82, 83, 84, 85, 86, 87, 88, 89, 90, 91, 92, 93, 94, 95, 96, 97, 98, 99, 100, 101, 102, 103, 104, 105, 106, 107, 108, 109, 110, 111, 112, 113, 114, 115, 116, 117, 118, 119, 120, 121, 122, 123, 124, 125, 126, 127, 128, 129, 130, 131, 132, 133, 134] (by decide +kernel) (by decide +kernel)) (goodIn_sub (fun _ h => List.mem_cons_of_mem _ (List.mem_append_left _ (List.mem_append_right _ h))) (by decide +kernel))) (goodIn_sub (fun _ h => List.mem_cons_of_mem _ (List.mem_append_right _ h)) (by decide +kernel))
set_option maxRecDepth 20000 in
theorem gL_cheer_X5_cheer : GoodIn wsL_cheer (wsV RL 38 RX5 yX5_cheer wsX5_cheer) := goodIn_app (goodIn_of _ (by decide +kernel)) ggL_cheer_X5_cheer
theorem dL_cheer_0 : decode cL_cheer 0 = .ok (.aload_n 3, 1) := by decide +kernel
theorem dL_cheer_1 : decode cL_cheer 1 = .ok (.iconst 0, 1) := by decide +kernel
theorem dL_cheer_2 : decode cL_cheer 2 = .ok (.aload_n 0, 1) := by decide +kernel
theorem dL_cheer_3 : decode cL_cheer 3 = .ok (.iload_n 1, 1) := by decide +kernel
theorem dL_cheer_4 : decode cL_cheer 4 = .ok (.iload_n 2, 1) := by decide +kernel
theorem dL_cheer_5 : decode cL_cheer 5 = .ok (.invokevirtual 38, 3) := by decide +kernel
theorem dL_cheer_8 : decode cL_cheer 8 = .ok (.i2l, 1) := by decide +kernel
theorem dL_cheer_9 : decode cL_cheer 9 = .ok (.lastore, 1) := by decide +kernel
theorem dL_cheer_10 : decode cL_cheer 10 = .ok (.goto 11, 3) := by decide +kernel
theorem dL_cheer_13 : decode cL_cheer 13 = .ok (.astore 4, 2) := by decide +kernel
theorem dL_cheer_15 : decode cL_cheer 15 = .ok (.iconst 1, 1) := by decide +kernel
theorem dL_cheer_16 : decode cL_cheer 16 = .ok (.ireturn, 1) := by decide +kernel
theorem dL_cheer_17 : decode cL_cheer 17 = .ok (.astore 4, 2) := by decide +kernel
theorem dL_cheer_19 : decode cL_cheer 19 = .ok (.iconst 2, 1) := by decide +kernel
theorem dL_cheer_20 : decode cL_cheer 20 = .ok (.ireturn, 1) := by decide +kernel
theorem dL_cheer_21 : decode cL_cheer 21 = .ok (.iconst 0, 1) := by decide +kernel
theorem dL_cheer_22 : decode cL_cheer 22 = .ok (.ireturn, 1) := by decide +kernel
set_option maxRecDepth 20000 in
theorem ggL_pass_X5_pass : GoodIn wsL_pass wsX5_pass := goodIn_ca (goodIn_ca (goodIn_r _ [7, 8, 9, 10, 11, 12, 13, 6, 14, 15, 16, 17, 18, 19, 20, 21, 22, 23, 24, 25, 26, 27, 28, 29, 30, 31, 32, 33, 34, 35, 36, 37, 38, 39, 40, 41, 42, 43, 44, 45, 46, 47, 48, 49, 50, 51, 52, 53, 54, 55, 56, 57, 58, 59, 60, 61, 62, 63, 64, 65, 66, 67, 68, 69, 70, 71, 72, 73, 74, 75, 76, 77, 78, 79, 80, 81, 82, 83, 84, 85, 86, 87, 88, 89, 90, 91, 92, 93, 94, 95, 96, 97, 98, 99, 100, 101, 102, 103, 104, 105, 106, 107, 108, 109, 110, 111, 112, 113, 114, 115, 116, 117, 118, 119, 120, 121, 122, 123, 124, 125, 126, 127, 128, 129, 130] (by decide +kernel) (by decide +kernel)) (goodIn_sub (fun _ h => List.mem_cons_of_mem _ (List.mem_append_left _ (List.mem_append_right _ h))) (by decide +kernel))) (goodIn_sub (fun _ h => List.mem_cons_of_mem _ (List.mem_append_right _ h)) (by decide +kernel))
set_option maxRecDepth 20000 in
theorem gL_pass_X5_pass : GoodIn wsL_pass (wsV RL 41 RX5 yX5_pass wsX5_pass) := goodIn_app (goodIn_of _ (by decide +kernel)) ggL_pass_X5_pass
theorem dL_pass_0 : decode cL_pass 0 = .ok (.aload_n 2, 1) := by decide +kernel
theorem dL_pass_1 : decode cL_pass 1 = .ok (.iconst 0, 1) := by decide +kernel
theorem dL_pass_2 : decode cL_pass 2 = .ok (.aload_n 0, 1) := by decide +kernel
theorem dL_pass_3 : decode cL_pass 3 = .ok (.iload_n 1, 1) := by decide +kernel
theorem dL_pass_4 : decode cL_pass 4 = .ok (.invokevirtual 41, 3) := by decide +kernel
theorem dL_pass_7 : decode cL_pass 7 = .ok (.i2l, 1) := by decide +kernel
theorem dL_pass_8 : decode cL_pass 8 = .ok (.lastore, 1) := by decide +kernel
theorem dL_pass_9 : decode cL_pass 9 = .ok (.goto 9, 3) := by decide +kernel
theorem dL_pass_12 : decode cL_pass 12 = .ok (.astore_n 3, 1) := by decide +kernel
theorem dL_pass_13 : decode cL_pass 13 = .ok (.iconst 1, 1) := by decide +kernel
theorem dL_pass_14 : decode cL_pass 14 = .ok (.ireturn, 1) := by decide +kernel
theorem dL_pass_15 : decode cL_pass 15 = .ok (.astore_n 3, 1) := by decide +kernel
theorem dL_pass_16 : decode cL_pass 16 = .ok (.iconst 2, 1) := by decide +kernel
theorem dL_pass_17 : decode cL_pass 17 = .ok (.ireturn, 1) := by decide +kernel
theorem dL_pass_18 : decode cL_pass 18 = .ok (.iconst 0, 1) := by decide +kernel
theorem dL_pass_19 : decode cL_pass 19 = .ok (.ireturn, 1) := by decide +kernel
set_option maxRecDepth 20000 in
theorem ggL_held_X5_held : GoodIn wsL_held wsX5_held := goodIn_ca (goodIn_r _ [6, 7, 8, 9, 5, 10, 11, 12, 13, 14, 15, 16, 17, 18, 19, 20, 21, 22, 23, 24, 25, 26, 27, 28, 29, 30, 31, 32, 33, 34, 35, 36, 37, 38, 39, 40, 41, 42, 43, 44, 45, 46, 47, 48, 49, 50, 51, 52, 53, 54, 55, 56, 57, 58, 59] (by decide +kernel) (by decide +kernel)) (goodIn_sub (fun _ h => List.mem_cons_of_mem _ (List.mem_append_right _ h)) (by decide +kernel))
set_option maxRecDepth 20000 in
theorem gL_held_X5_held : GoodIn wsL_held (wsV RL 44 RX5 yX5_held wsX5_held) := goodIn_app (goodIn_of _ (by decide +kernel)) ggL_held_X5_held
theorem dL_held_0 : decode cL_held 0 = .ok (.aload_n 3, 1) := by decide +kernel
theorem dL_held_1 : decode cL_held 1 = .ok (.iconst 0, 1) := by decide +kernel
theorem dL_held_2 : decode cL_held 2 = .ok (.aload_n 0, 1) := by decide +kernel
theorem dL_held_3 : decode cL_held 3 = .ok (.iload_n 1, 1) := by decide +kernel
theorem dL_held_4 : decode cL_held 4 = .ok (.iload_n 2, 1) := by decide +kernel
theorem dL_held_5 : decode cL_held 5 = .ok (.invokevirtual 44, 3) := by decide +kernel
theorem dL_held_8 : decode cL_held 8 = .ok (.i2l, 1) := by decide +kernel
theorem dL_held_9 : decode cL_held 9 = .ok (.lastore, 1) := by decide +kernel
theorem dL_held_10 : decode cL_held 10 = .ok (.goto 7, 3) := by decide +kernel
theorem dL_held_13 : decode cL_held 13 = .ok (.astore 4, 2) := by decide +kernel
theorem dL_held_15 : decode cL_held 15 = .ok (.iconst 1, 1) := by decide +kernel
theorem dL_held_16 : decode cL_held 16 = .ok (.ireturn, 1) := by decide +kernel
theorem dL_held_17 : decode cL_held 17 = .ok (.iconst 0, 1) := by decide +kernel
theorem dL_held_18 : decode cL_held 18 = .ok (.ireturn, 1) := by decide +kernel
set_option maxRecDepth 20000 in
theorem ggL_person_X5_person : GoodIn wsL_person wsX5_person := goodIn_ca (goodIn_ca (goodIn_r _ [7, 8, 9, 10, 6, 11, 12, 13, 14, 15, 16, 17, 18, 19, 20, 21, 22, 23, 24, 25, 26, 27, 28, 29, 30, 31, 32, 33, 34, 35, 36, 37, 38, 39, 40, 41, 42, 43, 44, 45, 46, 47, 48, 49, 50, 51, 52, 53, 54, 55, 56, 57, 58, 59, 60, 61, 62, 63, 64, 65, 66, 67, 68, 69, 70, 71, 72, 73, 74, 75, 76, 77] (by decide +kernel) (by decide +kernel)) (goodIn_sub (fun _ h => List.mem_cons_of_mem _ (List.mem_append_left _ (List.mem_append_right _ h))) (by decide +kernel))) (goodIn_sub (fun _ h => List.mem_cons_of_mem _ (List.mem_append_right _ h)) (by decide +kernel))
set_option maxRecDepth 20000 in
theorem gL_person_X5_person : GoodIn wsL_person (wsV RL 47 RX5 yX5_person wsX5_person) := goodIn_app (goodIn_of _ (by decide +kernel)) ggL_person_X5_person
theorem dL_person_0 : decode cL_person 0 = .ok (.aload_n 3, 1) := by decide +kernel
theorem dL_person_1 : decode cL_person 1 = .ok (.iconst 0, 1) := by decide +kernel
theorem dL_person_2 : decode cL_person 2 = .ok (.aload_n 0, 1) := by decide +kernel
theorem dL_person_3 : decode cL_person 3 = .ok (.iload_n 1, 1) := by decide +kernel
theorem dL_person_4 : decode cL_person 4 = .ok (.iload_n 2, 1) := by decide +kernel
theorem dL_person_5 : decode cL_person 5 = .ok (.invokevirtual 47, 3) := by decide +kernel
theorem dL_person_8 : decode cL_person 8 = .ok (.i2l, 1) := by decide +kernel
theorem dL_person_9 : decode cL_person 9 = .ok (.lastore, 1) := by decide +kernel
theorem dL_person_10 : decode cL_person 10 = .ok (.goto 11, 3) := by decide +kernel
theorem dL_person_13 : decode cL_person 13 = .ok (.astore 4, 2) := by decide +kernel
theorem dL_person_15 : decode cL_person 15 = .ok (.iconst 1, 1) := by decide +kernel
theorem dL_person_16 : decode cL_person 16 = .ok (.ireturn, 1) := by decide +kernel
theorem dL_person_17 : decode cL_person 17 = .ok (.astore 4, 2) := by decide +kernel
theorem dL_person_19 : decode cL_person 19 = .ok (.iconst 2, 1) := by decide +kernel
theorem dL_person_20 : decode cL_person 20 = .ok (.ireturn, 1) := by decide +kernel
theorem dL_person_21 : decode cL_person 21 = .ok (.iconst 0, 1) := by decide +kernel
theorem dL_person_22 : decode cL_person 22 = .ok (.ireturn, 1) := by decide +kernel
set_option maxRecDepth 20000 in
theorem ggL_thing_X5_thing : GoodIn wsL_thing wsX5_thing := goodIn_ca (goodIn_ca (goodIn_r _ [7, 8, 9, 10, 11, 6, 12, 13, 14, 15, 16, 17, 18, 19, 20, 21, 22, 23, 24, 25, 26, 27, 28, 29, 30, 31, 32, 33, 34, 35, 36, 37, 38, 39, 40, 41, 42, 43, 44, 45, 46, 47, 48, 49, 50, 51, 52, 53, 54, 55, 56, 57, 58, 59, 60, 61, 62, 63, 64, 65, 66, 67, 68, 69, 70, 71, 72] (by decide +kernel) (by decide +kernel)) (goodIn_sub (fun _ h => List.mem_cons_of_mem _ (List.mem_append_left _ (List.mem_append_right _ h))) (by decide +kernel))) (goodIn_sub (fun _ h => List.mem_cons_of_mem _ (List.mem_append_right _ h)) (by decide +kernel))
set_option maxRecDepth 20000 in
theorem gL_thing_X5_thing : GoodIn wsL_thing (wsV RL 50 RX5 yX5_thing wsX5_thing) := goodIn_app (goodIn_of _ (by decide +kernel)) ggL_thing_X5_thing
theorem dL_thing_0 : decode cL_thing 0 = .ok (.aload_n 3, 1) := by decide +kernel
theorem dL_thing_1 : decode cL_thing 1 = .ok (.iconst 0, 1) := by decide +kernel
theorem dL_thing_2 : decode cL_thing 2 = .ok (.aload_n 0, 1) := by decide +kernel
theorem dL_thing_3 : decode cL_thing 3 = .ok (.iload_n 1, 1) := by decide +kernel
theorem dL_thing_4 : decode cL_thing 4 = .ok (.iload_n 2, 1) := by decide +kernel
theorem dL_thing_5 : decode cL_thing 5 = .ok (.invokevirtual 50, 3) := by decide +kernel
theorem dL_thing_8 : decode cL_thing 8 = .ok (.i2l, 1) := by decide +kernel
theorem dL_thing_9 : decode cL_thing 9 = .ok (.lastore, 1) := by decide +kernel
theorem dL_thing_10 : decode cL_thing 10 = .ok (.goto 11, 3) := by decide +kernel
theorem dL_thing_13 : decode cL_thing 13 = .ok (.astore 4, 2) := by decide +kernel
theorem dL_thing_15 : decode cL_thing 15 = .ok (.iconst 1, 1) := by decide +kernel
theorem dL_thing_16 : decode cL_thing 16 = .ok (.ireturn, 1) := by decide +kernel
theorem dL_thing_17 : decode cL_thing 17 = .ok (.astore 4, 2) := by decide +kernel
theorem dL_thing_19 : decode cL_thing 19 = .ok (.iconst 2, 1) := by decide +kernel
