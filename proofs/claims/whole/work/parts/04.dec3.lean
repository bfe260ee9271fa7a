set_option maxRecDepth 20000 in
theorem ggX5_seenIn_X2_countPairs : GoodIn wsX5_seenIn wsX2_countPairs := goodIn_r _ [90, 18, 55, 56, 57, 29, 58, 31, 91, 92, 93, 15, 94, 21, 43, 44, 45, 46, 33, 34, 95, 96, 97, 98, 99, 100, 101, 107, 108, 109, 110, 111, 112, 113, 114, 115, 116, 117, 118, 119] (by decide +kernel) (by decide +kernel)
set_option maxRecDepth 20000 in
theorem gX5_seenIn_X2_countPairs : GoodIn wsX5_seenIn (wsV RX5 180 RX2 yX2_countPairs wsX2_countPairs) := goodIn_app (goodIn_of _ (by decide +kernel)) ggX5_seenIn_X2_countPairs
theorem dX5_seenIn_0 : decode cX5_seenIn 0 = .ok (.iload_n 1, 1) := by decide +kernel
theorem dX5_seenIn_1 : decode cX5_seenIn 1 = .ok (.iconst 0, 1) := by decide +kernel
theorem dX5_seenIn_2 : decode cX5_seenIn 2 = .ok (.bipush 100, 2) := by decide +kernel
theorem dX5_seenIn_4 : decode cX5_seenIn 4 = .ok (.invokestatic 79, 3) := by decide +kernel
theorem dX5_seenIn_7 : decode cX5_seenIn 7 = .ok (.aload_n 0, 1) := by decide +kernel
theorem dX5_seenIn_8 : decode cX5_seenIn 8 = .ok (.getfield 16, 3) := by decide +kernel
theorem dX5_seenIn_11 : decode cX5_seenIn 11 = .ok (.aload_n 0, 1) := by decide +kernel
theorem dX5_seenIn_12 : decode cX5_seenIn 12 = .ok (.getfield 10, 3) := by decide +kernel
theorem dX5_seenIn_15 : decode cX5_seenIn 15 = .ok (.invokevirtual 177, 3) := by decide +kernel
theorem dX5_seenIn_18 : decode cX5_seenIn 18 = .ok (.aload_n 0, 1) := by decide +kernel
theorem dX5_seenIn_19 : decode cX5_seenIn 19 = .ok (.getfield 16, 3) := by decide +kernel
theorem dX5_seenIn_22 : decode cX5_seenIn 22 = .ok (.iload_n 1, 1) := by decide +kernel
theorem dX5_seenIn_23 : decode cX5_seenIn 23 = .ok (.invokevirtual 120, 3) := by decide +kernel
theorem dX5_seenIn_26 : decode cX5_seenIn 26 = .ok (.pop, 1) := by decide +kernel
theorem dX5_seenIn_27 : decode cX5_seenIn 27 = .ok (.aload_n 0, 1) := by decide +kernel
theorem dX5_seenIn_28 : decode cX5_seenIn 28 = .ok (.getfield 16, 3) := by decide +kernel
theorem dX5_seenIn_31 : decode cX5_seenIn 31 = .ok (.invokevirtual 180, 3) := by decide +kernel
theorem dX5_seenIn_34 : decode cX5_seenIn 34 = .ok (.ireturn, 1) := by decide +kernel
set_option maxRecDepth 20000 in
theorem ggX5_gainBy_X2_faultOfGrant : GoodIn wsX5_gainBy wsX2_faultOfGrant := goodIn_r _ [7, 8, 9, 10, 11, 12, 13, 14, 15, 16, 17, 18, 19, 20, 21, 22, 23, 24, 25, 6, 26, 27, 28, 29, 30, 31, 32, 33, 34, 35, 36, 37, 38, 103, 104, 105, 106, 107, 108, 109, 110, 111, 112, 113, 114, 115] (by decide +kernel) (by decide +kernel)
set_option maxRecDepth 20000 in
theorem gX5_gainBy_X2_faultOfGrant : GoodIn wsX5_gainBy (wsV RX5 92 RX2 yX2_faultOfGrant wsX2_faultOfGrant) := goodIn_app (goodIn_of _ (by decide +kernel)) ggX5_gainBy_X2_faultOfGrant
set_option maxRecDepth 20000 in
theorem ggX5_gainBy_X5_requireFit : GoodIn wsX5_gainBy wsX5_requireFit := goodIn_ca (goodIn_ca (goodIn_r _ [41, 42, 43, 44, 45] (by decide +kernel) (by decide +kernel)) (goodIn_sub (fun _ h => List.mem_cons_of_mem _ (List.mem_append_left _ (List.mem_append_right _ h))) (by decide +kernel))) (goodIn_sub (fun _ h => List.mem_cons_of_mem _ (List.mem_append_right _ h)) (by decide +kernel))
set_option maxRecDepth 20000 in
theorem gX5_gainBy_X5_requireFit : GoodIn wsX5_gainBy (va_wsS RX5 96 yX5_requireFit wsX5_requireFit) := goodIn_app (goodIn_of _ (by decide +kernel)) ggX5_gainBy_X5_requireFit
set_option maxRecDepth 20000 in
theorem ggX5_gainBy_X2_takeOver : GoodIn wsX5_gainBy wsX2_takeOver := goodIn_r _ [49, 9, 8, 10, 50, 27, 51, 52, 53, 54, 55, 56, 57, 20, 58, 22, 38, 32, 33, 103, 104, 105, 106, 107, 108, 109, 110, 111, 112, 113, 114, 115] (by decide +kernel) (by decide +kernel)
set_option maxRecDepth 20000 in
theorem gX5_gainBy_X2_takeOver : GoodIn wsX5_gainBy (wsV RX5 177 RX2 yX2_takeOver wsX2_takeOver) := goodIn_app (goodIn_of _ (by decide +kernel)) ggX5_gainBy_X2_takeOver
set_option maxRecDepth 20000 in
theorem ggX5_gainBy_X2_lend : GoodIn wsX5_gainBy wsX2_lend := goodIn_r _ [62, 51, 10, 63, 64, 65, 20, 66, 22, 38, 67, 68, 69, 70, 32, 33, 71, 72, 73, 6, 74, 8, 27, 75, 76, 77, 78, 28, 29, 30, 31, 79, 80, 81, 82, 103, 104, 105, 106, 107, 108, 109, 110, 111, 112, 113, 114, 115] (by decide +kernel) (by decide +kernel)
set_option maxRecDepth 20000 in
theorem gX5_gainBy_X2_lend : GoodIn wsX5_gainBy (wsV RX5 101 RX2 yX2_lend wsX2_lend) := goodIn_app (goodIn_of _ (by decide +kernel)) ggX5_gainBy_X2_lend
set_option maxRecDepth 20000 in
theorem ggX5_gainBy_X2_countPairs : GoodIn wsX5_gainBy wsX2_countPairs := goodIn_r _ [86, 8, 75, 76, 77, 20, 78, 22, 87, 88, 89, 6, 90, 27, 28, 29, 30, 31, 32, 33, 91, 92, 93, 94, 95, 96, 97, 103, 104, 105, 106, 107, 108, 109, 110, 111, 112, 113, 114, 115] (by decide +kernel) (by decide +kernel)
set_option maxRecDepth 20000 in
theorem gX5_gainBy_X2_countPairs : GoodIn wsX5_gainBy (wsV RX5 180 RX2 yX2_countPairs wsX2_countPairs) := goodIn_app (goodIn_of _ (by decide +kernel)) ggX5_gainBy_X2_countPairs
theorem dX5_gainBy_0 : decode cX5_gainBy 0 = .ok (.aload_n 0, 1) := by decide +kernel
theorem dX5_gainBy_1 : decode cX5_gainBy 1 = .ok (.getfield 10, 3) := by decide +kernel
theorem dX5_gainBy_4 : decode cX5_gainBy 4 = .ok (.iload_n 1, 1) := by decide +kernel
theorem dX5_gainBy_5 : decode cX5_gainBy 5 = .ok (.iload_n 2, 1) := by decide +kernel
theorem dX5_gainBy_6 : decode cX5_gainBy 6 = .ok (.iload_n 3, 1) := by decide +kernel
theorem dX5_gainBy_7 : decode cX5_gainBy 7 = .ok (.iload 4, 2) := by decide +kernel
theorem dX5_gainBy_9 : decode cX5_gainBy 9 = .ok (.iload 5, 2) := by decide +kernel
theorem dX5_gainBy_11 : decode cX5_gainBy 11 = .ok (.invokevirtual 92, 3) := by decide +kernel
theorem dX5_gainBy_14 : decode cX5_gainBy 14 = .ok (.istore 6, 2) := by decide +kernel
theorem dX5_gainBy_16 : decode cX5_gainBy 16 = .ok (.iload 6, 2) := by decide +kernel
theorem dX5_gainBy_18 : decode cX5_gainBy 18 = .ok (.invokestatic 96, 3) := by decide +kernel
theorem dX5_gainBy_21 : decode cX5_gainBy 21 = .ok (.iload 6, 2) := by decide +kernel
theorem dX5_gainBy_23 : decode cX5_gainBy 23 = .ok (.iconst 3, 1) := by decide +kernel
theorem dX5_gainBy_24 : decode cX5_gainBy 24 = .ok (.if_icmp .ne 5, 3) := by decide +kernel
theorem dX5_gainBy_27 : decode cX5_gainBy 27 = .ok (.iconst (-1), 1) := by decide +kernel
theorem dX5_gainBy_28 : decode cX5_gainBy 28 = .ok (.ireturn, 1) := by decide +kernel
theorem dX5_gainBy_29 : decode cX5_gainBy 29 = .ok (.aload_n 0, 1) := by decide +kernel
theorem dX5_gainBy_30 : decode cX5_gainBy 30 = .ok (.getfield 16, 3) := by decide +kernel
theorem dX5_gainBy_33 : decode cX5_gainBy 33 = .ok (.aload_n 0, 1) := by decide +kernel
theorem dX5_gainBy_34 : decode cX5_gainBy 34 = .ok (.getfield 10, 3) := by decide +kernel
theorem dX5_gainBy_37 : decode cX5_gainBy 37 = .ok (.invokevirtual 177, 3) := by decide +kernel
theorem dX5_gainBy_40 : decode cX5_gainBy 40 = .ok (.aload_n 0, 1) := by decide +kernel
theorem dX5_gainBy_41 : decode cX5_gainBy 41 = .ok (.getfield 16, 3) := by decide +kernel
theorem dX5_gainBy_44 : decode cX5_gainBy 44 = .ok (.iload_n 1, 1) := by decide +kernel
theorem dX5_gainBy_45 : decode cX5_gainBy 45 = .ok (.iload_n 2, 1) := by decide +kernel
theorem dX5_gainBy_46 : decode cX5_gainBy 46 = .ok (.iload_n 3, 1) := by decide +kernel
theorem dX5_gainBy_47 : decode cX5_gainBy 47 = .ok (.iload 4, 2) := by decide +kernel
theorem dX5_gainBy_49 : decode cX5_gainBy 49 = .ok (.iload 5, 2) := by decide +kernel
theorem dX5_gainBy_51 : decode cX5_gainBy 51 = .ok (.invokevirtual 101, 3) := by decide +kernel
theorem dX5_gainBy_54 : decode cX5_gainBy 54 = .ok (.pop, 1) := by decide +kernel
theorem dX5_gainBy_55 : decode cX5_gainBy 55 = .ok (.aload_n 0, 1) := by decide +kernel
theorem dX5_gainBy_56 : decode cX5_gainBy 56 = .ok (.getfield 16, 3) := by decide +kernel
theorem dX5_gainBy_59 : decode cX5_gainBy 59 = .ok (.invokevirtual 180, 3) := by decide +kernel
theorem dX5_gainBy_62 : decode cX5_gainBy 62 = .ok (.aload_n 0, 1) := by decide +kernel
theorem dX5_gainBy_63 : decode cX5_gainBy 63 = .ok (.getfield 10, 3) := by decide +kernel
theorem dX5_gainBy_66 : decode cX5_gainBy 66 = .ok (.invokevirtual 180, 3) := by decide +kernel
theorem dX5_gainBy_69 : decode cX5_gainBy 69 = .ok (.isub, 1) := by decide +kernel
theorem dX5_gainBy_70 : decode cX5_gainBy 70 = .ok (.ireturn, 1) := by decide +kernel
set_option maxRecDepth 20000 in
theorem ggX5_patience_X5_requirePerson : GoodIn wsX5_patience wsX5_requirePerson := goodIn_ca (goodIn_r _ [6, 7, 8, 9, 10, 5, 11, 12, 13, 14] (by decide +kernel) (by decide +kernel)) (goodIn_sub (fun _ h => List.mem_cons_of_mem _ (List.mem_append_right _ h)) (by decide +kernel))
set_option maxRecDepth 20000 in
theorem gX5_patience_X5_requirePerson : GoodIn wsX5_patience (va_wsS RX5 40 yX5_requirePerson wsX5_requirePerson) := goodIn_app (goodIn_of _ (by decide +kernel)) ggX5_patience_X5_requirePerson
set_option maxRecDepth 20000 in
theorem ggX5_patience_X3_at : GoodIn wsX5_patience wsX3_at := goodIn_r _ [19, 20, 21, 22, 52, 53, 54, 55] (by decide +kernel) (by decide +kernel)
set_option maxRecDepth 20000 in
theorem gX5_patience_X3_at : GoodIn wsX5_patience (wsV RX5 86 RX3 yX3_at wsX3_at) := goodIn_app (goodIn_of _ (by decide +kernel)) ggX5_patience_X3_at
set_option maxRecDepth 20000 in
theorem ggX5_patience_X2_greatestThreshold : GoodIn wsX5_patience wsX2_greatestThreshold := goodIn_r _ [27, 28, 29, 30, 31, 32, 33, 34, 35, 18, 36, 20, 37, 16, 17, 19, 21, 22, 43, 44, 45, 46, 47, 48, 49, 50, 51, 52, 53, 54, 55] (by decide +kernel) (by decide +kernel)
set_option maxRecDepth 20000 in
theorem gX5_patience_X2_greatestThreshold : GoodIn wsX5_patience (wsV RX5 183 RX2 yX2_greatestThreshold wsX2_greatestThreshold) := goodIn_app (goodIn_of _ (by decide +kernel)) ggX5_patience_X2_greatestThreshold
theorem dX5_patience_0 : decode cX5_patience 0 = .ok (.iload_n 1, 1) := by decide +kernel
theorem dX5_patience_1 : decode cX5_patience 1 = .ok (.invokestatic 40, 3) := by decide +kernel
theorem dX5_patience_4 : decode cX5_patience 4 = .ok (.aload_n 0, 1) := by decide +kernel
theorem dX5_patience_5 : decode cX5_patience 5 = .ok (.getfield 10, 3) := by decide +kernel
theorem dX5_patience_8 : decode cX5_patience 8 = .ok (.getfield 83, 3) := by decide +kernel
theorem dX5_patience_11 : decode cX5_patience 11 = .ok (.iload_n 1, 1) := by decide +kernel
theorem dX5_patience_12 : decode cX5_patience 12 = .ok (.iconst 0, 1) := by decide +kernel
theorem dX5_patience_13 : decode cX5_patience 13 = .ok (.invokevirtual 86, 3) := by decide +kernel
theorem dX5_patience_16 : decode cX5_patience 16 = .ok (.aload_n 0, 1) := by decide +kernel
theorem dX5_patience_17 : decode cX5_patience 17 = .ok (.getfield 10, 3) := by decide +kernel
theorem dX5_patience_20 : decode cX5_patience 20 = .ok (.iload_n 1, 1) := by decide +kernel
theorem dX5_patience_21 : decode cX5_patience 21 = .ok (.invokevirtual 183, 3) := by decide +kernel
theorem dX5_patience_24 : decode cX5_patience 24 = .ok (.isub, 1) := by decide +kernel
theorem dX5_patience_25 : decode cX5_patience 25 = .ok (.ireturn, 1) := by decide +kernel
set_option maxRecDepth 20000 in
theorem ggX5_meanChain_X3_rows : GoodIn wsX5_meanChain wsX3_rows := goodIn_r _ [8, 9, 61, 62, 63, 64] (by decide +kernel) (by decide +kernel)
set_option maxRecDepth 20000 in
theorem gX5_meanChain_X3_rows : GoodIn wsX5_meanChain (wsV RX5 165 RX3 yX3_rows wsX3_rows) := goodIn_app (goodIn_of _ (by decide +kernel)) ggX5_meanChain_X3_rows
set_option maxRecDepth 20000 in
theorem ggX5_meanChain_X0_measure : GoodIn wsX5_meanChain wsX0_measure := goodIn_r _ [14, 15, 16, 17, 18, 19, 20, 7, 21, 9, 22, 23, 24, 25, 26, 27, 28, 5, 6, 8, 29, 30, 31, 13, 32, 33, 34, 35, 36, 37, 38, 39, 40, 41, 42, 43, 44, 45, 65, 52, 53, 54, 55, 56, 57, 58, 59, 60, 61, 62, 63, 64] (by decide +kernel) (by decide +kernel)
set_option maxRecDepth 20000 in
theorem gX5_meanChain_X0_measure : GoodIn wsX5_meanChain (wsV RX5 135 RX0 yX0_measure wsX0_measure) := goodIn_app (goodIn_of _ (by decide +kernel)) ggX5_meanChain_X0_measure
set_option maxRecDepth 20000 in
theorem ggX5_meanChain_X0_stepsTo : GoodIn wsX5_meanChain wsX0_stepsTo := goodIn_r _ [32, 15, 18, 19, 20, 7, 21, 9, 22, 23, 65, 61, 62, 63, 64] (by decide +kernel) (by decide +kernel)
set_option maxRecDepth 20000 in
theorem gX5_meanChain_X0_stepsTo : GoodIn wsX5_meanChain (wsV RX5 139 RX0 yX0_stepsTo wsX0_stepsTo) := goodIn_app (goodIn_of _ (by decide +kernel)) ggX5_meanChain_X0_stepsTo
theorem dX5_meanChain_0 : decode cX5_meanChain 0 = .ok (.iconst 0, 1) := by decide +kernel
theorem dX5_meanChain_1 : decode cX5_meanChain 1 = .ok (.istore_n 1, 1) := by decide +kernel
theorem dX5_meanChain_2 : decode cX5_meanChain 2 = .ok (.iconst 0, 1) := by decide +kernel
theorem dX5_meanChain_3 : decode cX5_meanChain 3 = .ok (.istore_n 2, 1) := by decide +kernel
theorem dX5_meanChain_4 : decode cX5_meanChain 4 = .ok (.iconst 0, 1) := by decide +kernel
theorem dX5_meanChain_5 : decode cX5_meanChain 5 = .ok (.istore_n 3, 1) := by decide +kernel
theorem dX5_meanChain_6 : decode cX5_meanChain 6 = .ok (.iload_n 3, 1) := by decide +kernel
theorem dX5_meanChain_7 : decode cX5_meanChain 7 = .ok (.aload_n 0, 1) := by decide +kernel
theorem dX5_meanChain_8 : decode cX5_meanChain 8 = .ok (.getfield 10, 3) := by decide +kernel
theorem dX5_meanChain_11 : decode cX5_meanChain 11 = .ok (.getfield 47, 3) := by decide +kernel
theorem dX5_meanChain_14 : decode cX5_meanChain 14 = .ok (.invokevirtual 165, 3) := by decide +kernel
theorem dX5_meanChain_17 : decode cX5_meanChain 17 = .ok (.if_icmp .ge 62, 3) := by decide +kernel
theorem dX5_meanChain_20 : decode cX5_meanChain 20 = .ok (.aload_n 0, 1) := by decide +kernel
theorem dX5_meanChain_21 : decode cX5_meanChain 21 = .ok (.getfield 29, 3) := by decide +kernel
theorem dX5_meanChain_24 : decode cX5_meanChain 24 = .ok (.aload_n 0, 1) := by decide +kernel
theorem dX5_meanChain_25 : decode cX5_meanChain 25 = .ok (.getfield 10, 3) := by decide +kernel
theorem dX5_meanChain_28 : decode cX5_meanChain 28 = .ok (.iload_n 3, 1) := by decide +kernel
theorem dX5_meanChain_29 : decode cX5_meanChain 29 = .ok (.invokevirtual 135, 3) := by decide +kernel
theorem dX5_meanChain_32 : decode cX5_meanChain 32 = .ok (.iconst 0, 1) := by decide +kernel
theorem dX5_meanChain_33 : decode cX5_meanChain 33 = .ok (.istore 4, 2) := by decide +kernel
theorem dX5_meanChain_35 : decode cX5_meanChain 35 = .ok (.iload 4, 2) := by decide +kernel
theorem dX5_meanChain_37 : decode cX5_meanChain 37 = .ok (.bipush 10, 2) := by decide +kernel
theorem dX5_meanChain_39 : decode cX5_meanChain 39 = .ok (.if_icmp .ge 34, 3) := by decide +kernel
theorem dX5_meanChain_42 : decode cX5_meanChain 42 = .ok (.aload_n 0, 1) := by decide +kernel
theorem dX5_meanChain_43 : decode cX5_meanChain 43 = .ok (.getfield 29, 3) := by decide +kernel
theorem dX5_meanChain_46 : decode cX5_meanChain 46 = .ok (.iload 4, 2) := by decide +kernel
theorem dX5_meanChain_48 : decode cX5_meanChain 48 = .ok (.invokevirtual 139, 3) := by decide +kernel
theorem dX5_meanChain_51 : decode cX5_meanChain 51 = .ok (.istore 5, 2) := by decide +kernel
theorem dX5_meanChain_53 : decode cX5_meanChain 53 = .ok (.iload 5, 2) := by decide +kernel
theorem dX5_meanChain_55 : decode cX5_meanChain 55 = .ok (.iconst (-1), 1) := by decide +kernel
theorem dX5_meanChain_56 : decode cX5_meanChain 56 = .ok (.if_icmp .eq 11, 3) := by decide +kernel
theorem dX5_meanChain_59 : decode cX5_meanChain 59 = .ok (.iinc 1 1, 3) := by decide +kernel
theorem dX5_meanChain_62 : decode cX5_meanChain 62 = .ok (.iload_n 2, 1) := by decide +kernel
theorem dX5_meanChain_63 : decode cX5_meanChain 63 = .ok (.iload 5, 2) := by decide +kernel
theorem dX5_meanChain_65 : decode cX5_meanChain 65 = .ok (.iadd, 1) := by decide +kernel
theorem dX5_meanChain_66 : decode cX5_meanChain 66 = .ok (.istore_n 2, 1) := by decide +kernel
theorem dX5_meanChain_67 : decode cX5_meanChain 67 = .ok (.iinc 4 1, 3) := by decide +kernel
theorem dX5_meanChain_70 : decode cX5_meanChain 70 = .ok (.goto (-35), 3) := by decide +kernel
theorem dX5_meanChain_73 : decode cX5_meanChain 73 = .ok (.iinc 3 1, 3) := by decide +kernel
theorem dX5_meanChain_76 : decode cX5_meanChain 76 = .ok (.goto (-70), 3) := by decide +kernel
theorem dX5_meanChain_79 : decode cX5_meanChain 79 = .ok (.iload_n 1, 1) := by decide +kernel
theorem dX5_meanChain_80 : decode cX5_meanChain 80 = .ok (.ifCond .ne 7, 3) := by decide +kernel
theorem dX5_meanChain_83 : decode cX5_meanChain 83 = .ok (.dconst 0, 1) := by decide +kernel
theorem dX5_meanChain_84 : decode cX5_meanChain 84 = .ok (.goto 8, 3) := by decide +kernel
theorem dX5_meanChain_87 : decode cX5_meanChain 87 = .ok (.iload_n 2, 1) := by decide +kernel
theorem dX5_meanChain_88 : decode cX5_meanChain 88 = .ok (.i2d, 1) := by decide +kernel
theorem dX5_meanChain_89 : decode cX5_meanChain 89 = .ok (.iload_n 1, 1) := by decide +kernel
theorem dX5_meanChain_90 : decode cX5_meanChain 90 = .ok (.i2d, 1) := by decide +kernel
theorem dX5_meanChain_91 : decode cX5_meanChain 91 = .ok (.ddiv, 1) := by decide +kernel
theorem dX5_meanChain_92 : decode cX5_meanChain 92 = .ok (.dreturn, 1) := by decide +kernel
set_option maxRecDepth 20000 in
theorem ggX5_append_X5_requireRange : GoodIn wsX5_append wsX5_requireRange := goodIn_ca (goodIn_r _ [7, 8, 9, 10, 11, 6, 12] (by decide +kernel) (by decide +kernel)) (goodIn_sub (fun _ h => List.mem_cons_of_mem _ (List.mem_append_right _ h)) (by decide +kernel))
set_option maxRecDepth 20000 in
theorem gX5_append_X5_requireRange : GoodIn wsX5_append (va_wsS RX5 79 yX5_requireRange wsX5_requireRange) := goodIn_app (goodIn_of _ (by decide +kernel)) ggX5_append_X5_requireRange
set_option maxRecDepth 20000 in
theorem ggX5_append_X4_isFull : GoodIn wsX5_append wsX4_isFull := goodIn_r _ [17, 18, 19, 20, 21, 22, 23, 24, 25, 53, 54, 55, 56, 57, 58, 59, 60] (by decide +kernel) (by decide +kernel)
set_option maxRecDepth 20000 in
theorem gX5_append_X4_isFull : GoodIn wsX5_append (wsV RX5 186 RX4 yX4_isFull wsX4_isFull) := goodIn_app (goodIn_of _ (by decide +kernel)) ggX5_append_X4_isFull
set_option maxRecDepth 20000 in
theorem ggX5_append_X4_add : GoodIn wsX5_append wsX4_add := goodIn_r _ [29, 18, 30, 31, 32, 22, 33, 24, 25, 34, 35, 36, 37, 38, 39, 53, 54, 55, 56, 57, 58, 59, 60] (by decide +kernel) (by decide +kernel)
set_option maxRecDepth 20000 in
theorem gX5_append_X4_add : GoodIn wsX5_append (wsV RX5 189 RX4 yX4_add wsX4_add) := goodIn_app (goodIn_of _ (by decide +kernel)) ggX5_append_X4_add
set_option maxRecDepth 20000 in
theorem ggX5_append_X4_length : GoodIn wsX5_append wsX4_length := goodIn_r _ [43, 18, 44, 45, 46, 22, 47, 24, 53, 54, 55, 56, 57, 58, 59, 60] (by decide +kernel) (by decide +kernel)
set_option maxRecDepth 20000 in
theorem gX5_append_X4_length : GoodIn wsX5_append (wsV RX5 192 RX4 yX4_length wsX4_length) := goodIn_app (goodIn_of _ (by decide +kernel)) ggX5_append_X4_length
theorem dX5_append_0 : decode cX5_append 0 = .ok (.iload_n 1, 1) := by decide +kernel
theorem dX5_append_1 : decode cX5_append 1 = .ok (.iconst 0, 1) := by decide +kernel
theorem dX5_append_2 : decode cX5_append 2 = .ok (.bipush 127, 2) := by decide +kernel
theorem dX5_append_4 : decode cX5_append 4 = .ok (.invokestatic 79, 3) := by decide +kernel
theorem dX5_append_7 : decode cX5_append 7 = .ok (.aload_n 0, 1) := by decide +kernel
theorem dX5_append_8 : decode cX5_append 8 = .ok (.getfield 36, 3) := by decide +kernel
theorem dX5_append_11 : decode cX5_append 11 = .ok (.invokevirtual 186, 3) := by decide +kernel
theorem dX5_append_14 : decode cX5_append 14 = .ok (.ifCond .eq 13, 3) := by decide +kernel
theorem dX5_append_17 : decode cX5_append 17 = .ok (.new 57, 3) := by decide +kernel
theorem dX5_append_20 : decode cX5_append 20 = .ok (.dup, 1) := by decide +kernel
theorem dX5_append_21 : decode cX5_append 21 = .ok (.ldc 187, 2) := by decide +kernel
theorem dX5_append_23 : decode cX5_append 23 = .ok (.invokespecial 61, 3) := by decide +kernel
theorem dX5_append_26 : decode cX5_append 26 = .ok (.athrow, 1) := by decide +kernel
theorem dX5_append_27 : decode cX5_append 27 = .ok (.aload_n 0, 1) := by decide +kernel
theorem dX5_append_28 : decode cX5_append 28 = .ok (.getfield 36, 3) := by decide +kernel
theorem dX5_append_31 : decode cX5_append 31 = .ok (.iload_n 1, 1) := by decide +kernel
theorem dX5_append_32 : decode cX5_append 32 = .ok (.invokevirtual 189, 3) := by decide +kernel
theorem dX5_append_35 : decode cX5_append 35 = .ok (.aload_n 0, 1) := by decide +kernel
theorem dX5_append_36 : decode cX5_append 36 = .ok (.getfield 36, 3) := by decide +kernel
theorem dX5_append_39 : decode cX5_append 39 = .ok (.invokevirtual 192, 3) := by decide +kernel
theorem dX5_append_42 : decode cX5_append 42 = .ok (.ireturn, 1) := by decide +kernel
set_option maxRecDepth 20000 in
theorem ggX5_clearText_X4_length : GoodIn wsX5_clearText wsX4_length := goodIn_r _ [6, 7, 8, 9, 10, 11, 12, 13, 27, 28, 29, 30, 31, 32, 33, 34] (by decide +kernel) (by decide +kernel)
set_option maxRecDepth 20000 in
theorem gX5_clearText_X4_length : GoodIn wsX5_clearText (wsV RX5 192 RX4 yX4_length wsX4_length) := goodIn_app (goodIn_of _ (by decide +kernel)) ggX5_clearText_X4_length
set_option maxRecDepth 20000 in
theorem ggX5_clearText_X4_empty : GoodIn wsX5_clearText wsX4_empty := goodIn_r _ [17, 7, 18, 19, 20, 11, 21, 13, 27, 28, 29, 30, 31, 32, 33, 34] (by decide +kernel) (by decide +kernel)
set_option maxRecDepth 20000 in
theorem gX5_clearText_X4_empty : GoodIn wsX5_clearText (wsV RX5 195 RX4 yX4_empty wsX4_empty) := goodIn_app (goodIn_of _ (by decide +kernel)) ggX5_clearText_X4_empty
theorem dX5_clearText_0 : decode cX5_clearText 0 = .ok (.aload_n 0, 1) := by decide +kernel
theorem dX5_clearText_1 : decode cX5_clearText 1 = .ok (.getfield 36, 3) := by decide +kernel
theorem dX5_clearText_4 : decode cX5_clearText 4 = .ok (.invokevirtual 192, 3) := by decide +kernel
theorem dX5_clearText_7 : decode cX5_clearText 7 = .ok (.istore_n 1, 1) := by decide +kernel
theorem dX5_clearText_8 : decode cX5_clearText 8 = .ok (.aload_n 0, 1) := by decide +kernel
theorem dX5_clearText_9 : decode cX5_clearText 9 = .ok (.getfield 36, 3) := by decide +kernel
theorem dX5_clearText_12 : decode cX5_clearText 12 = .ok (.invokevirtual 195, 3) := by decide +kernel
theorem dX5_clearText_15 : decode cX5_clearText 15 = .ok (.iload_n 1, 1) := by decide +kernel
theorem dX5_clearText_16 : decode cX5_clearText 16 = .ok (.ireturn, 1) := by decide +kernel
set_option maxRecDepth 20000 in
theorem ggX5_carryOut_X4_read : GoodIn wsX5_carryOut wsX4_read := goodIn_r _ [9, 10, 11, 12, 13, 14, 15, 16, 17, 18, 19, 20, 21, 8, 22, 23, 24, 25, 26, 27, 28, 29, 30, 31, 32, 33, 34, 35, 36, 37, 38, 39, 40, 41, 42, 43, 44, 45, 46, 47, 48, 49, 50, 51, 52, 53, 54, 55, 56, 57, 58, 59, 60, 61, 62, 63, 64, 65, 66, 67, 68, 69, 70, 71, 72, 73, 74, 75, 76, 77, 78, 79, 80, 81, 82, 83, 84, 232, 233, 234, 235, 236, 237, 238, 239] (by decide +kernel) (by decide +kernel)
set_option maxRecDepth 20000 in
theorem gX5_carryOut_X4_read : GoodIn wsX5_carryOut (wsV RX5 198 RX4 yX4_read wsX4_read) := goodIn_app (goodIn_of _ (by decide +kernel)) ggX5_carryOut_X4_read
set_option maxRecDepth 20000 in
theorem ggX5_carryOut_X1_keep : GoodIn wsX5_carryOut wsX1_keep := goodIn_r _ [89, 90, 91, 92, 93, 94, 88, 95, 96, 97, 98, 99, 100, 101, 102, 103, 104, 105, 106, 107, 108, 109, 110, 111, 112, 16, 113, 18, 32, 49, 50, 240, 241, 242, 243, 244, 245, 246, 247, 248, 249, 250, 236, 237, 238, 239] (by decide +kernel) (by decide +kernel)
set_option maxRecDepth 20000 in
theorem gX5_carryOut_X1_keep : GoodIn wsX5_carryOut (wsV RX5 64 RX1 yX1_keep wsX1_keep) := goodIn_app (goodIn_of _ (by decide +kernel)) ggX5_carryOut_X1_keep
set_option maxRecDepth 20000 in
theorem ggX5_carryOut_X3_rows : GoodIn wsX5_carryOut wsX3_rows := goodIn_r _ [27, 18, 236, 237, 238, 239] (by decide +kernel) (by decide +kernel)
set_option maxRecDepth 20000 in
theorem gX5_carryOut_X3_rows : GoodIn wsX5_carryOut (wsV RX5 165 RX3 yX3_rows wsX3_rows) := goodIn_app (goodIn_of _ (by decide +kernel)) ggX5_carryOut_X3_rows
set_option maxRecDepth 20000 in
theorem ggX5_carryOut_X5_obey : GoodIn wsX5_carryOut wsX5_obey := goodIn_r _ [118, 3, 119, 46, 47, 16, 48, 18, 49, 50, 120, 121, 122, 64, 123, 124, 125, 126, 99, 127, 102, 101, 103, 128, 129, 130, 63, 65, 131, 42, 43, 44, 132, 133, 134, 135, 105, 136, 137, 138, 139, 140, 32, 141, 142, 143, 144, 106, 145, 29, 30, 31, 146, 52, 53, 54, 147, 148, 149, 150, 151, 25, 26, 27, 152, 153, 154, 155, 156, 157, 158, 159, 160, 161, 162, 163, 164, 165, 166, 167, 108, 168, 169, 170, 171, 172, 173, 174, 175, 176, 177, 178, 179, 180, 181, 182, 183, 184, 185, 186, 187, 188, 189, 190, 191, 192, 193, 194, 195, 196, 197, 198, 199, 200, 201, 107, 202, 203, 204, 205, 206, 207, 208, 209, 104, 109, 210, 211, 212, 213, 214, 215, 216, 217, 218, 219, 220, 221, 222, 223, 224, 225, 226, 227, 228, 229, 230, 231, 236, 237, 238, 239, 242, 243, 244, 245, 246, 247, 248, 249, 250] (by decide +kernel) (by decide +kernel)
set_option maxRecDepth 20000 in
theorem gX5_carryOut_X5_obey : GoodIn wsX5_carryOut (wsV RX5 204 RX5 yX5_obey wsX5_obey) := goodIn_app (goodIn_of _ (by decide +kernel)) ggX5_carryOut_X5_obey
theorem dX5_carryOut_0 : decode cX5_carryOut 0 = .ok (.aload_n 0, 1) := by decide +kernel
theorem dX5_carryOut_1 : decode cX5_carryOut 1 = .ok (.getfield 36, 3) := by decide +kernel
theorem dX5_carryOut_4 : decode cX5_carryOut 4 = .ok (.invokevirtual 198, 3) := by decide +kernel
theorem dX5_carryOut_7 : decode cX5_carryOut 7 = .ok (.istore_n 1, 1) := by decide +kernel
theorem dX5_carryOut_8 : decode cX5_carryOut 8 = .ok (.iload_n 1, 1) := by decide +kernel
theorem dX5_carryOut_9 : decode cX5_carryOut 9 = .ok (.iconst (-1), 1) := by decide +kernel
theorem dX5_carryOut_10 : decode cX5_carryOut 10 = .ok (.if_icmp .eq 8, 3) := by decide +kernel
theorem dX5_carryOut_13 : decode cX5_carryOut 13 = .ok (.bipush (-10), 2) := by decide +kernel
theorem dX5_carryOut_15 : decode cX5_carryOut 15 = .ok (.iload_n 1, 1) := by decide +kernel
theorem dX5_carryOut_16 : decode cX5_carryOut 16 = .ok (.isub, 1) := by decide +kernel
theorem dX5_carryOut_17 : decode cX5_carryOut 17 = .ok (.ireturn, 1) := by decide +kernel
theorem dX5_carryOut_18 : decode cX5_carryOut 18 = .ok (.aload_n 0, 1) := by decide +kernel
theorem dX5_carryOut_19 : decode cX5_carryOut 19 = .ok (.getfield 22, 3) := by decide +kernel
theorem dX5_carryOut_22 : decode cX5_carryOut 22 = .ok (.aload_n 0, 1) := by decide +kernel
theorem dX5_carryOut_23 : decode cX5_carryOut 23 = .ok (.getfield 10, 3) := by decide +kernel
theorem dX5_carryOut_26 : decode cX5_carryOut 26 = .ok (.invokevirtual 64, 3) := by decide +kernel
theorem dX5_carryOut_29 : decode cX5_carryOut 29 = .ok (.aload_n 0, 1) := by decide +kernel
theorem dX5_carryOut_30 : decode cX5_carryOut 30 = .ok (.getfield 36, 3) := by decide +kernel
theorem dX5_carryOut_33 : decode cX5_carryOut 33 = .ok (.getfield 201, 3) := by decide +kernel
theorem dX5_carryOut_36 : decode cX5_carryOut 36 = .ok (.astore_n 2, 1) := by decide +kernel
theorem dX5_carryOut_37 : decode cX5_carryOut 37 = .ok (.iconst 0, 1) := by decide +kernel
theorem dX5_carryOut_38 : decode cX5_carryOut 38 = .ok (.istore_n 3, 1) := by decide +kernel
theorem dX5_carryOut_39 : decode cX5_carryOut 39 = .ok (.iload_n 3, 1) := by decide +kernel
theorem dX5_carryOut_40 : decode cX5_carryOut 40 = .ok (.aload_n 2, 1) := by decide +kernel
theorem dX5_carryOut_41 : decode cX5_carryOut 41 = .ok (.invokevirtual 165, 3) := by decide +kernel
theorem dX5_carryOut_44 : decode cX5_carryOut 44 = .ok (.if_icmp .ge 20, 3) := by decide +kernel
theorem dX5_carryOut_47 : decode cX5_carryOut 47 = .ok (.aload_n 0, 1) := by decide +kernel
theorem dX5_carryOut_48 : decode cX5_carryOut 48 = .ok (.aload_n 2, 1) := by decide +kernel
theorem dX5_carryOut_49 : decode cX5_carryOut 49 = .ok (.iload_n 3, 1) := by decide +kernel
theorem dX5_carryOut_50 : decode cX5_carryOut 50 = .ok (.invokevirtual 204, 3) := by decide +kernel
theorem dX5_carryOut_53 : decode cX5_carryOut 53 = .ok (.ifCond .ne 5, 3) := by decide +kernel
theorem dX5_carryOut_56 : decode cX5_carryOut 56 = .ok (.iload_n 3, 1) := by decide +kernel
theorem dX5_carryOut_57 : decode cX5_carryOut 57 = .ok (.ireturn, 1) := by decide +kernel
theorem dX5_carryOut_58 : decode cX5_carryOut 58 = .ok (.iinc 3 1, 3) := by decide +kernel
theorem dX5_carryOut_61 : decode cX5_carryOut 61 = .ok (.goto (-22), 3) := by decide +kernel
theorem dX5_carryOut_64 : decode cX5_carryOut 64 = .ok (.aload_n 2, 1) := by decide +kernel
theorem dX5_carryOut_65 : decode cX5_carryOut 65 = .ok (.invokevirtual 165, 3) := by decide +kernel
theorem dX5_carryOut_68 : decode cX5_carryOut 68 = .ok (.ireturn, 1) := by decide +kernel
set_option maxRecDepth 20000 in
theorem ggX5_undo_X1_count : GoodIn wsX5_undo wsX1_count := goodIn_r _ [9, 10, 44, 45] (by decide +kernel) (by decide +kernel)
set_option maxRecDepth 20000 in
theorem gX5_undo_X1_count : GoodIn wsX5_undo (wsV RX5 208 RX1 yX1_count wsX1_count) := goodIn_app (goodIn_of _ (by decide +kernel)) ggX5_undo_X1_count
set_option maxRecDepth 20000 in
theorem ggX5_undo_X1_giveBack : GoodIn wsX5_undo wsX1_giveBack := goodIn_r _ [14, 10, 15, 16, 17, 18, 19, 20, 21, 22, 23, 24, 25, 26, 27, 28, 29, 30, 31, 32, 33, 34, 35, 36, 37, 38, 44, 45, 46, 47, 48, 49, 50, 51, 52, 53, 54, 55, 56, 57, 58] (by decide +kernel) (by decide +kernel)
set_option maxRecDepth 20000 in
theorem gX5_undo_X1_giveBack : GoodIn wsX5_undo (wsV RX5 213 RX1 yX1_giveBack wsX1_giveBack) := goodIn_app (goodIn_of _ (by decide +kernel)) ggX5_undo_X1_giveBack
theorem dX5_undo_0 : decode cX5_undo 0 = .ok (.aload_n 0, 1) := by decide +kernel
theorem dX5_undo_1 : decode cX5_undo 1 = .ok (.getfield 22, 3) := by decide +kernel
theorem dX5_undo_4 : decode cX5_undo 4 = .ok (.invokevirtual 208, 3) := by decide +kernel
theorem dX5_undo_7 : decode cX5_undo 7 = .ok (.ifCond .ne 13, 3) := by decide +kernel
theorem dX5_undo_10 : decode cX5_undo 10 = .ok (.new 57, 3) := by decide +kernel
theorem dX5_undo_13 : decode cX5_undo 13 = .ok (.dup, 1) := by decide +kernel
theorem dX5_undo_14 : decode cX5_undo 14 = .ok (.ldc 211, 2) := by decide +kernel
theorem dX5_undo_16 : decode cX5_undo 16 = .ok (.invokespecial 61, 3) := by decide +kernel
theorem dX5_undo_19 : decode cX5_undo 19 = .ok (.athrow, 1) := by decide +kernel
theorem dX5_undo_20 : decode cX5_undo 20 = .ok (.aload_n 0, 1) := by decide +kernel
theorem dX5_undo_21 : decode cX5_undo 21 = .ok (.getfield 22, 3) := by decide +kernel
theorem dX5_undo_24 : decode cX5_undo 24 = .ok (.aload_n 0, 1) := by decide +kernel
theorem dX5_undo_25 : decode cX5_undo 25 = .ok (.getfield 10, 3) := by decide +kernel
theorem dX5_undo_28 : decode cX5_undo 28 = .ok (.invokevirtual 213, 3) := by decide +kernel
theorem dX5_undo_31 : decode cX5_undo 31 = .ok (.aload_n 0, 1) := by decide +kernel
theorem dX5_undo_32 : decode cX5_undo 32 = .ok (.getfield 22, 3) := by decide +kernel
theorem dX5_undo_35 : decode cX5_undo 35 = .ok (.invokevirtual 208, 3) := by decide +kernel
theorem dX5_undo_38 : decode cX5_undo 38 = .ok (.ireturn, 1) := by decide +kernel
set_option maxRecDepth 20000 in
theorem ggX5_digest_X4_length : GoodIn wsX5_digest wsX4_length := goodIn_r _ [10, 11, 12, 13, 14, 15, 16, 17, 118, 119, 120, 121, 122, 123, 124, 125] (by decide +kernel) (by decide +kernel)
set_option maxRecDepth 20000 in
theorem gX5_digest_X4_length : GoodIn wsX5_digest (wsV RX5 192 RX4 yX4_length wsX4_length) := goodIn_app (goodIn_of _ (by decide +kernel)) ggX5_digest_X4_length
set_option maxRecDepth 20000 in
theorem ggX5_digest_X2_aboutHouse : GoodIn wsX5_digest wsX2_aboutHouse := goodIn_r _ [22, 23, 24, 25, 26, 27, 28, 29, 30, 13, 14, 15, 16, 17, 31, 32, 33, 21, 34, 35, 36, 37, 38, 39, 40, 41, 42, 43, 44, 45, 46, 47, 48, 49, 50, 51, 52, 53, 54, 55, 56, 57, 58, 59, 60, 126, 127, 128, 129, 130, 131, 132, 133, 134, 122, 123, 124, 125] (by decide +kernel) (by decide +kernel)
set_option maxRecDepth 20000 in
theorem gX5_digest_X2_aboutHouse : GoodIn wsX5_digest (wsV RX5 159 RX2 yX2_aboutHouse wsX2_aboutHouse) := goodIn_app (goodIn_of _ (by decide +kernel)) ggX5_digest_X2_aboutHouse
set_option maxRecDepth 20000 in
theorem ggX5_digest_X5_hashOfPersons : GoodIn wsX5_digest wsX5_hashOfPersons := goodIn_r _ [65, 3, 4, 66, 67, 68, 21, 69, 70, 23, 24, 40, 41, 42, 15, 43, 17, 44, 45, 71, 72, 73, 30, 13, 14, 16, 74, 75, 76, 77, 39, 46, 47, 48, 49, 50, 51, 52, 113, 114, 115, 116, 117, 126, 127, 128, 129, 130, 131, 132, 133, 134, 122, 123, 124, 125] (by decide +kernel) (by decide +kernel)
set_option maxRecDepth 20000 in
theorem gX5_digest_X5_hashOfPersons : GoodIn wsX5_digest (wsV RX5 220 RX5 yX5_hashOfPersons wsX5_hashOfPersons) := goodIn_app (goodIn_of _ (by decide +kernel)) ggX5_digest_X5_hashOfPersons
set_option maxRecDepth 20000 in
theorem ggX5_digest_X5_hashOfThings : GoodIn wsX5_digest wsX5_hashOfThings := goodIn_r _ [81, 4, 82, 3, 83, 13, 14, 15, 16, 17, 84, 85, 86, 21, 87, 23, 24, 40, 41, 42, 43, 44, 45, 71, 72, 73, 30, 35, 36, 37, 38, 39, 113, 114, 115, 116, 117, 126, 127, 128, 129, 130, 131, 132, 133, 134, 122, 123, 124, 125] (by decide +kernel) (by decide +kernel)
set_option maxRecDepth 20000 in
theorem gX5_digest_X5_hashOfThings : GoodIn wsX5_digest (wsV RX5 224 RX5 yX5_hashOfThings wsX5_hashOfThings) := goodIn_app (goodIn_of _ (by decide +kernel)) ggX5_digest_X5_hashOfThings
set_option maxRecDepth 20000 in
theorem ggX5_digest_X5_hashOfGrants : GoodIn wsX5_digest wsX5_hashOfGrants := goodIn_r _ [91, 4, 92, 3, 83, 13, 14, 15, 16, 17, 93, 41, 42, 43, 44, 45, 94, 95, 96, 21, 97, 24, 40, 57, 58, 59, 60, 39, 23, 113, 114, 115, 116, 117, 126, 127, 128, 129, 130, 131, 132, 133, 134, 122, 123, 124, 125] (by decide +kernel) (by decide +kernel)
set_option maxRecDepth 20000 in
theorem gX5_digest_X5_hashOfGrants : GoodIn wsX5_digest (wsV RX5 227 RX5 yX5_hashOfGrants wsX5_hashOfGrants) := goodIn_app (goodIn_of _ (by decide +kernel)) ggX5_digest_X5_hashOfGrants
set_option maxRecDepth 20000 in
theorem ggX5_digest_X5_hashOfLog : GoodIn wsX5_digest wsX5_hashOfLog := goodIn_r _ [101, 4, 102, 3, 83, 13, 14, 15, 16, 17, 103, 104, 105, 21, 106, 29, 30, 40, 41, 42, 43, 44, 45, 113, 114, 115, 116, 117, 126, 127, 128, 129, 130, 131, 132, 133, 134, 122, 123, 124, 125] (by decide +kernel) (by decide +kernel)
set_option maxRecDepth 20000 in
theorem gX5_digest_X5_hashOfLog : GoodIn wsX5_digest (wsV RX5 230 RX5 yX5_hashOfLog wsX5_hashOfLog) := goodIn_app (goodIn_of _ (by decide +kernel)) ggX5_digest_X5_hashOfLog
set_option maxRecDepth 20000 in
theorem ggX5_digest_X1_count : GoodIn wsX5_digest wsX1_count := goodIn_r _ [111, 112, 135, 136] (by decide +kernel) (by decide +kernel)
set_option maxRecDepth 20000 in
theorem gX5_digest_X1_count : GoodIn wsX5_digest (wsV RX5 208 RX1 yX1_count wsX1_count) := goodIn_app (goodIn_of _ (by decide +kernel)) ggX5_digest_X1_count
theorem dX5_digest_0 : decode cX5_digest 0 = .ok (.ldc2_w 216, 3) := by decide +kernel
theorem dX5_digest_3 : decode cX5_digest 3 = .ok (.aload_n 0, 1) := by decide +kernel
theorem dX5_digest_4 : decode cX5_digest 4 = .ok (.getfield 36, 3) := by decide +kernel
theorem dX5_digest_7 : decode cX5_digest 7 = .ok (.invokevirtual 192, 3) := by decide +kernel
theorem dX5_digest_10 : decode cX5_digest 10 = .ok (.i2l, 1) := by decide +kernel
theorem dX5_digest_11 : decode cX5_digest 11 = .ok (.ladd, 1) := by decide +kernel
theorem dX5_digest_12 : decode cX5_digest 12 = .ok (.lstore_n 1, 1) := by decide +kernel
theorem dX5_digest_13 : decode cX5_digest 13 = .ok (.iconst 0, 1) := by decide +kernel
theorem dX5_digest_14 : decode cX5_digest 14 = .ok (.istore_n 3, 1) := by decide +kernel
theorem dX5_digest_15 : decode cX5_digest 15 = .ok (.iload_n 3, 1) := by decide +kernel
theorem dX5_digest_16 : decode cX5_digest 16 = .ok (.bipush 8, 2) := by decide +kernel
theorem dX5_digest_18 : decode cX5_digest 18 = .ok (.if_icmp .gt 25, 3) := by decide +kernel
theorem dX5_digest_21 : decode cX5_digest 21 = .ok (.ldc2_w 218, 3) := by decide +kernel
theorem dX5_digest_24 : decode cX5_digest 24 = .ok (.lload_n 1, 1) := by decide +kernel
theorem dX5_digest_25 : decode cX5_digest 25 = .ok (.lmul, 1) := by decide +kernel
theorem dX5_digest_26 : decode cX5_digest 26 = .ok (.aload_n 0, 1) := by decide +kernel
theorem dX5_digest_27 : decode cX5_digest 27 = .ok (.getfield 10, 3) := by decide +kernel
theorem dX5_digest_30 : decode cX5_digest 30 = .ok (.iload_n 3, 1) := by decide +kernel
theorem dX5_digest_31 : decode cX5_digest 31 = .ok (.invokevirtual 159, 3) := by decide +kernel
theorem dX5_digest_34 : decode cX5_digest 34 = .ok (.i2l, 1) := by decide +kernel
theorem dX5_digest_35 : decode cX5_digest 35 = .ok (.ladd, 1) := by decide +kernel
theorem dX5_digest_36 : decode cX5_digest 36 = .ok (.lstore_n 1, 1) := by decide +kernel
theorem dX5_digest_37 : decode cX5_digest 37 = .ok (.iinc 3 1, 3) := by decide +kernel
theorem dX5_digest_40 : decode cX5_digest 40 = .ok (.goto (-25), 3) := by decide +kernel
theorem dX5_digest_43 : decode cX5_digest 43 = .ok (.aload_n 0, 1) := by decide +kernel
theorem dX5_digest_44 : decode cX5_digest 44 = .ok (.lload_n 1, 1) := by decide +kernel
theorem dX5_digest_45 : decode cX5_digest 45 = .ok (.invokevirtual 220, 3) := by decide +kernel
theorem dX5_digest_48 : decode cX5_digest 48 = .ok (.lstore_n 1, 1) := by decide +kernel
theorem dX5_digest_49 : decode cX5_digest 49 = .ok (.aload_n 0, 1) := by decide +kernel
theorem dX5_digest_50 : decode cX5_digest 50 = .ok (.lload_n 1, 1) := by decide +kernel
theorem dX5_digest_51 : decode cX5_digest 51 = .ok (.invokevirtual 224, 3) := by decide +kernel
theorem dX5_digest_54 : decode cX5_digest 54 = .ok (.lstore_n 1, 1) := by decide +kernel
theorem dX5_digest_55 : decode cX5_digest 55 = .ok (.aload_n 0, 1) := by decide +kernel
theorem dX5_digest_56 : decode cX5_digest 56 = .ok (.lload_n 1, 1) := by decide +kernel
theorem dX5_digest_57 : decode cX5_digest 57 = .ok (.invokevirtual 227, 3) := by decide +kernel
theorem dX5_digest_60 : decode cX5_digest 60 = .ok (.lstore_n 1, 1) := by decide +kernel
theorem dX5_digest_61 : decode cX5_digest 61 = .ok (.aload_n 0, 1) := by decide +kernel
theorem dX5_digest_62 : decode cX5_digest 62 = .ok (.lload_n 1, 1) := by decide +kernel
theorem dX5_digest_63 : decode cX5_digest 63 = .ok (.invokevirtual 230, 3) := by decide +kernel
theorem dX5_digest_66 : decode cX5_digest 66 = .ok (.lstore_n 1, 1) := by decide +kernel
theorem dX5_digest_67 : decode cX5_digest 67 = .ok (.ldc2_w 218, 3) := by decide +kernel
theorem dX5_digest_70 : decode cX5_digest 70 = .ok (.lload_n 1, 1) := by decide +kernel
theorem dX5_digest_71 : decode cX5_digest 71 = .ok (.lmul, 1) := by decide +kernel
theorem dX5_digest_72 : decode cX5_digest 72 = .ok (.aload_n 0, 1) := by decide +kernel
theorem dX5_digest_73 : decode cX5_digest 73 = .ok (.getfield 22, 3) := by decide +kernel
theorem dX5_digest_76 : decode cX5_digest 76 = .ok (.invokevirtual 208, 3) := by decide +kernel
theorem dX5_digest_79 : decode cX5_digest 79 = .ok (.i2l, 1) := by decide +kernel
theorem dX5_digest_80 : decode cX5_digest 80 = .ok (.ladd, 1) := by decide +kernel
theorem dX5_digest_81 : decode cX5_digest 81 = .ok (.lreturn, 1) := by decide +kernel
set_option maxRecDepth 20000 in
theorem ggX5_hashOfPersons_X2_aboutPerson : GoodIn wsX5_hashOfPersons wsX2_aboutPerson := goodIn_r _ [7, 8, 9, 10, 11, 12, 13, 14, 15, 16, 17, 18, 19, 20, 6, 21, 22, 23, 24, 25, 26, 27, 28, 29, 30, 31, 32, 33, 34, 35, 36, 37, 43, 44, 45, 46, 47, 48, 49, 50, 51, 52, 53, 54, 55] (by decide +kernel) (by decide +kernel)
set_option maxRecDepth 20000 in
theorem gX5_hashOfPersons_X2_aboutPerson : GoodIn wsX5_hashOfPersons (wsV RX5 126 RX2 yX2_aboutPerson wsX2_aboutPerson) := goodIn_app (goodIn_of _ (by decide +kernel)) ggX5_hashOfPersons_X2_aboutPerson
theorem dX5_hashOfPersons_0 : decode cX5_hashOfPersons 0 = .ok (.lload_n 1, 1) := by decide +kernel
theorem dX5_hashOfPersons_1 : decode cX5_hashOfPersons 1 = .ok (.lstore_n 3, 1) := by decide +kernel
theorem dX5_hashOfPersons_2 : decode cX5_hashOfPersons 2 = .ok (.iconst 0, 1) := by decide +kernel
theorem dX5_hashOfPersons_3 : decode cX5_hashOfPersons 3 = .ok (.istore 5, 2) := by decide +kernel
theorem dX5_hashOfPersons_5 : decode cX5_hashOfPersons 5 = .ok (.iload 5, 2) := by decide +kernel
theorem dX5_hashOfPersons_7 : decode cX5_hashOfPersons 7 = .ok (.bipush 10, 2) := by decide +kernel
theorem dX5_hashOfPersons_9 : decode cX5_hashOfPersons 9 = .ok (.if_icmp .ge 44, 3) := by decide +kernel
theorem dX5_hashOfPersons_12 : decode cX5_hashOfPersons 12 = .ok (.iconst 0, 1) := by decide +kernel
theorem dX5_hashOfPersons_13 : decode cX5_hashOfPersons 13 = .ok (.istore 6, 2) := by decide +kernel
theorem dX5_hashOfPersons_15 : decode cX5_hashOfPersons 15 = .ok (.iload 6, 2) := by decide +kernel
theorem dX5_hashOfPersons_17 : decode cX5_hashOfPersons 17 = .ok (.bipush 6, 2) := by decide +kernel
theorem dX5_hashOfPersons_19 : decode cX5_hashOfPersons 19 = .ok (.if_icmp .gt 28, 3) := by decide +kernel
theorem dX5_hashOfPersons_22 : decode cX5_hashOfPersons 22 = .ok (.ldc2_w 218, 3) := by decide +kernel
theorem dX5_hashOfPersons_25 : decode cX5_hashOfPersons 25 = .ok (.lload_n 3, 1) := by decide +kernel
theorem dX5_hashOfPersons_26 : decode cX5_hashOfPersons 26 = .ok (.lmul, 1) := by decide +kernel
theorem dX5_hashOfPersons_27 : decode cX5_hashOfPersons 27 = .ok (.aload_n 0, 1) := by decide +kernel
theorem dX5_hashOfPersons_28 : decode cX5_hashOfPersons 28 = .ok (.getfield 10, 3) := by decide +kernel
theorem dX5_hashOfPersons_31 : decode cX5_hashOfPersons 31 = .ok (.iload 5, 2) := by decide +kernel
theorem dX5_hashOfPersons_33 : decode cX5_hashOfPersons 33 = .ok (.iload 6, 2) := by decide +kernel
theorem dX5_hashOfPersons_35 : decode cX5_hashOfPersons 35 = .ok (.invokevirtual 126, 3) := by decide +kernel
theorem dX5_hashOfPersons_38 : decode cX5_hashOfPersons 38 = .ok (.i2l, 1) := by decide +kernel
theorem dX5_hashOfPersons_39 : decode cX5_hashOfPersons 39 = .ok (.ladd, 1) := by decide +kernel
theorem dX5_hashOfPersons_40 : decode cX5_hashOfPersons 40 = .ok (.lstore_n 3, 1) := by decide +kernel
theorem dX5_hashOfPersons_41 : decode cX5_hashOfPersons 41 = .ok (.iinc 6 1, 3) := by decide +kernel
theorem dX5_hashOfPersons_44 : decode cX5_hashOfPersons 44 = .ok (.goto (-29), 3) := by decide +kernel
theorem dX5_hashOfPersons_47 : decode cX5_hashOfPersons 47 = .ok (.iinc 5 1, 3) := by decide +kernel
theorem dX5_hashOfPersons_50 : decode cX5_hashOfPersons 50 = .ok (.goto (-45), 3) := by decide +kernel
theorem dX5_hashOfPersons_53 : decode cX5_hashOfPersons 53 = .ok (.lload_n 3, 1) := by decide +kernel
theorem dX5_hashOfPersons_54 : decode cX5_hashOfPersons 54 = .ok (.lreturn, 1) := by decide +kernel
set_option maxRecDepth 20000 in
theorem ggX5_hashOfThings_X3_rows : GoodIn wsX5_hashOfThings wsX3_rows := goodIn_r _ [8, 9, 46, 47, 48, 49] (by decide +kernel) (by decide +kernel)
set_option maxRecDepth 20000 in
theorem gX5_hashOfThings_X3_rows : GoodIn wsX5_hashOfThings (wsV RX5 165 RX3 yX3_rows wsX3_rows) := goodIn_app (goodIn_of _ (by decide +kernel)) ggX5_hashOfThings_X3_rows
set_option maxRecDepth 20000 in
theorem ggX5_hashOfThings_X2_aboutThing : GoodIn wsX5_hashOfThings wsX2_aboutThing := goodIn_r _ [14, 15, 16, 17, 18, 19, 7, 20, 9, 21, 22, 23, 24, 13, 25, 26, 5, 6, 8, 27, 28, 29, 30, 31, 37, 38, 39, 40, 41, 42, 43, 44, 45, 46, 47, 48, 49] (by decide +kernel) (by decide +kernel)
set_option maxRecDepth 20000 in
theorem gX5_hashOfThings_X2_aboutThing : GoodIn wsX5_hashOfThings (wsV RX5 129 RX2 yX2_aboutThing wsX2_aboutThing) := goodIn_app (goodIn_of _ (by decide +kernel)) ggX5_hashOfThings_X2_aboutThing
theorem dX5_hashOfThings_0 : decode cX5_hashOfThings 0 = .ok (.lload_n 1, 1) := by decide +kernel
theorem dX5_hashOfThings_1 : decode cX5_hashOfThings 1 = .ok (.lstore_n 3, 1) := by decide +kernel
theorem dX5_hashOfThings_2 : decode cX5_hashOfThings 2 = .ok (.iconst 0, 1) := by decide +kernel
theorem dX5_hashOfThings_3 : decode cX5_hashOfThings 3 = .ok (.istore 5, 2) := by decide +kernel
theorem dX5_hashOfThings_5 : decode cX5_hashOfThings 5 = .ok (.iload 5, 2) := by decide +kernel
theorem dX5_hashOfThings_7 : decode cX5_hashOfThings 7 = .ok (.aload_n 0, 1) := by decide +kernel
theorem dX5_hashOfThings_8 : decode cX5_hashOfThings 8 = .ok (.getfield 10, 3) := by decide +kernel
theorem dX5_hashOfThings_11 : decode cX5_hashOfThings 11 = .ok (.getfield 47, 3) := by decide +kernel
theorem dX5_hashOfThings_14 : decode cX5_hashOfThings 14 = .ok (.invokevirtual 165, 3) := by decide +kernel
theorem dX5_hashOfThings_17 : decode cX5_hashOfThings 17 = .ok (.if_icmp .ge 43, 3) := by decide +kernel
theorem dX5_hashOfThings_20 : decode cX5_hashOfThings 20 = .ok (.iconst 0, 1) := by decide +kernel
theorem dX5_hashOfThings_21 : decode cX5_hashOfThings 21 = .ok (.istore 6, 2) := by decide +kernel
theorem dX5_hashOfThings_23 : decode cX5_hashOfThings 23 = .ok (.iload 6, 2) := by decide +kernel
theorem dX5_hashOfThings_25 : decode cX5_hashOfThings 25 = .ok (.iconst 5, 1) := by decide +kernel
theorem dX5_hashOfThings_26 : decode cX5_hashOfThings 26 = .ok (.if_icmp .gt 28, 3) := by decide +kernel
theorem dX5_hashOfThings_29 : decode cX5_hashOfThings 29 = .ok (.ldc2_w 218, 3) := by decide +kernel
theorem dX5_hashOfThings_32 : decode cX5_hashOfThings 32 = .ok (.lload_n 3, 1) := by decide +kernel
theorem dX5_hashOfThings_33 : decode cX5_hashOfThings 33 = .ok (.lmul, 1) := by decide +kernel
theorem dX5_hashOfThings_34 : decode cX5_hashOfThings 34 = .ok (.aload_n 0, 1) := by decide +kernel
theorem dX5_hashOfThings_35 : decode cX5_hashOfThings 35 = .ok (.getfield 10, 3) := by decide +kernel
theorem dX5_hashOfThings_38 : decode cX5_hashOfThings 38 = .ok (.iload 5, 2) := by decide +kernel
theorem dX5_hashOfThings_40 : decode cX5_hashOfThings 40 = .ok (.iload 6, 2) := by decide +kernel
theorem dX5_hashOfThings_42 : decode cX5_hashOfThings 42 = .ok (.invokevirtual 129, 3) := by decide +kernel
theorem dX5_hashOfThings_45 : decode cX5_hashOfThings 45 = .ok (.i2l, 1) := by decide +kernel
theorem dX5_hashOfThings_46 : decode cX5_hashOfThings 46 = .ok (.ladd, 1) := by decide +kernel
theorem dX5_hashOfThings_47 : decode cX5_hashOfThings 47 = .ok (.lstore_n 3, 1) := by decide +kernel
theorem dX5_hashOfThings_48 : decode cX5_hashOfThings 48 = .ok (.iinc 6 1, 3) := by decide +kernel
theorem dX5_hashOfThings_51 : decode cX5_hashOfThings 51 = .ok (.goto (-28), 3) := by decide +kernel
theorem dX5_hashOfThings_54 : decode cX5_hashOfThings 54 = .ok (.iinc 5 1, 3) := by decide +kernel
theorem dX5_hashOfThings_57 : decode cX5_hashOfThings 57 = .ok (.goto (-52), 3) := by decide +kernel
theorem dX5_hashOfThings_60 : decode cX5_hashOfThings 60 = .ok (.lload_n 3, 1) := by decide +kernel
theorem dX5_hashOfThings_61 : decode cX5_hashOfThings 61 = .ok (.lreturn, 1) := by decide +kernel
set_option maxRecDepth 20000 in
theorem ggX5_hashOfGrants_X3_rows : GoodIn wsX5_hashOfGrants wsX3_rows := goodIn_r _ [8, 9, 43, 44, 45, 46] (by decide +kernel) (by decide +kernel)
set_option maxRecDepth 20000 in
theorem gX5_hashOfGrants_X3_rows : GoodIn wsX5_hashOfGrants (wsV RX5 165 RX3 yX3_rows wsX3_rows) := goodIn_app (goodIn_of _ (by decide +kernel)) ggX5_hashOfGrants_X3_rows
set_option maxRecDepth 20000 in
theorem ggX5_hashOfGrants_X3_at : GoodIn wsX5_hashOfGrants wsX3_at := goodIn_r _ [13, 9, 14, 15, 43, 44, 45, 46] (by decide +kernel) (by decide +kernel)
set_option maxRecDepth 20000 in
theorem gX5_hashOfGrants_X3_at : GoodIn wsX5_hashOfGrants (wsV RX5 86 RX3 yX3_at wsX3_at) := goodIn_app (goodIn_of _ (by decide +kernel)) ggX5_hashOfGrants_X3_at
set_option maxRecDepth 20000 in
theorem ggX5_hashOfGrants_X2_aboutGrant : GoodIn wsX5_hashOfGrants wsX2_aboutGrant := goodIn_r _ [20, 21, 22, 11, 12, 7, 13, 9, 14, 15, 23, 24, 25, 19, 26, 27, 28, 34, 35, 36, 37, 38, 39, 40, 41, 42, 43, 44, 45, 46] (by decide +kernel) (by decide +kernel)
set_option maxRecDepth 20000 in
theorem gX5_hashOfGrants_X2_aboutGrant : GoodIn wsX5_hashOfGrants (wsV RX5 132 RX2 yX2_aboutGrant wsX2_aboutGrant) := goodIn_app (goodIn_of _ (by decide +kernel)) ggX5_hashOfGrants_X2_aboutGrant
theorem dX5_hashOfGrants_0 : decode cX5_hashOfGrants 0 = .ok (.lload_n 1, 1) := by decide +kernel
theorem dX5_hashOfGrants_1 : decode cX5_hashOfGrants 1 = .ok (.lstore_n 3, 1) := by decide +kernel
theorem dX5_hashOfGrants_2 : decode cX5_hashOfGrants 2 = .ok (.iconst 0, 1) := by decide +kernel
theorem dX5_hashOfGrants_3 : decode cX5_hashOfGrants 3 = .ok (.istore 5, 2) := by decide +kernel
theorem dX5_hashOfGrants_5 : decode cX5_hashOfGrants 5 = .ok (.iload 5, 2) := by decide +kernel
theorem dX5_hashOfGrants_7 : decode cX5_hashOfGrants 7 = .ok (.aload_n 0, 1) := by decide +kernel
theorem dX5_hashOfGrants_8 : decode cX5_hashOfGrants 8 = .ok (.getfield 10, 3) := by decide +kernel
theorem dX5_hashOfGrants_11 : decode cX5_hashOfGrants 11 = .ok (.getfield 233, 3) := by decide +kernel
theorem dX5_hashOfGrants_14 : decode cX5_hashOfGrants 14 = .ok (.invokevirtual 165, 3) := by decide +kernel
theorem dX5_hashOfGrants_17 : decode cX5_hashOfGrants 17 = .ok (.if_icmp .ge 64, 3) := by decide +kernel
theorem dX5_hashOfGrants_20 : decode cX5_hashOfGrants 20 = .ok (.ldc2_w 218, 3) := by decide +kernel
theorem dX5_hashOfGrants_23 : decode cX5_hashOfGrants 23 = .ok (.lload_n 3, 1) := by decide +kernel
theorem dX5_hashOfGrants_24 : decode cX5_hashOfGrants 24 = .ok (.lmul, 1) := by decide +kernel
theorem dX5_hashOfGrants_25 : decode cX5_hashOfGrants 25 = .ok (.aload_n 0, 1) := by decide +kernel
theorem dX5_hashOfGrants_26 : decode cX5_hashOfGrants 26 = .ok (.getfield 10, 3) := by decide +kernel
theorem dX5_hashOfGrants_29 : decode cX5_hashOfGrants 29 = .ok (.getfield 233, 3) := by decide +kernel
theorem dX5_hashOfGrants_32 : decode cX5_hashOfGrants 32 = .ok (.iload 5, 2) := by decide +kernel
theorem dX5_hashOfGrants_34 : decode cX5_hashOfGrants 34 = .ok (.iconst 5, 1) := by decide +kernel
theorem dX5_hashOfGrants_35 : decode cX5_hashOfGrants 35 = .ok (.invokevirtual 86, 3) := by decide +kernel
theorem dX5_hashOfGrants_38 : decode cX5_hashOfGrants 38 = .ok (.i2l, 1) := by decide +kernel
theorem dX5_hashOfGrants_39 : decode cX5_hashOfGrants 39 = .ok (.ladd, 1) := by decide +kernel
theorem dX5_hashOfGrants_40 : decode cX5_hashOfGrants 40 = .ok (.lstore_n 3, 1) := by decide +kernel
theorem dX5_hashOfGrants_41 : decode cX5_hashOfGrants 41 = .ok (.iconst 0, 1) := by decide +kernel
theorem dX5_hashOfGrants_42 : decode cX5_hashOfGrants 42 = .ok (.istore 6, 2) := by decide +kernel
theorem dX5_hashOfGrants_44 : decode cX5_hashOfGrants 44 = .ok (.iload 6, 2) := by decide +kernel
theorem dX5_hashOfGrants_46 : decode cX5_hashOfGrants 46 = .ok (.iconst 5, 1) := by decide +kernel
theorem dX5_hashOfGrants_47 : decode cX5_hashOfGrants 47 = .ok (.if_icmp .gt 28, 3) := by decide +kernel
theorem dX5_hashOfGrants_50 : decode cX5_hashOfGrants 50 = .ok (.ldc2_w 218, 3) := by decide +kernel
theorem dX5_hashOfGrants_53 : decode cX5_hashOfGrants 53 = .ok (.lload_n 3, 1) := by decide +kernel
theorem dX5_hashOfGrants_54 : decode cX5_hashOfGrants 54 = .ok (.lmul, 1) := by decide +kernel
theorem dX5_hashOfGrants_55 : decode cX5_hashOfGrants 55 = .ok (.aload_n 0, 1) := by decide +kernel
theorem dX5_hashOfGrants_56 : decode cX5_hashOfGrants 56 = .ok (.getfield 10, 3) := by decide +kernel
theorem dX5_hashOfGrants_59 : decode cX5_hashOfGrants 59 = .ok (.iload 5, 2) := by decide +kernel
theorem dX5_hashOfGrants_61 : decode cX5_hashOfGrants 61 = .ok (.iload 6, 2) := by decide +kernel
theorem dX5_hashOfGrants_63 : decode cX5_hashOfGrants 63 = .ok (.invokevirtual 132, 3) := by decide +kernel
theorem dX5_hashOfGrants_66 : decode cX5_hashOfGrants 66 = .ok (.i2l, 1) := by decide +kernel
theorem dX5_hashOfGrants_67 : decode cX5_hashOfGrants 67 = .ok (.ladd, 1) := by decide +kernel
theorem dX5_hashOfGrants_68 : decode cX5_hashOfGrants 68 = .ok (.lstore_n 3, 1) := by decide +kernel
theorem dX5_hashOfGrants_69 : decode cX5_hashOfGrants 69 = .ok (.iinc 6 1, 3) := by decide +kernel
theorem dX5_hashOfGrants_72 : decode cX5_hashOfGrants 72 = .ok (.goto (-28), 3) := by decide +kernel
theorem dX5_hashOfGrants_75 : decode cX5_hashOfGrants 75 = .ok (.iinc 5 1, 3) := by decide +kernel
theorem dX5_hashOfGrants_78 : decode cX5_hashOfGrants 78 = .ok (.goto (-73), 3) := by decide +kernel
theorem dX5_hashOfGrants_81 : decode cX5_hashOfGrants 81 = .ok (.lload_n 3, 1) := by decide +kernel
theorem dX5_hashOfGrants_82 : decode cX5_hashOfGrants 82 = .ok (.lreturn, 1) := by decide +kernel
set_option maxRecDepth 20000 in
theorem ggX5_hashOfLog_X3_rows : GoodIn wsX5_hashOfLog wsX3_rows := goodIn_r _ [8, 9, 37, 38, 39, 40] (by decide +kernel) (by decide +kernel)
set_option maxRecDepth 20000 in
theorem gX5_hashOfLog_X3_rows : GoodIn wsX5_hashOfLog (wsV RX5 165 RX3 yX3_rows wsX3_rows) := goodIn_app (goodIn_of _ (by decide +kernel)) ggX5_hashOfLog_X3_rows
set_option maxRecDepth 20000 in
theorem ggX5_hashOfLog_X2_aboutEntry : GoodIn wsX5_hashOfLog wsX2_aboutEntry := goodIn_r _ [14, 15, 16, 5, 6, 7, 8, 9, 17, 18, 19, 20, 21, 22, 28, 29, 30, 31, 32, 33, 34, 35, 36, 37, 38, 39, 40] (by decide +kernel) (by decide +kernel)
set_option maxRecDepth 20000 in
theorem gX5_hashOfLog_X2_aboutEntry : GoodIn wsX5_hashOfLog (wsV RX5 171 RX2 yX2_aboutEntry wsX2_aboutEntry) := goodIn_app (goodIn_of _ (by decide +kernel)) ggX5_hashOfLog_X2_aboutEntry
theorem dX5_hashOfLog_0 : decode cX5_hashOfLog 0 = .ok (.lload_n 1, 1) := by decide +kernel
theorem dX5_hashOfLog_1 : decode cX5_hashOfLog 1 = .ok (.lstore_n 3, 1) := by decide +kernel
theorem dX5_hashOfLog_2 : decode cX5_hashOfLog 2 = .ok (.iconst 0, 1) := by decide +kernel
theorem dX5_hashOfLog_3 : decode cX5_hashOfLog 3 = .ok (.istore 5, 2) := by decide +kernel
theorem dX5_hashOfLog_5 : decode cX5_hashOfLog 5 = .ok (.iload 5, 2) := by decide +kernel
theorem dX5_hashOfLog_7 : decode cX5_hashOfLog 7 = .ok (.aload_n 0, 1) := by decide +kernel
theorem dX5_hashOfLog_8 : decode cX5_hashOfLog 8 = .ok (.getfield 10, 3) := by decide +kernel
theorem dX5_hashOfLog_11 : decode cX5_hashOfLog 11 = .ok (.getfield 162, 3) := by decide +kernel
theorem dX5_hashOfLog_14 : decode cX5_hashOfLog 14 = .ok (.invokevirtual 165, 3) := by decide +kernel
theorem dX5_hashOfLog_17 : decode cX5_hashOfLog 17 = .ok (.if_icmp .ge 43, 3) := by decide +kernel
theorem dX5_hashOfLog_20 : decode cX5_hashOfLog 20 = .ok (.iconst 0, 1) := by decide +kernel
theorem dX5_hashOfLog_21 : decode cX5_hashOfLog 21 = .ok (.istore 6, 2) := by decide +kernel
theorem dX5_hashOfLog_23 : decode cX5_hashOfLog 23 = .ok (.iload 6, 2) := by decide +kernel
theorem dX5_hashOfLog_25 : decode cX5_hashOfLog 25 = .ok (.iconst 2, 1) := by decide +kernel
theorem dX5_hashOfLog_26 : decode cX5_hashOfLog 26 = .ok (.if_icmp .gt 28, 3) := by decide +kernel
theorem dX5_hashOfLog_29 : decode cX5_hashOfLog 29 = .ok (.ldc2_w 218, 3) := by decide +kernel
theorem dX5_hashOfLog_32 : decode cX5_hashOfLog 32 = .ok (.lload_n 3, 1) := by decide +kernel
theorem dX5_hashOfLog_33 : decode cX5_hashOfLog 33 = .ok (.lmul, 1) := by decide +kernel
theorem dX5_hashOfLog_34 : decode cX5_hashOfLog 34 = .ok (.aload_n 0, 1) := by decide +kernel
theorem dX5_hashOfLog_35 : decode cX5_hashOfLog 35 = .ok (.getfield 10, 3) := by decide +kernel
theorem dX5_hashOfLog_38 : decode cX5_hashOfLog 38 = .ok (.iload 5, 2) := by decide +kernel
theorem dX5_hashOfLog_40 : decode cX5_hashOfLog 40 = .ok (.iload 6, 2) := by decide +kernel
theorem dX5_hashOfLog_42 : decode cX5_hashOfLog 42 = .ok (.invokevirtual 171, 3) := by decide +kernel
theorem dX5_hashOfLog_45 : decode cX5_hashOfLog 45 = .ok (.i2l, 1) := by decide +kernel
theorem dX5_hashOfLog_46 : decode cX5_hashOfLog 46 = .ok (.ladd, 1) := by decide +kernel
theorem dX5_hashOfLog_47 : decode cX5_hashOfLog 47 = .ok (.lstore_n 3, 1) := by decide +kernel
theorem dX5_hashOfLog_48 : decode cX5_hashOfLog 48 = .ok (.iinc 6 1, 3) := by decide +kernel
theorem dX5_hashOfLog_51 : decode cX5_hashOfLog 51 = .ok (.goto (-28), 3) := by decide +kernel
theorem dX5_hashOfLog_54 : decode cX5_hashOfLog 54 = .ok (.iinc 5 1, 3) := by decide +kernel
theorem dX5_hashOfLog_57 : decode cX5_hashOfLog 57 = .ok (.goto (-52), 3) := by decide +kernel
theorem dX5_hashOfLog_60 : decode cX5_hashOfLog 60 = .ok (.lload_n 3, 1) := by decide +kernel
theorem dX5_hashOfLog_61 : decode cX5_hashOfLog 61 = .ok (.lreturn, 1) := by decide +kernel
set_option maxRecDepth 20000 in
theorem ggX5_pairsLostBy_X2_takeOver : GoodIn wsX5_pairsLostBy wsX2_takeOver := goodIn_r _ [7, 8, 9, 10, 11, 12, 13, 14, 15, 16, 17, 18, 19, 20, 21, 22, 23, 24, 25, 101, 102, 103, 104, 105, 106, 107, 108, 109, 110, 111, 112, 113] (by decide +kernel) (by decide +kernel)
set_option maxRecDepth 20000 in
theorem gX5_pairsLostBy_X2_takeOver : GoodIn wsX5_pairsLostBy (wsV RX5 177 RX2 yX2_takeOver wsX2_takeOver) := goodIn_app (goodIn_of _ (by decide +kernel)) ggX5_pairsLostBy_X2_takeOver
set_option maxRecDepth 20000 in
theorem ggX5_pairsLostBy_X2_changeMood : GoodIn wsX5_pairsLostBy wsX2_changeMood := goodIn_r _ [29, 8, 30, 31, 32, 33, 34, 35, 36, 37, 38, 39, 20, 40, 22, 24, 25, 41, 42, 43, 44, 45, 46, 47, 6, 48, 10, 14, 49, 50, 51, 52, 53, 54, 55, 56, 57, 58, 59, 60, 11, 16, 61, 62, 63, 64, 23, 65, 66, 67, 68, 69, 70, 71, 72, 73, 74, 75, 76, 9, 12, 77, 78, 79, 80, 101, 102, 103, 104, 105, 106, 107, 108, 109, 110, 111, 112, 113] (by decide +kernel) (by decide +kernel)
set_option maxRecDepth 20000 in
theorem gX5_pairsLostBy_X2_changeMood : GoodIn wsX5_pairsLostBy (wsV RX5 111 RX2 yX2_changeMood wsX2_changeMood) := goodIn_app (goodIn_of _ (by decide +kernel)) ggX5_pairsLostBy_X2_changeMood
set_option maxRecDepth 20000 in
theorem ggX5_pairsLostBy_X2_countPairs : GoodIn wsX5_pairsLostBy wsX2_countPairs := goodIn_r _ [84, 9, 49, 50, 51, 20, 52, 22, 85, 86, 87, 6, 88, 12, 37, 38, 39, 40, 24, 25, 89, 90, 91, 92, 93, 94, 95, 101, 102, 103, 104, 105, 106, 107, 108, 109, 110, 111, 112, 113] (by decide +kernel) (by decide +kernel)
set_option maxRecDepth 20000 in
theorem gX5_pairsLostBy_X2_countPairs : GoodIn wsX5_pairsLostBy (wsV RX5 180 RX2 yX2_countPairs wsX2_countPairs) := goodIn_app (goodIn_of _ (by decide +kernel)) ggX5_pairsLostBy_X2_countPairs
theorem dX5_pairsLostBy_0 : decode cX5_pairsLostBy 0 = .ok (.aload_n 0, 1) := by decide +kernel
theorem dX5_pairsLostBy_1 : decode cX5_pairsLostBy 1 = .ok (.getfield 16, 3) := by decide +kernel
theorem dX5_pairsLostBy_4 : decode cX5_pairsLostBy 4 = .ok (.aload_n 0, 1) := by decide +kernel
theorem dX5_pairsLostBy_5 : decode cX5_pairsLostBy 5 = .ok (.getfield 10, 3) := by decide +kernel
theorem dX5_pairsLostBy_8 : decode cX5_pairsLostBy 8 = .ok (.invokevirtual 177, 3) := by decide +kernel
theorem dX5_pairsLostBy_11 : decode cX5_pairsLostBy 11 = .ok (.aload_n 0, 1) := by decide +kernel
theorem dX5_pairsLostBy_12 : decode cX5_pairsLostBy 12 = .ok (.getfield 16, 3) := by decide +kernel
theorem dX5_pairsLostBy_15 : decode cX5_pairsLostBy 15 = .ok (.iload_n 1, 1) := by decide +kernel
theorem dX5_pairsLostBy_16 : decode cX5_pairsLostBy 16 = .ok (.bipush (-100), 2) := by decide +kernel
theorem dX5_pairsLostBy_18 : decode cX5_pairsLostBy 18 = .ok (.invokevirtual 111, 3) := by decide +kernel
theorem dX5_pairsLostBy_21 : decode cX5_pairsLostBy 21 = .ok (.pop, 1) := by decide +kernel
theorem dX5_pairsLostBy_22 : decode cX5_pairsLostBy 22 = .ok (.aload_n 0, 1) := by decide +kernel
theorem dX5_pairsLostBy_23 : decode cX5_pairsLostBy 23 = .ok (.getfield 10, 3) := by decide +kernel
theorem dX5_pairsLostBy_26 : decode cX5_pairsLostBy 26 = .ok (.invokevirtual 180, 3) := by decide +kernel
theorem dX5_pairsLostBy_29 : decode cX5_pairsLostBy 29 = .ok (.aload_n 0, 1) := by decide +kernel
theorem dX5_pairsLostBy_30 : decode cX5_pairsLostBy 30 = .ok (.getfield 16, 3) := by decide +kernel
theorem dX5_pairsLostBy_33 : decode cX5_pairsLostBy 33 = .ok (.invokevirtual 180, 3) := by decide +kernel
theorem dX5_pairsLostBy_36 : decode cX5_pairsLostBy 36 = .ok (.isub, 1) := by decide +kernel
theorem dX5_pairsLostBy_37 : decode cX5_pairsLostBy 37 = .ok (.ireturn, 1) := by decide +kernel
set_option maxRecDepth 20000 in
theorem ggX5_obey_X3_at : GoodIn wsX5_obey wsX3_at := goodIn_r _ [6, 7, 8, 9, 148, 149, 150, 151] (by decide +kernel) (by decide +kernel)
set_option maxRecDepth 20000 in
theorem gX5_obey_X3_at : GoodIn wsX5_obey (wsV RX5 86 RX3 yX3_at wsX3_at) := goodIn_app (goodIn_of _ (by decide +kernel)) ggX5_obey_X3_at
set_option maxRecDepth 20000 in
theorem ggX5_obey_X5_obeyGrant : GoodIn wsX5_obey wsX5_obeyGrant := goodIn_r _ [14, 1, 2, 3, 4, 5, 6, 7, 8, 9, 15, 16, 17, 18, 19, 20, 21, 22, 23, 13, 24, 25, 26, 27, 28, 29, 30, 31, 32, 33, 34, 35, 36, 37, 38, 39, 40, 41, 42, 43, 44, 45, 46, 47, 48, 49, 50, 51, 52, 53, 54, 55, 56, 57, 58, 59, 60, 61, 62, 63, 64, 65, 66, 67, 143, 144, 145, 146, 147, 148, 149, 150, 151, 152, 153, 154, 155, 156, 157, 158, 159, 160] (by decide +kernel) (by decide +kernel)
set_option maxRecDepth 20000 in
theorem gX5_obey_X5_obeyGrant : GoodIn wsX5_obey (wsV RX5 236 RX5 yX5_obeyGrant wsX5_obeyGrant) := goodIn_app (goodIn_of _ (by decide +kernel)) ggX5_obey_X5_obeyGrant
set_option maxRecDepth 20000 in
theorem ggX5_obey_X5_obeyRevoke : GoodIn wsX5_obey wsX5_obeyRevoke := goodIn_r _ [71, 1, 72, 73, 74, 18, 75, 22, 60, 61, 62, 5, 63, 7, 37, 3, 4, 6, 8, 9, 76, 77, 78, 79, 80, 81, 82, 83, 84, 20, 85, 86, 87, 88, 36, 89, 90, 91, 92, 93, 94, 95, 96, 97, 98, 99, 56, 57, 58, 59, 52, 53, 54, 55, 64, 65, 66, 67, 143, 144, 145, 146, 147, 152, 153, 154, 155, 156, 157, 158, 159, 160, 148, 149, 150, 151] (by decide +kernel) (by decide +kernel)
set_option maxRecDepth 20000 in
theorem gX5_obey_X5_obeyRevoke : GoodIn wsX5_obey (wsV RX5 239 RX5 yX5_obeyRevoke wsX5_obeyRevoke) := goodIn_app (goodIn_of _ (by decide +kernel)) ggX5_obey_X5_obeyRevoke
set_option maxRecDepth 20000 in
theorem ggX5_obey_X2_changeMood : GoodIn wsX5_obey wsX2_changeMood := goodIn_r _ [103, 21, 104, 105, 106, 107, 108, 109, 110, 37, 3, 4, 5, 6, 7, 8, 9, 52, 53, 54, 55, 111, 112, 113, 18, 114, 22, 115, 60, 61, 62, 63, 116, 117, 118, 119, 120, 121, 122, 123, 124, 125, 38, 39, 40, 41, 42, 96, 97, 98, 99, 48, 49, 50, 51, 56, 57, 58, 59, 20, 36, 64, 65, 66, 67, 152, 153, 154, 155, 156, 157, 158, 159, 160, 148, 149, 150, 151] (by decide +kernel) (by decide +kernel)
set_option maxRecDepth 20000 in
theorem gX5_obey_X2_changeMood : GoodIn wsX5_obey (wsV RX5 111 RX2 yX2_changeMood wsX2_changeMood) := goodIn_app (goodIn_of _ (by decide +kernel)) ggX5_obey_X2_changeMood
set_option maxRecDepth 20000 in
theorem ggX5_obey_X5_obeyPass : GoodIn wsX5_obey wsX5_obeyPass := goodIn_r _ [129, 1, 130, 131, 132, 18, 133, 125, 134, 135, 136, 137, 138, 139, 140, 141, 142, 21, 37, 3, 4, 5, 6, 7, 8, 9, 52, 53, 54, 55, 111, 112, 113, 114, 22, 115, 60, 61, 62, 63, 116, 117, 118, 119, 120, 121, 122, 123, 124, 38, 39, 40, 41, 42, 96, 97, 98, 99, 48, 49, 50, 51, 56, 57, 58, 59, 20, 36, 64, 65, 66, 67, 143, 144, 145, 146, 147, 152, 153, 154, 155, 156, 157, 158, 159, 160, 148, 149, 150, 151] (by decide +kernel) (by decide +kernel)
set_option maxRecDepth 20000 in
theorem gX5_obey_X5_obeyPass : GoodIn wsX5_obey (wsV RX5 242 RX5 yX5_obeyPass wsX5_obeyPass) := goodIn_app (goodIn_of _ (by decide +kernel)) ggX5_obey_X5_obeyPass
theorem dX5_obey_0 : decode cX5_obey 0 = .ok (.aload_n 1, 1) := by decide +kernel
theorem dX5_obey_1 : decode cX5_obey 1 = .ok (.iload_n 2, 1) := by decide +kernel
theorem dX5_obey_2 : decode cX5_obey 2 = .ok (.iconst 1, 1) := by decide +kernel
theorem dX5_obey_3 : decode cX5_obey 3 = .ok (.invokevirtual 86, 3) := by decide +kernel
theorem dX5_obey_6 : decode cX5_obey 6 = .ok (.istore_n 3, 1) := by decide +kernel
theorem dX5_obey_7 : decode cX5_obey 7 = .ok (.aload_n 1, 1) := by decide +kernel
theorem dX5_obey_8 : decode cX5_obey 8 = .ok (.iload_n 2, 1) := by decide +kernel
theorem dX5_obey_9 : decode cX5_obey 9 = .ok (.iconst 0, 1) := by decide +kernel
theorem dX5_obey_10 : decode cX5_obey 10 = .ok (.invokevirtual 86, 3) := by decide +kernel
theorem dX5_obey_13 : decode cX5_obey 13 = .ok (.lookupswitch 79 #[(99, 56), (103, 43), (116, 73), (118, 50)], 43) := by decide +kernel
theorem dX5_obey_56 : decode cX5_obey 56 = .ok (.aload_n 0, 1) := by decide +kernel
theorem dX5_obey_57 : decode cX5_obey 57 = .ok (.aload_n 1, 1) := by decide +kernel
theorem dX5_obey_58 : decode cX5_obey 58 = .ok (.iload_n 2, 1) := by decide +kernel
theorem dX5_obey_59 : decode cX5_obey 59 = .ok (.invokevirtual 236, 3) := by decide +kernel
theorem dX5_obey_62 : decode cX5_obey 62 = .ok (.ireturn, 1) := by decide +kernel
theorem dX5_obey_63 : decode cX5_obey 63 = .ok (.aload_n 0, 1) := by decide +kernel
theorem dX5_obey_64 : decode cX5_obey 64 = .ok (.iload_n 3, 1) := by decide +kernel
theorem dX5_obey_65 : decode cX5_obey 65 = .ok (.invokevirtual 239, 3) := by decide +kernel
theorem dX5_obey_68 : decode cX5_obey 68 = .ok (.ireturn, 1) := by decide +kernel
theorem dX5_obey_69 : decode cX5_obey 69 = .ok (.aload_n 0, 1) := by decide +kernel
theorem dX5_obey_70 : decode cX5_obey 70 = .ok (.getfield 10, 3) := by decide +kernel
theorem dX5_obey_73 : decode cX5_obey 73 = .ok (.iload_n 3, 1) := by decide +kernel
theorem dX5_obey_74 : decode cX5_obey 74 = .ok (.aload_n 1, 1) := by decide +kernel
theorem dX5_obey_75 : decode cX5_obey 75 = .ok (.iload_n 2, 1) := by decide +kernel
theorem dX5_obey_76 : decode cX5_obey 76 = .ok (.iconst 2, 1) := by decide +kernel
theorem dX5_obey_77 : decode cX5_obey 77 = .ok (.invokevirtual 86, 3) := by decide +kernel
theorem dX5_obey_80 : decode cX5_obey 80 = .ok (.invokevirtual 111, 3) := by decide +kernel
theorem dX5_obey_83 : decode cX5_obey 83 = .ok (.pop, 1) := by decide +kernel
theorem dX5_obey_84 : decode cX5_obey 84 = .ok (.iconst 1, 1) := by decide +kernel
theorem dX5_obey_85 : decode cX5_obey 85 = .ok (.ireturn, 1) := by decide +kernel
theorem dX5_obey_86 : decode cX5_obey 86 = .ok (.aload_n 0, 1) := by decide +kernel
theorem dX5_obey_87 : decode cX5_obey 87 = .ok (.iload_n 3, 1) := by decide +kernel
theorem dX5_obey_88 : decode cX5_obey 88 = .ok (.invokevirtual 242, 3) := by decide +kernel
theorem dX5_obey_91 : decode cX5_obey 91 = .ok (.ireturn, 1) := by decide +kernel
theorem dX5_obey_92 : decode cX5_obey 92 = .ok (.iconst 0, 1) := by decide +kernel
theorem dX5_obey_93 : decode cX5_obey 93 = .ok (.ireturn, 1) := by decide +kernel
set_option maxRecDepth 20000 in
theorem ggX5_obeyGrant_X3_at : GoodIn wsX5_obeyGrant wsX3_at := goodIn_r _ [6, 7, 8, 9, 69, 70, 71, 72] (by decide +kernel) (by decide +kernel)
set_option maxRecDepth 20000 in
theorem gX5_obeyGrant_X3_at : GoodIn wsX5_obeyGrant (wsV RX5 86 RX3 yX3_at wsX3_at) := goodIn_app (goodIn_of _ (by decide +kernel)) ggX5_obeyGrant_X3_at
set_option maxRecDepth 20000 in
theorem ggX5_obeyGrant_X2_faultOfGrant : GoodIn wsX5_obeyGrant wsX2_faultOfGrant := goodIn_r _ [14, 15, 16, 17, 18, 19, 20, 21, 22, 23, 24, 25, 26, 5, 27, 7, 28, 29, 30, 13, 31, 32, 33, 3, 4, 6, 8, 9, 34, 35, 36, 37, 38, 73, 74, 75, 76, 77, 78, 79, 80, 81, 69, 70, 71, 72] (by decide +kernel) (by decide +kernel)
set_option maxRecDepth 20000 in
theorem gX5_obeyGrant_X2_faultOfGrant : GoodIn wsX5_obeyGrant (wsV RX5 92 RX2 yX2_faultOfGrant wsX2_faultOfGrant) := goodIn_app (goodIn_of _ (by decide +kernel)) ggX5_obeyGrant_X2_faultOfGrant
set_option maxRecDepth 20000 in
theorem ggX5_obeyGrant_X2_lend : GoodIn wsX5_obeyGrant wsX2_lend := goodIn_r _ [42, 43, 17, 44, 45, 46, 5, 47, 7, 38, 48, 49, 50, 51, 8, 9, 52, 53, 54, 13, 55, 15, 32, 56, 57, 58, 59, 33, 3, 4, 6, 60, 61, 62, 63, 73, 74, 75, 76, 77, 78, 79, 80, 81, 69, 70, 71, 72] (by decide +kernel) (by decide +kernel)
set_option maxRecDepth 20000 in
theorem gX5_obeyGrant_X2_lend : GoodIn wsX5_obeyGrant (wsV RX5 101 RX2 yX2_lend wsX2_lend) := goodIn_app (goodIn_of _ (by decide +kernel)) ggX5_obeyGrant_X2_lend
theorem dX5_obeyGrant_0 : decode cX5_obeyGrant 0 = .ok (.aload_n 1, 1) := by decide +kernel
theorem dX5_obeyGrant_1 : decode cX5_obeyGrant 1 = .ok (.iload_n 2, 1) := by decide +kernel
theorem dX5_obeyGrant_2 : decode cX5_obeyGrant 2 = .ok (.iconst 1, 1) := by decide +kernel
theorem dX5_obeyGrant_3 : decode cX5_obeyGrant 3 = .ok (.invokevirtual 86, 3) := by decide +kernel
theorem dX5_obeyGrant_6 : decode cX5_obeyGrant 6 = .ok (.istore_n 3, 1) := by decide +kernel
theorem dX5_obeyGrant_7 : decode cX5_obeyGrant 7 = .ok (.aload_n 1, 1) := by decide +kernel
theorem dX5_obeyGrant_8 : decode cX5_obeyGrant 8 = .ok (.iload_n 2, 1) := by decide +kernel
theorem dX5_obeyGrant_9 : decode cX5_obeyGrant 9 = .ok (.iconst 2, 1) := by decide +kernel
theorem dX5_obeyGrant_10 : decode cX5_obeyGrant 10 = .ok (.invokevirtual 86, 3) := by decide +kernel
theorem dX5_obeyGrant_13 : decode cX5_obeyGrant 13 = .ok (.istore 4, 2) := by decide +kernel
theorem dX5_obeyGrant_15 : decode cX5_obeyGrant 15 = .ok (.aload_n 1, 1) := by decide +kernel
theorem dX5_obeyGrant_16 : decode cX5_obeyGrant 16 = .ok (.iload_n 2, 1) := by decide +kernel
theorem dX5_obeyGrant_17 : decode cX5_obeyGrant 17 = .ok (.iconst 3, 1) := by decide +kernel
theorem dX5_obeyGrant_18 : decode cX5_obeyGrant 18 = .ok (.invokevirtual 86, 3) := by decide +kernel
theorem dX5_obeyGrant_21 : decode cX5_obeyGrant 21 = .ok (.istore 5, 2) := by decide +kernel
theorem dX5_obeyGrant_23 : decode cX5_obeyGrant 23 = .ok (.aload_n 1, 1) := by decide +kernel
theorem dX5_obeyGrant_24 : decode cX5_obeyGrant 24 = .ok (.iload_n 2, 1) := by decide +kernel
theorem dX5_obeyGrant_25 : decode cX5_obeyGrant 25 = .ok (.iconst 4, 1) := by decide +kernel
theorem dX5_obeyGrant_26 : decode cX5_obeyGrant 26 = .ok (.invokevirtual 86, 3) := by decide +kernel
theorem dX5_obeyGrant_29 : decode cX5_obeyGrant 29 = .ok (.istore 6, 2) := by decide +kernel
theorem dX5_obeyGrant_31 : decode cX5_obeyGrant 31 = .ok (.aload_n 1, 1) := by decide +kernel
theorem dX5_obeyGrant_32 : decode cX5_obeyGrant 32 = .ok (.iload_n 2, 1) := by decide +kernel
theorem dX5_obeyGrant_33 : decode cX5_obeyGrant 33 = .ok (.iconst 5, 1) := by decide +kernel
theorem dX5_obeyGrant_34 : decode cX5_obeyGrant 34 = .ok (.invokevirtual 86, 3) := by decide +kernel
theorem dX5_obeyGrant_37 : decode cX5_obeyGrant 37 = .ok (.istore 7, 2) := by decide +kernel
theorem dX5_obeyGrant_39 : decode cX5_obeyGrant 39 = .ok (.aload_n 0, 1) := by decide +kernel
theorem dX5_obeyGrant_40 : decode cX5_obeyGrant 40 = .ok (.getfield 10, 3) := by decide +kernel
theorem dX5_obeyGrant_43 : decode cX5_obeyGrant 43 = .ok (.iload_n 3, 1) := by decide +kernel
theorem dX5_obeyGrant_44 : decode cX5_obeyGrant 44 = .ok (.iload 4, 2) := by decide +kernel
theorem dX5_obeyGrant_46 : decode cX5_obeyGrant 46 = .ok (.iload 5, 2) := by decide +kernel
theorem dX5_obeyGrant_48 : decode cX5_obeyGrant 48 = .ok (.iload 6, 2) := by decide +kernel
theorem dX5_obeyGrant_50 : decode cX5_obeyGrant 50 = .ok (.iload 7, 2) := by decide +kernel
theorem dX5_obeyGrant_52 : decode cX5_obeyGrant 52 = .ok (.invokevirtual 92, 3) := by decide +kernel
theorem dX5_obeyGrant_55 : decode cX5_obeyGrant 55 = .ok (.ifCond .eq 5, 3) := by decide +kernel
theorem dX5_obeyGrant_58 : decode cX5_obeyGrant 58 = .ok (.iconst 0, 1) := by decide +kernel
theorem dX5_obeyGrant_59 : decode cX5_obeyGrant 59 = .ok (.ireturn, 1) := by decide +kernel
theorem dX5_obeyGrant_60 : decode cX5_obeyGrant 60 = .ok (.aload_n 0, 1) := by decide +kernel
theorem dX5_obeyGrant_61 : decode cX5_obeyGrant 61 = .ok (.getfield 10, 3) := by decide +kernel
theorem dX5_obeyGrant_64 : decode cX5_obeyGrant 64 = .ok (.iload_n 3, 1) := by decide +kernel
theorem dX5_obeyGrant_65 : decode cX5_obeyGrant 65 = .ok (.iload 4, 2) := by decide +kernel
theorem dX5_obeyGrant_67 : decode cX5_obeyGrant 67 = .ok (.iload 5, 2) := by decide +kernel
theorem dX5_obeyGrant_69 : decode cX5_obeyGrant 69 = .ok (.iload 6, 2) := by decide +kernel
theorem dX5_obeyGrant_71 : decode cX5_obeyGrant 71 = .ok (.iload 7, 2) := by decide +kernel
theorem dX5_obeyGrant_73 : decode cX5_obeyGrant 73 = .ok (.invokevirtual 101, 3) := by decide +kernel
theorem dX5_obeyGrant_76 : decode cX5_obeyGrant 76 = .ok (.pop, 1) := by decide +kernel
theorem dX5_obeyGrant_77 : decode cX5_obeyGrant 77 = .ok (.iconst 1, 1) := by decide +kernel
theorem dX5_obeyGrant_78 : decode cX5_obeyGrant 78 = .ok (.ireturn, 1) := by decide +kernel
set_option maxRecDepth 20000 in
theorem ggX5_obeyRevoke_X2_placeOf : GoodIn wsX5_obeyRevoke wsX2_placeOf := goodIn_r _ [6, 7, 8, 9, 10, 11, 12, 13, 14, 15, 16, 17, 18, 19, 63, 64, 65, 66, 67, 68, 69, 70, 71, 72, 73, 74, 75] (by decide +kernel) (by decide +kernel)
set_option maxRecDepth 20000 in
theorem gX5_obeyRevoke_X2_placeOf : GoodIn wsX5_obeyRevoke (wsV RX5 245 RX2 yX2_placeOf wsX2_placeOf) := goodIn_app (goodIn_of _ (by decide +kernel)) ggX5_obeyRevoke_X2_placeOf
set_option maxRecDepth 20000 in
theorem ggX5_obeyRevoke_X2_takeBack : GoodIn wsX5_obeyRevoke wsX2_takeBack := goodIn_r _ [23, 7, 24, 25, 26, 27, 5, 28, 29, 8, 9, 10, 11, 12, 13, 30, 31, 32, 33, 34, 14, 15, 16, 17, 18, 19, 35, 36, 37, 38, 39, 40, 41, 42, 43, 44, 45, 46, 47, 48, 49, 50, 51, 52, 53, 54, 55, 56, 57, 63, 64, 65, 66, 67, 68, 69, 70, 71, 72, 73, 74, 75] (by decide +kernel) (by decide +kernel)
set_option maxRecDepth 20000 in
theorem gX5_obeyRevoke_X2_takeBack : GoodIn wsX5_obeyRevoke (wsV RX5 108 RX2 yX2_takeBack wsX2_takeBack) := goodIn_app (goodIn_of _ (by decide +kernel)) ggX5_obeyRevoke_X2_takeBack
theorem dX5_obeyRevoke_0 : decode cX5_obeyRevoke 0 = .ok (.aload_n 0, 1) := by decide +kernel
theorem dX5_obeyRevoke_1 : decode cX5_obeyRevoke 1 = .ok (.getfield 10, 3) := by decide +kernel
theorem dX5_obeyRevoke_4 : decode cX5_obeyRevoke 4 = .ok (.iload_n 1, 1) := by decide +kernel
theorem dX5_obeyRevoke_5 : decode cX5_obeyRevoke 5 = .ok (.invokevirtual 245, 3) := by decide +kernel
theorem dX5_obeyRevoke_8 : decode cX5_obeyRevoke 8 = .ok (.istore_n 2, 1) := by decide +kernel
theorem dX5_obeyRevoke_9 : decode cX5_obeyRevoke 9 = .ok (.iload_n 2, 1) := by decide +kernel
theorem dX5_obeyRevoke_10 : decode cX5_obeyRevoke 10 = .ok (.iconst (-1), 1) := by decide +kernel
theorem dX5_obeyRevoke_11 : decode cX5_obeyRevoke 11 = .ok (.if_icmp .ne 5, 3) := by decide +kernel
theorem dX5_obeyRevoke_14 : decode cX5_obeyRevoke 14 = .ok (.iconst 0, 1) := by decide +kernel
theorem dX5_obeyRevoke_15 : decode cX5_obeyRevoke 15 = .ok (.ireturn, 1) := by decide +kernel
theorem dX5_obeyRevoke_16 : decode cX5_obeyRevoke 16 = .ok (.aload_n 0, 1) := by decide +kernel
theorem dX5_obeyRevoke_17 : decode cX5_obeyRevoke 17 = .ok (.getfield 10, 3) := by decide +kernel
theorem dX5_obeyRevoke_20 : decode cX5_obeyRevoke 20 = .ok (.iload_n 2, 1) := by decide +kernel
theorem dX5_obeyRevoke_21 : decode cX5_obeyRevoke 21 = .ok (.invokevirtual 108, 3) := by decide +kernel
theorem dX5_obeyRevoke_24 : decode cX5_obeyRevoke 24 = .ok (.pop, 1) := by decide +kernel
theorem dX5_obeyRevoke_25 : decode cX5_obeyRevoke 25 = .ok (.iconst 1, 1) := by decide +kernel
theorem dX5_obeyRevoke_26 : decode cX5_obeyRevoke 26 = .ok (.ireturn, 1) := by decide +kernel
set_option maxRecDepth 20000 in
theorem ggX5_obeyPass_X2_hasTimeFor : GoodIn wsX5_obeyPass wsX2_hasTimeFor := goodIn_r _ [6, 7, 8, 77, 78, 79, 80, 81, 82, 83, 84, 85] (by decide +kernel) (by decide +kernel)
set_option maxRecDepth 20000 in
theorem gX5_obeyPass_X2_hasTimeFor : GoodIn wsX5_obeyPass (wsV RX5 114 RX2 yX2_hasTimeFor wsX2_hasTimeFor) := goodIn_app (goodIn_of _ (by decide +kernel)) ggX5_obeyPass_X2_hasTimeFor
set_option maxRecDepth 20000 in
theorem ggX5_obeyPass_X2_letPass : GoodIn wsX5_obeyPass wsX2_letPass := goodIn_r _ [12, 7, 13, 14, 15, 5, 16, 17, 18, 19, 20, 21, 22, 23, 24, 25, 26, 27, 28, 29, 30, 31, 32, 33, 34, 35, 36, 37, 38, 39, 40, 41, 42, 43, 44, 45, 46, 47, 48, 49, 50, 51, 52, 53, 54, 55, 56, 57, 58, 59, 60, 61, 62, 63, 64, 65, 66, 67, 68, 69, 70, 71, 77, 78, 79, 80, 81, 82, 83, 84, 85, 86, 87, 88, 89] (by decide +kernel) (by decide +kernel)
set_option maxRecDepth 20000 in
theorem gX5_obeyPass_X2_letPass : GoodIn wsX5_obeyPass (wsV RX5 120 RX2 yX2_letPass wsX2_letPass) := goodIn_app (goodIn_of _ (by decide +kernel)) ggX5_obeyPass_X2_letPass
theorem dX5_obeyPass_0 : decode cX5_obeyPass 0 = .ok (.aload_n 0, 1) := by decide +kernel
theorem dX5_obeyPass_1 : decode cX5_obeyPass 1 = .ok (.getfield 10, 3) := by decide +kernel
theorem dX5_obeyPass_4 : decode cX5_obeyPass 4 = .ok (.iload_n 1, 1) := by decide +kernel
theorem dX5_obeyPass_5 : decode cX5_obeyPass 5 = .ok (.invokevirtual 114, 3) := by decide +kernel
theorem dX5_obeyPass_8 : decode cX5_obeyPass 8 = .ok (.ifCond .ne 5, 3) := by decide +kernel
theorem dX5_obeyPass_11 : decode cX5_obeyPass 11 = .ok (.iconst 0, 1) := by decide +kernel
theorem dX5_obeyPass_12 : decode cX5_obeyPass 12 = .ok (.ireturn, 1) := by decide +kernel
theorem dX5_obeyPass_13 : decode cX5_obeyPass 13 = .ok (.aload_n 0, 1) := by decide +kernel
theorem dX5_obeyPass_14 : decode cX5_obeyPass 14 = .ok (.getfield 10, 3) := by decide +kernel
theorem dX5_obeyPass_17 : decode cX5_obeyPass 17 = .ok (.iload_n 1, 1) := by decide +kernel
theorem dX5_obeyPass_18 : decode cX5_obeyPass 18 = .ok (.invokevirtual 120, 3) := by decide +kernel
theorem dX5_obeyPass_21 : decode cX5_obeyPass 21 = .ok (.pop, 1) := by decide +kernel
theorem dX5_obeyPass_22 : decode cX5_obeyPass 22 = .ok (.iconst 1, 1) := by decide +kernel
theorem dX5_obeyPass_23 : decode cX5_obeyPass 23 = .ok (.ireturn, 1) := by decide +kernel
theorem dX5_requireFit_0 : decode cX5_requireFit 0 = .ok (.iload_n 0, 1) := by decide +kernel
theorem dX5_requireFit_1 : decode cX5_requireFit 1 = .ok (.iconst 1, 1) := by decide +kernel
theorem dX5_requireFit_2 : decode cX5_requireFit 2 = .ok (.if_icmp .ne 13, 3) := by decide +kernel
theorem dX5_requireFit_5 : decode cX5_requireFit 5 = .ok (.new 142, 3) := by decide +kernel
theorem dX5_requireFit_8 : decode cX5_requireFit 8 = .ok (.dup, 1) := by decide +kernel
theorem dX5_requireFit_9 : decode cX5_requireFit 9 = .ok (.ldc 248, 2) := by decide +kernel
theorem dX5_requireFit_11 : decode cX5_requireFit 11 = .ok (.invokespecial 146, 3) := by decide +kernel
theorem dX5_requireFit_14 : decode cX5_requireFit 14 = .ok (.athrow, 1) := by decide +kernel
theorem dX5_requireFit_15 : decode cX5_requireFit 15 = .ok (.iload_n 0, 1) := by decide +kernel
theorem dX5_requireFit_16 : decode cX5_requireFit 16 = .ok (.iconst 2, 1) := by decide +kernel
theorem dX5_requireFit_17 : decode cX5_requireFit 17 = .ok (.if_icmp .ne 13, 3) := by decide +kernel
theorem dX5_requireFit_20 : decode cX5_requireFit 20 = .ok (.new 151, 3) := by decide +kernel
theorem dX5_requireFit_23 : decode cX5_requireFit 23 = .ok (.dup, 1) := by decide +kernel
theorem dX5_requireFit_24 : decode cX5_requireFit 24 = .ok (.ldc 250, 2) := by decide +kernel
theorem dX5_requireFit_26 : decode cX5_requireFit 26 = .ok (.invokespecial 155, 3) := by decide +kernel
theorem dX5_requireFit_29 : decode cX5_requireFit 29 = .ok (.athrow, 1) := by decide +kernel
theorem dX5_requireFit_30 : decode cX5_requireFit 30 = .ok (.return_, 1) := by decide +kernel
set_option maxRecDepth 20000 in
theorem ggX5_requireGrant_X2_placeOf : GoodIn wsX5_requireGrant wsX2_placeOf := goodIn_r _ [8, 9, 10, 11, 12, 13, 14, 15, 16, 17, 18, 19, 20, 21, 27, 28, 29, 30, 31, 32, 33, 34, 35, 36, 37, 38, 39] (by decide +kernel) (by decide +kernel)
set_option maxRecDepth 20000 in
theorem gX5_requireGrant_X2_placeOf : GoodIn wsX5_requireGrant (wsV RX5 245 RX2 yX2_placeOf wsX2_placeOf) := goodIn_app (goodIn_of _ (by decide +kernel)) ggX5_requireGrant_X2_placeOf
theorem dX5_requireGrant_0 : decode cX5_requireGrant 0 = .ok (.aload_n 0, 1) := by decide +kernel
theorem dX5_requireGrant_1 : decode cX5_requireGrant 1 = .ok (.getfield 10, 3) := by decide +kernel
theorem dX5_requireGrant_4 : decode cX5_requireGrant 4 = .ok (.iload_n 1, 1) := by decide +kernel
theorem dX5_requireGrant_5 : decode cX5_requireGrant 5 = .ok (.invokevirtual 245, 3) := by decide +kernel
theorem dX5_requireGrant_8 : decode cX5_requireGrant 8 = .ok (.istore_n 2, 1) := by decide +kernel
theorem dX5_requireGrant_9 : decode cX5_requireGrant 9 = .ok (.iload_n 2, 1) := by decide +kernel
theorem dX5_requireGrant_10 : decode cX5_requireGrant 10 = .ok (.iconst (-1), 1) := by decide +kernel
theorem dX5_requireGrant_11 : decode cX5_requireGrant 11 = .ok (.if_icmp .ne 13, 3) := by decide +kernel
theorem dX5_requireGrant_14 : decode cX5_requireGrant 14 = .ok (.new 252, 3) := by decide +kernel
theorem dX5_requireGrant_17 : decode cX5_requireGrant 17 = .ok (.dup, 1) := by decide +kernel
theorem dX5_requireGrant_18 : decode cX5_requireGrant 18 = .ok (.ldc 254, 2) := by decide +kernel
theorem dX5_requireGrant_20 : decode cX5_requireGrant 20 = .ok (.invokespecial 256, 3) := by decide +kernel
theorem dX5_requireGrant_23 : decode cX5_requireGrant 23 = .ok (.athrow, 1) := by decide +kernel
theorem dX5_requireGrant_24 : decode cX5_requireGrant 24 = .ok (.iload_n 2, 1) := by decide +kernel
theorem dX5_requireGrant_25 : decode cX5_requireGrant 25 = .ok (.ireturn, 1) := by decide +kernel
set_option maxRecDepth 20000 in
theorem ggX5_requireThing_X3_has : GoodIn wsX5_requireThing wsX3_has := goodIn_r _ [9, 10, 25, 26, 27, 28] (by decide +kernel) (by decide +kernel)
set_option maxRecDepth 20000 in
theorem gX5_requireThing_X3_has : GoodIn wsX5_requireThing (wsV RX5 257 RX3 yX3_has wsX3_has) := goodIn_app (goodIn_of _ (by decide +kernel)) ggX5_requireThing_X3_has
theorem dX5_requireThing_0 : decode cX5_requireThing 0 = .ok (.aload_n 0, 1) := by decide +kernel
theorem dX5_requireThing_1 : decode cX5_requireThing 1 = .ok (.getfield 10, 3) := by decide +kernel
theorem dX5_requireThing_4 : decode cX5_requireThing 4 = .ok (.getfield 47, 3) := by decide +kernel
theorem dX5_requireThing_7 : decode cX5_requireThing 7 = .ok (.iload_n 1, 1) := by decide +kernel
theorem dX5_requireThing_8 : decode cX5_requireThing 8 = .ok (.invokevirtual 257, 3) := by decide +kernel
theorem dX5_requireThing_11 : decode cX5_requireThing 11 = .ok (.ifCond .ne 14, 3) := by decide +kernel
theorem dX5_requireThing_14 : decode cX5_requireThing 14 = .ok (.new 142, 3) := by decide +kernel
theorem dX5_requireThing_17 : decode cX5_requireThing 17 = .ok (.dup, 1) := by decide +kernel
theorem dX5_requireThing_18 : decode cX5_requireThing 18 = .ok (.ldc_w 260, 3) := by decide +kernel
theorem dX5_requireThing_21 : decode cX5_requireThing 21 = .ok (.invokespecial 146, 3) := by decide +kernel
theorem dX5_requireThing_24 : decode cX5_requireThing 24 = .ok (.athrow, 1) := by decide +kernel
theorem dX5_requireThing_25 : decode cX5_requireThing 25 = .ok (.return_, 1) := by decide +kernel
set_option maxRecDepth 20000 in
theorem ggX5_requirePerson_X5_isPerson : GoodIn wsX5_requirePerson wsX5_isPerson := goodIn_r _ [6, 7, 8, 5, 9] (by decide +kernel) (by decide +kernel)
set_option maxRecDepth 20000 in
theorem gX5_requirePerson_X5_isPerson : GoodIn wsX5_requirePerson (va_wsS RX5 262 yX5_isPerson wsX5_isPerson) := goodIn_app (goodIn_of _ (by decide +kernel)) ggX5_requirePerson_X5_isPerson
theorem dX5_requirePerson_0 : decode cX5_requirePerson 0 = .ok (.iload_n 0, 1) := by decide +kernel
theorem dX5_requirePerson_1 : decode cX5_requirePerson 1 = .ok (.invokestatic 262, 3) := by decide +kernel
theorem dX5_requirePerson_4 : decode cX5_requirePerson 4 = .ok (.ifCond .ne 14, 3) := by decide +kernel
theorem dX5_requirePerson_7 : decode cX5_requirePerson 7 = .ok (.new 142, 3) := by decide +kernel
theorem dX5_requirePerson_10 : decode cX5_requirePerson 10 = .ok (.dup, 1) := by decide +kernel
theorem dX5_requirePerson_11 : decode cX5_requirePerson 11 = .ok (.ldc_w 265, 3) := by decide +kernel
theorem dX5_requirePerson_14 : decode cX5_requirePerson 14 = .ok (.invokespecial 146, 3) := by decide +kernel
theorem dX5_requirePerson_17 : decode cX5_requirePerson 17 = .ok (.athrow, 1) := by decide +kernel
theorem dX5_requirePerson_18 : decode cX5_requirePerson 18 = .ok (.return_, 1) := by decide +kernel
set_option maxRecDepth 20000 in
theorem ggX5_requireMask_X5_requireRange : GoodIn wsX5_requireMask wsX5_requireRange := goodIn_ca (goodIn_r _ [4, 5, 6, 7, 8, 3, 9] (by decide +kernel) (by decide +kernel)) (goodIn_sub (fun _ h => List.mem_cons_of_mem _ (List.mem_append_right _ h)) (by decide +kernel))
set_option maxRecDepth 20000 in
theorem gX5_requireMask_X5_requireRange : GoodIn wsX5_requireMask (va_wsS RX5 79 yX5_requireRange wsX5_requireRange) := goodIn_app (goodIn_of _ (by decide +kernel)) ggX5_requireMask_X5_requireRange
theorem dX5_requireMask_0 : decode cX5_requireMask 0 = .ok (.iload_n 0, 1) := by decide +kernel
theorem dX5_requireMask_1 : decode cX5_requireMask 1 = .ok (.iconst 0, 1) := by decide +kernel
theorem dX5_requireMask_2 : decode cX5_requireMask 2 = .ok (.bipush 7, 2) := by decide +kernel
theorem dX5_requireMask_4 : decode cX5_requireMask 4 = .ok (.invokestatic 79, 3) := by decide +kernel
theorem dX5_requireMask_7 : decode cX5_requireMask 7 = .ok (.return_, 1) := by decide +kernel
set_option maxRecDepth 20000 in
theorem ggX5_requireRange_X5_isBetween : GoodIn wsX5_requireRange wsX5_isBetween := goodIn_r _ [6] (by decide +kernel) (by decide +kernel)
set_option maxRecDepth 20000 in
theorem gX5_requireRange_X5_isBetween : GoodIn wsX5_requireRange (va_wsS RX5 267 yX5_isBetween wsX5_isBetween) := goodIn_app (goodIn_of _ (by decide +kernel)) ggX5_requireRange_X5_isBetween
theorem dX5_requireRange_0 : decode cX5_requireRange 0 = .ok (.iload_n 0, 1) := by decide +kernel
theorem dX5_requireRange_1 : decode cX5_requireRange 1 = .ok (.iload_n 1, 1) := by decide +kernel
theorem dX5_requireRange_2 : decode cX5_requireRange 2 = .ok (.iload_n 2, 1) := by decide +kernel
theorem dX5_requireRange_3 : decode cX5_requireRange 3 = .ok (.invokestatic 267, 3) := by decide +kernel
theorem dX5_requireRange_6 : decode cX5_requireRange 6 = .ok (.ifCond .ne 14, 3) := by decide +kernel
theorem dX5_requireRange_9 : decode cX5_requireRange 9 = .ok (.new 151, 3) := by decide +kernel
theorem dX5_requireRange_12 : decode cX5_requireRange 12 = .ok (.dup, 1) := by decide +kernel
theorem dX5_requireRange_13 : decode cX5_requireRange 13 = .ok (.ldc_w 271, 3) := by decide +kernel
theorem dX5_requireRange_16 : decode cX5_requireRange 16 = .ok (.invokespecial 155, 3) := by decide +kernel
theorem dX5_requireRange_19 : decode cX5_requireRange 19 = .ok (.athrow, 1) := by decide +kernel
theorem dX5_requireRange_20 : decode cX5_requireRange 20 = .ok (.return_, 1) := by decide +kernel
set_option maxRecDepth 20000 in
theorem ggX5_isPerson_X5_isBetween : GoodIn wsX5_isPerson wsX5_isBetween := goodIn_r _ [4] (by decide +kernel) (by decide +kernel)
set_option maxRecDepth 20000 in
theorem gX5_isPerson_X5_isBetween : GoodIn wsX5_isPerson (va_wsS RX5 267 yX5_isBetween wsX5_isBetween) := goodIn_app (goodIn_of _ (by decide +kernel)) ggX5_isPerson_X5_isBetween
theorem dX5_isPerson_0 : decode cX5_isPerson 0 = .ok (.iload_n 0, 1) := by decide +kernel
theorem dX5_isPerson_1 : decode cX5_isPerson 1 = .ok (.iconst 0, 1) := by decide +kernel
theorem dX5_isPerson_2 : decode cX5_isPerson 2 = .ok (.bipush 9, 2) := by decide +kernel
theorem dX5_isPerson_4 : decode cX5_isPerson 4 = .ok (.invokestatic 267, 3) := by decide +kernel
theorem dX5_isPerson_7 : decode cX5_isPerson 7 = .ok (.ireturn, 1) := by decide +kernel
theorem dX5_isBetween_0 : decode cX5_isBetween 0 = .ok (.iload_n 0, 1) := by decide +kernel
theorem dX5_isBetween_1 : decode cX5_isBetween 1 = .ok (.iload_n 1, 1) := by decide +kernel
theorem dX5_isBetween_2 : decode cX5_isBetween 2 = .ok (.if_icmp .lt 12, 3) := by decide +kernel
theorem dX5_isBetween_5 : decode cX5_isBetween 5 = .ok (.iload_n 0, 1) := by decide +kernel
theorem dX5_isBetween_6 : decode cX5_isBetween 6 = .ok (.iload_n 2, 1) := by decide +kernel
theorem dX5_isBetween_7 : decode cX5_isBetween 7 = .ok (.if_icmp .gt 7, 3) := by decide +kernel
theorem dX5_isBetween_10 : decode cX5_isBetween 10 = .ok (.iconst 1, 1) := by decide +kernel
theorem dX5_isBetween_11 : decode cX5_isBetween 11 = .ok (.goto 4, 3) := by decide +kernel
theorem dX5_isBetween_14 : decode cX5_isBetween 14 = .ok (.iconst 0, 1) := by decide +kernel
theorem dX5_isBetween_15 : decode cX5_isBetween 15 = .ok (.ireturn, 1) := by decide +kernel
theorem dX6_init_0 : decode cX6_init 0 = .ok (.aload_n 0, 1) := by decide +kernel
theorem dX6_init_1 : decode cX6_init 1 = .ok (.invokespecial 1, 3) := by decide +kernel
theorem dX6_init_4 : decode cX6_init 4 = .ok (.aload_n 0, 1) := by decide +kernel
theorem dX6_init_5 : decode cX6_init 5 = .ok (.sipush 320, 3) := by decide +kernel
theorem dX6_init_8 : decode cX6_init 8 = .ok (.newarray .int, 2) := by decide +kernel
theorem dX6_init_10 : decode cX6_init 10 = .ok (.putfield 7, 3) := by decide +kernel
theorem dX6_init_13 : decode cX6_init 13 = .ok (.aload_n 0, 1) := by decide +kernel
theorem dX6_init_14 : decode cX6_init 14 = .ok (.sipush 1280, 3) := by decide +kernel
theorem dX6_init_17 : decode cX6_init 17 = .ok (.newarray .int, 2) := by decide +kernel
theorem dX6_init_19 : decode cX6_init 19 = .ok (.putfield 13, 3) := by decide +kernel
theorem dX6_init_22 : decode cX6_init 22 = .ok (.aload_n 0, 1) := by decide +kernel
theorem dX6_init_23 : decode cX6_init 23 = .ok (.sipush 320, 3) := by decide +kernel
theorem dX6_init_26 : decode cX6_init 26 = .ok (.newarray .int, 2) := by decide +kernel
theorem dX6_init_28 : decode cX6_init 28 = .ok (.putfield 16, 3) := by decide +kernel
theorem dX6_init_31 : decode cX6_init 31 = .ok (.aload_n 0, 1) := by decide +kernel
theorem dX6_init_32 : decode cX6_init 32 = .ok (.bipush 80, 2) := by decide +kernel
theorem dX6_init_34 : decode cX6_init 34 = .ok (.newarray .int, 2) := by decide +kernel
theorem dX6_init_36 : decode cX6_init 36 = .ok (.putfield 19, 3) := by decide +kernel
theorem dX6_init_39 : decode cX6_init 39 = .ok (.aload_n 0, 1) := by decide +kernel
theorem dX6_init_40 : decode cX6_init 40 = .ok (.bipush 10, 2) := by decide +kernel
theorem dX6_init_42 : decode cX6_init 42 = .ok (.newarray .int, 2) := by decide +kernel
theorem dX6_init_44 : decode cX6_init 44 = .ok (.putfield 22, 3) := by decide +kernel
theorem dX6_init_47 : decode cX6_init 47 = .ok (.aload_n 0, 1) := by decide +kernel
theorem dX6_init_48 : decode cX6_init 48 = .ok (.bipush 100, 2) := by decide +kernel
theorem dX6_init_50 : decode cX6_init 50 = .ok (.newarray .int, 2) := by decide +kernel
theorem dX6_init_52 : decode cX6_init 52 = .ok (.putfield 25, 3) := by decide +kernel
theorem dX6_init_55 : decode cX6_init 55 = .ok (.aload_n 0, 1) := by decide +kernel
theorem dX6_init_56 : decode cX6_init 56 = .ok (.iconst 5, 1) := by decide +kernel
theorem dX6_init_57 : decode cX6_init 57 = .ok (.newarray .int, 2) := by decide +kernel
theorem dX6_init_59 : decode cX6_init 59 = .ok (.putfield 28, 3) := by decide +kernel
theorem dX6_init_62 : decode cX6_init 62 = .ok (.iconst 0, 1) := by decide +kernel
theorem dX6_init_63 : decode cX6_init 63 = .ok (.istore_n 1, 1) := by decide +kernel
theorem dX6_init_64 : decode cX6_init 64 = .ok (.iload_n 1, 1) := by decide +kernel
theorem dX6_init_65 : decode cX6_init 65 = .ok (.bipush 10, 2) := by decide +kernel
theorem dX6_init_67 : decode cX6_init 67 = .ok (.if_icmp .ge 31, 3) := by decide +kernel
theorem dX6_init_70 : decode cX6_init 70 = .ok (.aload_n 0, 1) := by decide +kernel
theorem dX6_init_71 : decode cX6_init 71 = .ok (.getfield 7, 3) := by decide +kernel
theorem dX6_init_74 : decode cX6_init 74 = .ok (.bipush 8, 2) := by decide +kernel
theorem dX6_init_76 : decode cX6_init 76 = .ok (.iload_n 1, 1) := by decide +kernel
theorem dX6_init_77 : decode cX6_init 77 = .ok (.iadd, 1) := by decide +kernel
theorem dX6_init_78 : decode cX6_init 78 = .ok (.bipush 60, 2) := by decide +kernel
theorem dX6_init_80 : decode cX6_init 80 = .ok (.iastore, 1) := by decide +kernel
theorem dX6_init_81 : decode cX6_init 81 = .ok (.aload_n 0, 1) := by decide +kernel
theorem dX6_init_82 : decode cX6_init 82 = .ok (.getfield 7, 3) := by decide +kernel
theorem dX6_init_85 : decode cX6_init 85 = .ok (.bipush 18, 2) := by decide +kernel
theorem dX6_init_87 : decode cX6_init 87 = .ok (.iload_n 1, 1) := by decide +kernel
theorem dX6_init_88 : decode cX6_init 88 = .ok (.iadd, 1) := by decide +kernel
theorem dX6_init_89 : decode cX6_init 89 = .ok (.bipush 60, 2) := by decide +kernel
theorem dX6_init_91 : decode cX6_init 91 = .ok (.iastore, 1) := by decide +kernel
theorem dX6_init_92 : decode cX6_init 92 = .ok (.iinc 1 1, 3) := by decide +kernel
theorem dX6_init_95 : decode cX6_init 95 = .ok (.goto (-31), 3) := by decide +kernel
theorem dX6_init_98 : decode cX6_init 98 = .ok (.return_, 1) := by decide +kernel
theorem dX6_thrown_0 : decode cX6_thrown 0 = .ok (.aload_n 0, 1) := by decide +kernel
theorem dX6_thrown_1 : decode cX6_thrown 1 = .ok (.getfield 31, 3) := by decide +kernel
theorem dX6_thrown_4 : decode cX6_thrown 4 = .ok (.ireturn, 1) := by decide +kernel
theorem dX6_in_0 : decode cX6_in 0 = .ok (.lload_n 0, 1) := by decide +kernel
theorem dX6_in_1 : decode cX6_in 1 = .ok (.lload_n 2, 1) := by decide +kernel
theorem dX6_in_2 : decode cX6_in 2 = .ok (.lcmp, 1) := by decide +kernel
theorem dX6_in_3 : decode cX6_in 3 = .ok (.ifCond .lt 14, 3) := by decide +kernel
theorem dX6_in_6 : decode cX6_in 6 = .ok (.lload_n 0, 1) := by decide +kernel
theorem dX6_in_7 : decode cX6_in 7 = .ok (.lload 4, 2) := by decide +kernel
theorem dX6_in_9 : decode cX6_in 9 = .ok (.lcmp, 1) := by decide +kernel
theorem dX6_in_10 : decode cX6_in 10 = .ok (.ifCond .gt 7, 3) := by decide +kernel
theorem dX6_in_13 : decode cX6_in 13 = .ok (.iconst 1, 1) := by decide +kernel
theorem dX6_in_14 : decode cX6_in 14 = .ok (.goto 4, 3) := by decide +kernel
theorem dX6_in_17 : decode cX6_in 17 = .ok (.iconst 0, 1) := by decide +kernel
theorem dX6_in_18 : decode cX6_in 18 = .ok (.ireturn, 1) := by decide +kernel
theorem dX6_goes_0 : decode cX6_goes 0 = .ok (.aload_n 0, 1) := by decide +kernel
theorem dX6_goes_1 : decode cX6_goes 1 = .ok (.iload_n 1, 1) := by decide +kernel
theorem dX6_goes_2 : decode cX6_goes 2 = .ok (.ifCond .ne 7, 3) := by decide +kernel
theorem dX6_goes_5 : decode cX6_goes 5 = .ok (.iconst 1, 1) := by decide +kernel
theorem dX6_goes_6 : decode cX6_goes 6 = .ok (.goto 20, 3) := by decide +kernel
theorem dX6_goes_9 : decode cX6_goes 9 = .ok (.iload_n 2, 1) := by decide +kernel
theorem dX6_goes_10 : decode cX6_goes 10 = .ok (.ifCond .ne 7, 3) := by decide +kernel
theorem dX6_goes_13 : decode cX6_goes 13 = .ok (.iconst 2, 1) := by decide +kernel
theorem dX6_goes_14 : decode cX6_goes 14 = .ok (.goto 12, 3) := by decide +kernel
theorem dX6_goes_17 : decode cX6_goes 17 = .ok (.iload_n 3, 1) := by decide +kernel
theorem dX6_goes_18 : decode cX6_goes 18 = .ok (.ifCond .ne 7, 3) := by decide +kernel
theorem dX6_goes_21 : decode cX6_goes 21 = .ok (.iconst 3, 1) := by decide +kernel
theorem dX6_goes_22 : decode cX6_goes 22 = .ok (.goto 4, 3) := by decide +kernel
theorem dX6_goes_25 : decode cX6_goes 25 = .ok (.iconst 0, 1) := by decide +kernel
theorem dX6_goes_26 : decode cX6_goes 26 = .ok (.putfield 31, 3) := by decide +kernel
theorem dX6_goes_29 : decode cX6_goes 29 = .ok (.aload_n 0, 1) := by decide +kernel
theorem dX6_goes_30 : decode cX6_goes 30 = .ok (.getfield 31, 3) := by decide +kernel
theorem dX6_goes_33 : decode cX6_goes 33 = .ok (.ifCond .ne 7, 3) := by decide +kernel
theorem dX6_goes_36 : decode cX6_goes 36 = .ok (.iconst 1, 1) := by decide +kernel
theorem dX6_goes_37 : decode cX6_goes 37 = .ok (.goto 4, 3) := by decide +kernel
theorem dX6_goes_40 : decode cX6_goes 40 = .ok (.iconst 0, 1) := by decide +kernel
theorem dX6_goes_41 : decode cX6_goes 41 = .ok (.ireturn, 1) := by decide +kernel
theorem dX6_save_0 : decode cX6_save 0 = .ok (.aload_n 0, 1) := by decide +kernel
theorem dX6_save_1 : decode cX6_save 1 = .ok (.getfield 35, 3) := by decide +kernel
theorem dX6_save_4 : decode cX6_save 4 = .ok (.iconst 4, 1) := by decide +kernel
theorem dX6_save_5 : decode cX6_save 5 = .ok (.if_icmp .ne 44, 3) := by decide +kernel
theorem dX6_save_8 : decode cX6_save 8 = .ok (.iconst 0, 1) := by decide +kernel
theorem dX6_save_9 : decode cX6_save 9 = .ok (.istore_n 1, 1) := by decide +kernel
theorem dX6_save_10 : decode cX6_save 10 = .ok (.iload_n 1, 1) := by decide +kernel
theorem dX6_save_11 : decode cX6_save 11 = .ok (.sipush 960, 3) := by decide +kernel
theorem dX6_save_14 : decode cX6_save 14 = .ok (.if_icmp .ge 25, 3) := by decide +kernel
theorem dX6_save_17 : decode cX6_save 17 = .ok (.aload_n 0, 1) := by decide +kernel
theorem dX6_save_18 : decode cX6_save 18 = .ok (.getfield 13, 3) := by decide +kernel
theorem dX6_save_21 : decode cX6_save 21 = .ok (.iload_n 1, 1) := by decide +kernel
theorem dX6_save_22 : decode cX6_save 22 = .ok (.aload_n 0, 1) := by decide +kernel
theorem dX6_save_23 : decode cX6_save 23 = .ok (.getfield 13, 3) := by decide +kernel
theorem dX6_save_26 : decode cX6_save 26 = .ok (.iload_n 1, 1) := by decide +kernel
theorem dX6_save_27 : decode cX6_save 27 = .ok (.sipush 320, 3) := by decide +kernel
theorem dX6_save_30 : decode cX6_save 30 = .ok (.iadd, 1) := by decide +kernel
theorem dX6_save_31 : decode cX6_save 31 = .ok (.iaload, 1) := by decide +kernel
theorem dX6_save_32 : decode cX6_save 32 = .ok (.iastore, 1) := by decide +kernel
theorem dX6_save_33 : decode cX6_save 33 = .ok (.iinc 1 1, 3) := by decide +kernel
theorem dX6_save_36 : decode cX6_save 36 = .ok (.goto (-26), 3) := by decide +kernel
theorem dX6_save_39 : decode cX6_save 39 = .ok (.aload_n 0, 1) := by decide +kernel
theorem dX6_save_40 : decode cX6_save 40 = .ok (.dup, 1) := by decide +kernel
theorem dX6_save_41 : decode cX6_save 41 = .ok (.getfield 35, 3) := by decide +kernel
theorem dX6_save_44 : decode cX6_save 44 = .ok (.iconst 1, 1) := by decide +kernel
theorem dX6_save_45 : decode cX6_save 45 = .ok (.isub, 1) := by decide +kernel
theorem dX6_save_46 : decode cX6_save 46 = .ok (.putfield 35, 3) := by decide +kernel
theorem dX6_save_49 : decode cX6_save 49 = .ok (.iconst 0, 1) := by decide +kernel
theorem dX6_save_50 : decode cX6_save 50 = .ok (.istore_n 1, 1) := by decide +kernel
theorem dX6_save_51 : decode cX6_save 51 = .ok (.iload_n 1, 1) := by decide +kernel
theorem dX6_save_52 : decode cX6_save 52 = .ok (.sipush 320, 3) := by decide +kernel
theorem dX6_save_55 : decode cX6_save 55 = .ok (.if_icmp .ge 30, 3) := by decide +kernel
theorem dX6_save_58 : decode cX6_save 58 = .ok (.aload_n 0, 1) := by decide +kernel
theorem dX6_save_59 : decode cX6_save 59 = .ok (.getfield 13, 3) := by decide +kernel
theorem dX6_save_62 : decode cX6_save 62 = .ok (.sipush 320, 3) := by decide +kernel
theorem dX6_save_65 : decode cX6_save 65 = .ok (.aload_n 0, 1) := by decide +kernel
theorem dX6_save_66 : decode cX6_save 66 = .ok (.getfield 35, 3) := by decide +kernel
theorem dX6_save_69 : decode cX6_save 69 = .ok (.imul, 1) := by decide +kernel
theorem dX6_save_70 : decode cX6_save 70 = .ok (.iload_n 1, 1) := by decide +kernel
theorem dX6_save_71 : decode cX6_save 71 = .ok (.iadd, 1) := by decide +kernel
theorem dX6_save_72 : decode cX6_save 72 = .ok (.aload_n 0, 1) := by decide +kernel
theorem dX6_save_73 : decode cX6_save 73 = .ok (.getfield 7, 3) := by decide +kernel
theorem dX6_save_76 : decode cX6_save 76 = .ok (.iload_n 1, 1) := by decide +kernel
theorem dX6_save_77 : decode cX6_save 77 = .ok (.iaload, 1) := by decide +kernel
theorem dX6_save_78 : decode cX6_save 78 = .ok (.iastore, 1) := by decide +kernel
theorem dX6_save_79 : decode cX6_save 79 = .ok (.iinc 1 1, 3) := by decide +kernel
theorem dX6_save_82 : decode cX6_save 82 = .ok (.goto (-31), 3) := by decide +kernel
theorem dX6_save_85 : decode cX6_save 85 = .ok (.aload_n 0, 1) := by decide +kernel
theorem dX6_save_86 : decode cX6_save 86 = .ok (.dup, 1) := by decide +kernel
theorem dX6_save_87 : decode cX6_save 87 = .ok (.getfield 35, 3) := by decide +kernel
theorem dX6_save_90 : decode cX6_save 90 = .ok (.iconst 1, 1) := by decide +kernel
theorem dX6_save_91 : decode cX6_save 91 = .ok (.iadd, 1) := by decide +kernel
theorem dX6_save_92 : decode cX6_save 92 = .ok (.putfield 35, 3) := by decide +kernel
theorem dX6_save_95 : decode cX6_save 95 = .ok (.return_, 1) := by decide +kernel
theorem dX6_layAside_0 : decode cX6_layAside 0 = .ok (.iconst 0, 1) := by decide +kernel
theorem dX6_layAside_1 : decode cX6_layAside 1 = .ok (.istore_n 1, 1) := by decide +kernel
theorem dX6_layAside_2 : decode cX6_layAside 2 = .ok (.iload_n 1, 1) := by decide +kernel
theorem dX6_layAside_3 : decode cX6_layAside 3 = .ok (.sipush 320, 3) := by decide +kernel
theorem dX6_layAside_6 : decode cX6_layAside 6 = .ok (.if_icmp .ge 21, 3) := by decide +kernel
theorem dX6_layAside_9 : decode cX6_layAside 9 = .ok (.aload_n 0, 1) := by decide +kernel
theorem dX6_layAside_10 : decode cX6_layAside 10 = .ok (.getfield 16, 3) := by decide +kernel
theorem dX6_layAside_13 : decode cX6_layAside 13 = .ok (.iload_n 1, 1) := by decide +kernel
theorem dX6_layAside_14 : decode cX6_layAside 14 = .ok (.aload_n 0, 1) := by decide +kernel
theorem dX6_layAside_15 : decode cX6_layAside 15 = .ok (.getfield 7, 3) := by decide +kernel
theorem dX6_layAside_18 : decode cX6_layAside 18 = .ok (.iload_n 1, 1) := by decide +kernel
theorem dX6_layAside_19 : decode cX6_layAside 19 = .ok (.iaload, 1) := by decide +kernel
theorem dX6_layAside_20 : decode cX6_layAside 20 = .ok (.iastore, 1) := by decide +kernel
theorem dX6_layAside_21 : decode cX6_layAside 21 = .ok (.iinc 1 1, 3) := by decide +kernel
theorem dX6_layAside_24 : decode cX6_layAside 24 = .ok (.goto (-22), 3) := by decide +kernel
theorem dX6_layAside_27 : decode cX6_layAside 27 = .ok (.return_, 1) := by decide +kernel
theorem dX6_takeBack_0 : decode cX6_takeBack 0 = .ok (.iconst 0, 1) := by decide +kernel
theorem dX6_takeBack_1 : decode cX6_takeBack 1 = .ok (.istore_n 1, 1) := by decide +kernel
theorem dX6_takeBack_2 : decode cX6_takeBack 2 = .ok (.iload_n 1, 1) := by decide +kernel
theorem dX6_takeBack_3 : decode cX6_takeBack 3 = .ok (.sipush 320, 3) := by decide +kernel
theorem dX6_takeBack_6 : decode cX6_takeBack 6 = .ok (.if_icmp .ge 21, 3) := by decide +kernel
theorem dX6_takeBack_9 : decode cX6_takeBack 9 = .ok (.aload_n 0, 1) := by decide +kernel
theorem dX6_takeBack_10 : decode cX6_takeBack 10 = .ok (.getfield 7, 3) := by decide +kernel
theorem dX6_takeBack_13 : decode cX6_takeBack 13 = .ok (.iload_n 1, 1) := by decide +kernel
theorem dX6_takeBack_14 : decode cX6_takeBack 14 = .ok (.aload_n 0, 1) := by decide +kernel
theorem dX6_takeBack_15 : decode cX6_takeBack 15 = .ok (.getfield 16, 3) := by decide +kernel
theorem dX6_takeBack_18 : decode cX6_takeBack 18 = .ok (.iload_n 1, 1) := by decide +kernel
theorem dX6_takeBack_19 : decode cX6_takeBack 19 = .ok (.iaload, 1) := by decide +kernel
theorem dX6_takeBack_20 : decode cX6_takeBack 20 = .ok (.iastore, 1) := by decide +kernel
theorem dX6_takeBack_21 : decode cX6_takeBack 21 = .ok (.iinc 1 1, 3) := by decide +kernel
theorem dX6_takeBack_24 : decode cX6_takeBack 24 = .ok (.goto (-22), 3) := by decide +kernel
theorem dX6_takeBack_27 : decode cX6_takeBack 27 = .ok (.return_, 1) := by decide +kernel
set_option maxRecDepth 20000 in
theorem ggX6_isPerson_X6_in : GoodIn wsX6_isPerson wsX6_in := goodIn_r _ [5] (by decide +kernel) (by decide +kernel)
set_option maxRecDepth 20000 in
theorem gX6_isPerson_X6_in : GoodIn wsX6_isPerson (va_wsS RX6 40 yX6_in wsX6_in) := goodIn_app (goodIn_of _ (by decide +kernel)) ggX6_isPerson_X6_in
theorem dX6_isPerson_0 : decode cX6_isPerson 0 = .ok (.iload_n 0, 1) := by decide +kernel
theorem dX6_isPerson_1 : decode cX6_isPerson 1 = .ok (.i2l, 1) := by decide +kernel
theorem dX6_isPerson_2 : decode cX6_isPerson 2 = .ok (.lconst 0, 1) := by decide +kernel
theorem dX6_isPerson_3 : decode cX6_isPerson 3 = .ok (.ldc2_w 38, 3) := by decide +kernel
theorem dX6_isPerson_6 : decode cX6_isPerson 6 = .ok (.invokestatic 40, 3) := by decide +kernel
theorem dX6_isPerson_9 : decode cX6_isPerson 9 = .ok (.ireturn, 1) := by decide +kernel
set_option maxRecDepth 20000 in
theorem ggX6_isThing_X6_in : GoodIn wsX6_isThing wsX6_in := goodIn_r _ [5] (by decide +kernel) (by decide +kernel)
set_option maxRecDepth 20000 in
theorem gX6_isThing_X6_in : GoodIn wsX6_isThing (va_wsS RX6 40 yX6_in wsX6_in) := goodIn_app (goodIn_of _ (by decide +kernel)) ggX6_isThing_X6_in
theorem dX6_isThing_0 : decode cX6_isThing 0 = .ok (.iload_n 1, 1) := by decide +kernel
theorem dX6_isThing_1 : decode cX6_isThing 1 = .ok (.i2l, 1) := by decide +kernel
theorem dX6_isThing_2 : decode cX6_isThing 2 = .ok (.lconst 0, 1) := by decide +kernel
theorem dX6_isThing_3 : decode cX6_isThing 3 = .ok (.aload_n 0, 1) := by decide +kernel
theorem dX6_isThing_4 : decode cX6_isThing 4 = .ok (.getfield 7, 3) := by decide +kernel
theorem dX6_isThing_7 : decode cX6_isThing 7 = .ok (.iconst 4, 1) := by decide +kernel
theorem dX6_isThing_8 : decode cX6_isThing 8 = .ok (.iaload, 1) := by decide +kernel
theorem dX6_isThing_9 : decode cX6_isThing 9 = .ok (.i2l, 1) := by decide +kernel
theorem dX6_isThing_10 : decode cX6_isThing 10 = .ok (.lconst 1, 1) := by decide +kernel
theorem dX6_isThing_11 : decode cX6_isThing 11 = .ok (.lsub, 1) := by decide +kernel
theorem dX6_isThing_12 : decode cX6_isThing 12 = .ok (.invokestatic 40, 3) := by decide +kernel
theorem dX6_isThing_15 : decode cX6_isThing 15 = .ok (.ireturn, 1) := by decide +kernel
theorem dX6_owner_0 : decode cX6_owner 0 = .ok (.aload_n 0, 1) := by decide +kernel
theorem dX6_owner_1 : decode cX6_owner 1 = .ok (.getfield 7, 3) := by decide +kernel
theorem dX6_owner_4 : decode cX6_owner 4 = .ok (.bipush 28, 2) := by decide +kernel
theorem dX6_owner_6 : decode cX6_owner 6 = .ok (.iconst 2, 1) := by decide +kernel
theorem dX6_owner_7 : decode cX6_owner 7 = .ok (.iload_n 1, 1) := by decide +kernel
theorem dX6_owner_8 : decode cX6_owner 8 = .ok (.imul, 1) := by decide +kernel
theorem dX6_owner_9 : decode cX6_owner 9 = .ok (.iadd, 1) := by decide +kernel
theorem dX6_owner_10 : decode cX6_owner 10 = .ok (.iaload, 1) := by decide +kernel
theorem dX6_owner_11 : decode cX6_owner 11 = .ok (.ireturn, 1) := by decide +kernel
theorem dX6_mask_0 : decode cX6_mask 0 = .ok (.aload_n 0, 1) := by decide +kernel
theorem dX6_mask_1 : decode cX6_mask 1 = .ok (.getfield 7, 3) := by decide +kernel
theorem dX6_mask_4 : decode cX6_mask 4 = .ok (.bipush 28, 2) := by decide +kernel
theorem dX6_mask_6 : decode cX6_mask 6 = .ok (.iconst 2, 1) := by decide +kernel
theorem dX6_mask_7 : decode cX6_mask 7 = .ok (.iload_n 1, 1) := by decide +kernel
theorem dX6_mask_8 : decode cX6_mask 8 = .ok (.imul, 1) := by decide +kernel
theorem dX6_mask_9 : decode cX6_mask 9 = .ok (.iadd, 1) := by decide +kernel
theorem dX6_mask_10 : decode cX6_mask 10 = .ok (.iconst 1, 1) := by decide +kernel
theorem dX6_mask_11 : decode cX6_mask 11 = .ok (.iadd, 1) := by decide +kernel
theorem dX6_mask_12 : decode cX6_mask 12 = .ok (.iaload, 1) := by decide +kernel
theorem dX6_mask_13 : decode cX6_mask 13 = .ok (.ireturn, 1) := by decide +kernel
theorem dX6_of_0 : decode cX6_of 0 = .ok (.aload_n 0, 1) := by decide +kernel
theorem dX6_of_1 : decode cX6_of 1 = .ok (.getfield 7, 3) := by decide +kernel
theorem dX6_of_4 : decode cX6_of 4 = .ok (.bipush 44, 2) := by decide +kernel
theorem dX6_of_6 : decode cX6_of 6 = .ok (.bipush 6, 2) := by decide +kernel
theorem dX6_of_8 : decode cX6_of 8 = .ok (.iload_n 1, 1) := by decide +kernel
theorem dX6_of_9 : decode cX6_of 9 = .ok (.imul, 1) := by decide +kernel
theorem dX6_of_10 : decode cX6_of 10 = .ok (.iadd, 1) := by decide +kernel
theorem dX6_of_11 : decode cX6_of 11 = .ok (.iload_n 2, 1) := by decide +kernel
theorem dX6_of_12 : decode cX6_of 12 = .ok (.iadd, 1) := by decide +kernel
theorem dX6_of_13 : decode cX6_of 13 = .ok (.iaload, 1) := by decide +kernel
theorem dX6_of_14 : decode cX6_of 14 = .ok (.ireturn, 1) := by decide +kernel
set_option maxRecDepth 20000 in
theorem ggX6_placeOf_X6_of : GoodIn wsX6_placeOf wsX6_of := goodIn_r _ [6, 1, 7, 8, 9, 10, 11, 12, 13, 14, 15, 16, 17, 18, 19] (by decide +kernel) (by decide +kernel)
set_option maxRecDepth 20000 in
theorem gX6_placeOf_X6_of : GoodIn wsX6_placeOf (wsV RX6 44 RX6 yX6_of wsX6_of) := goodIn_app (goodIn_of _ (by decide +kernel)) ggX6_placeOf_X6_of
theorem dX6_placeOf_0 : decode cX6_placeOf 0 = .ok (.iconst 0, 1) := by decide +kernel
theorem dX6_placeOf_1 : decode cX6_placeOf 1 = .ok (.istore_n 2, 1) := by decide +kernel
theorem dX6_placeOf_2 : decode cX6_placeOf 2 = .ok (.iload_n 2, 1) := by decide +kernel
theorem dX6_placeOf_3 : decode cX6_placeOf 3 = .ok (.aload_n 0, 1) := by decide +kernel
theorem dX6_placeOf_4 : decode cX6_placeOf 4 = .ok (.getfield 7, 3) := by decide +kernel
theorem dX6_placeOf_7 : decode cX6_placeOf 7 = .ok (.iconst 5, 1) := by decide +kernel
theorem dX6_placeOf_8 : decode cX6_placeOf 8 = .ok (.iaload, 1) := by decide +kernel
theorem dX6_placeOf_9 : decode cX6_placeOf 9 = .ok (.if_icmp .ge 21, 3) := by decide +kernel
theorem dX6_placeOf_12 : decode cX6_placeOf 12 = .ok (.aload_n 0, 1) := by decide +kernel
theorem dX6_placeOf_13 : decode cX6_placeOf 13 = .ok (.iload_n 2, 1) := by decide +kernel
theorem dX6_placeOf_14 : decode cX6_placeOf 14 = .ok (.iconst 0, 1) := by decide +kernel
theorem dX6_placeOf_15 : decode cX6_placeOf 15 = .ok (.invokevirtual 44, 3) := by decide +kernel
theorem dX6_placeOf_18 : decode cX6_placeOf 18 = .ok (.iload_n 1, 1) := by decide +kernel
theorem dX6_placeOf_19 : decode cX6_placeOf 19 = .ok (.if_icmp .ne 5, 3) := by decide +kernel
theorem dX6_placeOf_22 : decode cX6_placeOf 22 = .ok (.iload_n 2, 1) := by decide +kernel
theorem dX6_placeOf_23 : decode cX6_placeOf 23 = .ok (.ireturn, 1) := by decide +kernel
theorem dX6_placeOf_24 : decode cX6_placeOf 24 = .ok (.iinc 2 1, 3) := by decide +kernel
theorem dX6_placeOf_27 : decode cX6_placeOf 27 = .ok (.goto (-25), 3) := by decide +kernel
theorem dX6_placeOf_30 : decode cX6_placeOf 30 = .ok (.iconst (-1), 1) := by decide +kernel
theorem dX6_placeOf_31 : decode cX6_placeOf 31 = .ok (.ireturn, 1) := by decide +kernel
theorem dX6_takeOut_0 : decode cX6_takeOut 0 = .ok (.aload_n 0, 1) := by decide +kernel
theorem dX6_takeOut_1 : decode cX6_takeOut 1 = .ok (.getfield 7, 3) := by decide +kernel
theorem dX6_takeOut_4 : decode cX6_takeOut 4 = .ok (.iconst 5, 1) := by decide +kernel
theorem dX6_takeOut_5 : decode cX6_takeOut 5 = .ok (.dup2, 1) := by decide +kernel
theorem dX6_takeOut_6 : decode cX6_takeOut 6 = .ok (.iaload, 1) := by decide +kernel
theorem dX6_takeOut_7 : decode cX6_takeOut 7 = .ok (.iconst 1, 1) := by decide +kernel
theorem dX6_takeOut_8 : decode cX6_takeOut 8 = .ok (.isub, 1) := by decide +kernel
theorem dX6_takeOut_9 : decode cX6_takeOut 9 = .ok (.iastore, 1) := by decide +kernel
theorem dX6_takeOut_10 : decode cX6_takeOut 10 = .ok (.bipush 6, 2) := by decide +kernel
theorem dX6_takeOut_12 : decode cX6_takeOut 12 = .ok (.iload_n 1, 1) := by decide +kernel
theorem dX6_takeOut_13 : decode cX6_takeOut 13 = .ok (.imul, 1) := by decide +kernel
theorem dX6_takeOut_14 : decode cX6_takeOut 14 = .ok (.istore_n 2, 1) := by decide +kernel
theorem dX6_takeOut_15 : decode cX6_takeOut 15 = .ok (.iload_n 2, 1) := by decide +kernel
theorem dX6_takeOut_16 : decode cX6_takeOut 16 = .ok (.bipush 6, 2) := by decide +kernel
theorem dX6_takeOut_18 : decode cX6_takeOut 18 = .ok (.aload_n 0, 1) := by decide +kernel
theorem dX6_takeOut_19 : decode cX6_takeOut 19 = .ok (.getfield 7, 3) := by decide +kernel
theorem dX6_takeOut_22 : decode cX6_takeOut 22 = .ok (.iconst 5, 1) := by decide +kernel
theorem dX6_takeOut_23 : decode cX6_takeOut 23 = .ok (.iaload, 1) := by decide +kernel
theorem dX6_takeOut_24 : decode cX6_takeOut 24 = .ok (.imul, 1) := by decide +kernel
theorem dX6_takeOut_25 : decode cX6_takeOut 25 = .ok (.if_icmp .ge 30, 3) := by decide +kernel
theorem dX6_takeOut_28 : decode cX6_takeOut 28 = .ok (.aload_n 0, 1) := by decide +kernel
theorem dX6_takeOut_29 : decode cX6_takeOut 29 = .ok (.getfield 7, 3) := by decide +kernel
theorem dX6_takeOut_32 : decode cX6_takeOut 32 = .ok (.bipush 44, 2) := by decide +kernel
theorem dX6_takeOut_34 : decode cX6_takeOut 34 = .ok (.iload_n 2, 1) := by decide +kernel
theorem dX6_takeOut_35 : decode cX6_takeOut 35 = .ok (.iadd, 1) := by decide +kernel
theorem dX6_takeOut_36 : decode cX6_takeOut 36 = .ok (.aload_n 0, 1) := by decide +kernel
theorem dX6_takeOut_37 : decode cX6_takeOut 37 = .ok (.getfield 7, 3) := by decide +kernel
theorem dX6_takeOut_40 : decode cX6_takeOut 40 = .ok (.bipush 44, 2) := by decide +kernel
theorem dX6_takeOut_42 : decode cX6_takeOut 42 = .ok (.iload_n 2, 1) := by decide +kernel
theorem dX6_takeOut_43 : decode cX6_takeOut 43 = .ok (.iadd, 1) := by decide +kernel
theorem dX6_takeOut_44 : decode cX6_takeOut 44 = .ok (.bipush 6, 2) := by decide +kernel
theorem dX6_takeOut_46 : decode cX6_takeOut 46 = .ok (.iadd, 1) := by decide +kernel
theorem dX6_takeOut_47 : decode cX6_takeOut 47 = .ok (.iaload, 1) := by decide +kernel
theorem dX6_takeOut_48 : decode cX6_takeOut 48 = .ok (.iastore, 1) := by decide +kernel
theorem dX6_takeOut_49 : decode cX6_takeOut 49 = .ok (.iinc 2 1, 3) := by decide +kernel
theorem dX6_takeOut_52 : decode cX6_takeOut 52 = .ok (.goto (-37), 3) := by decide +kernel
theorem dX6_takeOut_55 : decode cX6_takeOut 55 = .ok (.iconst 0, 1) := by decide +kernel
theorem dX6_takeOut_56 : decode cX6_takeOut 56 = .ok (.istore_n 2, 1) := by decide +kernel
theorem dX6_takeOut_57 : decode cX6_takeOut 57 = .ok (.iload_n 2, 1) := by decide +kernel
theorem dX6_takeOut_58 : decode cX6_takeOut 58 = .ok (.bipush 6, 2) := by decide +kernel
theorem dX6_takeOut_60 : decode cX6_takeOut 60 = .ok (.if_icmp .ge 29, 3) := by decide +kernel
theorem dX6_takeOut_63 : decode cX6_takeOut 63 = .ok (.aload_n 0, 1) := by decide +kernel
theorem dX6_takeOut_64 : decode cX6_takeOut 64 = .ok (.getfield 7, 3) := by decide +kernel
theorem dX6_takeOut_67 : decode cX6_takeOut 67 = .ok (.bipush 44, 2) := by decide +kernel
theorem dX6_takeOut_69 : decode cX6_takeOut 69 = .ok (.bipush 6, 2) := by decide +kernel
theorem dX6_takeOut_71 : decode cX6_takeOut 71 = .ok (.aload_n 0, 1) := by decide +kernel
theorem dX6_takeOut_72 : decode cX6_takeOut 72 = .ok (.getfield 7, 3) := by decide +kernel
theorem dX6_takeOut_75 : decode cX6_takeOut 75 = .ok (.iconst 5, 1) := by decide +kernel
theorem dX6_takeOut_76 : decode cX6_takeOut 76 = .ok (.iaload, 1) := by decide +kernel
theorem dX6_takeOut_77 : decode cX6_takeOut 77 = .ok (.imul, 1) := by decide +kernel
theorem dX6_takeOut_78 : decode cX6_takeOut 78 = .ok (.iadd, 1) := by decide +kernel
theorem dX6_takeOut_79 : decode cX6_takeOut 79 = .ok (.iload_n 2, 1) := by decide +kernel
theorem dX6_takeOut_80 : decode cX6_takeOut 80 = .ok (.iadd, 1) := by decide +kernel
theorem dX6_takeOut_81 : decode cX6_takeOut 81 = .ok (.iconst 0, 1) := by decide +kernel
theorem dX6_takeOut_82 : decode cX6_takeOut 82 = .ok (.iastore, 1) := by decide +kernel
theorem dX6_takeOut_83 : decode cX6_takeOut 83 = .ok (.iinc 2 1, 3) := by decide +kernel
theorem dX6_takeOut_86 : decode cX6_takeOut 86 = .ok (.goto (-29), 3) := by decide +kernel
theorem dX6_takeOut_89 : decode cX6_takeOut 89 = .ok (.return_, 1) := by decide +kernel
set_option maxRecDepth 20000 in
theorem ggX6_log_X6_of : GoodIn wsX6_log wsX6_of := goodIn_r _ [6, 1, 7, 8, 9, 10, 11, 12, 13, 14, 15, 16, 17, 18, 19] (by decide +kernel) (by decide +kernel)
set_option maxRecDepth 20000 in
theorem gX6_log_X6_of : GoodIn wsX6_log (wsV RX6 44 RX6 yX6_of wsX6_of) := goodIn_app (goodIn_of _ (by decide +kernel)) ggX6_log_X6_of
theorem dX6_log_0 : decode cX6_log 0 = .ok (.bipush 35, 2) := by decide +kernel
theorem dX6_log_2 : decode cX6_log 2 = .ok (.istore_n 2, 1) := by decide +kernel
theorem dX6_log_3 : decode cX6_log 3 = .ok (.iload_n 2, 1) := by decide +kernel
theorem dX6_log_4 : decode cX6_log 4 = .ok (.iconst 3, 1) := by decide +kernel
theorem dX6_log_5 : decode cX6_log 5 = .ok (.if_icmp .lt 31, 3) := by decide +kernel
theorem dX6_log_8 : decode cX6_log 8 = .ok (.aload_n 0, 1) := by decide +kernel
theorem dX6_log_9 : decode cX6_log 9 = .ok (.getfield 7, 3) := by decide +kernel
theorem dX6_log_12 : decode cX6_log 12 = .ok (.sipush 284, 3) := by decide +kernel
theorem dX6_log_15 : decode cX6_log 15 = .ok (.iload_n 2, 1) := by decide +kernel
theorem dX6_log_16 : decode cX6_log 16 = .ok (.iadd, 1) := by decide +kernel
theorem dX6_log_17 : decode cX6_log 17 = .ok (.aload_n 0, 1) := by decide +kernel
theorem dX6_log_18 : decode cX6_log 18 = .ok (.getfield 7, 3) := by decide +kernel
theorem dX6_log_21 : decode cX6_log 21 = .ok (.sipush 284, 3) := by decide +kernel
theorem dX6_log_24 : decode cX6_log 24 = .ok (.iload_n 2, 1) := by decide +kernel
theorem dX6_log_25 : decode cX6_log 25 = .ok (.iadd, 1) := by decide +kernel
theorem dX6_log_26 : decode cX6_log 26 = .ok (.iconst 3, 1) := by decide +kernel
theorem dX6_log_27 : decode cX6_log 27 = .ok (.isub, 1) := by decide +kernel
theorem dX6_log_28 : decode cX6_log 28 = .ok (.iaload, 1) := by decide +kernel
theorem dX6_log_29 : decode cX6_log 29 = .ok (.iastore, 1) := by decide +kernel
theorem dX6_log_30 : decode cX6_log 30 = .ok (.iinc 2 (-1), 3) := by decide +kernel
theorem dX6_log_33 : decode cX6_log 33 = .ok (.goto (-30), 3) := by decide +kernel
theorem dX6_log_36 : decode cX6_log 36 = .ok (.aload_n 0, 1) := by decide +kernel
theorem dX6_log_37 : decode cX6_log 37 = .ok (.getfield 7, 3) := by decide +kernel
theorem dX6_log_40 : decode cX6_log 40 = .ok (.sipush 284, 3) := by decide +kernel
theorem dX6_log_43 : decode cX6_log 43 = .ok (.aload_n 0, 1) := by decide +kernel
theorem dX6_log_44 : decode cX6_log 44 = .ok (.iload_n 1, 1) := by decide +kernel
theorem dX6_log_45 : decode cX6_log 45 = .ok (.iconst 0, 1) := by decide +kernel
theorem dX6_log_46 : decode cX6_log 46 = .ok (.invokevirtual 44, 3) := by decide +kernel
theorem dX6_log_49 : decode cX6_log 49 = .ok (.iastore, 1) := by decide +kernel
theorem dX6_log_50 : decode cX6_log 50 = .ok (.aload_n 0, 1) := by decide +kernel
theorem dX6_log_51 : decode cX6_log 51 = .ok (.getfield 7, 3) := by decide +kernel
theorem dX6_log_54 : decode cX6_log 54 = .ok (.sipush 285, 3) := by decide +kernel
theorem dX6_log_57 : decode cX6_log 57 = .ok (.aload_n 0, 1) := by decide +kernel
theorem dX6_log_58 : decode cX6_log 58 = .ok (.getfield 7, 3) := by decide +kernel
theorem dX6_log_61 : decode cX6_log 61 = .ok (.iconst 0, 1) := by decide +kernel
theorem dX6_log_62 : decode cX6_log 62 = .ok (.iaload, 1) := by decide +kernel
theorem dX6_log_63 : decode cX6_log 63 = .ok (.iastore, 1) := by decide +kernel
theorem dX6_log_64 : decode cX6_log 64 = .ok (.aload_n 0, 1) := by decide +kernel
theorem dX6_log_65 : decode cX6_log 65 = .ok (.getfield 7, 3) := by decide +kernel
theorem dX6_log_68 : decode cX6_log 68 = .ok (.sipush 286, 3) := by decide +kernel
theorem dX6_log_71 : decode cX6_log 71 = .ok (.aload_n 0, 1) := by decide +kernel
theorem dX6_log_72 : decode cX6_log 72 = .ok (.iload_n 1, 1) := by decide +kernel
theorem dX6_log_73 : decode cX6_log 73 = .ok (.iconst 1, 1) := by decide +kernel
theorem dX6_log_74 : decode cX6_log 74 = .ok (.invokevirtual 44, 3) := by decide +kernel
theorem dX6_log_77 : decode cX6_log 77 = .ok (.iastore, 1) := by decide +kernel
theorem dX6_log_78 : decode cX6_log 78 = .ok (.aload_n 0, 1) := by decide +kernel
theorem dX6_log_79 : decode cX6_log 79 = .ok (.getfield 7, 3) := by decide +kernel
theorem dX6_log_82 : decode cX6_log 82 = .ok (.bipush 6, 2) := by decide +kernel
theorem dX6_log_84 : decode cX6_log 84 = .ok (.dup2, 1) := by decide +kernel
theorem dX6_log_85 : decode cX6_log 85 = .ok (.iaload, 1) := by decide +kernel
theorem dX6_log_86 : decode cX6_log 86 = .ok (.aload_n 0, 1) := by decide +kernel
theorem dX6_log_87 : decode cX6_log 87 = .ok (.getfield 7, 3) := by decide +kernel
theorem dX6_log_90 : decode cX6_log 90 = .ok (.bipush 6, 2) := by decide +kernel
theorem dX6_log_92 : decode cX6_log 92 = .ok (.iaload, 1) := by decide +kernel
theorem dX6_log_93 : decode cX6_log 93 = .ok (.bipush 12, 2) := by decide +kernel
theorem dX6_log_95 : decode cX6_log 95 = .ok (.if_icmp .ge 7, 3) := by decide +kernel
theorem dX6_log_98 : decode cX6_log 98 = .ok (.iconst 1, 1) := by decide +kernel
theorem dX6_log_99 : decode cX6_log 99 = .ok (.goto 4, 3) := by decide +kernel
theorem dX6_log_102 : decode cX6_log 102 = .ok (.iconst 0, 1) := by decide +kernel
theorem dX6_log_103 : decode cX6_log 103 = .ok (.iadd, 1) := by decide +kernel
theorem dX6_log_104 : decode cX6_log 104 = .ok (.iastore, 1) := by decide +kernel
theorem dX6_log_105 : decode cX6_log 105 = .ok (.return_, 1) := by decide +kernel
set_option maxRecDepth 20000 in
theorem ggX6_die_X6_of : GoodIn wsX6_die wsX6_of := goodIn_r _ [6, 1, 15, 16, 17, 18, 19, 20, 21, 22, 23, 24, 25, 26, 27] (by decide +kernel) (by decide +kernel)
set_option maxRecDepth 20000 in
theorem gX6_die_X6_of : GoodIn wsX6_die (wsV RX6 44 RX6 yX6_of wsX6_of) := goodIn_app (goodIn_of _ (by decide +kernel)) ggX6_die_X6_of
set_option maxRecDepth 20000 in
theorem ggX6_die_X6_log : GoodIn wsX6_die wsX6_log := goodIn_r _ [10, 1, 2, 3, 4, 5, 6, 15, 16, 17, 18, 19, 20, 21, 22, 23, 24, 25, 26, 27] (by decide +kernel) (by decide +kernel)
set_option maxRecDepth 20000 in
theorem gX6_die_X6_log : GoodIn wsX6_die (wsV RX6 48 RX6 yX6_log wsX6_log) := goodIn_app (goodIn_of _ (by decide +kernel)) ggX6_die_X6_log
set_option maxRecDepth 20000 in
theorem ggX6_die_X6_takeOut : GoodIn wsX6_die wsX6_takeOut := goodIn_r _ [14, 1, 15, 16, 17, 18, 19, 20, 21, 22, 23, 24, 25, 26, 27] (by decide +kernel) (by decide +kernel)
set_option maxRecDepth 20000 in
theorem gX6_die_X6_takeOut : GoodIn wsX6_die (wsV RX6 52 RX6 yX6_takeOut wsX6_takeOut) := goodIn_app (goodIn_of _ (by decide +kernel)) ggX6_die_X6_takeOut
theorem dX6_die_0 : decode cX6_die 0 = .ok (.iconst 0, 1) := by decide +kernel
theorem dX6_die_1 : decode cX6_die 1 = .ok (.istore_n 1, 1) := by decide +kernel
theorem dX6_die_2 : decode cX6_die 2 = .ok (.iconst 0, 1) := by decide +kernel
theorem dX6_die_3 : decode cX6_die 3 = .ok (.istore_n 2, 1) := by decide +kernel
theorem dX6_die_4 : decode cX6_die 4 = .ok (.iload_n 2, 1) := by decide +kernel
theorem dX6_die_5 : decode cX6_die 5 = .ok (.aload_n 0, 1) := by decide +kernel
theorem dX6_die_6 : decode cX6_die 6 = .ok (.getfield 7, 3) := by decide +kernel
theorem dX6_die_9 : decode cX6_die 9 = .ok (.iconst 5, 1) := by decide +kernel
theorem dX6_die_10 : decode cX6_die 10 = .ok (.iaload, 1) := by decide +kernel
theorem dX6_die_11 : decode cX6_die 11 = .ok (.if_icmp .ge 48, 3) := by decide +kernel
theorem dX6_die_14 : decode cX6_die 14 = .ok (.aload_n 0, 1) := by decide +kernel
theorem dX6_die_15 : decode cX6_die 15 = .ok (.getfield 7, 3) := by decide +kernel
theorem dX6_die_18 : decode cX6_die 18 = .ok (.bipush 8, 2) := by decide +kernel
theorem dX6_die_20 : decode cX6_die 20 = .ok (.aload_n 0, 1) := by decide +kernel
theorem dX6_die_21 : decode cX6_die 21 = .ok (.iload_n 2, 1) := by decide +kernel
theorem dX6_die_22 : decode cX6_die 22 = .ok (.iconst 1, 1) := by decide +kernel
theorem dX6_die_23 : decode cX6_die 23 = .ok (.invokevirtual 44, 3) := by decide +kernel
theorem dX6_die_26 : decode cX6_die 26 = .ok (.iadd, 1) := by decide +kernel
theorem dX6_die_27 : decode cX6_die 27 = .ok (.iaload, 1) := by decide +kernel
theorem dX6_die_28 : decode cX6_die 28 = .ok (.aload_n 0, 1) := by decide +kernel
theorem dX6_die_29 : decode cX6_die 29 = .ok (.iload_n 2, 1) := by decide +kernel
theorem dX6_die_30 : decode cX6_die 30 = .ok (.iconst 5, 1) := by decide +kernel
theorem dX6_die_31 : decode cX6_die 31 = .ok (.invokevirtual 44, 3) := by decide +kernel
theorem dX6_die_34 : decode cX6_die 34 = .ok (.if_icmp .ge 19, 3) := by decide +kernel
theorem dX6_die_37 : decode cX6_die 37 = .ok (.aload_n 0, 1) := by decide +kernel
theorem dX6_die_38 : decode cX6_die 38 = .ok (.iload_n 2, 1) := by decide +kernel
theorem dX6_die_39 : decode cX6_die 39 = .ok (.invokevirtual 48, 3) := by decide +kernel
theorem dX6_die_42 : decode cX6_die 42 = .ok (.aload_n 0, 1) := by decide +kernel
theorem dX6_die_43 : decode cX6_die 43 = .ok (.iload_n 2, 1) := by decide +kernel
theorem dX6_die_44 : decode cX6_die 44 = .ok (.invokevirtual 52, 3) := by decide +kernel
theorem dX6_die_47 : decode cX6_die 47 = .ok (.iinc 1 1, 3) := by decide +kernel
theorem dX6_die_50 : decode cX6_die 50 = .ok (.goto (-46), 3) := by decide +kernel
theorem dX6_die_53 : decode cX6_die 53 = .ok (.iinc 2 1, 3) := by decide +kernel
theorem dX6_die_56 : decode cX6_die 56 = .ok (.goto (-52), 3) := by decide +kernel
theorem dX6_die_59 : decode cX6_die 59 = .ok (.aload_n 0, 1) := by decide +kernel
theorem dX6_die_60 : decode cX6_die 60 = .ok (.getfield 7, 3) := by decide +kernel
theorem dX6_die_63 : decode cX6_die 63 = .ok (.iconst 2, 1) := by decide +kernel
theorem dX6_die_64 : decode cX6_die 64 = .ok (.dup2, 1) := by decide +kernel
theorem dX6_die_65 : decode cX6_die 65 = .ok (.iaload, 1) := by decide +kernel
theorem dX6_die_66 : decode cX6_die 66 = .ok (.iload_n 1, 1) := by decide +kernel
theorem dX6_die_67 : decode cX6_die 67 = .ok (.iadd, 1) := by decide +kernel
theorem dX6_die_68 : decode cX6_die 68 = .ok (.iastore, 1) := by decide +kernel
theorem dX6_die_69 : decode cX6_die 69 = .ok (.iload_n 1, 1) := by decide +kernel
theorem dX6_die_70 : decode cX6_die 70 = .ok (.ireturn, 1) := by decide +kernel
theorem dX6_holds_0 : decode cX6_holds 0 = .ok (.aload_n 0, 1) := by decide +kernel
theorem dX6_holds_1 : decode cX6_holds 1 = .ok (.getfield 19, 3) := by decide +kernel
theorem dX6_holds_4 : decode cX6_holds 4 = .ok (.bipush 10, 2) := by decide +kernel
theorem dX6_holds_6 : decode cX6_holds 6 = .ok (.iload_n 2, 1) := by decide +kernel
theorem dX6_holds_7 : decode cX6_holds 7 = .ok (.imul, 1) := by decide +kernel
theorem dX6_holds_8 : decode cX6_holds 8 = .ok (.iload_n 1, 1) := by decide +kernel
theorem dX6_holds_9 : decode cX6_holds 9 = .ok (.iadd, 1) := by decide +kernel
theorem dX6_holds_10 : decode cX6_holds 10 = .ok (.iaload, 1) := by decide +kernel
theorem dX6_holds_11 : decode cX6_holds 11 = .ok (.ireturn, 1) := by decide +kernel
set_option maxRecDepth 20000 in
theorem ggX6_passes_X6_of : GoodIn wsX6_passes wsX6_of := goodIn_r _ [5, 6, 16, 17, 18, 19, 20, 21, 22, 23, 24, 25, 26, 27, 28] (by decide +kernel) (by decide +kernel)
set_option maxRecDepth 20000 in
theorem gX6_passes_X6_of : GoodIn wsX6_passes (wsV RX6 44 RX6 yX6_of wsX6_of) := goodIn_app (goodIn_of _ (by decide +kernel)) ggX6_passes_X6_of
set_option maxRecDepth 20000 in
theorem ggX6_passes_X6_holds : GoodIn wsX6_passes wsX6_holds := goodIn_r _ [10, 11, 16, 17, 18, 19, 20, 21, 22, 23, 24, 25, 26, 27, 28] (by decide +kernel) (by decide +kernel)
set_option maxRecDepth 20000 in
theorem gX6_passes_X6_holds : GoodIn wsX6_passes (wsV RX6 55 RX6 yX6_holds wsX6_holds) := goodIn_app (goodIn_of _ (by decide +kernel)) ggX6_passes_X6_holds
set_option maxRecDepth 20000 in
theorem ggX6_passes_X6_mask : GoodIn wsX6_passes wsX6_mask := goodIn_r _ [15, 6, 16, 17, 18, 19, 20, 21, 22, 23, 24, 25, 26, 27, 28] (by decide +kernel) (by decide +kernel)
set_option maxRecDepth 20000 in
theorem gX6_passes_X6_mask : GoodIn wsX6_passes (wsV RX6 57 RX6 yX6_mask wsX6_mask) := goodIn_app (goodIn_of _ (by decide +kernel)) ggX6_passes_X6_mask
theorem dX6_passes_0 : decode cX6_passes 0 = .ok (.aload_n 0, 1) := by decide +kernel
theorem dX6_passes_1 : decode cX6_passes 1 = .ok (.aload_n 0, 1) := by decide +kernel
theorem dX6_passes_2 : decode cX6_passes 2 = .ok (.iload_n 1, 1) := by decide +kernel
theorem dX6_passes_3 : decode cX6_passes 3 = .ok (.iconst 1, 1) := by decide +kernel
theorem dX6_passes_4 : decode cX6_passes 4 = .ok (.invokevirtual 44, 3) := by decide +kernel
theorem dX6_passes_7 : decode cX6_passes 7 = .ok (.aload_n 0, 1) := by decide +kernel
theorem dX6_passes_8 : decode cX6_passes 8 = .ok (.iload_n 1, 1) := by decide +kernel
theorem dX6_passes_9 : decode cX6_passes 9 = .ok (.iconst 3, 1) := by decide +kernel
theorem dX6_passes_10 : decode cX6_passes 10 = .ok (.invokevirtual 44, 3) := by decide +kernel
theorem dX6_passes_13 : decode cX6_passes 13 = .ok (.invokevirtual 55, 3) := by decide +kernel
theorem dX6_passes_16 : decode cX6_passes 16 = .ok (.istore_n 2, 1) := by decide +kernel
theorem dX6_passes_17 : decode cX6_passes 17 = .ok (.iload_n 2, 1) := by decide +kernel
theorem dX6_passes_18 : decode cX6_passes 18 = .ok (.iconst 4, 1) := by decide +kernel
theorem dX6_passes_19 : decode cX6_passes 19 = .ok (.iand, 1) := by decide +kernel
theorem dX6_passes_20 : decode cX6_passes 20 = .ok (.ifCond .ne 7, 3) := by decide +kernel
theorem dX6_passes_23 : decode cX6_passes 23 = .ok (.iconst 0, 1) := by decide +kernel
theorem dX6_passes_24 : decode cX6_passes 24 = .ok (.goto 22, 3) := by decide +kernel
theorem dX6_passes_27 : decode cX6_passes 27 = .ok (.aload_n 0, 1) := by decide +kernel
theorem dX6_passes_28 : decode cX6_passes 28 = .ok (.iload_n 1, 1) := by decide +kernel
theorem dX6_passes_29 : decode cX6_passes 29 = .ok (.iconst 4, 1) := by decide +kernel
theorem dX6_passes_30 : decode cX6_passes 30 = .ok (.invokevirtual 44, 3) := by decide +kernel
theorem dX6_passes_33 : decode cX6_passes 33 = .ok (.iload_n 2, 1) := by decide +kernel
theorem dX6_passes_34 : decode cX6_passes 34 = .ok (.iand, 1) := by decide +kernel
theorem dX6_passes_35 : decode cX6_passes 35 = .ok (.aload_n 0, 1) := by decide +kernel
theorem dX6_passes_36 : decode cX6_passes 36 = .ok (.aload_n 0, 1) := by decide +kernel
theorem dX6_passes_37 : decode cX6_passes 37 = .ok (.iload_n 1, 1) := by decide +kernel
theorem dX6_passes_38 : decode cX6_passes 38 = .ok (.iconst 3, 1) := by decide +kernel
theorem dX6_passes_39 : decode cX6_passes 39 = .ok (.invokevirtual 44, 3) := by decide +kernel
theorem dX6_passes_42 : decode cX6_passes 42 = .ok (.invokevirtual 57, 3) := by decide +kernel
theorem dX6_passes_45 : decode cX6_passes 45 = .ok (.iand, 1) := by decide +kernel
theorem dX6_passes_46 : decode cX6_passes 46 = .ok (.ireturn, 1) := by decide +kernel
set_option maxRecDepth 20000 in
theorem ggX6_lay_X6_owner : GoodIn wsX6_lay wsX6_owner := goodIn_r _ [7, 2, 24, 25, 26, 27, 28, 29, 30, 31, 32, 33, 34, 35, 36] (by decide +kernel) (by decide +kernel)
set_option maxRecDepth 20000 in
theorem gX6_lay_X6_owner : GoodIn wsX6_lay (wsV RX6 61 RX6 yX6_owner wsX6_owner) := goodIn_app (goodIn_of _ (by decide +kernel)) ggX6_lay_X6_owner
set_option maxRecDepth 20000 in
theorem ggX6_lay_X6_of : GoodIn wsX6_lay wsX6_of := goodIn_r _ [11, 2, 24, 25, 26, 27, 28, 29, 30, 31, 32, 33, 34, 35, 36] (by decide +kernel) (by decide +kernel)
set_option maxRecDepth 20000 in
theorem gX6_lay_X6_of : GoodIn wsX6_lay (wsV RX6 44 RX6 yX6_of wsX6_of) := goodIn_app (goodIn_of _ (by decide +kernel)) ggX6_lay_X6_of
set_option maxRecDepth 20000 in
theorem ggX6_lay_X6_passes : GoodIn wsX6_lay wsX6_passes := goodIn_r _ [15, 8, 9, 10, 6, 11, 2, 16, 17, 18, 19, 1, 20, 21, 22, 23, 24, 25, 26, 27, 28, 29, 30, 31, 32, 33, 34, 35, 36] (by decide +kernel) (by decide +kernel)
set_option maxRecDepth 20000 in
theorem gX6_lay_X6_passes : GoodIn wsX6_lay (wsV RX6 64 RX6 yX6_passes wsX6_passes) := goodIn_app (goodIn_of _ (by decide +kernel)) ggX6_lay_X6_passes
theorem dX6_lay_0 : decode cX6_lay 0 = .ok (.iconst 0, 1) := by decide +kernel
theorem dX6_lay_1 : decode cX6_lay 1 = .ok (.istore_n 1, 1) := by decide +kernel
theorem dX6_lay_2 : decode cX6_lay 2 = .ok (.iload_n 1, 1) := by decide +kernel
theorem dX6_lay_3 : decode cX6_lay 3 = .ok (.bipush 80, 2) := by decide +kernel
theorem dX6_lay_5 : decode cX6_lay 5 = .ok (.if_icmp .ge 16, 3) := by decide +kernel
theorem dX6_lay_8 : decode cX6_lay 8 = .ok (.aload_n 0, 1) := by decide +kernel
theorem dX6_lay_9 : decode cX6_lay 9 = .ok (.getfield 19, 3) := by decide +kernel
theorem dX6_lay_12 : decode cX6_lay 12 = .ok (.iload_n 1, 1) := by decide +kernel
theorem dX6_lay_13 : decode cX6_lay 13 = .ok (.iconst 0, 1) := by decide +kernel
theorem dX6_lay_14 : decode cX6_lay 14 = .ok (.iastore, 1) := by decide +kernel
theorem dX6_lay_15 : decode cX6_lay 15 = .ok (.iinc 1 1, 3) := by decide +kernel
theorem dX6_lay_18 : decode cX6_lay 18 = .ok (.goto (-16), 3) := by decide +kernel
theorem dX6_lay_21 : decode cX6_lay 21 = .ok (.iconst 0, 1) := by decide +kernel
theorem dX6_lay_22 : decode cX6_lay 22 = .ok (.istore_n 1, 1) := by decide +kernel
theorem dX6_lay_23 : decode cX6_lay 23 = .ok (.iload_n 1, 1) := by decide +kernel
theorem dX6_lay_24 : decode cX6_lay 24 = .ok (.aload_n 0, 1) := by decide +kernel
theorem dX6_lay_25 : decode cX6_lay 25 = .ok (.getfield 7, 3) := by decide +kernel
theorem dX6_lay_28 : decode cX6_lay 28 = .ok (.iconst 4, 1) := by decide +kernel
theorem dX6_lay_29 : decode cX6_lay 29 = .ok (.iaload, 1) := by decide +kernel
theorem dX6_lay_30 : decode cX6_lay 30 = .ok (.if_icmp .ge 26, 3) := by decide +kernel
theorem dX6_lay_33 : decode cX6_lay 33 = .ok (.aload_n 0, 1) := by decide +kernel
theorem dX6_lay_34 : decode cX6_lay 34 = .ok (.getfield 19, 3) := by decide +kernel
theorem dX6_lay_37 : decode cX6_lay 37 = .ok (.bipush 10, 2) := by decide +kernel
theorem dX6_lay_39 : decode cX6_lay 39 = .ok (.iload_n 1, 1) := by decide +kernel
theorem dX6_lay_40 : decode cX6_lay 40 = .ok (.imul, 1) := by decide +kernel
theorem dX6_lay_41 : decode cX6_lay 41 = .ok (.aload_n 0, 1) := by decide +kernel
theorem dX6_lay_42 : decode cX6_lay 42 = .ok (.iload_n 1, 1) := by decide +kernel
theorem dX6_lay_43 : decode cX6_lay 43 = .ok (.invokevirtual 61, 3) := by decide +kernel
theorem dX6_lay_46 : decode cX6_lay 46 = .ok (.iadd, 1) := by decide +kernel
theorem dX6_lay_47 : decode cX6_lay 47 = .ok (.bipush 7, 2) := by decide +kernel
theorem dX6_lay_49 : decode cX6_lay 49 = .ok (.iastore, 1) := by decide +kernel
theorem dX6_lay_50 : decode cX6_lay 50 = .ok (.iinc 1 1, 3) := by decide +kernel
theorem dX6_lay_53 : decode cX6_lay 53 = .ok (.goto (-30), 3) := by decide +kernel
theorem dX6_lay_56 : decode cX6_lay 56 = .ok (.iconst 1, 1) := by decide +kernel
theorem dX6_lay_57 : decode cX6_lay 57 = .ok (.istore_n 1, 1) := by decide +kernel
theorem dX6_lay_58 : decode cX6_lay 58 = .ok (.iload_n 1, 1) := by decide +kernel
theorem dX6_lay_59 : decode cX6_lay 59 = .ok (.ifCond .eq 86, 3) := by decide +kernel
theorem dX6_lay_62 : decode cX6_lay 62 = .ok (.iconst 0, 1) := by decide +kernel
theorem dX6_lay_63 : decode cX6_lay 63 = .ok (.istore_n 1, 1) := by decide +kernel
theorem dX6_lay_64 : decode cX6_lay 64 = .ok (.iconst 0, 1) := by decide +kernel
theorem dX6_lay_65 : decode cX6_lay 65 = .ok (.istore_n 2, 1) := by decide +kernel
theorem dX6_lay_66 : decode cX6_lay 66 = .ok (.iload_n 2, 1) := by decide +kernel
theorem dX6_lay_67 : decode cX6_lay 67 = .ok (.aload_n 0, 1) := by decide +kernel
theorem dX6_lay_68 : decode cX6_lay 68 = .ok (.getfield 7, 3) := by decide +kernel
theorem dX6_lay_71 : decode cX6_lay 71 = .ok (.iconst 5, 1) := by decide +kernel
theorem dX6_lay_72 : decode cX6_lay 72 = .ok (.iaload, 1) := by decide +kernel
theorem dX6_lay_73 : decode cX6_lay 73 = .ok (.if_icmp .ge 69, 3) := by decide +kernel
theorem dX6_lay_76 : decode cX6_lay 76 = .ok (.bipush 10, 2) := by decide +kernel
theorem dX6_lay_78 : decode cX6_lay 78 = .ok (.aload_n 0, 1) := by decide +kernel
theorem dX6_lay_79 : decode cX6_lay 79 = .ok (.iload_n 2, 1) := by decide +kernel
theorem dX6_lay_80 : decode cX6_lay 80 = .ok (.iconst 3, 1) := by decide +kernel
theorem dX6_lay_81 : decode cX6_lay 81 = .ok (.invokevirtual 44, 3) := by decide +kernel
theorem dX6_lay_84 : decode cX6_lay 84 = .ok (.imul, 1) := by decide +kernel
theorem dX6_lay_85 : decode cX6_lay 85 = .ok (.aload_n 0, 1) := by decide +kernel
theorem dX6_lay_86 : decode cX6_lay 86 = .ok (.iload_n 2, 1) := by decide +kernel
theorem dX6_lay_87 : decode cX6_lay 87 = .ok (.iconst 2, 1) := by decide +kernel
theorem dX6_lay_88 : decode cX6_lay 88 = .ok (.invokevirtual 44, 3) := by decide +kernel
theorem dX6_lay_91 : decode cX6_lay 91 = .ok (.iadd, 1) := by decide +kernel
theorem dX6_lay_92 : decode cX6_lay 92 = .ok (.istore_n 3, 1) := by decide +kernel
theorem dX6_lay_93 : decode cX6_lay 93 = .ok (.aload_n 0, 1) := by decide +kernel
theorem dX6_lay_94 : decode cX6_lay 94 = .ok (.getfield 19, 3) := by decide +kernel
theorem dX6_lay_97 : decode cX6_lay 97 = .ok (.iload_n 3, 1) := by decide +kernel
theorem dX6_lay_98 : decode cX6_lay 98 = .ok (.iaload, 1) := by decide +kernel
theorem dX6_lay_99 : decode cX6_lay 99 = .ok (.aload_n 0, 1) := by decide +kernel
theorem dX6_lay_100 : decode cX6_lay 100 = .ok (.iload_n 2, 1) := by decide +kernel
theorem dX6_lay_101 : decode cX6_lay 101 = .ok (.invokevirtual 64, 3) := by decide +kernel
theorem dX6_lay_104 : decode cX6_lay 104 = .ok (.ior, 1) := by decide +kernel
theorem dX6_lay_105 : decode cX6_lay 105 = .ok (.istore 4, 2) := by decide +kernel
theorem dX6_lay_107 : decode cX6_lay 107 = .ok (.iload_n 1, 1) := by decide +kernel
theorem dX6_lay_108 : decode cX6_lay 108 = .ok (.ifCond .ne 14, 3) := by decide +kernel
theorem dX6_lay_111 : decode cX6_lay 111 = .ok (.iload 4, 2) := by decide +kernel
theorem dX6_lay_113 : decode cX6_lay 113 = .ok (.aload_n 0, 1) := by decide +kernel
theorem dX6_lay_114 : decode cX6_lay 114 = .ok (.getfield 19, 3) := by decide +kernel
theorem dX6_lay_117 : decode cX6_lay 117 = .ok (.iload_n 3, 1) := by decide +kernel
theorem dX6_lay_118 : decode cX6_lay 118 = .ok (.iaload, 1) := by decide +kernel
theorem dX6_lay_119 : decode cX6_lay 119 = .ok (.if_icmp .eq 7, 3) := by decide +kernel
theorem dX6_lay_122 : decode cX6_lay 122 = .ok (.iconst 1, 1) := by decide +kernel
theorem dX6_lay_123 : decode cX6_lay 123 = .ok (.goto 4, 3) := by decide +kernel
theorem dX6_lay_126 : decode cX6_lay 126 = .ok (.iconst 0, 1) := by decide +kernel
theorem dX6_lay_127 : decode cX6_lay 127 = .ok (.istore_n 1, 1) := by decide +kernel
theorem dX6_lay_128 : decode cX6_lay 128 = .ok (.aload_n 0, 1) := by decide +kernel
theorem dX6_lay_129 : decode cX6_lay 129 = .ok (.getfield 19, 3) := by decide +kernel
theorem dX6_lay_132 : decode cX6_lay 132 = .ok (.iload_n 3, 1) := by decide +kernel
theorem dX6_lay_133 : decode cX6_lay 133 = .ok (.iload 4, 2) := by decide +kernel
theorem dX6_lay_135 : decode cX6_lay 135 = .ok (.iastore, 1) := by decide +kernel
theorem dX6_lay_136 : decode cX6_lay 136 = .ok (.iinc 2 1, 3) := by decide +kernel
theorem dX6_lay_139 : decode cX6_lay 139 = .ok (.goto (-73), 3) := by decide +kernel
theorem dX6_lay_142 : decode cX6_lay 142 = .ok (.goto (-84), 3) := by decide +kernel
theorem dX6_lay_145 : decode cX6_lay 145 = .ok (.return_, 1) := by decide +kernel
set_option maxRecDepth 20000 in
theorem ggX6_whoHas_X6_holds : GoodIn wsX6_whoHas wsX6_holds := goodIn_r _ [5, 6, 7, 8, 9, 10, 11, 12, 13, 14, 15, 16, 17, 18, 19] (by decide +kernel) (by decide +kernel)
set_option maxRecDepth 20000 in
theorem gX6_whoHas_X6_holds : GoodIn wsX6_whoHas (wsV RX6 55 RX6 yX6_holds wsX6_holds) := goodIn_app (goodIn_of _ (by decide +kernel)) ggX6_whoHas_X6_holds
theorem dX6_whoHas_0 : decode cX6_whoHas 0 = .ok (.iconst 0, 1) := by decide +kernel
theorem dX6_whoHas_1 : decode cX6_whoHas 1 = .ok (.istore_n 3, 1) := by decide +kernel
theorem dX6_whoHas_2 : decode cX6_whoHas 2 = .ok (.iconst 0, 1) := by decide +kernel
theorem dX6_whoHas_3 : decode cX6_whoHas 3 = .ok (.istore 4, 2) := by decide +kernel
theorem dX6_whoHas_5 : decode cX6_whoHas 5 = .ok (.iload 4, 2) := by decide +kernel
theorem dX6_whoHas_7 : decode cX6_whoHas 7 = .ok (.bipush 10, 2) := by decide +kernel
theorem dX6_whoHas_9 : decode cX6_whoHas 9 = .ok (.if_icmp .ge 32, 3) := by decide +kernel
theorem dX6_whoHas_12 : decode cX6_whoHas 12 = .ok (.iload_n 3, 1) := by decide +kernel
theorem dX6_whoHas_13 : decode cX6_whoHas 13 = .ok (.aload_n 0, 1) := by decide +kernel
theorem dX6_whoHas_14 : decode cX6_whoHas 14 = .ok (.iload 4, 2) := by decide +kernel
theorem dX6_whoHas_16 : decode cX6_whoHas 16 = .ok (.iload_n 1, 1) := by decide +kernel
theorem dX6_whoHas_17 : decode cX6_whoHas 17 = .ok (.invokevirtual 55, 3) := by decide +kernel
theorem dX6_whoHas_20 : decode cX6_whoHas 20 = .ok (.iload_n 2, 1) := by decide +kernel
theorem dX6_whoHas_21 : decode cX6_whoHas 21 = .ok (.iand, 1) := by decide +kernel
theorem dX6_whoHas_22 : decode cX6_whoHas 22 = .ok (.ifCond .eq 10, 3) := by decide +kernel
theorem dX6_whoHas_25 : decode cX6_whoHas 25 = .ok (.iconst 1, 1) := by decide +kernel
theorem dX6_whoHas_26 : decode cX6_whoHas 26 = .ok (.iload 4, 2) := by decide +kernel
theorem dX6_whoHas_28 : decode cX6_whoHas 28 = .ok (.ishl, 1) := by decide +kernel
theorem dX6_whoHas_29 : decode cX6_whoHas 29 = .ok (.goto 4, 3) := by decide +kernel
theorem dX6_whoHas_32 : decode cX6_whoHas 32 = .ok (.iconst 0, 1) := by decide +kernel
theorem dX6_whoHas_33 : decode cX6_whoHas 33 = .ok (.ior, 1) := by decide +kernel
theorem dX6_whoHas_34 : decode cX6_whoHas 34 = .ok (.istore_n 3, 1) := by decide +kernel
theorem dX6_whoHas_35 : decode cX6_whoHas 35 = .ok (.iinc 4 1, 3) := by decide +kernel
theorem dX6_whoHas_38 : decode cX6_whoHas 38 = .ok (.goto (-33), 3) := by decide +kernel
theorem dX6_whoHas_41 : decode cX6_whoHas 41 = .ok (.iload_n 3, 1) := by decide +kernel
theorem dX6_whoHas_42 : decode cX6_whoHas 42 = .ok (.ireturn, 1) := by decide +kernel
theorem dX6_bits_0 : decode cX6_bits 0 = .ok (.iconst 0, 1) := by decide +kernel
theorem dX6_bits_1 : decode cX6_bits 1 = .ok (.istore_n 1, 1) := by decide +kernel
theorem dX6_bits_2 : decode cX6_bits 2 = .ok (.iload_n 0, 1) := by decide +kernel
theorem dX6_bits_3 : decode cX6_bits 3 = .ok (.istore_n 2, 1) := by decide +kernel
theorem dX6_bits_4 : decode cX6_bits 4 = .ok (.iload_n 2, 1) := by decide +kernel
theorem dX6_bits_5 : decode cX6_bits 5 = .ok (.ifCond .le 16, 3) := by decide +kernel
theorem dX6_bits_8 : decode cX6_bits 8 = .ok (.iload_n 1, 1) := by decide +kernel
theorem dX6_bits_9 : decode cX6_bits 9 = .ok (.iload_n 2, 1) := by decide +kernel
theorem dX6_bits_10 : decode cX6_bits 10 = .ok (.iconst 1, 1) := by decide +kernel
theorem dX6_bits_11 : decode cX6_bits 11 = .ok (.iand, 1) := by decide +kernel
theorem dX6_bits_12 : decode cX6_bits 12 = .ok (.iadd, 1) := by decide +kernel
theorem dX6_bits_13 : decode cX6_bits 13 = .ok (.istore_n 1, 1) := by decide +kernel
theorem dX6_bits_14 : decode cX6_bits 14 = .ok (.iload_n 2, 1) := by decide +kernel
theorem dX6_bits_15 : decode cX6_bits 15 = .ok (.iconst 1, 1) := by decide +kernel
theorem dX6_bits_16 : decode cX6_bits 16 = .ok (.ishr, 1) := by decide +kernel
theorem dX6_bits_17 : decode cX6_bits 17 = .ok (.istore_n 2, 1) := by decide +kernel
theorem dX6_bits_18 : decode cX6_bits 18 = .ok (.goto (-14), 3) := by decide +kernel
theorem dX6_bits_21 : decode cX6_bits 21 = .ok (.iload_n 1, 1) := by decide +kernel
theorem dX6_bits_22 : decode cX6_bits 22 = .ok (.ireturn, 1) := by decide +kernel
set_option maxRecDepth 20000 in
theorem ggX6_pairs_X6_lay : GoodIn wsX6_pairs wsX6_lay := goodIn_r _ [6, 7, 1, 8, 9, 10, 5, 11, 12, 13, 14, 15, 16, 17, 18, 19, 20, 21, 22, 23, 24, 25, 26, 27, 35, 36, 37, 38, 39, 40, 41, 42, 43, 44, 45, 46, 47] (by decide +kernel) (by decide +kernel)
set_option maxRecDepth 20000 in
theorem gX6_pairs_X6_lay : GoodIn wsX6_pairs (wsV RX6 67 RX6 yX6_lay wsX6_lay) := goodIn_app (goodIn_of _ (by decide +kernel)) ggX6_pairs_X6_lay
set_option maxRecDepth 20000 in
theorem ggX6_pairs_X6_whoHas : GoodIn wsX6_pairs wsX6_whoHas := goodIn_r _ [31, 20, 21, 22, 5, 23, 7, 35, 36, 37, 38, 39, 40, 41, 42, 43, 44, 45, 46, 47] (by decide +kernel) (by decide +kernel)
set_option maxRecDepth 20000 in
theorem gX6_pairs_X6_whoHas : GoodIn wsX6_pairs (wsV RX6 70 RX6 yX6_whoHas wsX6_whoHas) := goodIn_app (goodIn_of _ (by decide +kernel)) ggX6_pairs_X6_whoHas
set_option maxRecDepth 20000 in
theorem ggX6_pairs_X6_bits : GoodIn wsX6_pairs wsX6_bits := goodIn_r _ [34] (by decide +kernel) (by decide +kernel)
set_option maxRecDepth 20000 in
theorem gX6_pairs_X6_bits : GoodIn wsX6_pairs (va_wsS RX6 73 yX6_bits wsX6_bits) := goodIn_app (goodIn_of _ (by decide +kernel)) ggX6_pairs_X6_bits
theorem dX6_pairs_0 : decode cX6_pairs 0 = .ok (.aload_n 0, 1) := by decide +kernel
theorem dX6_pairs_1 : decode cX6_pairs 1 = .ok (.invokevirtual 67, 3) := by decide +kernel
theorem dX6_pairs_4 : decode cX6_pairs 4 = .ok (.iconst 0, 1) := by decide +kernel
theorem dX6_pairs_5 : decode cX6_pairs 5 = .ok (.istore_n 1, 1) := by decide +kernel
theorem dX6_pairs_6 : decode cX6_pairs 6 = .ok (.iconst 0, 1) := by decide +kernel
theorem dX6_pairs_7 : decode cX6_pairs 7 = .ok (.istore_n 2, 1) := by decide +kernel
theorem dX6_pairs_8 : decode cX6_pairs 8 = .ok (.iload_n 2, 1) := by decide +kernel
theorem dX6_pairs_9 : decode cX6_pairs 9 = .ok (.aload_n 0, 1) := by decide +kernel
theorem dX6_pairs_10 : decode cX6_pairs 10 = .ok (.getfield 7, 3) := by decide +kernel
theorem dX6_pairs_13 : decode cX6_pairs 13 = .ok (.iconst 4, 1) := by decide +kernel
theorem dX6_pairs_14 : decode cX6_pairs 14 = .ok (.iaload, 1) := by decide +kernel
theorem dX6_pairs_15 : decode cX6_pairs 15 = .ok (.if_icmp .ge 21, 3) := by decide +kernel
theorem dX6_pairs_18 : decode cX6_pairs 18 = .ok (.iload_n 1, 1) := by decide +kernel
theorem dX6_pairs_19 : decode cX6_pairs 19 = .ok (.aload_n 0, 1) := by decide +kernel
theorem dX6_pairs_20 : decode cX6_pairs 20 = .ok (.iload_n 2, 1) := by decide +kernel
theorem dX6_pairs_21 : decode cX6_pairs 21 = .ok (.iconst 1, 1) := by decide +kernel
theorem dX6_pairs_22 : decode cX6_pairs 22 = .ok (.invokevirtual 70, 3) := by decide +kernel
theorem dX6_pairs_25 : decode cX6_pairs 25 = .ok (.invokestatic 73, 3) := by decide +kernel
theorem dX6_pairs_28 : decode cX6_pairs 28 = .ok (.iadd, 1) := by decide +kernel
theorem dX6_pairs_29 : decode cX6_pairs 29 = .ok (.istore_n 1, 1) := by decide +kernel
theorem dX6_pairs_30 : decode cX6_pairs 30 = .ok (.iinc 2 1, 3) := by decide +kernel
theorem dX6_pairs_33 : decode cX6_pairs 33 = .ok (.goto (-25), 3) := by decide +kernel
theorem dX6_pairs_36 : decode cX6_pairs 36 = .ok (.iload_n 1, 1) := by decide +kernel
theorem dX6_pairs_37 : decode cX6_pairs 37 = .ok (.ireturn, 1) := by decide +kernel
set_option maxRecDepth 20000 in
theorem ggX6_addThing_X6_isPerson : GoodIn wsX6_addThing wsX6_isPerson := goodIn_r _ [6, 7, 8, 9, 5, 10] (by decide +kernel) (by decide +kernel)
set_option maxRecDepth 20000 in
theorem gX6_addThing_X6_isPerson : GoodIn wsX6_addThing (va_wsS RX6 76 yX6_isPerson wsX6_isPerson) := goodIn_app (goodIn_of _ (by decide +kernel)) ggX6_addThing_X6_isPerson
set_option maxRecDepth 20000 in
theorem ggX6_addThing_X6_in : GoodIn wsX6_addThing wsX6_in := goodIn_r _ [10] (by decide +kernel) (by decide +kernel)
set_option maxRecDepth 20000 in
theorem gX6_addThing_X6_in : GoodIn wsX6_addThing (va_wsS RX6 40 yX6_in wsX6_in) := goodIn_app (goodIn_of _ (by decide +kernel)) ggX6_addThing_X6_in
set_option maxRecDepth 20000 in
theorem ggX6_addThing_X6_goes : GoodIn wsX6_addThing wsX6_goes := goodIn_r _ [14, 15, 22, 23, 24, 25, 26, 27, 28, 29, 30, 31, 32, 33, 34] (by decide +kernel) (by decide +kernel)
set_option maxRecDepth 20000 in
theorem gX6_addThing_X6_goes : GoodIn wsX6_addThing (wsV RX6 82 RX6 yX6_goes wsX6_goes) := goodIn_app (goodIn_of _ (by decide +kernel)) ggX6_addThing_X6_goes
set_option maxRecDepth 20000 in
theorem ggX6_addThing_X6_save : GoodIn wsX6_addThing wsX6_save := goodIn_r _ [19, 20, 21, 2, 22, 23, 24, 25, 26, 27, 28, 29, 30, 31, 32, 33, 34] (by decide +kernel) (by decide +kernel)
set_option maxRecDepth 20000 in
theorem gX6_addThing_X6_save : GoodIn wsX6_addThing (wsV RX6 86 RX6 yX6_save wsX6_save) := goodIn_app (goodIn_of _ (by decide +kernel)) ggX6_addThing_X6_save
theorem dX6_addThing_0 : decode cX6_addThing 0 = .ok (.aload_n 0, 1) := by decide +kernel
theorem dX6_addThing_1 : decode cX6_addThing 1 = .ok (.iload_n 1, 1) := by decide +kernel
theorem dX6_addThing_2 : decode cX6_addThing 2 = .ok (.invokestatic 76, 3) := by decide +kernel
theorem dX6_addThing_5 : decode cX6_addThing 5 = .ok (.iload_n 2, 1) := by decide +kernel
theorem dX6_addThing_6 : decode cX6_addThing 6 = .ok (.i2l, 1) := by decide +kernel
theorem dX6_addThing_7 : decode cX6_addThing 7 = .ok (.lconst 0, 1) := by decide +kernel
theorem dX6_addThing_8 : decode cX6_addThing 8 = .ok (.ldc2_w 80, 3) := by decide +kernel
theorem dX6_addThing_11 : decode cX6_addThing 11 = .ok (.invokestatic 40, 3) := by decide +kernel
theorem dX6_addThing_14 : decode cX6_addThing 14 = .ok (.aload_n 0, 1) := by decide +kernel
theorem dX6_addThing_15 : decode cX6_addThing 15 = .ok (.getfield 7, 3) := by decide +kernel
theorem dX6_addThing_18 : decode cX6_addThing 18 = .ok (.iconst 4, 1) := by decide +kernel
theorem dX6_addThing_19 : decode cX6_addThing 19 = .ok (.iaload, 1) := by decide +kernel
theorem dX6_addThing_20 : decode cX6_addThing 20 = .ok (.bipush 8, 2) := by decide +kernel
theorem dX6_addThing_22 : decode cX6_addThing 22 = .ok (.if_icmp .ge 7, 3) := by decide +kernel
theorem dX6_addThing_25 : decode cX6_addThing 25 = .ok (.iconst 1, 1) := by decide +kernel
theorem dX6_addThing_26 : decode cX6_addThing 26 = .ok (.goto 4, 3) := by decide +kernel
theorem dX6_addThing_29 : decode cX6_addThing 29 = .ok (.iconst 0, 1) := by decide +kernel
theorem dX6_addThing_30 : decode cX6_addThing 30 = .ok (.invokevirtual 82, 3) := by decide +kernel
theorem dX6_addThing_33 : decode cX6_addThing 33 = .ok (.ifCond .ne 5, 3) := by decide +kernel
theorem dX6_addThing_36 : decode cX6_addThing 36 = .ok (.iconst 0, 1) := by decide +kernel
theorem dX6_addThing_37 : decode cX6_addThing 37 = .ok (.ireturn, 1) := by decide +kernel
theorem dX6_addThing_38 : decode cX6_addThing 38 = .ok (.aload_n 0, 1) := by decide +kernel
theorem dX6_addThing_39 : decode cX6_addThing 39 = .ok (.invokevirtual 86, 3) := by decide +kernel
theorem dX6_addThing_42 : decode cX6_addThing 42 = .ok (.aload_n 0, 1) := by decide +kernel
theorem dX6_addThing_43 : decode cX6_addThing 43 = .ok (.getfield 7, 3) := by decide +kernel
theorem dX6_addThing_46 : decode cX6_addThing 46 = .ok (.iconst 4, 1) := by decide +kernel
theorem dX6_addThing_47 : decode cX6_addThing 47 = .ok (.iaload, 1) := by decide +kernel
theorem dX6_addThing_48 : decode cX6_addThing 48 = .ok (.istore_n 3, 1) := by decide +kernel
theorem dX6_addThing_49 : decode cX6_addThing 49 = .ok (.aload_n 0, 1) := by decide +kernel
theorem dX6_addThing_50 : decode cX6_addThing 50 = .ok (.getfield 7, 3) := by decide +kernel
theorem dX6_addThing_53 : decode cX6_addThing 53 = .ok (.bipush 28, 2) := by decide +kernel
theorem dX6_addThing_55 : decode cX6_addThing 55 = .ok (.iconst 2, 1) := by decide +kernel
theorem dX6_addThing_56 : decode cX6_addThing 56 = .ok (.iload_n 3, 1) := by decide +kernel
theorem dX6_addThing_57 : decode cX6_addThing 57 = .ok (.imul, 1) := by decide +kernel
theorem dX6_addThing_58 : decode cX6_addThing 58 = .ok (.iadd, 1) := by decide +kernel
