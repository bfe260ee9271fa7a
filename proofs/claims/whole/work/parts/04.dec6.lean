theorem dL_thing_20 : decode cL_thing 20 = .ok (.ireturn, 1) := by decide +kernel
theorem dL_thing_21 : decode cL_thing 21 = .ok (.iconst 0, 1) := by decide +kernel
theorem dL_thing_22 : decode cL_thing 22 = .ok (.ireturn, 1) := by decide +kernel
set_option maxRecDepth 20000 in
theorem ggL_grantOf_X5_grantOf : GoodIn wsL_grantOf wsX5_grantOf := goodIn_ca (goodIn_ca (goodIn_r _ [7, 8, 9, 10, 11, 6, 12, 13, 14, 15, 16, 17, 18, 19, 20, 21, 22, 23, 24, 25, 26, 27, 28, 29, 30, 31, 32, 33, 34, 35, 36, 37, 38, 39, 40, 41, 42, 43, 44, 45, 46, 47, 48, 49, 50, 51, 52, 53, 54, 55, 56, 57, 58, 59, 60, 61, 62, 63, 64, 65, 66, 67, 68] (by decide +kernel) (by decide +kernel)) (goodIn_sub (fun _ h => List.mem_cons_of_mem _ (List.mem_append_left _ (List.mem_append_right _ h))) (by decide +kernel))) (goodIn_sub (fun _ h => List.mem_cons_of_mem _ (List.mem_append_right _ h)) (by decide +kernel))
set_option maxRecDepth 20000 in
theorem gL_grantOf_X5_grantOf : GoodIn wsL_grantOf (wsV RL 53 RX5 yX5_grantOf wsX5_grantOf) := goodIn_app (goodIn_of _ (by decide +kernel)) ggL_grantOf_X5_grantOf
theorem dL_grantOf_0 : decode cL_grantOf 0 = .ok (.aload_n 3, 1) := by decide +kernel
theorem dL_grantOf_1 : decode cL_grantOf 1 = .ok (.iconst 0, 1) := by decide +kernel
theorem dL_grantOf_2 : decode cL_grantOf 2 = .ok (.aload_n 0, 1) := by decide +kernel
theorem dL_grantOf_3 : decode cL_grantOf 3 = .ok (.iload_n 1, 1) := by decide +kernel
theorem dL_grantOf_4 : decode cL_grantOf 4 = .ok (.iload_n 2, 1) := by decide +kernel
theorem dL_grantOf_5 : decode cL_grantOf 5 = .ok (.invokevirtual 53, 3) := by decide +kernel
theorem dL_grantOf_8 : decode cL_grantOf 8 = .ok (.i2l, 1) := by decide +kernel
theorem dL_grantOf_9 : decode cL_grantOf 9 = .ok (.lastore, 1) := by decide +kernel
theorem dL_grantOf_10 : decode cL_grantOf 10 = .ok (.goto 11, 3) := by decide +kernel
theorem dL_grantOf_13 : decode cL_grantOf 13 = .ok (.astore 4, 2) := by decide +kernel
theorem dL_grantOf_15 : decode cL_grantOf 15 = .ok (.iconst 1, 1) := by decide +kernel
theorem dL_grantOf_16 : decode cL_grantOf 16 = .ok (.ireturn, 1) := by decide +kernel
theorem dL_grantOf_17 : decode cL_grantOf 17 = .ok (.astore 4, 2) := by decide +kernel
theorem dL_grantOf_19 : decode cL_grantOf 19 = .ok (.iconst 2, 1) := by decide +kernel
theorem dL_grantOf_20 : decode cL_grantOf 20 = .ok (.ireturn, 1) := by decide +kernel
theorem dL_grantOf_21 : decode cL_grantOf 21 = .ok (.iconst 0, 1) := by decide +kernel
theorem dL_grantOf_22 : decode cL_grantOf 22 = .ok (.ireturn, 1) := by decide +kernel
set_option maxRecDepth 20000 in
theorem ggL_chain_X5_chain : GoodIn wsL_chain wsX5_chain := goodIn_ca (goodIn_r _ [6, 7, 8, 9, 10, 5, 11, 12, 13, 14, 15, 16, 17, 18, 19, 20, 21, 22, 23, 24, 25, 26, 27, 28, 29, 30, 31, 32, 33, 34, 35, 36, 37, 38, 39, 40, 41, 42, 43, 44, 45, 46, 47, 48, 49, 50, 51, 52, 53, 54, 55, 56, 57, 58, 59, 60, 61, 62, 63, 64, 65, 66, 67, 68, 69, 70, 71, 72, 73, 74, 75, 76, 77, 78, 79, 80, 81, 82, 83, 84, 85, 86, 87, 88, 89] (by decide +kernel) (by decide +kernel)) (goodIn_sub (fun _ h => List.mem_cons_of_mem _ (List.mem_append_right _ h)) (by decide +kernel))
set_option maxRecDepth 20000 in
theorem gL_chain_X5_chain : GoodIn wsL_chain (wsV RL 56 RX5 yX5_chain wsX5_chain) := goodIn_app (goodIn_of _ (by decide +kernel)) ggL_chain_X5_chain
theorem dL_chain_0 : decode cL_chain 0 = .ok (.aload_n 3, 1) := by decide +kernel
theorem dL_chain_1 : decode cL_chain 1 = .ok (.iconst 0, 1) := by decide +kernel
theorem dL_chain_2 : decode cL_chain 2 = .ok (.aload_n 0, 1) := by decide +kernel
theorem dL_chain_3 : decode cL_chain 3 = .ok (.iload_n 1, 1) := by decide +kernel
theorem dL_chain_4 : decode cL_chain 4 = .ok (.iload_n 2, 1) := by decide +kernel
theorem dL_chain_5 : decode cL_chain 5 = .ok (.invokevirtual 56, 3) := by decide +kernel
theorem dL_chain_8 : decode cL_chain 8 = .ok (.i2l, 1) := by decide +kernel
theorem dL_chain_9 : decode cL_chain 9 = .ok (.lastore, 1) := by decide +kernel
theorem dL_chain_10 : decode cL_chain 10 = .ok (.goto 7, 3) := by decide +kernel
theorem dL_chain_13 : decode cL_chain 13 = .ok (.astore 4, 2) := by decide +kernel
theorem dL_chain_15 : decode cL_chain 15 = .ok (.iconst 1, 1) := by decide +kernel
theorem dL_chain_16 : decode cL_chain 16 = .ok (.ireturn, 1) := by decide +kernel
theorem dL_chain_17 : decode cL_chain 17 = .ok (.iconst 0, 1) := by decide +kernel
theorem dL_chain_18 : decode cL_chain 18 = .ok (.ireturn, 1) := by decide +kernel
set_option maxRecDepth 20000 in
theorem ggL_link_X5_link : GoodIn wsL_link wsX5_link := goodIn_ca (goodIn_r _ [6, 7, 8, 9, 10, 11, 12, 5, 13, 14, 15, 16, 17, 18, 19, 20, 21, 22, 23, 24, 25, 26, 27, 28, 29, 30, 31, 32, 33, 34, 35, 36, 37, 38, 39, 40, 41, 42, 43, 44, 45, 46, 47, 48, 49, 50, 51, 52, 53, 54, 55, 56, 57, 58, 59, 60, 61, 62, 63, 64, 65, 66, 67, 68, 69, 70, 71, 72, 73, 74, 75, 76, 77, 78, 79, 80, 81, 82, 83, 84, 85, 86, 87, 88, 89, 90, 91, 92, 93, 94, 95, 96, 97] (by decide +kernel) (by decide +kernel)) (goodIn_sub (fun _ h => List.mem_cons_of_mem _ (List.mem_append_right _ h)) (by decide +kernel))
set_option maxRecDepth 20000 in
theorem gL_link_X5_link : GoodIn wsL_link (wsV RL 59 RX5 yX5_link wsX5_link) := goodIn_app (goodIn_of _ (by decide +kernel)) ggL_link_X5_link
theorem dL_link_0 : decode cL_link 0 = .ok (.aload 4, 2) := by decide +kernel
theorem dL_link_2 : decode cL_link 2 = .ok (.iconst 0, 1) := by decide +kernel
theorem dL_link_3 : decode cL_link 3 = .ok (.aload_n 0, 1) := by decide +kernel
theorem dL_link_4 : decode cL_link 4 = .ok (.iload_n 1, 1) := by decide +kernel
theorem dL_link_5 : decode cL_link 5 = .ok (.iload_n 2, 1) := by decide +kernel
theorem dL_link_6 : decode cL_link 6 = .ok (.iload_n 3, 1) := by decide +kernel
theorem dL_link_7 : decode cL_link 7 = .ok (.invokevirtual 59, 3) := by decide +kernel
theorem dL_link_10 : decode cL_link 10 = .ok (.i2l, 1) := by decide +kernel
theorem dL_link_11 : decode cL_link 11 = .ok (.lastore, 1) := by decide +kernel
theorem dL_link_12 : decode cL_link 12 = .ok (.goto 7, 3) := by decide +kernel
theorem dL_link_15 : decode cL_link 15 = .ok (.astore 5, 2) := by decide +kernel
theorem dL_link_17 : decode cL_link 17 = .ok (.iconst 1, 1) := by decide +kernel
theorem dL_link_18 : decode cL_link 18 = .ok (.ireturn, 1) := by decide +kernel
theorem dL_link_19 : decode cL_link 19 = .ok (.iconst 0, 1) := by decide +kernel
theorem dL_link_20 : decode cL_link 20 = .ok (.ireturn, 1) := by decide +kernel
set_option maxRecDepth 20000 in
theorem ggL_why_X5_why : GoodIn wsL_why wsX5_why := goodIn_ca (goodIn_ca (goodIn_r _ [7, 8, 9, 10, 11, 12, 6, 13, 14, 15, 16, 17, 18, 19, 20, 21, 22, 23, 24, 25, 26, 27, 28, 29, 30, 31, 32, 33, 34, 35, 36, 37, 38, 39, 40, 41, 42, 43, 44, 45, 46, 47, 48, 49, 50, 51, 52, 53, 54, 55, 56, 57, 58, 59, 60, 61, 62, 63, 64, 65, 66, 67, 68, 69, 70, 71, 72, 73, 74, 75, 76, 77, 78, 79, 80] (by decide +kernel) (by decide +kernel)) (goodIn_sub (fun _ h => List.mem_cons_of_mem _ (List.mem_append_left _ (List.mem_append_right _ h))) (by decide +kernel))) (goodIn_sub (fun _ h => List.mem_cons_of_mem _ (List.mem_append_right _ h)) (by decide +kernel))
set_option maxRecDepth 20000 in
theorem gL_why_X5_why : GoodIn wsL_why (wsV RL 63 RX5 yX5_why wsX5_why) := goodIn_app (goodIn_of _ (by decide +kernel)) ggL_why_X5_why
theorem dL_why_0 : decode cL_why 0 = .ok (.aload 4, 2) := by decide +kernel
theorem dL_why_2 : decode cL_why 2 = .ok (.iconst 0, 1) := by decide +kernel
theorem dL_why_3 : decode cL_why 3 = .ok (.aload_n 0, 1) := by decide +kernel
theorem dL_why_4 : decode cL_why 4 = .ok (.iload_n 1, 1) := by decide +kernel
theorem dL_why_5 : decode cL_why 5 = .ok (.iload_n 2, 1) := by decide +kernel
theorem dL_why_6 : decode cL_why 6 = .ok (.iload_n 3, 1) := by decide +kernel
theorem dL_why_7 : decode cL_why 7 = .ok (.invokevirtual 63, 3) := by decide +kernel
theorem dL_why_10 : decode cL_why 10 = .ok (.i2l, 1) := by decide +kernel
theorem dL_why_11 : decode cL_why 11 = .ok (.lastore, 1) := by decide +kernel
theorem dL_why_12 : decode cL_why 12 = .ok (.goto 11, 3) := by decide +kernel
theorem dL_why_15 : decode cL_why 15 = .ok (.astore 5, 2) := by decide +kernel
theorem dL_why_17 : decode cL_why 17 = .ok (.iconst 1, 1) := by decide +kernel
theorem dL_why_18 : decode cL_why 18 = .ok (.ireturn, 1) := by decide +kernel
theorem dL_why_19 : decode cL_why 19 = .ok (.astore 5, 2) := by decide +kernel
theorem dL_why_21 : decode cL_why 21 = .ok (.iconst 2, 1) := by decide +kernel
theorem dL_why_22 : decode cL_why 22 = .ok (.ireturn, 1) := by decide +kernel
theorem dL_why_23 : decode cL_why 23 = .ok (.iconst 0, 1) := by decide +kernel
theorem dL_why_24 : decode cL_why 24 = .ok (.ireturn, 1) := by decide +kernel
set_option maxRecDepth 20000 in
theorem ggL_value_X5_value : GoodIn wsL_value wsX5_value := goodIn_ca (goodIn_r _ [6, 7, 8, 9, 5, 10, 11, 12, 13, 14, 15, 16, 17, 18, 19, 20, 21, 22, 23, 24, 25, 26, 27, 28, 29, 30, 31, 32, 33, 34, 35, 36, 37, 38, 39, 40, 41, 42, 43, 44, 45, 46, 47, 48, 49, 50, 51, 52, 53, 54, 55, 56, 57, 58, 59, 60, 61, 62, 63, 64, 65, 66, 67, 68, 69, 70, 71, 72, 73, 74, 75, 76, 77, 78, 79, 80, 81] (by decide +kernel) (by decide +kernel)) (goodIn_sub (fun _ h => List.mem_cons_of_mem _ (List.mem_append_right _ h)) (by decide +kernel))
set_option maxRecDepth 20000 in
theorem gL_value_X5_value : GoodIn wsL_value (wsV RL 66 RX5 yX5_value wsX5_value) := goodIn_app (goodIn_of _ (by decide +kernel)) ggL_value_X5_value
theorem dL_value_0 : decode cL_value 0 = .ok (.aload_n 2, 1) := by decide +kernel
theorem dL_value_1 : decode cL_value 1 = .ok (.iconst 0, 1) := by decide +kernel
theorem dL_value_2 : decode cL_value 2 = .ok (.aload_n 0, 1) := by decide +kernel
theorem dL_value_3 : decode cL_value 3 = .ok (.iload_n 1, 1) := by decide +kernel
theorem dL_value_4 : decode cL_value 4 = .ok (.invokevirtual 66, 3) := by decide +kernel
theorem dL_value_7 : decode cL_value 7 = .ok (.i2l, 1) := by decide +kernel
theorem dL_value_8 : decode cL_value 8 = .ok (.lastore, 1) := by decide +kernel
theorem dL_value_9 : decode cL_value 9 = .ok (.goto 6, 3) := by decide +kernel
theorem dL_value_12 : decode cL_value 12 = .ok (.astore_n 3, 1) := by decide +kernel
theorem dL_value_13 : decode cL_value 13 = .ok (.iconst 1, 1) := by decide +kernel
theorem dL_value_14 : decode cL_value 14 = .ok (.ireturn, 1) := by decide +kernel
theorem dL_value_15 : decode cL_value 15 = .ok (.iconst 0, 1) := by decide +kernel
theorem dL_value_16 : decode cL_value 16 = .ok (.ireturn, 1) := by decide +kernel
set_option maxRecDepth 20000 in
theorem ggL_entry_X5_entry : GoodIn wsL_entry wsX5_entry := goodIn_ca (goodIn_ca (goodIn_r _ [7, 8, 9, 10, 11, 12, 13, 14, 15, 16, 17, 18, 19, 6, 20, 21, 22, 23, 24, 25, 26, 27, 28, 29, 30, 31, 32, 33, 34, 35, 36, 37, 38, 39, 40, 41, 42, 43, 44, 45, 46, 47, 48, 49, 50, 51, 52, 53, 54, 55, 56] (by decide +kernel) (by decide +kernel)) (goodIn_sub (fun _ h => List.mem_cons_of_mem _ (List.mem_append_left _ (List.mem_append_right _ h))) (by decide +kernel))) (goodIn_sub (fun _ h => List.mem_cons_of_mem _ (List.mem_append_right _ h)) (by decide +kernel))
set_option maxRecDepth 20000 in
theorem gL_entry_X5_entry : GoodIn wsL_entry (wsV RL 69 RX5 yX5_entry wsX5_entry) := goodIn_app (goodIn_of _ (by decide +kernel)) ggL_entry_X5_entry
theorem dL_entry_0 : decode cL_entry 0 = .ok (.aload_n 3, 1) := by decide +kernel
theorem dL_entry_1 : decode cL_entry 1 = .ok (.iconst 0, 1) := by decide +kernel
theorem dL_entry_2 : decode cL_entry 2 = .ok (.aload_n 0, 1) := by decide +kernel
theorem dL_entry_3 : decode cL_entry 3 = .ok (.iload_n 1, 1) := by decide +kernel
theorem dL_entry_4 : decode cL_entry 4 = .ok (.iload_n 2, 1) := by decide +kernel
theorem dL_entry_5 : decode cL_entry 5 = .ok (.invokevirtual 69, 3) := by decide +kernel
theorem dL_entry_8 : decode cL_entry 8 = .ok (.i2l, 1) := by decide +kernel
theorem dL_entry_9 : decode cL_entry 9 = .ok (.lastore, 1) := by decide +kernel
theorem dL_entry_10 : decode cL_entry 10 = .ok (.goto 11, 3) := by decide +kernel
theorem dL_entry_13 : decode cL_entry 13 = .ok (.astore 4, 2) := by decide +kernel
theorem dL_entry_15 : decode cL_entry 15 = .ok (.iconst 1, 1) := by decide +kernel
theorem dL_entry_16 : decode cL_entry 16 = .ok (.ireturn, 1) := by decide +kernel
theorem dL_entry_17 : decode cL_entry 17 = .ok (.astore 4, 2) := by decide +kernel
theorem dL_entry_19 : decode cL_entry 19 = .ok (.iconst 2, 1) := by decide +kernel
theorem dL_entry_20 : decode cL_entry 20 = .ok (.ireturn, 1) := by decide +kernel
theorem dL_entry_21 : decode cL_entry 21 = .ok (.iconst 0, 1) := by decide +kernel
theorem dL_entry_22 : decode cL_entry 22 = .ok (.ireturn, 1) := by decide +kernel
set_option maxRecDepth 20000 in
theorem ggL_lostBy_X5_lostBy : GoodIn wsL_lostBy wsX5_lostBy := goodIn_ca (goodIn_r _ [6, 7, 8, 5, 9, 10, 11, 12, 13, 14, 15, 16, 17, 18, 19, 20, 21, 22, 23, 24, 25, 26, 27, 28, 29, 30, 31, 32, 33, 34, 35, 36, 37, 38, 39, 40, 41, 42, 43, 44, 45, 46, 47, 48, 49, 50, 51, 52, 53, 54, 55, 56, 57, 58, 59, 60, 61, 62, 63, 64, 65, 66, 67, 68, 69, 70, 71, 72, 73, 74, 75, 76, 77, 78, 79, 80, 81, 82, 83, 84, 85, 86, 87, 88, 89, 90, 91, 92, 93, 94, 95, 96, 97, 98, 99, 100, 101, 102, 103, 104, 105, 106, 107, 108, 109, 110, 111, 112, 113, 114, 115, 116, 117, 118, 119, 120, 121, 122, 123, 124, 125, 126, 127, 128, 129, 130, 131, 132, 133, 134] (by decide +kernel) (by decide +kernel)) (goodIn_sub (fun _ h => List.mem_cons_of_mem _ (List.mem_append_right _ h)) (by decide +kernel))
set_option maxRecDepth 20000 in
theorem gL_lostBy_X5_lostBy : GoodIn wsL_lostBy (wsV RL 72 RX5 yX5_lostBy wsX5_lostBy) := goodIn_app (goodIn_of _ (by decide +kernel)) ggL_lostBy_X5_lostBy
theorem dL_lostBy_0 : decode cL_lostBy 0 = .ok (.aload_n 2, 1) := by decide +kernel
theorem dL_lostBy_1 : decode cL_lostBy 1 = .ok (.iconst 0, 1) := by decide +kernel
theorem dL_lostBy_2 : decode cL_lostBy 2 = .ok (.aload_n 0, 1) := by decide +kernel
theorem dL_lostBy_3 : decode cL_lostBy 3 = .ok (.iload_n 1, 1) := by decide +kernel
theorem dL_lostBy_4 : decode cL_lostBy 4 = .ok (.invokevirtual 72, 3) := by decide +kernel
theorem dL_lostBy_7 : decode cL_lostBy 7 = .ok (.i2l, 1) := by decide +kernel
theorem dL_lostBy_8 : decode cL_lostBy 8 = .ok (.lastore, 1) := by decide +kernel
theorem dL_lostBy_9 : decode cL_lostBy 9 = .ok (.goto 6, 3) := by decide +kernel
theorem dL_lostBy_12 : decode cL_lostBy 12 = .ok (.astore_n 3, 1) := by decide +kernel
theorem dL_lostBy_13 : decode cL_lostBy 13 = .ok (.iconst 1, 1) := by decide +kernel
theorem dL_lostBy_14 : decode cL_lostBy 14 = .ok (.ireturn, 1) := by decide +kernel
theorem dL_lostBy_15 : decode cL_lostBy 15 = .ok (.iconst 0, 1) := by decide +kernel
theorem dL_lostBy_16 : decode cL_lostBy 16 = .ok (.ireturn, 1) := by decide +kernel
set_option maxRecDepth 20000 in
theorem ggL_seenIn_X5_seenIn : GoodIn wsL_seenIn wsX5_seenIn := goodIn_ca (goodIn_r _ [6, 7, 8, 9, 10, 5, 11, 12, 13, 14, 15, 16, 17, 18, 19, 20, 21, 22, 23, 24, 25, 26, 27, 28, 29, 30, 31, 32, 33, 34, 35, 36, 37, 38, 39, 40, 41, 42, 43, 44, 45, 46, 47, 48, 49, 50, 51, 52, 53, 54, 55, 56, 57, 58, 59, 60, 61, 62, 63, 64, 65, 66, 67, 68, 69, 70, 71, 72, 73, 74, 75, 76, 77, 78, 79, 80, 81, 82, 83, 84, 85, 86, 87, 88, 89, 90, 91, 92, 93, 94, 95, 96, 97, 98, 99, 100, 101, 102, 103, 104, 105, 106, 107, 108, 109, 110, 111, 112, 113, 114, 115, 116, 117, 118, 119, 120, 121, 122, 123, 124] (by decide +kernel) (by decide +kernel)) (goodIn_sub (fun _ h => List.mem_cons_of_mem _ (List.mem_append_right _ h)) (by decide +kernel))
set_option maxRecDepth 20000 in
theorem gL_seenIn_X5_seenIn : GoodIn wsL_seenIn (wsV RL 75 RX5 yX5_seenIn wsX5_seenIn) := goodIn_app (goodIn_of _ (by decide +kernel)) ggL_seenIn_X5_seenIn
theorem dL_seenIn_0 : decode cL_seenIn 0 = .ok (.aload_n 2, 1) := by decide +kernel
theorem dL_seenIn_1 : decode cL_seenIn 1 = .ok (.iconst 0, 1) := by decide +kernel
theorem dL_seenIn_2 : decode cL_seenIn 2 = .ok (.aload_n 0, 1) := by decide +kernel
theorem dL_seenIn_3 : decode cL_seenIn 3 = .ok (.iload_n 1, 1) := by decide +kernel
theorem dL_seenIn_4 : decode cL_seenIn 4 = .ok (.invokevirtual 75, 3) := by decide +kernel
theorem dL_seenIn_7 : decode cL_seenIn 7 = .ok (.i2l, 1) := by decide +kernel
theorem dL_seenIn_8 : decode cL_seenIn 8 = .ok (.lastore, 1) := by decide +kernel
theorem dL_seenIn_9 : decode cL_seenIn 9 = .ok (.goto 6, 3) := by decide +kernel
theorem dL_seenIn_12 : decode cL_seenIn 12 = .ok (.astore_n 3, 1) := by decide +kernel
theorem dL_seenIn_13 : decode cL_seenIn 13 = .ok (.iconst 1, 1) := by decide +kernel
theorem dL_seenIn_14 : decode cL_seenIn 14 = .ok (.ireturn, 1) := by decide +kernel
theorem dL_seenIn_15 : decode cL_seenIn 15 = .ok (.iconst 0, 1) := by decide +kernel
theorem dL_seenIn_16 : decode cL_seenIn 16 = .ok (.ireturn, 1) := by decide +kernel
set_option maxRecDepth 20000 in
theorem ggL_gainBy_X5_gainBy : GoodIn wsL_gainBy wsX5_gainBy := goodIn_ca (goodIn_ca (goodIn_r _ [7, 8, 9, 10, 11, 12, 13, 14, 15, 16, 17, 18, 6, 19, 20, 21, 22, 23, 24, 25, 26, 27, 28, 29, 30, 31, 32, 33, 34, 35, 36, 37, 38, 39, 40, 41, 42, 43, 44, 45, 46, 47, 48, 49, 50, 51, 52, 53, 54, 55, 56, 57, 58, 59, 60, 61, 62, 63, 64, 65, 66, 67, 68, 69, 70, 71, 72, 73, 74, 75, 76, 77, 78, 79, 80, 81, 82, 83, 84, 85, 86, 87, 88, 89, 90, 91, 92, 93, 94, 95, 96, 97, 98, 99, 100, 101, 102, 103, 104, 105, 106, 107, 108, 109, 110, 111, 112, 113, 114, 115, 116, 117, 118, 119, 120, 121] (by decide +kernel) (by decide +kernel)) (goodIn_sub (fun _ h => List.mem_cons_of_mem _ (List.mem_append_left _ (List.mem_append_right _ h))) (by decide +kernel))) (goodIn_sub (fun _ h => List.mem_cons_of_mem _ (List.mem_append_right _ h)) (by decide +kernel))
set_option maxRecDepth 20000 in
theorem gL_gainBy_X5_gainBy : GoodIn wsL_gainBy (wsV RL 78 RX5 yX5_gainBy wsX5_gainBy) := goodIn_app (goodIn_of _ (by decide +kernel)) ggL_gainBy_X5_gainBy
theorem dL_gainBy_0 : decode cL_gainBy 0 = .ok (.aload 6, 2) := by decide +kernel
theorem dL_gainBy_2 : decode cL_gainBy 2 = .ok (.iconst 0, 1) := by decide +kernel
theorem dL_gainBy_3 : decode cL_gainBy 3 = .ok (.aload_n 0, 1) := by decide +kernel
theorem dL_gainBy_4 : decode cL_gainBy 4 = .ok (.iload_n 1, 1) := by decide +kernel
theorem dL_gainBy_5 : decode cL_gainBy 5 = .ok (.iload_n 2, 1) := by decide +kernel
theorem dL_gainBy_6 : decode cL_gainBy 6 = .ok (.iload_n 3, 1) := by decide +kernel
theorem dL_gainBy_7 : decode cL_gainBy 7 = .ok (.iload 4, 2) := by decide +kernel
theorem dL_gainBy_9 : decode cL_gainBy 9 = .ok (.iload 5, 2) := by decide +kernel
theorem dL_gainBy_11 : decode cL_gainBy 11 = .ok (.invokevirtual 78, 3) := by decide +kernel
theorem dL_gainBy_14 : decode cL_gainBy 14 = .ok (.i2l, 1) := by decide +kernel
theorem dL_gainBy_15 : decode cL_gainBy 15 = .ok (.lastore, 1) := by decide +kernel
theorem dL_gainBy_16 : decode cL_gainBy 16 = .ok (.goto 11, 3) := by decide +kernel
theorem dL_gainBy_19 : decode cL_gainBy 19 = .ok (.astore 7, 2) := by decide +kernel
theorem dL_gainBy_21 : decode cL_gainBy 21 = .ok (.iconst 1, 1) := by decide +kernel
theorem dL_gainBy_22 : decode cL_gainBy 22 = .ok (.ireturn, 1) := by decide +kernel
theorem dL_gainBy_23 : decode cL_gainBy 23 = .ok (.astore 7, 2) := by decide +kernel
theorem dL_gainBy_25 : decode cL_gainBy 25 = .ok (.iconst 2, 1) := by decide +kernel
theorem dL_gainBy_26 : decode cL_gainBy 26 = .ok (.ireturn, 1) := by decide +kernel
theorem dL_gainBy_27 : decode cL_gainBy 27 = .ok (.iconst 0, 1) := by decide +kernel
theorem dL_gainBy_28 : decode cL_gainBy 28 = .ok (.ireturn, 1) := by decide +kernel
set_option maxRecDepth 20000 in
theorem ggL_patience_X5_patience : GoodIn wsL_patience wsX5_patience := goodIn_ca (goodIn_r _ [6, 7, 8, 9, 10, 5, 11, 12, 13, 14, 15, 16, 17, 18, 19, 20, 21, 22, 23, 24, 25, 26, 27, 28, 29, 30, 31, 32, 33, 34, 35, 36, 37, 38, 39, 40, 41, 42, 43, 44, 45, 46, 47, 48, 49, 50, 51, 52, 53, 54, 55, 56, 57, 58, 59, 60] (by decide +kernel) (by decide +kernel)) (goodIn_sub (fun _ h => List.mem_cons_of_mem _ (List.mem_append_right _ h)) (by decide +kernel))
set_option maxRecDepth 20000 in
theorem gL_patience_X5_patience : GoodIn wsL_patience (wsV RL 81 RX5 yX5_patience wsX5_patience) := goodIn_app (goodIn_of _ (by decide +kernel)) ggL_patience_X5_patience
theorem dL_patience_0 : decode cL_patience 0 = .ok (.aload_n 2, 1) := by decide +kernel
theorem dL_patience_1 : decode cL_patience 1 = .ok (.iconst 0, 1) := by decide +kernel
theorem dL_patience_2 : decode cL_patience 2 = .ok (.aload_n 0, 1) := by decide +kernel
theorem dL_patience_3 : decode cL_patience 3 = .ok (.iload_n 1, 1) := by decide +kernel
theorem dL_patience_4 : decode cL_patience 4 = .ok (.invokevirtual 81, 3) := by decide +kernel
theorem dL_patience_7 : decode cL_patience 7 = .ok (.i2l, 1) := by decide +kernel
theorem dL_patience_8 : decode cL_patience 8 = .ok (.lastore, 1) := by decide +kernel
theorem dL_patience_9 : decode cL_patience 9 = .ok (.goto 6, 3) := by decide +kernel
theorem dL_patience_12 : decode cL_patience 12 = .ok (.astore_n 3, 1) := by decide +kernel
theorem dL_patience_13 : decode cL_patience 13 = .ok (.iconst 1, 1) := by decide +kernel
theorem dL_patience_14 : decode cL_patience 14 = .ok (.ireturn, 1) := by decide +kernel
theorem dL_patience_15 : decode cL_patience 15 = .ok (.iconst 0, 1) := by decide +kernel
theorem dL_patience_16 : decode cL_patience 16 = .ok (.ireturn, 1) := by decide +kernel
set_option maxRecDepth 20000 in
theorem ggL_append_X5_append : GoodIn wsL_append wsX5_append := goodIn_ca (goodIn_ca (goodIn_r _ [7, 8, 9, 10, 11, 12, 6, 13, 14, 15, 16, 17, 18, 19, 20, 21, 22, 23, 24, 25, 26, 27, 28, 29, 30, 31, 32, 33, 34, 35, 36, 37, 38, 39, 40, 41, 42, 43, 44, 45, 46, 47, 48, 49, 50, 51, 52, 53, 54, 55, 56, 57, 58, 59, 60, 61, 62, 63, 64, 65, 66] (by decide +kernel) (by decide +kernel)) (goodIn_sub (fun _ h => List.mem_cons_of_mem _ (List.mem_append_left _ (List.mem_append_right _ h))) (by decide +kernel))) (goodIn_sub (fun _ h => List.mem_cons_of_mem _ (List.mem_append_right _ h)) (by decide +kernel))
set_option maxRecDepth 20000 in
theorem gL_append_X5_append : GoodIn wsL_append (wsV RL 84 RX5 yX5_append wsX5_append) := goodIn_app (goodIn_of _ (by decide +kernel)) ggL_append_X5_append
theorem dL_append_0 : decode cL_append 0 = .ok (.aload_n 2, 1) := by decide +kernel
theorem dL_append_1 : decode cL_append 1 = .ok (.iconst 0, 1) := by decide +kernel
theorem dL_append_2 : decode cL_append 2 = .ok (.aload_n 0, 1) := by decide +kernel
theorem dL_append_3 : decode cL_append 3 = .ok (.iload_n 1, 1) := by decide +kernel
theorem dL_append_4 : decode cL_append 4 = .ok (.invokevirtual 84, 3) := by decide +kernel
theorem dL_append_7 : decode cL_append 7 = .ok (.i2l, 1) := by decide +kernel
theorem dL_append_8 : decode cL_append 8 = .ok (.lastore, 1) := by decide +kernel
theorem dL_append_9 : decode cL_append 9 = .ok (.goto 9, 3) := by decide +kernel
theorem dL_append_12 : decode cL_append 12 = .ok (.astore_n 3, 1) := by decide +kernel
theorem dL_append_13 : decode cL_append 13 = .ok (.iconst 1, 1) := by decide +kernel
theorem dL_append_14 : decode cL_append 14 = .ok (.ireturn, 1) := by decide +kernel
theorem dL_append_15 : decode cL_append 15 = .ok (.astore_n 3, 1) := by decide +kernel
theorem dL_append_16 : decode cL_append 16 = .ok (.iconst 2, 1) := by decide +kernel
theorem dL_append_17 : decode cL_append 17 = .ok (.ireturn, 1) := by decide +kernel
theorem dL_append_18 : decode cL_append 18 = .ok (.iconst 0, 1) := by decide +kernel
theorem dL_append_19 : decode cL_append 19 = .ok (.ireturn, 1) := by decide +kernel
set_option maxRecDepth 20000 in
theorem ggL_undo_X5_undo : GoodIn wsL_undo wsX5_undo := goodIn_ca (goodIn_r _ [6, 7, 8, 9, 10, 11, 12, 13, 14, 15, 16, 17, 18, 19, 20, 21, 22, 23, 24, 25, 26, 27, 28, 29, 30, 31, 32, 33, 34, 35, 36, 37, 38, 39, 40, 41, 42, 43, 44, 45, 46, 47, 48, 49, 50, 51, 52, 53, 54, 55, 56, 57, 58, 59, 60, 61, 62, 63, 64] (by decide +kernel) (by decide +kernel)) (goodIn_sub (fun _ h => List.mem_cons_of_mem _ (List.mem_append_right _ h)) (by decide +kernel))
set_option maxRecDepth 20000 in
theorem gL_undo_X5_undo : GoodIn wsL_undo (wsV RL 87 RX5 yX5_undo wsX5_undo) := goodIn_app (goodIn_of _ (by decide +kernel)) ggL_undo_X5_undo
theorem dL_undo_0 : decode cL_undo 0 = .ok (.aload_n 1, 1) := by decide +kernel
theorem dL_undo_1 : decode cL_undo 1 = .ok (.iconst 0, 1) := by decide +kernel
theorem dL_undo_2 : decode cL_undo 2 = .ok (.aload_n 0, 1) := by decide +kernel
theorem dL_undo_3 : decode cL_undo 3 = .ok (.invokevirtual 87, 3) := by decide +kernel
theorem dL_undo_6 : decode cL_undo 6 = .ok (.i2l, 1) := by decide +kernel
theorem dL_undo_7 : decode cL_undo 7 = .ok (.lastore, 1) := by decide +kernel
theorem dL_undo_8 : decode cL_undo 8 = .ok (.goto 6, 3) := by decide +kernel
theorem dL_undo_11 : decode cL_undo 11 = .ok (.astore_n 2, 1) := by decide +kernel
theorem dL_undo_12 : decode cL_undo 12 = .ok (.iconst 1, 1) := by decide +kernel
theorem dL_undo_13 : decode cL_undo 13 = .ok (.ireturn, 1) := by decide +kernel
theorem dL_undo_14 : decode cL_undo 14 = .ok (.iconst 0, 1) := by decide +kernel
theorem dL_undo_15 : decode cL_undo 15 = .ok (.ireturn, 1) := by decide +kernel
abbrev vwCl : List vw_C := [(RX0, TX0, 1), (RX1, TX1, 2), (RX2, TX2, 9), (RX3, TX3, 4), (RX4, TX4, 4), (RX5, TX5, 5), (RX6, TX6, 13)]
