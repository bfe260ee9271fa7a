theorem dX5_person_0 : decode cX5_person 0 = .ok (.iload_n 1, 1) := by decide +kernel
theorem dX5_person_1 : decode cX5_person 1 = .ok (.invokestatic 40, 3) := by decide +kernel
theorem dX5_person_4 : decode cX5_person 4 = .ok (.iload_n 2, 1) := by decide +kernel
theorem dX5_person_5 : decode cX5_person 5 = .ok (.iconst 0, 1) := by decide +kernel
theorem dX5_person_6 : decode cX5_person 6 = .ok (.bipush 6, 2) := by decide +kernel
theorem dX5_person_8 : decode cX5_person 8 = .ok (.invokestatic 79, 3) := by decide +kernel
theorem dX5_person_11 : decode cX5_person 11 = .ok (.aload_n 0, 1) := by decide +kernel
theorem dX5_person_12 : decode cX5_person 12 = .ok (.getfield 10, 3) := by decide +kernel
theorem dX5_person_15 : decode cX5_person 15 = .ok (.iload_n 1, 1) := by decide +kernel
theorem dX5_person_16 : decode cX5_person 16 = .ok (.iload_n 2, 1) := by decide +kernel
theorem dX5_person_17 : decode cX5_person 17 = .ok (.invokevirtual 126, 3) := by decide +kernel
theorem dX5_person_20 : decode cX5_person 20 = .ok (.ireturn, 1) := by decide +kernel
set_option maxRecDepth 20000 in
theorem ggX5_thing_X5_requireThing : GoodIn wsX5_thing wsX5_requireThing := goodIn_ca (goodIn_r _ [6, 7, 8, 1, 9, 10, 11, 12, 13, 14, 15, 49, 50, 51, 52, 53, 54, 55, 56, 57, 58, 59, 60, 61, 62, 63, 64, 65, 66] (by decide +kernel) (by decide +kernel)) (goodIn_sub (fun _ h => List.mem_cons_of_mem _ (List.mem_append_left _ (List.mem_append_right _ h))) (by decide +kernel))
set_option maxRecDepth 20000 in
theorem gX5_thing_X5_requireThing : GoodIn wsX5_thing (wsV RX5 72 RX5 yX5_requireThing wsX5_requireThing) := goodIn_app (goodIn_of _ (by decide +kernel)) ggX5_thing_X5_requireThing
set_option maxRecDepth 20000 in
theorem ggX5_thing_X5_requireRange : GoodIn wsX5_thing wsX5_requireRange := goodIn_ca (goodIn_r _ [18, 19, 20, 21, 22, 5, 23] (by decide +kernel) (by decide +kernel)) (goodIn_sub (fun _ h => List.mem_cons_of_mem _ (List.mem_append_right _ h)) (by decide +kernel))
set_option maxRecDepth 20000 in
theorem gX5_thing_X5_requireRange : GoodIn wsX5_thing (va_wsS RX5 79 yX5_requireRange wsX5_requireRange) := goodIn_app (goodIn_of _ (by decide +kernel)) ggX5_thing_X5_requireRange
set_option maxRecDepth 20000 in
theorem ggX5_thing_X2_aboutThing : GoodIn wsX5_thing wsX2_aboutThing := goodIn_r _ [28, 29, 30, 31, 32, 33, 13, 34, 15, 35, 36, 37, 38, 27, 39, 40, 41, 42, 43, 44, 45, 46, 47, 48, 54, 55, 56, 57, 58, 59, 60, 61, 62, 63, 64, 65, 66] (by decide +kernel) (by decide +kernel)
set_option maxRecDepth 20000 in
theorem gX5_thing_X2_aboutThing : GoodIn wsX5_thing (wsV RX5 129 RX2 yX2_aboutThing wsX2_aboutThing) := goodIn_app (goodIn_of _ (by decide +kernel)) ggX5_thing_X2_aboutThing
theorem dX5_thing_0 : decode cX5_thing 0 = .ok (.aload_n 0, 1) := by decide +kernel
theorem dX5_thing_1 : decode cX5_thing 1 = .ok (.iload_n 1, 1) := by decide +kernel
theorem dX5_thing_2 : decode cX5_thing 2 = .ok (.invokevirtual 72, 3) := by decide +kernel
theorem dX5_thing_5 : decode cX5_thing 5 = .ok (.iload_n 2, 1) := by decide +kernel
theorem dX5_thing_6 : decode cX5_thing 6 = .ok (.iconst 0, 1) := by decide +kernel
theorem dX5_thing_7 : decode cX5_thing 7 = .ok (.iconst 5, 1) := by decide +kernel
theorem dX5_thing_8 : decode cX5_thing 8 = .ok (.invokestatic 79, 3) := by decide +kernel
theorem dX5_thing_11 : decode cX5_thing 11 = .ok (.aload_n 0, 1) := by decide +kernel
theorem dX5_thing_12 : decode cX5_thing 12 = .ok (.getfield 10, 3) := by decide +kernel
theorem dX5_thing_15 : decode cX5_thing 15 = .ok (.iload_n 1, 1) := by decide +kernel
theorem dX5_thing_16 : decode cX5_thing 16 = .ok (.iload_n 2, 1) := by decide +kernel
theorem dX5_thing_17 : decode cX5_thing 17 = .ok (.invokevirtual 129, 3) := by decide +kernel
theorem dX5_thing_20 : decode cX5_thing 20 = .ok (.ireturn, 1) := by decide +kernel
set_option maxRecDepth 20000 in
theorem ggX5_grantOf_X5_requireGrant : GoodIn wsX5_grantOf wsX5_requireGrant := goodIn_ca (goodIn_r _ [6, 7, 8, 1, 9, 10, 11, 12, 13, 14, 15, 16, 17, 18, 19, 20, 21, 22, 23, 24, 25, 26, 45, 46, 47, 48, 49, 50, 51, 52, 53, 54, 55, 56, 57, 58, 59, 60, 61, 62] (by decide +kernel) (by decide +kernel)) (goodIn_sub (fun _ h => List.mem_cons_of_mem _ (List.mem_append_left _ (List.mem_append_right _ h))) (by decide +kernel))
set_option maxRecDepth 20000 in
theorem gX5_grantOf_X5_requireGrant : GoodIn wsX5_grantOf (wsV RX5 104 RX5 yX5_requireGrant wsX5_requireGrant) := goodIn_app (goodIn_of _ (by decide +kernel)) ggX5_grantOf_X5_requireGrant
set_option maxRecDepth 20000 in
theorem ggX5_grantOf_X5_requireRange : GoodIn wsX5_grantOf wsX5_requireRange := goodIn_ca (goodIn_r _ [29, 30, 31, 32, 33, 5, 34] (by decide +kernel) (by decide +kernel)) (goodIn_sub (fun _ h => List.mem_cons_of_mem _ (List.mem_append_right _ h)) (by decide +kernel))
set_option maxRecDepth 20000 in
theorem gX5_grantOf_X5_requireRange : GoodIn wsX5_grantOf (va_wsS RX5 79 yX5_requireRange wsX5_requireRange) := goodIn_app (goodIn_of _ (by decide +kernel)) ggX5_grantOf_X5_requireRange
set_option maxRecDepth 20000 in
theorem ggX5_grantOf_X2_aboutGrant : GoodIn wsX5_grantOf wsX2_aboutGrant := goodIn_r _ [38, 14, 21, 22, 23, 18, 24, 20, 25, 26, 39, 40, 41, 12, 42, 43, 44, 50, 51, 52, 53, 54, 55, 56, 57, 58, 59, 60, 61, 62] (by decide +kernel) (by decide +kernel)
set_option maxRecDepth 20000 in
theorem gX5_grantOf_X2_aboutGrant : GoodIn wsX5_grantOf (wsV RX5 132 RX2 yX2_aboutGrant wsX2_aboutGrant) := goodIn_app (goodIn_of _ (by decide +kernel)) ggX5_grantOf_X2_aboutGrant
theorem dX5_grantOf_0 : decode cX5_grantOf 0 = .ok (.aload_n 0, 1) := by decide +kernel
theorem dX5_grantOf_1 : decode cX5_grantOf 1 = .ok (.iload_n 1, 1) := by decide +kernel
theorem dX5_grantOf_2 : decode cX5_grantOf 2 = .ok (.invokevirtual 104, 3) := by decide +kernel
theorem dX5_grantOf_5 : decode cX5_grantOf 5 = .ok (.istore_n 3, 1) := by decide +kernel
theorem dX5_grantOf_6 : decode cX5_grantOf 6 = .ok (.iload_n 2, 1) := by decide +kernel
theorem dX5_grantOf_7 : decode cX5_grantOf 7 = .ok (.iconst 0, 1) := by decide +kernel
theorem dX5_grantOf_8 : decode cX5_grantOf 8 = .ok (.iconst 5, 1) := by decide +kernel
theorem dX5_grantOf_9 : decode cX5_grantOf 9 = .ok (.invokestatic 79, 3) := by decide +kernel
theorem dX5_grantOf_12 : decode cX5_grantOf 12 = .ok (.aload_n 0, 1) := by decide +kernel
theorem dX5_grantOf_13 : decode cX5_grantOf 13 = .ok (.getfield 10, 3) := by decide +kernel
theorem dX5_grantOf_16 : decode cX5_grantOf 16 = .ok (.iload_n 3, 1) := by decide +kernel
theorem dX5_grantOf_17 : decode cX5_grantOf 17 = .ok (.iload_n 2, 1) := by decide +kernel
theorem dX5_grantOf_18 : decode cX5_grantOf 18 = .ok (.invokevirtual 132, 3) := by decide +kernel
theorem dX5_grantOf_21 : decode cX5_grantOf 21 = .ok (.ireturn, 1) := by decide +kernel
set_option maxRecDepth 20000 in
theorem ggX5_chain_X5_requirePerson : GoodIn wsX5_chain wsX5_requirePerson := goodIn_ca (goodIn_r _ [6, 7, 8, 9, 10, 5, 11, 12, 13, 14] (by decide +kernel) (by decide +kernel)) (goodIn_sub (fun _ h => List.mem_cons_of_mem _ (List.mem_append_right _ h)) (by decide +kernel))
set_option maxRecDepth 20000 in
theorem gX5_chain_X5_requirePerson : GoodIn wsX5_chain (va_wsS RX5 40 yX5_requirePerson wsX5_requirePerson) := goodIn_app (goodIn_of _ (by decide +kernel)) ggX5_chain_X5_requirePerson
set_option maxRecDepth 20000 in
theorem ggX5_chain_X5_requireThing : GoodIn wsX5_chain wsX5_requireThing := goodIn_ca (goodIn_r _ [18, 7, 8, 2, 19, 20, 21, 22, 23, 24, 25, 66, 67, 68, 69, 70, 71, 72, 73, 74, 75, 76, 77, 78, 79, 80, 81, 82, 83] (by decide +kernel) (by decide +kernel)) (goodIn_sub (fun _ h => List.mem_cons_of_mem _ (List.mem_append_right _ h)) (by decide +kernel))
set_option maxRecDepth 20000 in
theorem gX5_chain_X5_requireThing : GoodIn wsX5_chain (wsV RX5 72 RX5 yX5_requireThing wsX5_requireThing) := goodIn_app (goodIn_of _ (by decide +kernel)) ggX5_chain_X5_requireThing
set_option maxRecDepth 20000 in
theorem ggX5_chain_X0_measure : GoodIn wsX5_chain wsX0_measure := goodIn_r _ [30, 31, 32, 33, 34, 35, 36, 23, 37, 25, 38, 39, 40, 41, 42, 43, 44, 45, 46, 47, 48, 49, 50, 29, 51, 52, 53, 54, 55, 56, 57, 58, 59, 60, 61, 62, 63, 64, 84, 71, 72, 73, 74, 75, 76, 77, 78, 79, 80, 81, 82, 83] (by decide +kernel) (by decide +kernel)
set_option maxRecDepth 20000 in
theorem gX5_chain_X0_measure : GoodIn wsX5_chain (wsV RX5 135 RX0 yX0_measure wsX0_measure) := goodIn_app (goodIn_of _ (by decide +kernel)) ggX5_chain_X0_measure
set_option maxRecDepth 20000 in
theorem ggX5_chain_X0_stepsTo : GoodIn wsX5_chain wsX0_stepsTo := goodIn_r _ [51, 31, 34, 35, 36, 23, 37, 25, 38, 39, 84, 80, 81, 82, 83] (by decide +kernel) (by decide +kernel)
set_option maxRecDepth 20000 in
theorem gX5_chain_X0_stepsTo : GoodIn wsX5_chain (wsV RX5 139 RX0 yX0_stepsTo wsX0_stepsTo) := goodIn_app (goodIn_of _ (by decide +kernel)) ggX5_chain_X0_stepsTo
theorem dX5_chain_0 : decode cX5_chain 0 = .ok (.iload_n 1, 1) := by decide +kernel
theorem dX5_chain_1 : decode cX5_chain 1 = .ok (.invokestatic 40, 3) := by decide +kernel
theorem dX5_chain_4 : decode cX5_chain 4 = .ok (.aload_n 0, 1) := by decide +kernel
theorem dX5_chain_5 : decode cX5_chain 5 = .ok (.iload_n 2, 1) := by decide +kernel
theorem dX5_chain_6 : decode cX5_chain 6 = .ok (.invokevirtual 72, 3) := by decide +kernel
theorem dX5_chain_9 : decode cX5_chain 9 = .ok (.aload_n 0, 1) := by decide +kernel
theorem dX5_chain_10 : decode cX5_chain 10 = .ok (.getfield 29, 3) := by decide +kernel
theorem dX5_chain_13 : decode cX5_chain 13 = .ok (.aload_n 0, 1) := by decide +kernel
theorem dX5_chain_14 : decode cX5_chain 14 = .ok (.getfield 10, 3) := by decide +kernel
theorem dX5_chain_17 : decode cX5_chain 17 = .ok (.iload_n 2, 1) := by decide +kernel
theorem dX5_chain_18 : decode cX5_chain 18 = .ok (.invokevirtual 135, 3) := by decide +kernel
theorem dX5_chain_21 : decode cX5_chain 21 = .ok (.aload_n 0, 1) := by decide +kernel
theorem dX5_chain_22 : decode cX5_chain 22 = .ok (.getfield 29, 3) := by decide +kernel
theorem dX5_chain_25 : decode cX5_chain 25 = .ok (.iload_n 1, 1) := by decide +kernel
theorem dX5_chain_26 : decode cX5_chain 26 = .ok (.invokevirtual 139, 3) := by decide +kernel
theorem dX5_chain_29 : decode cX5_chain 29 = .ok (.ireturn, 1) := by decide +kernel
set_option maxRecDepth 20000 in
theorem ggX5_link_X5_requirePerson : GoodIn wsX5_link wsX5_requirePerson := goodIn_ca (goodIn_r _ [8, 1, 2, 9, 10, 7, 11, 12, 13, 14] (by decide +kernel) (by decide +kernel)) (goodIn_sub (fun _ h => List.mem_cons_of_mem _ (List.mem_append_right _ h)) (by decide +kernel))
set_option maxRecDepth 20000 in
theorem gX5_link_X5_requirePerson : GoodIn wsX5_link (va_wsS RX5 40 yX5_requirePerson wsX5_requirePerson) := goodIn_app (goodIn_of _ (by decide +kernel)) ggX5_link_X5_requirePerson
set_option maxRecDepth 20000 in
theorem ggX5_link_X5_requireThing : GoodIn wsX5_link wsX5_requireThing := goodIn_ca (goodIn_r _ [18, 1, 2, 4, 19, 20, 21, 22, 23, 24, 25, 74, 75, 76, 77, 78, 79, 80, 81, 82, 83, 84, 85, 86, 87, 88, 89, 90, 91] (by decide +kernel) (by decide +kernel)) (goodIn_sub (fun _ h => List.mem_cons_of_mem _ (List.mem_append_right _ h)) (by decide +kernel))
set_option maxRecDepth 20000 in
theorem gX5_link_X5_requireThing : GoodIn wsX5_link (wsV RX5 72 RX5 yX5_requireThing wsX5_requireThing) := goodIn_app (goodIn_of _ (by decide +kernel)) ggX5_link_X5_requireThing
set_option maxRecDepth 20000 in
theorem ggX5_link_X0_measure : GoodIn wsX5_link wsX0_measure := goodIn_r _ [30, 31, 32, 33, 34, 35, 36, 23, 37, 25, 38, 39, 40, 41, 42, 43, 44, 45, 46, 47, 48, 49, 50, 29, 51, 52, 53, 54, 55, 56, 57, 58, 59, 60, 61, 62, 63, 64, 92, 79, 80, 81, 82, 83, 84, 85, 86, 87, 88, 89, 90, 91] (by decide +kernel) (by decide +kernel)
set_option maxRecDepth 20000 in
theorem gX5_link_X0_measure : GoodIn wsX5_link (wsV RX5 135 RX0 yX0_measure wsX0_measure) := goodIn_app (goodIn_of _ (by decide +kernel)) ggX5_link_X0_measure
set_option maxRecDepth 20000 in
theorem ggX5_link_X0_stepsTo : GoodIn wsX5_link wsX0_stepsTo := goodIn_r _ [51, 31, 34, 35, 36, 23, 37, 25, 38, 39, 92, 88, 89, 90, 91] (by decide +kernel) (by decide +kernel)
set_option maxRecDepth 20000 in
theorem gX5_link_X0_stepsTo : GoodIn wsX5_link (wsV RX5 139 RX0 yX0_stepsTo wsX0_stepsTo) := goodIn_app (goodIn_of _ (by decide +kernel)) ggX5_link_X0_stepsTo
set_option maxRecDepth 20000 in
theorem ggX5_link_X0_numberAt : GoodIn wsX5_link wsX0_numberAt := goodIn_r _ [69, 33, 48, 49, 50, 29, 51, 31, 34, 35, 36, 23, 37, 25, 38, 39, 70, 71, 72, 73, 44, 45, 46, 47, 52, 53, 54, 55, 56, 57, 58, 59, 60, 61, 62, 63, 64, 79, 80, 81, 82, 83, 84, 85, 86, 87, 92, 88, 89, 90, 91] (by decide +kernel) (by decide +kernel)
set_option maxRecDepth 20000 in
theorem gX5_link_X0_numberAt : GoodIn wsX5_link (wsV RX5 147 RX0 yX0_numberAt wsX0_numberAt) := goodIn_app (goodIn_of _ (by decide +kernel)) ggX5_link_X0_numberAt
theorem dX5_link_0 : decode cX5_link 0 = .ok (.iload_n 1, 1) := by decide +kernel
theorem dX5_link_1 : decode cX5_link 1 = .ok (.invokestatic 40, 3) := by decide +kernel
theorem dX5_link_4 : decode cX5_link 4 = .ok (.aload_n 0, 1) := by decide +kernel
theorem dX5_link_5 : decode cX5_link 5 = .ok (.iload_n 2, 1) := by decide +kernel
theorem dX5_link_6 : decode cX5_link 6 = .ok (.invokevirtual 72, 3) := by decide +kernel
theorem dX5_link_9 : decode cX5_link 9 = .ok (.aload_n 0, 1) := by decide +kernel
theorem dX5_link_10 : decode cX5_link 10 = .ok (.getfield 29, 3) := by decide +kernel
theorem dX5_link_13 : decode cX5_link 13 = .ok (.aload_n 0, 1) := by decide +kernel
theorem dX5_link_14 : decode cX5_link 14 = .ok (.getfield 10, 3) := by decide +kernel
theorem dX5_link_17 : decode cX5_link 17 = .ok (.iload_n 2, 1) := by decide +kernel
theorem dX5_link_18 : decode cX5_link 18 = .ok (.invokevirtual 135, 3) := by decide +kernel
theorem dX5_link_21 : decode cX5_link 21 = .ok (.iload_n 3, 1) := by decide +kernel
theorem dX5_link_22 : decode cX5_link 22 = .ok (.ifCond .lt 15, 3) := by decide +kernel
theorem dX5_link_25 : decode cX5_link 25 = .ok (.iload_n 3, 1) := by decide +kernel
theorem dX5_link_26 : decode cX5_link 26 = .ok (.aload_n 0, 1) := by decide +kernel
theorem dX5_link_27 : decode cX5_link 27 = .ok (.getfield 29, 3) := by decide +kernel
theorem dX5_link_30 : decode cX5_link 30 = .ok (.iload_n 1, 1) := by decide +kernel
theorem dX5_link_31 : decode cX5_link 31 = .ok (.invokevirtual 139, 3) := by decide +kernel
theorem dX5_link_34 : decode cX5_link 34 = .ok (.if_icmp .lt 13, 3) := by decide +kernel
theorem dX5_link_37 : decode cX5_link 37 = .ok (.new 142, 3) := by decide +kernel
theorem dX5_link_40 : decode cX5_link 40 = .ok (.dup, 1) := by decide +kernel
theorem dX5_link_41 : decode cX5_link 41 = .ok (.ldc 144, 2) := by decide +kernel
theorem dX5_link_43 : decode cX5_link 43 = .ok (.invokespecial 146, 3) := by decide +kernel
theorem dX5_link_46 : decode cX5_link 46 = .ok (.athrow, 1) := by decide +kernel
theorem dX5_link_47 : decode cX5_link 47 = .ok (.aload_n 0, 1) := by decide +kernel
theorem dX5_link_48 : decode cX5_link 48 = .ok (.getfield 29, 3) := by decide +kernel
theorem dX5_link_51 : decode cX5_link 51 = .ok (.aload_n 0, 1) := by decide +kernel
theorem dX5_link_52 : decode cX5_link 52 = .ok (.getfield 10, 3) := by decide +kernel
theorem dX5_link_55 : decode cX5_link 55 = .ok (.iload_n 1, 1) := by decide +kernel
theorem dX5_link_56 : decode cX5_link 56 = .ok (.iload_n 2, 1) := by decide +kernel
theorem dX5_link_57 : decode cX5_link 57 = .ok (.iload_n 3, 1) := by decide +kernel
theorem dX5_link_58 : decode cX5_link 58 = .ok (.invokevirtual 147, 3) := by decide +kernel
theorem dX5_link_61 : decode cX5_link 61 = .ok (.ireturn, 1) := by decide +kernel
set_option maxRecDepth 20000 in
theorem ggX5_why_X5_requirePerson : GoodIn wsX5_why wsX5_requirePerson := goodIn_ca (goodIn_r _ [7, 8, 9, 10, 11, 6, 12, 13, 14, 15] (by decide +kernel) (by decide +kernel)) (goodIn_sub (fun _ h => List.mem_cons_of_mem _ (List.mem_append_right _ h)) (by decide +kernel))
set_option maxRecDepth 20000 in
theorem gX5_why_X5_requirePerson : GoodIn wsX5_why (va_wsS RX5 40 yX5_requirePerson wsX5_requirePerson) := goodIn_app (goodIn_of _ (by decide +kernel)) ggX5_why_X5_requirePerson
set_option maxRecDepth 20000 in
theorem ggX5_why_X5_requireThing : GoodIn wsX5_why wsX5_requireThing := goodIn_ca (goodIn_r _ [19, 8, 9, 3, 20, 21, 22, 23, 24, 25, 26, 57, 58, 59, 60, 61, 62, 63, 64, 65, 66, 67, 68, 69, 70, 71, 72, 73, 74] (by decide +kernel) (by decide +kernel)) (goodIn_sub (fun _ h => List.mem_cons_of_mem _ (List.mem_append_right _ h)) (by decide +kernel))
set_option maxRecDepth 20000 in
theorem gX5_why_X5_requireThing : GoodIn wsX5_why (wsV RX5 72 RX5 yX5_requireThing wsX5_requireThing) := goodIn_app (goodIn_of _ (by decide +kernel)) ggX5_why_X5_requireThing
set_option maxRecDepth 20000 in
theorem ggX5_why_X2_reasonAgainst : GoodIn wsX5_why wsX2_reasonAgainst := goodIn_r _ [31, 32, 33, 34, 35, 36, 37, 38, 39, 40, 30, 41, 42, 43, 44, 45, 24, 46, 26, 47, 48, 49, 50, 51, 52, 53, 54, 55, 56, 62, 63, 64, 65, 66, 67, 68, 69, 70, 71, 72, 73, 74] (by decide +kernel) (by decide +kernel)
set_option maxRecDepth 20000 in
theorem gX5_why_X2_reasonAgainst : GoodIn wsX5_why (wsV RX5 156 RX2 yX2_reasonAgainst wsX2_reasonAgainst) := goodIn_app (goodIn_of _ (by decide +kernel)) ggX5_why_X2_reasonAgainst
theorem dX5_why_0 : decode cX5_why 0 = .ok (.iload_n 1, 1) := by decide +kernel
theorem dX5_why_1 : decode cX5_why 1 = .ok (.invokestatic 40, 3) := by decide +kernel
theorem dX5_why_4 : decode cX5_why 4 = .ok (.aload_n 0, 1) := by decide +kernel
theorem dX5_why_5 : decode cX5_why 5 = .ok (.iload_n 2, 1) := by decide +kernel
theorem dX5_why_6 : decode cX5_why 6 = .ok (.invokevirtual 72, 3) := by decide +kernel
theorem dX5_why_9 : decode cX5_why 9 = .ok (.iload_n 3, 1) := by decide +kernel
theorem dX5_why_10 : decode cX5_why 10 = .ok (.iconst 1, 1) := by decide +kernel
theorem dX5_why_11 : decode cX5_why 11 = .ok (.if_icmp .eq 23, 3) := by decide +kernel
theorem dX5_why_14 : decode cX5_why 14 = .ok (.iload_n 3, 1) := by decide +kernel
theorem dX5_why_15 : decode cX5_why 15 = .ok (.iconst 2, 1) := by decide +kernel
theorem dX5_why_16 : decode cX5_why 16 = .ok (.if_icmp .eq 18, 3) := by decide +kernel
theorem dX5_why_19 : decode cX5_why 19 = .ok (.iload_n 3, 1) := by decide +kernel
theorem dX5_why_20 : decode cX5_why 20 = .ok (.iconst 4, 1) := by decide +kernel
theorem dX5_why_21 : decode cX5_why 21 = .ok (.if_icmp .eq 13, 3) := by decide +kernel
theorem dX5_why_24 : decode cX5_why 24 = .ok (.new 151, 3) := by decide +kernel
theorem dX5_why_27 : decode cX5_why 27 = .ok (.dup, 1) := by decide +kernel
theorem dX5_why_28 : decode cX5_why 28 = .ok (.ldc 153, 2) := by decide +kernel
theorem dX5_why_30 : decode cX5_why 30 = .ok (.invokespecial 155, 3) := by decide +kernel
theorem dX5_why_33 : decode cX5_why 33 = .ok (.athrow, 1) := by decide +kernel
theorem dX5_why_34 : decode cX5_why 34 = .ok (.aload_n 0, 1) := by decide +kernel
theorem dX5_why_35 : decode cX5_why 35 = .ok (.getfield 10, 3) := by decide +kernel
theorem dX5_why_38 : decode cX5_why 38 = .ok (.iload_n 1, 1) := by decide +kernel
theorem dX5_why_39 : decode cX5_why 39 = .ok (.iload_n 2, 1) := by decide +kernel
theorem dX5_why_40 : decode cX5_why 40 = .ok (.iload_n 3, 1) := by decide +kernel
theorem dX5_why_41 : decode cX5_why 41 = .ok (.invokevirtual 156, 3) := by decide +kernel
theorem dX5_why_44 : decode cX5_why 44 = .ok (.ireturn, 1) := by decide +kernel
set_option maxRecDepth 20000 in
theorem ggX5_value_X5_requireRange : GoodIn wsX5_value wsX5_requireRange := goodIn_ca (goodIn_r _ [5, 6, 7, 8, 9, 4, 10] (by decide +kernel) (by decide +kernel)) (goodIn_sub (fun _ h => List.mem_cons_of_mem _ (List.mem_append_right _ h)) (by decide +kernel))
set_option maxRecDepth 20000 in
theorem gX5_value_X5_requireRange : GoodIn wsX5_value (va_wsS RX5 79 yX5_requireRange wsX5_requireRange) := goodIn_app (goodIn_of _ (by decide +kernel)) ggX5_value_X5_requireRange
set_option maxRecDepth 20000 in
theorem ggX5_value_X2_aboutHouse : GoodIn wsX5_value wsX2_aboutHouse := goodIn_r _ [15, 16, 17, 18, 19, 20, 21, 22, 23, 24, 25, 26, 27, 28, 29, 30, 31, 14, 32, 33, 34, 35, 36, 37, 38, 39, 40, 41, 42, 43, 44, 45, 46, 47, 48, 49, 50, 51, 52, 53, 54, 55, 56, 57, 58, 64, 65, 66, 67, 68, 69, 70, 71, 72, 73, 74, 75, 76] (by decide +kernel) (by decide +kernel)
set_option maxRecDepth 20000 in
theorem gX5_value_X2_aboutHouse : GoodIn wsX5_value (wsV RX5 159 RX2 yX2_aboutHouse wsX2_aboutHouse) := goodIn_app (goodIn_of _ (by decide +kernel)) ggX5_value_X2_aboutHouse
theorem dX5_value_0 : decode cX5_value 0 = .ok (.iload_n 1, 1) := by decide +kernel
theorem dX5_value_1 : decode cX5_value 1 = .ok (.iconst 0, 1) := by decide +kernel
theorem dX5_value_2 : decode cX5_value 2 = .ok (.bipush 8, 2) := by decide +kernel
theorem dX5_value_4 : decode cX5_value 4 = .ok (.invokestatic 79, 3) := by decide +kernel
theorem dX5_value_7 : decode cX5_value 7 = .ok (.aload_n 0, 1) := by decide +kernel
theorem dX5_value_8 : decode cX5_value 8 = .ok (.getfield 10, 3) := by decide +kernel
theorem dX5_value_11 : decode cX5_value 11 = .ok (.iload_n 1, 1) := by decide +kernel
theorem dX5_value_12 : decode cX5_value 12 = .ok (.invokevirtual 159, 3) := by decide +kernel
theorem dX5_value_15 : decode cX5_value 15 = .ok (.ireturn, 1) := by decide +kernel
set_option maxRecDepth 20000 in
theorem ggX5_lostBy_X5_requirePerson : GoodIn wsX5_lostBy wsX5_requirePerson := goodIn_ca (goodIn_r _ [4, 5, 6, 7, 8, 3, 9, 10, 11, 12] (by decide +kernel) (by decide +kernel)) (goodIn_sub (fun _ h => List.mem_cons_of_mem _ (List.mem_append_right _ h)) (by decide +kernel))
set_option maxRecDepth 20000 in
theorem gX5_lostBy_X5_requirePerson : GoodIn wsX5_lostBy (va_wsS RX5 40 yX5_requirePerson wsX5_requirePerson) := goodIn_app (goodIn_of _ (by decide +kernel)) ggX5_lostBy_X5_requirePerson
set_option maxRecDepth 20000 in
theorem ggX5_lostBy_X5_pairsLostBy : GoodIn wsX5_lostBy wsX5_pairsLostBy := goodIn_r _ [16, 17, 18, 19, 20, 21, 22, 23, 24, 25, 26, 27, 28, 29, 30, 31, 32, 33, 34, 35, 36, 37, 38, 39, 40, 41, 42, 43, 44, 45, 46, 47, 48, 49, 50, 51, 52, 53, 54, 55, 56, 57, 58, 59, 60, 61, 62, 63, 64, 65, 66, 67, 68, 69, 70, 71, 72, 73, 74, 75, 76, 77, 78, 79, 80, 81, 82, 83, 84, 85, 86, 87, 88, 89, 90, 91, 92, 93, 94, 95, 96, 97, 98, 99, 100, 101, 102, 103, 104, 105, 106, 107, 108, 109, 110, 111, 112, 113, 114, 115, 116, 117, 118, 119, 120, 121, 122, 123, 124, 125, 126, 127, 128, 129] (by decide +kernel) (by decide +kernel)
set_option maxRecDepth 20000 in
theorem gX5_lostBy_X5_pairsLostBy : GoodIn wsX5_lostBy (wsV RX5 174 RX5 yX5_pairsLostBy wsX5_pairsLostBy) := goodIn_app (goodIn_of _ (by decide +kernel)) ggX5_lostBy_X5_pairsLostBy
theorem dX5_lostBy_0 : decode cX5_lostBy 0 = .ok (.iload_n 1, 1) := by decide +kernel
theorem dX5_lostBy_1 : decode cX5_lostBy 1 = .ok (.invokestatic 40, 3) := by decide +kernel
theorem dX5_lostBy_4 : decode cX5_lostBy 4 = .ok (.aload_n 0, 1) := by decide +kernel
theorem dX5_lostBy_5 : decode cX5_lostBy 5 = .ok (.iload_n 1, 1) := by decide +kernel
theorem dX5_lostBy_6 : decode cX5_lostBy 6 = .ok (.invokevirtual 174, 3) := by decide +kernel
theorem dX5_lostBy_9 : decode cX5_lostBy 9 = .ok (.ireturn, 1) := by decide +kernel
set_option maxRecDepth 20000 in
theorem ggX5_seenIn_X5_requireRange : GoodIn wsX5_seenIn wsX5_requireRange := goodIn_ca (goodIn_r _ [6, 7, 8, 9, 10, 5, 11] (by decide +kernel) (by decide +kernel)) (goodIn_sub (fun _ h => List.mem_cons_of_mem _ (List.mem_append_right _ h)) (by decide +kernel))
set_option maxRecDepth 20000 in
theorem gX5_seenIn_X5_requireRange : GoodIn wsX5_seenIn (va_wsS RX5 79 yX5_requireRange wsX5_requireRange) := goodIn_app (goodIn_of _ (by decide +kernel)) ggX5_seenIn_X5_requireRange
set_option maxRecDepth 20000 in
theorem ggX5_seenIn_X2_takeOver : GoodIn wsX5_seenIn wsX2_takeOver := goodIn_r _ [16, 17, 18, 19, 20, 21, 22, 23, 24, 25, 26, 27, 28, 29, 30, 31, 32, 33, 34, 107, 108, 109, 110, 111, 112, 113, 114, 115, 116, 117, 118, 119] (by decide +kernel) (by decide +kernel)
set_option maxRecDepth 20000 in
theorem gX5_seenIn_X2_takeOver : GoodIn wsX5_seenIn (wsV RX5 177 RX2 yX2_takeOver wsX2_takeOver) := goodIn_app (goodIn_of _ (by decide +kernel)) ggX5_seenIn_X2_takeOver
set_option maxRecDepth 20000 in
theorem ggX5_seenIn_X2_letPass : GoodIn wsX5_seenIn wsX2_letPass := goodIn_r _ [38, 25, 39, 40, 41, 15, 42, 17, 43, 44, 45, 29, 46, 31, 33, 34, 47, 48, 49, 50, 51, 52, 53, 54, 19, 23, 55, 56, 57, 58, 59, 60, 61, 62, 63, 64, 65, 66, 20, 67, 68, 69, 70, 32, 71, 72, 73, 74, 75, 76, 77, 78, 79, 80, 81, 82, 18, 21, 83, 84, 85, 86, 107, 108, 109, 110, 111, 112, 113, 114, 115, 116, 117, 118, 119] (by decide +kernel) (by decide +kernel)
set_option maxRecDepth 20000 in
theorem gX5_seenIn_X2_letPass : GoodIn wsX5_seenIn (wsV RX5 120 RX2 yX2_letPass wsX2_letPass) := goodIn_app (goodIn_of _ (by decide +kernel)) ggX5_seenIn_X2_letPass
set_option maxRecDepth 20000 in
theorem ggX5_seenIn_X2_countPairs : GoodIn wsX5_seenIn wsX2_countPairs := goodIn_r _ [90, 18, 55, 56, 57, 29, 58, 31, 91, 92, 93, 15, 94, 21, 43, 44, 45, 46, 33, 34, 95, 96, 97, 98, 99, 100, 101, 107, 108, 109, 110, 111, 112, 113, 114, 115, 116, 117, 118, 119] (by decide +kernel) (by decide +kernel)
set_option maxRecDepth 20000 in
theorem gX5_seenIn_X2_countPairs : GoodIn wsX5_seenIn (wsV RX5 180 RX2 yX2_countPairs wsX2_countPairs) := goodIn_app (goodIn_of _ (by decide +kernel)) ggX5_seenIn_X2_countPairs
theorem dX5_seenIn_0 : decode cX5_seenIn 0 = .ok (.iload_n 1, 1) := by decide +kernel
theorem dX5_seenIn_1 : decode cX5_seenIn 1 = .ok (.iconst 0, 1) := by decide +kernel
theorem dX5_seenIn_2 : decode cX5_seenIn 2 = .ok (.bipush 100, 2) := by decide +kernel
theorem dX5_seenIn_4 : decode cX5_seenIn 4 = .ok (.invokestatic 79, 3) := by decide +kernel
theorem dX5_seenIn_7 : decode cX5_seenIn 7 = .ok (.aload_n 0, 1) := by decide +kernel
theorem dX5_seenIn_8 : decode cX5_seenIn 8 = .ok (.getfield 16, 3) := by decide +kernel
theorem dX5_seenIn_11 : decode cX5_seenIn 11 = .ok (.aload_n 0, 1) := by decide +kernel
theorem dX5_seenIn_12 : decode cX5_seenIn 12 = .ok (.getfield 10, 3) := by decide +kernel
theorem dX5_seenIn_15 : decode cX5_seenIn 15 = .ok (.invokevirtual 177, 3) := by decide +kernel
theorem dX5_seenIn_18 : decode cX5_seenIn 18 = .ok (.aload_n 0, 1) := by decide +kernel
theorem dX5_seenIn_19 : decode cX5_seenIn 19 = .ok (.getfield 16, 3) := by decide +kernel
theorem dX5_seenIn_22 : decode cX5_seenIn 22 = .ok (.iload_n 1, 1) := by decide +kernel
theorem dX5_seenIn_23 : decode cX5_seenIn 23 = .ok (.invokevirtual 120, 3) := by decide +kernel
theorem dX5_seenIn_26 : decode cX5_seenIn 26 = .ok (.pop, 1) := by decide +kernel
theorem dX5_seenIn_27 : decode cX5_seenIn 27 = .ok (.aload_n 0, 1) := by decide +kernel
theorem dX5_seenIn_28 : decode cX5_seenIn 28 = .ok (.getfield 16, 3) := by decide +kernel
theorem dX5_seenIn_31 : decode cX5_seenIn 31 = .ok (.invokevirtual 180, 3) := by decide +kernel
theorem dX5_seenIn_34 : decode cX5_seenIn 34 = .ok (.ireturn, 1) := by decide +kernel
set_option maxRecDepth 20000 in
theorem ggX5_gainBy_X2_faultOfGrant : GoodIn wsX5_gainBy wsX2_faultOfGrant := goodIn_r _ [7, 8, 9, 10, 11, 12, 13, 14, 15, 16, 17, 18, 19, 20, 21, 22, 23, 24, 25, 6, 26, 27, 28, 29, 30, 31, 32, 33, 34, 35, 36, 37, 38, 103, 104, 105, 106, 107, 108, 109, 110, 111, 112, 113, 114, 115] (by decide +kernel) (by decide +kernel)
set_option maxRecDepth 20000 in
theorem gX5_gainBy_X2_faultOfGrant : GoodIn wsX5_gainBy (wsV RX5 92 RX2 yX2_faultOfGrant wsX2_faultOfGrant) := goodIn_app (goodIn_of _ (by decide +kernel)) ggX5_gainBy_X2_faultOfGrant
set_option maxRecDepth 20000 in
theorem ggX5_gainBy_X5_requireFit : GoodIn wsX5_gainBy wsX5_requireFit := goodIn_ca (goodIn_ca (goodIn_r _ [41, 42, 43, 44, 45] (by decide +kernel) (by decide +kernel)) (goodIn_sub (fun _ h => List.mem_cons_of_mem _ (List.mem_append_left _ (List.mem_append_right _ h))) (by decide +kernel))) (goodIn_sub (fun _ h => List.mem_cons_of_mem _ (List.mem_append_right _ h)) (by decide +kernel))
set_option maxRecDepth 20000 in
theorem gX5_gainBy_X5_requireFit : GoodIn wsX5_gainBy (va_wsS RX5 96 yX5_requireFit wsX5_requireFit) := goodIn_app (goodIn_of _ (by decide +kernel)) ggX5_gainBy_X5_requireFit
set_option maxRecDepth 20000 in
theorem ggX5_gainBy_X2_takeOver : GoodIn wsX5_gainBy wsX2_takeOver := goodIn_r _ [49, 9, 8, 10, 50, 27, 51, 52, 53, 54, 55, 56, 57, 20, 58, 22, 38, 32, 33, 103, 104, 105, 106, 107, 108, 109, 110, 111, 112, 113, 114, 115] (by decide +kernel) (by decide +kernel)
set_option maxRecDepth 20000 in
theorem gX5_gainBy_X2_takeOver : GoodIn wsX5_gainBy (wsV RX5 177 RX2 yX2_takeOver wsX2_takeOver) := goodIn_app (goodIn_of _ (by decide +kernel)) ggX5_gainBy_X2_takeOver
set_option maxRecDepth 20000 in
theorem ggX5_gainBy_X2_lend : GoodIn wsX5_gainBy wsX2_lend := goodIn_r _ [62, 51, 10, 63, 64, 65, 20, 66, 22, 38, 67, 68, 69, 70, 32, 33, 71, 72, 73, 6, 74, 8, 27, 75, 76, 77, 78, 28, 29, 30, 31, 79, 80, 81, 82, 103, 104, 105, 106, 107, 108, 109, 110, 111, 112, 113, 114, 115] (by decide +kernel) (by decide +kernel)
set_option maxRecDepth 20000 in
theorem gX5_gainBy_X2_lend : GoodIn wsX5_gainBy (wsV RX5 101 RX2 yX2_lend wsX2_lend) := goodIn_app (goodIn_of _ (by decide +kernel)) ggX5_gainBy_X2_lend
set_option maxRecDepth 20000 in
theorem ggX5_gainBy_X2_countPairs : GoodIn wsX5_gainBy wsX2_countPairs := goodIn_r _ [86, 8, 75, 76, 77, 20, 78, 22, 87, 88, 89, 6, 90, 27, 28, 29, 30, 31, 32, 33, 91, 92, 93, 94, 95, 96, 97, 103, 104, 105, 106, 107, 108, 109, 110, 111, 112, 113, 114, 115] (by decide +kernel) (by decide +kernel)
set_option maxRecDepth 20000 in
theorem gX5_gainBy_X2_countPairs : GoodIn wsX5_gainBy (wsV RX5 180 RX2 yX2_countPairs wsX2_countPairs) := goodIn_app (goodIn_of _ (by decide +kernel)) ggX5_gainBy_X2_countPairs
theorem dX5_gainBy_0 : decode cX5_gainBy 0 = .ok (.aload_n 0, 1) := by decide +kernel
theorem dX5_gainBy_1 : decode cX5_gainBy 1 = .ok (.getfield 10, 3) := by decide +kernel
theorem dX5_gainBy_4 : decode cX5_gainBy 4 = .ok (.iload_n 1, 1) := by decide +kernel
theorem dX5_gainBy_5 : decode cX5_gainBy 5 = .ok (.iload_n 2, 1) := by decide +kernel
theorem dX5_gainBy_6 : decode cX5_gainBy 6 = .ok (.iload_n 3, 1) := by decide +kernel
theorem dX5_gainBy_7 : decode cX5_gainBy 7 = .ok (.iload 4, 2) := by decide +kernel
theorem dX5_gainBy_9 : decode cX5_gainBy 9 = .ok (.iload 5, 2) := by decide +kernel
theorem dX5_gainBy_11 : decode cX5_gainBy 11 = .ok (.invokevirtual 92, 3) := by decide +kernel
theorem dX5_gainBy_14 : decode cX5_gainBy 14 = .ok (.istore 6, 2) := by decide +kernel
theorem dX5_gainBy_16 : decode cX5_gainBy 16 = .ok (.iload 6, 2) := by decide +kernel
theorem dX5_gainBy_18 : decode cX5_gainBy 18 = .ok (.invokestatic 96, 3) := by decide +kernel
theorem dX5_gainBy_21 : decode cX5_gainBy 21 = .ok (.iload 6, 2) := by decide +kernel
theorem dX5_gainBy_23 : decode cX5_gainBy 23 = .ok (.iconst 3, 1) := by decide +kernel
theorem dX5_gainBy_24 : decode cX5_gainBy 24 = .ok (.if_icmp .ne 5, 3) := by decide +kernel
theorem dX5_gainBy_27 : decode cX5_gainBy 27 = .ok (.iconst (-1), 1) := by decide +kernel
theorem dX5_gainBy_28 : decode cX5_gainBy 28 = .ok (.ireturn, 1) := by decide +kernel
theorem dX5_gainBy_29 : decode cX5_gainBy 29 = .ok (.aload_n 0, 1) := by decide +kernel
theorem dX5_gainBy_30 : decode cX5_gainBy 30 = .ok (.getfield 16, 3) := by decide +kernel
theorem dX5_gainBy_33 : decode cX5_gainBy 33 = .ok (.aload_n 0, 1) := by decide +kernel
theorem dX5_gainBy_34 : decode cX5_gainBy 34 = .ok (.getfield 10, 3) := by decide +kernel
theorem dX5_gainBy_37 : decode cX5_gainBy 37 = .ok (.invokevirtual 177, 3) := by decide +kernel
theorem dX5_gainBy_40 : decode cX5_gainBy 40 = .ok (.aload_n 0, 1) := by decide +kernel
theorem dX5_gainBy_41 : decode cX5_gainBy 41 = .ok (.getfield 16, 3) := by decide +kernel
theorem dX5_gainBy_44 : decode cX5_gainBy 44 = .ok (.iload_n 1, 1) := by decide +kernel
theorem dX5_gainBy_45 : decode cX5_gainBy 45 = .ok (.iload_n 2, 1) := by decide +kernel
theorem dX5_gainBy_46 : decode cX5_gainBy 46 = .ok (.iload_n 3, 1) := by decide +kernel
theorem dX5_gainBy_47 : decode cX5_gainBy 47 = .ok (.iload 4, 2) := by decide +kernel
theorem dX5_gainBy_49 : decode cX5_gainBy 49 = .ok (.iload 5, 2) := by decide +kernel
theorem dX5_gainBy_51 : decode cX5_gainBy 51 = .ok (.invokevirtual 101, 3) := by decide +kernel
theorem dX5_gainBy_54 : decode cX5_gainBy 54 = .ok (.pop, 1) := by decide +kernel
theorem dX5_gainBy_55 : decode cX5_gainBy 55 = .ok (.aload_n 0, 1) := by decide +kernel
theorem dX5_gainBy_56 : decode cX5_gainBy 56 = .ok (.getfield 16, 3) := by decide +kernel
theorem dX5_gainBy_59 : decode cX5_gainBy 59 = .ok (.invokevirtual 180, 3) := by decide +kernel
theorem dX5_gainBy_62 : decode cX5_gainBy 62 = .ok (.aload_n 0, 1) := by decide +kernel
theorem dX5_gainBy_63 : decode cX5_gainBy 63 = .ok (.getfield 10, 3) := by decide +kernel
theorem dX5_gainBy_66 : decode cX5_gainBy 66 = .ok (.invokevirtual 180, 3) := by decide +kernel
theorem dX5_gainBy_69 : decode cX5_gainBy 69 = .ok (.isub, 1) := by decide +kernel
theorem dX5_gainBy_70 : decode cX5_gainBy 70 = .ok (.ireturn, 1) := by decide +kernel
set_option maxRecDepth 20000 in
theorem ggX5_patience_X5_requirePerson : GoodIn wsX5_patience wsX5_requirePerson := goodIn_ca (goodIn_r _ [6, 7, 8, 9, 10, 5, 11, 12, 13, 14] (by decide +kernel) (by decide +kernel)) (goodIn_sub (fun _ h => List.mem_cons_of_mem _ (List.mem_append_right _ h)) (by decide +kernel))
set_option maxRecDepth 20000 in
theorem gX5_patience_X5_requirePerson : GoodIn wsX5_patience (va_wsS RX5 40 yX5_requirePerson wsX5_requirePerson) := goodIn_app (goodIn_of _ (by decide +kernel)) ggX5_patience_X5_requirePerson
set_option maxRecDepth 20000 in
theorem ggX5_patience_X3_at : GoodIn wsX5_patience wsX3_at := goodIn_r _ [19, 20, 21, 22, 52, 53, 54, 55] (by decide +kernel) (by decide +kernel)
set_option maxRecDepth 20000 in
theorem gX5_patience_X3_at : GoodIn wsX5_patience (wsV RX5 86 RX3 yX3_at wsX3_at) := goodIn_app (goodIn_of _ (by decide +kernel)) ggX5_patience_X3_at
set_option maxRecDepth 20000 in
theorem ggX5_patience_X2_greatestThreshold : GoodIn wsX5_patience wsX2_greatestThreshold := goodIn_r _ [27, 28, 29, 30, 31, 32, 33, 34, 35, 18, 36, 20, 37, 16, 17, 19, 21, 22, 43, 44, 45, 46, 47, 48, 49, 50, 51, 52, 53, 54, 55] (by decide +kernel) (by decide +kernel)
set_option maxRecDepth 20000 in
theorem gX5_patience_X2_greatestThreshold : GoodIn wsX5_patience (wsV RX5 183 RX2 yX2_greatestThreshold wsX2_greatestThreshold) := goodIn_app (goodIn_of _ (by decide +kernel)) ggX5_patience_X2_greatestThreshold
theorem dX5_patience_0 : decode cX5_patience 0 = .ok (.iload_n 1, 1) := by decide +kernel
theorem dX5_patience_1 : decode cX5_patience 1 = .ok (.invokestatic 40, 3) := by decide +kernel
theorem dX5_patience_4 : decode cX5_patience 4 = .ok (.aload_n 0, 1) := by decide +kernel
theorem dX5_patience_5 : decode cX5_patience 5 = .ok (.getfield 10, 3) := by decide +kernel
theorem dX5_patience_8 : decode cX5_patience 8 = .ok (.getfield 83, 3) := by decide +kernel
theorem dX5_patience_11 : decode cX5_patience 11 = .ok (.iload_n 1, 1) := by decide +kernel
theorem dX5_patience_12 : decode cX5_patience 12 = .ok (.iconst 0, 1) := by decide +kernel
theorem dX5_patience_13 : decode cX5_patience 13 = .ok (.invokevirtual 86, 3) := by decide +kernel
theorem dX5_patience_16 : decode cX5_patience 16 = .ok (.aload_n 0, 1) := by decide +kernel
theorem dX5_patience_17 : decode cX5_patience 17 = .ok (.getfield 10, 3) := by decide +kernel
theorem dX5_patience_20 : decode cX5_patience 20 = .ok (.iload_n 1, 1) := by decide +kernel
theorem dX5_patience_21 : decode cX5_patience 21 = .ok (.invokevirtual 183, 3) := by decide +kernel
theorem dX5_patience_24 : decode cX5_patience 24 = .ok (.isub, 1) := by decide +kernel
theorem dX5_patience_25 : decode cX5_patience 25 = .ok (.ireturn, 1) := by decide +kernel
set_option maxRecDepth 20000 in
theorem ggX5_meanChain_X3_rows : GoodIn wsX5_meanChain wsX3_rows := goodIn_r _ [8, 9, 61, 62, 63, 64] (by decide +kernel) (by decide +kernel)
set_option maxRecDepth 20000 in
theorem gX5_meanChain_X3_rows : GoodIn wsX5_meanChain (wsV RX5 165 RX3 yX3_rows wsX3_rows) := goodIn_app (goodIn_of _ (by decide +kernel)) ggX5_meanChain_X3_rows
set_option maxRecDepth 20000 in
theorem ggX5_meanChain_X0_measure : GoodIn wsX5_meanChain wsX0_measure := goodIn_r _ [14, 15, 16, 17, 18, 19, 20, 7, 21, 9, 22, 23, 24, 25, 26, 27, 28, 5, 6, 8, 29, 30, 31, 13, 32, 33, 34, 35, 36, 37, 38, 39, 40, 41, 42, 43, 44, 45, 65, 52, 53, 54, 55, 56, 57, 58, 59, 60, 61, 62, 63, 64] (by decide +kernel) (by decide +kernel)
set_option maxRecDepth 20000 in
theorem gX5_meanChain_X0_measure : GoodIn wsX5_meanChain (wsV RX5 135 RX0 yX0_measure wsX0_measure) := goodIn_app (goodIn_of _ (by decide +kernel)) ggX5_meanChain_X0_measure
set_option maxRecDepth 20000 in
theorem ggX5_meanChain_X0_stepsTo : GoodIn wsX5_meanChain wsX0_stepsTo := goodIn_r _ [32, 15, 18, 19, 20, 7, 21, 9, 22, 23, 65, 61, 62, 63, 64] (by decide +kernel) (by decide +kernel)
set_option maxRecDepth 20000 in
theorem gX5_meanChain_X0_stepsTo : GoodIn wsX5_meanChain (wsV RX5 139 RX0 yX0_stepsTo wsX0_stepsTo) := goodIn_app (goodIn_of _ (by decide +kernel)) ggX5_meanChain_X0_stepsTo
theorem dX5_meanChain_0 : decode cX5_meanChain 0 = .ok (.iconst 0, 1) := by decide +kernel
theorem dX5_meanChain_1 : decode cX5_meanChain 1 = .ok (.istore_n 1, 1) := by decide +kernel
theorem dX5_meanChain_2 : decode cX5_meanChain 2 = .ok (.iconst 0, 1) := by decide +kernel
theorem dX5_meanChain_3 : decode cX5_meanChain 3 = .ok (.istore_n 2, 1) := by decide +kernel
theorem dX5_meanChain_4 : decode cX5_meanChain 4 = .ok (.iconst 0, 1) := by decide +kernel
theorem dX5_meanChain_5 : decode cX5_meanChain 5 = .ok (.istore_n 3, 1) := by decide +kernel
theorem dX5_meanChain_6 : decode cX5_meanChain 6 = .ok (.iload_n 3, 1) := by decide +kernel
theorem dX5_meanChain_7 : decode cX5_meanChain 7 = .ok (.aload_n 0, 1) := by decide +kernel
theorem dX5_meanChain_8 : decode cX5_meanChain 8 = .ok (.getfield 10, 3) := by decide +kernel
theorem dX5_meanChain_11 : decode cX5_meanChain 11 = .ok (.getfield 47, 3) := by decide +kernel
theorem dX5_meanChain_14 : decode cX5_meanChain 14 = .ok (.invokevirtual 165, 3) := by decide +kernel
theorem dX5_meanChain_17 : decode cX5_meanChain 17 = .ok (.if_icmp .ge 62, 3) := by decide +kernel
theorem dX5_meanChain_20 : decode cX5_meanChain 20 = .ok (.aload_n 0, 1) := by decide +kernel
theorem dX5_meanChain_21 : decode cX5_meanChain 21 = .ok (.getfield 29, 3) := by decide +kernel
theorem dX5_meanChain_24 : decode cX5_meanChain 24 = .ok (.aload_n 0, 1) := by decide +kernel
theorem dX5_meanChain_25 : decode cX5_meanChain 25 = .ok (.getfield 10, 3) := by decide +kernel
theorem dX5_meanChain_28 : decode cX5_meanChain 28 = .ok (.iload_n 3, 1) := by decide +kernel
theorem dX5_meanChain_29 : decode cX5_meanChain 29 = .ok (.invokevirtual 135, 3) := by decide +kernel
theorem dX5_meanChain_32 : decode cX5_meanChain 32 = .ok (.iconst 0, 1) := by decide +kernel
theorem dX5_meanChain_33 : decode cX5_meanChain 33 = .ok (.istore 4, 2) := by decide +kernel
theorem dX5_meanChain_35 : decode cX5_meanChain 35 = .ok (.iload 4, 2) := by decide +kernel
theorem dX5_meanChain_37 : decode cX5_meanChain 37 = .ok (.bipush 10, 2) := by decide +kernel
theorem dX5_meanChain_39 : decode cX5_meanChain 39 = .ok (.if_icmp .ge 34, 3) := by decide +kernel
theorem dX5_meanChain_42 : decode cX5_meanChain 42 = .ok (.aload_n 0, 1) := by decide +kernel
theorem dX5_meanChain_43 : decode cX5_meanChain 43 = .ok (.getfield 29, 3) := by decide +kernel
theorem dX5_meanChain_46 : decode cX5_meanChain 46 = .ok (.iload 4, 2) := by decide +kernel
theorem dX5_meanChain_48 : decode cX5_meanChain 48 = .ok (.invokevirtual 139, 3) := by decide +kernel
theorem dX5_meanChain_51 : decode cX5_meanChain 51 = .ok (.istore 5, 2) := by decide +kernel
theorem dX5_meanChain_53 : decode cX5_meanChain 53 = .ok (.iload 5, 2) := by decide +kernel
theorem dX5_meanChain_55 : decode cX5_meanChain 55 = .ok (.iconst (-1), 1) := by decide +kernel
theorem dX5_meanChain_56 : decode cX5_meanChain 56 = .ok (.if_icmp .eq 11, 3) := by decide +kernel
theorem dX5_meanChain_59 : decode cX5_meanChain 59 = .ok (.iinc 1 1, 3) := by decide +kernel
theorem dX5_meanChain_62 : decode cX5_meanChain 62 = .ok (.iload_n 2, 1) := by decide +kernel
theorem dX5_meanChain_63 : decode cX5_meanChain 63 = .ok (.iload 5, 2) := by decide +kernel
theorem dX5_meanChain_65 : decode cX5_meanChain 65 = .ok (.iadd, 1) := by decide +kernel
theorem dX5_meanChain_66 : decode cX5_meanChain 66 = .ok (.istore_n 2, 1) := by decide +kernel
theorem dX5_meanChain_67 : decode cX5_meanChain 67 = .ok (.iinc 4 1, 3) := by decide +kernel
theorem dX5_meanChain_70 : decode cX5_meanChain 70 = .ok (.goto (-35), 3) := by decide +kernel
theorem dX5_meanChain_73 : decode cX5_meanChain 73 = .ok (.iinc 3 1, 3) := by decide +kernel
theorem dX5_meanChain_76 : decode cX5_meanChain 76 = .ok (.goto (-70), 3) := by decide +kernel
theorem dX5_meanChain_79 : decode cX5_meanChain 79 = .ok (.iload_n 1, 1) := by decide +kernel
theorem dX5_meanChain_80 : decode cX5_meanChain 80 = .ok (.ifCond .ne 7, 3) := by decide +kernel
theorem dX5_meanChain_83 : decode cX5_meanChain 83 = .ok (.dconst 0, 1) := by decide +kernel
theorem dX5_meanChain_84 : decode cX5_meanChain 84 = .ok (.goto 8, 3) := by decide +kernel
theorem dX5_meanChain_87 : decode cX5_meanChain 87 = .ok (.iload_n 2, 1) := by decide +kernel
theorem dX5_meanChain_88 : decode cX5_meanChain 88 = .ok (.i2d, 1) := by decide +kernel
theorem dX5_meanChain_89 : decode cX5_meanChain 89 = .ok (.iload_n 1, 1) := by decide +kernel
theorem dX5_meanChain_90 : decode cX5_meanChain 90 = .ok (.i2d, 1) := by decide +kernel
theorem dX5_meanChain_91 : decode cX5_meanChain 91 = .ok (.ddiv, 1) := by decide +kernel
theorem dX5_meanChain_92 : decode cX5_meanChain 92 = .ok (.dreturn, 1) := by decide +kernel
set_option maxRecDepth 20000 in
theorem ggX5_pairsLostBy_X2_takeOver : GoodIn wsX5_pairsLostBy wsX2_takeOver := goodIn_r _ [7, 8, 9, 10, 11, 12, 13, 14, 15, 16, 17, 18, 19, 20, 21, 22, 23, 24, 25, 101, 102, 103, 104, 105, 106, 107, 108, 109, 110, 111, 112, 113] (by decide +kernel) (by decide +kernel)
set_option maxRecDepth 20000 in
theorem gX5_pairsLostBy_X2_takeOver : GoodIn wsX5_pairsLostBy (wsV RX5 177 RX2 yX2_takeOver wsX2_takeOver) := goodIn_app (goodIn_of _ (by decide +kernel)) ggX5_pairsLostBy_X2_takeOver
set_option maxRecDepth 20000 in
theorem ggX5_pairsLostBy_X2_changeMood : GoodIn wsX5_pairsLostBy wsX2_changeMood := goodIn_r _ [29, 8, 30, 31, 32, 33, 34, 35, 36, 37, 38, 39, 20, 40, 22, 24, 25, 41, 42, 43, 44, 45, 46, 47, 6, 48, 10, 14, 49, 50, 51, 52, 53, 54, 55, 56, 57, 58, 59, 60, 11, 16, 61, 62, 63, 64, 23, 65, 66, 67, 68, 69, 70, 71, 72, 73, 74, 75, 76, 9, 12, 77, 78, 79, 80, 101, 102, 103, 104, 105, 106, 107, 108, 109, 110, 111, 112, 113] (by decide +kernel) (by decide +kernel)
set_option maxRecDepth 20000 in
theorem gX5_pairsLostBy_X2_changeMood : GoodIn wsX5_pairsLostBy (wsV RX5 111 RX2 yX2_changeMood wsX2_changeMood) := goodIn_app (goodIn_of _ (by decide +kernel)) ggX5_pairsLostBy_X2_changeMood
set_option maxRecDepth 20000 in
theorem ggX5_pairsLostBy_X2_countPairs : GoodIn wsX5_pairsLostBy wsX2_countPairs := goodIn_r _ [84, 9, 49, 50, 51, 20, 52, 22, 85, 86, 87, 6, 88, 12, 37, 38, 39, 40, 24, 25, 89, 90, 91, 92, 93, 94, 95, 101, 102, 103, 104, 105, 106, 107, 108, 109, 110, 111, 112, 113] (by decide +kernel) (by decide +kernel)
set_option maxRecDepth 20000 in
theorem gX5_pairsLostBy_X2_countPairs : GoodIn wsX5_pairsLostBy (wsV RX5 180 RX2 yX2_countPairs wsX2_countPairs) := goodIn_app (goodIn_of _ (by decide +kernel)) ggX5_pairsLostBy_X2_countPairs
theorem dX5_pairsLostBy_0 : decode cX5_pairsLostBy 0 = .ok (.aload_n 0, 1) := by decide +kernel
theorem dX5_pairsLostBy_1 : decode cX5_pairsLostBy 1 = .ok (.getfield 16, 3) := by decide +kernel
theorem dX5_pairsLostBy_4 : decode cX5_pairsLostBy 4 = .ok (.aload_n 0, 1) := by decide +kernel
theorem dX5_pairsLostBy_5 : decode cX5_pairsLostBy 5 = .ok (.getfield 10, 3) := by decide +kernel
theorem dX5_pairsLostBy_8 : decode cX5_pairsLostBy 8 = .ok (.invokevirtual 177, 3) := by decide +kernel
theorem dX5_pairsLostBy_11 : decode cX5_pairsLostBy 11 = .ok (.aload_n 0, 1) := by decide +kernel
theorem dX5_pairsLostBy_12 : decode cX5_pairsLostBy 12 = .ok (.getfield 16, 3) := by decide +kernel
theorem dX5_pairsLostBy_15 : decode cX5_pairsLostBy 15 = .ok (.iload_n 1, 1) := by decide +kernel
theorem dX5_pairsLostBy_16 : decode cX5_pairsLostBy 16 = .ok (.bipush (-100), 2) := by decide +kernel
theorem dX5_pairsLostBy_18 : decode cX5_pairsLostBy 18 = .ok (.invokevirtual 111, 3) := by decide +kernel
theorem dX5_pairsLostBy_21 : decode cX5_pairsLostBy 21 = .ok (.pop, 1) := by decide +kernel
theorem dX5_pairsLostBy_22 : decode cX5_pairsLostBy 22 = .ok (.aload_n 0, 1) := by decide +kernel
theorem dX5_pairsLostBy_23 : decode cX5_pairsLostBy 23 = .ok (.getfield 10, 3) := by decide +kernel
theorem dX5_pairsLostBy_26 : decode cX5_pairsLostBy 26 = .ok (.invokevirtual 180, 3) := by decide +kernel
theorem dX5_pairsLostBy_29 : decode cX5_pairsLostBy 29 = .ok (.aload_n 0, 1) := by decide +kernel
theorem dX5_pairsLostBy_30 : decode cX5_pairsLostBy 30 = .ok (.getfield 16, 3) := by decide +kernel
theorem dX5_pairsLostBy_33 : decode cX5_pairsLostBy 33 = .ok (.invokevirtual 180, 3) := by decide +kernel
theorem dX5_pairsLostBy_36 : decode cX5_pairsLostBy 36 = .ok (.isub, 1) := by decide +kernel
theorem dX5_pairsLostBy_37 : decode cX5_pairsLostBy 37 = .ok (.ireturn, 1) := by decide +kernel
theorem dX5_requireFit_0 : decode cX5_requireFit 0 = .ok (.iload_n 0, 1) := by decide +kernel
theorem dX5_requireFit_1 : decode cX5_requireFit 1 = .ok (.iconst 1, 1) := by decide +kernel
theorem dX5_requireFit_2 : decode cX5_requireFit 2 = .ok (.if_icmp .ne 13, 3) := by decide +kernel
theorem dX5_requireFit_5 : decode cX5_requireFit 5 = .ok (.new 142, 3) := by decide +kernel
theorem dX5_requireFit_8 : decode cX5_requireFit 8 = .ok (.dup, 1) := by decide +kernel
theorem dX5_requireFit_9 : decode cX5_requireFit 9 = .ok (.ldc 248, 2) := by decide +kernel
theorem dX5_requireFit_11 : decode cX5_requireFit 11 = .ok (.invokespecial 146, 3) := by decide +kernel
theorem dX5_requireFit_14 : decode cX5_requireFit 14 = .ok (.athrow, 1) := by decide +kernel
theorem dX5_requireFit_15 : decode cX5_requireFit 15 = .ok (.iload_n 0, 1) := by decide +kernel
theorem dX5_requireFit_16 : decode cX5_requireFit 16 = .ok (.iconst 2, 1) := by decide +kernel
theorem dX5_requireFit_17 : decode cX5_requireFit 17 = .ok (.if_icmp .ne 13, 3) := by decide +kernel
theorem dX5_requireFit_20 : decode cX5_requireFit 20 = .ok (.new 151, 3) := by decide +kernel
theorem dX5_requireFit_23 : decode cX5_requireFit 23 = .ok (.dup, 1) := by decide +kernel
theorem dX5_requireFit_24 : decode cX5_requireFit 24 = .ok (.ldc 250, 2) := by decide +kernel
theorem dX5_requireFit_26 : decode cX5_requireFit 26 = .ok (.invokespecial 155, 3) := by decide +kernel
theorem dX5_requireFit_29 : decode cX5_requireFit 29 = .ok (.athrow, 1) := by decide +kernel
theorem dX5_requireFit_30 : decode cX5_requireFit 30 = .ok (.return_, 1) := by decide +kernel
set_option maxRecDepth 20000 in
theorem ggX5_requireGrant_X2_placeOf : GoodIn wsX5_requireGrant wsX2_placeOf := goodIn_r _ [8, 9, 10, 11, 12, 13, 14, 15, 16, 17, 18, 19, 20, 21, 27, 28, 29, 30, 31, 32, 33, 34, 35, 36, 37, 38, 39] (by decide +kernel) (by decide +kernel)
set_option maxRecDepth 20000 in
theorem gX5_requireGrant_X2_placeOf : GoodIn wsX5_requireGrant (wsV RX5 245 RX2 yX2_placeOf wsX2_placeOf) := goodIn_app (goodIn_of _ (by decide +kernel)) ggX5_requireGrant_X2_placeOf
theorem dX5_requireGrant_0 : decode cX5_requireGrant 0 = .ok (.aload_n 0, 1) := by decide +kernel
theorem dX5_requireGrant_1 : decode cX5_requireGrant 1 = .ok (.getfield 10, 3) := by decide +kernel
theorem dX5_requireGrant_4 : decode cX5_requireGrant 4 = .ok (.iload_n 1, 1) := by decide +kernel
theorem dX5_requireGrant_5 : decode cX5_requireGrant 5 = .ok (.invokevirtual 245, 3) := by decide +kernel
theorem dX5_requireGrant_8 : decode cX5_requireGrant 8 = .ok (.istore_n 2, 1) := by decide +kernel
theorem dX5_requireGrant_9 : decode cX5_requireGrant 9 = .ok (.iload_n 2, 1) := by decide +kernel
theorem dX5_requireGrant_10 : decode cX5_requireGrant 10 = .ok (.iconst (-1), 1) := by decide +kernel
theorem dX5_requireGrant_11 : decode cX5_requireGrant 11 = .ok (.if_icmp .ne 13, 3) := by decide +kernel
theorem dX5_requireGrant_14 : decode cX5_requireGrant 14 = .ok (.new 252, 3) := by decide +kernel
theorem dX5_requireGrant_17 : decode cX5_requireGrant 17 = .ok (.dup, 1) := by decide +kernel
theorem dX5_requireGrant_18 : decode cX5_requireGrant 18 = .ok (.ldc 254, 2) := by decide +kernel
theorem dX5_requireGrant_20 : decode cX5_requireGrant 20 = .ok (.invokespecial 256, 3) := by decide +kernel
theorem dX5_requireGrant_23 : decode cX5_requireGrant 23 = .ok (.athrow, 1) := by decide +kernel
theorem dX5_requireGrant_24 : decode cX5_requireGrant 24 = .ok (.iload_n 2, 1) := by decide +kernel
theorem dX5_requireGrant_25 : decode cX5_requireGrant 25 = .ok (.ireturn, 1) := by decide +kernel
set_option maxRecDepth 20000 in
theorem ggX5_requireThing_X3_has : GoodIn wsX5_requireThing wsX3_has := goodIn_r _ [9, 10, 25, 26, 27, 28] (by decide +kernel) (by decide +kernel)
set_option maxRecDepth 20000 in
theorem gX5_requireThing_X3_has : GoodIn wsX5_requireThing (wsV RX5 257 RX3 yX3_has wsX3_has) := goodIn_app (goodIn_of _ (by decide +kernel)) ggX5_requireThing_X3_has
theorem dX5_requireThing_0 : decode cX5_requireThing 0 = .ok (.aload_n 0, 1) := by decide +kernel
theorem dX5_requireThing_1 : decode cX5_requireThing 1 = .ok (.getfield 10, 3) := by decide +kernel
theorem dX5_requireThing_4 : decode cX5_requireThing 4 = .ok (.getfield 47, 3) := by decide +kernel
theorem dX5_requireThing_7 : decode cX5_requireThing 7 = .ok (.iload_n 1, 1) := by decide +kernel
theorem dX5_requireThing_8 : decode cX5_requireThing 8 = .ok (.invokevirtual 257, 3) := by decide +kernel
theorem dX5_requireThing_11 : decode cX5_requireThing 11 = .ok (.ifCond .ne 14, 3) := by decide +kernel
theorem dX5_requireThing_14 : decode cX5_requireThing 14 = .ok (.new 142, 3) := by decide +kernel
theorem dX5_requireThing_17 : decode cX5_requireThing 17 = .ok (.dup, 1) := by decide +kernel
theorem dX5_requireThing_18 : decode cX5_requireThing 18 = .ok (.ldc_w 260, 3) := by decide +kernel
theorem dX5_requireThing_21 : decode cX5_requireThing 21 = .ok (.invokespecial 146, 3) := by decide +kernel
theorem dX5_requireThing_24 : decode cX5_requireThing 24 = .ok (.athrow, 1) := by decide +kernel
theorem dX5_requireThing_25 : decode cX5_requireThing 25 = .ok (.return_, 1) := by decide +kernel
set_option maxRecDepth 20000 in
theorem ggX5_requirePerson_X5_isPerson : GoodIn wsX5_requirePerson wsX5_isPerson := goodIn_r _ [6, 7, 8, 5, 9] (by decide +kernel) (by decide +kernel)
set_option maxRecDepth 20000 in
theorem gX5_requirePerson_X5_isPerson : GoodIn wsX5_requirePerson (va_wsS RX5 262 yX5_isPerson wsX5_isPerson) := goodIn_app (goodIn_of _ (by decide +kernel)) ggX5_requirePerson_X5_isPerson
theorem dX5_requirePerson_0 : decode cX5_requirePerson 0 = .ok (.iload_n 0, 1) := by decide +kernel
theorem dX5_requirePerson_1 : decode cX5_requirePerson 1 = .ok (.invokestatic 262, 3) := by decide +kernel
theorem dX5_requirePerson_4 : decode cX5_requirePerson 4 = .ok (.ifCond .ne 14, 3) := by decide +kernel
theorem dX5_requirePerson_7 : decode cX5_requirePerson 7 = .ok (.new 142, 3) := by decide +kernel
theorem dX5_requirePerson_10 : decode cX5_requirePerson 10 = .ok (.dup, 1) := by decide +kernel
theorem dX5_requirePerson_11 : decode cX5_requirePerson 11 = .ok (.ldc_w 265, 3) := by decide +kernel
theorem dX5_requirePerson_14 : decode cX5_requirePerson 14 = .ok (.invokespecial 146, 3) := by decide +kernel
theorem dX5_requirePerson_17 : decode cX5_requirePerson 17 = .ok (.athrow, 1) := by decide +kernel
theorem dX5_requirePerson_18 : decode cX5_requirePerson 18 = .ok (.return_, 1) := by decide +kernel
set_option maxRecDepth 20000 in
theorem ggX5_requireMask_X5_requireRange : GoodIn wsX5_requireMask wsX5_requireRange := goodIn_ca (goodIn_r _ [4, 5, 6, 7, 8, 3, 9] (by decide +kernel) (by decide +kernel)) (goodIn_sub (fun _ h => List.mem_cons_of_mem _ (List.mem_append_right _ h)) (by decide +kernel))
set_option maxRecDepth 20000 in
theorem gX5_requireMask_X5_requireRange : GoodIn wsX5_requireMask (va_wsS RX5 79 yX5_requireRange wsX5_requireRange) := goodIn_app (goodIn_of _ (by decide +kernel)) ggX5_requireMask_X5_requireRange
theorem dX5_requireMask_0 : decode cX5_requireMask 0 = .ok (.iload_n 0, 1) := by decide +kernel
theorem dX5_requireMask_1 : decode cX5_requireMask 1 = .ok (.iconst 0, 1) := by decide +kernel
theorem dX5_requireMask_2 : decode cX5_requireMask 2 = .ok (.bipush 7, 2) := by decide +kernel
theorem dX5_requireMask_4 : decode cX5_requireMask 4 = .ok (.invokestatic 79, 3) := by decide +kernel
theorem dX5_requireMask_7 : decode cX5_requireMask 7 = .ok (.return_, 1) := by decide +kernel
set_option maxRecDepth 20000 in
theorem ggX5_requireRange_X5_isBetween : GoodIn wsX5_requireRange wsX5_isBetween := goodIn_r _ [6] (by decide +kernel) (by decide +kernel)
set_option maxRecDepth 20000 in
theorem gX5_requireRange_X5_isBetween : GoodIn wsX5_requireRange (va_wsS RX5 267 yX5_isBetween wsX5_isBetween) := goodIn_app (goodIn_of _ (by decide +kernel)) ggX5_requireRange_X5_isBetween
theorem dX5_requireRange_0 : decode cX5_requireRange 0 = .ok (.iload_n 0, 1) := by decide +kernel
theorem dX5_requireRange_1 : decode cX5_requireRange 1 = .ok (.iload_n 1, 1) := by decide +kernel
theorem dX5_requireRange_2 : decode cX5_requireRange 2 = .ok (.iload_n 2, 1) := by decide +kernel
theorem dX5_requireRange_3 : decode cX5_requireRange 3 = .ok (.invokestatic 267, 3) := by decide +kernel
theorem dX5_requireRange_6 : decode cX5_requireRange 6 = .ok (.ifCond .ne 14, 3) := by decide +kernel
theorem dX5_requireRange_9 : decode cX5_requireRange 9 = .ok (.new 151, 3) := by decide +kernel
theorem dX5_requireRange_12 : decode cX5_requireRange 12 = .ok (.dup, 1) := by decide +kernel
theorem dX5_requireRange_13 : decode cX5_requireRange 13 = .ok (.ldc_w 271, 3) := by decide +kernel
theorem dX5_requireRange_16 : decode cX5_requireRange 16 = .ok (.invokespecial 155, 3) := by decide +kernel
theorem dX5_requireRange_19 : decode cX5_requireRange 19 = .ok (.athrow, 1) := by decide +kernel
theorem dX5_requireRange_20 : decode cX5_requireRange 20 = .ok (.return_, 1) := by decide +kernel
set_option maxRecDepth 20000 in
theorem ggX5_isPerson_X5_isBetween : GoodIn wsX5_isPerson wsX5_isBetween := goodIn_r _ [4] (by decide +kernel) (by decide +kernel)
set_option maxRecDepth 20000 in
theorem gX5_isPerson_X5_isBetween : GoodIn wsX5_isPerson (va_wsS RX5 267 yX5_isBetween wsX5_isBetween) := goodIn_app (goodIn_of _ (by decide +kernel)) ggX5_isPerson_X5_isBetween
theorem dX5_isPerson_0 : decode cX5_isPerson 0 = .ok (.iload_n 0, 1) := by decide +kernel
theorem dX5_isPerson_1 : decode cX5_isPerson 1 = .ok (.iconst 0, 1) := by decide +kernel
theorem dX5_isPerson_2 : decode cX5_isPerson 2 = .ok (.bipush 9, 2) := by decide +kernel
theorem dX5_isPerson_4 : decode cX5_isPerson 4 = .ok (.invokestatic 267, 3) := by decide +kernel
theorem dX5_isPerson_7 : decode cX5_isPerson 7 = .ok (.ireturn, 1) := by decide +kernel
theorem dX5_isBetween_0 : decode cX5_isBetween 0 = .ok (.iload_n 0, 1) := by decide +kernel
theorem dX5_isBetween_1 : decode cX5_isBetween 1 = .ok (.iload_n 1, 1) := by decide +kernel
theorem dX5_isBetween_2 : decode cX5_isBetween 2 = .ok (.if_icmp .lt 12, 3) := by decide +kernel
theorem dX5_isBetween_5 : decode cX5_isBetween 5 = .ok (.iload_n 0, 1) := by decide +kernel
theorem dX5_isBetween_6 : decode cX5_isBetween 6 = .ok (.iload_n 2, 1) := by decide +kernel
theorem dX5_isBetween_7 : decode cX5_isBetween 7 = .ok (.if_icmp .gt 7, 3) := by decide +kernel
theorem dX5_isBetween_10 : decode cX5_isBetween 10 = .ok (.iconst 1, 1) := by decide +kernel
theorem dX5_isBetween_11 : decode cX5_isBetween 11 = .ok (.goto 4, 3) := by decide +kernel
theorem dX5_isBetween_14 : decode cX5_isBetween 14 = .ok (.iconst 0, 1) := by decide +kernel
theorem dX5_isBetween_15 : decode cX5_isBetween 15 = .ok (.ireturn, 1) := by decide +kernel
theorem dJ6_bitCount_0f7a4_0 : decode cJ6_bitCount_0f7a4 0 = .ok (.iload_n 0, 1) := by decide +kernel
theorem dJ6_bitCount_0f7a4_1 : decode cJ6_bitCount_0f7a4 1 = .ok (.iload_n 0, 1) := by decide +kernel
theorem dJ6_bitCount_0f7a4_2 : decode cJ6_bitCount_0f7a4 2 = .ok (.iconst 1, 1) := by decide +kernel
theorem dJ6_bitCount_0f7a4_3 : decode cJ6_bitCount_0f7a4 3 = .ok (.iushr, 1) := by decide +kernel
theorem dJ6_bitCount_0f7a4_4 : decode cJ6_bitCount_0f7a4 4 = .ok (.ldc_w 265, 3) := by decide +kernel
theorem dJ6_bitCount_0f7a4_7 : decode cJ6_bitCount_0f7a4 7 = .ok (.iand, 1) := by decide +kernel
theorem dJ6_bitCount_0f7a4_8 : decode cJ6_bitCount_0f7a4 8 = .ok (.isub, 1) := by decide +kernel
theorem dJ6_bitCount_0f7a4_9 : decode cJ6_bitCount_0f7a4 9 = .ok (.istore_n 0, 1) := by decide +kernel
theorem dJ6_bitCount_0f7a4_10 : decode cJ6_bitCount_0f7a4 10 = .ok (.iload_n 0, 1) := by decide +kernel
theorem dJ6_bitCount_0f7a4_11 : decode cJ6_bitCount_0f7a4 11 = .ok (.ldc_w 266, 3) := by decide +kernel
theorem dJ6_bitCount_0f7a4_14 : decode cJ6_bitCount_0f7a4 14 = .ok (.iand, 1) := by decide +kernel
theorem dJ6_bitCount_0f7a4_15 : decode cJ6_bitCount_0f7a4 15 = .ok (.iload_n 0, 1) := by decide +kernel
theorem dJ6_bitCount_0f7a4_16 : decode cJ6_bitCount_0f7a4 16 = .ok (.iconst 2, 1) := by decide +kernel
theorem dJ6_bitCount_0f7a4_17 : decode cJ6_bitCount_0f7a4 17 = .ok (.iushr, 1) := by decide +kernel
theorem dJ6_bitCount_0f7a4_18 : decode cJ6_bitCount_0f7a4 18 = .ok (.ldc_w 266, 3) := by decide +kernel
theorem dJ6_bitCount_0f7a4_21 : decode cJ6_bitCount_0f7a4 21 = .ok (.iand, 1) := by decide +kernel
theorem dJ6_bitCount_0f7a4_22 : decode cJ6_bitCount_0f7a4 22 = .ok (.iadd, 1) := by decide +kernel
theorem dJ6_bitCount_0f7a4_23 : decode cJ6_bitCount_0f7a4 23 = .ok (.istore_n 0, 1) := by decide +kernel
theorem dJ6_bitCount_0f7a4_24 : decode cJ6_bitCount_0f7a4 24 = .ok (.iload_n 0, 1) := by decide +kernel
theorem dJ6_bitCount_0f7a4_25 : decode cJ6_bitCount_0f7a4 25 = .ok (.iload_n 0, 1) := by decide +kernel
theorem dJ6_bitCount_0f7a4_26 : decode cJ6_bitCount_0f7a4 26 = .ok (.iconst 4, 1) := by decide +kernel
theorem dJ6_bitCount_0f7a4_27 : decode cJ6_bitCount_0f7a4 27 = .ok (.iushr, 1) := by decide +kernel
theorem dJ6_bitCount_0f7a4_28 : decode cJ6_bitCount_0f7a4 28 = .ok (.iadd, 1) := by decide +kernel
theorem dJ6_bitCount_0f7a4_29 : decode cJ6_bitCount_0f7a4 29 = .ok (.ldc_w 267, 3) := by decide +kernel
theorem dJ6_bitCount_0f7a4_32 : decode cJ6_bitCount_0f7a4 32 = .ok (.iand, 1) := by decide +kernel
theorem dJ6_bitCount_0f7a4_33 : decode cJ6_bitCount_0f7a4 33 = .ok (.istore_n 0, 1) := by decide +kernel
theorem dJ6_bitCount_0f7a4_34 : decode cJ6_bitCount_0f7a4 34 = .ok (.iload_n 0, 1) := by decide +kernel
theorem dJ6_bitCount_0f7a4_35 : decode cJ6_bitCount_0f7a4 35 = .ok (.iload_n 0, 1) := by decide +kernel
theorem dJ6_bitCount_0f7a4_36 : decode cJ6_bitCount_0f7a4 36 = .ok (.bipush 8, 2) := by decide +kernel
theorem dJ6_bitCount_0f7a4_38 : decode cJ6_bitCount_0f7a4 38 = .ok (.iushr, 1) := by decide +kernel
theorem dJ6_bitCount_0f7a4_39 : decode cJ6_bitCount_0f7a4 39 = .ok (.iadd, 1) := by decide +kernel
theorem dJ6_bitCount_0f7a4_40 : decode cJ6_bitCount_0f7a4 40 = .ok (.istore_n 0, 1) := by decide +kernel
theorem dJ6_bitCount_0f7a4_41 : decode cJ6_bitCount_0f7a4 41 = .ok (.iload_n 0, 1) := by decide +kernel
theorem dJ6_bitCount_0f7a4_42 : decode cJ6_bitCount_0f7a4 42 = .ok (.iload_n 0, 1) := by decide +kernel
theorem dJ6_bitCount_0f7a4_43 : decode cJ6_bitCount_0f7a4 43 = .ok (.bipush 16, 2) := by decide +kernel
theorem dJ6_bitCount_0f7a4_45 : decode cJ6_bitCount_0f7a4 45 = .ok (.iushr, 1) := by decide +kernel
theorem dJ6_bitCount_0f7a4_46 : decode cJ6_bitCount_0f7a4 46 = .ok (.iadd, 1) := by decide +kernel
theorem dJ6_bitCount_0f7a4_47 : decode cJ6_bitCount_0f7a4 47 = .ok (.istore_n 0, 1) := by decide +kernel
theorem dJ6_bitCount_0f7a4_48 : decode cJ6_bitCount_0f7a4 48 = .ok (.iload_n 0, 1) := by decide +kernel
theorem dJ6_bitCount_0f7a4_49 : decode cJ6_bitCount_0f7a4 49 = .ok (.bipush 63, 2) := by decide +kernel
theorem dJ6_bitCount_0f7a4_51 : decode cJ6_bitCount_0f7a4 51 = .ok (.iand, 1) := by decide +kernel
theorem dJ6_bitCount_0f7a4_52 : decode cJ6_bitCount_0f7a4 52 = .ok (.ireturn, 1) := by decide +kernel
theorem dJ9_max_7cf53_0 : decode cJ9_max_7cf53 0 = .ok (.iload_n 0, 1) := by decide +kernel
theorem dJ9_max_7cf53_1 : decode cJ9_max_7cf53 1 = .ok (.iload_n 1, 1) := by decide +kernel
theorem dJ9_max_7cf53_2 : decode cJ9_max_7cf53 2 = .ok (.if_icmp .lt 7, 3) := by decide +kernel
theorem dJ9_max_7cf53_5 : decode cJ9_max_7cf53 5 = .ok (.iload_n 0, 1) := by decide +kernel
theorem dJ9_max_7cf53_6 : decode cJ9_max_7cf53 6 = .ok (.goto 4, 3) := by decide +kernel
theorem dJ9_max_7cf53_9 : decode cJ9_max_7cf53 9 = .ok (.iload_n 1, 1) := by decide +kernel
theorem dJ9_max_7cf53_10 : decode cJ9_max_7cf53 10 = .ok (.ireturn, 1) := by decide +kernel
theorem dJ9_min_7cf53_0 : decode cJ9_min_7cf53 0 = .ok (.iload_n 0, 1) := by decide +kernel
theorem dJ9_min_7cf53_1 : decode cJ9_min_7cf53 1 = .ok (.iload_n 1, 1) := by decide +kernel
theorem dJ9_min_7cf53_2 : decode cJ9_min_7cf53 2 = .ok (.if_icmp .gt 7, 3) := by decide +kernel
theorem dJ9_min_7cf53_5 : decode cJ9_min_7cf53 5 = .ok (.iload_n 0, 1) := by decide +kernel
theorem dJ9_min_7cf53_6 : decode cJ9_min_7cf53 6 = .ok (.goto 4, 3) := by decide +kernel
theorem dJ9_min_7cf53_9 : decode cJ9_min_7cf53 9 = .ok (.iload_n 1, 1) := by decide +kernel
theorem dJ9_min_7cf53_10 : decode cJ9_min_7cf53 10 = .ok (.ireturn, 1) := by decide +kernel
