set_option maxRecDepth 20000 in
theorem ggX2_enter_X3_put : GoodIn wsX2_enter wsX3_put := goodIn_r _ [28, 9, 15, 16, 38, 39, 40, 41] (by decide +kernel) (by decide +kernel)
set_option maxRecDepth 20000 in
theorem gX2_enter_X3_put : GoodIn wsX2_enter (wsV RX2 36 RX3 yX3_put wsX3_put) := goodIn_app (goodIn_of _ (by decide +kernel)) ggX2_enter_X3_put
theorem dX2_enter_0 : decode cX2_enter 0 = .ok (.aload_n 0, 1) := by decide +kernel
theorem dX2_enter_1 : decode cX2_enter 1 = .ok (.getfield 26, 3) := by decide +kernel
theorem dX2_enter_4 : decode cX2_enter 4 = .ok (.invokevirtual 78, 3) := by decide +kernel
theorem dX2_enter_7 : decode cX2_enter 7 = .ok (.ifCond .eq 11, 3) := by decide +kernel
theorem dX2_enter_10 : decode cX2_enter 10 = .ok (.aload_n 0, 1) := by decide +kernel
theorem dX2_enter_11 : decode cX2_enter 11 = .ok (.getfield 26, 3) := by decide +kernel
theorem dX2_enter_14 : decode cX2_enter 14 = .ok (.iconst 0, 1) := by decide +kernel
theorem dX2_enter_15 : decode cX2_enter 15 = .ok (.invokevirtual 85, 3) := by decide +kernel
theorem dX2_enter_18 : decode cX2_enter 18 = .ok (.aload_n 0, 1) := by decide +kernel
theorem dX2_enter_19 : decode cX2_enter 19 = .ok (.getfield 26, 3) := by decide +kernel
theorem dX2_enter_22 : decode cX2_enter 22 = .ok (.invokevirtual 32, 3) := by decide +kernel
theorem dX2_enter_25 : decode cX2_enter 25 = .ok (.istore_n 2, 1) := by decide +kernel
theorem dX2_enter_26 : decode cX2_enter 26 = .ok (.aload_n 0, 1) := by decide +kernel
theorem dX2_enter_27 : decode cX2_enter 27 = .ok (.getfield 26, 3) := by decide +kernel
theorem dX2_enter_30 : decode cX2_enter 30 = .ok (.iload_n 2, 1) := by decide +kernel
theorem dX2_enter_31 : decode cX2_enter 31 = .ok (.iconst 0, 1) := by decide +kernel
theorem dX2_enter_32 : decode cX2_enter 32 = .ok (.aload_n 0, 1) := by decide +kernel
theorem dX2_enter_33 : decode cX2_enter 33 = .ok (.getfield 23, 3) := by decide +kernel
theorem dX2_enter_36 : decode cX2_enter 36 = .ok (.iload_n 1, 1) := by decide +kernel
theorem dX2_enter_37 : decode cX2_enter 37 = .ok (.iconst 5, 1) := by decide +kernel
theorem dX2_enter_38 : decode cX2_enter 38 = .ok (.invokevirtual 60, 3) := by decide +kernel
theorem dX2_enter_41 : decode cX2_enter 41 = .ok (.invokevirtual 36, 3) := by decide +kernel
theorem dX2_enter_44 : decode cX2_enter 44 = .ok (.aload_n 0, 1) := by decide +kernel
theorem dX2_enter_45 : decode cX2_enter 45 = .ok (.getfield 26, 3) := by decide +kernel
theorem dX2_enter_48 : decode cX2_enter 48 = .ok (.iload_n 2, 1) := by decide +kernel
theorem dX2_enter_49 : decode cX2_enter 49 = .ok (.iconst 1, 1) := by decide +kernel
theorem dX2_enter_50 : decode cX2_enter 50 = .ok (.aload_n 0, 1) := by decide +kernel
theorem dX2_enter_51 : decode cX2_enter 51 = .ok (.getfield 54, 3) := by decide +kernel
theorem dX2_enter_54 : decode cX2_enter 54 = .ok (.invokevirtual 36, 3) := by decide +kernel
theorem dX2_enter_57 : decode cX2_enter 57 = .ok (.aload_n 0, 1) := by decide +kernel
theorem dX2_enter_58 : decode cX2_enter 58 = .ok (.getfield 26, 3) := by decide +kernel
theorem dX2_enter_61 : decode cX2_enter 61 = .ok (.iload_n 2, 1) := by decide +kernel
theorem dX2_enter_62 : decode cX2_enter 62 = .ok (.iconst 2, 1) := by decide +kernel
theorem dX2_enter_63 : decode cX2_enter 63 = .ok (.aload_n 0, 1) := by decide +kernel
theorem dX2_enter_64 : decode cX2_enter 64 = .ok (.getfield 23, 3) := by decide +kernel
theorem dX2_enter_67 : decode cX2_enter 67 = .ok (.iload_n 1, 1) := by decide +kernel
theorem dX2_enter_68 : decode cX2_enter 68 = .ok (.iconst 0, 1) := by decide +kernel
theorem dX2_enter_69 : decode cX2_enter 69 = .ok (.invokevirtual 60, 3) := by decide +kernel
theorem dX2_enter_72 : decode cX2_enter 72 = .ok (.invokevirtual 36, 3) := by decide +kernel
theorem dX2_enter_75 : decode cX2_enter 75 = .ok (.return_, 1) := by decide +kernel
set_option maxRecDepth 20000 in
theorem ggX2_thingsSeenBy_X3_rows : GoodIn wsX2_thingsSeenBy wsX3_rows := goodIn_r _ [7, 8, 24, 25, 26, 27] (by decide +kernel) (by decide +kernel)
set_option maxRecDepth 20000 in
theorem gX2_thingsSeenBy_X3_rows : GoodIn wsX2_thingsSeenBy (wsV RX2 104 RX3 yX3_rows wsX3_rows) := goodIn_app (goodIn_of _ (by decide +kernel)) ggX2_thingsSeenBy_X3_rows
set_option maxRecDepth 20000 in
theorem ggX2_thingsSeenBy_X3_at : GoodIn wsX2_thingsSeenBy wsX3_at := goodIn_r _ [12, 8, 13, 14, 24, 25, 26, 27] (by decide +kernel) (by decide +kernel)
set_option maxRecDepth 20000 in
theorem gX2_thingsSeenBy_X3_at : GoodIn wsX2_thingsSeenBy (wsV RX2 60 RX3 yX3_at wsX3_at) := goodIn_app (goodIn_of _ (by decide +kernel)) ggX2_thingsSeenBy_X3_at
theorem dX2_thingsSeenBy_0 : decode cX2_thingsSeenBy 0 = .ok (.iconst 0, 1) := by decide +kernel
theorem dX2_thingsSeenBy_1 : decode cX2_thingsSeenBy 1 = .ok (.istore_n 2, 1) := by decide +kernel
theorem dX2_thingsSeenBy_2 : decode cX2_thingsSeenBy 2 = .ok (.iconst 0, 1) := by decide +kernel
theorem dX2_thingsSeenBy_3 : decode cX2_thingsSeenBy 3 = .ok (.istore_n 3, 1) := by decide +kernel
theorem dX2_thingsSeenBy_4 : decode cX2_thingsSeenBy 4 = .ok (.iload_n 3, 1) := by decide +kernel
theorem dX2_thingsSeenBy_5 : decode cX2_thingsSeenBy 5 = .ok (.aload_n 0, 1) := by decide +kernel
theorem dX2_thingsSeenBy_6 : decode cX2_thingsSeenBy 6 = .ok (.getfield 20, 3) := by decide +kernel
theorem dX2_thingsSeenBy_9 : decode cX2_thingsSeenBy 9 = .ok (.invokevirtual 104, 3) := by decide +kernel
theorem dX2_thingsSeenBy_12 : decode cX2_thingsSeenBy 12 = .ok (.if_icmp .ge 29, 3) := by decide +kernel
theorem dX2_thingsSeenBy_15 : decode cX2_thingsSeenBy 15 = .ok (.aload_n 0, 1) := by decide +kernel
theorem dX2_thingsSeenBy_16 : decode cX2_thingsSeenBy 16 = .ok (.getfield 29, 3) := by decide +kernel
theorem dX2_thingsSeenBy_19 : decode cX2_thingsSeenBy 19 = .ok (.iload_n 3, 1) := by decide +kernel
theorem dX2_thingsSeenBy_20 : decode cX2_thingsSeenBy 20 = .ok (.iload_n 1, 1) := by decide +kernel
theorem dX2_thingsSeenBy_21 : decode cX2_thingsSeenBy 21 = .ok (.invokevirtual 60, 3) := by decide +kernel
theorem dX2_thingsSeenBy_24 : decode cX2_thingsSeenBy 24 = .ok (.iconst 1, 1) := by decide +kernel
theorem dX2_thingsSeenBy_25 : decode cX2_thingsSeenBy 25 = .ok (.iand, 1) := by decide +kernel
theorem dX2_thingsSeenBy_26 : decode cX2_thingsSeenBy 26 = .ok (.ifCond .eq 9, 3) := by decide +kernel
theorem dX2_thingsSeenBy_29 : decode cX2_thingsSeenBy 29 = .ok (.iload_n 2, 1) := by decide +kernel
theorem dX2_thingsSeenBy_30 : decode cX2_thingsSeenBy 30 = .ok (.iconst 1, 1) := by decide +kernel
theorem dX2_thingsSeenBy_31 : decode cX2_thingsSeenBy 31 = .ok (.iload_n 3, 1) := by decide +kernel
theorem dX2_thingsSeenBy_32 : decode cX2_thingsSeenBy 32 = .ok (.ishl, 1) := by decide +kernel
theorem dX2_thingsSeenBy_33 : decode cX2_thingsSeenBy 33 = .ok (.ior, 1) := by decide +kernel
theorem dX2_thingsSeenBy_34 : decode cX2_thingsSeenBy 34 = .ok (.istore_n 2, 1) := by decide +kernel
theorem dX2_thingsSeenBy_35 : decode cX2_thingsSeenBy 35 = .ok (.iinc 3 1, 3) := by decide +kernel
theorem dX2_thingsSeenBy_38 : decode cX2_thingsSeenBy 38 = .ok (.goto (-34), 3) := by decide +kernel
theorem dX2_thingsSeenBy_41 : decode cX2_thingsSeenBy 41 = .ok (.iload_n 2, 1) := by decide +kernel
theorem dX2_thingsSeenBy_42 : decode cX2_thingsSeenBy 42 = .ok (.ireturn, 1) := by decide +kernel
set_option maxRecDepth 20000 in
theorem ggX2_holdersOf_X3_at : GoodIn wsX2_holdersOf wsX3_at := goodIn_r _ [6, 7, 8, 9, 19, 20, 21, 22] (by decide +kernel) (by decide +kernel)
set_option maxRecDepth 20000 in
theorem gX2_holdersOf_X3_at : GoodIn wsX2_holdersOf (wsV RX2 60 RX3 yX3_at wsX3_at) := goodIn_app (goodIn_of _ (by decide +kernel)) ggX2_holdersOf_X3_at
theorem dX2_holdersOf_0 : decode cX2_holdersOf 0 = .ok (.iconst 0, 1) := by decide +kernel
theorem dX2_holdersOf_1 : decode cX2_holdersOf 1 = .ok (.istore_n 3, 1) := by decide +kernel
theorem dX2_holdersOf_2 : decode cX2_holdersOf 2 = .ok (.iconst 0, 1) := by decide +kernel
theorem dX2_holdersOf_3 : decode cX2_holdersOf 3 = .ok (.istore 4, 2) := by decide +kernel
theorem dX2_holdersOf_5 : decode cX2_holdersOf 5 = .ok (.iload 4, 2) := by decide +kernel
theorem dX2_holdersOf_7 : decode cX2_holdersOf 7 = .ok (.bipush 10, 2) := by decide +kernel
theorem dX2_holdersOf_9 : decode cX2_holdersOf 9 = .ok (.if_icmp .ge 31, 3) := by decide +kernel
theorem dX2_holdersOf_12 : decode cX2_holdersOf 12 = .ok (.aload_n 0, 1) := by decide +kernel
theorem dX2_holdersOf_13 : decode cX2_holdersOf 13 = .ok (.getfield 29, 3) := by decide +kernel
theorem dX2_holdersOf_16 : decode cX2_holdersOf 16 = .ok (.iload_n 1, 1) := by decide +kernel
theorem dX2_holdersOf_17 : decode cX2_holdersOf 17 = .ok (.iload 4, 2) := by decide +kernel
theorem dX2_holdersOf_19 : decode cX2_holdersOf 19 = .ok (.invokevirtual 60, 3) := by decide +kernel
theorem dX2_holdersOf_22 : decode cX2_holdersOf 22 = .ok (.iload_n 2, 1) := by decide +kernel
theorem dX2_holdersOf_23 : decode cX2_holdersOf 23 = .ok (.iand, 1) := by decide +kernel
theorem dX2_holdersOf_24 : decode cX2_holdersOf 24 = .ok (.ifCond .eq 10, 3) := by decide +kernel
theorem dX2_holdersOf_27 : decode cX2_holdersOf 27 = .ok (.iload_n 3, 1) := by decide +kernel
theorem dX2_holdersOf_28 : decode cX2_holdersOf 28 = .ok (.iconst 1, 1) := by decide +kernel
theorem dX2_holdersOf_29 : decode cX2_holdersOf 29 = .ok (.iload 4, 2) := by decide +kernel
theorem dX2_holdersOf_31 : decode cX2_holdersOf 31 = .ok (.ishl, 1) := by decide +kernel
theorem dX2_holdersOf_32 : decode cX2_holdersOf 32 = .ok (.ior, 1) := by decide +kernel
theorem dX2_holdersOf_33 : decode cX2_holdersOf 33 = .ok (.istore_n 3, 1) := by decide +kernel
theorem dX2_holdersOf_34 : decode cX2_holdersOf 34 = .ok (.iinc 4 1, 3) := by decide +kernel
theorem dX2_holdersOf_37 : decode cX2_holdersOf 37 = .ok (.goto (-32), 3) := by decide +kernel
theorem dX2_holdersOf_40 : decode cX2_holdersOf 40 = .ok (.iload_n 3, 1) := by decide +kernel
theorem dX2_holdersOf_41 : decode cX2_holdersOf 41 = .ok (.ireturn, 1) := by decide +kernel
set_option maxRecDepth 20000 in
theorem ggX2_countIdleGrants_X3_rows : GoodIn wsX2_countIdleGrants wsX3_rows := goodIn_r _ [6, 7, 30, 31, 32, 33] (by decide +kernel) (by decide +kernel)
set_option maxRecDepth 20000 in
theorem gX2_countIdleGrants_X3_rows : GoodIn wsX2_countIdleGrants (wsV RX2 104 RX3 yX3_rows wsX3_rows) := goodIn_app (goodIn_of _ (by decide +kernel)) ggX2_countIdleGrants_X3_rows
set_option maxRecDepth 20000 in
theorem ggX2_countIdleGrants_X2_passedOn : GoodIn wsX2_countIdleGrants wsX2_passedOn := goodIn_r _ [12, 1, 13, 14, 15, 16, 17, 5, 18, 7, 19, 20, 21, 22, 23, 24, 25, 26, 27, 28, 29, 30, 31, 32, 33] (by decide +kernel) (by decide +kernel)
set_option maxRecDepth 20000 in
theorem gX2_countIdleGrants_X2_passedOn : GoodIn wsX2_countIdleGrants (wsV RX2 123 RX2 yX2_passedOn wsX2_passedOn) := goodIn_app (goodIn_of _ (by decide +kernel)) ggX2_countIdleGrants_X2_passedOn
theorem dX2_countIdleGrants_0 : decode cX2_countIdleGrants 0 = .ok (.iconst 0, 1) := by decide +kernel
theorem dX2_countIdleGrants_1 : decode cX2_countIdleGrants 1 = .ok (.istore_n 1, 1) := by decide +kernel
theorem dX2_countIdleGrants_2 : decode cX2_countIdleGrants 2 = .ok (.iconst 0, 1) := by decide +kernel
theorem dX2_countIdleGrants_3 : decode cX2_countIdleGrants 3 = .ok (.istore_n 2, 1) := by decide +kernel
theorem dX2_countIdleGrants_4 : decode cX2_countIdleGrants 4 = .ok (.iload_n 2, 1) := by decide +kernel
theorem dX2_countIdleGrants_5 : decode cX2_countIdleGrants 5 = .ok (.aload_n 0, 1) := by decide +kernel
theorem dX2_countIdleGrants_6 : decode cX2_countIdleGrants 6 = .ok (.getfield 23, 3) := by decide +kernel
theorem dX2_countIdleGrants_9 : decode cX2_countIdleGrants 9 = .ok (.invokevirtual 104, 3) := by decide +kernel
theorem dX2_countIdleGrants_12 : decode cX2_countIdleGrants 12 = .ok (.if_icmp .ge 20, 3) := by decide +kernel
theorem dX2_countIdleGrants_15 : decode cX2_countIdleGrants 15 = .ok (.aload_n 0, 1) := by decide +kernel
theorem dX2_countIdleGrants_16 : decode cX2_countIdleGrants 16 = .ok (.iload_n 2, 1) := by decide +kernel
theorem dX2_countIdleGrants_17 : decode cX2_countIdleGrants 17 = .ok (.invokevirtual 123, 3) := by decide +kernel
theorem dX2_countIdleGrants_20 : decode cX2_countIdleGrants 20 = .ok (.ifCond .ne 6, 3) := by decide +kernel
theorem dX2_countIdleGrants_23 : decode cX2_countIdleGrants 23 = .ok (.iinc 1 1, 3) := by decide +kernel
theorem dX2_countIdleGrants_26 : decode cX2_countIdleGrants 26 = .ok (.iinc 2 1, 3) := by decide +kernel
theorem dX2_countIdleGrants_29 : decode cX2_countIdleGrants 29 = .ok (.goto (-25), 3) := by decide +kernel
theorem dX2_countIdleGrants_32 : decode cX2_countIdleGrants 32 = .ok (.iload_n 1, 1) := by decide +kernel
theorem dX2_countIdleGrants_33 : decode cX2_countIdleGrants 33 = .ok (.ireturn, 1) := by decide +kernel
set_option maxRecDepth 20000 in
theorem ggX2_countEqual_X3_rows : GoodIn wsX2_countEqual wsX3_rows := goodIn_r _ [5, 6, 13, 14, 15, 16] (by decide +kernel) (by decide +kernel)
set_option maxRecDepth 20000 in
theorem gX2_countEqual_X3_rows : GoodIn wsX2_countEqual (wsV RX2 104 RX3 yX3_rows wsX3_rows) := goodIn_app (goodIn_of _ (by decide +kernel)) ggX2_countEqual_X3_rows
set_option maxRecDepth 20000 in
theorem ggX2_countEqual_X3_at : GoodIn wsX2_countEqual wsX3_at := goodIn_r _ [10, 6, 11, 12, 13, 14, 15, 16] (by decide +kernel) (by decide +kernel)
set_option maxRecDepth 20000 in
theorem gX2_countEqual_X3_at : GoodIn wsX2_countEqual (wsV RX2 60 RX3 yX3_at wsX3_at) := goodIn_app (goodIn_of _ (by decide +kernel)) ggX2_countEqual_X3_at
theorem dX2_countEqual_0 : decode cX2_countEqual 0 = .ok (.iconst 0, 1) := by decide +kernel
theorem dX2_countEqual_1 : decode cX2_countEqual 1 = .ok (.istore_n 3, 1) := by decide +kernel
theorem dX2_countEqual_2 : decode cX2_countEqual 2 = .ok (.iconst 0, 1) := by decide +kernel
theorem dX2_countEqual_3 : decode cX2_countEqual 3 = .ok (.istore 4, 2) := by decide +kernel
theorem dX2_countEqual_5 : decode cX2_countEqual 5 = .ok (.iload 4, 2) := by decide +kernel
theorem dX2_countEqual_7 : decode cX2_countEqual 7 = .ok (.aload_n 0, 1) := by decide +kernel
theorem dX2_countEqual_8 : decode cX2_countEqual 8 = .ok (.invokevirtual 104, 3) := by decide +kernel
theorem dX2_countEqual_11 : decode cX2_countEqual 11 = .ok (.if_icmp .ge 23, 3) := by decide +kernel
theorem dX2_countEqual_14 : decode cX2_countEqual 14 = .ok (.aload_n 0, 1) := by decide +kernel
theorem dX2_countEqual_15 : decode cX2_countEqual 15 = .ok (.iload 4, 2) := by decide +kernel
theorem dX2_countEqual_17 : decode cX2_countEqual 17 = .ok (.iload_n 1, 1) := by decide +kernel
theorem dX2_countEqual_18 : decode cX2_countEqual 18 = .ok (.invokevirtual 60, 3) := by decide +kernel
theorem dX2_countEqual_21 : decode cX2_countEqual 21 = .ok (.iload_n 2, 1) := by decide +kernel
theorem dX2_countEqual_22 : decode cX2_countEqual 22 = .ok (.if_icmp .ne 6, 3) := by decide +kernel
theorem dX2_countEqual_25 : decode cX2_countEqual 25 = .ok (.iinc 3 1, 3) := by decide +kernel
theorem dX2_countEqual_28 : decode cX2_countEqual 28 = .ok (.iinc 4 1, 3) := by decide +kernel
theorem dX2_countEqual_31 : decode cX2_countEqual 31 = .ok (.goto (-26), 3) := by decide +kernel
theorem dX2_countEqual_34 : decode cX2_countEqual 34 = .ok (.iload_n 3, 1) := by decide +kernel
theorem dX2_countEqual_35 : decode cX2_countEqual 35 = .ok (.ireturn, 1) := by decide +kernel
theorem dX3_init_0 : decode cX3_init 0 = .ok (.aload_n 0, 1) := by decide +kernel
theorem dX3_init_1 : decode cX3_init 1 = .ok (.invokespecial 3, 3) := by decide +kernel
theorem dX3_init_4 : decode cX3_init 4 = .ok (.aload_n 0, 1) := by decide +kernel
theorem dX3_init_5 : decode cX3_init 5 = .ok (.iload_n 1, 1) := by decide +kernel
theorem dX3_init_6 : decode cX3_init 6 = .ok (.putfield 9, 3) := by decide +kernel
theorem dX3_init_9 : decode cX3_init 9 = .ok (.aload_n 0, 1) := by decide +kernel
theorem dX3_init_10 : decode cX3_init 10 = .ok (.iload_n 2, 1) := by decide +kernel
theorem dX3_init_11 : decode cX3_init 11 = .ok (.putfield 15, 3) := by decide +kernel
theorem dX3_init_14 : decode cX3_init 14 = .ok (.aload_n 0, 1) := by decide +kernel
theorem dX3_init_15 : decode cX3_init 15 = .ok (.iload_n 1, 1) := by decide +kernel
theorem dX3_init_16 : decode cX3_init 16 = .ok (.ifCond .le 13, 3) := by decide +kernel
theorem dX3_init_19 : decode cX3_init 19 = .ok (.iload_n 2, 1) := by decide +kernel
theorem dX3_init_20 : decode cX3_init 20 = .ok (.ifCond .le 9, 3) := by decide +kernel
theorem dX3_init_23 : decode cX3_init 23 = .ok (.iload_n 1, 1) := by decide +kernel
theorem dX3_init_24 : decode cX3_init 24 = .ok (.iload_n 2, 1) := by decide +kernel
theorem dX3_init_25 : decode cX3_init 25 = .ok (.imul, 1) := by decide +kernel
theorem dX3_init_26 : decode cX3_init 26 = .ok (.goto 4, 3) := by decide +kernel
theorem dX3_init_29 : decode cX3_init 29 = .ok (.iconst 0, 1) := by decide +kernel
theorem dX3_init_30 : decode cX3_init 30 = .ok (.newarray .int, 2) := by decide +kernel
theorem dX3_init_32 : decode cX3_init 32 = .ok (.putfield 18, 3) := by decide +kernel
theorem dX3_init_35 : decode cX3_init 35 = .ok (.return_, 1) := by decide +kernel
theorem dX3_rows_0 : decode cX3_rows 0 = .ok (.aload_n 0, 1) := by decide +kernel
theorem dX3_rows_1 : decode cX3_rows 1 = .ok (.getfield 22, 3) := by decide +kernel
theorem dX3_rows_4 : decode cX3_rows 4 = .ok (.ireturn, 1) := by decide +kernel
theorem dX3_has_0 : decode cX3_has 0 = .ok (.iload_n 1, 1) := by decide +kernel
theorem dX3_has_1 : decode cX3_has 1 = .ok (.ifCond .lt 15, 3) := by decide +kernel
theorem dX3_has_4 : decode cX3_has 4 = .ok (.iload_n 1, 1) := by decide +kernel
theorem dX3_has_5 : decode cX3_has 5 = .ok (.aload_n 0, 1) := by decide +kernel
theorem dX3_has_6 : decode cX3_has 6 = .ok (.getfield 22, 3) := by decide +kernel
theorem dX3_has_9 : decode cX3_has 9 = .ok (.if_icmp .ge 7, 3) := by decide +kernel
theorem dX3_has_12 : decode cX3_has 12 = .ok (.iconst 1, 1) := by decide +kernel
theorem dX3_has_13 : decode cX3_has 13 = .ok (.goto 4, 3) := by decide +kernel
theorem dX3_has_16 : decode cX3_has 16 = .ok (.iconst 0, 1) := by decide +kernel
theorem dX3_has_17 : decode cX3_has 17 = .ok (.ireturn, 1) := by decide +kernel
theorem dX3_isFull_0 : decode cX3_isFull 0 = .ok (.aload_n 0, 1) := by decide +kernel
theorem dX3_isFull_1 : decode cX3_isFull 1 = .ok (.getfield 22, 3) := by decide +kernel
theorem dX3_isFull_4 : decode cX3_isFull 4 = .ok (.aload_n 0, 1) := by decide +kernel
theorem dX3_isFull_5 : decode cX3_isFull 5 = .ok (.getfield 9, 3) := by decide +kernel
theorem dX3_isFull_8 : decode cX3_isFull 8 = .ok (.if_icmp .lt 7, 3) := by decide +kernel
theorem dX3_isFull_11 : decode cX3_isFull 11 = .ok (.iconst 1, 1) := by decide +kernel
theorem dX3_isFull_12 : decode cX3_isFull 12 = .ok (.goto 4, 3) := by decide +kernel
theorem dX3_isFull_15 : decode cX3_isFull 15 = .ok (.iconst 0, 1) := by decide +kernel
theorem dX3_isFull_16 : decode cX3_isFull 16 = .ok (.ireturn, 1) := by decide +kernel
theorem dX3_at_0 : decode cX3_at 0 = .ok (.iload_n 1, 1) := by decide +kernel
theorem dX3_at_1 : decode cX3_at 1 = .ok (.ifCond .lt 27, 3) := by decide +kernel
theorem dX3_at_4 : decode cX3_at 4 = .ok (.iload_n 1, 1) := by decide +kernel
theorem dX3_at_5 : decode cX3_at 5 = .ok (.aload_n 0, 1) := by decide +kernel
theorem dX3_at_6 : decode cX3_at 6 = .ok (.getfield 22, 3) := by decide +kernel
theorem dX3_at_9 : decode cX3_at 9 = .ok (.if_icmp .ge 19, 3) := by decide +kernel
theorem dX3_at_12 : decode cX3_at 12 = .ok (.iload_n 2, 1) := by decide +kernel
theorem dX3_at_13 : decode cX3_at 13 = .ok (.ifCond .lt 15, 3) := by decide +kernel
theorem dX3_at_16 : decode cX3_at 16 = .ok (.iload_n 2, 1) := by decide +kernel
theorem dX3_at_17 : decode cX3_at 17 = .ok (.aload_n 0, 1) := by decide +kernel
theorem dX3_at_18 : decode cX3_at 18 = .ok (.getfield 15, 3) := by decide +kernel
theorem dX3_at_21 : decode cX3_at 21 = .ok (.if_icmp .ge 7, 3) := by decide +kernel
theorem dX3_at_24 : decode cX3_at 24 = .ok (.iconst 1, 1) := by decide +kernel
theorem dX3_at_25 : decode cX3_at 25 = .ok (.goto 4, 3) := by decide +kernel
theorem dX3_at_28 : decode cX3_at 28 = .ok (.iconst 0, 1) := by decide +kernel
theorem dX3_at_29 : decode cX3_at 29 = .ok (.istore_n 3, 1) := by decide +kernel
theorem dX3_at_30 : decode cX3_at 30 = .ok (.iload_n 1, 1) := by decide +kernel
theorem dX3_at_31 : decode cX3_at 31 = .ok (.aload_n 0, 1) := by decide +kernel
theorem dX3_at_32 : decode cX3_at 32 = .ok (.getfield 15, 3) := by decide +kernel
theorem dX3_at_35 : decode cX3_at 35 = .ok (.imul, 1) := by decide +kernel
theorem dX3_at_36 : decode cX3_at 36 = .ok (.iload_n 2, 1) := by decide +kernel
theorem dX3_at_37 : decode cX3_at 37 = .ok (.iadd, 1) := by decide +kernel
theorem dX3_at_38 : decode cX3_at 38 = .ok (.istore 4, 2) := by decide +kernel
theorem dX3_at_40 : decode cX3_at 40 = .ok (.iload_n 3, 1) := by decide +kernel
theorem dX3_at_41 : decode cX3_at 41 = .ok (.ifCond .eq 28, 3) := by decide +kernel
theorem dX3_at_44 : decode cX3_at 44 = .ok (.iload 4, 2) := by decide +kernel
theorem dX3_at_46 : decode cX3_at 46 = .ok (.ifCond .lt 23, 3) := by decide +kernel
theorem dX3_at_49 : decode cX3_at 49 = .ok (.iload 4, 2) := by decide +kernel
theorem dX3_at_51 : decode cX3_at 51 = .ok (.aload_n 0, 1) := by decide +kernel
theorem dX3_at_52 : decode cX3_at 52 = .ok (.getfield 18, 3) := by decide +kernel
theorem dX3_at_55 : decode cX3_at 55 = .ok (.arraylength, 1) := by decide +kernel
theorem dX3_at_56 : decode cX3_at 56 = .ok (.if_icmp .ge 13, 3) := by decide +kernel
theorem dX3_at_59 : decode cX3_at 59 = .ok (.aload_n 0, 1) := by decide +kernel
theorem dX3_at_60 : decode cX3_at 60 = .ok (.getfield 18, 3) := by decide +kernel
theorem dX3_at_63 : decode cX3_at 63 = .ok (.iload 4, 2) := by decide +kernel
theorem dX3_at_65 : decode cX3_at 65 = .ok (.iaload, 1) := by decide +kernel
theorem dX3_at_66 : decode cX3_at 66 = .ok (.goto 4, 3) := by decide +kernel
theorem dX3_at_69 : decode cX3_at 69 = .ok (.iconst 0, 1) := by decide +kernel
theorem dX3_at_70 : decode cX3_at 70 = .ok (.ireturn, 1) := by decide +kernel
theorem dX3_put_0 : decode cX3_put 0 = .ok (.iload_n 1, 1) := by decide +kernel
theorem dX3_put_1 : decode cX3_put 1 = .ok (.ifCond .lt 27, 3) := by decide +kernel
theorem dX3_put_4 : decode cX3_put 4 = .ok (.iload_n 1, 1) := by decide +kernel
theorem dX3_put_5 : decode cX3_put 5 = .ok (.aload_n 0, 1) := by decide +kernel
theorem dX3_put_6 : decode cX3_put 6 = .ok (.getfield 22, 3) := by decide +kernel
theorem dX3_put_9 : decode cX3_put 9 = .ok (.if_icmp .ge 19, 3) := by decide +kernel
theorem dX3_put_12 : decode cX3_put 12 = .ok (.iload_n 2, 1) := by decide +kernel
theorem dX3_put_13 : decode cX3_put 13 = .ok (.ifCond .lt 15, 3) := by decide +kernel
theorem dX3_put_16 : decode cX3_put 16 = .ok (.iload_n 2, 1) := by decide +kernel
theorem dX3_put_17 : decode cX3_put 17 = .ok (.aload_n 0, 1) := by decide +kernel
theorem dX3_put_18 : decode cX3_put 18 = .ok (.getfield 15, 3) := by decide +kernel
theorem dX3_put_21 : decode cX3_put 21 = .ok (.if_icmp .ge 7, 3) := by decide +kernel
theorem dX3_put_24 : decode cX3_put 24 = .ok (.iconst 1, 1) := by decide +kernel
theorem dX3_put_25 : decode cX3_put 25 = .ok (.goto 4, 3) := by decide +kernel
theorem dX3_put_28 : decode cX3_put 28 = .ok (.iconst 0, 1) := by decide +kernel
theorem dX3_put_29 : decode cX3_put 29 = .ok (.istore 4, 2) := by decide +kernel
theorem dX3_put_31 : decode cX3_put 31 = .ok (.iload_n 1, 1) := by decide +kernel
theorem dX3_put_32 : decode cX3_put 32 = .ok (.aload_n 0, 1) := by decide +kernel
theorem dX3_put_33 : decode cX3_put 33 = .ok (.getfield 15, 3) := by decide +kernel
theorem dX3_put_36 : decode cX3_put 36 = .ok (.imul, 1) := by decide +kernel
theorem dX3_put_37 : decode cX3_put 37 = .ok (.iload_n 2, 1) := by decide +kernel
theorem dX3_put_38 : decode cX3_put 38 = .ok (.iadd, 1) := by decide +kernel
theorem dX3_put_39 : decode cX3_put 39 = .ok (.istore 5, 2) := by decide +kernel
theorem dX3_put_41 : decode cX3_put 41 = .ok (.iload 4, 2) := by decide +kernel
theorem dX3_put_43 : decode cX3_put 43 = .ok (.ifCond .eq 26, 3) := by decide +kernel
theorem dX3_put_46 : decode cX3_put 46 = .ok (.iload 5, 2) := by decide +kernel
theorem dX3_put_48 : decode cX3_put 48 = .ok (.ifCond .lt 21, 3) := by decide +kernel
theorem dX3_put_51 : decode cX3_put 51 = .ok (.iload 5, 2) := by decide +kernel
theorem dX3_put_53 : decode cX3_put 53 = .ok (.aload_n 0, 1) := by decide +kernel
theorem dX3_put_54 : decode cX3_put 54 = .ok (.getfield 18, 3) := by decide +kernel
theorem dX3_put_57 : decode cX3_put 57 = .ok (.arraylength, 1) := by decide +kernel
theorem dX3_put_58 : decode cX3_put 58 = .ok (.if_icmp .ge 11, 3) := by decide +kernel
theorem dX3_put_61 : decode cX3_put 61 = .ok (.aload_n 0, 1) := by decide +kernel
theorem dX3_put_62 : decode cX3_put 62 = .ok (.getfield 18, 3) := by decide +kernel
theorem dX3_put_65 : decode cX3_put 65 = .ok (.iload 5, 2) := by decide +kernel
theorem dX3_put_67 : decode cX3_put 67 = .ok (.iload_n 3, 1) := by decide +kernel
theorem dX3_put_68 : decode cX3_put 68 = .ok (.iastore, 1) := by decide +kernel
theorem dX3_put_69 : decode cX3_put 69 = .ok (.return_, 1) := by decide +kernel
theorem dX3_addRow_0 : decode cX3_addRow 0 = .ok (.aload_n 0, 1) := by decide +kernel
theorem dX3_addRow_1 : decode cX3_addRow 1 = .ok (.getfield 22, 3) := by decide +kernel
theorem dX3_addRow_4 : decode cX3_addRow 4 = .ok (.aload_n 0, 1) := by decide +kernel
theorem dX3_addRow_5 : decode cX3_addRow 5 = .ok (.getfield 9, 3) := by decide +kernel
theorem dX3_addRow_8 : decode cX3_addRow 8 = .ok (.if_icmp .lt 5, 3) := by decide +kernel
theorem dX3_addRow_11 : decode cX3_addRow 11 = .ok (.iconst (-1), 1) := by decide +kernel
theorem dX3_addRow_12 : decode cX3_addRow 12 = .ok (.ireturn, 1) := by decide +kernel
theorem dX3_addRow_13 : decode cX3_addRow 13 = .ok (.aload_n 0, 1) := by decide +kernel
theorem dX3_addRow_14 : decode cX3_addRow 14 = .ok (.dup, 1) := by decide +kernel
theorem dX3_addRow_15 : decode cX3_addRow 15 = .ok (.getfield 22, 3) := by decide +kernel
theorem dX3_addRow_18 : decode cX3_addRow 18 = .ok (.iconst 1, 1) := by decide +kernel
theorem dX3_addRow_19 : decode cX3_addRow 19 = .ok (.iadd, 1) := by decide +kernel
theorem dX3_addRow_20 : decode cX3_addRow 20 = .ok (.putfield 22, 3) := by decide +kernel
theorem dX3_addRow_23 : decode cX3_addRow 23 = .ok (.aload_n 0, 1) := by decide +kernel
theorem dX3_addRow_24 : decode cX3_addRow 24 = .ok (.getfield 22, 3) := by decide +kernel
theorem dX3_addRow_27 : decode cX3_addRow 27 = .ok (.iconst 1, 1) := by decide +kernel
theorem dX3_addRow_28 : decode cX3_addRow 28 = .ok (.isub, 1) := by decide +kernel
theorem dX3_addRow_29 : decode cX3_addRow 29 = .ok (.ireturn, 1) := by decide +kernel
theorem dX3_drop_0 : decode cX3_drop 0 = .ok (.iload_n 1, 1) := by decide +kernel
theorem dX3_drop_1 : decode cX3_drop 1 = .ok (.ifCond .lt 11, 3) := by decide +kernel
theorem dX3_drop_4 : decode cX3_drop 4 = .ok (.iload_n 1, 1) := by decide +kernel
theorem dX3_drop_5 : decode cX3_drop 5 = .ok (.aload_n 0, 1) := by decide +kernel
theorem dX3_drop_6 : decode cX3_drop 6 = .ok (.getfield 22, 3) := by decide +kernel
theorem dX3_drop_9 : decode cX3_drop 9 = .ok (.if_icmp .lt 4, 3) := by decide +kernel
theorem dX3_drop_12 : decode cX3_drop 12 = .ok (.return_, 1) := by decide +kernel
theorem dX3_drop_13 : decode cX3_drop 13 = .ok (.aload_n 0, 1) := by decide +kernel
theorem dX3_drop_14 : decode cX3_drop 14 = .ok (.getfield 22, 3) := by decide +kernel
theorem dX3_drop_17 : decode cX3_drop 17 = .ok (.aload_n 0, 1) := by decide +kernel
theorem dX3_drop_18 : decode cX3_drop 18 = .ok (.getfield 15, 3) := by decide +kernel
theorem dX3_drop_21 : decode cX3_drop 21 = .ok (.imul, 1) := by decide +kernel
theorem dX3_drop_22 : decode cX3_drop 22 = .ok (.istore_n 2, 1) := by decide +kernel
theorem dX3_drop_23 : decode cX3_drop 23 = .ok (.iload_n 1, 1) := by decide +kernel
theorem dX3_drop_24 : decode cX3_drop 24 = .ok (.aload_n 0, 1) := by decide +kernel
theorem dX3_drop_25 : decode cX3_drop 25 = .ok (.getfield 15, 3) := by decide +kernel
theorem dX3_drop_28 : decode cX3_drop 28 = .ok (.imul, 1) := by decide +kernel
theorem dX3_drop_29 : decode cX3_drop 29 = .ok (.istore_n 3, 1) := by decide +kernel
theorem dX3_drop_30 : decode cX3_drop 30 = .ok (.iload_n 3, 1) := by decide +kernel
theorem dX3_drop_31 : decode cX3_drop 31 = .ok (.iload_n 2, 1) := by decide +kernel
theorem dX3_drop_32 : decode cX3_drop 32 = .ok (.aload_n 0, 1) := by decide +kernel
theorem dX3_drop_33 : decode cX3_drop 33 = .ok (.getfield 15, 3) := by decide +kernel
theorem dX3_drop_36 : decode cX3_drop 36 = .ok (.isub, 1) := by decide +kernel
theorem dX3_drop_37 : decode cX3_drop 37 = .ok (.if_icmp .ge 58, 3) := by decide +kernel
theorem dX3_drop_40 : decode cX3_drop 40 = .ok (.iload_n 3, 1) := by decide +kernel
theorem dX3_drop_41 : decode cX3_drop 41 = .ok (.aload_n 0, 1) := by decide +kernel
theorem dX3_drop_42 : decode cX3_drop 42 = .ok (.getfield 15, 3) := by decide +kernel
theorem dX3_drop_45 : decode cX3_drop 45 = .ok (.iadd, 1) := by decide +kernel
theorem dX3_drop_46 : decode cX3_drop 46 = .ok (.istore 4, 2) := by decide +kernel
theorem dX3_drop_48 : decode cX3_drop 48 = .ok (.iload_n 3, 1) := by decide +kernel
theorem dX3_drop_49 : decode cX3_drop 49 = .ok (.ifCond .lt 40, 3) := by decide +kernel
theorem dX3_drop_52 : decode cX3_drop 52 = .ok (.iload_n 3, 1) := by decide +kernel
theorem dX3_drop_53 : decode cX3_drop 53 = .ok (.aload_n 0, 1) := by decide +kernel
theorem dX3_drop_54 : decode cX3_drop 54 = .ok (.getfield 18, 3) := by decide +kernel
theorem dX3_drop_57 : decode cX3_drop 57 = .ok (.arraylength, 1) := by decide +kernel
theorem dX3_drop_58 : decode cX3_drop 58 = .ok (.if_icmp .ge 31, 3) := by decide +kernel
theorem dX3_drop_61 : decode cX3_drop 61 = .ok (.iload 4, 2) := by decide +kernel
theorem dX3_drop_63 : decode cX3_drop 63 = .ok (.ifCond .lt 26, 3) := by decide +kernel
theorem dX3_drop_66 : decode cX3_drop 66 = .ok (.iload 4, 2) := by decide +kernel
theorem dX3_drop_68 : decode cX3_drop 68 = .ok (.aload_n 0, 1) := by decide +kernel
theorem dX3_drop_69 : decode cX3_drop 69 = .ok (.getfield 18, 3) := by decide +kernel
theorem dX3_drop_72 : decode cX3_drop 72 = .ok (.arraylength, 1) := by decide +kernel
theorem dX3_drop_73 : decode cX3_drop 73 = .ok (.if_icmp .ge 16, 3) := by decide +kernel
theorem dX3_drop_76 : decode cX3_drop 76 = .ok (.aload_n 0, 1) := by decide +kernel
theorem dX3_drop_77 : decode cX3_drop 77 = .ok (.getfield 18, 3) := by decide +kernel
theorem dX3_drop_80 : decode cX3_drop 80 = .ok (.iload_n 3, 1) := by decide +kernel
theorem dX3_drop_81 : decode cX3_drop 81 = .ok (.aload_n 0, 1) := by decide +kernel
theorem dX3_drop_82 : decode cX3_drop 82 = .ok (.getfield 18, 3) := by decide +kernel
theorem dX3_drop_85 : decode cX3_drop 85 = .ok (.iload 4, 2) := by decide +kernel
theorem dX3_drop_87 : decode cX3_drop 87 = .ok (.iaload, 1) := by decide +kernel
theorem dX3_drop_88 : decode cX3_drop 88 = .ok (.iastore, 1) := by decide +kernel
theorem dX3_drop_89 : decode cX3_drop 89 = .ok (.iinc 3 1, 3) := by decide +kernel
theorem dX3_drop_92 : decode cX3_drop 92 = .ok (.goto (-62), 3) := by decide +kernel
theorem dX3_drop_95 : decode cX3_drop 95 = .ok (.aload_n 0, 1) := by decide +kernel
theorem dX3_drop_96 : decode cX3_drop 96 = .ok (.dup, 1) := by decide +kernel
theorem dX3_drop_97 : decode cX3_drop 97 = .ok (.getfield 22, 3) := by decide +kernel
theorem dX3_drop_100 : decode cX3_drop 100 = .ok (.iconst 1, 1) := by decide +kernel
theorem dX3_drop_101 : decode cX3_drop 101 = .ok (.isub, 1) := by decide +kernel
theorem dX3_drop_102 : decode cX3_drop 102 = .ok (.putfield 22, 3) := by decide +kernel
theorem dX3_drop_105 : decode cX3_drop 105 = .ok (.return_, 1) := by decide +kernel
theorem dX3_dropAll_0 : decode cX3_dropAll 0 = .ok (.aload_n 0, 1) := by decide +kernel
theorem dX3_dropAll_1 : decode cX3_dropAll 1 = .ok (.iconst 0, 1) := by decide +kernel
theorem dX3_dropAll_2 : decode cX3_dropAll 2 = .ok (.putfield 22, 3) := by decide +kernel
theorem dX3_dropAll_5 : decode cX3_dropAll 5 = .ok (.return_, 1) := by decide +kernel
theorem dX3_takeOver_0 : decode cX3_takeOver 0 = .ok (.aload_n 0, 1) := by decide +kernel
theorem dX3_takeOver_1 : decode cX3_takeOver 1 = .ok (.aload_n 1, 1) := by decide +kernel
theorem dX3_takeOver_2 : decode cX3_takeOver 2 = .ok (.getfield 22, 3) := by decide +kernel
theorem dX3_takeOver_5 : decode cX3_takeOver 5 = .ok (.aload_n 0, 1) := by decide +kernel
theorem dX3_takeOver_6 : decode cX3_takeOver 6 = .ok (.getfield 9, 3) := by decide +kernel
theorem dX3_takeOver_9 : decode cX3_takeOver 9 = .ok (.if_icmp .ge 10, 3) := by decide +kernel
theorem dX3_takeOver_12 : decode cX3_takeOver 12 = .ok (.aload_n 1, 1) := by decide +kernel
theorem dX3_takeOver_13 : decode cX3_takeOver 13 = .ok (.getfield 22, 3) := by decide +kernel
theorem dX3_takeOver_16 : decode cX3_takeOver 16 = .ok (.goto 7, 3) := by decide +kernel
theorem dX3_takeOver_19 : decode cX3_takeOver 19 = .ok (.aload_n 0, 1) := by decide +kernel
theorem dX3_takeOver_20 : decode cX3_takeOver 20 = .ok (.getfield 9, 3) := by decide +kernel
theorem dX3_takeOver_23 : decode cX3_takeOver 23 = .ok (.putfield 22, 3) := by decide +kernel
theorem dX3_takeOver_26 : decode cX3_takeOver 26 = .ok (.aload_n 0, 1) := by decide +kernel
theorem dX3_takeOver_27 : decode cX3_takeOver 27 = .ok (.getfield 22, 3) := by decide +kernel
theorem dX3_takeOver_30 : decode cX3_takeOver 30 = .ok (.aload_n 0, 1) := by decide +kernel
theorem dX3_takeOver_31 : decode cX3_takeOver 31 = .ok (.getfield 15, 3) := by decide +kernel
theorem dX3_takeOver_34 : decode cX3_takeOver 34 = .ok (.imul, 1) := by decide +kernel
theorem dX3_takeOver_35 : decode cX3_takeOver 35 = .ok (.istore_n 2, 1) := by decide +kernel
theorem dX3_takeOver_36 : decode cX3_takeOver 36 = .ok (.iconst 0, 1) := by decide +kernel
theorem dX3_takeOver_37 : decode cX3_takeOver 37 = .ok (.istore_n 3, 1) := by decide +kernel
theorem dX3_takeOver_38 : decode cX3_takeOver 38 = .ok (.iload_n 3, 1) := by decide +kernel
theorem dX3_takeOver_39 : decode cX3_takeOver 39 = .ok (.iload_n 2, 1) := by decide +kernel
theorem dX3_takeOver_40 : decode cX3_takeOver 40 = .ok (.if_icmp .ge 39, 3) := by decide +kernel
theorem dX3_takeOver_43 : decode cX3_takeOver 43 = .ok (.iload_n 3, 1) := by decide +kernel
theorem dX3_takeOver_44 : decode cX3_takeOver 44 = .ok (.aload_n 0, 1) := by decide +kernel
theorem dX3_takeOver_45 : decode cX3_takeOver 45 = .ok (.getfield 18, 3) := by decide +kernel
theorem dX3_takeOver_48 : decode cX3_takeOver 48 = .ok (.arraylength, 1) := by decide +kernel
theorem dX3_takeOver_49 : decode cX3_takeOver 49 = .ok (.if_icmp .ge 30, 3) := by decide +kernel
theorem dX3_takeOver_52 : decode cX3_takeOver 52 = .ok (.iload_n 3, 1) := by decide +kernel
theorem dX3_takeOver_53 : decode cX3_takeOver 53 = .ok (.aload_n 1, 1) := by decide +kernel
theorem dX3_takeOver_54 : decode cX3_takeOver 54 = .ok (.getfield 18, 3) := by decide +kernel
theorem dX3_takeOver_57 : decode cX3_takeOver 57 = .ok (.arraylength, 1) := by decide +kernel
theorem dX3_takeOver_58 : decode cX3_takeOver 58 = .ok (.if_icmp .ge 21, 3) := by decide +kernel
theorem dX3_takeOver_61 : decode cX3_takeOver 61 = .ok (.aload_n 0, 1) := by decide +kernel
theorem dX3_takeOver_62 : decode cX3_takeOver 62 = .ok (.getfield 18, 3) := by decide +kernel
theorem dX3_takeOver_65 : decode cX3_takeOver 65 = .ok (.iload_n 3, 1) := by decide +kernel
theorem dX3_takeOver_66 : decode cX3_takeOver 66 = .ok (.aload_n 1, 1) := by decide +kernel
theorem dX3_takeOver_67 : decode cX3_takeOver 67 = .ok (.getfield 18, 3) := by decide +kernel
theorem dX3_takeOver_70 : decode cX3_takeOver 70 = .ok (.iload_n 3, 1) := by decide +kernel
theorem dX3_takeOver_71 : decode cX3_takeOver 71 = .ok (.iaload, 1) := by decide +kernel
theorem dX3_takeOver_72 : decode cX3_takeOver 72 = .ok (.iastore, 1) := by decide +kernel
theorem dX3_takeOver_73 : decode cX3_takeOver 73 = .ok (.iinc 3 1, 3) := by decide +kernel
theorem dX3_takeOver_76 : decode cX3_takeOver 76 = .ok (.goto (-38), 3) := by decide +kernel
theorem dX3_takeOver_79 : decode cX3_takeOver 79 = .ok (.return_, 1) := by decide +kernel
set_option maxRecDepth 20000 in
theorem ggX4_init_X3_init : GoodIn wsX4_init wsX3_init := goodIn_r _ [12, 13, 2, 3, 14, 15, 16, 17, 18, 19, 20, 21] (by decide +kernel) (by decide +kernel)
set_option maxRecDepth 20000 in
theorem gX4_init_X3_init : GoodIn wsX4_init (wsX3_init) := ggX4_init_X3_init
theorem dX4_init_0 : decode cX4_init 0 = .ok (.aload_n 0, 1) := by decide +kernel
theorem dX4_init_1 : decode cX4_init 1 = .ok (.invokespecial 3, 3) := by decide +kernel
theorem dX4_init_4 : decode cX4_init 4 = .ok (.aload_n 0, 1) := by decide +kernel
theorem dX4_init_5 : decode cX4_init 5 = .ok (.new 9, 3) := by decide +kernel
theorem dX4_init_8 : decode cX4_init 8 = .ok (.dup, 1) := by decide +kernel
theorem dX4_init_9 : decode cX4_init 9 = .ok (.bipush 100, 2) := by decide +kernel
theorem dX4_init_11 : decode cX4_init 11 = .ok (.iconst 1, 1) := by decide +kernel
theorem dX4_init_12 : decode cX4_init 12 = .ok (.invokespecial 11, 3) := by decide +kernel
theorem dX4_init_15 : decode cX4_init 15 = .ok (.putfield 14, 3) := by decide +kernel
theorem dX4_init_18 : decode cX4_init 18 = .ok (.aload_n 0, 1) := by decide +kernel
theorem dX4_init_19 : decode cX4_init 19 = .ok (.new 9, 3) := by decide +kernel
theorem dX4_init_22 : decode cX4_init 22 = .ok (.dup, 1) := by decide +kernel
theorem dX4_init_23 : decode cX4_init 23 = .ok (.bipush 100, 2) := by decide +kernel
theorem dX4_init_25 : decode cX4_init 25 = .ok (.bipush 6, 2) := by decide +kernel
theorem dX4_init_27 : decode cX4_init 27 = .ok (.invokespecial 11, 3) := by decide +kernel
theorem dX4_init_30 : decode cX4_init 30 = .ok (.putfield 20, 3) := by decide +kernel
theorem dX4_init_33 : decode cX4_init 33 = .ok (.aload_n 0, 1) := by decide +kernel
theorem dX4_init_34 : decode cX4_init 34 = .ok (.iconst (-1), 1) := by decide +kernel
theorem dX4_init_35 : decode cX4_init 35 = .ok (.putfield 23, 3) := by decide +kernel
theorem dX4_init_38 : decode cX4_init 38 = .ok (.return_, 1) := by decide +kernel
set_option maxRecDepth 20000 in
theorem ggX4_length_X3_rows : GoodIn wsX4_length wsX3_rows := goodIn_r _ [6, 7, 12, 13, 14, 15] (by decide +kernel) (by decide +kernel)
set_option maxRecDepth 20000 in
theorem gX4_length_X3_rows : GoodIn wsX4_length (wsV RX4 27 RX3 yX3_rows wsX3_rows) := goodIn_app (goodIn_of _ (by decide +kernel)) ggX4_length_X3_rows
theorem dX4_length_0 : decode cX4_length 0 = .ok (.aload_n 0, 1) := by decide +kernel
theorem dX4_length_1 : decode cX4_length 1 = .ok (.getfield 14, 3) := by decide +kernel
theorem dX4_length_4 : decode cX4_length 4 = .ok (.invokevirtual 27, 3) := by decide +kernel
theorem dX4_length_7 : decode cX4_length 7 = .ok (.ireturn, 1) := by decide +kernel
set_option maxRecDepth 20000 in
theorem ggX4_isFull_X3_isFull : GoodIn wsX4_isFull wsX3_isFull := goodIn_r _ [6, 7, 8, 13, 14, 15, 16] (by decide +kernel) (by decide +kernel)
set_option maxRecDepth 20000 in
theorem gX4_isFull_X3_isFull : GoodIn wsX4_isFull (wsV RX4 31 RX3 yX3_isFull wsX3_isFull) := goodIn_app (goodIn_of _ (by decide +kernel)) ggX4_isFull_X3_isFull
theorem dX4_isFull_0 : decode cX4_isFull 0 = .ok (.aload_n 0, 1) := by decide +kernel
theorem dX4_isFull_1 : decode cX4_isFull 1 = .ok (.getfield 14, 3) := by decide +kernel
theorem dX4_isFull_4 : decode cX4_isFull 4 = .ok (.invokevirtual 31, 3) := by decide +kernel
theorem dX4_isFull_7 : decode cX4_isFull 7 = .ok (.ireturn, 1) := by decide +kernel
set_option maxRecDepth 20000 in
theorem ggX4_add_X3_addRow : GoodIn wsX4_add wsX3_addRow := goodIn_r _ [6, 7, 8, 19, 20, 21, 22] (by decide +kernel) (by decide +kernel)
set_option maxRecDepth 20000 in
theorem gX4_add_X3_addRow : GoodIn wsX4_add (wsV RX4 35 RX3 yX3_addRow wsX3_addRow) := goodIn_app (goodIn_of _ (by decide +kernel)) ggX4_add_X3_addRow
set_option maxRecDepth 20000 in
theorem ggX4_add_X3_put : GoodIn wsX4_add wsX3_put := goodIn_r _ [12, 7, 13, 14, 19, 20, 21, 22] (by decide +kernel) (by decide +kernel)
set_option maxRecDepth 20000 in
theorem gX4_add_X3_put : GoodIn wsX4_add (wsV RX4 38 RX3 yX3_put wsX3_put) := goodIn_app (goodIn_of _ (by decide +kernel)) ggX4_add_X3_put
theorem dX4_add_0 : decode cX4_add 0 = .ok (.aload_n 0, 1) := by decide +kernel
theorem dX4_add_1 : decode cX4_add 1 = .ok (.getfield 14, 3) := by decide +kernel
theorem dX4_add_4 : decode cX4_add 4 = .ok (.aload_n 0, 1) := by decide +kernel
theorem dX4_add_5 : decode cX4_add 5 = .ok (.getfield 14, 3) := by decide +kernel
theorem dX4_add_8 : decode cX4_add 8 = .ok (.invokevirtual 35, 3) := by decide +kernel
theorem dX4_add_11 : decode cX4_add 11 = .ok (.iconst 0, 1) := by decide +kernel
theorem dX4_add_12 : decode cX4_add 12 = .ok (.iload_n 1, 1) := by decide +kernel
theorem dX4_add_13 : decode cX4_add 13 = .ok (.invokevirtual 38, 3) := by decide +kernel
theorem dX4_add_16 : decode cX4_add 16 = .ok (.return_, 1) := by decide +kernel
set_option maxRecDepth 20000 in
theorem ggX4_empty_X3_dropAll : GoodIn wsX4_empty wsX3_dropAll := goodIn_r _ [6, 7, 12, 13, 14, 15] (by decide +kernel) (by decide +kernel)
set_option maxRecDepth 20000 in
theorem gX4_empty_X3_dropAll : GoodIn wsX4_empty (wsV RX4 42 RX3 yX3_dropAll wsX3_dropAll) := goodIn_app (goodIn_of _ (by decide +kernel)) ggX4_empty_X3_dropAll
theorem dX4_empty_0 : decode cX4_empty 0 = .ok (.aload_n 0, 1) := by decide +kernel
theorem dX4_empty_1 : decode cX4_empty 1 = .ok (.getfield 14, 3) := by decide +kernel
theorem dX4_empty_4 : decode cX4_empty 4 = .ok (.invokevirtual 42, 3) := by decide +kernel
theorem dX4_empty_7 : decode cX4_empty 7 = .ok (.return_, 1) := by decide +kernel
set_option maxRecDepth 20000 in
theorem ggX4_read_X3_dropAll : GoodIn wsX4_read wsX3_dropAll := goodIn_r _ [8, 9, 81, 82, 83, 84] (by decide +kernel) (by decide +kernel)
set_option maxRecDepth 20000 in
theorem gX4_read_X3_dropAll : GoodIn wsX4_read (wsV RX4 42 RX3 yX3_dropAll wsX3_dropAll) := goodIn_app (goodIn_of _ (by decide +kernel)) ggX4_read_X3_dropAll
set_option maxRecDepth 20000 in
theorem ggX4_read_X4_length : GoodIn wsX4_read wsX4_length := goodIn_r _ [14, 15, 16, 17, 18, 7, 19, 9, 77, 78, 79, 80, 81, 82, 83, 84] (by decide +kernel) (by decide +kernel)
set_option maxRecDepth 20000 in
theorem gX4_read_X4_length : GoodIn wsX4_read (wsV RX4 48 RX4 yX4_length wsX4_length) := goodIn_app (goodIn_of _ (by decide +kernel)) ggX4_read_X4_length
set_option maxRecDepth 20000 in
theorem ggX4_read_X3_addRow : GoodIn wsX4_read wsX3_addRow := goodIn_r _ [23, 9, 24, 81, 82, 83, 84] (by decide +kernel) (by decide +kernel)
set_option maxRecDepth 20000 in
theorem gX4_read_X3_addRow : GoodIn wsX4_read (wsV RX4 35 RX3 yX3_addRow wsX3_addRow) := goodIn_app (goodIn_of _ (by decide +kernel)) ggX4_read_X3_addRow
set_option maxRecDepth 20000 in
theorem ggX4_read_X4_readOrder : GoodIn wsX4_read wsX4_readOrder := goodIn_r _ [28, 3, 1, 29, 30, 31, 13, 32, 15, 33, 34, 35, 7, 36, 9, 37, 38, 39, 40, 41, 42, 43, 44, 45, 46, 47, 48, 49, 50, 51, 52, 53, 54, 55, 56, 57, 58, 59, 60, 61, 2, 62, 63, 64, 65, 66, 67, 68, 69, 70, 71, 72, 73, 74, 75, 76, 77, 78, 79, 80, 81, 82, 83, 84] (by decide +kernel) (by decide +kernel)
set_option maxRecDepth 20000 in
theorem gX4_read_X4_readOrder : GoodIn wsX4_read (wsV RX4 51 RX4 yX4_readOrder wsX4_readOrder) := goodIn_app (goodIn_of _ (by decide +kernel)) ggX4_read_X4_readOrder
theorem dX4_read_0 : decode cX4_read 0 = .ok (.aload_n 0, 1) := by decide +kernel
theorem dX4_read_1 : decode cX4_read 1 = .ok (.iconst 0, 1) := by decide +kernel
theorem dX4_read_2 : decode cX4_read 2 = .ok (.putfield 45, 3) := by decide +kernel
theorem dX4_read_5 : decode cX4_read 5 = .ok (.aload_n 0, 1) := by decide +kernel
theorem dX4_read_6 : decode cX4_read 6 = .ok (.iconst (-1), 1) := by decide +kernel
theorem dX4_read_7 : decode cX4_read 7 = .ok (.putfield 23, 3) := by decide +kernel
theorem dX4_read_10 : decode cX4_read 10 = .ok (.aload_n 0, 1) := by decide +kernel
theorem dX4_read_11 : decode cX4_read 11 = .ok (.getfield 20, 3) := by decide +kernel
theorem dX4_read_14 : decode cX4_read 14 = .ok (.invokevirtual 42, 3) := by decide +kernel
theorem dX4_read_17 : decode cX4_read 17 = .ok (.iconst 0, 1) := by decide +kernel
theorem dX4_read_18 : decode cX4_read 18 = .ok (.istore_n 1, 1) := by decide +kernel
theorem dX4_read_19 : decode cX4_read 19 = .ok (.iload_n 1, 1) := by decide +kernel
theorem dX4_read_20 : decode cX4_read 20 = .ok (.bipush 100, 2) := by decide +kernel
theorem dX4_read_22 : decode cX4_read 22 = .ok (.if_icmp .ge 39, 3) := by decide +kernel
theorem dX4_read_25 : decode cX4_read 25 = .ok (.aload_n 0, 1) := by decide +kernel
theorem dX4_read_26 : decode cX4_read 26 = .ok (.getfield 45, 3) := by decide +kernel
theorem dX4_read_29 : decode cX4_read 29 = .ok (.aload_n 0, 1) := by decide +kernel
theorem dX4_read_30 : decode cX4_read 30 = .ok (.invokevirtual 48, 3) := by decide +kernel
theorem dX4_read_33 : decode cX4_read 33 = .ok (.if_icmp .ge 28, 3) := by decide +kernel
theorem dX4_read_36 : decode cX4_read 36 = .ok (.aload_n 0, 1) := by decide +kernel
theorem dX4_read_37 : decode cX4_read 37 = .ok (.getfield 23, 3) := by decide +kernel
theorem dX4_read_40 : decode cX4_read 40 = .ok (.iconst (-1), 1) := by decide +kernel
theorem dX4_read_41 : decode cX4_read 41 = .ok (.if_icmp .ne 20, 3) := by decide +kernel
theorem dX4_read_44 : decode cX4_read 44 = .ok (.aload_n 0, 1) := by decide +kernel
theorem dX4_read_45 : decode cX4_read 45 = .ok (.aload_n 0, 1) := by decide +kernel
theorem dX4_read_46 : decode cX4_read 46 = .ok (.getfield 20, 3) := by decide +kernel
theorem dX4_read_49 : decode cX4_read 49 = .ok (.invokevirtual 35, 3) := by decide +kernel
theorem dX4_read_52 : decode cX4_read 52 = .ok (.invokevirtual 51, 3) := by decide +kernel
theorem dX4_read_55 : decode cX4_read 55 = .ok (.iinc 1 1, 3) := by decide +kernel
theorem dX4_read_58 : decode cX4_read 58 = .ok (.goto (-39), 3) := by decide +kernel
theorem dX4_read_61 : decode cX4_read 61 = .ok (.aload_n 0, 1) := by decide +kernel
theorem dX4_read_62 : decode cX4_read 62 = .ok (.getfield 23, 3) := by decide +kernel
theorem dX4_read_65 : decode cX4_read 65 = .ok (.ireturn, 1) := by decide +kernel
set_option maxRecDepth 20000 in
theorem ggX4_readOrder_X4_current : GoodIn wsX4_readOrder wsX4_current := goodIn_r _ [7, 8, 2, 9, 10, 11, 12, 13, 14, 15, 16, 17, 18, 19, 20, 56, 57, 58, 59, 60, 61, 62, 63] (by decide +kernel) (by decide +kernel)
set_option maxRecDepth 20000 in
theorem gX4_readOrder_X4_current : GoodIn wsX4_readOrder (wsV RX4 55 RX4 yX4_current wsX4_current) := goodIn_app (goodIn_of _ (by decide +kernel)) ggX4_readOrder_X4_current
set_option maxRecDepth 20000 in
theorem ggX4_readOrder_X3_put : GoodIn wsX4_readOrder wsX3_put := goodIn_r _ [24, 14, 19, 20, 60, 61, 62, 63] (by decide +kernel) (by decide +kernel)
set_option maxRecDepth 20000 in
theorem gX4_readOrder_X3_put : GoodIn wsX4_readOrder (wsV RX4 38 RX3 yX3_put wsX3_put) := goodIn_app (goodIn_of _ (by decide +kernel)) ggX4_readOrder_X3_put
set_option maxRecDepth 20000 in
theorem ggX4_readOrder_X4_readGrant : GoodIn wsX4_readOrder wsX4_readGrant := goodIn_r _ [28, 1, 29, 30, 31, 6, 32, 2, 3, 4, 5, 7, 8, 9, 10, 11, 12, 13, 14, 15, 16, 17, 18, 19, 20, 33, 34, 35, 36, 37, 38, 39, 40, 21, 22, 23, 24, 41, 42, 43, 44, 45, 46, 47, 48, 49, 50, 51, 56, 57, 58, 59, 60, 61, 62, 63] (by decide +kernel) (by decide +kernel)
set_option maxRecDepth 20000 in
theorem gX4_readOrder_X4_readGrant : GoodIn wsX4_readOrder (wsV RX4 58 RX4 yX4_readGrant wsX4_readGrant) := goodIn_app (goodIn_of _ (by decide +kernel)) ggX4_readOrder_X4_readGrant
set_option maxRecDepth 20000 in
theorem ggX4_readOrder_X4_readNumber : GoodIn wsX4_readOrder wsX4_readNumber := goodIn_r _ [48, 2, 3, 4, 5, 6, 7, 8, 9, 10, 11, 12, 13, 14, 15, 16, 17, 18, 19, 20, 49, 50, 51, 33, 34, 35, 36, 37, 38, 39, 40, 56, 57, 58, 59, 60, 61, 62, 63] (by decide +kernel) (by decide +kernel)
set_option maxRecDepth 20000 in
theorem gX4_readOrder_X4_readNumber : GoodIn wsX4_readOrder (wsV RX4 61 RX4 yX4_readNumber wsX4_readNumber) := goodIn_app (goodIn_of _ (by decide +kernel)) ggX4_readOrder_X4_readNumber
set_option maxRecDepth 20000 in
theorem ggX4_readOrder_X4_readDigit : GoodIn wsX4_readOrder wsX4_readDigit := goodIn_r _ [32, 2, 3, 4, 5, 6, 7, 8, 9, 10, 11, 12, 13, 14, 15, 16, 17, 18, 19, 20, 33, 34, 35, 36, 37, 38, 39, 40, 56, 57, 58, 59, 60, 61, 62, 63] (by decide +kernel) (by decide +kernel)
set_option maxRecDepth 20000 in
theorem gX4_readOrder_X4_readDigit : GoodIn wsX4_readOrder (wsV RX4 65 RX4 yX4_readDigit wsX4_readDigit) := goodIn_app (goodIn_of _ (by decide +kernel)) ggX4_readOrder_X4_readDigit
set_option maxRecDepth 20000 in
theorem ggX4_readOrder_X4_readSign : GoodIn wsX4_readOrder wsX4_readSign := goodIn_r _ [55, 2, 3, 4, 5, 6, 7, 8, 9, 10, 11, 12, 13, 14, 15, 16, 17, 18, 19, 20, 36, 37, 38, 39, 40, 56, 57, 58, 59, 60, 61, 62, 63] (by decide +kernel) (by decide +kernel)
set_option maxRecDepth 20000 in
theorem gX4_readOrder_X4_readSign : GoodIn wsX4_readOrder (wsV RX4 69 RX4 yX4_readSign wsX4_readSign) := goodIn_app (goodIn_of _ (by decide +kernel)) ggX4_readOrder_X4_readSign
set_option maxRecDepth 20000 in
theorem ggX4_readOrder_X4_fail : GoodIn wsX4_readOrder wsX4_fail := goodIn_r _ [39, 40, 56, 57, 58, 59] (by decide +kernel) (by decide +kernel)
set_option maxRecDepth 20000 in
theorem gX4_readOrder_X4_fail : GoodIn wsX4_readOrder (wsV RX4 72 RX4 yX4_fail wsX4_fail) := goodIn_app (goodIn_of _ (by decide +kernel)) ggX4_readOrder_X4_fail
set_option maxRecDepth 20000 in
theorem ggX4_readOrder_X4_readByte : GoodIn wsX4_readOrder wsX4_readByte := goodIn_r _ [44, 2, 3, 4, 5, 6, 7, 8, 9, 10, 11, 12, 13, 14, 15, 16, 17, 18, 19, 20, 36, 37, 38, 39, 40, 56, 57, 58, 59, 60, 61, 62, 63] (by decide +kernel) (by decide +kernel)
set_option maxRecDepth 20000 in
theorem gX4_readOrder_X4_readByte : GoodIn wsX4_readOrder (wsV RX4 75 RX4 yX4_readByte wsX4_readByte) := goodIn_app (goodIn_of _ (by decide +kernel)) ggX4_readOrder_X4_readByte
theorem dX4_readOrder_0 : decode cX4_readOrder 0 = .ok (.aload_n 0, 1) := by decide +kernel
theorem dX4_readOrder_1 : decode cX4_readOrder 1 = .ok (.invokevirtual 55, 3) := by decide +kernel
theorem dX4_readOrder_4 : decode cX4_readOrder 4 = .ok (.istore_n 2, 1) := by decide +kernel
theorem dX4_readOrder_5 : decode cX4_readOrder 5 = .ok (.aload_n 0, 1) := by decide +kernel
theorem dX4_readOrder_6 : decode cX4_readOrder 6 = .ok (.getfield 20, 3) := by decide +kernel
theorem dX4_readOrder_9 : decode cX4_readOrder 9 = .ok (.iload_n 1, 1) := by decide +kernel
theorem dX4_readOrder_10 : decode cX4_readOrder 10 = .ok (.iconst 0, 1) := by decide +kernel
theorem dX4_readOrder_11 : decode cX4_readOrder 11 = .ok (.iload_n 2, 1) := by decide +kernel
theorem dX4_readOrder_12 : decode cX4_readOrder 12 = .ok (.invokevirtual 38, 3) := by decide +kernel
theorem dX4_readOrder_15 : decode cX4_readOrder 15 = .ok (.aload_n 0, 1) := by decide +kernel
theorem dX4_readOrder_16 : decode cX4_readOrder 16 = .ok (.dup, 1) := by decide +kernel
theorem dX4_readOrder_17 : decode cX4_readOrder 17 = .ok (.getfield 45, 3) := by decide +kernel
theorem dX4_readOrder_20 : decode cX4_readOrder 20 = .ok (.iconst 1, 1) := by decide +kernel
theorem dX4_readOrder_21 : decode cX4_readOrder 21 = .ok (.iadd, 1) := by decide +kernel
theorem dX4_readOrder_22 : decode cX4_readOrder 22 = .ok (.putfield 45, 3) := by decide +kernel
theorem dX4_readOrder_25 : decode cX4_readOrder 25 = .ok (.iload_n 2, 1) := by decide +kernel
theorem dX4_readOrder_26 : decode cX4_readOrder 26 = .ok (.lookupswitch 132 #[(99, 71), (103, 42), (116, 112), (118, 50)], 42) := by decide +kernel
theorem dX4_readOrder_68 : decode cX4_readOrder 68 = .ok (.aload_n 0, 1) := by decide +kernel
theorem dX4_readOrder_69 : decode cX4_readOrder 69 = .ok (.iload_n 1, 1) := by decide +kernel
theorem dX4_readOrder_70 : decode cX4_readOrder 70 = .ok (.invokevirtual 58, 3) := by decide +kernel
theorem dX4_readOrder_73 : decode cX4_readOrder 73 = .ok (.goto 95, 3) := by decide +kernel
theorem dX4_readOrder_76 : decode cX4_readOrder 76 = .ok (.aload_n 0, 1) := by decide +kernel
theorem dX4_readOrder_77 : decode cX4_readOrder 77 = .ok (.getfield 20, 3) := by decide +kernel
theorem dX4_readOrder_80 : decode cX4_readOrder 80 = .ok (.iload_n 1, 1) := by decide +kernel
theorem dX4_readOrder_81 : decode cX4_readOrder 81 = .ok (.iconst 1, 1) := by decide +kernel
theorem dX4_readOrder_82 : decode cX4_readOrder 82 = .ok (.aload_n 0, 1) := by decide +kernel
theorem dX4_readOrder_83 : decode cX4_readOrder 83 = .ok (.iconst 3, 1) := by decide +kernel
theorem dX4_readOrder_84 : decode cX4_readOrder 84 = .ok (.iconst 0, 1) := by decide +kernel
theorem dX4_readOrder_85 : decode cX4_readOrder 85 = .ok (.sipush 999, 3) := by decide +kernel
theorem dX4_readOrder_88 : decode cX4_readOrder 88 = .ok (.invokevirtual 61, 3) := by decide +kernel
theorem dX4_readOrder_91 : decode cX4_readOrder 91 = .ok (.invokevirtual 38, 3) := by decide +kernel
theorem dX4_readOrder_94 : decode cX4_readOrder 94 = .ok (.goto 74, 3) := by decide +kernel
theorem dX4_readOrder_97 : decode cX4_readOrder 97 = .ok (.aload_n 0, 1) := by decide +kernel
theorem dX4_readOrder_98 : decode cX4_readOrder 98 = .ok (.getfield 20, 3) := by decide +kernel
theorem dX4_readOrder_101 : decode cX4_readOrder 101 = .ok (.iload_n 1, 1) := by decide +kernel
theorem dX4_readOrder_102 : decode cX4_readOrder 102 = .ok (.iconst 1, 1) := by decide +kernel
theorem dX4_readOrder_103 : decode cX4_readOrder 103 = .ok (.aload_n 0, 1) := by decide +kernel
theorem dX4_readOrder_104 : decode cX4_readOrder 104 = .ok (.iconst 0, 1) := by decide +kernel
theorem dX4_readOrder_105 : decode cX4_readOrder 105 = .ok (.bipush 9, 2) := by decide +kernel
theorem dX4_readOrder_107 : decode cX4_readOrder 107 = .ok (.invokevirtual 65, 3) := by decide +kernel
theorem dX4_readOrder_110 : decode cX4_readOrder 110 = .ok (.invokevirtual 38, 3) := by decide +kernel
theorem dX4_readOrder_113 : decode cX4_readOrder 113 = .ok (.aload_n 0, 1) := by decide +kernel
theorem dX4_readOrder_114 : decode cX4_readOrder 114 = .ok (.getfield 20, 3) := by decide +kernel
theorem dX4_readOrder_117 : decode cX4_readOrder 117 = .ok (.iload_n 1, 1) := by decide +kernel
theorem dX4_readOrder_118 : decode cX4_readOrder 118 = .ok (.iconst 2, 1) := by decide +kernel
theorem dX4_readOrder_119 : decode cX4_readOrder 119 = .ok (.aload_n 0, 1) := by decide +kernel
theorem dX4_readOrder_120 : decode cX4_readOrder 120 = .ok (.invokevirtual 69, 3) := by decide +kernel
theorem dX4_readOrder_123 : decode cX4_readOrder 123 = .ok (.aload_n 0, 1) := by decide +kernel
theorem dX4_readOrder_124 : decode cX4_readOrder 124 = .ok (.iconst 3, 1) := by decide +kernel
theorem dX4_readOrder_125 : decode cX4_readOrder 125 = .ok (.iconst 0, 1) := by decide +kernel
theorem dX4_readOrder_126 : decode cX4_readOrder 126 = .ok (.bipush 100, 2) := by decide +kernel
theorem dX4_readOrder_128 : decode cX4_readOrder 128 = .ok (.invokevirtual 61, 3) := by decide +kernel
theorem dX4_readOrder_131 : decode cX4_readOrder 131 = .ok (.imul, 1) := by decide +kernel
theorem dX4_readOrder_132 : decode cX4_readOrder 132 = .ok (.invokevirtual 38, 3) := by decide +kernel
theorem dX4_readOrder_135 : decode cX4_readOrder 135 = .ok (.goto 33, 3) := by decide +kernel
theorem dX4_readOrder_138 : decode cX4_readOrder 138 = .ok (.aload_n 0, 1) := by decide +kernel
theorem dX4_readOrder_139 : decode cX4_readOrder 139 = .ok (.getfield 20, 3) := by decide +kernel
theorem dX4_readOrder_142 : decode cX4_readOrder 142 = .ok (.iload_n 1, 1) := by decide +kernel
theorem dX4_readOrder_143 : decode cX4_readOrder 143 = .ok (.iconst 1, 1) := by decide +kernel
theorem dX4_readOrder_144 : decode cX4_readOrder 144 = .ok (.aload_n 0, 1) := by decide +kernel
theorem dX4_readOrder_145 : decode cX4_readOrder 145 = .ok (.iconst 2, 1) := by decide +kernel
theorem dX4_readOrder_146 : decode cX4_readOrder 146 = .ok (.iconst 1, 1) := by decide +kernel
theorem dX4_readOrder_147 : decode cX4_readOrder 147 = .ok (.bipush 50, 2) := by decide +kernel
theorem dX4_readOrder_149 : decode cX4_readOrder 149 = .ok (.invokevirtual 61, 3) := by decide +kernel
theorem dX4_readOrder_152 : decode cX4_readOrder 152 = .ok (.invokevirtual 38, 3) := by decide +kernel
theorem dX4_readOrder_155 : decode cX4_readOrder 155 = .ok (.goto 13, 3) := by decide +kernel
theorem dX4_readOrder_158 : decode cX4_readOrder 158 = .ok (.aload_n 0, 1) := by decide +kernel
theorem dX4_readOrder_159 : decode cX4_readOrder 159 = .ok (.aload_n 0, 1) := by decide +kernel
theorem dX4_readOrder_160 : decode cX4_readOrder 160 = .ok (.getfield 45, 3) := by decide +kernel
theorem dX4_readOrder_163 : decode cX4_readOrder 163 = .ok (.iconst 1, 1) := by decide +kernel
theorem dX4_readOrder_164 : decode cX4_readOrder 164 = .ok (.isub, 1) := by decide +kernel
theorem dX4_readOrder_165 : decode cX4_readOrder 165 = .ok (.invokevirtual 72, 3) := by decide +kernel
theorem dX4_readOrder_168 : decode cX4_readOrder 168 = .ok (.aload_n 0, 1) := by decide +kernel
theorem dX4_readOrder_169 : decode cX4_readOrder 169 = .ok (.bipush 59, 2) := by decide +kernel
theorem dX4_readOrder_171 : decode cX4_readOrder 171 = .ok (.invokevirtual 75, 3) := by decide +kernel
theorem dX4_readOrder_174 : decode cX4_readOrder 174 = .ok (.return_, 1) := by decide +kernel
set_option maxRecDepth 20000 in
theorem ggX4_readGrant_X4_readDigit : GoodIn wsX4_readGrant wsX4_readDigit := goodIn_r _ [6, 7, 8, 9, 10, 5, 11, 12, 13, 14, 15, 16, 17, 18, 19, 20, 21, 22, 23, 24, 25, 26, 27, 28, 29, 30, 31, 32, 48, 49, 50, 51, 52, 53, 54, 55] (by decide +kernel) (by decide +kernel)
set_option maxRecDepth 20000 in
theorem gX4_readGrant_X4_readDigit : GoodIn wsX4_readGrant (wsV RX4 65 RX4 yX4_readDigit wsX4_readDigit) := goodIn_app (goodIn_of _ (by decide +kernel)) ggX4_readGrant_X4_readDigit
set_option maxRecDepth 20000 in
theorem ggX4_readGrant_X3_put : GoodIn wsX4_readGrant wsX3_put := goodIn_r _ [36, 18, 23, 24, 52, 53, 54, 55] (by decide +kernel) (by decide +kernel)
set_option maxRecDepth 20000 in
theorem gX4_readGrant_X3_put : GoodIn wsX4_readGrant (wsV RX4 38 RX3 yX3_put wsX3_put) := goodIn_app (goodIn_of _ (by decide +kernel)) ggX4_readGrant_X3_put
set_option maxRecDepth 20000 in
theorem ggX4_readGrant_X4_readByte : GoodIn wsX4_readGrant wsX4_readByte := goodIn_r _ [40, 7, 8, 9, 10, 5, 11, 12, 13, 14, 15, 16, 17, 18, 19, 20, 21, 22, 23, 24, 28, 29, 30, 31, 32, 48, 49, 50, 51, 52, 53, 54, 55] (by decide +kernel) (by decide +kernel)
set_option maxRecDepth 20000 in
theorem gX4_readGrant_X4_readByte : GoodIn wsX4_readGrant (wsV RX4 75 RX4 yX4_readByte wsX4_readByte) := goodIn_app (goodIn_of _ (by decide +kernel)) ggX4_readGrant_X4_readByte
set_option maxRecDepth 20000 in
theorem ggX4_readGrant_X4_readNumber : GoodIn wsX4_readGrant wsX4_readNumber := goodIn_r _ [44, 7, 8, 9, 10, 5, 11, 12, 13, 14, 15, 16, 17, 18, 19, 20, 21, 22, 23, 24, 45, 46, 47, 25, 26, 27, 28, 29, 30, 31, 32, 48, 49, 50, 51, 52, 53, 54, 55] (by decide +kernel) (by decide +kernel)
set_option maxRecDepth 20000 in
theorem gX4_readGrant_X4_readNumber : GoodIn wsX4_readGrant (wsV RX4 61 RX4 yX4_readNumber wsX4_readNumber) := goodIn_app (goodIn_of _ (by decide +kernel)) ggX4_readGrant_X4_readNumber
theorem dX4_readGrant_0 : decode cX4_readGrant 0 = .ok (.aload_n 0, 1) := by decide +kernel
theorem dX4_readGrant_1 : decode cX4_readGrant 1 = .ok (.getfield 20, 3) := by decide +kernel
theorem dX4_readGrant_4 : decode cX4_readGrant 4 = .ok (.iload_n 1, 1) := by decide +kernel
theorem dX4_readGrant_5 : decode cX4_readGrant 5 = .ok (.iconst 1, 1) := by decide +kernel
theorem dX4_readGrant_6 : decode cX4_readGrant 6 = .ok (.aload_n 0, 1) := by decide +kernel
theorem dX4_readGrant_7 : decode cX4_readGrant 7 = .ok (.iconst 0, 1) := by decide +kernel
theorem dX4_readGrant_8 : decode cX4_readGrant 8 = .ok (.bipush 9, 2) := by decide +kernel
theorem dX4_readGrant_10 : decode cX4_readGrant 10 = .ok (.invokevirtual 65, 3) := by decide +kernel
theorem dX4_readGrant_13 : decode cX4_readGrant 13 = .ok (.invokevirtual 38, 3) := by decide +kernel
theorem dX4_readGrant_16 : decode cX4_readGrant 16 = .ok (.aload_n 0, 1) := by decide +kernel
theorem dX4_readGrant_17 : decode cX4_readGrant 17 = .ok (.getfield 20, 3) := by decide +kernel
theorem dX4_readGrant_20 : decode cX4_readGrant 20 = .ok (.iload_n 1, 1) := by decide +kernel
theorem dX4_readGrant_21 : decode cX4_readGrant 21 = .ok (.iconst 2, 1) := by decide +kernel
theorem dX4_readGrant_22 : decode cX4_readGrant 22 = .ok (.aload_n 0, 1) := by decide +kernel
theorem dX4_readGrant_23 : decode cX4_readGrant 23 = .ok (.iconst 0, 1) := by decide +kernel
theorem dX4_readGrant_24 : decode cX4_readGrant 24 = .ok (.bipush 9, 2) := by decide +kernel
theorem dX4_readGrant_26 : decode cX4_readGrant 26 = .ok (.invokevirtual 65, 3) := by decide +kernel
theorem dX4_readGrant_29 : decode cX4_readGrant 29 = .ok (.invokevirtual 38, 3) := by decide +kernel
theorem dX4_readGrant_32 : decode cX4_readGrant 32 = .ok (.aload_n 0, 1) := by decide +kernel
theorem dX4_readGrant_33 : decode cX4_readGrant 33 = .ok (.getfield 20, 3) := by decide +kernel
theorem dX4_readGrant_36 : decode cX4_readGrant 36 = .ok (.iload_n 1, 1) := by decide +kernel
theorem dX4_readGrant_37 : decode cX4_readGrant 37 = .ok (.iconst 3, 1) := by decide +kernel
theorem dX4_readGrant_38 : decode cX4_readGrant 38 = .ok (.aload_n 0, 1) := by decide +kernel
theorem dX4_readGrant_39 : decode cX4_readGrant 39 = .ok (.iconst 0, 1) := by decide +kernel
theorem dX4_readGrant_40 : decode cX4_readGrant 40 = .ok (.bipush 7, 2) := by decide +kernel
theorem dX4_readGrant_42 : decode cX4_readGrant 42 = .ok (.invokevirtual 65, 3) := by decide +kernel
theorem dX4_readGrant_45 : decode cX4_readGrant 45 = .ok (.invokevirtual 38, 3) := by decide +kernel
theorem dX4_readGrant_48 : decode cX4_readGrant 48 = .ok (.aload_n 0, 1) := by decide +kernel
theorem dX4_readGrant_49 : decode cX4_readGrant 49 = .ok (.getfield 20, 3) := by decide +kernel
theorem dX4_readGrant_52 : decode cX4_readGrant 52 = .ok (.iload_n 1, 1) := by decide +kernel
theorem dX4_readGrant_53 : decode cX4_readGrant 53 = .ok (.iconst 4, 1) := by decide +kernel
theorem dX4_readGrant_54 : decode cX4_readGrant 54 = .ok (.aload_n 0, 1) := by decide +kernel
theorem dX4_readGrant_55 : decode cX4_readGrant 55 = .ok (.iconst 1, 1) := by decide +kernel
theorem dX4_readGrant_56 : decode cX4_readGrant 56 = .ok (.bipush 7, 2) := by decide +kernel
theorem dX4_readGrant_58 : decode cX4_readGrant 58 = .ok (.invokevirtual 65, 3) := by decide +kernel
theorem dX4_readGrant_61 : decode cX4_readGrant 61 = .ok (.invokevirtual 38, 3) := by decide +kernel
theorem dX4_readGrant_64 : decode cX4_readGrant 64 = .ok (.aload_n 0, 1) := by decide +kernel
theorem dX4_readGrant_65 : decode cX4_readGrant 65 = .ok (.bipush 44, 2) := by decide +kernel
theorem dX4_readGrant_67 : decode cX4_readGrant 67 = .ok (.invokevirtual 75, 3) := by decide +kernel
theorem dX4_readGrant_70 : decode cX4_readGrant 70 = .ok (.aload_n 0, 1) := by decide +kernel
theorem dX4_readGrant_71 : decode cX4_readGrant 71 = .ok (.getfield 20, 3) := by decide +kernel
theorem dX4_readGrant_74 : decode cX4_readGrant 74 = .ok (.iload_n 1, 1) := by decide +kernel
theorem dX4_readGrant_75 : decode cX4_readGrant 75 = .ok (.iconst 5, 1) := by decide +kernel
theorem dX4_readGrant_76 : decode cX4_readGrant 76 = .ok (.aload_n 0, 1) := by decide +kernel
theorem dX4_readGrant_77 : decode cX4_readGrant 77 = .ok (.iconst 3, 1) := by decide +kernel
theorem dX4_readGrant_78 : decode cX4_readGrant 78 = .ok (.iconst 0, 1) := by decide +kernel
theorem dX4_readGrant_79 : decode cX4_readGrant 79 = .ok (.bipush 100, 2) := by decide +kernel
theorem dX4_readGrant_81 : decode cX4_readGrant 81 = .ok (.invokevirtual 61, 3) := by decide +kernel
theorem dX4_readGrant_84 : decode cX4_readGrant 84 = .ok (.invokevirtual 38, 3) := by decide +kernel
theorem dX4_readGrant_87 : decode cX4_readGrant 87 = .ok (.return_, 1) := by decide +kernel
set_option maxRecDepth 20000 in
theorem ggX4_readByte_X4_current : GoodIn wsX4_readByte wsX4_current := goodIn_r _ [6, 7, 1, 8, 9, 10, 11, 12, 13, 14, 15, 16, 17, 18, 19, 25, 26, 27, 28, 29, 30, 31, 32] (by decide +kernel) (by decide +kernel)
set_option maxRecDepth 20000 in
theorem gX4_readByte_X4_current : GoodIn wsX4_readByte (wsV RX4 55 RX4 yX4_current wsX4_current) := goodIn_app (goodIn_of _ (by decide +kernel)) ggX4_readByte_X4_current
set_option maxRecDepth 20000 in
theorem ggX4_readByte_X4_fail : GoodIn wsX4_readByte wsX4_fail := goodIn_r _ [23, 24, 25, 26, 27, 28] (by decide +kernel) (by decide +kernel)
set_option maxRecDepth 20000 in
theorem gX4_readByte_X4_fail : GoodIn wsX4_readByte (wsV RX4 72 RX4 yX4_fail wsX4_fail) := goodIn_app (goodIn_of _ (by decide +kernel)) ggX4_readByte_X4_fail
theorem dX4_readByte_0 : decode cX4_readByte 0 = .ok (.aload_n 0, 1) := by decide +kernel
theorem dX4_readByte_1 : decode cX4_readByte 1 = .ok (.invokevirtual 55, 3) := by decide +kernel
theorem dX4_readByte_4 : decode cX4_readByte 4 = .ok (.iload_n 1, 1) := by decide +kernel
theorem dX4_readByte_5 : decode cX4_readByte 5 = .ok (.if_icmp .eq 11, 3) := by decide +kernel
theorem dX4_readByte_8 : decode cX4_readByte 8 = .ok (.aload_n 0, 1) := by decide +kernel
theorem dX4_readByte_9 : decode cX4_readByte 9 = .ok (.aload_n 0, 1) := by decide +kernel
theorem dX4_readByte_10 : decode cX4_readByte 10 = .ok (.getfield 45, 3) := by decide +kernel
theorem dX4_readByte_13 : decode cX4_readByte 13 = .ok (.invokevirtual 72, 3) := by decide +kernel
theorem dX4_readByte_16 : decode cX4_readByte 16 = .ok (.aload_n 0, 1) := by decide +kernel
theorem dX4_readByte_17 : decode cX4_readByte 17 = .ok (.dup, 1) := by decide +kernel
theorem dX4_readByte_18 : decode cX4_readByte 18 = .ok (.getfield 45, 3) := by decide +kernel
theorem dX4_readByte_21 : decode cX4_readByte 21 = .ok (.iconst 1, 1) := by decide +kernel
theorem dX4_readByte_22 : decode cX4_readByte 22 = .ok (.iadd, 1) := by decide +kernel
theorem dX4_readByte_23 : decode cX4_readByte 23 = .ok (.putfield 45, 3) := by decide +kernel
theorem dX4_readByte_26 : decode cX4_readByte 26 = .ok (.return_, 1) := by decide +kernel
set_option maxRecDepth 20000 in
theorem ggX4_readSign_X4_current : GoodIn wsX4_readSign wsX4_current := goodIn_r _ [6, 7, 1, 8, 9, 10, 11, 12, 13, 14, 15, 16, 17, 18, 19, 25, 26, 27, 28, 29, 30, 31, 32] (by decide +kernel) (by decide +kernel)
set_option maxRecDepth 20000 in
theorem gX4_readSign_X4_current : GoodIn wsX4_readSign (wsV RX4 55 RX4 yX4_current wsX4_current) := goodIn_app (goodIn_of _ (by decide +kernel)) ggX4_readSign_X4_current
set_option maxRecDepth 20000 in
theorem ggX4_readSign_X4_fail : GoodIn wsX4_readSign wsX4_fail := goodIn_r _ [23, 24, 25, 26, 27, 28] (by decide +kernel) (by decide +kernel)
set_option maxRecDepth 20000 in
theorem gX4_readSign_X4_fail : GoodIn wsX4_readSign (wsV RX4 72 RX4 yX4_fail wsX4_fail) := goodIn_app (goodIn_of _ (by decide +kernel)) ggX4_readSign_X4_fail
theorem dX4_readSign_0 : decode cX4_readSign 0 = .ok (.aload_n 0, 1) := by decide +kernel
theorem dX4_readSign_1 : decode cX4_readSign 1 = .ok (.invokevirtual 55, 3) := by decide +kernel
theorem dX4_readSign_4 : decode cX4_readSign 4 = .ok (.bipush 45, 2) := by decide +kernel
theorem dX4_readSign_6 : decode cX4_readSign 6 = .ok (.if_icmp .ne 7, 3) := by decide +kernel
theorem dX4_readSign_9 : decode cX4_readSign 9 = .ok (.iconst (-1), 1) := by decide +kernel
theorem dX4_readSign_10 : decode cX4_readSign 10 = .ok (.goto 4, 3) := by decide +kernel
theorem dX4_readSign_13 : decode cX4_readSign 13 = .ok (.iconst 1, 1) := by decide +kernel
theorem dX4_readSign_14 : decode cX4_readSign 14 = .ok (.istore_n 1, 1) := by decide +kernel
theorem dX4_readSign_15 : decode cX4_readSign 15 = .ok (.aload_n 0, 1) := by decide +kernel
theorem dX4_readSign_16 : decode cX4_readSign 16 = .ok (.invokevirtual 55, 3) := by decide +kernel
theorem dX4_readSign_19 : decode cX4_readSign 19 = .ok (.bipush 43, 2) := by decide +kernel
theorem dX4_readSign_21 : decode cX4_readSign 21 = .ok (.if_icmp .eq 20, 3) := by decide +kernel
theorem dX4_readSign_24 : decode cX4_readSign 24 = .ok (.aload_n 0, 1) := by decide +kernel
theorem dX4_readSign_25 : decode cX4_readSign 25 = .ok (.invokevirtual 55, 3) := by decide +kernel
theorem dX4_readSign_28 : decode cX4_readSign 28 = .ok (.bipush 45, 2) := by decide +kernel
theorem dX4_readSign_30 : decode cX4_readSign 30 = .ok (.if_icmp .eq 11, 3) := by decide +kernel
theorem dX4_readSign_33 : decode cX4_readSign 33 = .ok (.aload_n 0, 1) := by decide +kernel
theorem dX4_readSign_34 : decode cX4_readSign 34 = .ok (.aload_n 0, 1) := by decide +kernel
theorem dX4_readSign_35 : decode cX4_readSign 35 = .ok (.getfield 45, 3) := by decide +kernel
theorem dX4_readSign_38 : decode cX4_readSign 38 = .ok (.invokevirtual 72, 3) := by decide +kernel
theorem dX4_readSign_41 : decode cX4_readSign 41 = .ok (.aload_n 0, 1) := by decide +kernel
theorem dX4_readSign_42 : decode cX4_readSign 42 = .ok (.dup, 1) := by decide +kernel
theorem dX4_readSign_43 : decode cX4_readSign 43 = .ok (.getfield 45, 3) := by decide +kernel
theorem dX4_readSign_46 : decode cX4_readSign 46 = .ok (.iconst 1, 1) := by decide +kernel
theorem dX4_readSign_47 : decode cX4_readSign 47 = .ok (.iadd, 1) := by decide +kernel
theorem dX4_readSign_48 : decode cX4_readSign 48 = .ok (.putfield 45, 3) := by decide +kernel
theorem dX4_readSign_51 : decode cX4_readSign 51 = .ok (.iload_n 1, 1) := by decide +kernel
theorem dX4_readSign_52 : decode cX4_readSign 52 = .ok (.ireturn, 1) := by decide +kernel
set_option maxRecDepth 20000 in
theorem ggX4_readDigit_X4_current : GoodIn wsX4_readDigit wsX4_current := goodIn_r _ [6, 7, 1, 8, 9, 10, 11, 12, 13, 14, 15, 16, 17, 18, 19, 28, 29, 30, 31, 32, 33, 34, 35] (by decide +kernel) (by decide +kernel)
set_option maxRecDepth 20000 in
theorem gX4_readDigit_X4_current : GoodIn wsX4_readDigit (wsV RX4 55 RX4 yX4_current wsX4_current) := goodIn_app (goodIn_of _ (by decide +kernel)) ggX4_readDigit_X4_current
set_option maxRecDepth 20000 in
theorem ggX4_readDigit_X5_isBetween : GoodIn wsX4_readDigit wsX5_isBetween := goodIn_r _ [22] (by decide +kernel) (by decide +kernel)
set_option maxRecDepth 20000 in
theorem gX4_readDigit_X5_isBetween_n78 : GoodIn wsX4_readDigit (wsX5_isBetween) := ggX4_readDigit_X5_isBetween
set_option maxRecDepth 20000 in
theorem ggX4_readDigit_X4_fail : GoodIn wsX4_readDigit wsX4_fail := goodIn_r _ [26, 27, 28, 29, 30, 31] (by decide +kernel) (by decide +kernel)
set_option maxRecDepth 20000 in
theorem gX4_readDigit_X4_fail : GoodIn wsX4_readDigit (wsV RX4 72 RX4 yX4_fail wsX4_fail) := goodIn_app (goodIn_of _ (by decide +kernel)) ggX4_readDigit_X4_fail
theorem dX4_readDigit_0 : decode cX4_readDigit 0 = .ok (.aload_n 0, 1) := by decide +kernel
theorem dX4_readDigit_1 : decode cX4_readDigit 1 = .ok (.invokevirtual 55, 3) := by decide +kernel
theorem dX4_readDigit_4 : decode cX4_readDigit 4 = .ok (.bipush 48, 2) := by decide +kernel
theorem dX4_readDigit_6 : decode cX4_readDigit 6 = .ok (.isub, 1) := by decide +kernel
theorem dX4_readDigit_7 : decode cX4_readDigit 7 = .ok (.istore_n 3, 1) := by decide +kernel
theorem dX4_readDigit_8 : decode cX4_readDigit 8 = .ok (.iload_n 3, 1) := by decide +kernel
theorem dX4_readDigit_9 : decode cX4_readDigit 9 = .ok (.iload_n 1, 1) := by decide +kernel
theorem dX4_readDigit_10 : decode cX4_readDigit 10 = .ok (.iload_n 2, 1) := by decide +kernel
theorem dX4_readDigit_11 : decode cX4_readDigit 11 = .ok (.invokestatic 78, 3) := by decide +kernel
theorem dX4_readDigit_14 : decode cX4_readDigit 14 = .ok (.ifCond .ne 11, 3) := by decide +kernel
theorem dX4_readDigit_17 : decode cX4_readDigit 17 = .ok (.aload_n 0, 1) := by decide +kernel
theorem dX4_readDigit_18 : decode cX4_readDigit 18 = .ok (.aload_n 0, 1) := by decide +kernel
theorem dX4_readDigit_19 : decode cX4_readDigit 19 = .ok (.getfield 45, 3) := by decide +kernel
theorem dX4_readDigit_22 : decode cX4_readDigit 22 = .ok (.invokevirtual 72, 3) := by decide +kernel
theorem dX4_readDigit_25 : decode cX4_readDigit 25 = .ok (.aload_n 0, 1) := by decide +kernel
theorem dX4_readDigit_26 : decode cX4_readDigit 26 = .ok (.dup, 1) := by decide +kernel
theorem dX4_readDigit_27 : decode cX4_readDigit 27 = .ok (.getfield 45, 3) := by decide +kernel
theorem dX4_readDigit_30 : decode cX4_readDigit 30 = .ok (.iconst 1, 1) := by decide +kernel
theorem dX4_readDigit_31 : decode cX4_readDigit 31 = .ok (.iadd, 1) := by decide +kernel
theorem dX4_readDigit_32 : decode cX4_readDigit 32 = .ok (.putfield 45, 3) := by decide +kernel
theorem dX4_readDigit_35 : decode cX4_readDigit 35 = .ok (.iload_n 3, 1) := by decide +kernel
theorem dX4_readDigit_36 : decode cX4_readDigit 36 = .ok (.ireturn, 1) := by decide +kernel
set_option maxRecDepth 20000 in
theorem ggX4_readNumber_X4_current : GoodIn wsX4_readNumber wsX4_current := goodIn_r _ [6, 7, 1, 8, 9, 10, 11, 12, 13, 14, 15, 16, 17, 18, 19, 31, 32, 33, 34, 35, 36, 37, 38] (by decide +kernel) (by decide +kernel)
set_option maxRecDepth 20000 in
theorem gX4_readNumber_X4_current : GoodIn wsX4_readNumber (wsV RX4 55 RX4 yX4_current wsX4_current) := goodIn_app (goodIn_of _ (by decide +kernel)) ggX4_readNumber_X4_current
set_option maxRecDepth 20000 in
theorem ggX4_readNumber_X4_isDigit : GoodIn wsX4_readNumber wsX4_isDigit := goodIn_r _ [22, 23, 24, 25] (by decide +kernel) (by decide +kernel)
set_option maxRecDepth 20000 in
theorem gX4_readNumber_X4_isDigit : GoodIn wsX4_readNumber (va_wsS RX4 82 yX4_isDigit wsX4_isDigit) := goodIn_app (goodIn_of _ (by decide +kernel)) ggX4_readNumber_X4_isDigit
set_option maxRecDepth 20000 in
theorem ggX4_readNumber_X4_fail : GoodIn wsX4_readNumber wsX4_fail := goodIn_r _ [29, 30, 31, 32, 33, 34] (by decide +kernel) (by decide +kernel)
set_option maxRecDepth 20000 in
theorem gX4_readNumber_X4_fail : GoodIn wsX4_readNumber (wsV RX4 72 RX4 yX4_fail wsX4_fail) := goodIn_app (goodIn_of _ (by decide +kernel)) ggX4_readNumber_X4_fail
set_option maxRecDepth 20000 in
theorem ggX4_readNumber_X5_isBetween : GoodIn wsX4_readNumber wsX5_isBetween := goodIn_r _ [25] (by decide +kernel) (by decide +kernel)
set_option maxRecDepth 20000 in
theorem gX4_readNumber_X5_isBetween_n78 : GoodIn wsX4_readNumber (wsX5_isBetween) := ggX4_readNumber_X5_isBetween
theorem dX4_readNumber_0 : decode cX4_readNumber 0 = .ok (.aload_n 0, 1) := by decide +kernel
theorem dX4_readNumber_1 : decode cX4_readNumber 1 = .ok (.getfield 45, 3) := by decide +kernel
theorem dX4_readNumber_4 : decode cX4_readNumber 4 = .ok (.istore 4, 2) := by decide +kernel
theorem dX4_readNumber_6 : decode cX4_readNumber 6 = .ok (.iconst 0, 1) := by decide +kernel
theorem dX4_readNumber_7 : decode cX4_readNumber 7 = .ok (.istore 5, 2) := by decide +kernel
theorem dX4_readNumber_9 : decode cX4_readNumber 9 = .ok (.iconst 0, 1) := by decide +kernel
theorem dX4_readNumber_10 : decode cX4_readNumber 10 = .ok (.istore 6, 2) := by decide +kernel
theorem dX4_readNumber_12 : decode cX4_readNumber 12 = .ok (.iload 6, 2) := by decide +kernel
theorem dX4_readNumber_14 : decode cX4_readNumber 14 = .ok (.iload_n 1, 1) := by decide +kernel
theorem dX4_readNumber_15 : decode cX4_readNumber 15 = .ok (.if_icmp .ge 44, 3) := by decide +kernel
theorem dX4_readNumber_18 : decode cX4_readNumber 18 = .ok (.aload_n 0, 1) := by decide +kernel
theorem dX4_readNumber_19 : decode cX4_readNumber 19 = .ok (.invokevirtual 55, 3) := by decide +kernel
theorem dX4_readNumber_22 : decode cX4_readNumber 22 = .ok (.invokestatic 82, 3) := by decide +kernel
theorem dX4_readNumber_25 : decode cX4_readNumber 25 = .ok (.ifCond .eq 34, 3) := by decide +kernel
theorem dX4_readNumber_28 : decode cX4_readNumber 28 = .ok (.bipush 10, 2) := by decide +kernel
theorem dX4_readNumber_30 : decode cX4_readNumber 30 = .ok (.iload 5, 2) := by decide +kernel
theorem dX4_readNumber_32 : decode cX4_readNumber 32 = .ok (.imul, 1) := by decide +kernel
theorem dX4_readNumber_33 : decode cX4_readNumber 33 = .ok (.aload_n 0, 1) := by decide +kernel
theorem dX4_readNumber_34 : decode cX4_readNumber 34 = .ok (.invokevirtual 55, 3) := by decide +kernel
theorem dX4_readNumber_37 : decode cX4_readNumber 37 = .ok (.iadd, 1) := by decide +kernel
theorem dX4_readNumber_38 : decode cX4_readNumber 38 = .ok (.bipush 48, 2) := by decide +kernel
theorem dX4_readNumber_40 : decode cX4_readNumber 40 = .ok (.isub, 1) := by decide +kernel
theorem dX4_readNumber_41 : decode cX4_readNumber 41 = .ok (.istore 5, 2) := by decide +kernel
theorem dX4_readNumber_43 : decode cX4_readNumber 43 = .ok (.aload_n 0, 1) := by decide +kernel
theorem dX4_readNumber_44 : decode cX4_readNumber 44 = .ok (.dup, 1) := by decide +kernel
theorem dX4_readNumber_45 : decode cX4_readNumber 45 = .ok (.getfield 45, 3) := by decide +kernel
theorem dX4_readNumber_48 : decode cX4_readNumber 48 = .ok (.iconst 1, 1) := by decide +kernel
theorem dX4_readNumber_49 : decode cX4_readNumber 49 = .ok (.iadd, 1) := by decide +kernel
theorem dX4_readNumber_50 : decode cX4_readNumber 50 = .ok (.putfield 45, 3) := by decide +kernel
theorem dX4_readNumber_53 : decode cX4_readNumber 53 = .ok (.iinc 6 1, 3) := by decide +kernel
theorem dX4_readNumber_56 : decode cX4_readNumber 56 = .ok (.goto (-44), 3) := by decide +kernel
theorem dX4_readNumber_59 : decode cX4_readNumber 59 = .ok (.aload_n 0, 1) := by decide +kernel
theorem dX4_readNumber_60 : decode cX4_readNumber 60 = .ok (.getfield 45, 3) := by decide +kernel
theorem dX4_readNumber_63 : decode cX4_readNumber 63 = .ok (.iload 4, 2) := by decide +kernel
theorem dX4_readNumber_65 : decode cX4_readNumber 65 = .ok (.if_icmp .eq 13, 3) := by decide +kernel
theorem dX4_readNumber_68 : decode cX4_readNumber 68 = .ok (.aload_n 0, 1) := by decide +kernel
theorem dX4_readNumber_69 : decode cX4_readNumber 69 = .ok (.invokevirtual 55, 3) := by decide +kernel
theorem dX4_readNumber_72 : decode cX4_readNumber 72 = .ok (.invokestatic 82, 3) := by decide +kernel
theorem dX4_readNumber_75 : decode cX4_readNumber 75 = .ok (.ifCond .eq 14, 3) := by decide +kernel
theorem dX4_readNumber_78 : decode cX4_readNumber 78 = .ok (.aload_n 0, 1) := by decide +kernel
theorem dX4_readNumber_79 : decode cX4_readNumber 79 = .ok (.aload_n 0, 1) := by decide +kernel
theorem dX4_readNumber_80 : decode cX4_readNumber 80 = .ok (.getfield 45, 3) := by decide +kernel
theorem dX4_readNumber_83 : decode cX4_readNumber 83 = .ok (.invokevirtual 72, 3) := by decide +kernel
theorem dX4_readNumber_86 : decode cX4_readNumber 86 = .ok (.goto 19, 3) := by decide +kernel
theorem dX4_readNumber_89 : decode cX4_readNumber 89 = .ok (.iload 5, 2) := by decide +kernel
theorem dX4_readNumber_91 : decode cX4_readNumber 91 = .ok (.iload_n 2, 1) := by decide +kernel
theorem dX4_readNumber_92 : decode cX4_readNumber 92 = .ok (.iload_n 3, 1) := by decide +kernel
theorem dX4_readNumber_93 : decode cX4_readNumber 93 = .ok (.invokestatic 78, 3) := by decide +kernel
theorem dX4_readNumber_96 : decode cX4_readNumber 96 = .ok (.ifCond .ne 9, 3) := by decide +kernel
theorem dX4_readNumber_99 : decode cX4_readNumber 99 = .ok (.aload_n 0, 1) := by decide +kernel
theorem dX4_readNumber_100 : decode cX4_readNumber 100 = .ok (.iload 4, 2) := by decide +kernel
theorem dX4_readNumber_102 : decode cX4_readNumber 102 = .ok (.invokevirtual 72, 3) := by decide +kernel
theorem dX4_readNumber_105 : decode cX4_readNumber 105 = .ok (.iload 5, 2) := by decide +kernel
theorem dX4_readNumber_107 : decode cX4_readNumber 107 = .ok (.ireturn, 1) := by decide +kernel
set_option maxRecDepth 20000 in
theorem ggX4_isDigit_X5_isBetween : GoodIn wsX4_isDigit wsX5_isBetween := goodIn_r _ [3] (by decide +kernel) (by decide +kernel)
set_option maxRecDepth 20000 in
theorem gX4_isDigit_X5_isBetween_n78 : GoodIn wsX4_isDigit (wsX5_isBetween) := ggX4_isDigit_X5_isBetween
theorem dX4_isDigit_0 : decode cX4_isDigit 0 = .ok (.iload_n 0, 1) := by decide +kernel
theorem dX4_isDigit_1 : decode cX4_isDigit 1 = .ok (.bipush 48, 2) := by decide +kernel
theorem dX4_isDigit_3 : decode cX4_isDigit 3 = .ok (.bipush 57, 2) := by decide +kernel
theorem dX4_isDigit_5 : decode cX4_isDigit 5 = .ok (.invokestatic 78, 3) := by decide +kernel
theorem dX4_isDigit_8 : decode cX4_isDigit 8 = .ok (.ireturn, 1) := by decide +kernel
set_option maxRecDepth 20000 in
theorem ggX4_current_X3_has : GoodIn wsX4_current wsX3_has := goodIn_r _ [7, 8, 19, 20, 21, 22] (by decide +kernel) (by decide +kernel)
set_option maxRecDepth 20000 in
theorem gX4_current_X3_has : GoodIn wsX4_current (wsV RX4 86 RX3 yX3_has wsX3_has) := goodIn_app (goodIn_of _ (by decide +kernel)) ggX4_current_X3_has
set_option maxRecDepth 20000 in
theorem ggX4_current_X3_at : GoodIn wsX4_current wsX3_at := goodIn_r _ [12, 8, 13, 14, 19, 20, 21, 22] (by decide +kernel) (by decide +kernel)
set_option maxRecDepth 20000 in
theorem gX4_current_X3_at : GoodIn wsX4_current (wsV RX4 89 RX3 yX3_at wsX3_at) := goodIn_app (goodIn_of _ (by decide +kernel)) ggX4_current_X3_at
theorem dX4_current_0 : decode cX4_current 0 = .ok (.aload_n 0, 1) := by decide +kernel
theorem dX4_current_1 : decode cX4_current 1 = .ok (.getfield 14, 3) := by decide +kernel
theorem dX4_current_4 : decode cX4_current 4 = .ok (.aload_n 0, 1) := by decide +kernel
theorem dX4_current_5 : decode cX4_current 5 = .ok (.getfield 45, 3) := by decide +kernel
theorem dX4_current_8 : decode cX4_current 8 = .ok (.invokevirtual 86, 3) := by decide +kernel
theorem dX4_current_11 : decode cX4_current 11 = .ok (.ifCond .eq 18, 3) := by decide +kernel
theorem dX4_current_14 : decode cX4_current 14 = .ok (.aload_n 0, 1) := by decide +kernel
theorem dX4_current_15 : decode cX4_current 15 = .ok (.getfield 14, 3) := by decide +kernel
theorem dX4_current_18 : decode cX4_current 18 = .ok (.aload_n 0, 1) := by decide +kernel
theorem dX4_current_19 : decode cX4_current 19 = .ok (.getfield 45, 3) := by decide +kernel
theorem dX4_current_22 : decode cX4_current 22 = .ok (.iconst 0, 1) := by decide +kernel
theorem dX4_current_23 : decode cX4_current 23 = .ok (.invokevirtual 89, 3) := by decide +kernel
theorem dX4_current_26 : decode cX4_current 26 = .ok (.goto 4, 3) := by decide +kernel
theorem dX4_current_29 : decode cX4_current 29 = .ok (.iconst (-1), 1) := by decide +kernel
theorem dX4_current_30 : decode cX4_current 30 = .ok (.ireturn, 1) := by decide +kernel
theorem dX4_fail_0 : decode cX4_fail 0 = .ok (.aload_n 0, 1) := by decide +kernel
theorem dX4_fail_1 : decode cX4_fail 1 = .ok (.getfield 23, 3) := by decide +kernel
theorem dX4_fail_4 : decode cX4_fail 4 = .ok (.iconst (-1), 1) := by decide +kernel
theorem dX4_fail_5 : decode cX4_fail 5 = .ok (.if_icmp .ne 8, 3) := by decide +kernel
theorem dX4_fail_8 : decode cX4_fail 8 = .ok (.aload_n 0, 1) := by decide +kernel
theorem dX4_fail_9 : decode cX4_fail 9 = .ok (.iload_n 1, 1) := by decide +kernel
theorem dX4_fail_10 : decode cX4_fail 10 = .ok (.putfield 23, 3) := by decide +kernel
theorem dX4_fail_13 : decode cX4_fail 13 = .ok (.return_, 1) := by decide +kernel
set_option maxRecDepth 20000 in
theorem ggX5_init_X2_init : GoodIn wsX5_init wsX2_init := goodIn_r _ [23, 24, 2, 3, 25, 26, 27, 28, 29, 30, 31, 32, 33, 34, 35, 36, 37, 38, 39, 40, 41, 42, 43, 44, 45, 46, 47, 48, 49, 95, 96, 97, 98, 74, 75, 76, 77, 78, 79, 80, 81, 82] (by decide +kernel) (by decide +kernel)
set_option maxRecDepth 20000 in
theorem gX5_init_X2_init : GoodIn wsX5_init (wsX2_init) := ggX5_init_X2_init
set_option maxRecDepth 20000 in
theorem ggX5_init_X1_init : GoodIn wsX5_init wsX1_init := goodIn_r _ [52, 53, 2, 3, 54, 55, 5, 6, 56, 22, 23, 24, 25, 26, 27, 28, 29, 30, 31, 32, 33, 34, 35, 36, 37, 38, 39, 40, 41, 42, 43, 44, 45, 46, 47, 48, 49, 88, 89, 74, 75, 76, 77, 78, 79, 80, 81, 82, 95, 96, 97, 98] (by decide +kernel) (by decide +kernel)
set_option maxRecDepth 20000 in
theorem gX5_init_X1_init : GoodIn wsX5_init (wsX1_init) := ggX5_init_X1_init
set_option maxRecDepth 20000 in
theorem ggX5_init_X0_init : GoodIn wsX5_init wsX0_init := goodIn_r _ [59, 60, 2, 3, 61, 26, 27, 62, 63, 34, 35, 36, 37, 38, 39, 40, 64, 42, 43, 44, 45, 95, 96, 97, 98, 90] (by decide +kernel) (by decide +kernel)
set_option maxRecDepth 20000 in
theorem gX5_init_X0_init : GoodIn wsX5_init (wsX0_init) := ggX5_init_X0_init
set_option maxRecDepth 20000 in
theorem ggX5_init_X4_init : GoodIn wsX5_init wsX4_init := goodIn_r _ [67, 68, 2, 3, 69, 26, 27, 70, 71, 72, 73, 34, 35, 36, 37, 38, 39, 40, 95, 96, 97, 98, 91, 92, 93, 94] (by decide +kernel) (by decide +kernel)
set_option maxRecDepth 20000 in
theorem gX5_init_X4_init : GoodIn wsX5_init (wsX4_init) := ggX5_init_X4_init
theorem dX5_init_0 : decode cX5_init 0 = .ok (.aload_n 0, 1) := by decide +kernel
theorem dX5_init_1 : decode cX5_init 1 = .ok (.invokespecial 1, 3) := by decide +kernel
theorem dX5_init_4 : decode cX5_init 4 = .ok (.aload_n 0, 1) := by decide +kernel
theorem dX5_init_5 : decode cX5_init 5 = .ok (.new 7, 3) := by decide +kernel
theorem dX5_init_8 : decode cX5_init 8 = .ok (.dup, 1) := by decide +kernel
theorem dX5_init_9 : decode cX5_init 9 = .ok (.invokespecial 9, 3) := by decide +kernel
theorem dX5_init_12 : decode cX5_init 12 = .ok (.putfield 10, 3) := by decide +kernel
theorem dX5_init_15 : decode cX5_init 15 = .ok (.aload_n 0, 1) := by decide +kernel
theorem dX5_init_16 : decode cX5_init 16 = .ok (.new 7, 3) := by decide +kernel
theorem dX5_init_19 : decode cX5_init 19 = .ok (.dup, 1) := by decide +kernel
theorem dX5_init_20 : decode cX5_init 20 = .ok (.invokespecial 9, 3) := by decide +kernel
theorem dX5_init_23 : decode cX5_init 23 = .ok (.putfield 16, 3) := by decide +kernel
theorem dX5_init_26 : decode cX5_init 26 = .ok (.aload_n 0, 1) := by decide +kernel
theorem dX5_init_27 : decode cX5_init 27 = .ok (.new 19, 3) := by decide +kernel
theorem dX5_init_30 : decode cX5_init 30 = .ok (.dup, 1) := by decide +kernel
theorem dX5_init_31 : decode cX5_init 31 = .ok (.invokespecial 21, 3) := by decide +kernel
theorem dX5_init_34 : decode cX5_init 34 = .ok (.putfield 22, 3) := by decide +kernel
theorem dX5_init_37 : decode cX5_init 37 = .ok (.aload_n 0, 1) := by decide +kernel
theorem dX5_init_38 : decode cX5_init 38 = .ok (.new 26, 3) := by decide +kernel
theorem dX5_init_41 : decode cX5_init 41 = .ok (.dup, 1) := by decide +kernel
theorem dX5_init_42 : decode cX5_init 42 = .ok (.invokespecial 28, 3) := by decide +kernel
theorem dX5_init_45 : decode cX5_init 45 = .ok (.putfield 29, 3) := by decide +kernel
theorem dX5_init_48 : decode cX5_init 48 = .ok (.aload_n 0, 1) := by decide +kernel
theorem dX5_init_49 : decode cX5_init 49 = .ok (.new 33, 3) := by decide +kernel
theorem dX5_init_52 : decode cX5_init 52 = .ok (.dup, 1) := by decide +kernel
theorem dX5_init_53 : decode cX5_init 53 = .ok (.invokespecial 35, 3) := by decide +kernel
theorem dX5_init_56 : decode cX5_init 56 = .ok (.putfield 36, 3) := by decide +kernel
theorem dX5_init_59 : decode cX5_init 59 = .ok (.return_, 1) := by decide +kernel
set_option maxRecDepth 20000 in
theorem ggX5_addThing_X5_requirePerson : GoodIn wsX5_addThing wsX5_requirePerson := goodIn_ca (goodIn_r _ [9, 10, 11, 12, 13, 8, 14, 15, 16, 17] (by decide +kernel) (by decide +kernel)) (goodIn_sub (fun _ h => List.mem_cons_of_mem _ (List.mem_append_left _ (List.mem_append_right _ h))) (by decide +kernel))
set_option maxRecDepth 20000 in
theorem gX5_addThing_X5_requirePerson : GoodIn wsX5_addThing (va_wsS RX5 40 yX5_requirePerson wsX5_requirePerson) := goodIn_app (goodIn_of _ (by decide +kernel)) ggX5_addThing_X5_requirePerson
set_option maxRecDepth 20000 in
theorem ggX5_addThing_X5_requireMask : GoodIn wsX5_addThing wsX5_requireMask := goodIn_ca (goodIn_r _ [20, 21, 22, 8, 23, 24, 25, 15, 16, 17] (by decide +kernel) (by decide +kernel)) (goodIn_sub (fun _ h => List.mem_cons_of_mem _ (List.mem_append_right _ h)) (by decide +kernel))
set_option maxRecDepth 20000 in
theorem gX5_addThing_X5_requireMask : GoodIn wsX5_addThing (va_wsS RX5 44 yX5_requireMask wsX5_requireMask) := goodIn_app (goodIn_of _ (by decide +kernel)) ggX5_addThing_X5_requireMask
set_option maxRecDepth 20000 in
theorem ggX5_addThing_X3_isFull : GoodIn wsX5_addThing wsX3_isFull := goodIn_r _ [30, 31, 32, 106, 107, 108, 109] (by decide +kernel) (by decide +kernel)
set_option maxRecDepth 20000 in
theorem gX5_addThing_X3_isFull : GoodIn wsX5_addThing (wsV RX5 51 RX3 yX3_isFull wsX3_isFull) := goodIn_app (goodIn_of _ (by decide +kernel)) ggX5_addThing_X3_isFull
set_option maxRecDepth 20000 in
theorem ggX5_addThing_X1_keep : GoodIn wsX5_addThing wsX1_keep := goodIn_r _ [37, 38, 39, 40, 41, 42, 36, 43, 44, 45, 46, 47, 48, 49, 50, 51, 52, 53, 54, 55, 56, 57, 58, 59, 60, 29, 61, 31, 32, 62, 63, 110, 111, 97, 98, 99, 100, 101, 102, 103, 104, 105, 106, 107, 108, 109] (by decide +kernel) (by decide +kernel)
set_option maxRecDepth 20000 in
theorem gX5_addThing_X1_keep : GoodIn wsX5_addThing (wsV RX5 64 RX1 yX1_keep wsX1_keep) := goodIn_app (goodIn_of _ (by decide +kernel)) ggX5_addThing_X1_keep
set_option maxRecDepth 20000 in
theorem ggX5_addThing_X2_takeIn : GoodIn wsX5_addThing wsX2_takeIn := goodIn_r _ [67, 50, 53, 68, 69, 70, 29, 71, 31, 32, 72, 73, 74, 75, 62, 63, 76, 77, 78, 47, 79, 51, 80, 81, 82, 83, 84, 85, 86, 87, 88, 89, 90, 91, 97, 98, 99, 100, 101, 102, 103, 104, 105, 106, 107, 108, 109] (by decide +kernel) (by decide +kernel)
set_option maxRecDepth 20000 in
theorem gX5_addThing_X2_takeIn : GoodIn wsX5_addThing (wsV RX5 68 RX2 yX2_takeIn wsX2_takeIn) := goodIn_app (goodIn_of _ (by decide +kernel)) ggX5_addThing_X2_takeIn
theorem dX5_addThing_0 : decode cX5_addThing 0 = .ok (.iload_n 1, 1) := by decide +kernel
theorem dX5_addThing_1 : decode cX5_addThing 1 = .ok (.invokestatic 40, 3) := by decide +kernel
theorem dX5_addThing_4 : decode cX5_addThing 4 = .ok (.iload_n 2, 1) := by decide +kernel
theorem dX5_addThing_5 : decode cX5_addThing 5 = .ok (.invokestatic 44, 3) := by decide +kernel
theorem dX5_addThing_8 : decode cX5_addThing 8 = .ok (.aload_n 0, 1) := by decide +kernel
theorem dX5_addThing_9 : decode cX5_addThing 9 = .ok (.getfield 10, 3) := by decide +kernel
theorem dX5_addThing_12 : decode cX5_addThing 12 = .ok (.getfield 47, 3) := by decide +kernel
theorem dX5_addThing_15 : decode cX5_addThing 15 = .ok (.invokevirtual 51, 3) := by decide +kernel
theorem dX5_addThing_18 : decode cX5_addThing 18 = .ok (.ifCond .eq 13, 3) := by decide +kernel
theorem dX5_addThing_21 : decode cX5_addThing 21 = .ok (.new 57, 3) := by decide +kernel
theorem dX5_addThing_24 : decode cX5_addThing 24 = .ok (.dup, 1) := by decide +kernel
theorem dX5_addThing_25 : decode cX5_addThing 25 = .ok (.ldc 59, 2) := by decide +kernel
theorem dX5_addThing_27 : decode cX5_addThing 27 = .ok (.invokespecial 61, 3) := by decide +kernel
theorem dX5_addThing_30 : decode cX5_addThing 30 = .ok (.athrow, 1) := by decide +kernel
theorem dX5_addThing_31 : decode cX5_addThing 31 = .ok (.aload_n 0, 1) := by decide +kernel
theorem dX5_addThing_32 : decode cX5_addThing 32 = .ok (.getfield 22, 3) := by decide +kernel
theorem dX5_addThing_35 : decode cX5_addThing 35 = .ok (.aload_n 0, 1) := by decide +kernel
theorem dX5_addThing_36 : decode cX5_addThing 36 = .ok (.getfield 10, 3) := by decide +kernel
theorem dX5_addThing_39 : decode cX5_addThing 39 = .ok (.invokevirtual 64, 3) := by decide +kernel
theorem dX5_addThing_42 : decode cX5_addThing 42 = .ok (.aload_n 0, 1) := by decide +kernel
theorem dX5_addThing_43 : decode cX5_addThing 43 = .ok (.getfield 10, 3) := by decide +kernel
theorem dX5_addThing_46 : decode cX5_addThing 46 = .ok (.iload_n 1, 1) := by decide +kernel
theorem dX5_addThing_47 : decode cX5_addThing 47 = .ok (.iload_n 2, 1) := by decide +kernel
theorem dX5_addThing_48 : decode cX5_addThing 48 = .ok (.invokevirtual 68, 3) := by decide +kernel
theorem dX5_addThing_51 : decode cX5_addThing 51 = .ok (.ireturn, 1) := by decide +kernel
set_option maxRecDepth 20000 in
theorem ggX5_setMask_X5_requireThing : GoodIn wsX5_setMask wsX5_requireThing := goodIn_ca (goodIn_r _ [7, 8, 9, 2, 10, 11, 12, 13, 14, 15, 16, 84, 85, 86, 87, 88, 89, 90, 91, 92, 93, 94, 95, 96, 97, 98, 99, 100, 101] (by decide +kernel) (by decide +kernel)) (goodIn_sub (fun _ h => List.mem_cons_of_mem _ (List.mem_append_left _ (List.mem_append_right _ h))) (by decide +kernel))
set_option maxRecDepth 20000 in
theorem gX5_setMask_X5_requireThing : GoodIn wsX5_setMask (wsV RX5 72 RX5 yX5_requireThing wsX5_requireThing) := goodIn_app (goodIn_of _ (by decide +kernel)) ggX5_setMask_X5_requireThing
set_option maxRecDepth 20000 in
theorem ggX5_setMask_X5_requireMask : GoodIn wsX5_setMask wsX5_requireMask := goodIn_ca (goodIn_r _ [19, 20, 21, 6, 22, 23, 24, 25, 26, 27] (by decide +kernel) (by decide +kernel)) (goodIn_sub (fun _ h => List.mem_cons_of_mem _ (List.mem_append_right _ h)) (by decide +kernel))
set_option maxRecDepth 20000 in
theorem gX5_setMask_X5_requireMask : GoodIn wsX5_setMask (va_wsS RX5 44 yX5_requireMask wsX5_requireMask) := goodIn_app (goodIn_of _ (by decide +kernel)) ggX5_setMask_X5_requireMask
set_option maxRecDepth 20000 in
theorem ggX5_setMask_X1_keep : GoodIn wsX5_setMask wsX1_keep := goodIn_r _ [32, 33, 34, 35, 36, 37, 31, 38, 39, 40, 41, 42, 43, 44, 45, 46, 47, 48, 49, 50, 51, 52, 53, 54, 55, 14, 56, 16, 57, 58, 59, 102, 103, 89, 90, 91, 92, 93, 94, 95, 96, 97, 98, 99, 100, 101] (by decide +kernel) (by decide +kernel)
set_option maxRecDepth 20000 in
theorem gX5_setMask_X1_keep : GoodIn wsX5_setMask (wsV RX5 64 RX1 yX1_keep wsX1_keep) := goodIn_app (goodIn_of _ (by decide +kernel)) ggX5_setMask_X1_keep
set_option maxRecDepth 20000 in
theorem ggX5_setMask_X2_changeThing : GoodIn wsX5_setMask wsX2_changeThing := goodIn_r _ [63, 45, 64, 65, 66, 14, 67, 16, 58, 59, 68, 69, 70, 71, 72, 73, 74, 42, 75, 48, 46, 76, 77, 78, 79, 80, 81, 82, 83, 89, 90, 91, 92, 93, 94, 95, 96, 97, 98, 99, 100, 101] (by decide +kernel) (by decide +kernel)
set_option maxRecDepth 20000 in
theorem gX5_setMask_X2_changeThing : GoodIn wsX5_setMask (wsV RX5 75 RX2 yX2_changeThing wsX2_changeThing) := goodIn_app (goodIn_of _ (by decide +kernel)) ggX5_setMask_X2_changeThing
theorem dX5_setMask_0 : decode cX5_setMask 0 = .ok (.aload_n 0, 1) := by decide +kernel
theorem dX5_setMask_1 : decode cX5_setMask 1 = .ok (.iload_n 1, 1) := by decide +kernel
theorem dX5_setMask_2 : decode cX5_setMask 2 = .ok (.invokevirtual 72, 3) := by decide +kernel
theorem dX5_setMask_5 : decode cX5_setMask 5 = .ok (.iload_n 2, 1) := by decide +kernel
theorem dX5_setMask_6 : decode cX5_setMask 6 = .ok (.invokestatic 44, 3) := by decide +kernel
theorem dX5_setMask_9 : decode cX5_setMask 9 = .ok (.aload_n 0, 1) := by decide +kernel
theorem dX5_setMask_10 : decode cX5_setMask 10 = .ok (.getfield 22, 3) := by decide +kernel
theorem dX5_setMask_13 : decode cX5_setMask 13 = .ok (.aload_n 0, 1) := by decide +kernel
theorem dX5_setMask_14 : decode cX5_setMask 14 = .ok (.getfield 10, 3) := by decide +kernel
theorem dX5_setMask_17 : decode cX5_setMask 17 = .ok (.invokevirtual 64, 3) := by decide +kernel
theorem dX5_setMask_20 : decode cX5_setMask 20 = .ok (.aload_n 0, 1) := by decide +kernel
theorem dX5_setMask_21 : decode cX5_setMask 21 = .ok (.getfield 10, 3) := by decide +kernel
theorem dX5_setMask_24 : decode cX5_setMask 24 = .ok (.iload_n 1, 1) := by decide +kernel
theorem dX5_setMask_25 : decode cX5_setMask 25 = .ok (.iconst 1, 1) := by decide +kernel
theorem dX5_setMask_26 : decode cX5_setMask 26 = .ok (.iload_n 2, 1) := by decide +kernel
theorem dX5_setMask_27 : decode cX5_setMask 27 = .ok (.invokevirtual 75, 3) := by decide +kernel
theorem dX5_setMask_30 : decode cX5_setMask 30 = .ok (.ireturn, 1) := by decide +kernel
set_option maxRecDepth 20000 in
theorem ggX5_setBase_X5_requirePerson : GoodIn wsX5_setBase wsX5_requirePerson := goodIn_ca (goodIn_r _ [7, 8, 9, 10, 11, 6, 12, 13, 14, 15] (by decide +kernel) (by decide +kernel)) (goodIn_sub (fun _ h => List.mem_cons_of_mem _ (List.mem_append_left _ (List.mem_append_right _ h))) (by decide +kernel))
set_option maxRecDepth 20000 in
theorem gX5_setBase_X5_requirePerson : GoodIn wsX5_setBase (va_wsS RX5 40 yX5_requirePerson wsX5_requirePerson) := goodIn_app (goodIn_of _ (by decide +kernel)) ggX5_setBase_X5_requirePerson
set_option maxRecDepth 20000 in
theorem ggX5_setBase_X5_requireRange : GoodIn wsX5_setBase wsX5_requireRange := goodIn_ca (goodIn_r _ [18, 19, 20, 13, 14, 6, 15] (by decide +kernel) (by decide +kernel)) (goodIn_sub (fun _ h => List.mem_cons_of_mem _ (List.mem_append_right _ h)) (by decide +kernel))
set_option maxRecDepth 20000 in
theorem gX5_setBase_X5_requireRange : GoodIn wsX5_setBase (va_wsS RX5 79 yX5_requireRange wsX5_requireRange) := goodIn_app (goodIn_of _ (by decide +kernel)) ggX5_setBase_X5_requireRange
set_option maxRecDepth 20000 in
theorem ggX5_setBase_X1_keep : GoodIn wsX5_setBase wsX1_keep := goodIn_r _ [25, 26, 27, 28, 29, 30, 24, 31, 32, 33, 34, 35, 36, 37, 38, 39, 40, 41, 42, 43, 44, 45, 46, 47, 48, 49, 50, 51, 52, 53, 54, 77, 78, 68, 69, 70, 71, 72, 73, 74, 75, 76, 79, 80, 81, 82] (by decide +kernel) (by decide +kernel)
set_option maxRecDepth 20000 in
theorem gX5_setBase_X1_keep : GoodIn wsX5_setBase (wsV RX5 64 RX1 yX1_keep wsX1_keep) := goodIn_app (goodIn_of _ (by decide +kernel)) ggX5_setBase_X1_keep
set_option maxRecDepth 20000 in
theorem ggX5_setBase_X3_at : GoodIn wsX5_setBase wsX3_at := goodIn_r _ [58, 51, 53, 54, 79, 80, 81, 82] (by decide +kernel) (by decide +kernel)
set_option maxRecDepth 20000 in
theorem gX5_setBase_X3_at : GoodIn wsX5_setBase (wsV RX5 86 RX3 yX3_at wsX3_at) := goodIn_app (goodIn_of _ (by decide +kernel)) ggX5_setBase_X3_at
set_option maxRecDepth 20000 in
theorem ggX5_setBase_X3_put : GoodIn wsX5_setBase wsX3_put := goodIn_r _ [62, 51, 53, 54, 79, 80, 81, 82] (by decide +kernel) (by decide +kernel)
set_option maxRecDepth 20000 in
theorem gX5_setBase_X3_put : GoodIn wsX5_setBase (wsV RX5 89 RX3 yX3_put wsX3_put) := goodIn_app (goodIn_of _ (by decide +kernel)) ggX5_setBase_X3_put
theorem dX5_setBase_0 : decode cX5_setBase 0 = .ok (.iload_n 1, 1) := by decide +kernel
theorem dX5_setBase_1 : decode cX5_setBase 1 = .ok (.invokestatic 40, 3) := by decide +kernel
theorem dX5_setBase_4 : decode cX5_setBase 4 = .ok (.iload_n 2, 1) := by decide +kernel
theorem dX5_setBase_5 : decode cX5_setBase 5 = .ok (.iconst 0, 1) := by decide +kernel
theorem dX5_setBase_6 : decode cX5_setBase 6 = .ok (.bipush 100, 2) := by decide +kernel
theorem dX5_setBase_8 : decode cX5_setBase 8 = .ok (.invokestatic 79, 3) := by decide +kernel
theorem dX5_setBase_11 : decode cX5_setBase 11 = .ok (.aload_n 0, 1) := by decide +kernel
theorem dX5_setBase_12 : decode cX5_setBase 12 = .ok (.getfield 22, 3) := by decide +kernel
theorem dX5_setBase_15 : decode cX5_setBase 15 = .ok (.aload_n 0, 1) := by decide +kernel
theorem dX5_setBase_16 : decode cX5_setBase 16 = .ok (.getfield 10, 3) := by decide +kernel
theorem dX5_setBase_19 : decode cX5_setBase 19 = .ok (.invokevirtual 64, 3) := by decide +kernel
theorem dX5_setBase_22 : decode cX5_setBase 22 = .ok (.aload_n 0, 1) := by decide +kernel
theorem dX5_setBase_23 : decode cX5_setBase 23 = .ok (.getfield 10, 3) := by decide +kernel
theorem dX5_setBase_26 : decode cX5_setBase 26 = .ok (.getfield 83, 3) := by decide +kernel
theorem dX5_setBase_29 : decode cX5_setBase 29 = .ok (.iload_n 1, 1) := by decide +kernel
theorem dX5_setBase_30 : decode cX5_setBase 30 = .ok (.iconst 1, 1) := by decide +kernel
theorem dX5_setBase_31 : decode cX5_setBase 31 = .ok (.invokevirtual 86, 3) := by decide +kernel
theorem dX5_setBase_34 : decode cX5_setBase 34 = .ok (.istore_n 3, 1) := by decide +kernel
theorem dX5_setBase_35 : decode cX5_setBase 35 = .ok (.aload_n 0, 1) := by decide +kernel
theorem dX5_setBase_36 : decode cX5_setBase 36 = .ok (.getfield 10, 3) := by decide +kernel
theorem dX5_setBase_39 : decode cX5_setBase 39 = .ok (.getfield 83, 3) := by decide +kernel
theorem dX5_setBase_42 : decode cX5_setBase 42 = .ok (.iload_n 1, 1) := by decide +kernel
theorem dX5_setBase_43 : decode cX5_setBase 43 = .ok (.iconst 1, 1) := by decide +kernel
theorem dX5_setBase_44 : decode cX5_setBase 44 = .ok (.iload_n 2, 1) := by decide +kernel
theorem dX5_setBase_45 : decode cX5_setBase 45 = .ok (.invokevirtual 89, 3) := by decide +kernel
theorem dX5_setBase_48 : decode cX5_setBase 48 = .ok (.iload_n 3, 1) := by decide +kernel
theorem dX5_setBase_49 : decode cX5_setBase 49 = .ok (.ireturn, 1) := by decide +kernel
set_option maxRecDepth 20000 in
theorem ggX5_give_X5_requirePerson : GoodIn wsX5_give wsX5_requirePerson := goodIn_ca (goodIn_r _ [6, 7, 8, 9, 10, 5, 11, 12, 13, 14] (by decide +kernel) (by decide +kernel)) (goodIn_sub (fun _ h => List.mem_cons_of_mem _ (List.mem_append_right _ h)) (by decide +kernel))
set_option maxRecDepth 20000 in
theorem gX5_give_X5_requirePerson : GoodIn wsX5_give (va_wsS RX5 40 yX5_requirePerson wsX5_requirePerson) := goodIn_app (goodIn_of _ (by decide +kernel)) ggX5_give_X5_requirePerson
set_option maxRecDepth 20000 in
theorem ggX5_give_X5_requireThing : GoodIn wsX5_give wsX5_requireThing := goodIn_ca (goodIn_r _ [18, 7, 8, 2, 19, 20, 21, 22, 23, 24, 25, 82, 83, 84, 85, 86, 87, 88, 89, 90, 91, 92, 93, 94, 95, 96, 97, 98, 99] (by decide +kernel) (by decide +kernel)) (goodIn_sub (fun _ h => List.mem_cons_of_mem _ (List.mem_append_right _ h)) (by decide +kernel))
set_option maxRecDepth 20000 in
theorem gX5_give_X5_requireThing : GoodIn wsX5_give (wsV RX5 72 RX5 yX5_requireThing wsX5_requireThing) := goodIn_app (goodIn_of _ (by decide +kernel)) ggX5_give_X5_requireThing
set_option maxRecDepth 20000 in
theorem ggX5_give_X1_keep : GoodIn wsX5_give wsX1_keep := goodIn_r _ [30, 31, 32, 33, 34, 35, 29, 36, 37, 38, 39, 40, 41, 42, 43, 44, 45, 46, 47, 48, 49, 50, 51, 52, 53, 23, 54, 25, 55, 56, 57, 100, 101, 87, 88, 89, 90, 91, 92, 93, 94, 95, 96, 97, 98, 99] (by decide +kernel) (by decide +kernel)
set_option maxRecDepth 20000 in
theorem gX5_give_X1_keep : GoodIn wsX5_give (wsV RX5 64 RX1 yX1_keep wsX1_keep) := goodIn_app (goodIn_of _ (by decide +kernel)) ggX5_give_X1_keep
set_option maxRecDepth 20000 in
theorem ggX5_give_X2_changeThing : GoodIn wsX5_give wsX2_changeThing := goodIn_r _ [61, 43, 62, 63, 64, 23, 65, 25, 56, 57, 66, 67, 68, 69, 70, 71, 72, 40, 73, 46, 44, 74, 75, 76, 77, 78, 79, 80, 81, 87, 88, 89, 90, 91, 92, 93, 94, 95, 96, 97, 98, 99] (by decide +kernel) (by decide +kernel)
set_option maxRecDepth 20000 in
theorem gX5_give_X2_changeThing : GoodIn wsX5_give (wsV RX5 75 RX2 yX2_changeThing wsX2_changeThing) := goodIn_app (goodIn_of _ (by decide +kernel)) ggX5_give_X2_changeThing
theorem dX5_give_0 : decode cX5_give 0 = .ok (.iload_n 2, 1) := by decide +kernel
theorem dX5_give_1 : decode cX5_give 1 = .ok (.invokestatic 40, 3) := by decide +kernel
theorem dX5_give_4 : decode cX5_give 4 = .ok (.aload_n 0, 1) := by decide +kernel
theorem dX5_give_5 : decode cX5_give 5 = .ok (.iload_n 1, 1) := by decide +kernel
theorem dX5_give_6 : decode cX5_give 6 = .ok (.invokevirtual 72, 3) := by decide +kernel
theorem dX5_give_9 : decode cX5_give 9 = .ok (.aload_n 0, 1) := by decide +kernel
theorem dX5_give_10 : decode cX5_give 10 = .ok (.getfield 22, 3) := by decide +kernel
theorem dX5_give_13 : decode cX5_give 13 = .ok (.aload_n 0, 1) := by decide +kernel
theorem dX5_give_14 : decode cX5_give 14 = .ok (.getfield 10, 3) := by decide +kernel
theorem dX5_give_17 : decode cX5_give 17 = .ok (.invokevirtual 64, 3) := by decide +kernel
theorem dX5_give_20 : decode cX5_give 20 = .ok (.aload_n 0, 1) := by decide +kernel
theorem dX5_give_21 : decode cX5_give 21 = .ok (.getfield 10, 3) := by decide +kernel
theorem dX5_give_24 : decode cX5_give 24 = .ok (.iload_n 1, 1) := by decide +kernel
theorem dX5_give_25 : decode cX5_give 25 = .ok (.iconst 0, 1) := by decide +kernel
theorem dX5_give_26 : decode cX5_give 26 = .ok (.iload_n 2, 1) := by decide +kernel
theorem dX5_give_27 : decode cX5_give 27 = .ok (.invokevirtual 75, 3) := by decide +kernel
theorem dX5_give_30 : decode cX5_give 30 = .ok (.ireturn, 1) := by decide +kernel
set_option maxRecDepth 20000 in
theorem ggX5_grant_X2_faultOfGrant : GoodIn wsX5_grant wsX2_faultOfGrant := goodIn_r _ [9, 10, 11, 12, 13, 14, 15, 16, 17, 18, 19, 20, 21, 22, 23, 24, 25, 26, 27, 8, 28, 29, 30, 31, 32, 33, 34, 35, 36, 37, 38, 39, 40, 101, 102, 103, 104, 105, 106, 107, 108, 109, 110, 111, 112, 113] (by decide +kernel) (by decide +kernel)
set_option maxRecDepth 20000 in
theorem gX5_grant_X2_faultOfGrant : GoodIn wsX5_grant (wsV RX5 92 RX2 yX2_faultOfGrant wsX2_faultOfGrant) := goodIn_app (goodIn_of _ (by decide +kernel)) ggX5_grant_X2_faultOfGrant
set_option maxRecDepth 20000 in
theorem ggX5_grant_X5_requireFit : GoodIn wsX5_grant wsX5_requireFit := goodIn_ca (goodIn_ca (goodIn_r _ [43, 44, 45, 46, 47] (by decide +kernel) (by decide +kernel)) (goodIn_sub (fun _ h => List.mem_cons_of_mem _ (List.mem_append_left _ (List.mem_append_right _ h))) (by decide +kernel))) (goodIn_sub (fun _ h => List.mem_cons_of_mem _ (List.mem_append_right _ h)) (by decide +kernel))
set_option maxRecDepth 20000 in
theorem gX5_grant_X5_requireFit : GoodIn wsX5_grant (va_wsS RX5 96 yX5_requireFit wsX5_requireFit) := goodIn_app (goodIn_of _ (by decide +kernel)) ggX5_grant_X5_requireFit
set_option maxRecDepth 20000 in
theorem ggX5_grant_X1_keep : GoodIn wsX5_grant wsX1_keep := goodIn_r _ [52, 53, 54, 55, 56, 57, 51, 58, 59, 60, 61, 8, 62, 11, 10, 12, 63, 29, 64, 65, 66, 67, 68, 69, 70, 22, 71, 24, 40, 34, 35, 114, 115, 101, 102, 103, 104, 105, 106, 107, 108, 109, 110, 111, 112, 113] (by decide +kernel) (by decide +kernel)
set_option maxRecDepth 20000 in
theorem gX5_grant_X1_keep : GoodIn wsX5_grant (wsV RX5 64 RX1 yX1_keep wsX1_keep) := goodIn_app (goodIn_of _ (by decide +kernel)) ggX5_grant_X1_keep
set_option maxRecDepth 20000 in
theorem ggX5_grant_X2_lend : GoodIn wsX5_grant wsX2_lend := goodIn_r _ [75, 64, 12, 76, 77, 78, 22, 79, 24, 40, 80, 81, 82, 83, 34, 35, 84, 85, 86, 8, 87, 10, 29, 88, 89, 90, 91, 30, 31, 32, 33, 92, 93, 94, 95, 101, 102, 103, 104, 105, 106, 107, 108, 109, 110, 111, 112, 113] (by decide +kernel) (by decide +kernel)
set_option maxRecDepth 20000 in
theorem gX5_grant_X2_lend : GoodIn wsX5_grant (wsV RX5 101 RX2 yX2_lend wsX2_lend) := goodIn_app (goodIn_of _ (by decide +kernel)) ggX5_grant_X2_lend
theorem dX5_grant_0 : decode cX5_grant 0 = .ok (.aload_n 0, 1) := by decide +kernel
theorem dX5_grant_1 : decode cX5_grant 1 = .ok (.getfield 10, 3) := by decide +kernel
theorem dX5_grant_4 : decode cX5_grant 4 = .ok (.iload_n 1, 1) := by decide +kernel
theorem dX5_grant_5 : decode cX5_grant 5 = .ok (.iload_n 2, 1) := by decide +kernel
theorem dX5_grant_6 : decode cX5_grant 6 = .ok (.iload_n 3, 1) := by decide +kernel
theorem dX5_grant_7 : decode cX5_grant 7 = .ok (.iload 4, 2) := by decide +kernel
theorem dX5_grant_9 : decode cX5_grant 9 = .ok (.iload 5, 2) := by decide +kernel
theorem dX5_grant_11 : decode cX5_grant 11 = .ok (.invokevirtual 92, 3) := by decide +kernel
theorem dX5_grant_14 : decode cX5_grant 14 = .ok (.istore 6, 2) := by decide +kernel
theorem dX5_grant_16 : decode cX5_grant 16 = .ok (.iload 6, 2) := by decide +kernel
theorem dX5_grant_18 : decode cX5_grant 18 = .ok (.invokestatic 96, 3) := by decide +kernel
theorem dX5_grant_21 : decode cX5_grant 21 = .ok (.iload 6, 2) := by decide +kernel
theorem dX5_grant_23 : decode cX5_grant 23 = .ok (.iconst 3, 1) := by decide +kernel
theorem dX5_grant_24 : decode cX5_grant 24 = .ok (.if_icmp .ne 13, 3) := by decide +kernel
theorem dX5_grant_27 : decode cX5_grant 27 = .ok (.new 57, 3) := by decide +kernel
theorem dX5_grant_30 : decode cX5_grant 30 = .ok (.dup, 1) := by decide +kernel
theorem dX5_grant_31 : decode cX5_grant 31 = .ok (.ldc 99, 2) := by decide +kernel
theorem dX5_grant_33 : decode cX5_grant 33 = .ok (.invokespecial 61, 3) := by decide +kernel
theorem dX5_grant_36 : decode cX5_grant 36 = .ok (.athrow, 1) := by decide +kernel
theorem dX5_grant_37 : decode cX5_grant 37 = .ok (.aload_n 0, 1) := by decide +kernel
theorem dX5_grant_38 : decode cX5_grant 38 = .ok (.getfield 22, 3) := by decide +kernel
theorem dX5_grant_41 : decode cX5_grant 41 = .ok (.aload_n 0, 1) := by decide +kernel
theorem dX5_grant_42 : decode cX5_grant 42 = .ok (.getfield 10, 3) := by decide +kernel
theorem dX5_grant_45 : decode cX5_grant 45 = .ok (.invokevirtual 64, 3) := by decide +kernel
theorem dX5_grant_48 : decode cX5_grant 48 = .ok (.aload_n 0, 1) := by decide +kernel
theorem dX5_grant_49 : decode cX5_grant 49 = .ok (.getfield 10, 3) := by decide +kernel
theorem dX5_grant_52 : decode cX5_grant 52 = .ok (.iload_n 1, 1) := by decide +kernel
theorem dX5_grant_53 : decode cX5_grant 53 = .ok (.iload_n 2, 1) := by decide +kernel
theorem dX5_grant_54 : decode cX5_grant 54 = .ok (.iload_n 3, 1) := by decide +kernel
theorem dX5_grant_55 : decode cX5_grant 55 = .ok (.iload 4, 2) := by decide +kernel
theorem dX5_grant_57 : decode cX5_grant 57 = .ok (.iload 5, 2) := by decide +kernel
theorem dX5_grant_59 : decode cX5_grant 59 = .ok (.invokevirtual 101, 3) := by decide +kernel
theorem dX5_grant_62 : decode cX5_grant 62 = .ok (.ireturn, 1) := by decide +kernel
set_option maxRecDepth 20000 in
theorem ggX5_revoke_X5_requireGrant : GoodIn wsX5_revoke wsX5_requireGrant := goodIn_ca (goodIn_r _ [7, 8, 9, 2, 10, 11, 12, 13, 14, 15, 16, 17, 18, 19, 20, 21, 22, 23, 24, 25, 26, 27, 91, 92, 93, 94, 95, 96, 97, 98, 99, 100, 101, 102, 103, 104, 105, 106, 107, 108] (by decide +kernel) (by decide +kernel)) (goodIn_sub (fun _ h => List.mem_cons_of_mem _ (List.mem_append_right _ h)) (by decide +kernel))
set_option maxRecDepth 20000 in
theorem gX5_revoke_X5_requireGrant : GoodIn wsX5_revoke (wsV RX5 104 RX5 yX5_requireGrant wsX5_requireGrant) := goodIn_app (goodIn_of _ (by decide +kernel)) ggX5_revoke_X5_requireGrant
set_option maxRecDepth 20000 in
theorem ggX5_revoke_X1_keep : GoodIn wsX5_revoke wsX1_keep := goodIn_r _ [32, 33, 34, 35, 36, 37, 31, 38, 39, 40, 41, 13, 42, 43, 44, 15, 45, 46, 47, 48, 49, 50, 51, 52, 53, 19, 54, 21, 55, 26, 27, 109, 110, 96, 97, 98, 99, 100, 101, 102, 103, 104, 105, 106, 107, 108] (by decide +kernel) (by decide +kernel)
set_option maxRecDepth 20000 in
theorem gX5_revoke_X1_keep : GoodIn wsX5_revoke (wsV RX5 64 RX1 yX1_keep wsX1_keep) := goodIn_app (goodIn_of _ (by decide +kernel)) ggX5_revoke_X1_keep
set_option maxRecDepth 20000 in
theorem ggX5_revoke_X2_takeBack : GoodIn wsX5_revoke wsX2_takeBack := goodIn_r _ [59, 15, 49, 60, 61, 62, 13, 63, 44, 16, 17, 18, 19, 20, 21, 64, 65, 66, 67, 46, 22, 23, 24, 25, 26, 27, 68, 69, 70, 71, 72, 73, 74, 75, 76, 77, 78, 79, 80, 81, 82, 83, 84, 85, 86, 87, 88, 89, 90, 96, 97, 98, 99, 100, 101, 102, 103, 104, 105, 106, 107, 108] (by decide +kernel) (by decide +kernel)
set_option maxRecDepth 20000 in
theorem gX5_revoke_X2_takeBack : GoodIn wsX5_revoke (wsV RX5 108 RX2 yX2_takeBack wsX2_takeBack) := goodIn_app (goodIn_of _ (by decide +kernel)) ggX5_revoke_X2_takeBack
theorem dX5_revoke_0 : decode cX5_revoke 0 = .ok (.aload_n 0, 1) := by decide +kernel
theorem dX5_revoke_1 : decode cX5_revoke 1 = .ok (.iload_n 1, 1) := by decide +kernel
theorem dX5_revoke_2 : decode cX5_revoke 2 = .ok (.invokevirtual 104, 3) := by decide +kernel
theorem dX5_revoke_5 : decode cX5_revoke 5 = .ok (.istore_n 2, 1) := by decide +kernel
theorem dX5_revoke_6 : decode cX5_revoke 6 = .ok (.aload_n 0, 1) := by decide +kernel
theorem dX5_revoke_7 : decode cX5_revoke 7 = .ok (.getfield 22, 3) := by decide +kernel
theorem dX5_revoke_10 : decode cX5_revoke 10 = .ok (.aload_n 0, 1) := by decide +kernel
theorem dX5_revoke_11 : decode cX5_revoke 11 = .ok (.getfield 10, 3) := by decide +kernel
theorem dX5_revoke_14 : decode cX5_revoke 14 = .ok (.invokevirtual 64, 3) := by decide +kernel
theorem dX5_revoke_17 : decode cX5_revoke 17 = .ok (.aload_n 0, 1) := by decide +kernel
theorem dX5_revoke_18 : decode cX5_revoke 18 = .ok (.getfield 10, 3) := by decide +kernel
theorem dX5_revoke_21 : decode cX5_revoke 21 = .ok (.iload_n 2, 1) := by decide +kernel
theorem dX5_revoke_22 : decode cX5_revoke 22 = .ok (.invokevirtual 108, 3) := by decide +kernel
theorem dX5_revoke_25 : decode cX5_revoke 25 = .ok (.ireturn, 1) := by decide +kernel
set_option maxRecDepth 20000 in
theorem ggX5_cheer_X5_requirePerson : GoodIn wsX5_cheer wsX5_requirePerson := goodIn_ca (goodIn_r _ [6, 7, 8, 9, 10, 5, 11, 12, 13, 14] (by decide +kernel) (by decide +kernel)) (goodIn_sub (fun _ h => List.mem_cons_of_mem _ (List.mem_append_left _ (List.mem_append_right _ h))) (by decide +kernel))
set_option maxRecDepth 20000 in
theorem gX5_cheer_X5_requirePerson : GoodIn wsX5_cheer (va_wsS RX5 40 yX5_requirePerson wsX5_requirePerson) := goodIn_app (goodIn_of _ (by decide +kernel)) ggX5_cheer_X5_requirePerson
set_option maxRecDepth 20000 in
theorem ggX5_cheer_X5_requireRange : GoodIn wsX5_cheer wsX5_requireRange := goodIn_ca (goodIn_r _ [17, 18, 19, 12, 13, 5, 14] (by decide +kernel) (by decide +kernel)) (goodIn_sub (fun _ h => List.mem_cons_of_mem _ (List.mem_append_right _ h)) (by decide +kernel))
set_option maxRecDepth 20000 in
theorem gX5_cheer_X5_requireRange : GoodIn wsX5_cheer (va_wsS RX5 79 yX5_requireRange wsX5_requireRange) := goodIn_app (goodIn_of _ (by decide +kernel)) ggX5_cheer_X5_requireRange
set_option maxRecDepth 20000 in
theorem ggX5_cheer_X1_keep : GoodIn wsX5_cheer wsX1_keep := goodIn_r _ [24, 25, 26, 27, 28, 29, 23, 30, 31, 32, 33, 34, 35, 36, 37, 38, 39, 40, 41, 42, 43, 44, 45, 46, 47, 48, 49, 50, 51, 52, 53, 114, 115, 116, 117, 118, 119, 120, 121, 122, 123, 124, 125, 126, 127, 128] (by decide +kernel) (by decide +kernel)
set_option maxRecDepth 20000 in
theorem gX5_cheer_X1_keep : GoodIn wsX5_cheer (wsV RX5 64 RX1 yX1_keep wsX1_keep) := goodIn_app (goodIn_of _ (by decide +kernel)) ggX5_cheer_X1_keep
set_option maxRecDepth 20000 in
theorem ggX5_cheer_X2_changeMood : GoodIn wsX5_cheer wsX2_changeMood := goodIn_r _ [57, 36, 58, 59, 60, 61, 62, 63, 64, 65, 66, 67, 48, 68, 50, 52, 53, 69, 70, 71, 72, 73, 74, 75, 34, 76, 38, 42, 77, 78, 79, 80, 81, 82, 83, 84, 85, 86, 87, 88, 39, 44, 89, 90, 91, 92, 51, 93, 94, 95, 96, 97, 98, 99, 100, 101, 102, 103, 104, 37, 40, 105, 106, 107, 108, 116, 117, 118, 119, 120, 121, 122, 123, 124, 125, 126, 127, 128] (by decide +kernel) (by decide +kernel)
set_option maxRecDepth 20000 in
theorem gX5_cheer_X2_changeMood : GoodIn wsX5_cheer (wsV RX5 111 RX2 yX2_changeMood wsX2_changeMood) := goodIn_app (goodIn_of _ (by decide +kernel)) ggX5_cheer_X2_changeMood
theorem dX5_cheer_0 : decode cX5_cheer 0 = .ok (.iload_n 1, 1) := by decide +kernel
theorem dX5_cheer_1 : decode cX5_cheer 1 = .ok (.invokestatic 40, 3) := by decide +kernel
theorem dX5_cheer_4 : decode cX5_cheer 4 = .ok (.iload_n 2, 1) := by decide +kernel
theorem dX5_cheer_5 : decode cX5_cheer 5 = .ok (.bipush (-100), 2) := by decide +kernel
theorem dX5_cheer_7 : decode cX5_cheer 7 = .ok (.bipush 100, 2) := by decide +kernel
theorem dX5_cheer_9 : decode cX5_cheer 9 = .ok (.invokestatic 79, 3) := by decide +kernel
theorem dX5_cheer_12 : decode cX5_cheer 12 = .ok (.aload_n 0, 1) := by decide +kernel
theorem dX5_cheer_13 : decode cX5_cheer 13 = .ok (.getfield 22, 3) := by decide +kernel
theorem dX5_cheer_16 : decode cX5_cheer 16 = .ok (.aload_n 0, 1) := by decide +kernel
theorem dX5_cheer_17 : decode cX5_cheer 17 = .ok (.getfield 10, 3) := by decide +kernel
theorem dX5_cheer_20 : decode cX5_cheer 20 = .ok (.invokevirtual 64, 3) := by decide +kernel
theorem dX5_cheer_23 : decode cX5_cheer 23 = .ok (.aload_n 0, 1) := by decide +kernel
theorem dX5_cheer_24 : decode cX5_cheer 24 = .ok (.getfield 10, 3) := by decide +kernel
theorem dX5_cheer_27 : decode cX5_cheer 27 = .ok (.iload_n 1, 1) := by decide +kernel
theorem dX5_cheer_28 : decode cX5_cheer 28 = .ok (.iload_n 2, 1) := by decide +kernel
theorem dX5_cheer_29 : decode cX5_cheer 29 = .ok (.invokevirtual 111, 3) := by decide +kernel
theorem dX5_cheer_32 : decode cX5_cheer 32 = .ok (.ireturn, 1) := by decide +kernel
set_option maxRecDepth 20000 in
theorem ggX5_pass_X5_requireRange : GoodIn wsX5_pass wsX5_requireRange := goodIn_ca (goodIn_r _ [8, 9, 10, 11, 12, 7, 13] (by decide +kernel) (by decide +kernel)) (goodIn_sub (fun _ h => List.mem_cons_of_mem _ (List.mem_append_right _ h)) (by decide +kernel))
set_option maxRecDepth 20000 in
theorem gX5_pass_X5_requireRange : GoodIn wsX5_pass (va_wsS RX5 79 yX5_requireRange wsX5_requireRange) := goodIn_app (goodIn_of _ (by decide +kernel)) ggX5_pass_X5_requireRange
set_option maxRecDepth 20000 in
theorem ggX5_pass_X2_hasTimeFor : GoodIn wsX5_pass wsX2_hasTimeFor := goodIn_r _ [18, 19, 20, 110, 111, 112, 113, 114, 115, 116, 117, 118] (by decide +kernel) (by decide +kernel)
set_option maxRecDepth 20000 in
theorem gX5_pass_X2_hasTimeFor : GoodIn wsX5_pass (wsV RX5 114 RX2 yX2_hasTimeFor wsX2_hasTimeFor) := goodIn_app (goodIn_of _ (by decide +kernel)) ggX5_pass_X2_hasTimeFor
set_option maxRecDepth 20000 in
theorem ggX5_pass_X1_keep : GoodIn wsX5_pass wsX1_keep := goodIn_r _ [25, 26, 27, 28, 29, 30, 24, 31, 32, 33, 34, 17, 35, 36, 37, 38, 39, 40, 41, 42, 43, 19, 44, 45, 46, 47, 48, 49, 50, 51, 52, 119, 120, 110, 111, 112, 113, 114, 115, 116, 117, 118, 121, 122, 123, 124] (by decide +kernel) (by decide +kernel)
set_option maxRecDepth 20000 in
theorem gX5_pass_X1_keep : GoodIn wsX5_pass (wsV RX5 64 RX1 yX1_keep wsX1_keep) := goodIn_app (goodIn_of _ (by decide +kernel)) ggX5_pass_X1_keep
set_option maxRecDepth 20000 in
theorem ggX5_pass_X2_letPass : GoodIn wsX5_pass wsX2_letPass := goodIn_r _ [56, 19, 57, 58, 59, 17, 60, 36, 61, 62, 63, 47, 64, 49, 51, 52, 65, 66, 67, 68, 69, 70, 71, 72, 38, 42, 73, 74, 75, 76, 77, 78, 79, 80, 81, 82, 83, 84, 39, 85, 86, 87, 88, 50, 89, 90, 91, 92, 93, 94, 95, 96, 97, 98, 99, 100, 37, 40, 101, 102, 103, 104, 110, 111, 112, 113, 114, 115, 116, 117, 118, 121, 122, 123, 124] (by decide +kernel) (by decide +kernel)
set_option maxRecDepth 20000 in
theorem gX5_pass_X2_letPass : GoodIn wsX5_pass (wsV RX5 120 RX2 yX2_letPass wsX2_letPass) := goodIn_app (goodIn_of _ (by decide +kernel)) ggX5_pass_X2_letPass
theorem dX5_pass_0 : decode cX5_pass 0 = .ok (.iload_n 1, 1) := by decide +kernel
theorem dX5_pass_1 : decode cX5_pass 1 = .ok (.iconst 1, 1) := by decide +kernel
theorem dX5_pass_2 : decode cX5_pass 2 = .ok (.bipush 100, 2) := by decide +kernel
theorem dX5_pass_4 : decode cX5_pass 4 = .ok (.invokestatic 79, 3) := by decide +kernel
theorem dX5_pass_7 : decode cX5_pass 7 = .ok (.aload_n 0, 1) := by decide +kernel
theorem dX5_pass_8 : decode cX5_pass 8 = .ok (.getfield 10, 3) := by decide +kernel
theorem dX5_pass_11 : decode cX5_pass 11 = .ok (.iload_n 1, 1) := by decide +kernel
theorem dX5_pass_12 : decode cX5_pass 12 = .ok (.invokevirtual 114, 3) := by decide +kernel
theorem dX5_pass_15 : decode cX5_pass 15 = .ok (.ifCond .ne 13, 3) := by decide +kernel
theorem dX5_pass_18 : decode cX5_pass 18 = .ok (.new 57, 3) := by decide +kernel
theorem dX5_pass_21 : decode cX5_pass 21 = .ok (.dup, 1) := by decide +kernel
theorem dX5_pass_22 : decode cX5_pass 22 = .ok (.ldc 118, 2) := by decide +kernel
theorem dX5_pass_24 : decode cX5_pass 24 = .ok (.invokespecial 61, 3) := by decide +kernel
theorem dX5_pass_27 : decode cX5_pass 27 = .ok (.athrow, 1) := by decide +kernel
theorem dX5_pass_28 : decode cX5_pass 28 = .ok (.aload_n 0, 1) := by decide +kernel
theorem dX5_pass_29 : decode cX5_pass 29 = .ok (.getfield 22, 3) := by decide +kernel
theorem dX5_pass_32 : decode cX5_pass 32 = .ok (.aload_n 0, 1) := by decide +kernel
theorem dX5_pass_33 : decode cX5_pass 33 = .ok (.getfield 10, 3) := by decide +kernel
theorem dX5_pass_36 : decode cX5_pass 36 = .ok (.invokevirtual 64, 3) := by decide +kernel
theorem dX5_pass_39 : decode cX5_pass 39 = .ok (.aload_n 0, 1) := by decide +kernel
theorem dX5_pass_40 : decode cX5_pass 40 = .ok (.getfield 10, 3) := by decide +kernel
theorem dX5_pass_43 : decode cX5_pass 43 = .ok (.iload_n 1, 1) := by decide +kernel
theorem dX5_pass_44 : decode cX5_pass 44 = .ok (.invokevirtual 120, 3) := by decide +kernel
theorem dX5_pass_47 : decode cX5_pass 47 = .ok (.ireturn, 1) := by decide +kernel
set_option maxRecDepth 20000 in
theorem ggX5_held_X5_requirePerson : GoodIn wsX5_held wsX5_requirePerson := goodIn_ca (goodIn_r _ [5, 6, 7, 8, 9, 4, 10, 11, 12, 13] (by decide +kernel) (by decide +kernel)) (goodIn_sub (fun _ h => List.mem_cons_of_mem _ (List.mem_append_right _ h)) (by decide +kernel))
set_option maxRecDepth 20000 in
theorem gX5_held_X5_requirePerson : GoodIn wsX5_held (va_wsS RX5 40 yX5_requirePerson wsX5_requirePerson) := goodIn_app (goodIn_of _ (by decide +kernel)) ggX5_held_X5_requirePerson
set_option maxRecDepth 20000 in
theorem ggX5_held_X5_requireThing : GoodIn wsX5_held wsX5_requireThing := goodIn_ca (goodIn_r _ [17, 6, 7, 1, 18, 19, 20, 21, 22, 23, 24, 37, 38, 39, 40, 41, 42, 43, 44, 45, 46, 47, 48, 49, 50, 51, 52, 53, 54] (by decide +kernel) (by decide +kernel)) (goodIn_sub (fun _ h => List.mem_cons_of_mem _ (List.mem_append_right _ h)) (by decide +kernel))
set_option maxRecDepth 20000 in
theorem gX5_held_X5_requireThing : GoodIn wsX5_held (wsV RX5 72 RX5 yX5_requireThing wsX5_requireThing) := goodIn_app (goodIn_of _ (by decide +kernel)) ggX5_held_X5_requireThing
set_option maxRecDepth 20000 in
theorem ggX5_held_X2_rightsOf : GoodIn wsX5_held wsX2_rightsOf := goodIn_r _ [29, 30, 31, 32, 33, 22, 34, 24, 35, 36, 42, 43, 44, 45, 46, 47, 48, 49, 50, 51, 52, 53, 54] (by decide +kernel) (by decide +kernel)
set_option maxRecDepth 20000 in
theorem gX5_held_X2_rightsOf : GoodIn wsX5_held (wsV RX5 123 RX2 yX2_rightsOf wsX2_rightsOf) := goodIn_app (goodIn_of _ (by decide +kernel)) ggX5_held_X2_rightsOf
theorem dX5_held_0 : decode cX5_held 0 = .ok (.iload_n 1, 1) := by decide +kernel
theorem dX5_held_1 : decode cX5_held 1 = .ok (.invokestatic 40, 3) := by decide +kernel
theorem dX5_held_4 : decode cX5_held 4 = .ok (.aload_n 0, 1) := by decide +kernel
theorem dX5_held_5 : decode cX5_held 5 = .ok (.iload_n 2, 1) := by decide +kernel
theorem dX5_held_6 : decode cX5_held 6 = .ok (.invokevirtual 72, 3) := by decide +kernel
theorem dX5_held_9 : decode cX5_held 9 = .ok (.aload_n 0, 1) := by decide +kernel
theorem dX5_held_10 : decode cX5_held 10 = .ok (.getfield 10, 3) := by decide +kernel
theorem dX5_held_13 : decode cX5_held 13 = .ok (.iload_n 1, 1) := by decide +kernel
theorem dX5_held_14 : decode cX5_held 14 = .ok (.iload_n 2, 1) := by decide +kernel
theorem dX5_held_15 : decode cX5_held 15 = .ok (.invokevirtual 123, 3) := by decide +kernel
theorem dX5_held_18 : decode cX5_held 18 = .ok (.ireturn, 1) := by decide +kernel
set_option maxRecDepth 20000 in
theorem ggX5_person_X5_requirePerson : GoodIn wsX5_person wsX5_requirePerson := goodIn_ca (goodIn_r _ [5, 6, 7, 8, 9, 4, 10, 11, 12, 13] (by decide +kernel) (by decide +kernel)) (goodIn_sub (fun _ h => List.mem_cons_of_mem _ (List.mem_append_left _ (List.mem_append_right _ h))) (by decide +kernel))
set_option maxRecDepth 20000 in
theorem gX5_person_X5_requirePerson : GoodIn wsX5_person (va_wsS RX5 40 yX5_requirePerson wsX5_requirePerson) := goodIn_app (goodIn_of _ (by decide +kernel)) ggX5_person_X5_requirePerson
set_option maxRecDepth 20000 in
theorem ggX5_person_X5_requireRange : GoodIn wsX5_person wsX5_requireRange := goodIn_ca (goodIn_r _ [16, 17, 18, 11, 12, 4, 13] (by decide +kernel) (by decide +kernel)) (goodIn_sub (fun _ h => List.mem_cons_of_mem _ (List.mem_append_right _ h)) (by decide +kernel))
set_option maxRecDepth 20000 in
theorem gX5_person_X5_requireRange : GoodIn wsX5_person (va_wsS RX5 79 yX5_requireRange wsX5_requireRange) := goodIn_app (goodIn_of _ (by decide +kernel)) ggX5_person_X5_requireRange
set_option maxRecDepth 20000 in
theorem ggX5_person_X2_aboutPerson : GoodIn wsX5_person wsX2_aboutPerson := goodIn_r _ [23, 24, 25, 26, 27, 28, 29, 30, 31, 32, 33, 34, 35, 36, 22, 37, 38, 39, 40, 41, 42, 43, 44, 45, 46, 47, 48, 49, 50, 51, 52, 53, 59, 60, 61, 62, 63, 64, 65, 66, 67, 68, 69, 70, 71] (by decide +kernel) (by decide +kernel)
set_option maxRecDepth 20000 in
theorem gX5_person_X2_aboutPerson : GoodIn wsX5_person (wsV RX5 126 RX2 yX2_aboutPerson wsX2_aboutPerson) := goodIn_app (goodIn_of _ (by decide +kernel)) ggX5_person_X2_aboutPerson
theorem dX5_person_0 : decode cX5_person 0 = .ok (.iload_n 1, 1) := by decide +kernel
theorem dX5_person_1 : decode cX5_person 1 = .ok (.invokestatic 40, 3) := by decide +kernel
theorem dX5_person_4 : decode cX5_person 4 = .ok (.iload_n 2, 1) := by decide +kernel
theorem dX5_person_5 : decode cX5_person 5 = .ok (.iconst 0, 1) := by decide +kernel
theorem dX5_person_6 : decode cX5_person 6 = .ok (.bipush 6, 2) := by decide +kernel
theorem dX5_person_8 : decode cX5_person 8 = .ok (.invokestatic 79, 3) := by decide +kernel
theorem dX5_person_11 : decode cX5_person 11 = .ok (.aload_n 0, 1) := by decide +kernel
theorem dX5_person_12 : decode cX5_person 12 = .ok (.getfield 10, 3) := by decide +kernel
theorem dX5_person_15 : decode cX5_person 15 = .ok (.iload_n 1, 1) := by decide +kernel
theorem dX5_person_16 : decode cX5_person 16 = .ok (.iload_n 2, 1) := by decide +kernel
theorem dX5_person_17 : decode cX5_person 17 = .ok (.invokevirtual 126, 3) := by decide +kernel
theorem dX5_person_20 : decode cX5_person 20 = .ok (.ireturn, 1) := by decide +kernel
set_option maxRecDepth 20000 in
theorem ggX5_thing_X5_requireThing : GoodIn wsX5_thing wsX5_requireThing := goodIn_ca (goodIn_r _ [6, 7, 8, 1, 9, 10, 11, 12, 13, 14, 15, 49, 50, 51, 52, 53, 54, 55, 56, 57, 58, 59, 60, 61, 62, 63, 64, 65, 66] (by decide +kernel) (by decide +kernel)) (goodIn_sub (fun _ h => List.mem_cons_of_mem _ (List.mem_append_left _ (List.mem_append_right _ h))) (by decide +kernel))
set_option maxRecDepth 20000 in
theorem gX5_thing_X5_requireThing : GoodIn wsX5_thing (wsV RX5 72 RX5 yX5_requireThing wsX5_requireThing) := goodIn_app (goodIn_of _ (by decide +kernel)) ggX5_thing_X5_requireThing
set_option maxRecDepth 20000 in
theorem ggX5_thing_X5_requireRange : GoodIn wsX5_thing wsX5_requireRange := goodIn_ca (goodIn_r _ [18, 19, 20, 21, 22, 5, 23] (by decide +kernel) (by decide +kernel)) (goodIn_sub (fun _ h => List.mem_cons_of_mem _ (List.mem_append_right _ h)) (by decide +kernel))
set_option maxRecDepth 20000 in
theorem gX5_thing_X5_requireRange : GoodIn wsX5_thing (va_wsS RX5 79 yX5_requireRange wsX5_requireRange) := goodIn_app (goodIn_of _ (by decide +kernel)) ggX5_thing_X5_requireRange
set_option maxRecDepth 20000 in
theorem ggX5_thing_X2_aboutThing : GoodIn wsX5_thing wsX2_aboutThing := goodIn_r _ [28, 29, 30, 31, 32, 33, 13, 34, 15, 35, 36, 37, 38, 27, 39, 40, 41, 42, 43, 44, 45, 46, 47, 48, 54, 55, 56, 57, 58, 59, 60, 61, 62, 63, 64, 65, 66] (by decide +kernel) (by decide +kernel)
set_option maxRecDepth 20000 in
theorem gX5_thing_X2_aboutThing : GoodIn wsX5_thing (wsV RX5 129 RX2 yX2_aboutThing wsX2_aboutThing) := goodIn_app (goodIn_of _ (by decide +kernel)) ggX5_thing_X2_aboutThing
theorem dX5_thing_0 : decode cX5_thing 0 = .ok (.aload_n 0, 1) := by decide +kernel
theorem dX5_thing_1 : decode cX5_thing 1 = .ok (.iload_n 1, 1) := by decide +kernel
theorem dX5_thing_2 : decode cX5_thing 2 = .ok (.invokevirtual 72, 3) := by decide +kernel
theorem dX5_thing_5 : decode cX5_thing 5 = .ok (.iload_n 2, 1) := by decide +kernel
theorem dX5_thing_6 : decode cX5_thing 6 = .ok (.iconst 0, 1) := by decide +kernel
theorem dX5_thing_7 : decode cX5_thing 7 = .ok (.iconst 5, 1) := by decide +kernel
theorem dX5_thing_8 : decode cX5_thing 8 = .ok (.invokestatic 79, 3) := by decide +kernel
theorem dX5_thing_11 : decode cX5_thing 11 = .ok (.aload_n 0, 1) := by decide +kernel
theorem dX5_thing_12 : decode cX5_thing 12 = .ok (.getfield 10, 3) := by decide +kernel
theorem dX5_thing_15 : decode cX5_thing 15 = .ok (.iload_n 1, 1) := by decide +kernel
theorem dX5_thing_16 : decode cX5_thing 16 = .ok (.iload_n 2, 1) := by decide +kernel
theorem dX5_thing_17 : decode cX5_thing 17 = .ok (.invokevirtual 129, 3) := by decide +kernel
theorem dX5_thing_20 : decode cX5_thing 20 = .ok (.ireturn, 1) := by decide +kernel
set_option maxRecDepth 20000 in
theorem ggX5_grantOf_X5_requireGrant : GoodIn wsX5_grantOf wsX5_requireGrant := goodIn_ca (goodIn_r _ [6, 7, 8, 1, 9, 10, 11, 12, 13, 14, 15, 16, 17, 18, 19, 20, 21, 22, 23, 24, 25, 26, 45, 46, 47, 48, 49, 50, 51, 52, 53, 54, 55, 56, 57, 58, 59, 60, 61, 62] (by decide +kernel) (by decide +kernel)) (goodIn_sub (fun _ h => List.mem_cons_of_mem _ (List.mem_append_left _ (List.mem_append_right _ h))) (by decide +kernel))
set_option maxRecDepth 20000 in
theorem gX5_grantOf_X5_requireGrant : GoodIn wsX5_grantOf (wsV RX5 104 RX5 yX5_requireGrant wsX5_requireGrant) := goodIn_app (goodIn_of _ (by decide +kernel)) ggX5_grantOf_X5_requireGrant
set_option maxRecDepth 20000 in
theorem ggX5_grantOf_X5_requireRange : GoodIn wsX5_grantOf wsX5_requireRange := goodIn_ca (goodIn_r _ [29, 30, 31, 32, 33, 5, 34] (by decide +kernel) (by decide +kernel)) (goodIn_sub (fun _ h => List.mem_cons_of_mem _ (List.mem_append_right _ h)) (by decide +kernel))
set_option maxRecDepth 20000 in
theorem gX5_grantOf_X5_requireRange : GoodIn wsX5_grantOf (va_wsS RX5 79 yX5_requireRange wsX5_requireRange) := goodIn_app (goodIn_of _ (by decide +kernel)) ggX5_grantOf_X5_requireRange
set_option maxRecDepth 20000 in
theorem ggX5_grantOf_X2_aboutGrant : GoodIn wsX5_grantOf wsX2_aboutGrant := goodIn_r _ [38, 14, 21, 22, 23, 18, 24, 20, 25, 26, 39, 40, 41, 12, 42, 43, 44, 50, 51, 52, 53, 54, 55, 56, 57, 58, 59, 60, 61, 62] (by decide +kernel) (by decide +kernel)
set_option maxRecDepth 20000 in
theorem gX5_grantOf_X2_aboutGrant : GoodIn wsX5_grantOf (wsV RX5 132 RX2 yX2_aboutGrant wsX2_aboutGrant) := goodIn_app (goodIn_of _ (by decide +kernel)) ggX5_grantOf_X2_aboutGrant
theorem dX5_grantOf_0 : decode cX5_grantOf 0 = .ok (.aload_n 0, 1) := by decide +kernel
theorem dX5_grantOf_1 : decode cX5_grantOf 1 = .ok (.iload_n 1, 1) := by decide +kernel
theorem dX5_grantOf_2 : decode cX5_grantOf 2 = .ok (.invokevirtual 104, 3) := by decide +kernel
theorem dX5_grantOf_5 : decode cX5_grantOf 5 = .ok (.istore_n 3, 1) := by decide +kernel
theorem dX5_grantOf_6 : decode cX5_grantOf 6 = .ok (.iload_n 2, 1) := by decide +kernel
theorem dX5_grantOf_7 : decode cX5_grantOf 7 = .ok (.iconst 0, 1) := by decide +kernel
theorem dX5_grantOf_8 : decode cX5_grantOf 8 = .ok (.iconst 5, 1) := by decide +kernel
theorem dX5_grantOf_9 : decode cX5_grantOf 9 = .ok (.invokestatic 79, 3) := by decide +kernel
theorem dX5_grantOf_12 : decode cX5_grantOf 12 = .ok (.aload_n 0, 1) := by decide +kernel
theorem dX5_grantOf_13 : decode cX5_grantOf 13 = .ok (.getfield 10, 3) := by decide +kernel
theorem dX5_grantOf_16 : decode cX5_grantOf 16 = .ok (.iload_n 3, 1) := by decide +kernel
theorem dX5_grantOf_17 : decode cX5_grantOf 17 = .ok (.iload_n 2, 1) := by decide +kernel
theorem dX5_grantOf_18 : decode cX5_grantOf 18 = .ok (.invokevirtual 132, 3) := by decide +kernel
theorem dX5_grantOf_21 : decode cX5_grantOf 21 = .ok (.ireturn, 1) := by decide +kernel
set_option maxRecDepth 20000 in
theorem ggX5_chain_X5_requirePerson : GoodIn wsX5_chain wsX5_requirePerson := goodIn_ca (goodIn_r _ [6, 7, 8, 9, 10, 5, 11, 12, 13, 14] (by decide +kernel) (by decide +kernel)) (goodIn_sub (fun _ h => List.mem_cons_of_mem _ (List.mem_append_right _ h)) (by decide +kernel))
set_option maxRecDepth 20000 in
theorem gX5_chain_X5_requirePerson : GoodIn wsX5_chain (va_wsS RX5 40 yX5_requirePerson wsX5_requirePerson) := goodIn_app (goodIn_of _ (by decide +kernel)) ggX5_chain_X5_requirePerson
set_option maxRecDepth 20000 in
theorem ggX5_chain_X5_requireThing : GoodIn wsX5_chain wsX5_requireThing := goodIn_ca (goodIn_r _ [18, 7, 8, 2, 19, 20, 21, 22, 23, 24, 25, 66, 67, 68, 69, 70, 71, 72, 73, 74, 75, 76, 77, 78, 79, 80, 81, 82, 83] (by decide +kernel) (by decide +kernel)) (goodIn_sub (fun _ h => List.mem_cons_of_mem _ (List.mem_append_right _ h)) (by decide +kernel))
set_option maxRecDepth 20000 in
theorem gX5_chain_X5_requireThing : GoodIn wsX5_chain (wsV RX5 72 RX5 yX5_requireThing wsX5_requireThing) := goodIn_app (goodIn_of _ (by decide +kernel)) ggX5_chain_X5_requireThing
set_option maxRecDepth 20000 in
theorem ggX5_chain_X0_measure : GoodIn wsX5_chain wsX0_measure := goodIn_r _ [30, 31, 32, 33, 34, 35, 36, 23, 37, 25, 38, 39, 40, 41, 42, 43, 44, 45, 46, 47, 48, 49, 50, 29, 51, 52, 53, 54, 55, 56, 57, 58, 59, 60, 61, 62, 63, 64, 84, 71, 72, 73, 74, 75, 76, 77, 78, 79, 80, 81, 82, 83] (by decide +kernel) (by decide +kernel)
set_option maxRecDepth 20000 in
theorem gX5_chain_X0_measure : GoodIn wsX5_chain (wsV RX5 135 RX0 yX0_measure wsX0_measure) := goodIn_app (goodIn_of _ (by decide +kernel)) ggX5_chain_X0_measure
set_option maxRecDepth 20000 in
theorem ggX5_chain_X0_stepsTo : GoodIn wsX5_chain wsX0_stepsTo := goodIn_r _ [51, 31, 34, 35, 36, 23, 37, 25, 38, 39, 84, 80, 81, 82, 83] (by decide +kernel) (by decide +kernel)
set_option maxRecDepth 20000 in
theorem gX5_chain_X0_stepsTo : GoodIn wsX5_chain (wsV RX5 139 RX0 yX0_stepsTo wsX0_stepsTo) := goodIn_app (goodIn_of _ (by decide +kernel)) ggX5_chain_X0_stepsTo
theorem dX5_chain_0 : decode cX5_chain 0 = .ok (.iload_n 1, 1) := by decide +kernel
theorem dX5_chain_1 : decode cX5_chain 1 = .ok (.invokestatic 40, 3) := by decide +kernel
theorem dX5_chain_4 : decode cX5_chain 4 = .ok (.aload_n 0, 1) := by decide +kernel
theorem dX5_chain_5 : decode cX5_chain 5 = .ok (.iload_n 2, 1) := by decide +kernel
theorem dX5_chain_6 : decode cX5_chain 6 = .ok (.invokevirtual 72, 3) := by decide +kernel
theorem dX5_chain_9 : decode cX5_chain 9 = .ok (.aload_n 0, 1) := by decide +kernel
theorem dX5_chain_10 : decode cX5_chain 10 = .ok (.getfield 29, 3) := by decide +kernel
theorem dX5_chain_13 : decode cX5_chain 13 = .ok (.aload_n 0, 1) := by decide +kernel
theorem dX5_chain_14 : decode cX5_chain 14 = .ok (.getfield 10, 3) := by decide +kernel
theorem dX5_chain_17 : decode cX5_chain 17 = .ok (.iload_n 2, 1) := by decide +kernel
theorem dX5_chain_18 : decode cX5_chain 18 = .ok (.invokevirtual 135, 3) := by decide +kernel
theorem dX5_chain_21 : decode cX5_chain 21 = .ok (.aload_n 0, 1) := by decide +kernel
theorem dX5_chain_22 : decode cX5_chain 22 = .ok (.getfield 29, 3) := by decide +kernel
theorem dX5_chain_25 : decode cX5_chain 25 = .ok (.iload_n 1, 1) := by decide +kernel
theorem dX5_chain_26 : decode cX5_chain 26 = .ok (.invokevirtual 139, 3) := by decide +kernel
theorem dX5_chain_29 : decode cX5_chain 29 = .ok (.ireturn, 1) := by decide +kernel
set_option maxRecDepth 20000 in
theorem ggX5_link_X5_requirePerson : GoodIn wsX5_link wsX5_requirePerson := goodIn_ca (goodIn_r _ [8, 1, 2, 9, 10, 7, 11, 12, 13, 14] (by decide +kernel) (by decide +kernel)) (goodIn_sub (fun _ h => List.mem_cons_of_mem _ (List.mem_append_right _ h)) (by decide +kernel))
set_option maxRecDepth 20000 in
theorem gX5_link_X5_requirePerson : GoodIn wsX5_link (va_wsS RX5 40 yX5_requirePerson wsX5_requirePerson) := goodIn_app (goodIn_of _ (by decide +kernel)) ggX5_link_X5_requirePerson
set_option maxRecDepth 20000 in
theorem ggX5_link_X5_requireThing : GoodIn wsX5_link wsX5_requireThing := goodIn_ca (goodIn_r _ [18, 1, 2, 4, 19, 20, 21, 22, 23, 24, 25, 74, 75, 76, 77, 78, 79, 80, 81, 82, 83, 84, 85, 86, 87, 88, 89, 90, 91] (by decide +kernel) (by decide +kernel)) (goodIn_sub (fun _ h => List.mem_cons_of_mem _ (List.mem_append_right _ h)) (by decide +kernel))
set_option maxRecDepth 20000 in
theorem gX5_link_X5_requireThing : GoodIn wsX5_link (wsV RX5 72 RX5 yX5_requireThing wsX5_requireThing) := goodIn_app (goodIn_of _ (by decide +kernel)) ggX5_link_X5_requireThing
set_option maxRecDepth 20000 in
theorem ggX5_link_X0_measure : GoodIn wsX5_link wsX0_measure := goodIn_r _ [30, 31, 32, 33, 34, 35, 36, 23, 37, 25, 38, 39, 40, 41, 42, 43, 44, 45, 46, 47, 48, 49, 50, 29, 51, 52, 53, 54, 55, 56, 57, 58, 59, 60, 61, 62, 63, 64, 92, 79, 80, 81, 82, 83, 84, 85, 86, 87, 88, 89, 90, 91] (by decide +kernel) (by decide +kernel)
set_option maxRecDepth 20000 in
theorem gX5_link_X0_measure : GoodIn wsX5_link (wsV RX5 135 RX0 yX0_measure wsX0_measure) := goodIn_app (goodIn_of _ (by decide +kernel)) ggX5_link_X0_measure
set_option maxRecDepth 20000 in
theorem ggX5_link_X0_stepsTo : GoodIn wsX5_link wsX0_stepsTo := goodIn_r _ [51, 31, 34, 35, 36, 23, 37, 25, 38, 39, 92, 88, 89, 90, 91] (by decide +kernel) (by decide +kernel)
set_option maxRecDepth 20000 in
theorem gX5_link_X0_stepsTo : GoodIn wsX5_link (wsV RX5 139 RX0 yX0_stepsTo wsX0_stepsTo) := goodIn_app (goodIn_of _ (by decide +kernel)) ggX5_link_X0_stepsTo
set_option maxRecDepth 20000 in
theorem ggX5_link_X0_numberAt : GoodIn wsX5_link wsX0_numberAt := goodIn_r _ [69, 33, 48, 49, 50, 29, 51, 31, 34, 35, 36, 23, 37, 25, 38, 39, 70, 71, 72, 73, 44, 45, 46, 47, 52, 53, 54, 55, 56, 57, 58, 59, 60, 61, 62, 63, 64, 79, 80, 81, 82, 83, 84, 85, 86, 87, 92, 88, 89, 90, 91] (by decide +kernel) (by decide +kernel)
set_option maxRecDepth 20000 in
theorem gX5_link_X0_numberAt : GoodIn wsX5_link (wsV RX5 147 RX0 yX0_numberAt wsX0_numberAt) := goodIn_app (goodIn_of _ (by decide +kernel)) ggX5_link_X0_numberAt
theorem dX5_link_0 : decode cX5_link 0 = .ok (.iload_n 1, 1) := by decide +kernel
theorem dX5_link_1 : decode cX5_link 1 = .ok (.invokestatic 40, 3) := by decide +kernel
theorem dX5_link_4 : decode cX5_link 4 = .ok (.aload_n 0, 1) := by decide +kernel
theorem dX5_link_5 : decode cX5_link 5 = .ok (.iload_n 2, 1) := by decide +kernel
theorem dX5_link_6 : decode cX5_link 6 = .ok (.invokevirtual 72, 3) := by decide +kernel
theorem dX5_link_9 : decode cX5_link 9 = .ok (.aload_n 0, 1) := by decide +kernel
theorem dX5_link_10 : decode cX5_link 10 = .ok (.getfield 29, 3) := by decide +kernel
theorem dX5_link_13 : decode cX5_link 13 = .ok (.aload_n 0, 1) := by decide +kernel
theorem dX5_link_14 : decode cX5_link 14 = .ok (.getfield 10, 3) := by decide +kernel
theorem dX5_link_17 : decode cX5_link 17 = .ok (.iload_n 2, 1) := by decide +kernel
theorem dX5_link_18 : decode cX5_link 18 = .ok (.invokevirtual 135, 3) := by decide +kernel
theorem dX5_link_21 : decode cX5_link 21 = .ok (.iload_n 3, 1) := by decide +kernel
theorem dX5_link_22 : decode cX5_link 22 = .ok (.ifCond .lt 15, 3) := by decide +kernel
theorem dX5_link_25 : decode cX5_link 25 = .ok (.iload_n 3, 1) := by decide +kernel
theorem dX5_link_26 : decode cX5_link 26 = .ok (.aload_n 0, 1) := by decide +kernel
theorem dX5_link_27 : decode cX5_link 27 = .ok (.getfield 29, 3) := by decide +kernel
theorem dX5_link_30 : decode cX5_link 30 = .ok (.iload_n 1, 1) := by decide +kernel
theorem dX5_link_31 : decode cX5_link 31 = .ok (.invokevirtual 139, 3) := by decide +kernel
theorem dX5_link_34 : decode cX5_link 34 = .ok (.if_icmp .lt 13, 3) := by decide +kernel
theorem dX5_link_37 : decode cX5_link 37 = .ok (.new 142, 3) := by decide +kernel
theorem dX5_link_40 : decode cX5_link 40 = .ok (.dup, 1) := by decide +kernel
theorem dX5_link_41 : decode cX5_link 41 = .ok (.ldc 144, 2) := by decide +kernel
theorem dX5_link_43 : decode cX5_link 43 = .ok (.invokespecial 146, 3) := by decide +kernel
theorem dX5_link_46 : decode cX5_link 46 = .ok (.athrow, 1) := by decide +kernel
theorem dX5_link_47 : decode cX5_link 47 = .ok (.aload_n 0, 1) := by decide +kernel
theorem dX5_link_48 : decode cX5_link 48 = .ok (.getfield 29, 3) := by decide +kernel
theorem dX5_link_51 : decode cX5_link 51 = .ok (.aload_n 0, 1) := by decide +kernel
theorem dX5_link_52 : decode cX5_link 52 = .ok (.getfield 10, 3) := by decide +kernel
theorem dX5_link_55 : decode cX5_link 55 = .ok (.iload_n 1, 1) := by decide +kernel
theorem dX5_link_56 : decode cX5_link 56 = .ok (.iload_n 2, 1) := by decide +kernel
theorem dX5_link_57 : decode cX5_link 57 = .ok (.iload_n 3, 1) := by decide +kernel
theorem dX5_link_58 : decode cX5_link 58 = .ok (.invokevirtual 147, 3) := by decide +kernel
theorem dX5_link_61 : decode cX5_link 61 = .ok (.ireturn, 1) := by decide +kernel
set_option maxRecDepth 20000 in
theorem ggX5_why_X5_requirePerson : GoodIn wsX5_why wsX5_requirePerson := goodIn_ca (goodIn_r _ [7, 8, 9, 10, 11, 6, 12, 13, 14, 15] (by decide +kernel) (by decide +kernel)) (goodIn_sub (fun _ h => List.mem_cons_of_mem _ (List.mem_append_right _ h)) (by decide +kernel))
set_option maxRecDepth 20000 in
theorem gX5_why_X5_requirePerson : GoodIn wsX5_why (va_wsS RX5 40 yX5_requirePerson wsX5_requirePerson) := goodIn_app (goodIn_of _ (by decide +kernel)) ggX5_why_X5_requirePerson
set_option maxRecDepth 20000 in
theorem ggX5_why_X5_requireThing : GoodIn wsX5_why wsX5_requireThing := goodIn_ca (goodIn_r _ [19, 8, 9, 3, 20, 21, 22, 23, 24, 25, 26, 57, 58, 59, 60, 61, 62, 63, 64, 65, 66, 67, 68, 69, 70, 71, 72, 73, 74] (by decide +kernel) (by decide +kernel)) (goodIn_sub (fun _ h => List.mem_cons_of_mem _ (List.mem_append_right _ h)) (by decide +kernel))
set_option maxRecDepth 20000 in
theorem gX5_why_X5_requireThing : GoodIn wsX5_why (wsV RX5 72 RX5 yX5_requireThing wsX5_requireThing) := goodIn_app (goodIn_of _ (by decide +kernel)) ggX5_why_X5_requireThing
set_option maxRecDepth 20000 in
theorem ggX5_why_X2_reasonAgainst : GoodIn wsX5_why wsX2_reasonAgainst := goodIn_r _ [31, 32, 33, 34, 35, 36, 37, 38, 39, 40, 30, 41, 42, 43, 44, 45, 24, 46, 26, 47, 48, 49, 50, 51, 52, 53, 54, 55, 56, 62, 63, 64, 65, 66, 67, 68, 69, 70, 71, 72, 73, 74] (by decide +kernel) (by decide +kernel)
set_option maxRecDepth 20000 in
theorem gX5_why_X2_reasonAgainst : GoodIn wsX5_why (wsV RX5 156 RX2 yX2_reasonAgainst wsX2_reasonAgainst) := goodIn_app (goodIn_of _ (by decide +kernel)) ggX5_why_X2_reasonAgainst
theorem dX5_why_0 : decode cX5_why 0 = .ok (.iload_n 1, 1) := by decide +kernel
theorem dX5_why_1 : decode cX5_why 1 = .ok (.invokestatic 40, 3) := by decide +kernel
theorem dX5_why_4 : decode cX5_why 4 = .ok (.aload_n 0, 1) := by decide +kernel
theorem dX5_why_5 : decode cX5_why 5 = .ok (.iload_n 2, 1) := by decide +kernel
theorem dX5_why_6 : decode cX5_why 6 = .ok (.invokevirtual 72, 3) := by decide +kernel
theorem dX5_why_9 : decode cX5_why 9 = .ok (.iload_n 3, 1) := by decide +kernel
theorem dX5_why_10 : decode cX5_why 10 = .ok (.iconst 1, 1) := by decide +kernel
theorem dX5_why_11 : decode cX5_why 11 = .ok (.if_icmp .eq 23, 3) := by decide +kernel
theorem dX5_why_14 : decode cX5_why 14 = .ok (.iload_n 3, 1) := by decide +kernel
theorem dX5_why_15 : decode cX5_why 15 = .ok (.iconst 2, 1) := by decide +kernel
theorem dX5_why_16 : decode cX5_why 16 = .ok (.if_icmp .eq 18, 3) := by decide +kernel
theorem dX5_why_19 : decode cX5_why 19 = .ok (.iload_n 3, 1) := by decide +kernel
theorem dX5_why_20 : decode cX5_why 20 = .ok (.iconst 4, 1) := by decide +kernel
theorem dX5_why_21 : decode cX5_why 21 = .ok (.if_icmp .eq 13, 3) := by decide +kernel
theorem dX5_why_24 : decode cX5_why 24 = .ok (.new 151, 3) := by decide +kernel
theorem dX5_why_27 : decode cX5_why 27 = .ok (.dup, 1) := by decide +kernel
theorem dX5_why_28 : decode cX5_why 28 = .ok (.ldc 153, 2) := by decide +kernel
theorem dX5_why_30 : decode cX5_why 30 = .ok (.invokespecial 155, 3) := by decide +kernel
theorem dX5_why_33 : decode cX5_why 33 = .ok (.athrow, 1) := by decide +kernel
theorem dX5_why_34 : decode cX5_why 34 = .ok (.aload_n 0, 1) := by decide +kernel
theorem dX5_why_35 : decode cX5_why 35 = .ok (.getfield 10, 3) := by decide +kernel
theorem dX5_why_38 : decode cX5_why 38 = .ok (.iload_n 1, 1) := by decide +kernel
theorem dX5_why_39 : decode cX5_why 39 = .ok (.iload_n 2, 1) := by decide +kernel
theorem dX5_why_40 : decode cX5_why 40 = .ok (.iload_n 3, 1) := by decide +kernel
theorem dX5_why_41 : decode cX5_why 41 = .ok (.invokevirtual 156, 3) := by decide +kernel
theorem dX5_why_44 : decode cX5_why 44 = .ok (.ireturn, 1) := by decide +kernel
set_option maxRecDepth 20000 in
theorem ggX5_value_X5_requireRange : GoodIn wsX5_value wsX5_requireRange := goodIn_ca (goodIn_r _ [5, 6, 7, 8, 9, 4, 10] (by decide +kernel) (by decide +kernel)) (goodIn_sub (fun _ h => List.mem_cons_of_mem _ (List.mem_append_right _ h)) (by decide +kernel))
set_option maxRecDepth 20000 in
theorem gX5_value_X5_requireRange : GoodIn wsX5_value (va_wsS RX5 79 yX5_requireRange wsX5_requireRange) := goodIn_app (goodIn_of _ (by decide +kernel)) ggX5_value_X5_requireRange
set_option maxRecDepth 20000 in
theorem ggX5_value_X2_aboutHouse : GoodIn wsX5_value wsX2_aboutHouse := goodIn_r _ [15, 16, 17, 18, 19, 20, 21, 22, 23, 24, 25, 26, 27, 28, 29, 30, 31, 14, 32, 33, 34, 35, 36, 37, 38, 39, 40, 41, 42, 43, 44, 45, 46, 47, 48, 49, 50, 51, 52, 53, 54, 55, 56, 57, 58, 64, 65, 66, 67, 68, 69, 70, 71, 72, 73, 74, 75, 76] (by decide +kernel) (by decide +kernel)
set_option maxRecDepth 20000 in
theorem gX5_value_X2_aboutHouse : GoodIn wsX5_value (wsV RX5 159 RX2 yX2_aboutHouse wsX2_aboutHouse) := goodIn_app (goodIn_of _ (by decide +kernel)) ggX5_value_X2_aboutHouse
theorem dX5_value_0 : decode cX5_value 0 = .ok (.iload_n 1, 1) := by decide +kernel
theorem dX5_value_1 : decode cX5_value 1 = .ok (.iconst 0, 1) := by decide +kernel
theorem dX5_value_2 : decode cX5_value 2 = .ok (.bipush 8, 2) := by decide +kernel
theorem dX5_value_4 : decode cX5_value 4 = .ok (.invokestatic 79, 3) := by decide +kernel
theorem dX5_value_7 : decode cX5_value 7 = .ok (.aload_n 0, 1) := by decide +kernel
theorem dX5_value_8 : decode cX5_value 8 = .ok (.getfield 10, 3) := by decide +kernel
theorem dX5_value_11 : decode cX5_value 11 = .ok (.iload_n 1, 1) := by decide +kernel
theorem dX5_value_12 : decode cX5_value 12 = .ok (.invokevirtual 159, 3) := by decide +kernel
theorem dX5_value_15 : decode cX5_value 15 = .ok (.ireturn, 1) := by decide +kernel
set_option maxRecDepth 20000 in
theorem ggX5_entry_X3_rows : GoodIn wsX5_entry wsX3_rows := goodIn_r _ [9, 10, 47, 48, 49, 50] (by decide +kernel) (by decide +kernel)
set_option maxRecDepth 20000 in
theorem gX5_entry_X3_rows : GoodIn wsX5_entry (wsV RX5 165 RX3 yX3_rows wsX3_rows) := goodIn_app (goodIn_of _ (by decide +kernel)) ggX5_entry_X3_rows
set_option maxRecDepth 20000 in
theorem ggX5_entry_X5_requireRange : GoodIn wsX5_entry wsX5_requireRange := goodIn_ca (goodIn_r _ [14, 15, 16, 17, 18, 13, 19] (by decide +kernel) (by decide +kernel)) (goodIn_sub (fun _ h => List.mem_cons_of_mem _ (List.mem_append_right _ h)) (by decide +kernel))
set_option maxRecDepth 20000 in
theorem gX5_entry_X5_requireRange : GoodIn wsX5_entry (va_wsS RX5 79 yX5_requireRange wsX5_requireRange) := goodIn_app (goodIn_of _ (by decide +kernel)) ggX5_entry_X5_requireRange
set_option maxRecDepth 20000 in
theorem ggX5_entry_X2_aboutEntry : GoodIn wsX5_entry wsX2_aboutEntry := goodIn_r _ [24, 25, 26, 6, 7, 8, 9, 10, 27, 28, 29, 30, 31, 32, 38, 39, 40, 41, 42, 43, 44, 45, 46, 47, 48, 49, 50] (by decide +kernel) (by decide +kernel)
set_option maxRecDepth 20000 in
theorem gX5_entry_X2_aboutEntry : GoodIn wsX5_entry (wsV RX5 171 RX2 yX2_aboutEntry wsX2_aboutEntry) := goodIn_app (goodIn_of _ (by decide +kernel)) ggX5_entry_X2_aboutEntry
theorem dX5_entry_0 : decode cX5_entry 0 = .ok (.iload_n 1, 1) := by decide +kernel
theorem dX5_entry_1 : decode cX5_entry 1 = .ok (.ifCond .lt 17, 3) := by decide +kernel
theorem dX5_entry_4 : decode cX5_entry 4 = .ok (.iload_n 1, 1) := by decide +kernel
theorem dX5_entry_5 : decode cX5_entry 5 = .ok (.aload_n 0, 1) := by decide +kernel
theorem dX5_entry_6 : decode cX5_entry 6 = .ok (.getfield 10, 3) := by decide +kernel
theorem dX5_entry_9 : decode cX5_entry 9 = .ok (.getfield 162, 3) := by decide +kernel
theorem dX5_entry_12 : decode cX5_entry 12 = .ok (.invokevirtual 165, 3) := by decide +kernel
theorem dX5_entry_15 : decode cX5_entry 15 = .ok (.if_icmp .lt 13, 3) := by decide +kernel
theorem dX5_entry_18 : decode cX5_entry 18 = .ok (.new 142, 3) := by decide +kernel
theorem dX5_entry_21 : decode cX5_entry 21 = .ok (.dup, 1) := by decide +kernel
theorem dX5_entry_22 : decode cX5_entry 22 = .ok (.ldc 169, 2) := by decide +kernel
theorem dX5_entry_24 : decode cX5_entry 24 = .ok (.invokespecial 146, 3) := by decide +kernel
theorem dX5_entry_27 : decode cX5_entry 27 = .ok (.athrow, 1) := by decide +kernel
theorem dX5_entry_28 : decode cX5_entry 28 = .ok (.iload_n 2, 1) := by decide +kernel
theorem dX5_entry_29 : decode cX5_entry 29 = .ok (.iconst 0, 1) := by decide +kernel
theorem dX5_entry_30 : decode cX5_entry 30 = .ok (.iconst 2, 1) := by decide +kernel
theorem dX5_entry_31 : decode cX5_entry 31 = .ok (.invokestatic 79, 3) := by decide +kernel
theorem dX5_entry_34 : decode cX5_entry 34 = .ok (.aload_n 0, 1) := by decide +kernel
theorem dX5_entry_35 : decode cX5_entry 35 = .ok (.getfield 10, 3) := by decide +kernel
theorem dX5_entry_38 : decode cX5_entry 38 = .ok (.iload_n 1, 1) := by decide +kernel
theorem dX5_entry_39 : decode cX5_entry 39 = .ok (.iload_n 2, 1) := by decide +kernel
theorem dX5_entry_40 : decode cX5_entry 40 = .ok (.invokevirtual 171, 3) := by decide +kernel
theorem dX5_entry_43 : decode cX5_entry 43 = .ok (.ireturn, 1) := by decide +kernel
set_option maxRecDepth 20000 in
theorem ggX5_lostBy_X5_requirePerson : GoodIn wsX5_lostBy wsX5_requirePerson := goodIn_ca (goodIn_r _ [4, 5, 6, 7, 8, 3, 9, 10, 11, 12] (by decide +kernel) (by decide +kernel)) (goodIn_sub (fun _ h => List.mem_cons_of_mem _ (List.mem_append_right _ h)) (by decide +kernel))
set_option maxRecDepth 20000 in
theorem gX5_lostBy_X5_requirePerson : GoodIn wsX5_lostBy (va_wsS RX5 40 yX5_requirePerson wsX5_requirePerson) := goodIn_app (goodIn_of _ (by decide +kernel)) ggX5_lostBy_X5_requirePerson
set_option maxRecDepth 20000 in
theorem ggX5_lostBy_X5_pairsLostBy : GoodIn wsX5_lostBy wsX5_pairsLostBy := goodIn_r _ [16, 17, 18, 19, 20, 21, 22, 23, 24, 25, 26, 27, 28, 29, 30, 31, 32, 33, 34, 35, 36, 37, 38, 39, 40, 41, 42, 43, 44, 45, 46, 47, 48, 49, 50, 51, 52, 53, 54, 55, 56, 57, 58, 59, 60, 61, 62, 63, 64, 65, 66, 67, 68, 69, 70, 71, 72, 73, 74, 75, 76, 77, 78, 79, 80, 81, 82, 83, 84, 85, 86, 87, 88, 89, 90, 91, 92, 93, 94, 95, 96, 97, 98, 99, 100, 101, 102, 103, 104, 105, 106, 107, 108, 109, 110, 111, 112, 113, 114, 115, 116, 117, 118, 119, 120, 121, 122, 123, 124, 125, 126, 127, 128, 129] (by decide +kernel) (by decide +kernel)
set_option maxRecDepth 20000 in
theorem gX5_lostBy_X5_pairsLostBy : GoodIn wsX5_lostBy (wsV RX5 174 RX5 yX5_pairsLostBy wsX5_pairsLostBy) := goodIn_app (goodIn_of _ (by decide +kernel)) ggX5_lostBy_X5_pairsLostBy
theorem dX5_lostBy_0 : decode cX5_lostBy 0 = .ok (.iload_n 1, 1) := by decide +kernel
theorem dX5_lostBy_1 : decode cX5_lostBy 1 = .ok (.invokestatic 40, 3) := by decide +kernel
theorem dX5_lostBy_4 : decode cX5_lostBy 4 = .ok (.aload_n 0, 1) := by decide +kernel
theorem dX5_lostBy_5 : decode cX5_lostBy 5 = .ok (.iload_n 1, 1) := by decide +kernel
theorem dX5_lostBy_6 : decode cX5_lostBy 6 = .ok (.invokevirtual 174, 3) := by decide +kernel
theorem dX5_lostBy_9 : decode cX5_lostBy 9 = .ok (.ireturn, 1) := by decide +kernel
set_option maxRecDepth 20000 in
theorem ggX5_mostNeeded_X5_pairsLostBy : GoodIn wsX5_mostNeeded wsX5_pairsLostBy := goodIn_r _ [5, 6, 7, 8, 9, 10, 11, 12, 13, 14, 15, 16, 17, 18, 19, 20, 21, 22, 23, 24, 25, 26, 27, 28, 29, 30, 31, 32, 33, 34, 35, 36, 37, 38, 39, 40, 41, 42, 43, 44, 45, 46, 47, 48, 49, 50, 51, 52, 53, 54, 55, 56, 57, 58, 59, 60, 61, 62, 63, 64, 65, 66, 67, 68, 69, 70, 71, 72, 73, 74, 75, 76, 77, 78, 79, 80, 81, 82, 83, 84, 85, 86, 87, 88, 89, 90, 91, 92, 93, 94, 95, 96, 97, 98, 99, 100, 101, 102, 103, 104, 105, 106, 107, 108, 109, 110, 111, 112, 113, 114, 115, 116, 117, 118] (by decide +kernel) (by decide +kernel)
set_option maxRecDepth 20000 in
theorem gX5_mostNeeded_X5_pairsLostBy : GoodIn wsX5_mostNeeded (wsV RX5 174 RX5 yX5_pairsLostBy wsX5_pairsLostBy) := goodIn_app (goodIn_of _ (by decide +kernel)) ggX5_mostNeeded_X5_pairsLostBy
theorem dX5_mostNeeded_0 : decode cX5_mostNeeded 0 = .ok (.iconst (-1), 1) := by decide +kernel
theorem dX5_mostNeeded_1 : decode cX5_mostNeeded 1 = .ok (.istore_n 1, 1) := by decide +kernel
theorem dX5_mostNeeded_2 : decode cX5_mostNeeded 2 = .ok (.iconst 0, 1) := by decide +kernel
theorem dX5_mostNeeded_3 : decode cX5_mostNeeded 3 = .ok (.istore_n 2, 1) := by decide +kernel
theorem dX5_mostNeeded_4 : decode cX5_mostNeeded 4 = .ok (.iconst 0, 1) := by decide +kernel
theorem dX5_mostNeeded_5 : decode cX5_mostNeeded 5 = .ok (.istore_n 3, 1) := by decide +kernel
theorem dX5_mostNeeded_6 : decode cX5_mostNeeded 6 = .ok (.iload_n 3, 1) := by decide +kernel
theorem dX5_mostNeeded_7 : decode cX5_mostNeeded 7 = .ok (.bipush 10, 2) := by decide +kernel
theorem dX5_mostNeeded_9 : decode cX5_mostNeeded 9 = .ok (.if_icmp .ge 27, 3) := by decide +kernel
theorem dX5_mostNeeded_12 : decode cX5_mostNeeded 12 = .ok (.aload_n 0, 1) := by decide +kernel
theorem dX5_mostNeeded_13 : decode cX5_mostNeeded 13 = .ok (.iload_n 3, 1) := by decide +kernel
theorem dX5_mostNeeded_14 : decode cX5_mostNeeded 14 = .ok (.invokevirtual 174, 3) := by decide +kernel
theorem dX5_mostNeeded_17 : decode cX5_mostNeeded 17 = .ok (.istore 4, 2) := by decide +kernel
theorem dX5_mostNeeded_19 : decode cX5_mostNeeded 19 = .ok (.iload 4, 2) := by decide +kernel
theorem dX5_mostNeeded_21 : decode cX5_mostNeeded 21 = .ok (.iload_n 2, 1) := by decide +kernel
theorem dX5_mostNeeded_22 : decode cX5_mostNeeded 22 = .ok (.if_icmp .le 8, 3) := by decide +kernel
theorem dX5_mostNeeded_25 : decode cX5_mostNeeded 25 = .ok (.iload 4, 2) := by decide +kernel
theorem dX5_mostNeeded_27 : decode cX5_mostNeeded 27 = .ok (.istore_n 2, 1) := by decide +kernel
theorem dX5_mostNeeded_28 : decode cX5_mostNeeded 28 = .ok (.iload_n 3, 1) := by decide +kernel
theorem dX5_mostNeeded_29 : decode cX5_mostNeeded 29 = .ok (.istore_n 1, 1) := by decide +kernel
theorem dX5_mostNeeded_30 : decode cX5_mostNeeded 30 = .ok (.iinc 3 1, 3) := by decide +kernel
theorem dX5_mostNeeded_33 : decode cX5_mostNeeded 33 = .ok (.goto (-27), 3) := by decide +kernel
theorem dX5_mostNeeded_36 : decode cX5_mostNeeded 36 = .ok (.iload_n 1, 1) := by decide +kernel
theorem dX5_mostNeeded_37 : decode cX5_mostNeeded 37 = .ok (.ireturn, 1) := by decide +kernel
set_option maxRecDepth 20000 in
theorem ggX5_seenIn_X5_requireRange : GoodIn wsX5_seenIn wsX5_requireRange := goodIn_ca (goodIn_r _ [6, 7, 8, 9, 10, 5, 11] (by decide +kernel) (by decide +kernel)) (goodIn_sub (fun _ h => List.mem_cons_of_mem _ (List.mem_append_right _ h)) (by decide +kernel))
set_option maxRecDepth 20000 in
theorem gX5_seenIn_X5_requireRange : GoodIn wsX5_seenIn (va_wsS RX5 79 yX5_requireRange wsX5_requireRange) := goodIn_app (goodIn_of _ (by decide +kernel)) ggX5_seenIn_X5_requireRange
set_option maxRecDepth 20000 in
theorem ggX5_seenIn_X2_takeOver : GoodIn wsX5_seenIn wsX2_takeOver := goodIn_r _ [16, 17, 18, 19, 20, 21, 22, 23, 24, 25, 26, 27, 28, 29, 30, 31, 32, 33, 34, 107, 108, 109, 110, 111, 112, 113, 114, 115, 116, 117, 118, 119] (by decide +kernel) (by decide +kernel)
set_option maxRecDepth 20000 in
theorem gX5_seenIn_X2_takeOver : GoodIn wsX5_seenIn (wsV RX5 177 RX2 yX2_takeOver wsX2_takeOver) := goodIn_app (goodIn_of _ (by decide +kernel)) ggX5_seenIn_X2_takeOver
set_option maxRecDepth 20000 in
theorem ggX5_seenIn_X2_letPass : GoodIn wsX5_seenIn wsX2_letPass := goodIn_r _ [38, 25, 39, 40, 41, 15, 42, 17, 43, 44, 45, 29, 46, 31, 33, 34, 47, 48, 49, 50, 51, 52, 53, 54, 19, 23, 55, 56, 57, 58, 59, 60, 61, 62, 63, 64, 65, 66, 20, 67, 68, 69, 70, 32, 71, 72, 73, 74, 75, 76, 77, 78, 79, 80, 81, 82, 18, 21, 83, 84, 85, 86, 107, 108, 109, 110, 111, 112, 113, 114, 115, 116, 117, 118, 119] (by decide +kernel) (by decide +kernel)
set_option maxRecDepth 20000 in
theorem gX5_seenIn_X2_letPass : GoodIn wsX5_seenIn (wsV RX5 120 RX2 yX2_letPass wsX2_letPass) := goodIn_app (goodIn_of _ (by decide +kernel)) ggX5_seenIn_X2_letPass
