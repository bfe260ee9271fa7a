theorem dX6_addThing_59 : decode cX6_addThing 59 = .ok (.iload_n 1, 1) := by decide +kernel
theorem dX6_addThing_60 : decode cX6_addThing 60 = .ok (.iastore, 1) := by decide +kernel
theorem dX6_addThing_61 : decode cX6_addThing 61 = .ok (.aload_n 0, 1) := by decide +kernel
theorem dX6_addThing_62 : decode cX6_addThing 62 = .ok (.getfield 7, 3) := by decide +kernel
theorem dX6_addThing_65 : decode cX6_addThing 65 = .ok (.bipush 28, 2) := by decide +kernel
theorem dX6_addThing_67 : decode cX6_addThing 67 = .ok (.iconst 2, 1) := by decide +kernel
theorem dX6_addThing_68 : decode cX6_addThing 68 = .ok (.iload_n 3, 1) := by decide +kernel
theorem dX6_addThing_69 : decode cX6_addThing 69 = .ok (.imul, 1) := by decide +kernel
theorem dX6_addThing_70 : decode cX6_addThing 70 = .ok (.iadd, 1) := by decide +kernel
theorem dX6_addThing_71 : decode cX6_addThing 71 = .ok (.iconst 1, 1) := by decide +kernel
theorem dX6_addThing_72 : decode cX6_addThing 72 = .ok (.iadd, 1) := by decide +kernel
theorem dX6_addThing_73 : decode cX6_addThing 73 = .ok (.iload_n 2, 1) := by decide +kernel
theorem dX6_addThing_74 : decode cX6_addThing 74 = .ok (.iastore, 1) := by decide +kernel
theorem dX6_addThing_75 : decode cX6_addThing 75 = .ok (.aload_n 0, 1) := by decide +kernel
theorem dX6_addThing_76 : decode cX6_addThing 76 = .ok (.getfield 7, 3) := by decide +kernel
theorem dX6_addThing_79 : decode cX6_addThing 79 = .ok (.iconst 4, 1) := by decide +kernel
theorem dX6_addThing_80 : decode cX6_addThing 80 = .ok (.dup2, 1) := by decide +kernel
theorem dX6_addThing_81 : decode cX6_addThing 81 = .ok (.iaload, 1) := by decide +kernel
theorem dX6_addThing_82 : decode cX6_addThing 82 = .ok (.iconst 1, 1) := by decide +kernel
theorem dX6_addThing_83 : decode cX6_addThing 83 = .ok (.iadd, 1) := by decide +kernel
theorem dX6_addThing_84 : decode cX6_addThing 84 = .ok (.iastore, 1) := by decide +kernel
theorem dX6_addThing_85 : decode cX6_addThing 85 = .ok (.iload_n 3, 1) := by decide +kernel
theorem dX6_addThing_86 : decode cX6_addThing 86 = .ok (.ireturn, 1) := by decide +kernel
set_option maxRecDepth 20000 in
theorem ggX6_exchange_X6_save : GoodIn wsX6_exchange wsX6_save := goodIn_r _ [6, 7, 8, 1, 9, 10, 11, 12, 13, 14, 15, 16, 17, 18, 19, 20, 21] (by decide +kernel) (by decide +kernel)
set_option maxRecDepth 20000 in
theorem gX6_exchange_X6_save : GoodIn wsX6_exchange (wsV RX6 86 RX6 yX6_save wsX6_save) := goodIn_app (goodIn_of _ (by decide +kernel)) ggX6_exchange_X6_save
theorem dX6_exchange_0 : decode cX6_exchange 0 = .ok (.aload_n 0, 1) := by decide +kernel
theorem dX6_exchange_1 : decode cX6_exchange 1 = .ok (.invokevirtual 86, 3) := by decide +kernel
theorem dX6_exchange_4 : decode cX6_exchange 4 = .ok (.aload_n 0, 1) := by decide +kernel
theorem dX6_exchange_5 : decode cX6_exchange 5 = .ok (.getfield 7, 3) := by decide +kernel
theorem dX6_exchange_8 : decode cX6_exchange 8 = .ok (.iload_n 1, 1) := by decide +kernel
theorem dX6_exchange_9 : decode cX6_exchange 9 = .ok (.iaload, 1) := by decide +kernel
theorem dX6_exchange_10 : decode cX6_exchange 10 = .ok (.istore_n 3, 1) := by decide +kernel
theorem dX6_exchange_11 : decode cX6_exchange 11 = .ok (.aload_n 0, 1) := by decide +kernel
theorem dX6_exchange_12 : decode cX6_exchange 12 = .ok (.getfield 7, 3) := by decide +kernel
theorem dX6_exchange_15 : decode cX6_exchange 15 = .ok (.iload_n 1, 1) := by decide +kernel
theorem dX6_exchange_16 : decode cX6_exchange 16 = .ok (.iload_n 2, 1) := by decide +kernel
theorem dX6_exchange_17 : decode cX6_exchange 17 = .ok (.iastore, 1) := by decide +kernel
theorem dX6_exchange_18 : decode cX6_exchange 18 = .ok (.iload_n 3, 1) := by decide +kernel
theorem dX6_exchange_19 : decode cX6_exchange 19 = .ok (.ireturn, 1) := by decide +kernel
set_option maxRecDepth 20000 in
theorem ggX6_setMask_X6_isThing : GoodIn wsX6_setMask wsX6_isThing := goodIn_r _ [6, 7, 8, 9, 5, 10, 26, 27, 28, 29, 30, 31, 32, 33, 34, 35, 36, 37, 38] (by decide +kernel) (by decide +kernel)
set_option maxRecDepth 20000 in
theorem gX6_setMask_X6_isThing : GoodIn wsX6_setMask (wsV RX6 89 RX6 yX6_isThing wsX6_isThing) := goodIn_app (goodIn_of _ (by decide +kernel)) ggX6_setMask_X6_isThing
set_option maxRecDepth 20000 in
theorem ggX6_setMask_X6_in : GoodIn wsX6_setMask wsX6_in := goodIn_r _ [10] (by decide +kernel) (by decide +kernel)
set_option maxRecDepth 20000 in
theorem gX6_setMask_X6_in : GoodIn wsX6_setMask (va_wsS RX6 40 yX6_in wsX6_in) := goodIn_app (goodIn_of _ (by decide +kernel)) ggX6_setMask_X6_in
set_option maxRecDepth 20000 in
theorem ggX6_setMask_X6_goes : GoodIn wsX6_setMask wsX6_goes := goodIn_r _ [14, 15, 26, 27, 28, 29, 30, 31, 32, 33, 34, 35, 36, 37, 38] (by decide +kernel) (by decide +kernel)
set_option maxRecDepth 20000 in
theorem gX6_setMask_X6_goes : GoodIn wsX6_setMask (wsV RX6 82 RX6 yX6_goes wsX6_goes) := goodIn_app (goodIn_of _ (by decide +kernel)) ggX6_setMask_X6_goes
set_option maxRecDepth 20000 in
theorem ggX6_setMask_X6_exchange : GoodIn wsX6_setMask wsX6_exchange := goodIn_r _ [19, 7, 20, 21, 22, 5, 23, 24, 25, 26, 27, 28, 29, 30, 31, 32, 33, 34, 35, 36, 37, 38] (by decide +kernel) (by decide +kernel)
set_option maxRecDepth 20000 in
theorem gX6_setMask_X6_exchange : GoodIn wsX6_setMask (wsV RX6 92 RX6 yX6_exchange wsX6_exchange) := goodIn_app (goodIn_of _ (by decide +kernel)) ggX6_setMask_X6_exchange
theorem dX6_setMask_0 : decode cX6_setMask 0 = .ok (.aload_n 0, 1) := by decide +kernel
theorem dX6_setMask_1 : decode cX6_setMask 1 = .ok (.aload_n 0, 1) := by decide +kernel
theorem dX6_setMask_2 : decode cX6_setMask 2 = .ok (.iload_n 1, 1) := by decide +kernel
theorem dX6_setMask_3 : decode cX6_setMask 3 = .ok (.invokevirtual 89, 3) := by decide +kernel
theorem dX6_setMask_6 : decode cX6_setMask 6 = .ok (.iload_n 2, 1) := by decide +kernel
theorem dX6_setMask_7 : decode cX6_setMask 7 = .ok (.i2l, 1) := by decide +kernel
theorem dX6_setMask_8 : decode cX6_setMask 8 = .ok (.lconst 0, 1) := by decide +kernel
theorem dX6_setMask_9 : decode cX6_setMask 9 = .ok (.ldc2_w 80, 3) := by decide +kernel
theorem dX6_setMask_12 : decode cX6_setMask 12 = .ok (.invokestatic 40, 3) := by decide +kernel
theorem dX6_setMask_15 : decode cX6_setMask 15 = .ok (.iconst 1, 1) := by decide +kernel
theorem dX6_setMask_16 : decode cX6_setMask 16 = .ok (.invokevirtual 82, 3) := by decide +kernel
theorem dX6_setMask_19 : decode cX6_setMask 19 = .ok (.ifCond .eq 19, 3) := by decide +kernel
theorem dX6_setMask_22 : decode cX6_setMask 22 = .ok (.aload_n 0, 1) := by decide +kernel
theorem dX6_setMask_23 : decode cX6_setMask 23 = .ok (.bipush 28, 2) := by decide +kernel
theorem dX6_setMask_25 : decode cX6_setMask 25 = .ok (.iconst 2, 1) := by decide +kernel
theorem dX6_setMask_26 : decode cX6_setMask 26 = .ok (.iload_n 1, 1) := by decide +kernel
theorem dX6_setMask_27 : decode cX6_setMask 27 = .ok (.imul, 1) := by decide +kernel
theorem dX6_setMask_28 : decode cX6_setMask 28 = .ok (.iadd, 1) := by decide +kernel
theorem dX6_setMask_29 : decode cX6_setMask 29 = .ok (.iconst 1, 1) := by decide +kernel
theorem dX6_setMask_30 : decode cX6_setMask 30 = .ok (.iadd, 1) := by decide +kernel
theorem dX6_setMask_31 : decode cX6_setMask 31 = .ok (.iload_n 2, 1) := by decide +kernel
theorem dX6_setMask_32 : decode cX6_setMask 32 = .ok (.invokevirtual 92, 3) := by decide +kernel
theorem dX6_setMask_35 : decode cX6_setMask 35 = .ok (.goto 4, 3) := by decide +kernel
theorem dX6_setMask_38 : decode cX6_setMask 38 = .ok (.iconst 0, 1) := by decide +kernel
theorem dX6_setMask_39 : decode cX6_setMask 39 = .ok (.ireturn, 1) := by decide +kernel
set_option maxRecDepth 20000 in
theorem ggX6_setBase_X6_isPerson : GoodIn wsX6_setBase wsX6_isPerson := goodIn_r _ [5, 6, 7, 8, 4, 9] (by decide +kernel) (by decide +kernel)
set_option maxRecDepth 20000 in
theorem gX6_setBase_X6_isPerson : GoodIn wsX6_setBase (va_wsS RX6 76 yX6_isPerson wsX6_isPerson) := goodIn_app (goodIn_of _ (by decide +kernel)) ggX6_setBase_X6_isPerson
set_option maxRecDepth 20000 in
theorem ggX6_setBase_X6_in : GoodIn wsX6_setBase wsX6_in := goodIn_r _ [9] (by decide +kernel) (by decide +kernel)
set_option maxRecDepth 20000 in
theorem gX6_setBase_X6_in : GoodIn wsX6_setBase (va_wsS RX6 40 yX6_in wsX6_in) := goodIn_app (goodIn_of _ (by decide +kernel)) ggX6_setBase_X6_in
set_option maxRecDepth 20000 in
theorem ggX6_setBase_X6_goes : GoodIn wsX6_setBase wsX6_goes := goodIn_r _ [13, 14, 26, 27, 28, 29, 30, 31, 32, 33, 34, 35, 36, 37, 38] (by decide +kernel) (by decide +kernel)
set_option maxRecDepth 20000 in
theorem gX6_setBase_X6_goes : GoodIn wsX6_setBase (wsV RX6 82 RX6 yX6_goes wsX6_goes) := goodIn_app (goodIn_of _ (by decide +kernel)) ggX6_setBase_X6_goes
set_option maxRecDepth 20000 in
theorem ggX6_setBase_X6_exchange : GoodIn wsX6_setBase wsX6_exchange := goodIn_r _ [18, 19, 20, 21, 22, 4, 23, 24, 25, 26, 27, 28, 29, 30, 31, 32, 33, 34, 35, 36, 37, 38] (by decide +kernel) (by decide +kernel)
set_option maxRecDepth 20000 in
theorem gX6_setBase_X6_exchange : GoodIn wsX6_setBase (wsV RX6 92 RX6 yX6_exchange wsX6_exchange) := goodIn_app (goodIn_of _ (by decide +kernel)) ggX6_setBase_X6_exchange
theorem dX6_setBase_0 : decode cX6_setBase 0 = .ok (.aload_n 0, 1) := by decide +kernel
theorem dX6_setBase_1 : decode cX6_setBase 1 = .ok (.iload_n 1, 1) := by decide +kernel
theorem dX6_setBase_2 : decode cX6_setBase 2 = .ok (.invokestatic 76, 3) := by decide +kernel
theorem dX6_setBase_5 : decode cX6_setBase 5 = .ok (.iload_n 2, 1) := by decide +kernel
theorem dX6_setBase_6 : decode cX6_setBase 6 = .ok (.i2l, 1) := by decide +kernel
theorem dX6_setBase_7 : decode cX6_setBase 7 = .ok (.lconst 0, 1) := by decide +kernel
theorem dX6_setBase_8 : decode cX6_setBase 8 = .ok (.ldc2_w 95, 3) := by decide +kernel
theorem dX6_setBase_11 : decode cX6_setBase 11 = .ok (.invokestatic 40, 3) := by decide +kernel
theorem dX6_setBase_14 : decode cX6_setBase 14 = .ok (.iconst 1, 1) := by decide +kernel
theorem dX6_setBase_15 : decode cX6_setBase 15 = .ok (.invokevirtual 82, 3) := by decide +kernel
theorem dX6_setBase_18 : decode cX6_setBase 18 = .ok (.ifCond .eq 15, 3) := by decide +kernel
theorem dX6_setBase_21 : decode cX6_setBase 21 = .ok (.aload_n 0, 1) := by decide +kernel
theorem dX6_setBase_22 : decode cX6_setBase 22 = .ok (.bipush 18, 2) := by decide +kernel
theorem dX6_setBase_24 : decode cX6_setBase 24 = .ok (.iload_n 1, 1) := by decide +kernel
theorem dX6_setBase_25 : decode cX6_setBase 25 = .ok (.iadd, 1) := by decide +kernel
theorem dX6_setBase_26 : decode cX6_setBase 26 = .ok (.iload_n 2, 1) := by decide +kernel
theorem dX6_setBase_27 : decode cX6_setBase 27 = .ok (.invokevirtual 92, 3) := by decide +kernel
theorem dX6_setBase_30 : decode cX6_setBase 30 = .ok (.goto 4, 3) := by decide +kernel
theorem dX6_setBase_33 : decode cX6_setBase 33 = .ok (.iconst 0, 1) := by decide +kernel
theorem dX6_setBase_34 : decode cX6_setBase 34 = .ok (.ireturn, 1) := by decide +kernel
set_option maxRecDepth 20000 in
theorem ggX6_give_X6_isThing : GoodIn wsX6_give wsX6_isThing := goodIn_r _ [5, 6, 7, 8, 4, 9, 29, 30, 31, 32, 33, 34, 35, 36, 37, 38, 39, 40, 41] (by decide +kernel) (by decide +kernel)
set_option maxRecDepth 20000 in
theorem gX6_give_X6_isThing : GoodIn wsX6_give (wsV RX6 89 RX6 yX6_isThing wsX6_isThing) := goodIn_app (goodIn_of _ (by decide +kernel)) ggX6_give_X6_isThing
set_option maxRecDepth 20000 in
theorem ggX6_give_X6_isPerson : GoodIn wsX6_give wsX6_isPerson := goodIn_r _ [12, 13, 7, 8, 4, 9] (by decide +kernel) (by decide +kernel)
set_option maxRecDepth 20000 in
theorem gX6_give_X6_isPerson : GoodIn wsX6_give (va_wsS RX6 76 yX6_isPerson wsX6_isPerson) := goodIn_app (goodIn_of _ (by decide +kernel)) ggX6_give_X6_isPerson
set_option maxRecDepth 20000 in
theorem ggX6_give_X6_goes : GoodIn wsX6_give wsX6_goes := goodIn_r _ [17, 18, 29, 30, 31, 32, 33, 34, 35, 36, 37, 38, 39, 40, 41] (by decide +kernel) (by decide +kernel)
set_option maxRecDepth 20000 in
theorem gX6_give_X6_goes : GoodIn wsX6_give (wsV RX6 82 RX6 yX6_goes wsX6_goes) := goodIn_app (goodIn_of _ (by decide +kernel)) ggX6_give_X6_goes
set_option maxRecDepth 20000 in
theorem ggX6_give_X6_exchange : GoodIn wsX6_give wsX6_exchange := goodIn_r _ [22, 6, 23, 24, 25, 4, 26, 27, 28, 29, 30, 31, 32, 33, 34, 35, 36, 37, 38, 39, 40, 41] (by decide +kernel) (by decide +kernel)
set_option maxRecDepth 20000 in
theorem gX6_give_X6_exchange : GoodIn wsX6_give (wsV RX6 92 RX6 yX6_exchange wsX6_exchange) := goodIn_app (goodIn_of _ (by decide +kernel)) ggX6_give_X6_exchange
theorem dX6_give_0 : decode cX6_give 0 = .ok (.aload_n 0, 1) := by decide +kernel
theorem dX6_give_1 : decode cX6_give 1 = .ok (.aload_n 0, 1) := by decide +kernel
theorem dX6_give_2 : decode cX6_give 2 = .ok (.iload_n 1, 1) := by decide +kernel
theorem dX6_give_3 : decode cX6_give 3 = .ok (.invokevirtual 89, 3) := by decide +kernel
theorem dX6_give_6 : decode cX6_give 6 = .ok (.ifCond .eq 14, 3) := by decide +kernel
theorem dX6_give_9 : decode cX6_give 9 = .ok (.iload_n 2, 1) := by decide +kernel
theorem dX6_give_10 : decode cX6_give 10 = .ok (.invokestatic 76, 3) := by decide +kernel
theorem dX6_give_13 : decode cX6_give 13 = .ok (.ifCond .eq 7, 3) := by decide +kernel
theorem dX6_give_16 : decode cX6_give 16 = .ok (.iconst 1, 1) := by decide +kernel
theorem dX6_give_17 : decode cX6_give 17 = .ok (.goto 4, 3) := by decide +kernel
theorem dX6_give_20 : decode cX6_give 20 = .ok (.iconst 0, 1) := by decide +kernel
theorem dX6_give_21 : decode cX6_give 21 = .ok (.iconst 1, 1) := by decide +kernel
theorem dX6_give_22 : decode cX6_give 22 = .ok (.iconst 1, 1) := by decide +kernel
theorem dX6_give_23 : decode cX6_give 23 = .ok (.invokevirtual 82, 3) := by decide +kernel
theorem dX6_give_26 : decode cX6_give 26 = .ok (.ifCond .eq 17, 3) := by decide +kernel
theorem dX6_give_29 : decode cX6_give 29 = .ok (.aload_n 0, 1) := by decide +kernel
theorem dX6_give_30 : decode cX6_give 30 = .ok (.bipush 28, 2) := by decide +kernel
theorem dX6_give_32 : decode cX6_give 32 = .ok (.iconst 2, 1) := by decide +kernel
theorem dX6_give_33 : decode cX6_give 33 = .ok (.iload_n 1, 1) := by decide +kernel
theorem dX6_give_34 : decode cX6_give 34 = .ok (.imul, 1) := by decide +kernel
theorem dX6_give_35 : decode cX6_give 35 = .ok (.iadd, 1) := by decide +kernel
theorem dX6_give_36 : decode cX6_give 36 = .ok (.iload_n 2, 1) := by decide +kernel
theorem dX6_give_37 : decode cX6_give 37 = .ok (.invokevirtual 92, 3) := by decide +kernel
theorem dX6_give_40 : decode cX6_give 40 = .ok (.goto 4, 3) := by decide +kernel
theorem dX6_give_43 : decode cX6_give 43 = .ok (.iconst 0, 1) := by decide +kernel
theorem dX6_give_44 : decode cX6_give 44 = .ok (.ireturn, 1) := by decide +kernel
set_option maxRecDepth 20000 in
theorem ggX6_arePersons_X6_isPerson : GoodIn wsX6_arePersons wsX6_isPerson := goodIn_r _ [4, 5, 6, 7, 3, 8] (by decide +kernel) (by decide +kernel)
set_option maxRecDepth 20000 in
theorem gX6_arePersons_X6_isPerson : GoodIn wsX6_arePersons (va_wsS RX6 76 yX6_isPerson wsX6_isPerson) := goodIn_app (goodIn_of _ (by decide +kernel)) ggX6_arePersons_X6_isPerson
set_option maxRecDepth 20000 in
theorem ggX6_arePersons_X6_isThing : GoodIn wsX6_arePersons wsX6_isThing := goodIn_r _ [12, 13, 6, 7, 3, 8, 14, 15, 16, 17, 18, 19, 20, 21, 22, 23, 24, 25, 26] (by decide +kernel) (by decide +kernel)
set_option maxRecDepth 20000 in
theorem gX6_arePersons_X6_isThing : GoodIn wsX6_arePersons (wsV RX6 89 RX6 yX6_isThing wsX6_isThing) := goodIn_app (goodIn_of _ (by decide +kernel)) ggX6_arePersons_X6_isThing
theorem dX6_arePersons_0 : decode cX6_arePersons 0 = .ok (.iload_n 1, 1) := by decide +kernel
theorem dX6_arePersons_1 : decode cX6_arePersons 1 = .ok (.invokestatic 76, 3) := by decide +kernel
theorem dX6_arePersons_4 : decode cX6_arePersons 4 = .ok (.ifCond .eq 22, 3) := by decide +kernel
theorem dX6_arePersons_7 : decode cX6_arePersons 7 = .ok (.iload_n 2, 1) := by decide +kernel
theorem dX6_arePersons_8 : decode cX6_arePersons 8 = .ok (.invokestatic 76, 3) := by decide +kernel
theorem dX6_arePersons_11 : decode cX6_arePersons 11 = .ok (.ifCond .eq 15, 3) := by decide +kernel
theorem dX6_arePersons_14 : decode cX6_arePersons 14 = .ok (.aload_n 0, 1) := by decide +kernel
theorem dX6_arePersons_15 : decode cX6_arePersons 15 = .ok (.iload_n 3, 1) := by decide +kernel
theorem dX6_arePersons_16 : decode cX6_arePersons 16 = .ok (.invokevirtual 89, 3) := by decide +kernel
theorem dX6_arePersons_19 : decode cX6_arePersons 19 = .ok (.ifCond .eq 7, 3) := by decide +kernel
theorem dX6_arePersons_22 : decode cX6_arePersons 22 = .ok (.iconst 1, 1) := by decide +kernel
theorem dX6_arePersons_23 : decode cX6_arePersons 23 = .ok (.goto 4, 3) := by decide +kernel
theorem dX6_arePersons_26 : decode cX6_arePersons 26 = .ok (.iconst 0, 1) := by decide +kernel
theorem dX6_arePersons_27 : decode cX6_arePersons 27 = .ok (.ireturn, 1) := by decide +kernel
set_option maxRecDepth 20000 in
theorem ggX6_isGrant_X6_in : GoodIn wsX6_isGrant wsX6_in := goodIn_r _ [6] (by decide +kernel) (by decide +kernel)
set_option maxRecDepth 20000 in
theorem gX6_isGrant_X6_in : GoodIn wsX6_isGrant (va_wsS RX6 40 yX6_in wsX6_in) := goodIn_app (goodIn_of _ (by decide +kernel)) ggX6_isGrant_X6_in
theorem dX6_isGrant_0 : decode cX6_isGrant 0 = .ok (.iload_n 2, 1) := by decide +kernel
theorem dX6_isGrant_1 : decode cX6_isGrant 1 = .ok (.i2l, 1) := by decide +kernel
theorem dX6_isGrant_2 : decode cX6_isGrant 2 = .ok (.lconst 1, 1) := by decide +kernel
theorem dX6_isGrant_3 : decode cX6_isGrant 3 = .ok (.ldc2_w 80, 3) := by decide +kernel
theorem dX6_isGrant_6 : decode cX6_isGrant 6 = .ok (.invokestatic 40, 3) := by decide +kernel
theorem dX6_isGrant_9 : decode cX6_isGrant 9 = .ok (.ifCond .eq 24, 3) := by decide +kernel
theorem dX6_isGrant_12 : decode cX6_isGrant 12 = .ok (.iload_n 3, 1) := by decide +kernel
theorem dX6_isGrant_13 : decode cX6_isGrant 13 = .ok (.i2l, 1) := by decide +kernel
theorem dX6_isGrant_14 : decode cX6_isGrant 14 = .ok (.lconst 0, 1) := by decide +kernel
theorem dX6_isGrant_15 : decode cX6_isGrant 15 = .ok (.ldc2_w 95, 3) := by decide +kernel
theorem dX6_isGrant_18 : decode cX6_isGrant 18 = .ok (.invokestatic 40, 3) := by decide +kernel
theorem dX6_isGrant_21 : decode cX6_isGrant 21 = .ok (.ifCond .eq 12, 3) := by decide +kernel
theorem dX6_isGrant_24 : decode cX6_isGrant 24 = .ok (.iload_n 0, 1) := by decide +kernel
theorem dX6_isGrant_25 : decode cX6_isGrant 25 = .ok (.iload_n 1, 1) := by decide +kernel
theorem dX6_isGrant_26 : decode cX6_isGrant 26 = .ok (.if_icmp .eq 7, 3) := by decide +kernel
theorem dX6_isGrant_29 : decode cX6_isGrant 29 = .ok (.iconst 1, 1) := by decide +kernel
theorem dX6_isGrant_30 : decode cX6_isGrant 30 = .ok (.goto 4, 3) := by decide +kernel
theorem dX6_isGrant_33 : decode cX6_isGrant 33 = .ok (.iconst 0, 1) := by decide +kernel
theorem dX6_isGrant_34 : decode cX6_isGrant 34 = .ok (.ireturn, 1) := by decide +kernel
set_option maxRecDepth 20000 in
theorem ggX6_mayGrant_X6_lay : GoodIn wsX6_mayGrant wsX6_lay := goodIn_r _ [6, 7, 1, 8, 9, 10, 5, 11, 12, 13, 14, 15, 16, 17, 18, 19, 20, 21, 22, 23, 24, 25, 26, 27, 28, 29, 30, 31, 32, 33, 34, 35, 36, 37, 38, 39, 40] (by decide +kernel) (by decide +kernel)
set_option maxRecDepth 20000 in
theorem gX6_mayGrant_X6_lay : GoodIn wsX6_mayGrant (wsV RX6 67 RX6 yX6_lay wsX6_lay) := goodIn_app (goodIn_of _ (by decide +kernel)) ggX6_mayGrant_X6_lay
set_option maxRecDepth 20000 in
theorem ggX6_mayGrant_X6_holds : GoodIn wsX6_mayGrant wsX6_holds := goodIn_r _ [23, 7, 28, 29, 30, 31, 32, 33, 34, 35, 36, 37, 38, 39, 40] (by decide +kernel) (by decide +kernel)
set_option maxRecDepth 20000 in
theorem gX6_mayGrant_X6_holds : GoodIn wsX6_mayGrant (wsV RX6 55 RX6 yX6_holds wsX6_holds) := goodIn_app (goodIn_of _ (by decide +kernel)) ggX6_mayGrant_X6_holds
theorem dX6_mayGrant_0 : decode cX6_mayGrant 0 = .ok (.aload_n 0, 1) := by decide +kernel
theorem dX6_mayGrant_1 : decode cX6_mayGrant 1 = .ok (.invokevirtual 67, 3) := by decide +kernel
theorem dX6_mayGrant_4 : decode cX6_mayGrant 4 = .ok (.aload_n 0, 1) := by decide +kernel
theorem dX6_mayGrant_5 : decode cX6_mayGrant 5 = .ok (.iload_n 1, 1) := by decide +kernel
theorem dX6_mayGrant_6 : decode cX6_mayGrant 6 = .ok (.iload_n 2, 1) := by decide +kernel
theorem dX6_mayGrant_7 : decode cX6_mayGrant 7 = .ok (.invokevirtual 55, 3) := by decide +kernel
theorem dX6_mayGrant_10 : decode cX6_mayGrant 10 = .ok (.iload_n 3, 1) := by decide +kernel
theorem dX6_mayGrant_11 : decode cX6_mayGrant 11 = .ok (.iconst 4, 1) := by decide +kernel
theorem dX6_mayGrant_12 : decode cX6_mayGrant 12 = .ok (.ior, 1) := by decide +kernel
theorem dX6_mayGrant_13 : decode cX6_mayGrant 13 = .ok (.iand, 1) := by decide +kernel
theorem dX6_mayGrant_14 : decode cX6_mayGrant 14 = .ok (.iload_n 3, 1) := by decide +kernel
theorem dX6_mayGrant_15 : decode cX6_mayGrant 15 = .ok (.iconst 4, 1) := by decide +kernel
theorem dX6_mayGrant_16 : decode cX6_mayGrant 16 = .ok (.ior, 1) := by decide +kernel
theorem dX6_mayGrant_17 : decode cX6_mayGrant 17 = .ok (.if_icmp .ne 7, 3) := by decide +kernel
theorem dX6_mayGrant_20 : decode cX6_mayGrant 20 = .ok (.iconst 1, 1) := by decide +kernel
theorem dX6_mayGrant_21 : decode cX6_mayGrant 21 = .ok (.goto 4, 3) := by decide +kernel
theorem dX6_mayGrant_24 : decode cX6_mayGrant 24 = .ok (.iconst 0, 1) := by decide +kernel
theorem dX6_mayGrant_25 : decode cX6_mayGrant 25 = .ok (.istore 5, 2) := by decide +kernel
theorem dX6_mayGrant_27 : decode cX6_mayGrant 27 = .ok (.iload 5, 2) := by decide +kernel
theorem dX6_mayGrant_29 : decode cX6_mayGrant 29 = .ok (.ifCond .eq 32, 3) := by decide +kernel
theorem dX6_mayGrant_32 : decode cX6_mayGrant 32 = .ok (.aload_n 0, 1) := by decide +kernel
theorem dX6_mayGrant_33 : decode cX6_mayGrant 33 = .ok (.getfield 7, 3) := by decide +kernel
theorem dX6_mayGrant_36 : decode cX6_mayGrant 36 = .ok (.bipush 8, 2) := by decide +kernel
theorem dX6_mayGrant_38 : decode cX6_mayGrant 38 = .ok (.iload_n 1, 1) := by decide +kernel
theorem dX6_mayGrant_39 : decode cX6_mayGrant 39 = .ok (.iadd, 1) := by decide +kernel
theorem dX6_mayGrant_40 : decode cX6_mayGrant 40 = .ok (.iaload, 1) := by decide +kernel
theorem dX6_mayGrant_41 : decode cX6_mayGrant 41 = .ok (.iload 4, 2) := by decide +kernel
theorem dX6_mayGrant_43 : decode cX6_mayGrant 43 = .ok (.if_icmp .lt 18, 3) := by decide +kernel
theorem dX6_mayGrant_46 : decode cX6_mayGrant 46 = .ok (.aload_n 0, 1) := by decide +kernel
theorem dX6_mayGrant_47 : decode cX6_mayGrant 47 = .ok (.getfield 7, 3) := by decide +kernel
theorem dX6_mayGrant_50 : decode cX6_mayGrant 50 = .ok (.iconst 5, 1) := by decide +kernel
theorem dX6_mayGrant_51 : decode cX6_mayGrant 51 = .ok (.iaload, 1) := by decide +kernel
theorem dX6_mayGrant_52 : decode cX6_mayGrant 52 = .ok (.bipush 40, 2) := by decide +kernel
theorem dX6_mayGrant_54 : decode cX6_mayGrant 54 = .ok (.if_icmp .ge 7, 3) := by decide +kernel
theorem dX6_mayGrant_57 : decode cX6_mayGrant 57 = .ok (.iconst 1, 1) := by decide +kernel
theorem dX6_mayGrant_58 : decode cX6_mayGrant 58 = .ok (.goto 4, 3) := by decide +kernel
theorem dX6_mayGrant_61 : decode cX6_mayGrant 61 = .ok (.iconst 0, 1) := by decide +kernel
theorem dX6_mayGrant_62 : decode cX6_mayGrant 62 = .ok (.ireturn, 1) := by decide +kernel
theorem dX6_lays_0 : decode cX6_lays 0 = .ok (.bipush 44, 2) := by decide +kernel
theorem dX6_lays_2 : decode cX6_lays 2 = .ok (.bipush 6, 2) := by decide +kernel
theorem dX6_lays_4 : decode cX6_lays 4 = .ok (.aload_n 0, 1) := by decide +kernel
theorem dX6_lays_5 : decode cX6_lays 5 = .ok (.getfield 7, 3) := by decide +kernel
theorem dX6_lays_8 : decode cX6_lays 8 = .ok (.iconst 5, 1) := by decide +kernel
theorem dX6_lays_9 : decode cX6_lays 9 = .ok (.iaload, 1) := by decide +kernel
theorem dX6_lays_10 : decode cX6_lays 10 = .ok (.imul, 1) := by decide +kernel
theorem dX6_lays_11 : decode cX6_lays 11 = .ok (.iadd, 1) := by decide +kernel
theorem dX6_lays_12 : decode cX6_lays 12 = .ok (.istore 6, 2) := by decide +kernel
theorem dX6_lays_14 : decode cX6_lays 14 = .ok (.aload_n 0, 1) := by decide +kernel
theorem dX6_lays_15 : decode cX6_lays 15 = .ok (.getfield 7, 3) := by decide +kernel
theorem dX6_lays_18 : decode cX6_lays 18 = .ok (.iload 6, 2) := by decide +kernel
theorem dX6_lays_20 : decode cX6_lays 20 = .ok (.aload_n 0, 1) := by decide +kernel
theorem dX6_lays_21 : decode cX6_lays 21 = .ok (.getfield 7, 3) := by decide +kernel
theorem dX6_lays_24 : decode cX6_lays 24 = .ok (.iconst 1, 1) := by decide +kernel
theorem dX6_lays_25 : decode cX6_lays 25 = .ok (.iaload, 1) := by decide +kernel
theorem dX6_lays_26 : decode cX6_lays 26 = .ok (.iastore, 1) := by decide +kernel
theorem dX6_lays_27 : decode cX6_lays 27 = .ok (.aload_n 0, 1) := by decide +kernel
theorem dX6_lays_28 : decode cX6_lays 28 = .ok (.getfield 7, 3) := by decide +kernel
theorem dX6_lays_31 : decode cX6_lays 31 = .ok (.iload 6, 2) := by decide +kernel
theorem dX6_lays_33 : decode cX6_lays 33 = .ok (.iconst 1, 1) := by decide +kernel
theorem dX6_lays_34 : decode cX6_lays 34 = .ok (.iadd, 1) := by decide +kernel
theorem dX6_lays_35 : decode cX6_lays 35 = .ok (.iload_n 1, 1) := by decide +kernel
theorem dX6_lays_36 : decode cX6_lays 36 = .ok (.iastore, 1) := by decide +kernel
theorem dX6_lays_37 : decode cX6_lays 37 = .ok (.aload_n 0, 1) := by decide +kernel
theorem dX6_lays_38 : decode cX6_lays 38 = .ok (.getfield 7, 3) := by decide +kernel
theorem dX6_lays_41 : decode cX6_lays 41 = .ok (.iload 6, 2) := by decide +kernel
theorem dX6_lays_43 : decode cX6_lays 43 = .ok (.iconst 2, 1) := by decide +kernel
theorem dX6_lays_44 : decode cX6_lays 44 = .ok (.iadd, 1) := by decide +kernel
theorem dX6_lays_45 : decode cX6_lays 45 = .ok (.iload_n 2, 1) := by decide +kernel
theorem dX6_lays_46 : decode cX6_lays 46 = .ok (.iastore, 1) := by decide +kernel
theorem dX6_lays_47 : decode cX6_lays 47 = .ok (.aload_n 0, 1) := by decide +kernel
theorem dX6_lays_48 : decode cX6_lays 48 = .ok (.getfield 7, 3) := by decide +kernel
theorem dX6_lays_51 : decode cX6_lays 51 = .ok (.iload 6, 2) := by decide +kernel
theorem dX6_lays_53 : decode cX6_lays 53 = .ok (.iconst 3, 1) := by decide +kernel
theorem dX6_lays_54 : decode cX6_lays 54 = .ok (.iadd, 1) := by decide +kernel
theorem dX6_lays_55 : decode cX6_lays 55 = .ok (.iload_n 3, 1) := by decide +kernel
theorem dX6_lays_56 : decode cX6_lays 56 = .ok (.iastore, 1) := by decide +kernel
theorem dX6_lays_57 : decode cX6_lays 57 = .ok (.aload_n 0, 1) := by decide +kernel
theorem dX6_lays_58 : decode cX6_lays 58 = .ok (.getfield 7, 3) := by decide +kernel
theorem dX6_lays_61 : decode cX6_lays 61 = .ok (.iload 6, 2) := by decide +kernel
theorem dX6_lays_63 : decode cX6_lays 63 = .ok (.iconst 4, 1) := by decide +kernel
theorem dX6_lays_64 : decode cX6_lays 64 = .ok (.iadd, 1) := by decide +kernel
theorem dX6_lays_65 : decode cX6_lays 65 = .ok (.iload 4, 2) := by decide +kernel
theorem dX6_lays_67 : decode cX6_lays 67 = .ok (.iastore, 1) := by decide +kernel
theorem dX6_lays_68 : decode cX6_lays 68 = .ok (.aload_n 0, 1) := by decide +kernel
theorem dX6_lays_69 : decode cX6_lays 69 = .ok (.getfield 7, 3) := by decide +kernel
theorem dX6_lays_72 : decode cX6_lays 72 = .ok (.iload 6, 2) := by decide +kernel
theorem dX6_lays_74 : decode cX6_lays 74 = .ok (.iconst 5, 1) := by decide +kernel
theorem dX6_lays_75 : decode cX6_lays 75 = .ok (.iadd, 1) := by decide +kernel
theorem dX6_lays_76 : decode cX6_lays 76 = .ok (.iload 5, 2) := by decide +kernel
theorem dX6_lays_78 : decode cX6_lays 78 = .ok (.iastore, 1) := by decide +kernel
theorem dX6_lays_79 : decode cX6_lays 79 = .ok (.aload_n 0, 1) := by decide +kernel
theorem dX6_lays_80 : decode cX6_lays 80 = .ok (.getfield 7, 3) := by decide +kernel
theorem dX6_lays_83 : decode cX6_lays 83 = .ok (.iconst 5, 1) := by decide +kernel
theorem dX6_lays_84 : decode cX6_lays 84 = .ok (.dup2, 1) := by decide +kernel
theorem dX6_lays_85 : decode cX6_lays 85 = .ok (.iaload, 1) := by decide +kernel
theorem dX6_lays_86 : decode cX6_lays 86 = .ok (.iconst 1, 1) := by decide +kernel
theorem dX6_lays_87 : decode cX6_lays 87 = .ok (.iadd, 1) := by decide +kernel
theorem dX6_lays_88 : decode cX6_lays 88 = .ok (.iastore, 1) := by decide +kernel
theorem dX6_lays_89 : decode cX6_lays 89 = .ok (.aload_n 0, 1) := by decide +kernel
theorem dX6_lays_90 : decode cX6_lays 90 = .ok (.getfield 7, 3) := by decide +kernel
theorem dX6_lays_93 : decode cX6_lays 93 = .ok (.iconst 1, 1) := by decide +kernel
theorem dX6_lays_94 : decode cX6_lays 94 = .ok (.dup2, 1) := by decide +kernel
theorem dX6_lays_95 : decode cX6_lays 95 = .ok (.iaload, 1) := by decide +kernel
theorem dX6_lays_96 : decode cX6_lays 96 = .ok (.iconst 1, 1) := by decide +kernel
theorem dX6_lays_97 : decode cX6_lays 97 = .ok (.iadd, 1) := by decide +kernel
theorem dX6_lays_98 : decode cX6_lays 98 = .ok (.iastore, 1) := by decide +kernel
theorem dX6_lays_99 : decode cX6_lays 99 = .ok (.return_, 1) := by decide +kernel
set_option maxRecDepth 20000 in
theorem ggX6_grant_X6_arePersons : GoodIn wsX6_grant wsX6_arePersons := goodIn_r _ [6, 7, 8, 5, 9, 10, 11, 12, 13, 14, 15, 16, 17, 1, 67, 68, 69, 70, 71, 72, 73, 74, 75, 76, 77, 78, 79] (by decide +kernel) (by decide +kernel)
set_option maxRecDepth 20000 in
theorem gX6_grant_X6_arePersons : GoodIn wsX6_grant (wsV RX6 97 RX6 yX6_arePersons wsX6_arePersons) := goodIn_app (goodIn_of _ (by decide +kernel)) ggX6_grant_X6_arePersons
set_option maxRecDepth 20000 in
theorem ggX6_grant_X6_isGrant : GoodIn wsX6_grant wsX6_isGrant := goodIn_r _ [20, 21, 22, 11, 12, 5, 13] (by decide +kernel) (by decide +kernel)
set_option maxRecDepth 20000 in
theorem gX6_grant_X6_isGrant : GoodIn wsX6_grant (va_wsS RX6 101 yX6_isGrant wsX6_isGrant) := goodIn_app (goodIn_of _ (by decide +kernel)) ggX6_grant_X6_isGrant
set_option maxRecDepth 20000 in
theorem ggX6_grant_X6_mayGrant : GoodIn wsX6_grant wsX6_mayGrant := goodIn_r _ [26, 1, 27, 28, 29, 5, 30, 31, 32, 33, 34, 35, 36, 37, 38, 39, 40, 41, 42, 43, 44, 45, 46, 47, 48, 49, 50, 51, 67, 68, 69, 70, 71, 72, 73, 74, 75, 76, 77, 78, 79] (by decide +kernel) (by decide +kernel)
set_option maxRecDepth 20000 in
theorem gX6_grant_X6_mayGrant : GoodIn wsX6_grant (wsV RX6 105 RX6 yX6_mayGrant wsX6_mayGrant) := goodIn_app (goodIn_of _ (by decide +kernel)) ggX6_grant_X6_mayGrant
set_option maxRecDepth 20000 in
theorem ggX6_grant_X6_goes : GoodIn wsX6_grant wsX6_goes := goodIn_r _ [55, 56, 67, 68, 69, 70, 71, 72, 73, 74, 75, 76, 77, 78, 79] (by decide +kernel) (by decide +kernel)
set_option maxRecDepth 20000 in
theorem gX6_grant_X6_goes : GoodIn wsX6_grant (wsV RX6 82 RX6 yX6_goes wsX6_goes) := goodIn_app (goodIn_of _ (by decide +kernel)) ggX6_grant_X6_goes
set_option maxRecDepth 20000 in
theorem ggX6_grant_X6_save : GoodIn wsX6_grant wsX6_save := goodIn_r _ [60, 61, 62, 1, 67, 68, 69, 70, 71, 72, 73, 74, 75, 76, 77, 78, 79] (by decide +kernel) (by decide +kernel)
set_option maxRecDepth 20000 in
theorem gX6_grant_X6_save : GoodIn wsX6_grant (wsV RX6 86 RX6 yX6_save wsX6_save) := goodIn_app (goodIn_of _ (by decide +kernel)) ggX6_grant_X6_save
set_option maxRecDepth 20000 in
theorem ggX6_grant_X6_lays : GoodIn wsX6_grant wsX6_lays := goodIn_r _ [66, 1, 67, 68, 69, 70, 71, 72, 73, 74, 75, 76, 77, 78, 79] (by decide +kernel) (by decide +kernel)
set_option maxRecDepth 20000 in
theorem gX6_grant_X6_lays : GoodIn wsX6_grant (wsV RX6 108 RX6 yX6_lays wsX6_lays) := goodIn_app (goodIn_of _ (by decide +kernel)) ggX6_grant_X6_lays
theorem dX6_grant_0 : decode cX6_grant 0 = .ok (.aload_n 0, 1) := by decide +kernel
theorem dX6_grant_1 : decode cX6_grant 1 = .ok (.iload_n 1, 1) := by decide +kernel
theorem dX6_grant_2 : decode cX6_grant 2 = .ok (.iload_n 2, 1) := by decide +kernel
theorem dX6_grant_3 : decode cX6_grant 3 = .ok (.iload_n 3, 1) := by decide +kernel
theorem dX6_grant_4 : decode cX6_grant 4 = .ok (.invokevirtual 97, 3) := by decide +kernel
theorem dX6_grant_7 : decode cX6_grant 7 = .ok (.istore 6, 2) := by decide +kernel
theorem dX6_grant_9 : decode cX6_grant 9 = .ok (.iload_n 1, 1) := by decide +kernel
theorem dX6_grant_10 : decode cX6_grant 10 = .ok (.iload_n 2, 1) := by decide +kernel
theorem dX6_grant_11 : decode cX6_grant 11 = .ok (.iload 4, 2) := by decide +kernel
theorem dX6_grant_13 : decode cX6_grant 13 = .ok (.iload 5, 2) := by decide +kernel
theorem dX6_grant_15 : decode cX6_grant 15 = .ok (.invokestatic 101, 3) := by decide +kernel
theorem dX6_grant_18 : decode cX6_grant 18 = .ok (.istore 7, 2) := by decide +kernel
theorem dX6_grant_20 : decode cX6_grant 20 = .ok (.aload_n 0, 1) := by decide +kernel
theorem dX6_grant_21 : decode cX6_grant 21 = .ok (.iload 6, 2) := by decide +kernel
theorem dX6_grant_23 : decode cX6_grant 23 = .ok (.iload 7, 2) := by decide +kernel
theorem dX6_grant_25 : decode cX6_grant 25 = .ok (.iload 6, 2) := by decide +kernel
theorem dX6_grant_27 : decode cX6_grant 27 = .ok (.ifCond .eq 25, 3) := by decide +kernel
theorem dX6_grant_30 : decode cX6_grant 30 = .ok (.iload 7, 2) := by decide +kernel
theorem dX6_grant_32 : decode cX6_grant 32 = .ok (.ifCond .eq 20, 3) := by decide +kernel
theorem dX6_grant_35 : decode cX6_grant 35 = .ok (.aload_n 0, 1) := by decide +kernel
theorem dX6_grant_36 : decode cX6_grant 36 = .ok (.iload_n 1, 1) := by decide +kernel
theorem dX6_grant_37 : decode cX6_grant 37 = .ok (.iload_n 3, 1) := by decide +kernel
theorem dX6_grant_38 : decode cX6_grant 38 = .ok (.iload 4, 2) := by decide +kernel
theorem dX6_grant_40 : decode cX6_grant 40 = .ok (.iload 5, 2) := by decide +kernel
theorem dX6_grant_42 : decode cX6_grant 42 = .ok (.invokevirtual 105, 3) := by decide +kernel
theorem dX6_grant_45 : decode cX6_grant 45 = .ok (.ifCond .eq 7, 3) := by decide +kernel
theorem dX6_grant_48 : decode cX6_grant 48 = .ok (.iconst 1, 1) := by decide +kernel
theorem dX6_grant_49 : decode cX6_grant 49 = .ok (.goto 4, 3) := by decide +kernel
theorem dX6_grant_52 : decode cX6_grant 52 = .ok (.iconst 0, 1) := by decide +kernel
theorem dX6_grant_53 : decode cX6_grant 53 = .ok (.invokevirtual 82, 3) := by decide +kernel
theorem dX6_grant_56 : decode cX6_grant 56 = .ok (.ifCond .ne 5, 3) := by decide +kernel
theorem dX6_grant_59 : decode cX6_grant 59 = .ok (.iconst 0, 1) := by decide +kernel
theorem dX6_grant_60 : decode cX6_grant 60 = .ok (.ireturn, 1) := by decide +kernel
theorem dX6_grant_61 : decode cX6_grant 61 = .ok (.aload_n 0, 1) := by decide +kernel
theorem dX6_grant_62 : decode cX6_grant 62 = .ok (.invokevirtual 86, 3) := by decide +kernel
theorem dX6_grant_65 : decode cX6_grant 65 = .ok (.aload_n 0, 1) := by decide +kernel
theorem dX6_grant_66 : decode cX6_grant 66 = .ok (.iload_n 1, 1) := by decide +kernel
theorem dX6_grant_67 : decode cX6_grant 67 = .ok (.iload_n 2, 1) := by decide +kernel
theorem dX6_grant_68 : decode cX6_grant 68 = .ok (.iload_n 3, 1) := by decide +kernel
theorem dX6_grant_69 : decode cX6_grant 69 = .ok (.iload 4, 2) := by decide +kernel
theorem dX6_grant_71 : decode cX6_grant 71 = .ok (.iload 5, 2) := by decide +kernel
theorem dX6_grant_73 : decode cX6_grant 73 = .ok (.invokevirtual 108, 3) := by decide +kernel
theorem dX6_grant_76 : decode cX6_grant 76 = .ok (.aload_n 0, 1) := by decide +kernel
theorem dX6_grant_77 : decode cX6_grant 77 = .ok (.getfield 7, 3) := by decide +kernel
theorem dX6_grant_80 : decode cX6_grant 80 = .ok (.iconst 1, 1) := by decide +kernel
theorem dX6_grant_81 : decode cX6_grant 81 = .ok (.iaload, 1) := by decide +kernel
theorem dX6_grant_82 : decode cX6_grant 82 = .ok (.iconst 1, 1) := by decide +kernel
theorem dX6_grant_83 : decode cX6_grant 83 = .ok (.isub, 1) := by decide +kernel
theorem dX6_grant_84 : decode cX6_grant 84 = .ok (.ireturn, 1) := by decide +kernel
set_option maxRecDepth 20000 in
theorem ggX6_revokes_X6_pairs : GoodIn wsX6_revokes wsX6_pairs := goodIn_r _ [6, 1, 7, 8, 9, 5, 10, 11, 12, 13, 14, 15, 16, 17, 18, 19, 20, 21, 22, 23, 24, 25, 26, 27, 28, 29, 30, 31, 32, 33, 34, 35, 36, 37, 38, 43, 44, 45, 46, 47, 48, 49, 50, 51, 52, 53, 54, 55] (by decide +kernel) (by decide +kernel)
set_option maxRecDepth 20000 in
theorem gX6_revokes_X6_pairs : GoodIn wsX6_revokes (wsV RX6 112 RX6 yX6_pairs wsX6_pairs) := goodIn_app (goodIn_of _ (by decide +kernel)) ggX6_revokes_X6_pairs
set_option maxRecDepth 20000 in
theorem ggX6_revokes_X6_takeOut : GoodIn wsX6_revokes wsX6_takeOut := goodIn_r _ [42, 1, 43, 44, 45, 46, 47, 48, 49, 50, 51, 52, 53, 54, 55] (by decide +kernel) (by decide +kernel)
set_option maxRecDepth 20000 in
theorem gX6_revokes_X6_takeOut : GoodIn wsX6_revokes (wsV RX6 52 RX6 yX6_takeOut wsX6_takeOut) := goodIn_app (goodIn_of _ (by decide +kernel)) ggX6_revokes_X6_takeOut
theorem dX6_revokes_0 : decode cX6_revokes 0 = .ok (.aload_n 0, 1) := by decide +kernel
theorem dX6_revokes_1 : decode cX6_revokes 1 = .ok (.invokevirtual 112, 3) := by decide +kernel
theorem dX6_revokes_4 : decode cX6_revokes 4 = .ok (.istore_n 2, 1) := by decide +kernel
theorem dX6_revokes_5 : decode cX6_revokes 5 = .ok (.aload_n 0, 1) := by decide +kernel
theorem dX6_revokes_6 : decode cX6_revokes 6 = .ok (.iload_n 1, 1) := by decide +kernel
theorem dX6_revokes_7 : decode cX6_revokes 7 = .ok (.invokevirtual 52, 3) := by decide +kernel
theorem dX6_revokes_10 : decode cX6_revokes 10 = .ok (.aload_n 0, 1) := by decide +kernel
theorem dX6_revokes_11 : decode cX6_revokes 11 = .ok (.getfield 7, 3) := by decide +kernel
theorem dX6_revokes_14 : decode cX6_revokes 14 = .ok (.iconst 3, 1) := by decide +kernel
theorem dX6_revokes_15 : decode cX6_revokes 15 = .ok (.dup2, 1) := by decide +kernel
theorem dX6_revokes_16 : decode cX6_revokes 16 = .ok (.iaload, 1) := by decide +kernel
theorem dX6_revokes_17 : decode cX6_revokes 17 = .ok (.iconst 1, 1) := by decide +kernel
theorem dX6_revokes_18 : decode cX6_revokes 18 = .ok (.iadd, 1) := by decide +kernel
theorem dX6_revokes_19 : decode cX6_revokes 19 = .ok (.iastore, 1) := by decide +kernel
theorem dX6_revokes_20 : decode cX6_revokes 20 = .ok (.iload_n 2, 1) := by decide +kernel
theorem dX6_revokes_21 : decode cX6_revokes 21 = .ok (.aload_n 0, 1) := by decide +kernel
theorem dX6_revokes_22 : decode cX6_revokes 22 = .ok (.invokevirtual 112, 3) := by decide +kernel
theorem dX6_revokes_25 : decode cX6_revokes 25 = .ok (.isub, 1) := by decide +kernel
theorem dX6_revokes_26 : decode cX6_revokes 26 = .ok (.ireturn, 1) := by decide +kernel
set_option maxRecDepth 20000 in
theorem ggX6_revoke_X6_placeOf : GoodIn wsX6_revoke wsX6_placeOf := goodIn_r _ [5, 6, 7, 8, 9, 4, 10, 62, 63, 64, 65, 66, 67, 68, 69, 70, 71, 72, 73, 74] (by decide +kernel) (by decide +kernel)
set_option maxRecDepth 20000 in
theorem gX6_revoke_X6_placeOf : GoodIn wsX6_revoke (wsV RX6 116 RX6 yX6_placeOf wsX6_placeOf) := goodIn_app (goodIn_of _ (by decide +kernel)) ggX6_revoke_X6_placeOf
set_option maxRecDepth 20000 in
theorem ggX6_revoke_X6_goes : GoodIn wsX6_revoke wsX6_goes := goodIn_r _ [14, 15, 62, 63, 64, 65, 66, 67, 68, 69, 70, 71, 72, 73, 74] (by decide +kernel) (by decide +kernel)
set_option maxRecDepth 20000 in
theorem gX6_revoke_X6_goes : GoodIn wsX6_revoke (wsV RX6 82 RX6 yX6_goes wsX6_goes) := goodIn_app (goodIn_of _ (by decide +kernel)) ggX6_revoke_X6_goes
set_option maxRecDepth 20000 in
theorem ggX6_revoke_X6_save : GoodIn wsX6_revoke wsX6_save := goodIn_r _ [19, 20, 21, 6, 62, 63, 64, 65, 66, 67, 68, 69, 70, 71, 72, 73, 74] (by decide +kernel) (by decide +kernel)
set_option maxRecDepth 20000 in
theorem gX6_revoke_X6_save : GoodIn wsX6_revoke (wsV RX6 86 RX6 yX6_save wsX6_save) := goodIn_app (goodIn_of _ (by decide +kernel)) ggX6_revoke_X6_save
set_option maxRecDepth 20000 in
theorem ggX6_revoke_X6_revokes : GoodIn wsX6_revoke wsX6_revokes := goodIn_r _ [25, 6, 26, 27, 28, 4, 29, 30, 31, 32, 33, 34, 35, 36, 37, 38, 7, 8, 9, 10, 39, 40, 41, 42, 43, 44, 45, 46, 47, 48, 49, 50, 51, 52, 53, 54, 55, 56, 57, 58, 59, 60, 61, 62, 63, 64, 65, 66, 67, 68, 69, 70, 71, 72, 73, 74] (by decide +kernel) (by decide +kernel)
set_option maxRecDepth 20000 in
theorem gX6_revoke_X6_revokes : GoodIn wsX6_revoke (wsV RX6 119 RX6 yX6_revokes wsX6_revokes) := goodIn_app (goodIn_of _ (by decide +kernel)) ggX6_revoke_X6_revokes
theorem dX6_revoke_0 : decode cX6_revoke 0 = .ok (.aload_n 0, 1) := by decide +kernel
theorem dX6_revoke_1 : decode cX6_revoke 1 = .ok (.aload_n 0, 1) := by decide +kernel
theorem dX6_revoke_2 : decode cX6_revoke 2 = .ok (.iload_n 1, 1) := by decide +kernel
theorem dX6_revoke_3 : decode cX6_revoke 3 = .ok (.invokevirtual 116, 3) := by decide +kernel
theorem dX6_revoke_6 : decode cX6_revoke 6 = .ok (.iconst (-1), 1) := by decide +kernel
theorem dX6_revoke_7 : decode cX6_revoke 7 = .ok (.if_icmp .eq 7, 3) := by decide +kernel
theorem dX6_revoke_10 : decode cX6_revoke 10 = .ok (.iconst 1, 1) := by decide +kernel
theorem dX6_revoke_11 : decode cX6_revoke 11 = .ok (.goto 4, 3) := by decide +kernel
theorem dX6_revoke_14 : decode cX6_revoke 14 = .ok (.iconst 0, 1) := by decide +kernel
theorem dX6_revoke_15 : decode cX6_revoke 15 = .ok (.iconst 1, 1) := by decide +kernel
theorem dX6_revoke_16 : decode cX6_revoke 16 = .ok (.iconst 1, 1) := by decide +kernel
theorem dX6_revoke_17 : decode cX6_revoke 17 = .ok (.invokevirtual 82, 3) := by decide +kernel
theorem dX6_revoke_20 : decode cX6_revoke 20 = .ok (.ifCond .ne 5, 3) := by decide +kernel
theorem dX6_revoke_23 : decode cX6_revoke 23 = .ok (.iconst 0, 1) := by decide +kernel
theorem dX6_revoke_24 : decode cX6_revoke 24 = .ok (.ireturn, 1) := by decide +kernel
theorem dX6_revoke_25 : decode cX6_revoke 25 = .ok (.aload_n 0, 1) := by decide +kernel
theorem dX6_revoke_26 : decode cX6_revoke 26 = .ok (.invokevirtual 86, 3) := by decide +kernel
theorem dX6_revoke_29 : decode cX6_revoke 29 = .ok (.aload_n 0, 1) := by decide +kernel
theorem dX6_revoke_30 : decode cX6_revoke 30 = .ok (.aload_n 0, 1) := by decide +kernel
theorem dX6_revoke_31 : decode cX6_revoke 31 = .ok (.iload_n 1, 1) := by decide +kernel
theorem dX6_revoke_32 : decode cX6_revoke 32 = .ok (.invokevirtual 116, 3) := by decide +kernel
theorem dX6_revoke_35 : decode cX6_revoke 35 = .ok (.invokevirtual 119, 3) := by decide +kernel
theorem dX6_revoke_38 : decode cX6_revoke 38 = .ok (.ireturn, 1) := by decide +kernel
set_option maxRecDepth 20000 in
theorem ggX6_cheers_X6_die : GoodIn wsX6_cheers wsX6_die := goodIn_r _ [6, 1, 7, 8, 9, 5, 10, 11, 12, 13, 14, 15, 16, 17, 18, 19, 20, 21, 22, 23, 24, 25, 26, 27, 28, 29, 30, 31] (by decide +kernel) (by decide +kernel)
set_option maxRecDepth 20000 in
theorem gX6_cheers_X6_die : GoodIn wsX6_cheers (wsV RX6 122 RX6 yX6_die wsX6_die) := goodIn_app (goodIn_of _ (by decide +kernel)) ggX6_cheers_X6_die
theorem dX6_cheers_0 : decode cX6_cheers 0 = .ok (.aload_n 0, 1) := by decide +kernel
theorem dX6_cheers_1 : decode cX6_cheers 1 = .ok (.getfield 7, 3) := by decide +kernel
theorem dX6_cheers_4 : decode cX6_cheers 4 = .ok (.bipush 8, 2) := by decide +kernel
theorem dX6_cheers_6 : decode cX6_cheers 6 = .ok (.iload_n 1, 1) := by decide +kernel
theorem dX6_cheers_7 : decode cX6_cheers 7 = .ok (.iadd, 1) := by decide +kernel
theorem dX6_cheers_8 : decode cX6_cheers 8 = .ok (.iaload, 1) := by decide +kernel
theorem dX6_cheers_9 : decode cX6_cheers 9 = .ok (.iload_n 2, 1) := by decide +kernel
theorem dX6_cheers_10 : decode cX6_cheers 10 = .ok (.iadd, 1) := by decide +kernel
theorem dX6_cheers_11 : decode cX6_cheers 11 = .ok (.istore_n 3, 1) := by decide +kernel
theorem dX6_cheers_12 : decode cX6_cheers 12 = .ok (.aload_n 0, 1) := by decide +kernel
theorem dX6_cheers_13 : decode cX6_cheers 13 = .ok (.getfield 7, 3) := by decide +kernel
theorem dX6_cheers_16 : decode cX6_cheers 16 = .ok (.bipush 8, 2) := by decide +kernel
theorem dX6_cheers_18 : decode cX6_cheers 18 = .ok (.iload_n 1, 1) := by decide +kernel
theorem dX6_cheers_19 : decode cX6_cheers 19 = .ok (.iadd, 1) := by decide +kernel
theorem dX6_cheers_20 : decode cX6_cheers 20 = .ok (.iload_n 3, 1) := by decide +kernel
theorem dX6_cheers_21 : decode cX6_cheers 21 = .ok (.ifCond .ge 7, 3) := by decide +kernel
theorem dX6_cheers_24 : decode cX6_cheers 24 = .ok (.iconst 0, 1) := by decide +kernel
theorem dX6_cheers_25 : decode cX6_cheers 25 = .ok (.goto 15, 3) := by decide +kernel
theorem dX6_cheers_28 : decode cX6_cheers 28 = .ok (.iload_n 3, 1) := by decide +kernel
theorem dX6_cheers_29 : decode cX6_cheers 29 = .ok (.bipush 100, 2) := by decide +kernel
theorem dX6_cheers_31 : decode cX6_cheers 31 = .ok (.if_icmp .le 8, 3) := by decide +kernel
theorem dX6_cheers_34 : decode cX6_cheers 34 = .ok (.bipush 100, 2) := by decide +kernel
theorem dX6_cheers_36 : decode cX6_cheers 36 = .ok (.goto 4, 3) := by decide +kernel
theorem dX6_cheers_39 : decode cX6_cheers 39 = .ok (.iload_n 3, 1) := by decide +kernel
theorem dX6_cheers_40 : decode cX6_cheers 40 = .ok (.iastore, 1) := by decide +kernel
theorem dX6_cheers_41 : decode cX6_cheers 41 = .ok (.aload_n 0, 1) := by decide +kernel
theorem dX6_cheers_42 : decode cX6_cheers 42 = .ok (.invokevirtual 122, 3) := by decide +kernel
theorem dX6_cheers_45 : decode cX6_cheers 45 = .ok (.istore 4, 2) := by decide +kernel
theorem dX6_cheers_47 : decode cX6_cheers 47 = .ok (.return_, 1) := by decide +kernel
set_option maxRecDepth 20000 in
theorem ggX6_cheer_X6_isPerson : GoodIn wsX6_cheer wsX6_isPerson := goodIn_r _ [7, 8, 9, 10, 6, 11] (by decide +kernel) (by decide +kernel)
set_option maxRecDepth 20000 in
theorem gX6_cheer_X6_isPerson : GoodIn wsX6_cheer (va_wsS RX6 76 yX6_isPerson wsX6_isPerson) := goodIn_app (goodIn_of _ (by decide +kernel)) ggX6_cheer_X6_isPerson
set_option maxRecDepth 20000 in
theorem ggX6_cheer_X6_in : GoodIn wsX6_cheer wsX6_in := goodIn_r _ [11] (by decide +kernel) (by decide +kernel)
set_option maxRecDepth 20000 in
theorem gX6_cheer_X6_in : GoodIn wsX6_cheer (va_wsS RX6 40 yX6_in wsX6_in) := goodIn_app (goodIn_of _ (by decide +kernel)) ggX6_cheer_X6_in
set_option maxRecDepth 20000 in
theorem ggX6_cheer_X6_goes : GoodIn wsX6_cheer wsX6_goes := goodIn_r _ [15, 16, 43, 44, 45, 46, 47, 48, 49, 50, 51, 52, 53, 54, 55] (by decide +kernel) (by decide +kernel)
set_option maxRecDepth 20000 in
theorem gX6_cheer_X6_goes : GoodIn wsX6_cheer (wsV RX6 82 RX6 yX6_goes wsX6_goes) := goodIn_app (goodIn_of _ (by decide +kernel)) ggX6_cheer_X6_goes
set_option maxRecDepth 20000 in
theorem ggX6_cheer_X6_save : GoodIn wsX6_cheer wsX6_save := goodIn_r _ [20, 21, 22, 3, 43, 44, 45, 46, 47, 48, 49, 50, 51, 52, 53, 54, 55] (by decide +kernel) (by decide +kernel)
set_option maxRecDepth 20000 in
theorem gX6_cheer_X6_save : GoodIn wsX6_cheer (wsV RX6 86 RX6 yX6_save wsX6_save) := goodIn_app (goodIn_of _ (by decide +kernel)) ggX6_cheer_X6_save
set_option maxRecDepth 20000 in
theorem ggX6_cheer_X6_cheers : GoodIn wsX6_cheer wsX6_cheers := goodIn_r _ [26, 3, 27, 28, 29, 6, 30, 31, 32, 33, 34, 35, 36, 37, 38, 39, 40, 41, 42, 43, 44, 45, 46, 47, 48, 49, 50, 51, 52, 53, 54, 55] (by decide +kernel) (by decide +kernel)
set_option maxRecDepth 20000 in
theorem gX6_cheer_X6_cheers : GoodIn wsX6_cheer (wsV RX6 127 RX6 yX6_cheers wsX6_cheers) := goodIn_app (goodIn_of _ (by decide +kernel)) ggX6_cheer_X6_cheers
theorem dX6_cheer_0 : decode cX6_cheer 0 = .ok (.aload_n 0, 1) := by decide +kernel
theorem dX6_cheer_1 : decode cX6_cheer 1 = .ok (.iload_n 1, 1) := by decide +kernel
theorem dX6_cheer_2 : decode cX6_cheer 2 = .ok (.invokestatic 76, 3) := by decide +kernel
theorem dX6_cheer_5 : decode cX6_cheer 5 = .ok (.iload_n 2, 1) := by decide +kernel
theorem dX6_cheer_6 : decode cX6_cheer 6 = .ok (.i2l, 1) := by decide +kernel
theorem dX6_cheer_7 : decode cX6_cheer 7 = .ok (.ldc2_w 125, 3) := by decide +kernel
theorem dX6_cheer_10 : decode cX6_cheer 10 = .ok (.ldc2_w 95, 3) := by decide +kernel
theorem dX6_cheer_13 : decode cX6_cheer 13 = .ok (.invokestatic 40, 3) := by decide +kernel
theorem dX6_cheer_16 : decode cX6_cheer 16 = .ok (.iconst 1, 1) := by decide +kernel
theorem dX6_cheer_17 : decode cX6_cheer 17 = .ok (.invokevirtual 82, 3) := by decide +kernel
theorem dX6_cheer_20 : decode cX6_cheer 20 = .ok (.ifCond .ne 5, 3) := by decide +kernel
theorem dX6_cheer_23 : decode cX6_cheer 23 = .ok (.iconst 0, 1) := by decide +kernel
theorem dX6_cheer_24 : decode cX6_cheer 24 = .ok (.ireturn, 1) := by decide +kernel
theorem dX6_cheer_25 : decode cX6_cheer 25 = .ok (.aload_n 0, 1) := by decide +kernel
theorem dX6_cheer_26 : decode cX6_cheer 26 = .ok (.invokevirtual 86, 3) := by decide +kernel
theorem dX6_cheer_29 : decode cX6_cheer 29 = .ok (.aload_n 0, 1) := by decide +kernel
theorem dX6_cheer_30 : decode cX6_cheer 30 = .ok (.iload_n 1, 1) := by decide +kernel
theorem dX6_cheer_31 : decode cX6_cheer 31 = .ok (.iload_n 2, 1) := by decide +kernel
theorem dX6_cheer_32 : decode cX6_cheer 32 = .ok (.invokevirtual 127, 3) := by decide +kernel
theorem dX6_cheer_35 : decode cX6_cheer 35 = .ok (.aload_n 0, 1) := by decide +kernel
theorem dX6_cheer_36 : decode cX6_cheer 36 = .ok (.getfield 7, 3) := by decide +kernel
theorem dX6_cheer_39 : decode cX6_cheer 39 = .ok (.bipush 8, 2) := by decide +kernel
theorem dX6_cheer_41 : decode cX6_cheer 41 = .ok (.iload_n 1, 1) := by decide +kernel
theorem dX6_cheer_42 : decode cX6_cheer 42 = .ok (.iadd, 1) := by decide +kernel
theorem dX6_cheer_43 : decode cX6_cheer 43 = .ok (.iaload, 1) := by decide +kernel
theorem dX6_cheer_44 : decode cX6_cheer 44 = .ok (.ireturn, 1) := by decide +kernel
set_option maxRecDepth 20000 in
theorem ggX6_tick_X6_die : GoodIn wsX6_tick wsX6_die := goodIn_r _ [6, 1, 7, 8, 9, 5, 10, 11, 12, 13, 14, 15, 16, 17, 18, 19, 20, 21, 22, 23, 24, 25, 26, 27, 28, 29, 30, 31] (by decide +kernel) (by decide +kernel)
set_option maxRecDepth 20000 in
theorem gX6_tick_X6_die : GoodIn wsX6_tick (wsV RX6 122 RX6 yX6_die wsX6_die) := goodIn_app (goodIn_of _ (by decide +kernel)) ggX6_tick_X6_die
theorem dX6_tick_0 : decode cX6_tick 0 = .ok (.aload_n 0, 1) := by decide +kernel
theorem dX6_tick_1 : decode cX6_tick 1 = .ok (.getfield 7, 3) := by decide +kernel
theorem dX6_tick_4 : decode cX6_tick 4 = .ok (.iconst 0, 1) := by decide +kernel
theorem dX6_tick_5 : decode cX6_tick 5 = .ok (.dup2, 1) := by decide +kernel
theorem dX6_tick_6 : decode cX6_tick 6 = .ok (.iaload, 1) := by decide +kernel
theorem dX6_tick_7 : decode cX6_tick 7 = .ok (.iconst 1, 1) := by decide +kernel
theorem dX6_tick_8 : decode cX6_tick 8 = .ok (.iadd, 1) := by decide +kernel
theorem dX6_tick_9 : decode cX6_tick 9 = .ok (.iastore, 1) := by decide +kernel
theorem dX6_tick_10 : decode cX6_tick 10 = .ok (.iconst 0, 1) := by decide +kernel
theorem dX6_tick_11 : decode cX6_tick 11 = .ok (.istore_n 1, 1) := by decide +kernel
theorem dX6_tick_12 : decode cX6_tick 12 = .ok (.iload_n 1, 1) := by decide +kernel
theorem dX6_tick_13 : decode cX6_tick 13 = .ok (.bipush 10, 2) := by decide +kernel
theorem dX6_tick_15 : decode cX6_tick 15 = .ok (.if_icmp .ge 58, 3) := by decide +kernel
theorem dX6_tick_18 : decode cX6_tick 18 = .ok (.aload_n 0, 1) := by decide +kernel
theorem dX6_tick_19 : decode cX6_tick 19 = .ok (.getfield 7, 3) := by decide +kernel
theorem dX6_tick_22 : decode cX6_tick 22 = .ok (.bipush 18, 2) := by decide +kernel
theorem dX6_tick_24 : decode cX6_tick 24 = .ok (.iload_n 1, 1) := by decide +kernel
theorem dX6_tick_25 : decode cX6_tick 25 = .ok (.iadd, 1) := by decide +kernel
theorem dX6_tick_26 : decode cX6_tick 26 = .ok (.iaload, 1) := by decide +kernel
theorem dX6_tick_27 : decode cX6_tick 27 = .ok (.aload_n 0, 1) := by decide +kernel
theorem dX6_tick_28 : decode cX6_tick 28 = .ok (.getfield 7, 3) := by decide +kernel
theorem dX6_tick_31 : decode cX6_tick 31 = .ok (.bipush 8, 2) := by decide +kernel
theorem dX6_tick_33 : decode cX6_tick 33 = .ok (.iload_n 1, 1) := by decide +kernel
theorem dX6_tick_34 : decode cX6_tick 34 = .ok (.iadd, 1) := by decide +kernel
theorem dX6_tick_35 : decode cX6_tick 35 = .ok (.iaload, 1) := by decide +kernel
theorem dX6_tick_36 : decode cX6_tick 36 = .ok (.isub, 1) := by decide +kernel
theorem dX6_tick_37 : decode cX6_tick 37 = .ok (.istore_n 2, 1) := by decide +kernel
theorem dX6_tick_38 : decode cX6_tick 38 = .ok (.aload_n 0, 1) := by decide +kernel
theorem dX6_tick_39 : decode cX6_tick 39 = .ok (.getfield 7, 3) := by decide +kernel
theorem dX6_tick_42 : decode cX6_tick 42 = .ok (.bipush 8, 2) := by decide +kernel
theorem dX6_tick_44 : decode cX6_tick 44 = .ok (.iload_n 1, 1) := by decide +kernel
theorem dX6_tick_45 : decode cX6_tick 45 = .ok (.iadd, 1) := by decide +kernel
theorem dX6_tick_46 : decode cX6_tick 46 = .ok (.dup2, 1) := by decide +kernel
theorem dX6_tick_47 : decode cX6_tick 47 = .ok (.iaload, 1) := by decide +kernel
theorem dX6_tick_48 : decode cX6_tick 48 = .ok (.iload_n 2, 1) := by decide +kernel
theorem dX6_tick_49 : decode cX6_tick 49 = .ok (.ifCond .le 7, 3) := by decide +kernel
theorem dX6_tick_52 : decode cX6_tick 52 = .ok (.iconst 1, 1) := by decide +kernel
theorem dX6_tick_53 : decode cX6_tick 53 = .ok (.goto 12, 3) := by decide +kernel
theorem dX6_tick_56 : decode cX6_tick 56 = .ok (.iload_n 2, 1) := by decide +kernel
theorem dX6_tick_57 : decode cX6_tick 57 = .ok (.ifCond .ge 7, 3) := by decide +kernel
theorem dX6_tick_60 : decode cX6_tick 60 = .ok (.iconst (-1), 1) := by decide +kernel
theorem dX6_tick_61 : decode cX6_tick 61 = .ok (.goto 4, 3) := by decide +kernel
theorem dX6_tick_64 : decode cX6_tick 64 = .ok (.iconst 0, 1) := by decide +kernel
theorem dX6_tick_65 : decode cX6_tick 65 = .ok (.iadd, 1) := by decide +kernel
theorem dX6_tick_66 : decode cX6_tick 66 = .ok (.iastore, 1) := by decide +kernel
theorem dX6_tick_67 : decode cX6_tick 67 = .ok (.iinc 1 1, 3) := by decide +kernel
theorem dX6_tick_70 : decode cX6_tick 70 = .ok (.goto (-58), 3) := by decide +kernel
theorem dX6_tick_73 : decode cX6_tick 73 = .ok (.aload_n 0, 1) := by decide +kernel
theorem dX6_tick_74 : decode cX6_tick 74 = .ok (.invokevirtual 122, 3) := by decide +kernel
theorem dX6_tick_77 : decode cX6_tick 77 = .ok (.ireturn, 1) := by decide +kernel
set_option maxRecDepth 20000 in
theorem ggX6_ticks_X6_tick : GoodIn wsX6_ticks wsX6_tick := goodIn_r _ [5, 6, 7, 8, 9, 4, 10, 11, 12, 13, 14, 15, 16, 17, 18, 19, 20, 21, 22, 23, 24, 25, 26, 27, 28, 29, 30, 31, 32, 33, 34, 35] (by decide +kernel) (by decide +kernel)
set_option maxRecDepth 20000 in
theorem gX6_ticks_X6_tick : GoodIn wsX6_ticks (wsV RX6 131 RX6 yX6_tick wsX6_tick) := goodIn_app (goodIn_of _ (by decide +kernel)) ggX6_ticks_X6_tick
theorem dX6_ticks_0 : decode cX6_ticks 0 = .ok (.iconst 0, 1) := by decide +kernel
theorem dX6_ticks_1 : decode cX6_ticks 1 = .ok (.istore_n 2, 1) := by decide +kernel
theorem dX6_ticks_2 : decode cX6_ticks 2 = .ok (.iconst 0, 1) := by decide +kernel
theorem dX6_ticks_3 : decode cX6_ticks 3 = .ok (.istore_n 3, 1) := by decide +kernel
theorem dX6_ticks_4 : decode cX6_ticks 4 = .ok (.iload_n 3, 1) := by decide +kernel
theorem dX6_ticks_5 : decode cX6_ticks 5 = .ok (.iload_n 1, 1) := by decide +kernel
theorem dX6_ticks_6 : decode cX6_ticks 6 = .ok (.if_icmp .ge 16, 3) := by decide +kernel
theorem dX6_ticks_9 : decode cX6_ticks 9 = .ok (.iload_n 2, 1) := by decide +kernel
theorem dX6_ticks_10 : decode cX6_ticks 10 = .ok (.aload_n 0, 1) := by decide +kernel
theorem dX6_ticks_11 : decode cX6_ticks 11 = .ok (.invokevirtual 131, 3) := by decide +kernel
theorem dX6_ticks_14 : decode cX6_ticks 14 = .ok (.iadd, 1) := by decide +kernel
theorem dX6_ticks_15 : decode cX6_ticks 15 = .ok (.istore_n 2, 1) := by decide +kernel
theorem dX6_ticks_16 : decode cX6_ticks 16 = .ok (.iinc 3 1, 3) := by decide +kernel
theorem dX6_ticks_19 : decode cX6_ticks 19 = .ok (.goto (-15), 3) := by decide +kernel
theorem dX6_ticks_22 : decode cX6_ticks 22 = .ok (.iload_n 2, 1) := by decide +kernel
theorem dX6_ticks_23 : decode cX6_ticks 23 = .ok (.ireturn, 1) := by decide +kernel
theorem dX6_mayPass_0 : decode cX6_mayPass 0 = .ok (.aload_n 0, 1) := by decide +kernel
theorem dX6_mayPass_1 : decode cX6_mayPass 1 = .ok (.getfield 7, 3) := by decide +kernel
theorem dX6_mayPass_4 : decode cX6_mayPass 4 = .ok (.iconst 0, 1) := by decide +kernel
theorem dX6_mayPass_5 : decode cX6_mayPass 5 = .ok (.iaload, 1) := by decide +kernel
theorem dX6_mayPass_6 : decode cX6_mayPass 6 = .ok (.iload_n 1, 1) := by decide +kernel
theorem dX6_mayPass_7 : decode cX6_mayPass 7 = .ok (.iadd, 1) := by decide +kernel
theorem dX6_mayPass_8 : decode cX6_mayPass 8 = .ok (.ldc 134, 2) := by decide +kernel
theorem dX6_mayPass_10 : decode cX6_mayPass 10 = .ok (.if_icmp .gt 7, 3) := by decide +kernel
theorem dX6_mayPass_13 : decode cX6_mayPass 13 = .ok (.iconst 1, 1) := by decide +kernel
theorem dX6_mayPass_14 : decode cX6_mayPass 14 = .ok (.goto 4, 3) := by decide +kernel
theorem dX6_mayPass_17 : decode cX6_mayPass 17 = .ok (.iconst 0, 1) := by decide +kernel
theorem dX6_mayPass_18 : decode cX6_mayPass 18 = .ok (.ireturn, 1) := by decide +kernel
set_option maxRecDepth 20000 in
theorem ggX6_pass_X6_in : GoodIn wsX6_pass wsX6_in := goodIn_r _ [5] (by decide +kernel) (by decide +kernel)
set_option maxRecDepth 20000 in
theorem gX6_pass_X6_in : GoodIn wsX6_pass (va_wsS RX6 40 yX6_in wsX6_in) := goodIn_app (goodIn_of _ (by decide +kernel)) ggX6_pass_X6_in
set_option maxRecDepth 20000 in
theorem ggX6_pass_X6_mayPass : GoodIn wsX6_pass wsX6_mayPass := goodIn_r _ [9, 10, 11, 47, 48, 49, 50, 51, 52, 53, 54, 55, 56, 57, 58, 59] (by decide +kernel) (by decide +kernel)
set_option maxRecDepth 20000 in
theorem gX6_pass_X6_mayPass : GoodIn wsX6_pass (wsV RX6 135 RX6 yX6_mayPass wsX6_mayPass) := goodIn_app (goodIn_of _ (by decide +kernel)) ggX6_pass_X6_mayPass
set_option maxRecDepth 20000 in
theorem ggX6_pass_X6_goes : GoodIn wsX6_pass wsX6_goes := goodIn_r _ [15, 16, 47, 48, 49, 50, 51, 52, 53, 54, 55, 56, 57, 58, 59] (by decide +kernel) (by decide +kernel)
set_option maxRecDepth 20000 in
theorem gX6_pass_X6_goes : GoodIn wsX6_pass (wsV RX6 82 RX6 yX6_goes wsX6_goes) := goodIn_app (goodIn_of _ (by decide +kernel)) ggX6_pass_X6_goes
set_option maxRecDepth 20000 in
theorem ggX6_pass_X6_save : GoodIn wsX6_pass wsX6_save := goodIn_r _ [20, 21, 22, 10, 47, 48, 49, 50, 51, 52, 53, 54, 55, 56, 57, 58, 59] (by decide +kernel) (by decide +kernel)
set_option maxRecDepth 20000 in
theorem gX6_pass_X6_save : GoodIn wsX6_pass (wsV RX6 86 RX6 yX6_save wsX6_save) := goodIn_app (goodIn_of _ (by decide +kernel)) ggX6_pass_X6_save
set_option maxRecDepth 20000 in
theorem ggX6_pass_X6_ticks : GoodIn wsX6_pass wsX6_ticks := goodIn_r _ [26, 27, 28, 29, 4, 30, 10, 31, 32, 33, 34, 35, 36, 37, 38, 39, 40, 41, 42, 43, 44, 45, 46, 47, 48, 49, 50, 51, 52, 53, 54, 55, 56, 57, 58, 59] (by decide +kernel) (by decide +kernel)
set_option maxRecDepth 20000 in
theorem gX6_pass_X6_ticks : GoodIn wsX6_pass (wsV RX6 138 RX6 yX6_ticks wsX6_ticks) := goodIn_app (goodIn_of _ (by decide +kernel)) ggX6_pass_X6_ticks
theorem dX6_pass_0 : decode cX6_pass 0 = .ok (.iload_n 1, 1) := by decide +kernel
theorem dX6_pass_1 : decode cX6_pass 1 = .ok (.i2l, 1) := by decide +kernel
theorem dX6_pass_2 : decode cX6_pass 2 = .ok (.lconst 1, 1) := by decide +kernel
theorem dX6_pass_3 : decode cX6_pass 3 = .ok (.ldc2_w 95, 3) := by decide +kernel
theorem dX6_pass_6 : decode cX6_pass 6 = .ok (.invokestatic 40, 3) := by decide +kernel
theorem dX6_pass_9 : decode cX6_pass 9 = .ok (.istore_n 2, 1) := by decide +kernel
theorem dX6_pass_10 : decode cX6_pass 10 = .ok (.aload_n 0, 1) := by decide +kernel
theorem dX6_pass_11 : decode cX6_pass 11 = .ok (.iload_n 2, 1) := by decide +kernel
theorem dX6_pass_12 : decode cX6_pass 12 = .ok (.iload_n 2, 1) := by decide +kernel
theorem dX6_pass_13 : decode cX6_pass 13 = .ok (.ifCond .eq 15, 3) := by decide +kernel
theorem dX6_pass_16 : decode cX6_pass 16 = .ok (.aload_n 0, 1) := by decide +kernel
theorem dX6_pass_17 : decode cX6_pass 17 = .ok (.iload_n 1, 1) := by decide +kernel
theorem dX6_pass_18 : decode cX6_pass 18 = .ok (.invokevirtual 135, 3) := by decide +kernel
theorem dX6_pass_21 : decode cX6_pass 21 = .ok (.ifCond .eq 7, 3) := by decide +kernel
theorem dX6_pass_24 : decode cX6_pass 24 = .ok (.iconst 1, 1) := by decide +kernel
theorem dX6_pass_25 : decode cX6_pass 25 = .ok (.goto 4, 3) := by decide +kernel
theorem dX6_pass_28 : decode cX6_pass 28 = .ok (.iconst 0, 1) := by decide +kernel
theorem dX6_pass_29 : decode cX6_pass 29 = .ok (.iconst 1, 1) := by decide +kernel
theorem dX6_pass_30 : decode cX6_pass 30 = .ok (.invokevirtual 82, 3) := by decide +kernel
theorem dX6_pass_33 : decode cX6_pass 33 = .ok (.ifCond .ne 5, 3) := by decide +kernel
theorem dX6_pass_36 : decode cX6_pass 36 = .ok (.iconst 0, 1) := by decide +kernel
theorem dX6_pass_37 : decode cX6_pass 37 = .ok (.ireturn, 1) := by decide +kernel
theorem dX6_pass_38 : decode cX6_pass 38 = .ok (.aload_n 0, 1) := by decide +kernel
theorem dX6_pass_39 : decode cX6_pass 39 = .ok (.invokevirtual 86, 3) := by decide +kernel
theorem dX6_pass_42 : decode cX6_pass 42 = .ok (.aload_n 0, 1) := by decide +kernel
theorem dX6_pass_43 : decode cX6_pass 43 = .ok (.iload_n 1, 1) := by decide +kernel
theorem dX6_pass_44 : decode cX6_pass 44 = .ok (.invokevirtual 138, 3) := by decide +kernel
theorem dX6_pass_47 : decode cX6_pass 47 = .ok (.ireturn, 1) := by decide +kernel
set_option maxRecDepth 20000 in
theorem ggX6_held_X6_isPerson : GoodIn wsX6_held wsX6_isPerson := goodIn_r _ [4, 5, 6, 7, 3, 8] (by decide +kernel) (by decide +kernel)
set_option maxRecDepth 20000 in
theorem gX6_held_X6_isPerson : GoodIn wsX6_held (va_wsS RX6 76 yX6_isPerson wsX6_isPerson) := goodIn_app (goodIn_of _ (by decide +kernel)) ggX6_held_X6_isPerson
set_option maxRecDepth 20000 in
theorem ggX6_held_X6_isThing : GoodIn wsX6_held wsX6_isThing := goodIn_r _ [12, 13, 6, 7, 3, 8, 44, 45, 46, 47, 48, 49, 50, 51, 52, 53, 54, 55, 56] (by decide +kernel) (by decide +kernel)
set_option maxRecDepth 20000 in
theorem gX6_held_X6_isThing : GoodIn wsX6_held (wsV RX6 89 RX6 yX6_isThing wsX6_isThing) := goodIn_app (goodIn_of _ (by decide +kernel)) ggX6_held_X6_isThing
set_option maxRecDepth 20000 in
theorem ggX6_held_X6_goes : GoodIn wsX6_held wsX6_goes := goodIn_r _ [17, 18, 44, 45, 46, 47, 48, 49, 50, 51, 52, 53, 54, 55, 56] (by decide +kernel) (by decide +kernel)
set_option maxRecDepth 20000 in
theorem gX6_held_X6_goes : GoodIn wsX6_held (wsV RX6 82 RX6 yX6_goes wsX6_goes) := goodIn_app (goodIn_of _ (by decide +kernel)) ggX6_held_X6_goes
set_option maxRecDepth 20000 in
theorem ggX6_held_X6_lay : GoodIn wsX6_held wsX6_lay := goodIn_r _ [22, 23, 13, 24, 25, 26, 3, 27, 28, 29, 30, 31, 32, 33, 34, 35, 36, 37, 38, 39, 40, 41, 42, 43, 44, 45, 46, 47, 48, 49, 50, 51, 52, 53, 54, 55, 56] (by decide +kernel) (by decide +kernel)
set_option maxRecDepth 20000 in
theorem gX6_held_X6_lay : GoodIn wsX6_held (wsV RX6 67 RX6 yX6_lay wsX6_lay) := goodIn_app (goodIn_of _ (by decide +kernel)) ggX6_held_X6_lay
set_option maxRecDepth 20000 in
theorem ggX6_held_X6_holds : GoodIn wsX6_held wsX6_holds := goodIn_r _ [39, 23, 44, 45, 46, 47, 48, 49, 50, 51, 52, 53, 54, 55, 56] (by decide +kernel) (by decide +kernel)
set_option maxRecDepth 20000 in
theorem gX6_held_X6_holds : GoodIn wsX6_held (wsV RX6 55 RX6 yX6_holds wsX6_holds) := goodIn_app (goodIn_of _ (by decide +kernel)) ggX6_held_X6_holds
theorem dX6_held_0 : decode cX6_held 0 = .ok (.aload_n 0, 1) := by decide +kernel
theorem dX6_held_1 : decode cX6_held 1 = .ok (.iload_n 1, 1) := by decide +kernel
theorem dX6_held_2 : decode cX6_held 2 = .ok (.invokestatic 76, 3) := by decide +kernel
theorem dX6_held_5 : decode cX6_held 5 = .ok (.ifCond .eq 15, 3) := by decide +kernel
theorem dX6_held_8 : decode cX6_held 8 = .ok (.aload_n 0, 1) := by decide +kernel
theorem dX6_held_9 : decode cX6_held 9 = .ok (.iload_n 2, 1) := by decide +kernel
theorem dX6_held_10 : decode cX6_held 10 = .ok (.invokevirtual 89, 3) := by decide +kernel
theorem dX6_held_13 : decode cX6_held 13 = .ok (.ifCond .eq 7, 3) := by decide +kernel
theorem dX6_held_16 : decode cX6_held 16 = .ok (.iconst 1, 1) := by decide +kernel
theorem dX6_held_17 : decode cX6_held 17 = .ok (.goto 4, 3) := by decide +kernel
theorem dX6_held_20 : decode cX6_held 20 = .ok (.iconst 0, 1) := by decide +kernel
theorem dX6_held_21 : decode cX6_held 21 = .ok (.iconst 1, 1) := by decide +kernel
theorem dX6_held_22 : decode cX6_held 22 = .ok (.iconst 1, 1) := by decide +kernel
theorem dX6_held_23 : decode cX6_held 23 = .ok (.invokevirtual 82, 3) := by decide +kernel
theorem dX6_held_26 : decode cX6_held 26 = .ok (.ifCond .ne 5, 3) := by decide +kernel
theorem dX6_held_29 : decode cX6_held 29 = .ok (.iconst 0, 1) := by decide +kernel
theorem dX6_held_30 : decode cX6_held 30 = .ok (.ireturn, 1) := by decide +kernel
theorem dX6_held_31 : decode cX6_held 31 = .ok (.aload_n 0, 1) := by decide +kernel
theorem dX6_held_32 : decode cX6_held 32 = .ok (.invokevirtual 67, 3) := by decide +kernel
theorem dX6_held_35 : decode cX6_held 35 = .ok (.aload_n 0, 1) := by decide +kernel
theorem dX6_held_36 : decode cX6_held 36 = .ok (.iload_n 1, 1) := by decide +kernel
theorem dX6_held_37 : decode cX6_held 37 = .ok (.iload_n 2, 1) := by decide +kernel
theorem dX6_held_38 : decode cX6_held 38 = .ok (.invokevirtual 55, 3) := by decide +kernel
theorem dX6_held_41 : decode cX6_held 41 = .ok (.ireturn, 1) := by decide +kernel
set_option maxRecDepth 20000 in
theorem ggX6_grantsBy_X6_of : GoodIn wsX6_grantsBy wsX6_of := goodIn_r _ [6, 1, 7, 8, 9, 10, 11, 12, 13, 14, 15, 16, 17, 18, 19] (by decide +kernel) (by decide +kernel)
set_option maxRecDepth 20000 in
theorem gX6_grantsBy_X6_of : GoodIn wsX6_grantsBy (wsV RX6 44 RX6 yX6_of wsX6_of) := goodIn_app (goodIn_of _ (by decide +kernel)) ggX6_grantsBy_X6_of
theorem dX6_grantsBy_0 : decode cX6_grantsBy 0 = .ok (.iconst 0, 1) := by decide +kernel
theorem dX6_grantsBy_1 : decode cX6_grantsBy 1 = .ok (.istore_n 3, 1) := by decide +kernel
theorem dX6_grantsBy_2 : decode cX6_grantsBy 2 = .ok (.iconst 0, 1) := by decide +kernel
theorem dX6_grantsBy_3 : decode cX6_grantsBy 3 = .ok (.istore 4, 2) := by decide +kernel
theorem dX6_grantsBy_5 : decode cX6_grantsBy 5 = .ok (.iload 4, 2) := by decide +kernel
theorem dX6_grantsBy_7 : decode cX6_grantsBy 7 = .ok (.aload_n 0, 1) := by decide +kernel
theorem dX6_grantsBy_8 : decode cX6_grantsBy 8 = .ok (.getfield 7, 3) := by decide +kernel
theorem dX6_grantsBy_11 : decode cX6_grantsBy 11 = .ok (.iconst 5, 1) := by decide +kernel
theorem dX6_grantsBy_12 : decode cX6_grantsBy 12 = .ok (.iaload, 1) := by decide +kernel
theorem dX6_grantsBy_13 : decode cX6_grantsBy 13 = .ok (.if_icmp .ge 28, 3) := by decide +kernel
theorem dX6_grantsBy_16 : decode cX6_grantsBy 16 = .ok (.iload_n 3, 1) := by decide +kernel
theorem dX6_grantsBy_17 : decode cX6_grantsBy 17 = .ok (.aload_n 0, 1) := by decide +kernel
theorem dX6_grantsBy_18 : decode cX6_grantsBy 18 = .ok (.iload 4, 2) := by decide +kernel
theorem dX6_grantsBy_20 : decode cX6_grantsBy 20 = .ok (.iload_n 2, 1) := by decide +kernel
theorem dX6_grantsBy_21 : decode cX6_grantsBy 21 = .ok (.invokevirtual 44, 3) := by decide +kernel
theorem dX6_grantsBy_24 : decode cX6_grantsBy 24 = .ok (.iload_n 1, 1) := by decide +kernel
theorem dX6_grantsBy_25 : decode cX6_grantsBy 25 = .ok (.if_icmp .ne 7, 3) := by decide +kernel
theorem dX6_grantsBy_28 : decode cX6_grantsBy 28 = .ok (.iconst 1, 1) := by decide +kernel
theorem dX6_grantsBy_29 : decode cX6_grantsBy 29 = .ok (.goto 4, 3) := by decide +kernel
theorem dX6_grantsBy_32 : decode cX6_grantsBy 32 = .ok (.iconst 0, 1) := by decide +kernel
theorem dX6_grantsBy_33 : decode cX6_grantsBy 33 = .ok (.iadd, 1) := by decide +kernel
theorem dX6_grantsBy_34 : decode cX6_grantsBy 34 = .ok (.istore_n 3, 1) := by decide +kernel
theorem dX6_grantsBy_35 : decode cX6_grantsBy 35 = .ok (.iinc 4 1, 3) := by decide +kernel
theorem dX6_grantsBy_38 : decode cX6_grantsBy 38 = .ok (.goto (-33), 3) := by decide +kernel
theorem dX6_grantsBy_41 : decode cX6_grantsBy 41 = .ok (.iload_n 3, 1) := by decide +kernel
theorem dX6_grantsBy_42 : decode cX6_grantsBy 42 = .ok (.ireturn, 1) := by decide +kernel
set_option maxRecDepth 20000 in
theorem ggX6_personValue_X6_owner : GoodIn wsX6_personValue wsX6_owner := goodIn_r _ [6, 1, 23, 24, 25, 26, 27, 28, 29, 30, 31, 32, 33, 34, 35] (by decide +kernel) (by decide +kernel)
set_option maxRecDepth 20000 in
theorem gX6_personValue_X6_owner : GoodIn wsX6_personValue (wsV RX6 61 RX6 yX6_owner wsX6_owner) := goodIn_app (goodIn_of _ (by decide +kernel)) ggX6_personValue_X6_owner
set_option maxRecDepth 20000 in
theorem ggX6_personValue_X6_holds : GoodIn wsX6_personValue wsX6_holds := goodIn_r _ [10, 11, 23, 24, 25, 26, 27, 28, 29, 30, 31, 32, 33, 34, 35] (by decide +kernel) (by decide +kernel)
set_option maxRecDepth 20000 in
theorem gX6_personValue_X6_holds : GoodIn wsX6_personValue (wsV RX6 55 RX6 yX6_holds wsX6_holds) := goodIn_app (goodIn_of _ (by decide +kernel)) ggX6_personValue_X6_holds
set_option maxRecDepth 20000 in
theorem ggX6_personValue_X6_bits : GoodIn wsX6_personValue wsX6_bits := goodIn_r _ [14] (by decide +kernel) (by decide +kernel)
set_option maxRecDepth 20000 in
theorem gX6_personValue_X6_bits : GoodIn wsX6_personValue (va_wsS RX6 73 yX6_bits wsX6_bits) := goodIn_app (goodIn_of _ (by decide +kernel)) ggX6_personValue_X6_bits
set_option maxRecDepth 20000 in
theorem ggX6_personValue_X6_grantsBy : GoodIn wsX6_personValue wsX6_grantsBy := goodIn_r _ [18, 1, 19, 20, 21, 5, 22, 23, 24, 25, 26, 27, 28, 29, 30, 31, 32, 33, 34, 35] (by decide +kernel) (by decide +kernel)
set_option maxRecDepth 20000 in
theorem gX6_personValue_X6_grantsBy : GoodIn wsX6_personValue (wsV RX6 141 RX6 yX6_grantsBy wsX6_grantsBy) := goodIn_app (goodIn_of _ (by decide +kernel)) ggX6_personValue_X6_grantsBy
theorem dX6_personValue_0 : decode cX6_personValue 0 = .ok (.iconst 0, 1) := by decide +kernel
theorem dX6_personValue_1 : decode cX6_personValue 1 = .ok (.istore_n 3, 1) := by decide +kernel
theorem dX6_personValue_2 : decode cX6_personValue 2 = .ok (.iconst 0, 1) := by decide +kernel
theorem dX6_personValue_3 : decode cX6_personValue 3 = .ok (.istore 4, 2) := by decide +kernel
theorem dX6_personValue_5 : decode cX6_personValue 5 = .ok (.iconst 0, 1) := by decide +kernel
theorem dX6_personValue_6 : decode cX6_personValue 6 = .ok (.istore 5, 2) := by decide +kernel
theorem dX6_personValue_8 : decode cX6_personValue 8 = .ok (.iload 5, 2) := by decide +kernel
theorem dX6_personValue_10 : decode cX6_personValue 10 = .ok (.aload_n 0, 1) := by decide +kernel
theorem dX6_personValue_11 : decode cX6_personValue 11 = .ok (.getfield 7, 3) := by decide +kernel
theorem dX6_personValue_14 : decode cX6_personValue 14 = .ok (.iconst 4, 1) := by decide +kernel
theorem dX6_personValue_15 : decode cX6_personValue 15 = .ok (.iaload, 1) := by decide +kernel
theorem dX6_personValue_16 : decode cX6_personValue 16 = .ok (.if_icmp .ge 44, 3) := by decide +kernel
theorem dX6_personValue_19 : decode cX6_personValue 19 = .ok (.iload_n 3, 1) := by decide +kernel
theorem dX6_personValue_20 : decode cX6_personValue 20 = .ok (.aload_n 0, 1) := by decide +kernel
theorem dX6_personValue_21 : decode cX6_personValue 21 = .ok (.iload 5, 2) := by decide +kernel
theorem dX6_personValue_23 : decode cX6_personValue 23 = .ok (.invokevirtual 61, 3) := by decide +kernel
theorem dX6_personValue_26 : decode cX6_personValue 26 = .ok (.iload_n 1, 1) := by decide +kernel
theorem dX6_personValue_27 : decode cX6_personValue 27 = .ok (.if_icmp .ne 7, 3) := by decide +kernel
theorem dX6_personValue_30 : decode cX6_personValue 30 = .ok (.iconst 1, 1) := by decide +kernel
theorem dX6_personValue_31 : decode cX6_personValue 31 = .ok (.goto 4, 3) := by decide +kernel
theorem dX6_personValue_34 : decode cX6_personValue 34 = .ok (.iconst 0, 1) := by decide +kernel
theorem dX6_personValue_35 : decode cX6_personValue 35 = .ok (.iadd, 1) := by decide +kernel
theorem dX6_personValue_36 : decode cX6_personValue 36 = .ok (.istore_n 3, 1) := by decide +kernel
theorem dX6_personValue_37 : decode cX6_personValue 37 = .ok (.iload 4, 2) := by decide +kernel
theorem dX6_personValue_39 : decode cX6_personValue 39 = .ok (.aload_n 0, 1) := by decide +kernel
theorem dX6_personValue_40 : decode cX6_personValue 40 = .ok (.iload_n 1, 1) := by decide +kernel
theorem dX6_personValue_41 : decode cX6_personValue 41 = .ok (.iload 5, 2) := by decide +kernel
theorem dX6_personValue_43 : decode cX6_personValue 43 = .ok (.invokevirtual 55, 3) := by decide +kernel
theorem dX6_personValue_46 : decode cX6_personValue 46 = .ok (.iconst 1, 1) := by decide +kernel
theorem dX6_personValue_47 : decode cX6_personValue 47 = .ok (.iand, 1) := by decide +kernel
theorem dX6_personValue_48 : decode cX6_personValue 48 = .ok (.iload 5, 2) := by decide +kernel
theorem dX6_personValue_50 : decode cX6_personValue 50 = .ok (.ishl, 1) := by decide +kernel
theorem dX6_personValue_51 : decode cX6_personValue 51 = .ok (.ior, 1) := by decide +kernel
theorem dX6_personValue_52 : decode cX6_personValue 52 = .ok (.istore 4, 2) := by decide +kernel
theorem dX6_personValue_54 : decode cX6_personValue 54 = .ok (.iinc 5 1, 3) := by decide +kernel
theorem dX6_personValue_57 : decode cX6_personValue 57 = .ok (.goto (-49), 3) := by decide +kernel
theorem dX6_personValue_60 : decode cX6_personValue 60 = .ok (.iload_n 2, 1) := by decide +kernel
theorem dX6_personValue_61 : decode cX6_personValue 61 = .ok (.tableswitch 81 0 5 #[39, 49, 59, 61, 67, 74], 39) := by decide +kernel
theorem dX6_personValue_100 : decode cX6_personValue 100 = .ok (.aload_n 0, 1) := by decide +kernel
theorem dX6_personValue_101 : decode cX6_personValue 101 = .ok (.getfield 7, 3) := by decide +kernel
theorem dX6_personValue_104 : decode cX6_personValue 104 = .ok (.bipush 8, 2) := by decide +kernel
theorem dX6_personValue_106 : decode cX6_personValue 106 = .ok (.iload_n 1, 1) := by decide +kernel
theorem dX6_personValue_107 : decode cX6_personValue 107 = .ok (.iadd, 1) := by decide +kernel
theorem dX6_personValue_108 : decode cX6_personValue 108 = .ok (.iaload, 1) := by decide +kernel
theorem dX6_personValue_109 : decode cX6_personValue 109 = .ok (.ireturn, 1) := by decide +kernel
theorem dX6_personValue_110 : decode cX6_personValue 110 = .ok (.aload_n 0, 1) := by decide +kernel
theorem dX6_personValue_111 : decode cX6_personValue 111 = .ok (.getfield 7, 3) := by decide +kernel
theorem dX6_personValue_114 : decode cX6_personValue 114 = .ok (.bipush 18, 2) := by decide +kernel
theorem dX6_personValue_116 : decode cX6_personValue 116 = .ok (.iload_n 1, 1) := by decide +kernel
theorem dX6_personValue_117 : decode cX6_personValue 117 = .ok (.iadd, 1) := by decide +kernel
theorem dX6_personValue_118 : decode cX6_personValue 118 = .ok (.iaload, 1) := by decide +kernel
theorem dX6_personValue_119 : decode cX6_personValue 119 = .ok (.ireturn, 1) := by decide +kernel
theorem dX6_personValue_120 : decode cX6_personValue 120 = .ok (.iload_n 3, 1) := by decide +kernel
theorem dX6_personValue_121 : decode cX6_personValue 121 = .ok (.ireturn, 1) := by decide +kernel
theorem dX6_personValue_122 : decode cX6_personValue 122 = .ok (.iload 4, 2) := by decide +kernel
theorem dX6_personValue_124 : decode cX6_personValue 124 = .ok (.invokestatic 73, 3) := by decide +kernel
theorem dX6_personValue_127 : decode cX6_personValue 127 = .ok (.ireturn, 1) := by decide +kernel
theorem dX6_personValue_128 : decode cX6_personValue 128 = .ok (.aload_n 0, 1) := by decide +kernel
theorem dX6_personValue_129 : decode cX6_personValue 129 = .ok (.iload_n 1, 1) := by decide +kernel
theorem dX6_personValue_130 : decode cX6_personValue 130 = .ok (.iconst 1, 1) := by decide +kernel
theorem dX6_personValue_131 : decode cX6_personValue 131 = .ok (.invokevirtual 141, 3) := by decide +kernel
theorem dX6_personValue_134 : decode cX6_personValue 134 = .ok (.ireturn, 1) := by decide +kernel
theorem dX6_personValue_135 : decode cX6_personValue 135 = .ok (.aload_n 0, 1) := by decide +kernel
theorem dX6_personValue_136 : decode cX6_personValue 136 = .ok (.iload_n 1, 1) := by decide +kernel
theorem dX6_personValue_137 : decode cX6_personValue 137 = .ok (.iconst 2, 1) := by decide +kernel
theorem dX6_personValue_138 : decode cX6_personValue 138 = .ok (.invokevirtual 141, 3) := by decide +kernel
theorem dX6_personValue_141 : decode cX6_personValue 141 = .ok (.ireturn, 1) := by decide +kernel
theorem dX6_personValue_142 : decode cX6_personValue 142 = .ok (.iload 4, 2) := by decide +kernel
theorem dX6_personValue_144 : decode cX6_personValue 144 = .ok (.ireturn, 1) := by decide +kernel
set_option maxRecDepth 20000 in
theorem ggX6_person_X6_isPerson : GoodIn wsX6_person wsX6_isPerson := goodIn_r _ [5, 6, 7, 8, 4, 9] (by decide +kernel) (by decide +kernel)
set_option maxRecDepth 20000 in
theorem gX6_person_X6_isPerson : GoodIn wsX6_person (va_wsS RX6 76 yX6_isPerson wsX6_isPerson) := goodIn_app (goodIn_of _ (by decide +kernel)) ggX6_person_X6_isPerson
set_option maxRecDepth 20000 in
theorem ggX6_person_X6_in : GoodIn wsX6_person wsX6_in := goodIn_r _ [9] (by decide +kernel) (by decide +kernel)
set_option maxRecDepth 20000 in
theorem gX6_person_X6_in : GoodIn wsX6_person (va_wsS RX6 40 yX6_in wsX6_in) := goodIn_app (goodIn_of _ (by decide +kernel)) ggX6_person_X6_in
set_option maxRecDepth 20000 in
theorem ggX6_person_X6_goes : GoodIn wsX6_person wsX6_goes := goodIn_r _ [13, 14, 52, 53, 54, 55, 56, 57, 58, 59, 60, 61, 62, 63, 64] (by decide +kernel) (by decide +kernel)
set_option maxRecDepth 20000 in
theorem gX6_person_X6_goes : GoodIn wsX6_person (wsV RX6 82 RX6 yX6_goes wsX6_goes) := goodIn_app (goodIn_of _ (by decide +kernel)) ggX6_person_X6_goes
set_option maxRecDepth 20000 in
theorem ggX6_person_X6_lay : GoodIn wsX6_person wsX6_lay := goodIn_r _ [18, 19, 20, 21, 22, 23, 4, 24, 25, 26, 27, 28, 29, 30, 31, 32, 33, 34, 35, 36, 37, 38, 39, 40, 52, 53, 54, 55, 56, 57, 58, 59, 60, 61, 62, 63, 64] (by decide +kernel) (by decide +kernel)
set_option maxRecDepth 20000 in
theorem gX6_person_X6_lay : GoodIn wsX6_person (wsV RX6 67 RX6 yX6_lay wsX6_lay) := goodIn_app (goodIn_of _ (by decide +kernel)) ggX6_person_X6_lay
set_option maxRecDepth 20000 in
theorem ggX6_person_X6_personValue : GoodIn wsX6_person wsX6_personValue := goodIn_r _ [44, 20, 21, 22, 23, 4, 24, 33, 34, 35, 36, 19, 45, 46, 47, 48, 49, 50, 51, 25, 26, 27, 28, 52, 53, 54, 55, 56, 57, 58, 59, 60, 61, 62, 63, 64] (by decide +kernel) (by decide +kernel)
set_option maxRecDepth 20000 in
theorem gX6_person_X6_personValue : GoodIn wsX6_person (wsV RX6 146 RX6 yX6_personValue wsX6_personValue) := goodIn_app (goodIn_of _ (by decide +kernel)) ggX6_person_X6_personValue
theorem dX6_person_0 : decode cX6_person 0 = .ok (.aload_n 0, 1) := by decide +kernel
theorem dX6_person_1 : decode cX6_person 1 = .ok (.iload_n 1, 1) := by decide +kernel
theorem dX6_person_2 : decode cX6_person 2 = .ok (.invokestatic 76, 3) := by decide +kernel
theorem dX6_person_5 : decode cX6_person 5 = .ok (.iload_n 2, 1) := by decide +kernel
theorem dX6_person_6 : decode cX6_person 6 = .ok (.i2l, 1) := by decide +kernel
theorem dX6_person_7 : decode cX6_person 7 = .ok (.lconst 0, 1) := by decide +kernel
theorem dX6_person_8 : decode cX6_person 8 = .ok (.ldc2_w 144, 3) := by decide +kernel
theorem dX6_person_11 : decode cX6_person 11 = .ok (.invokestatic 40, 3) := by decide +kernel
theorem dX6_person_14 : decode cX6_person 14 = .ok (.iconst 1, 1) := by decide +kernel
theorem dX6_person_15 : decode cX6_person 15 = .ok (.invokevirtual 82, 3) := by decide +kernel
theorem dX6_person_18 : decode cX6_person 18 = .ok (.ifCond .ne 5, 3) := by decide +kernel
theorem dX6_person_21 : decode cX6_person 21 = .ok (.iconst 0, 1) := by decide +kernel
theorem dX6_person_22 : decode cX6_person 22 = .ok (.ireturn, 1) := by decide +kernel
theorem dX6_person_23 : decode cX6_person 23 = .ok (.aload_n 0, 1) := by decide +kernel
theorem dX6_person_24 : decode cX6_person 24 = .ok (.invokevirtual 67, 3) := by decide +kernel
theorem dX6_person_27 : decode cX6_person 27 = .ok (.aload_n 0, 1) := by decide +kernel
theorem dX6_person_28 : decode cX6_person 28 = .ok (.iload_n 1, 1) := by decide +kernel
theorem dX6_person_29 : decode cX6_person 29 = .ok (.iload_n 2, 1) := by decide +kernel
theorem dX6_person_30 : decode cX6_person 30 = .ok (.invokevirtual 146, 3) := by decide +kernel
theorem dX6_person_33 : decode cX6_person 33 = .ok (.ireturn, 1) := by decide +kernel
set_option maxRecDepth 20000 in
theorem ggX6_thingValue_X6_grantsBy : GoodIn wsX6_thingValue wsX6_grantsBy := goodIn_r _ [6, 1, 7, 8, 9, 5, 10, 20, 21, 22, 23, 24, 25, 26, 27, 28, 29, 30, 31, 32] (by decide +kernel) (by decide +kernel)
set_option maxRecDepth 20000 in
theorem gX6_thingValue_X6_grantsBy : GoodIn wsX6_thingValue (wsV RX6 141 RX6 yX6_grantsBy wsX6_grantsBy) := goodIn_app (goodIn_of _ (by decide +kernel)) ggX6_thingValue_X6_grantsBy
set_option maxRecDepth 20000 in
theorem ggX6_thingValue_X6_whoHas : GoodIn wsX6_thingValue wsX6_whoHas := goodIn_r _ [14, 15, 16, 17, 5, 18, 19, 20, 21, 22, 23, 24, 25, 26, 27, 28, 29, 30, 31, 32] (by decide +kernel) (by decide +kernel)
set_option maxRecDepth 20000 in
theorem gX6_thingValue_X6_whoHas : GoodIn wsX6_thingValue (wsV RX6 70 RX6 yX6_whoHas wsX6_whoHas) := goodIn_app (goodIn_of _ (by decide +kernel)) ggX6_thingValue_X6_whoHas
theorem dX6_thingValue_0 : decode cX6_thingValue 0 = .ok (.iload_n 2, 1) := by decide +kernel
theorem dX6_thingValue_1 : decode cX6_thingValue 1 = .ok (.iconst 2, 1) := by decide +kernel
theorem dX6_thingValue_2 : decode cX6_thingValue 2 = .ok (.if_icmp .ge 19, 3) := by decide +kernel
theorem dX6_thingValue_5 : decode cX6_thingValue 5 = .ok (.aload_n 0, 1) := by decide +kernel
theorem dX6_thingValue_6 : decode cX6_thingValue 6 = .ok (.getfield 7, 3) := by decide +kernel
theorem dX6_thingValue_9 : decode cX6_thingValue 9 = .ok (.bipush 28, 2) := by decide +kernel
theorem dX6_thingValue_11 : decode cX6_thingValue 11 = .ok (.iconst 2, 1) := by decide +kernel
theorem dX6_thingValue_12 : decode cX6_thingValue 12 = .ok (.iload_n 1, 1) := by decide +kernel
theorem dX6_thingValue_13 : decode cX6_thingValue 13 = .ok (.imul, 1) := by decide +kernel
theorem dX6_thingValue_14 : decode cX6_thingValue 14 = .ok (.iadd, 1) := by decide +kernel
theorem dX6_thingValue_15 : decode cX6_thingValue 15 = .ok (.iload_n 2, 1) := by decide +kernel
theorem dX6_thingValue_16 : decode cX6_thingValue 16 = .ok (.iadd, 1) := by decide +kernel
theorem dX6_thingValue_17 : decode cX6_thingValue 17 = .ok (.iaload, 1) := by decide +kernel
theorem dX6_thingValue_18 : decode cX6_thingValue 18 = .ok (.goto 27, 3) := by decide +kernel
theorem dX6_thingValue_21 : decode cX6_thingValue 21 = .ok (.iload_n 2, 1) := by decide +kernel
theorem dX6_thingValue_22 : decode cX6_thingValue 22 = .ok (.iconst 2, 1) := by decide +kernel
theorem dX6_thingValue_23 : decode cX6_thingValue 23 = .ok (.if_icmp .ne 12, 3) := by decide +kernel
theorem dX6_thingValue_26 : decode cX6_thingValue 26 = .ok (.aload_n 0, 1) := by decide +kernel
theorem dX6_thingValue_27 : decode cX6_thingValue 27 = .ok (.iload_n 1, 1) := by decide +kernel
theorem dX6_thingValue_28 : decode cX6_thingValue 28 = .ok (.iconst 3, 1) := by decide +kernel
theorem dX6_thingValue_29 : decode cX6_thingValue 29 = .ok (.invokevirtual 141, 3) := by decide +kernel
theorem dX6_thingValue_32 : decode cX6_thingValue 32 = .ok (.goto 13, 3) := by decide +kernel
theorem dX6_thingValue_35 : decode cX6_thingValue 35 = .ok (.aload_n 0, 1) := by decide +kernel
theorem dX6_thingValue_36 : decode cX6_thingValue 36 = .ok (.iload_n 1, 1) := by decide +kernel
theorem dX6_thingValue_37 : decode cX6_thingValue 37 = .ok (.iconst 1, 1) := by decide +kernel
theorem dX6_thingValue_38 : decode cX6_thingValue 38 = .ok (.iload_n 2, 1) := by decide +kernel
theorem dX6_thingValue_39 : decode cX6_thingValue 39 = .ok (.iconst 3, 1) := by decide +kernel
theorem dX6_thingValue_40 : decode cX6_thingValue 40 = .ok (.isub, 1) := by decide +kernel
theorem dX6_thingValue_41 : decode cX6_thingValue 41 = .ok (.ishl, 1) := by decide +kernel
theorem dX6_thingValue_42 : decode cX6_thingValue 42 = .ok (.invokevirtual 70, 3) := by decide +kernel
theorem dX6_thingValue_45 : decode cX6_thingValue 45 = .ok (.ireturn, 1) := by decide +kernel
set_option maxRecDepth 20000 in
theorem ggX6_thing_X6_isThing : GoodIn wsX6_thing wsX6_isThing := goodIn_r _ [6, 7, 8, 9, 5, 10, 53, 54, 55, 56, 57, 58, 59, 60, 61, 62, 63, 64, 65] (by decide +kernel) (by decide +kernel)
set_option maxRecDepth 20000 in
theorem gX6_thing_X6_isThing : GoodIn wsX6_thing (wsV RX6 89 RX6 yX6_isThing wsX6_isThing) := goodIn_app (goodIn_of _ (by decide +kernel)) ggX6_thing_X6_isThing
set_option maxRecDepth 20000 in
theorem ggX6_thing_X6_in : GoodIn wsX6_thing wsX6_in := goodIn_r _ [10] (by decide +kernel) (by decide +kernel)
set_option maxRecDepth 20000 in
theorem gX6_thing_X6_in : GoodIn wsX6_thing (va_wsS RX6 40 yX6_in wsX6_in) := goodIn_app (goodIn_of _ (by decide +kernel)) ggX6_thing_X6_in
set_option maxRecDepth 20000 in
theorem ggX6_thing_X6_goes : GoodIn wsX6_thing wsX6_goes := goodIn_r _ [14, 15, 53, 54, 55, 56, 57, 58, 59, 60, 61, 62, 63, 64, 65] (by decide +kernel) (by decide +kernel)
set_option maxRecDepth 20000 in
theorem gX6_thing_X6_goes : GoodIn wsX6_thing (wsV RX6 82 RX6 yX6_goes wsX6_goes) := goodIn_app (goodIn_of _ (by decide +kernel)) ggX6_thing_X6_goes
set_option maxRecDepth 20000 in
theorem ggX6_thing_X6_lay : GoodIn wsX6_thing wsX6_lay := goodIn_r _ [19, 20, 7, 21, 22, 23, 5, 24, 25, 26, 27, 28, 29, 30, 31, 32, 33, 34, 35, 36, 37, 38, 39, 40, 53, 54, 55, 56, 57, 58, 59, 60, 61, 62, 63, 64, 65] (by decide +kernel) (by decide +kernel)
set_option maxRecDepth 20000 in
theorem gX6_thing_X6_lay : GoodIn wsX6_thing (wsV RX6 67 RX6 yX6_lay wsX6_lay) := goodIn_app (goodIn_of _ (by decide +kernel)) ggX6_thing_X6_lay
set_option maxRecDepth 20000 in
theorem ggX6_thing_X6_thingValue : GoodIn wsX6_thing wsX6_thingValue := goodIn_r _ [44, 7, 45, 46, 47, 5, 48, 25, 26, 27, 28, 49, 50, 51, 52, 33, 34, 35, 36, 20, 53, 54, 55, 56, 57, 58, 59, 60, 61, 62, 63, 64, 65] (by decide +kernel) (by decide +kernel)
set_option maxRecDepth 20000 in
theorem gX6_thing_X6_thingValue : GoodIn wsX6_thing (wsV RX6 151 RX6 yX6_thingValue wsX6_thingValue) := goodIn_app (goodIn_of _ (by decide +kernel)) ggX6_thing_X6_thingValue
theorem dX6_thing_0 : decode cX6_thing 0 = .ok (.aload_n 0, 1) := by decide +kernel
theorem dX6_thing_1 : decode cX6_thing 1 = .ok (.aload_n 0, 1) := by decide +kernel
theorem dX6_thing_2 : decode cX6_thing 2 = .ok (.iload_n 1, 1) := by decide +kernel
theorem dX6_thing_3 : decode cX6_thing 3 = .ok (.invokevirtual 89, 3) := by decide +kernel
theorem dX6_thing_6 : decode cX6_thing 6 = .ok (.iload_n 2, 1) := by decide +kernel
theorem dX6_thing_7 : decode cX6_thing 7 = .ok (.i2l, 1) := by decide +kernel
theorem dX6_thing_8 : decode cX6_thing 8 = .ok (.lconst 0, 1) := by decide +kernel
theorem dX6_thing_9 : decode cX6_thing 9 = .ok (.ldc2_w 149, 3) := by decide +kernel
theorem dX6_thing_12 : decode cX6_thing 12 = .ok (.invokestatic 40, 3) := by decide +kernel
theorem dX6_thing_15 : decode cX6_thing 15 = .ok (.iconst 1, 1) := by decide +kernel
theorem dX6_thing_16 : decode cX6_thing 16 = .ok (.invokevirtual 82, 3) := by decide +kernel
theorem dX6_thing_19 : decode cX6_thing 19 = .ok (.ifCond .ne 5, 3) := by decide +kernel
theorem dX6_thing_22 : decode cX6_thing 22 = .ok (.iconst 0, 1) := by decide +kernel
theorem dX6_thing_23 : decode cX6_thing 23 = .ok (.ireturn, 1) := by decide +kernel
theorem dX6_thing_24 : decode cX6_thing 24 = .ok (.aload_n 0, 1) := by decide +kernel
theorem dX6_thing_25 : decode cX6_thing 25 = .ok (.invokevirtual 67, 3) := by decide +kernel
theorem dX6_thing_28 : decode cX6_thing 28 = .ok (.aload_n 0, 1) := by decide +kernel
theorem dX6_thing_29 : decode cX6_thing 29 = .ok (.iload_n 1, 1) := by decide +kernel
theorem dX6_thing_30 : decode cX6_thing 30 = .ok (.iload_n 2, 1) := by decide +kernel
theorem dX6_thing_31 : decode cX6_thing 31 = .ok (.invokevirtual 151, 3) := by decide +kernel
theorem dX6_thing_34 : decode cX6_thing 34 = .ok (.ireturn, 1) := by decide +kernel
set_option maxRecDepth 20000 in
theorem ggX6_grantValue_X6_of : GoodIn wsX6_grantValue wsX6_of := goodIn_r _ [5, 6, 20, 21, 22, 23, 24, 25, 26, 27, 28, 29, 30, 31, 32] (by decide +kernel) (by decide +kernel)
set_option maxRecDepth 20000 in
theorem gX6_grantValue_X6_of : GoodIn wsX6_grantValue (wsV RX6 44 RX6 yX6_of wsX6_of) := goodIn_app (goodIn_of _ (by decide +kernel)) ggX6_grantValue_X6_of
set_option maxRecDepth 20000 in
theorem ggX6_grantValue_X6_passes : GoodIn wsX6_grantValue wsX6_passes := goodIn_r _ [10, 1, 2, 3, 4, 5, 6, 11, 12, 13, 14, 15, 16, 17, 18, 19, 20, 21, 22, 23, 24, 25, 26, 27, 28, 29, 30, 31, 32] (by decide +kernel) (by decide +kernel)
set_option maxRecDepth 20000 in
theorem gX6_grantValue_X6_passes : GoodIn wsX6_grantValue (wsV RX6 64 RX6 yX6_passes wsX6_passes) := goodIn_app (goodIn_of _ (by decide +kernel)) ggX6_grantValue_X6_passes
theorem dX6_grantValue_0 : decode cX6_grantValue 0 = .ok (.iload_n 2, 1) := by decide +kernel
theorem dX6_grantValue_1 : decode cX6_grantValue 1 = .ok (.iconst 5, 1) := by decide +kernel
theorem dX6_grantValue_2 : decode cX6_grantValue 2 = .ok (.if_icmp .ge 14, 3) := by decide +kernel
theorem dX6_grantValue_5 : decode cX6_grantValue 5 = .ok (.aload_n 0, 1) := by decide +kernel
theorem dX6_grantValue_6 : decode cX6_grantValue 6 = .ok (.iload_n 1, 1) := by decide +kernel
theorem dX6_grantValue_7 : decode cX6_grantValue 7 = .ok (.iload_n 2, 1) := by decide +kernel
theorem dX6_grantValue_8 : decode cX6_grantValue 8 = .ok (.iconst 1, 1) := by decide +kernel
theorem dX6_grantValue_9 : decode cX6_grantValue 9 = .ok (.iadd, 1) := by decide +kernel
theorem dX6_grantValue_10 : decode cX6_grantValue 10 = .ok (.invokevirtual 44, 3) := by decide +kernel
theorem dX6_grantValue_13 : decode cX6_grantValue 13 = .ok (.goto 8, 3) := by decide +kernel
theorem dX6_grantValue_16 : decode cX6_grantValue 16 = .ok (.aload_n 0, 1) := by decide +kernel
theorem dX6_grantValue_17 : decode cX6_grantValue 17 = .ok (.iload_n 1, 1) := by decide +kernel
theorem dX6_grantValue_18 : decode cX6_grantValue 18 = .ok (.invokevirtual 64, 3) := by decide +kernel
theorem dX6_grantValue_21 : decode cX6_grantValue 21 = .ok (.ireturn, 1) := by decide +kernel
set_option maxRecDepth 20000 in
theorem ggX6_grantOf_X6_placeOf : GoodIn wsX6_grantOf wsX6_placeOf := goodIn_r _ [6, 7, 8, 9, 10, 5, 11, 45, 46, 47, 48, 49, 50, 51, 52, 53, 54, 55, 56, 57] (by decide +kernel) (by decide +kernel)
set_option maxRecDepth 20000 in
theorem gX6_grantOf_X6_placeOf : GoodIn wsX6_grantOf (wsV RX6 116 RX6 yX6_placeOf wsX6_placeOf) := goodIn_app (goodIn_of _ (by decide +kernel)) ggX6_grantOf_X6_placeOf
set_option maxRecDepth 20000 in
theorem ggX6_grantOf_X6_in : GoodIn wsX6_grantOf wsX6_in := goodIn_r _ [14] (by decide +kernel) (by decide +kernel)
set_option maxRecDepth 20000 in
theorem gX6_grantOf_X6_in : GoodIn wsX6_grantOf (va_wsS RX6 40 yX6_in wsX6_in) := goodIn_app (goodIn_of _ (by decide +kernel)) ggX6_grantOf_X6_in
set_option maxRecDepth 20000 in
theorem ggX6_grantOf_X6_goes : GoodIn wsX6_grantOf wsX6_goes := goodIn_r _ [18, 19, 45, 46, 47, 48, 49, 50, 51, 52, 53, 54, 55, 56, 57] (by decide +kernel) (by decide +kernel)
set_option maxRecDepth 20000 in
theorem gX6_grantOf_X6_goes : GoodIn wsX6_grantOf (wsV RX6 82 RX6 yX6_goes wsX6_goes) := goodIn_app (goodIn_of _ (by decide +kernel)) ggX6_grantOf_X6_goes
set_option maxRecDepth 20000 in
theorem ggX6_grantOf_X6_lay : GoodIn wsX6_grantOf wsX6_lay := goodIn_r _ [23, 24, 7, 25, 26, 27, 5, 28, 8, 9, 10, 11, 29, 30, 31, 32, 33, 34, 35, 36, 37, 38, 39, 40, 45, 46, 47, 48, 49, 50, 51, 52, 53, 54, 55, 56, 57] (by decide +kernel) (by decide +kernel)
set_option maxRecDepth 20000 in
theorem gX6_grantOf_X6_lay : GoodIn wsX6_grantOf (wsV RX6 67 RX6 yX6_lay wsX6_lay) := goodIn_app (goodIn_of _ (by decide +kernel)) ggX6_grantOf_X6_lay
set_option maxRecDepth 20000 in
theorem ggX6_grantOf_X6_grantValue : GoodIn wsX6_grantOf wsX6_grantValue := goodIn_r _ [44, 8, 9, 10, 5, 11, 7, 29, 30, 31, 32, 33, 34, 35, 36, 24, 37, 38, 39, 40, 45, 46, 47, 48, 49, 50, 51, 52, 53, 54, 55, 56, 57] (by decide +kernel) (by decide +kernel)
set_option maxRecDepth 20000 in
theorem gX6_grantOf_X6_grantValue : GoodIn wsX6_grantOf (wsV RX6 154 RX6 yX6_grantValue wsX6_grantValue) := goodIn_app (goodIn_of _ (by decide +kernel)) ggX6_grantOf_X6_grantValue
theorem dX6_grantOf_0 : decode cX6_grantOf 0 = .ok (.aload_n 0, 1) := by decide +kernel
theorem dX6_grantOf_1 : decode cX6_grantOf 1 = .ok (.iload_n 1, 1) := by decide +kernel
theorem dX6_grantOf_2 : decode cX6_grantOf 2 = .ok (.invokevirtual 116, 3) := by decide +kernel
theorem dX6_grantOf_5 : decode cX6_grantOf 5 = .ok (.istore_n 3, 1) := by decide +kernel
theorem dX6_grantOf_6 : decode cX6_grantOf 6 = .ok (.aload_n 0, 1) := by decide +kernel
theorem dX6_grantOf_7 : decode cX6_grantOf 7 = .ok (.iload_n 3, 1) := by decide +kernel
theorem dX6_grantOf_8 : decode cX6_grantOf 8 = .ok (.iconst (-1), 1) := by decide +kernel
theorem dX6_grantOf_9 : decode cX6_grantOf 9 = .ok (.if_icmp .eq 7, 3) := by decide +kernel
theorem dX6_grantOf_12 : decode cX6_grantOf 12 = .ok (.iconst 1, 1) := by decide +kernel
theorem dX6_grantOf_13 : decode cX6_grantOf 13 = .ok (.goto 4, 3) := by decide +kernel
theorem dX6_grantOf_16 : decode cX6_grantOf 16 = .ok (.iconst 0, 1) := by decide +kernel
theorem dX6_grantOf_17 : decode cX6_grantOf 17 = .ok (.iload_n 2, 1) := by decide +kernel
theorem dX6_grantOf_18 : decode cX6_grantOf 18 = .ok (.i2l, 1) := by decide +kernel
theorem dX6_grantOf_19 : decode cX6_grantOf 19 = .ok (.lconst 0, 1) := by decide +kernel
theorem dX6_grantOf_20 : decode cX6_grantOf 20 = .ok (.ldc2_w 149, 3) := by decide +kernel
theorem dX6_grantOf_23 : decode cX6_grantOf 23 = .ok (.invokestatic 40, 3) := by decide +kernel
theorem dX6_grantOf_26 : decode cX6_grantOf 26 = .ok (.iconst 1, 1) := by decide +kernel
theorem dX6_grantOf_27 : decode cX6_grantOf 27 = .ok (.invokevirtual 82, 3) := by decide +kernel
theorem dX6_grantOf_30 : decode cX6_grantOf 30 = .ok (.ifCond .ne 5, 3) := by decide +kernel
theorem dX6_grantOf_33 : decode cX6_grantOf 33 = .ok (.iconst 0, 1) := by decide +kernel
theorem dX6_grantOf_34 : decode cX6_grantOf 34 = .ok (.ireturn, 1) := by decide +kernel
theorem dX6_grantOf_35 : decode cX6_grantOf 35 = .ok (.aload_n 0, 1) := by decide +kernel
theorem dX6_grantOf_36 : decode cX6_grantOf 36 = .ok (.invokevirtual 67, 3) := by decide +kernel
theorem dX6_grantOf_39 : decode cX6_grantOf 39 = .ok (.aload_n 0, 1) := by decide +kernel
theorem dX6_grantOf_40 : decode cX6_grantOf 40 = .ok (.iload_n 3, 1) := by decide +kernel
theorem dX6_grantOf_41 : decode cX6_grantOf 41 = .ok (.iload_n 2, 1) := by decide +kernel
theorem dX6_grantOf_42 : decode cX6_grantOf 42 = .ok (.invokevirtual 154, 3) := by decide +kernel
theorem dX6_grantOf_45 : decode cX6_grantOf 45 = .ok (.ireturn, 1) := by decide +kernel
set_option maxRecDepth 20000 in
theorem ggX6_isLink_X6_of : GoodIn wsX6_isLink wsX6_of := goodIn_r _ [5, 6, 16, 17, 18, 19, 20, 21, 22, 23, 24, 25, 26, 27, 28] (by decide +kernel) (by decide +kernel)
set_option maxRecDepth 20000 in
theorem gX6_isLink_X6_of : GoodIn wsX6_isLink (wsV RX6 44 RX6 yX6_of wsX6_of) := goodIn_app (goodIn_of _ (by decide +kernel)) ggX6_isLink_X6_of
set_option maxRecDepth 20000 in
theorem ggX6_isLink_X6_holds : GoodIn wsX6_isLink wsX6_holds := goodIn_r _ [10, 11, 16, 17, 18, 19, 20, 21, 22, 23, 24, 25, 26, 27, 28] (by decide +kernel) (by decide +kernel)
set_option maxRecDepth 20000 in
theorem gX6_isLink_X6_holds : GoodIn wsX6_isLink (wsV RX6 55 RX6 yX6_holds wsX6_holds) := goodIn_app (goodIn_of _ (by decide +kernel)) ggX6_isLink_X6_holds
set_option maxRecDepth 20000 in
theorem ggX6_isLink_X6_mask : GoodIn wsX6_isLink wsX6_mask := goodIn_r _ [15, 6, 16, 17, 18, 19, 20, 21, 22, 23, 24, 25, 26, 27, 28] (by decide +kernel) (by decide +kernel)
set_option maxRecDepth 20000 in
theorem gX6_isLink_X6_mask : GoodIn wsX6_isLink (wsV RX6 57 RX6 yX6_mask wsX6_mask) := goodIn_app (goodIn_of _ (by decide +kernel)) ggX6_isLink_X6_mask
theorem dX6_isLink_0 : decode cX6_isLink 0 = .ok (.aload_n 0, 1) := by decide +kernel
theorem dX6_isLink_1 : decode cX6_isLink 1 = .ok (.iload_n 1, 1) := by decide +kernel
theorem dX6_isLink_2 : decode cX6_isLink 2 = .ok (.iconst 3, 1) := by decide +kernel
theorem dX6_isLink_3 : decode cX6_isLink 3 = .ok (.invokevirtual 44, 3) := by decide +kernel
theorem dX6_isLink_6 : decode cX6_isLink 6 = .ok (.iload_n 2, 1) := by decide +kernel
theorem dX6_isLink_7 : decode cX6_isLink 7 = .ok (.if_icmp .ne 45, 3) := by decide +kernel
theorem dX6_isLink_10 : decode cX6_isLink 10 = .ok (.aload_n 0, 1) := by decide +kernel
theorem dX6_isLink_11 : decode cX6_isLink 11 = .ok (.iload_n 1, 1) := by decide +kernel
theorem dX6_isLink_12 : decode cX6_isLink 12 = .ok (.iconst 4, 1) := by decide +kernel
theorem dX6_isLink_13 : decode cX6_isLink 13 = .ok (.invokevirtual 44, 3) := by decide +kernel
theorem dX6_isLink_16 : decode cX6_isLink 16 = .ok (.iconst 1, 1) := by decide +kernel
theorem dX6_isLink_17 : decode cX6_isLink 17 = .ok (.iand, 1) := by decide +kernel
theorem dX6_isLink_18 : decode cX6_isLink 18 = .ok (.ifCond .eq 34, 3) := by decide +kernel
theorem dX6_isLink_21 : decode cX6_isLink 21 = .ok (.aload_n 0, 1) := by decide +kernel
theorem dX6_isLink_22 : decode cX6_isLink 22 = .ok (.aload_n 0, 1) := by decide +kernel
theorem dX6_isLink_23 : decode cX6_isLink 23 = .ok (.iload_n 1, 1) := by decide +kernel
theorem dX6_isLink_24 : decode cX6_isLink 24 = .ok (.iconst 1, 1) := by decide +kernel
theorem dX6_isLink_25 : decode cX6_isLink 25 = .ok (.invokevirtual 44, 3) := by decide +kernel
theorem dX6_isLink_28 : decode cX6_isLink 28 = .ok (.iload_n 2, 1) := by decide +kernel
theorem dX6_isLink_29 : decode cX6_isLink 29 = .ok (.invokevirtual 55, 3) := by decide +kernel
theorem dX6_isLink_32 : decode cX6_isLink 32 = .ok (.iconst 5, 1) := by decide +kernel
theorem dX6_isLink_33 : decode cX6_isLink 33 = .ok (.iand, 1) := by decide +kernel
theorem dX6_isLink_34 : decode cX6_isLink 34 = .ok (.iconst 5, 1) := by decide +kernel
theorem dX6_isLink_35 : decode cX6_isLink 35 = .ok (.if_icmp .ne 17, 3) := by decide +kernel
theorem dX6_isLink_38 : decode cX6_isLink 38 = .ok (.aload_n 0, 1) := by decide +kernel
theorem dX6_isLink_39 : decode cX6_isLink 39 = .ok (.iload_n 2, 1) := by decide +kernel
theorem dX6_isLink_40 : decode cX6_isLink 40 = .ok (.invokevirtual 57, 3) := by decide +kernel
theorem dX6_isLink_43 : decode cX6_isLink 43 = .ok (.iconst 1, 1) := by decide +kernel
theorem dX6_isLink_44 : decode cX6_isLink 44 = .ok (.iand, 1) := by decide +kernel
theorem dX6_isLink_45 : decode cX6_isLink 45 = .ok (.ifCond .eq 7, 3) := by decide +kernel
theorem dX6_isLink_48 : decode cX6_isLink 48 = .ok (.iconst 1, 1) := by decide +kernel
theorem dX6_isLink_49 : decode cX6_isLink 49 = .ok (.goto 4, 3) := by decide +kernel
theorem dX6_isLink_52 : decode cX6_isLink 52 = .ok (.iconst 0, 1) := by decide +kernel
theorem dX6_isLink_53 : decode cX6_isLink 53 = .ok (.ireturn, 1) := by decide +kernel
set_option maxRecDepth 20000 in
theorem ggX6_measure_X6_owner : GoodIn wsX6_measure wsX6_owner := goodIn_r _ [7, 2, 25, 26, 27, 28, 29, 30, 31, 32, 33, 34, 35, 36, 37] (by decide +kernel) (by decide +kernel)
set_option maxRecDepth 20000 in
theorem gX6_measure_X6_owner : GoodIn wsX6_measure (wsV RX6 61 RX6 yX6_owner wsX6_owner) := goodIn_app (goodIn_of _ (by decide +kernel)) ggX6_measure_X6_owner
set_option maxRecDepth 20000 in
theorem ggX6_measure_X6_isLink : GoodIn wsX6_measure wsX6_isLink := goodIn_r _ [11, 12, 13, 14, 6, 15, 2, 16, 17, 18, 19, 20, 21, 22, 23, 24, 25, 26, 27, 28, 29, 30, 31, 32, 33, 34, 35, 36, 37] (by decide +kernel) (by decide +kernel)
set_option maxRecDepth 20000 in
theorem gX6_measure_X6_isLink : GoodIn wsX6_measure (wsV RX6 157 RX6 yX6_isLink wsX6_isLink) := goodIn_app (goodIn_of _ (by decide +kernel)) ggX6_measure_X6_isLink
set_option maxRecDepth 20000 in
theorem ggX6_measure_X6_of : GoodIn wsX6_measure wsX6_of := goodIn_r _ [15, 2, 25, 26, 27, 28, 29, 30, 31, 32, 33, 34, 35, 36, 37] (by decide +kernel) (by decide +kernel)
set_option maxRecDepth 20000 in
theorem gX6_measure_X6_of : GoodIn wsX6_measure (wsV RX6 44 RX6 yX6_of wsX6_of) := goodIn_app (goodIn_of _ (by decide +kernel)) ggX6_measure_X6_of
theorem dX6_measure_0 : decode cX6_measure 0 = .ok (.iconst 0, 1) := by decide +kernel
theorem dX6_measure_1 : decode cX6_measure 1 = .ok (.istore_n 2, 1) := by decide +kernel
theorem dX6_measure_2 : decode cX6_measure 2 = .ok (.iload_n 2, 1) := by decide +kernel
theorem dX6_measure_3 : decode cX6_measure 3 = .ok (.bipush 10, 2) := by decide +kernel
theorem dX6_measure_5 : decode cX6_measure 5 = .ok (.if_icmp .ge 29, 3) := by decide +kernel
theorem dX6_measure_8 : decode cX6_measure 8 = .ok (.aload_n 0, 1) := by decide +kernel
theorem dX6_measure_9 : decode cX6_measure 9 = .ok (.getfield 22, 3) := by decide +kernel
theorem dX6_measure_12 : decode cX6_measure 12 = .ok (.iload_n 2, 1) := by decide +kernel
theorem dX6_measure_13 : decode cX6_measure 13 = .ok (.iload_n 2, 1) := by decide +kernel
theorem dX6_measure_14 : decode cX6_measure 14 = .ok (.aload_n 0, 1) := by decide +kernel
theorem dX6_measure_15 : decode cX6_measure 15 = .ok (.iload_n 1, 1) := by decide +kernel
theorem dX6_measure_16 : decode cX6_measure 16 = .ok (.invokevirtual 61, 3) := by decide +kernel
theorem dX6_measure_19 : decode cX6_measure 19 = .ok (.if_icmp .ne 7, 3) := by decide +kernel
theorem dX6_measure_22 : decode cX6_measure 22 = .ok (.iconst 0, 1) := by decide +kernel
theorem dX6_measure_23 : decode cX6_measure 23 = .ok (.goto 4, 3) := by decide +kernel
theorem dX6_measure_26 : decode cX6_measure 26 = .ok (.iconst (-1), 1) := by decide +kernel
theorem dX6_measure_27 : decode cX6_measure 27 = .ok (.iastore, 1) := by decide +kernel
theorem dX6_measure_28 : decode cX6_measure 28 = .ok (.iinc 2 1, 3) := by decide +kernel
theorem dX6_measure_31 : decode cX6_measure 31 = .ok (.goto (-29), 3) := by decide +kernel
theorem dX6_measure_34 : decode cX6_measure 34 = .ok (.iconst 0, 1) := by decide +kernel
theorem dX6_measure_35 : decode cX6_measure 35 = .ok (.istore_n 2, 1) := by decide +kernel
theorem dX6_measure_36 : decode cX6_measure 36 = .ok (.iload_n 2, 1) := by decide +kernel
theorem dX6_measure_37 : decode cX6_measure 37 = .ok (.bipush 10, 2) := by decide +kernel
theorem dX6_measure_39 : decode cX6_measure 39 = .ok (.if_icmp .ge 106, 3) := by decide +kernel
theorem dX6_measure_42 : decode cX6_measure 42 = .ok (.iconst 0, 1) := by decide +kernel
theorem dX6_measure_43 : decode cX6_measure 43 = .ok (.istore_n 3, 1) := by decide +kernel
theorem dX6_measure_44 : decode cX6_measure 44 = .ok (.iload_n 3, 1) := by decide +kernel
theorem dX6_measure_45 : decode cX6_measure 45 = .ok (.aload_n 0, 1) := by decide +kernel
theorem dX6_measure_46 : decode cX6_measure 46 = .ok (.getfield 7, 3) := by decide +kernel
theorem dX6_measure_49 : decode cX6_measure 49 = .ok (.iconst 5, 1) := by decide +kernel
theorem dX6_measure_50 : decode cX6_measure 50 = .ok (.iaload, 1) := by decide +kernel
theorem dX6_measure_51 : decode cX6_measure 51 = .ok (.if_icmp .ge 88, 3) := by decide +kernel
theorem dX6_measure_54 : decode cX6_measure 54 = .ok (.aload_n 0, 1) := by decide +kernel
theorem dX6_measure_55 : decode cX6_measure 55 = .ok (.iload_n 3, 1) := by decide +kernel
theorem dX6_measure_56 : decode cX6_measure 56 = .ok (.iload_n 1, 1) := by decide +kernel
theorem dX6_measure_57 : decode cX6_measure 57 = .ok (.invokevirtual 157, 3) := by decide +kernel
theorem dX6_measure_60 : decode cX6_measure 60 = .ok (.ifCond .eq 37, 3) := by decide +kernel
theorem dX6_measure_63 : decode cX6_measure 63 = .ok (.aload_n 0, 1) := by decide +kernel
theorem dX6_measure_64 : decode cX6_measure 64 = .ok (.getfield 22, 3) := by decide +kernel
theorem dX6_measure_67 : decode cX6_measure 67 = .ok (.aload_n 0, 1) := by decide +kernel
theorem dX6_measure_68 : decode cX6_measure 68 = .ok (.iload_n 3, 1) := by decide +kernel
theorem dX6_measure_69 : decode cX6_measure 69 = .ok (.iconst 1, 1) := by decide +kernel
theorem dX6_measure_70 : decode cX6_measure 70 = .ok (.invokevirtual 44, 3) := by decide +kernel
theorem dX6_measure_73 : decode cX6_measure 73 = .ok (.iaload, 1) := by decide +kernel
theorem dX6_measure_74 : decode cX6_measure 74 = .ok (.iload_n 2, 1) := by decide +kernel
theorem dX6_measure_75 : decode cX6_measure 75 = .ok (.if_icmp .ne 22, 3) := by decide +kernel
theorem dX6_measure_78 : decode cX6_measure 78 = .ok (.aload_n 0, 1) := by decide +kernel
theorem dX6_measure_79 : decode cX6_measure 79 = .ok (.getfield 22, 3) := by decide +kernel
theorem dX6_measure_82 : decode cX6_measure 82 = .ok (.aload_n 0, 1) := by decide +kernel
theorem dX6_measure_83 : decode cX6_measure 83 = .ok (.iload_n 3, 1) := by decide +kernel
theorem dX6_measure_84 : decode cX6_measure 84 = .ok (.iconst 2, 1) := by decide +kernel
theorem dX6_measure_85 : decode cX6_measure 85 = .ok (.invokevirtual 44, 3) := by decide +kernel
theorem dX6_measure_88 : decode cX6_measure 88 = .ok (.iaload, 1) := by decide +kernel
theorem dX6_measure_89 : decode cX6_measure 89 = .ok (.iconst (-1), 1) := by decide +kernel
theorem dX6_measure_90 : decode cX6_measure 90 = .ok (.if_icmp .ne 7, 3) := by decide +kernel
theorem dX6_measure_93 : decode cX6_measure 93 = .ok (.iconst 1, 1) := by decide +kernel
theorem dX6_measure_94 : decode cX6_measure 94 = .ok (.goto 4, 3) := by decide +kernel
theorem dX6_measure_97 : decode cX6_measure 97 = .ok (.iconst 0, 1) := by decide +kernel
theorem dX6_measure_98 : decode cX6_measure 98 = .ok (.istore 4, 2) := by decide +kernel
theorem dX6_measure_100 : decode cX6_measure 100 = .ok (.aload_n 0, 1) := by decide +kernel
theorem dX6_measure_101 : decode cX6_measure 101 = .ok (.getfield 22, 3) := by decide +kernel
theorem dX6_measure_104 : decode cX6_measure 104 = .ok (.aload_n 0, 1) := by decide +kernel
theorem dX6_measure_105 : decode cX6_measure 105 = .ok (.iload_n 3, 1) := by decide +kernel
theorem dX6_measure_106 : decode cX6_measure 106 = .ok (.iconst 2, 1) := by decide +kernel
theorem dX6_measure_107 : decode cX6_measure 107 = .ok (.invokevirtual 44, 3) := by decide +kernel
theorem dX6_measure_110 : decode cX6_measure 110 = .ok (.iload 4, 2) := by decide +kernel
theorem dX6_measure_112 : decode cX6_measure 112 = .ok (.ifCond .eq 9, 3) := by decide +kernel
theorem dX6_measure_115 : decode cX6_measure 115 = .ok (.iload_n 2, 1) := by decide +kernel
theorem dX6_measure_116 : decode cX6_measure 116 = .ok (.iconst 1, 1) := by decide +kernel
theorem dX6_measure_117 : decode cX6_measure 117 = .ok (.iadd, 1) := by decide +kernel
theorem dX6_measure_118 : decode cX6_measure 118 = .ok (.goto 14, 3) := by decide +kernel
theorem dX6_measure_121 : decode cX6_measure 121 = .ok (.aload_n 0, 1) := by decide +kernel
theorem dX6_measure_122 : decode cX6_measure 122 = .ok (.getfield 22, 3) := by decide +kernel
theorem dX6_measure_125 : decode cX6_measure 125 = .ok (.aload_n 0, 1) := by decide +kernel
theorem dX6_measure_126 : decode cX6_measure 126 = .ok (.iload_n 3, 1) := by decide +kernel
theorem dX6_measure_127 : decode cX6_measure 127 = .ok (.iconst 2, 1) := by decide +kernel
theorem dX6_measure_128 : decode cX6_measure 128 = .ok (.invokevirtual 44, 3) := by decide +kernel
theorem dX6_measure_131 : decode cX6_measure 131 = .ok (.iaload, 1) := by decide +kernel
theorem dX6_measure_132 : decode cX6_measure 132 = .ok (.iastore, 1) := by decide +kernel
theorem dX6_measure_133 : decode cX6_measure 133 = .ok (.iinc 3 1, 3) := by decide +kernel
theorem dX6_measure_136 : decode cX6_measure 136 = .ok (.goto (-92), 3) := by decide +kernel
theorem dX6_measure_139 : decode cX6_measure 139 = .ok (.iinc 2 1, 3) := by decide +kernel
theorem dX6_measure_142 : decode cX6_measure 142 = .ok (.goto (-106), 3) := by decide +kernel
theorem dX6_measure_145 : decode cX6_measure 145 = .ok (.return_, 1) := by decide +kernel
set_option maxRecDepth 20000 in
theorem ggX6_chainOf_X6_measure : GoodIn wsX6_chainOf wsX6_measure := goodIn_r _ [6, 1, 7, 8, 9, 10, 5, 11, 12, 13, 14, 15, 16, 17, 18, 19, 20, 21, 22, 23, 24, 25, 26, 27, 28, 29, 30, 31, 32, 33, 34, 35, 36, 37, 38, 39, 40, 41] (by decide +kernel) (by decide +kernel)
set_option maxRecDepth 20000 in
theorem gX6_chainOf_X6_measure : GoodIn wsX6_chainOf (wsV RX6 161 RX6 yX6_measure wsX6_measure) := goodIn_app (goodIn_of _ (by decide +kernel)) ggX6_chainOf_X6_measure
theorem dX6_chainOf_0 : decode cX6_chainOf 0 = .ok (.aload_n 0, 1) := by decide +kernel
theorem dX6_chainOf_1 : decode cX6_chainOf 1 = .ok (.iload_n 2, 1) := by decide +kernel
theorem dX6_chainOf_2 : decode cX6_chainOf 2 = .ok (.invokevirtual 161, 3) := by decide +kernel
theorem dX6_chainOf_5 : decode cX6_chainOf 5 = .ok (.aload_n 0, 1) := by decide +kernel
theorem dX6_chainOf_6 : decode cX6_chainOf 6 = .ok (.getfield 22, 3) := by decide +kernel
theorem dX6_chainOf_9 : decode cX6_chainOf 9 = .ok (.iload_n 1, 1) := by decide +kernel
theorem dX6_chainOf_10 : decode cX6_chainOf 10 = .ok (.iaload, 1) := by decide +kernel
theorem dX6_chainOf_11 : decode cX6_chainOf 11 = .ok (.ireturn, 1) := by decide +kernel
set_option maxRecDepth 20000 in
theorem ggX6_chain_X6_isPerson : GoodIn wsX6_chain wsX6_isPerson := goodIn_r _ [4, 5, 6, 7, 3, 8] (by decide +kernel) (by decide +kernel)
set_option maxRecDepth 20000 in
theorem gX6_chain_X6_isPerson : GoodIn wsX6_chain (va_wsS RX6 76 yX6_isPerson wsX6_isPerson) := goodIn_app (goodIn_of _ (by decide +kernel)) ggX6_chain_X6_isPerson
set_option maxRecDepth 20000 in
theorem ggX6_chain_X6_isThing : GoodIn wsX6_chain wsX6_isThing := goodIn_r _ [12, 13, 6, 7, 3, 8, 57, 58, 59, 60, 61, 62, 63, 64, 65, 66, 67, 68, 69] (by decide +kernel) (by decide +kernel)
set_option maxRecDepth 20000 in
theorem gX6_chain_X6_isThing : GoodIn wsX6_chain (wsV RX6 89 RX6 yX6_isThing wsX6_isThing) := goodIn_app (goodIn_of _ (by decide +kernel)) ggX6_chain_X6_isThing
set_option maxRecDepth 20000 in
theorem ggX6_chain_X6_goes : GoodIn wsX6_chain wsX6_goes := goodIn_r _ [17, 18, 57, 58, 59, 60, 61, 62, 63, 64, 65, 66, 67, 68, 69] (by decide +kernel) (by decide +kernel)
set_option maxRecDepth 20000 in
theorem gX6_chain_X6_goes : GoodIn wsX6_chain (wsV RX6 82 RX6 yX6_goes wsX6_goes) := goodIn_app (goodIn_of _ (by decide +kernel)) ggX6_chain_X6_goes
set_option maxRecDepth 20000 in
theorem ggX6_chain_X6_lay : GoodIn wsX6_chain wsX6_lay := goodIn_r _ [22, 23, 13, 24, 25, 26, 3, 27, 28, 29, 30, 31, 32, 33, 34, 35, 36, 37, 38, 39, 40, 41, 42, 43, 57, 58, 59, 60, 61, 62, 63, 64, 65, 66, 67, 68, 69] (by decide +kernel) (by decide +kernel)
set_option maxRecDepth 20000 in
theorem gX6_chain_X6_lay : GoodIn wsX6_chain (wsV RX6 67 RX6 yX6_lay wsX6_lay) := goodIn_app (goodIn_of _ (by decide +kernel)) ggX6_chain_X6_lay
set_option maxRecDepth 20000 in
theorem ggX6_chain_X6_chainOf : GoodIn wsX6_chain wsX6_chainOf := goodIn_r _ [47, 48, 49, 50, 51, 3, 52, 13, 24, 25, 26, 27, 53, 54, 55, 56, 28, 29, 30, 31, 36, 37, 38, 39, 23, 40, 41, 42, 43, 57, 58, 59, 60, 61, 62, 63, 64, 65, 66, 67, 68, 69] (by decide +kernel) (by decide +kernel)
set_option maxRecDepth 20000 in
theorem gX6_chain_X6_chainOf : GoodIn wsX6_chain (wsV RX6 164 RX6 yX6_chainOf wsX6_chainOf) := goodIn_app (goodIn_of _ (by decide +kernel)) ggX6_chain_X6_chainOf
theorem dX6_chain_0 : decode cX6_chain 0 = .ok (.aload_n 0, 1) := by decide +kernel
theorem dX6_chain_1 : decode cX6_chain 1 = .ok (.iload_n 1, 1) := by decide +kernel
theorem dX6_chain_2 : decode cX6_chain 2 = .ok (.invokestatic 76, 3) := by decide +kernel
theorem dX6_chain_5 : decode cX6_chain 5 = .ok (.ifCond .eq 15, 3) := by decide +kernel
theorem dX6_chain_8 : decode cX6_chain 8 = .ok (.aload_n 0, 1) := by decide +kernel
theorem dX6_chain_9 : decode cX6_chain 9 = .ok (.iload_n 2, 1) := by decide +kernel
theorem dX6_chain_10 : decode cX6_chain 10 = .ok (.invokevirtual 89, 3) := by decide +kernel
theorem dX6_chain_13 : decode cX6_chain 13 = .ok (.ifCond .eq 7, 3) := by decide +kernel
theorem dX6_chain_16 : decode cX6_chain 16 = .ok (.iconst 1, 1) := by decide +kernel
theorem dX6_chain_17 : decode cX6_chain 17 = .ok (.goto 4, 3) := by decide +kernel
theorem dX6_chain_20 : decode cX6_chain 20 = .ok (.iconst 0, 1) := by decide +kernel
theorem dX6_chain_21 : decode cX6_chain 21 = .ok (.iconst 1, 1) := by decide +kernel
theorem dX6_chain_22 : decode cX6_chain 22 = .ok (.iconst 1, 1) := by decide +kernel
theorem dX6_chain_23 : decode cX6_chain 23 = .ok (.invokevirtual 82, 3) := by decide +kernel
theorem dX6_chain_26 : decode cX6_chain 26 = .ok (.ifCond .ne 5, 3) := by decide +kernel
theorem dX6_chain_29 : decode cX6_chain 29 = .ok (.iconst 0, 1) := by decide +kernel
theorem dX6_chain_30 : decode cX6_chain 30 = .ok (.ireturn, 1) := by decide +kernel
theorem dX6_chain_31 : decode cX6_chain 31 = .ok (.aload_n 0, 1) := by decide +kernel
theorem dX6_chain_32 : decode cX6_chain 32 = .ok (.invokevirtual 67, 3) := by decide +kernel
theorem dX6_chain_35 : decode cX6_chain 35 = .ok (.aload_n 0, 1) := by decide +kernel
theorem dX6_chain_36 : decode cX6_chain 36 = .ok (.iload_n 1, 1) := by decide +kernel
theorem dX6_chain_37 : decode cX6_chain 37 = .ok (.iload_n 2, 1) := by decide +kernel
theorem dX6_chain_38 : decode cX6_chain 38 = .ok (.invokevirtual 164, 3) := by decide +kernel
theorem dX6_chain_41 : decode cX6_chain 41 = .ok (.ireturn, 1) := by decide +kernel
set_option maxRecDepth 20000 in
theorem ggX6_lastLink_X6_isLink : GoodIn wsX6_lastLink wsX6_isLink := goodIn_r _ [7, 8, 9, 10, 6, 11, 1, 12, 13, 14, 15, 16, 17, 18, 19, 20, 21, 22, 23, 24, 25, 26, 27, 28, 29, 30, 31, 32, 33] (by decide +kernel) (by decide +kernel)
set_option maxRecDepth 20000 in
theorem gX6_lastLink_X6_isLink : GoodIn wsX6_lastLink (wsV RX6 157 RX6 yX6_isLink wsX6_isLink) := goodIn_app (goodIn_of _ (by decide +kernel)) ggX6_lastLink_X6_isLink
set_option maxRecDepth 20000 in
theorem ggX6_lastLink_X6_of : GoodIn wsX6_lastLink wsX6_of := goodIn_r _ [11, 1, 21, 22, 23, 24, 25, 26, 27, 28, 29, 30, 31, 32, 33] (by decide +kernel) (by decide +kernel)
set_option maxRecDepth 20000 in
theorem gX6_lastLink_X6_of : GoodIn wsX6_lastLink (wsV RX6 44 RX6 yX6_of wsX6_of) := goodIn_app (goodIn_of _ (by decide +kernel)) ggX6_lastLink_X6_of
theorem dX6_lastLink_0 : decode cX6_lastLink 0 = .ok (.iconst 0, 1) := by decide +kernel
theorem dX6_lastLink_1 : decode cX6_lastLink 1 = .ok (.istore_n 3, 1) := by decide +kernel
theorem dX6_lastLink_2 : decode cX6_lastLink 2 = .ok (.iload_n 3, 1) := by decide +kernel
theorem dX6_lastLink_3 : decode cX6_lastLink 3 = .ok (.aload_n 0, 1) := by decide +kernel
theorem dX6_lastLink_4 : decode cX6_lastLink 4 = .ok (.getfield 7, 3) := by decide +kernel
theorem dX6_lastLink_7 : decode cX6_lastLink 7 = .ok (.iconst 5, 1) := by decide +kernel
theorem dX6_lastLink_8 : decode cX6_lastLink 8 = .ok (.iaload, 1) := by decide +kernel
theorem dX6_lastLink_9 : decode cX6_lastLink 9 = .ok (.if_icmp .ge 52, 3) := by decide +kernel
theorem dX6_lastLink_12 : decode cX6_lastLink 12 = .ok (.aload_n 0, 1) := by decide +kernel
theorem dX6_lastLink_13 : decode cX6_lastLink 13 = .ok (.iload_n 3, 1) := by decide +kernel
theorem dX6_lastLink_14 : decode cX6_lastLink 14 = .ok (.iload_n 2, 1) := by decide +kernel
theorem dX6_lastLink_15 : decode cX6_lastLink 15 = .ok (.invokevirtual 157, 3) := by decide +kernel
theorem dX6_lastLink_18 : decode cX6_lastLink 18 = .ok (.ifCond .eq 37, 3) := by decide +kernel
theorem dX6_lastLink_21 : decode cX6_lastLink 21 = .ok (.aload_n 0, 1) := by decide +kernel
theorem dX6_lastLink_22 : decode cX6_lastLink 22 = .ok (.iload_n 3, 1) := by decide +kernel
theorem dX6_lastLink_23 : decode cX6_lastLink 23 = .ok (.iconst 2, 1) := by decide +kernel
theorem dX6_lastLink_24 : decode cX6_lastLink 24 = .ok (.invokevirtual 44, 3) := by decide +kernel
theorem dX6_lastLink_27 : decode cX6_lastLink 27 = .ok (.iload_n 1, 1) := by decide +kernel
theorem dX6_lastLink_28 : decode cX6_lastLink 28 = .ok (.if_icmp .ne 27, 3) := by decide +kernel
theorem dX6_lastLink_31 : decode cX6_lastLink 31 = .ok (.aload_n 0, 1) := by decide +kernel
theorem dX6_lastLink_32 : decode cX6_lastLink 32 = .ok (.getfield 22, 3) := by decide +kernel
theorem dX6_lastLink_35 : decode cX6_lastLink 35 = .ok (.aload_n 0, 1) := by decide +kernel
theorem dX6_lastLink_36 : decode cX6_lastLink 36 = .ok (.iload_n 3, 1) := by decide +kernel
theorem dX6_lastLink_37 : decode cX6_lastLink 37 = .ok (.iconst 1, 1) := by decide +kernel
theorem dX6_lastLink_38 : decode cX6_lastLink 38 = .ok (.invokevirtual 44, 3) := by decide +kernel
theorem dX6_lastLink_41 : decode cX6_lastLink 41 = .ok (.iaload, 1) := by decide +kernel
theorem dX6_lastLink_42 : decode cX6_lastLink 42 = .ok (.aload_n 0, 1) := by decide +kernel
theorem dX6_lastLink_43 : decode cX6_lastLink 43 = .ok (.getfield 22, 3) := by decide +kernel
theorem dX6_lastLink_46 : decode cX6_lastLink 46 = .ok (.iload_n 1, 1) := by decide +kernel
theorem dX6_lastLink_47 : decode cX6_lastLink 47 = .ok (.iaload, 1) := by decide +kernel
theorem dX6_lastLink_48 : decode cX6_lastLink 48 = .ok (.iconst 1, 1) := by decide +kernel
theorem dX6_lastLink_49 : decode cX6_lastLink 49 = .ok (.isub, 1) := by decide +kernel
theorem dX6_lastLink_50 : decode cX6_lastLink 50 = .ok (.if_icmp .ne 5, 3) := by decide +kernel
theorem dX6_lastLink_53 : decode cX6_lastLink 53 = .ok (.iload_n 3, 1) := by decide +kernel
theorem dX6_lastLink_54 : decode cX6_lastLink 54 = .ok (.ireturn, 1) := by decide +kernel
theorem dX6_lastLink_55 : decode cX6_lastLink 55 = .ok (.iinc 3 1, 3) := by decide +kernel
theorem dX6_lastLink_58 : decode cX6_lastLink 58 = .ok (.goto (-56), 3) := by decide +kernel
theorem dX6_lastLink_61 : decode cX6_lastLink 61 = .ok (.iconst (-1), 1) := by decide +kernel
theorem dX6_lastLink_62 : decode cX6_lastLink 62 = .ok (.ireturn, 1) := by decide +kernel
set_option maxRecDepth 20000 in
theorem ggX6_link_X6_isPerson : GoodIn wsX6_link wsX6_isPerson := goodIn_r _ [4, 5, 6, 7, 3, 8] (by decide +kernel) (by decide +kernel)
set_option maxRecDepth 20000 in
theorem gX6_link_X6_isPerson : GoodIn wsX6_link (va_wsS RX6 76 yX6_isPerson wsX6_isPerson) := goodIn_app (goodIn_of _ (by decide +kernel)) ggX6_link_X6_isPerson
set_option maxRecDepth 20000 in
theorem ggX6_link_X6_isThing : GoodIn wsX6_link wsX6_isThing := goodIn_r _ [12, 13, 6, 7, 3, 8, 61, 62, 63, 64, 65, 66, 67, 68, 69, 70, 71, 72, 73] (by decide +kernel) (by decide +kernel)
set_option maxRecDepth 20000 in
theorem gX6_link_X6_isThing : GoodIn wsX6_link (wsV RX6 89 RX6 yX6_isThing wsX6_isThing) := goodIn_app (goodIn_of _ (by decide +kernel)) ggX6_link_X6_isThing
set_option maxRecDepth 20000 in
theorem ggX6_link_X6_lay : GoodIn wsX6_link wsX6_lay := goodIn_r _ [17, 18, 13, 19, 20, 21, 3, 22, 23, 24, 25, 26, 27, 28, 29, 30, 31, 32, 33, 34, 35, 36, 37, 38, 61, 62, 63, 64, 65, 66, 67, 68, 69, 70, 71, 72, 73] (by decide +kernel) (by decide +kernel)
set_option maxRecDepth 20000 in
theorem gX6_link_X6_lay : GoodIn wsX6_link (wsV RX6 67 RX6 yX6_lay wsX6_lay) := goodIn_app (goodIn_of _ (by decide +kernel)) ggX6_link_X6_lay
set_option maxRecDepth 20000 in
theorem ggX6_link_X6_chainOf : GoodIn wsX6_link wsX6_chainOf := goodIn_r _ [42, 43, 44, 45, 46, 3, 47, 13, 19, 20, 21, 22, 48, 49, 50, 51, 23, 24, 25, 26, 31, 32, 33, 34, 18, 35, 36, 37, 38, 61, 62, 63, 64, 65, 66, 67, 68, 69, 70, 71, 72, 73] (by decide +kernel) (by decide +kernel)
set_option maxRecDepth 20000 in
theorem gX6_link_X6_chainOf : GoodIn wsX6_link (wsV RX6 164 RX6 yX6_chainOf wsX6_chainOf) := goodIn_app (goodIn_of _ (by decide +kernel)) ggX6_link_X6_chainOf
set_option maxRecDepth 20000 in
theorem ggX6_link_X6_in : GoodIn wsX6_link wsX6_in := goodIn_r _ [8] (by decide +kernel) (by decide +kernel)
set_option maxRecDepth 20000 in
theorem gX6_link_X6_in : GoodIn wsX6_link (va_wsS RX6 40 yX6_in wsX6_in) := goodIn_app (goodIn_of _ (by decide +kernel)) ggX6_link_X6_in
set_option maxRecDepth 20000 in
theorem ggX6_link_X6_goes : GoodIn wsX6_link wsX6_goes := goodIn_r _ [55, 56, 61, 62, 63, 64, 65, 66, 67, 68, 69, 70, 71, 72, 73] (by decide +kernel) (by decide +kernel)
set_option maxRecDepth 20000 in
theorem gX6_link_X6_goes : GoodIn wsX6_link (wsV RX6 82 RX6 yX6_goes wsX6_goes) := goodIn_app (goodIn_of _ (by decide +kernel)) ggX6_link_X6_goes
set_option maxRecDepth 20000 in
theorem ggX6_link_X6_lastLink : GoodIn wsX6_link wsX6_lastLink := goodIn_r _ [60, 13, 43, 48, 49, 50, 3, 51, 23, 24, 25, 26, 31, 32, 33, 34, 18, 35, 36, 37, 38, 61, 62, 63, 64, 65, 66, 67, 68, 69, 70, 71, 72, 73] (by decide +kernel) (by decide +kernel)
set_option maxRecDepth 20000 in
theorem gX6_link_X6_lastLink : GoodIn wsX6_link (wsV RX6 167 RX6 yX6_lastLink wsX6_lastLink) := goodIn_app (goodIn_of _ (by decide +kernel)) ggX6_link_X6_lastLink
set_option maxRecDepth 20000 in
theorem ggX6_link_X6_of : GoodIn wsX6_link wsX6_of := goodIn_r _ [26, 13, 61, 62, 63, 64, 65, 66, 67, 68, 69, 70, 71, 72, 73] (by decide +kernel) (by decide +kernel)
set_option maxRecDepth 20000 in
theorem gX6_link_X6_of : GoodIn wsX6_link (wsV RX6 44 RX6 yX6_of wsX6_of) := goodIn_app (goodIn_of _ (by decide +kernel)) ggX6_link_X6_of
theorem dX6_link_0 : decode cX6_link 0 = .ok (.iload_n 1, 1) := by decide +kernel
theorem dX6_link_1 : decode cX6_link 1 = .ok (.invokestatic 76, 3) := by decide +kernel
theorem dX6_link_4 : decode cX6_link 4 = .ok (.ifCond .eq 15, 3) := by decide +kernel
theorem dX6_link_7 : decode cX6_link 7 = .ok (.aload_n 0, 1) := by decide +kernel
theorem dX6_link_8 : decode cX6_link 8 = .ok (.iload_n 2, 1) := by decide +kernel
theorem dX6_link_9 : decode cX6_link 9 = .ok (.invokevirtual 89, 3) := by decide +kernel
theorem dX6_link_12 : decode cX6_link 12 = .ok (.ifCond .eq 7, 3) := by decide +kernel
theorem dX6_link_15 : decode cX6_link 15 = .ok (.iconst 1, 1) := by decide +kernel
theorem dX6_link_16 : decode cX6_link 16 = .ok (.goto 4, 3) := by decide +kernel
theorem dX6_link_19 : decode cX6_link 19 = .ok (.iconst 0, 1) := by decide +kernel
theorem dX6_link_20 : decode cX6_link 20 = .ok (.istore 4, 2) := by decide +kernel
theorem dX6_link_22 : decode cX6_link 22 = .ok (.iconst 0, 1) := by decide +kernel
theorem dX6_link_23 : decode cX6_link 23 = .ok (.istore 5, 2) := by decide +kernel
theorem dX6_link_25 : decode cX6_link 25 = .ok (.iload 4, 2) := by decide +kernel
theorem dX6_link_27 : decode cX6_link 27 = .ok (.ifCond .eq 15, 3) := by decide +kernel
theorem dX6_link_30 : decode cX6_link 30 = .ok (.aload_n 0, 1) := by decide +kernel
theorem dX6_link_31 : decode cX6_link 31 = .ok (.invokevirtual 67, 3) := by decide +kernel
theorem dX6_link_34 : decode cX6_link 34 = .ok (.aload_n 0, 1) := by decide +kernel
theorem dX6_link_35 : decode cX6_link 35 = .ok (.iload_n 1, 1) := by decide +kernel
theorem dX6_link_36 : decode cX6_link 36 = .ok (.iload_n 2, 1) := by decide +kernel
theorem dX6_link_37 : decode cX6_link 37 = .ok (.invokevirtual 164, 3) := by decide +kernel
theorem dX6_link_40 : decode cX6_link 40 = .ok (.istore 5, 2) := by decide +kernel
theorem dX6_link_42 : decode cX6_link 42 = .ok (.aload_n 0, 1) := by decide +kernel
theorem dX6_link_43 : decode cX6_link 43 = .ok (.iload 4, 2) := by decide +kernel
theorem dX6_link_45 : decode cX6_link 45 = .ok (.ifCond .eq 21, 3) := by decide +kernel
theorem dX6_link_48 : decode cX6_link 48 = .ok (.iload_n 3, 1) := by decide +kernel
theorem dX6_link_49 : decode cX6_link 49 = .ok (.i2l, 1) := by decide +kernel
theorem dX6_link_50 : decode cX6_link 50 = .ok (.lconst 0, 1) := by decide +kernel
theorem dX6_link_51 : decode cX6_link 51 = .ok (.iload 5, 2) := by decide +kernel
theorem dX6_link_53 : decode cX6_link 53 = .ok (.i2l, 1) := by decide +kernel
theorem dX6_link_54 : decode cX6_link 54 = .ok (.lconst 1, 1) := by decide +kernel
theorem dX6_link_55 : decode cX6_link 55 = .ok (.lsub, 1) := by decide +kernel
theorem dX6_link_56 : decode cX6_link 56 = .ok (.invokestatic 40, 3) := by decide +kernel
theorem dX6_link_59 : decode cX6_link 59 = .ok (.ifCond .eq 7, 3) := by decide +kernel
theorem dX6_link_62 : decode cX6_link 62 = .ok (.iconst 1, 1) := by decide +kernel
theorem dX6_link_63 : decode cX6_link 63 = .ok (.goto 4, 3) := by decide +kernel
theorem dX6_link_66 : decode cX6_link 66 = .ok (.iconst 0, 1) := by decide +kernel
theorem dX6_link_67 : decode cX6_link 67 = .ok (.iconst 1, 1) := by decide +kernel
theorem dX6_link_68 : decode cX6_link 68 = .ok (.iconst 1, 1) := by decide +kernel
theorem dX6_link_69 : decode cX6_link 69 = .ok (.invokevirtual 82, 3) := by decide +kernel
theorem dX6_link_72 : decode cX6_link 72 = .ok (.ifCond .ne 5, 3) := by decide +kernel
theorem dX6_link_75 : decode cX6_link 75 = .ok (.iconst 0, 1) := by decide +kernel
theorem dX6_link_76 : decode cX6_link 76 = .ok (.ireturn, 1) := by decide +kernel
theorem dX6_link_77 : decode cX6_link 77 = .ok (.iload_n 1, 1) := by decide +kernel
theorem dX6_link_78 : decode cX6_link 78 = .ok (.istore 6, 2) := by decide +kernel
theorem dX6_link_80 : decode cX6_link 80 = .ok (.aload_n 0, 1) := by decide +kernel
theorem dX6_link_81 : decode cX6_link 81 = .ok (.iload 6, 2) := by decide +kernel
theorem dX6_link_83 : decode cX6_link 83 = .ok (.iload_n 2, 1) := by decide +kernel
theorem dX6_link_84 : decode cX6_link 84 = .ok (.invokevirtual 167, 3) := by decide +kernel
theorem dX6_link_87 : decode cX6_link 87 = .ok (.istore 7, 2) := by decide +kernel
theorem dX6_link_89 : decode cX6_link 89 = .ok (.iload 5, 2) := by decide +kernel
theorem dX6_link_91 : decode cX6_link 91 = .ok (.iconst 1, 1) := by decide +kernel
theorem dX6_link_92 : decode cX6_link 92 = .ok (.isub, 1) := by decide +kernel
theorem dX6_link_93 : decode cX6_link 93 = .ok (.iload_n 3, 1) := by decide +kernel
theorem dX6_link_94 : decode cX6_link 94 = .ok (.isub, 1) := by decide +kernel
theorem dX6_link_95 : decode cX6_link 95 = .ok (.istore 8, 2) := by decide +kernel
theorem dX6_link_97 : decode cX6_link 97 = .ok (.iload 8, 2) := by decide +kernel
theorem dX6_link_99 : decode cX6_link 99 = .ok (.ifCond .le 27, 3) := by decide +kernel
theorem dX6_link_102 : decode cX6_link 102 = .ok (.aload_n 0, 1) := by decide +kernel
theorem dX6_link_103 : decode cX6_link 103 = .ok (.iload 7, 2) := by decide +kernel
theorem dX6_link_105 : decode cX6_link 105 = .ok (.iconst 1, 1) := by decide +kernel
theorem dX6_link_106 : decode cX6_link 106 = .ok (.invokevirtual 44, 3) := by decide +kernel
theorem dX6_link_109 : decode cX6_link 109 = .ok (.istore 6, 2) := by decide +kernel
theorem dX6_link_111 : decode cX6_link 111 = .ok (.aload_n 0, 1) := by decide +kernel
theorem dX6_link_112 : decode cX6_link 112 = .ok (.iload 6, 2) := by decide +kernel
theorem dX6_link_114 : decode cX6_link 114 = .ok (.iload_n 2, 1) := by decide +kernel
theorem dX6_link_115 : decode cX6_link 115 = .ok (.invokevirtual 167, 3) := by decide +kernel
theorem dX6_link_118 : decode cX6_link 118 = .ok (.istore 7, 2) := by decide +kernel
theorem dX6_link_120 : decode cX6_link 120 = .ok (.iinc 8 (-1), 3) := by decide +kernel
theorem dX6_link_123 : decode cX6_link 123 = .ok (.goto (-26), 3) := by decide +kernel
theorem dX6_link_126 : decode cX6_link 126 = .ok (.aload_n 0, 1) := by decide +kernel
theorem dX6_link_127 : decode cX6_link 127 = .ok (.iload 7, 2) := by decide +kernel
theorem dX6_link_129 : decode cX6_link 129 = .ok (.iconst 0, 1) := by decide +kernel
theorem dX6_link_130 : decode cX6_link 130 = .ok (.invokevirtual 44, 3) := by decide +kernel
theorem dX6_link_133 : decode cX6_link 133 = .ok (.ireturn, 1) := by decide +kernel
set_option maxRecDepth 20000 in
theorem ggX6_grantsWith_X6_of : GoodIn wsX6_grantsWith wsX6_of := goodIn_r _ [6, 1, 12, 13, 14, 15, 16, 17, 18, 19, 20, 21, 22, 23, 24] (by decide +kernel) (by decide +kernel)
set_option maxRecDepth 20000 in
theorem gX6_grantsWith_X6_of : GoodIn wsX6_grantsWith (wsV RX6 44 RX6 yX6_of wsX6_of) := goodIn_app (goodIn_of _ (by decide +kernel)) ggX6_grantsWith_X6_of
set_option maxRecDepth 20000 in
theorem ggX6_grantsWith_X6_holds : GoodIn wsX6_grantsWith wsX6_holds := goodIn_r _ [10, 11, 12, 13, 14, 15, 16, 17, 18, 19, 20, 21, 22, 23, 24] (by decide +kernel) (by decide +kernel)
set_option maxRecDepth 20000 in
theorem gX6_grantsWith_X6_holds : GoodIn wsX6_grantsWith (wsV RX6 55 RX6 yX6_holds wsX6_holds) := goodIn_app (goodIn_of _ (by decide +kernel)) ggX6_grantsWith_X6_holds
theorem dX6_grantsWith_0 : decode cX6_grantsWith 0 = .ok (.iconst 0, 1) := by decide +kernel
theorem dX6_grantsWith_1 : decode cX6_grantsWith 1 = .ok (.istore 5, 2) := by decide +kernel
theorem dX6_grantsWith_3 : decode cX6_grantsWith 3 = .ok (.iconst 0, 1) := by decide +kernel
theorem dX6_grantsWith_4 : decode cX6_grantsWith 4 = .ok (.istore 6, 2) := by decide +kernel
theorem dX6_grantsWith_6 : decode cX6_grantsWith 6 = .ok (.iload 6, 2) := by decide +kernel
theorem dX6_grantsWith_8 : decode cX6_grantsWith 8 = .ok (.aload_n 0, 1) := by decide +kernel
theorem dX6_grantsWith_9 : decode cX6_grantsWith 9 = .ok (.getfield 7, 3) := by decide +kernel
theorem dX6_grantsWith_12 : decode cX6_grantsWith 12 = .ok (.iconst 5, 1) := by decide +kernel
theorem dX6_grantsWith_13 : decode cX6_grantsWith 13 = .ok (.iaload, 1) := by decide +kernel
theorem dX6_grantsWith_14 : decode cX6_grantsWith 14 = .ok (.if_icmp .ge 85, 3) := by decide +kernel
theorem dX6_grantsWith_17 : decode cX6_grantsWith 17 = .ok (.aload_n 0, 1) := by decide +kernel
theorem dX6_grantsWith_18 : decode cX6_grantsWith 18 = .ok (.iload 6, 2) := by decide +kernel
theorem dX6_grantsWith_20 : decode cX6_grantsWith 20 = .ok (.iconst 3, 1) := by decide +kernel
theorem dX6_grantsWith_21 : decode cX6_grantsWith 21 = .ok (.invokevirtual 44, 3) := by decide +kernel
theorem dX6_grantsWith_24 : decode cX6_grantsWith 24 = .ok (.iload_n 2, 1) := by decide +kernel
theorem dX6_grantsWith_25 : decode cX6_grantsWith 25 = .ok (.if_icmp .ne 30, 3) := by decide +kernel
theorem dX6_grantsWith_28 : decode cX6_grantsWith 28 = .ok (.aload_n 0, 1) := by decide +kernel
theorem dX6_grantsWith_29 : decode cX6_grantsWith 29 = .ok (.iload 6, 2) := by decide +kernel
theorem dX6_grantsWith_31 : decode cX6_grantsWith 31 = .ok (.iconst 2, 1) := by decide +kernel
theorem dX6_grantsWith_32 : decode cX6_grantsWith 32 = .ok (.invokevirtual 44, 3) := by decide +kernel
theorem dX6_grantsWith_35 : decode cX6_grantsWith 35 = .ok (.iload_n 1, 1) := by decide +kernel
theorem dX6_grantsWith_36 : decode cX6_grantsWith 36 = .ok (.if_icmp .ne 19, 3) := by decide +kernel
theorem dX6_grantsWith_39 : decode cX6_grantsWith 39 = .ok (.aload_n 0, 1) := by decide +kernel
theorem dX6_grantsWith_40 : decode cX6_grantsWith 40 = .ok (.iload 6, 2) := by decide +kernel
theorem dX6_grantsWith_42 : decode cX6_grantsWith 42 = .ok (.iconst 4, 1) := by decide +kernel
theorem dX6_grantsWith_43 : decode cX6_grantsWith 43 = .ok (.invokevirtual 44, 3) := by decide +kernel
theorem dX6_grantsWith_46 : decode cX6_grantsWith 46 = .ok (.iload_n 3, 1) := by decide +kernel
theorem dX6_grantsWith_47 : decode cX6_grantsWith 47 = .ok (.iand, 1) := by decide +kernel
theorem dX6_grantsWith_48 : decode cX6_grantsWith 48 = .ok (.ifCond .eq 7, 3) := by decide +kernel
theorem dX6_grantsWith_51 : decode cX6_grantsWith 51 = .ok (.iconst 1, 1) := by decide +kernel
theorem dX6_grantsWith_52 : decode cX6_grantsWith 52 = .ok (.goto 4, 3) := by decide +kernel
theorem dX6_grantsWith_55 : decode cX6_grantsWith 55 = .ok (.iconst 0, 1) := by decide +kernel
theorem dX6_grantsWith_56 : decode cX6_grantsWith 56 = .ok (.istore 7, 2) := by decide +kernel
theorem dX6_grantsWith_58 : decode cX6_grantsWith 58 = .ok (.iload 5, 2) := by decide +kernel
theorem dX6_grantsWith_60 : decode cX6_grantsWith 60 = .ok (.iload 7, 2) := by decide +kernel
theorem dX6_grantsWith_62 : decode cX6_grantsWith 62 = .ok (.ifCond .eq 27, 3) := by decide +kernel
theorem dX6_grantsWith_65 : decode cX6_grantsWith 65 = .ok (.aload_n 0, 1) := by decide +kernel
theorem dX6_grantsWith_66 : decode cX6_grantsWith 66 = .ok (.aload_n 0, 1) := by decide +kernel
theorem dX6_grantsWith_67 : decode cX6_grantsWith 67 = .ok (.iload 6, 2) := by decide +kernel
theorem dX6_grantsWith_69 : decode cX6_grantsWith 69 = .ok (.iconst 1, 1) := by decide +kernel
theorem dX6_grantsWith_70 : decode cX6_grantsWith 70 = .ok (.invokevirtual 44, 3) := by decide +kernel
theorem dX6_grantsWith_73 : decode cX6_grantsWith 73 = .ok (.iload_n 2, 1) := by decide +kernel
theorem dX6_grantsWith_74 : decode cX6_grantsWith 74 = .ok (.invokevirtual 55, 3) := by decide +kernel
theorem dX6_grantsWith_77 : decode cX6_grantsWith 77 = .ok (.iload 4, 2) := by decide +kernel
theorem dX6_grantsWith_79 : decode cX6_grantsWith 79 = .ok (.iand, 1) := by decide +kernel
theorem dX6_grantsWith_80 : decode cX6_grantsWith 80 = .ok (.iload 4, 2) := by decide +kernel
theorem dX6_grantsWith_82 : decode cX6_grantsWith 82 = .ok (.if_icmp .ne 7, 3) := by decide +kernel
theorem dX6_grantsWith_85 : decode cX6_grantsWith 85 = .ok (.iconst 1, 1) := by decide +kernel
theorem dX6_grantsWith_86 : decode cX6_grantsWith 86 = .ok (.goto 4, 3) := by decide +kernel
theorem dX6_grantsWith_89 : decode cX6_grantsWith 89 = .ok (.iconst 0, 1) := by decide +kernel
theorem dX6_grantsWith_90 : decode cX6_grantsWith 90 = .ok (.iadd, 1) := by decide +kernel
theorem dX6_grantsWith_91 : decode cX6_grantsWith 91 = .ok (.istore 5, 2) := by decide +kernel
theorem dX6_grantsWith_93 : decode cX6_grantsWith 93 = .ok (.iinc 6 1, 3) := by decide +kernel
theorem dX6_grantsWith_96 : decode cX6_grantsWith 96 = .ok (.goto (-90), 3) := by decide +kernel
theorem dX6_grantsWith_99 : decode cX6_grantsWith 99 = .ok (.iload 5, 2) := by decide +kernel
theorem dX6_grantsWith_101 : decode cX6_grantsWith 101 = .ok (.ireturn, 1) := by decide +kernel
set_option maxRecDepth 20000 in
theorem ggX6_why_X6_isPerson : GoodIn wsX6_why wsX6_isPerson := goodIn_r _ [4, 5, 6, 7, 3, 8] (by decide +kernel) (by decide +kernel)
set_option maxRecDepth 20000 in
theorem gX6_why_X6_isPerson : GoodIn wsX6_why (va_wsS RX6 76 yX6_isPerson wsX6_isPerson) := goodIn_app (goodIn_of _ (by decide +kernel)) ggX6_why_X6_isPerson
set_option maxRecDepth 20000 in
theorem ggX6_why_X6_isThing : GoodIn wsX6_why wsX6_isThing := goodIn_r _ [12, 13, 6, 7, 3, 8, 48, 49, 50, 51, 52, 53, 54, 55, 56, 57, 58, 59, 60] (by decide +kernel) (by decide +kernel)
set_option maxRecDepth 20000 in
theorem gX6_why_X6_isThing : GoodIn wsX6_why (wsV RX6 89 RX6 yX6_isThing wsX6_isThing) := goodIn_app (goodIn_of _ (by decide +kernel)) ggX6_why_X6_isThing
set_option maxRecDepth 20000 in
theorem ggX6_why_X6_goes : GoodIn wsX6_why wsX6_goes := goodIn_r _ [17, 18, 48, 49, 50, 51, 52, 53, 54, 55, 56, 57, 58, 59, 60] (by decide +kernel) (by decide +kernel)
set_option maxRecDepth 20000 in
theorem gX6_why_X6_goes : GoodIn wsX6_why (wsV RX6 82 RX6 yX6_goes wsX6_goes) := goodIn_app (goodIn_of _ (by decide +kernel)) ggX6_why_X6_goes
set_option maxRecDepth 20000 in
theorem ggX6_why_X6_lay : GoodIn wsX6_why wsX6_lay := goodIn_r _ [22, 23, 13, 24, 25, 26, 3, 27, 28, 29, 30, 31, 32, 33, 34, 35, 36, 37, 38, 39, 40, 41, 42, 43, 48, 49, 50, 51, 52, 53, 54, 55, 56, 57, 58, 59, 60] (by decide +kernel) (by decide +kernel)
set_option maxRecDepth 20000 in
theorem gX6_why_X6_lay : GoodIn wsX6_why (wsV RX6 67 RX6 yX6_lay wsX6_lay) := goodIn_app (goodIn_of _ (by decide +kernel)) ggX6_why_X6_lay
set_option maxRecDepth 20000 in
theorem ggX6_why_X6_holds : GoodIn wsX6_why wsX6_holds := goodIn_r _ [39, 23, 48, 49, 50, 51, 52, 53, 54, 55, 56, 57, 58, 59, 60] (by decide +kernel) (by decide +kernel)
set_option maxRecDepth 20000 in
theorem gX6_why_X6_holds : GoodIn wsX6_why (wsV RX6 55 RX6 yX6_holds wsX6_holds) := goodIn_app (goodIn_of _ (by decide +kernel)) ggX6_why_X6_holds
set_option maxRecDepth 20000 in
theorem ggX6_why_X6_mask : GoodIn wsX6_why wsX6_mask := goodIn_r _ [43, 13, 48, 49, 50, 51, 52, 53, 54, 55, 56, 57, 58, 59, 60] (by decide +kernel) (by decide +kernel)
set_option maxRecDepth 20000 in
theorem gX6_why_X6_mask : GoodIn wsX6_why (wsV RX6 57 RX6 yX6_mask wsX6_mask) := goodIn_app (goodIn_of _ (by decide +kernel)) ggX6_why_X6_mask
set_option maxRecDepth 20000 in
theorem ggX6_why_X6_grantsWith : GoodIn wsX6_why wsX6_grantsWith := goodIn_r _ [47, 13, 28, 29, 30, 3, 31, 36, 37, 38, 39, 23, 48, 49, 50, 51, 52, 53, 54, 55, 56, 57, 58, 59, 60] (by decide +kernel) (by decide +kernel)
set_option maxRecDepth 20000 in
theorem gX6_why_X6_grantsWith : GoodIn wsX6_why (wsV RX6 170 RX6 yX6_grantsWith wsX6_grantsWith) := goodIn_app (goodIn_of _ (by decide +kernel)) ggX6_why_X6_grantsWith
theorem dX6_why_0 : decode cX6_why 0 = .ok (.aload_n 0, 1) := by decide +kernel
theorem dX6_why_1 : decode cX6_why 1 = .ok (.iload_n 1, 1) := by decide +kernel
theorem dX6_why_2 : decode cX6_why 2 = .ok (.invokestatic 76, 3) := by decide +kernel
theorem dX6_why_5 : decode cX6_why 5 = .ok (.ifCond .eq 15, 3) := by decide +kernel
theorem dX6_why_8 : decode cX6_why 8 = .ok (.aload_n 0, 1) := by decide +kernel
theorem dX6_why_9 : decode cX6_why 9 = .ok (.iload_n 2, 1) := by decide +kernel
theorem dX6_why_10 : decode cX6_why 10 = .ok (.invokevirtual 89, 3) := by decide +kernel
theorem dX6_why_13 : decode cX6_why 13 = .ok (.ifCond .eq 7, 3) := by decide +kernel
theorem dX6_why_16 : decode cX6_why 16 = .ok (.iconst 1, 1) := by decide +kernel
theorem dX6_why_17 : decode cX6_why 17 = .ok (.goto 4, 3) := by decide +kernel
theorem dX6_why_20 : decode cX6_why 20 = .ok (.iconst 0, 1) := by decide +kernel
theorem dX6_why_21 : decode cX6_why 21 = .ok (.iload_n 3, 1) := by decide +kernel
theorem dX6_why_22 : decode cX6_why 22 = .ok (.iconst 1, 1) := by decide +kernel
theorem dX6_why_23 : decode cX6_why 23 = .ok (.if_icmp .eq 13, 3) := by decide +kernel
theorem dX6_why_26 : decode cX6_why 26 = .ok (.iload_n 3, 1) := by decide +kernel
theorem dX6_why_27 : decode cX6_why 27 = .ok (.iconst 2, 1) := by decide +kernel
theorem dX6_why_28 : decode cX6_why 28 = .ok (.if_icmp .eq 8, 3) := by decide +kernel
theorem dX6_why_31 : decode cX6_why 31 = .ok (.iload_n 3, 1) := by decide +kernel
theorem dX6_why_32 : decode cX6_why 32 = .ok (.iconst 4, 1) := by decide +kernel
theorem dX6_why_33 : decode cX6_why 33 = .ok (.if_icmp .ne 7, 3) := by decide +kernel
theorem dX6_why_36 : decode cX6_why 36 = .ok (.iconst 1, 1) := by decide +kernel
theorem dX6_why_37 : decode cX6_why 37 = .ok (.goto 4, 3) := by decide +kernel
theorem dX6_why_40 : decode cX6_why 40 = .ok (.iconst 0, 1) := by decide +kernel
theorem dX6_why_41 : decode cX6_why 41 = .ok (.iconst 1, 1) := by decide +kernel
theorem dX6_why_42 : decode cX6_why 42 = .ok (.invokevirtual 82, 3) := by decide +kernel
theorem dX6_why_45 : decode cX6_why 45 = .ok (.ifCond .ne 5, 3) := by decide +kernel
theorem dX6_why_48 : decode cX6_why 48 = .ok (.iconst 0, 1) := by decide +kernel
theorem dX6_why_49 : decode cX6_why 49 = .ok (.ireturn, 1) := by decide +kernel
theorem dX6_why_50 : decode cX6_why 50 = .ok (.aload_n 0, 1) := by decide +kernel
theorem dX6_why_51 : decode cX6_why 51 = .ok (.invokevirtual 67, 3) := by decide +kernel
theorem dX6_why_54 : decode cX6_why 54 = .ok (.aload_n 0, 1) := by decide +kernel
theorem dX6_why_55 : decode cX6_why 55 = .ok (.iload_n 1, 1) := by decide +kernel
theorem dX6_why_56 : decode cX6_why 56 = .ok (.iload_n 2, 1) := by decide +kernel
theorem dX6_why_57 : decode cX6_why 57 = .ok (.invokevirtual 55, 3) := by decide +kernel
theorem dX6_why_60 : decode cX6_why 60 = .ok (.iload_n 3, 1) := by decide +kernel
theorem dX6_why_61 : decode cX6_why 61 = .ok (.iand, 1) := by decide +kernel
theorem dX6_why_62 : decode cX6_why 62 = .ok (.ifCond .eq 5, 3) := by decide +kernel
theorem dX6_why_65 : decode cX6_why 65 = .ok (.iconst 0, 1) := by decide +kernel
theorem dX6_why_66 : decode cX6_why 66 = .ok (.ireturn, 1) := by decide +kernel
theorem dX6_why_67 : decode cX6_why 67 = .ok (.aload_n 0, 1) := by decide +kernel
theorem dX6_why_68 : decode cX6_why 68 = .ok (.iload_n 2, 1) := by decide +kernel
theorem dX6_why_69 : decode cX6_why 69 = .ok (.invokevirtual 57, 3) := by decide +kernel
theorem dX6_why_72 : decode cX6_why 72 = .ok (.iload_n 3, 1) := by decide +kernel
theorem dX6_why_73 : decode cX6_why 73 = .ok (.iand, 1) := by decide +kernel
theorem dX6_why_74 : decode cX6_why 74 = .ok (.ifCond .ne 5, 3) := by decide +kernel
theorem dX6_why_77 : decode cX6_why 77 = .ok (.iconst 1, 1) := by decide +kernel
theorem dX6_why_78 : decode cX6_why 78 = .ok (.ireturn, 1) := by decide +kernel
theorem dX6_why_79 : decode cX6_why 79 = .ok (.aload_n 0, 1) := by decide +kernel
theorem dX6_why_80 : decode cX6_why 80 = .ok (.iload_n 1, 1) := by decide +kernel
theorem dX6_why_81 : decode cX6_why 81 = .ok (.iload_n 2, 1) := by decide +kernel
theorem dX6_why_82 : decode cX6_why 82 = .ok (.iload_n 3, 1) := by decide +kernel
theorem dX6_why_83 : decode cX6_why 83 = .ok (.iconst 0, 1) := by decide +kernel
theorem dX6_why_84 : decode cX6_why 84 = .ok (.invokevirtual 170, 3) := by decide +kernel
theorem dX6_why_87 : decode cX6_why 87 = .ok (.ifCond .ne 7, 3) := by decide +kernel
theorem dX6_why_90 : decode cX6_why 90 = .ok (.iconst 2, 1) := by decide +kernel
theorem dX6_why_91 : decode cX6_why 91 = .ok (.goto 19, 3) := by decide +kernel
theorem dX6_why_94 : decode cX6_why 94 = .ok (.aload_n 0, 1) := by decide +kernel
theorem dX6_why_95 : decode cX6_why 95 = .ok (.iload_n 1, 1) := by decide +kernel
theorem dX6_why_96 : decode cX6_why 96 = .ok (.iload_n 2, 1) := by decide +kernel
theorem dX6_why_97 : decode cX6_why 97 = .ok (.iload_n 3, 1) := by decide +kernel
theorem dX6_why_98 : decode cX6_why 98 = .ok (.iconst 4, 1) := by decide +kernel
theorem dX6_why_99 : decode cX6_why 99 = .ok (.invokevirtual 170, 3) := by decide +kernel
theorem dX6_why_102 : decode cX6_why 102 = .ok (.ifCond .ne 7, 3) := by decide +kernel
theorem dX6_why_105 : decode cX6_why 105 = .ok (.iconst 3, 1) := by decide +kernel
theorem dX6_why_106 : decode cX6_why 106 = .ok (.goto 4, 3) := by decide +kernel
theorem dX6_why_109 : decode cX6_why 109 = .ok (.iconst 4, 1) := by decide +kernel
theorem dX6_why_110 : decode cX6_why 110 = .ok (.ireturn, 1) := by decide +kernel
set_option maxRecDepth 20000 in
theorem ggX6_idle_X6_passes : GoodIn wsX6_idle wsX6_passes := goodIn_r _ [6, 7, 8, 9, 5, 10, 1, 11, 12, 13, 14, 15, 16, 17, 18, 19, 20, 21, 22, 23, 24, 25, 26, 27, 28, 29, 30, 31, 32] (by decide +kernel) (by decide +kernel)
set_option maxRecDepth 20000 in
theorem gX6_idle_X6_passes : GoodIn wsX6_idle (wsV RX6 64 RX6 yX6_passes wsX6_passes) := goodIn_app (goodIn_of _ (by decide +kernel)) ggX6_idle_X6_passes
theorem dX6_idle_0 : decode cX6_idle 0 = .ok (.iconst 0, 1) := by decide +kernel
theorem dX6_idle_1 : decode cX6_idle 1 = .ok (.istore_n 1, 1) := by decide +kernel
theorem dX6_idle_2 : decode cX6_idle 2 = .ok (.iconst 0, 1) := by decide +kernel
theorem dX6_idle_3 : decode cX6_idle 3 = .ok (.istore_n 2, 1) := by decide +kernel
theorem dX6_idle_4 : decode cX6_idle 4 = .ok (.iload_n 2, 1) := by decide +kernel
theorem dX6_idle_5 : decode cX6_idle 5 = .ok (.aload_n 0, 1) := by decide +kernel
theorem dX6_idle_6 : decode cX6_idle 6 = .ok (.getfield 7, 3) := by decide +kernel
theorem dX6_idle_9 : decode cX6_idle 9 = .ok (.iconst 5, 1) := by decide +kernel
theorem dX6_idle_10 : decode cX6_idle 10 = .ok (.iaload, 1) := by decide +kernel
theorem dX6_idle_11 : decode cX6_idle 11 = .ok (.if_icmp .ge 25, 3) := by decide +kernel
theorem dX6_idle_14 : decode cX6_idle 14 = .ok (.iload_n 1, 1) := by decide +kernel
theorem dX6_idle_15 : decode cX6_idle 15 = .ok (.aload_n 0, 1) := by decide +kernel
theorem dX6_idle_16 : decode cX6_idle 16 = .ok (.iload_n 2, 1) := by decide +kernel
theorem dX6_idle_17 : decode cX6_idle 17 = .ok (.invokevirtual 64, 3) := by decide +kernel
theorem dX6_idle_20 : decode cX6_idle 20 = .ok (.ifCond .ne 7, 3) := by decide +kernel
theorem dX6_idle_23 : decode cX6_idle 23 = .ok (.iconst 1, 1) := by decide +kernel
theorem dX6_idle_24 : decode cX6_idle 24 = .ok (.goto 4, 3) := by decide +kernel
theorem dX6_idle_27 : decode cX6_idle 27 = .ok (.iconst 0, 1) := by decide +kernel
theorem dX6_idle_28 : decode cX6_idle 28 = .ok (.iadd, 1) := by decide +kernel
theorem dX6_idle_29 : decode cX6_idle 29 = .ok (.istore_n 1, 1) := by decide +kernel
theorem dX6_idle_30 : decode cX6_idle 30 = .ok (.iinc 2 1, 3) := by decide +kernel
theorem dX6_idle_33 : decode cX6_idle 33 = .ok (.goto (-29), 3) := by decide +kernel
theorem dX6_idle_36 : decode cX6_idle 36 = .ok (.iload_n 1, 1) := by decide +kernel
theorem dX6_idle_37 : decode cX6_idle 37 = .ok (.ireturn, 1) := by decide +kernel
set_option maxRecDepth 20000 in
theorem ggX6_numberOf_X6_pairs : GoodIn wsX6_numberOf wsX6_pairs := goodIn_r _ [6, 1, 7, 8, 9, 5, 10, 11, 12, 13, 14, 15, 16, 17, 18, 19, 20, 21, 22, 23, 24, 25, 26, 27, 28, 29, 30, 31, 32, 33, 34, 35, 36, 37, 38, 43, 44, 45, 46, 47, 48, 49, 50, 51, 52, 53, 54, 55] (by decide +kernel) (by decide +kernel)
set_option maxRecDepth 20000 in
theorem gX6_numberOf_X6_pairs : GoodIn wsX6_numberOf (wsV RX6 112 RX6 yX6_pairs wsX6_pairs) := goodIn_app (goodIn_of _ (by decide +kernel)) ggX6_numberOf_X6_pairs
set_option maxRecDepth 20000 in
theorem ggX6_numberOf_X6_lay : GoodIn wsX6_numberOf wsX6_lay := goodIn_r _ [10, 11, 1, 12, 13, 14, 5, 15, 16, 17, 18, 19, 20, 21, 22, 23, 24, 25, 26, 27, 28, 29, 30, 31, 43, 44, 45, 46, 47, 48, 49, 50, 51, 52, 53, 54, 55] (by decide +kernel) (by decide +kernel)
set_option maxRecDepth 20000 in
theorem gX6_numberOf_X6_lay : GoodIn wsX6_numberOf (wsV RX6 67 RX6 yX6_lay wsX6_lay) := goodIn_app (goodIn_of _ (by decide +kernel)) ggX6_numberOf_X6_lay
set_option maxRecDepth 20000 in
theorem ggX6_numberOf_X6_idle : GoodIn wsX6_numberOf wsX6_idle := goodIn_r _ [42, 1, 20, 21, 22, 5, 23, 16, 17, 18, 19, 24, 25, 26, 27, 11, 28, 29, 30, 31, 43, 44, 45, 46, 47, 48, 49, 50, 51, 52, 53, 54, 55] (by decide +kernel) (by decide +kernel)
set_option maxRecDepth 20000 in
theorem gX6_numberOf_X6_idle : GoodIn wsX6_numberOf (wsV RX6 174 RX6 yX6_idle wsX6_idle) := goodIn_app (goodIn_of _ (by decide +kernel)) ggX6_numberOf_X6_idle
theorem dX6_numberOf_0 : decode cX6_numberOf 0 = .ok (.iload_n 1, 1) := by decide +kernel
theorem dX6_numberOf_1 : decode cX6_numberOf 1 = .ok (.tableswitch 93 0 7 #[47, 54, 61, 61, 61, 72, 79, 84], 47) := by decide +kernel
theorem dX6_numberOf_48 : decode cX6_numberOf 48 = .ok (.aload_n 0, 1) := by decide +kernel
