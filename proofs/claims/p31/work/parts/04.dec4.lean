theorem dX3_isFull_16 : decode cX3_isFull 16 = .ok (.ireturn, 1) := by decide +kernel
theorem dX3_at_0 : decode cX3_at 0 = .ok (.iload_n 1, 1) := by decide +kernel
theorem dX3_at_1 : decode cX3_at 1 = .ok (.ifCond .lt 27, 3) := by decide +kernel
theorem dX3_at_4 : decode cX3_at 4 = .ok (.iload_n 1, 1) := by decide +kernel
theorem dX3_at_5 : decode cX3_at 5 = .ok (.aload_n 0, 1) := by decide +kernel
theorem dX3_at_6 : decode cX3_at 6 = .ok (.getfield 22, 3) := by decide +kernel
theorem dX3_at_9 : decode cX3_at 9 = .ok (.if_icmp .ge 19, 3) := by decide +kernel
theorem dX3_at_12 : decode cX3_at 12 = .ok (.iload_n 2, 1) := by decide +kernel
theorem dX3_at_13 : decode cX3_at 13 = .ok (.ifCond .lt 15, 3) := by decide +kernel
theorem dX3_at_16 : decode cX3_at 16 = .ok (.iload_n 2, 1) := by decide +kernel
theorem dX3_at_17 : decode cX3_at 17 = .ok (.aload_n 0, 1) := by decide +kernel
theorem dX3_at_18 : decode cX3_at 18 = .ok (.getfield 15, 3) := by decide +kernel
theorem dX3_at_21 : decode cX3_at 21 = .ok (.if_icmp .ge 7, 3) := by decide +kernel
theorem dX3_at_24 : decode cX3_at 24 = .ok (.iconst 1, 1) := by decide +kernel
theorem dX3_at_25 : decode cX3_at 25 = .ok (.goto 4, 3) := by decide +kernel
theorem dX3_at_28 : decode cX3_at 28 = .ok (.iconst 0, 1) := by decide +kernel
theorem dX3_at_29 : decode cX3_at 29 = .ok (.istore_n 3, 1) := by decide +kernel
theorem dX3_at_30 : decode cX3_at 30 = .ok (.iload_n 1, 1) := by decide +kernel
theorem dX3_at_31 : decode cX3_at 31 = .ok (.aload_n 0, 1) := by decide +kernel
theorem dX3_at_32 : decode cX3_at 32 = .ok (.getfield 15, 3) := by decide +kernel
theorem dX3_at_35 : decode cX3_at 35 = .ok (.imul, 1) := by decide +kernel
theorem dX3_at_36 : decode cX3_at 36 = .ok (.iload_n 2, 1) := by decide +kernel
theorem dX3_at_37 : decode cX3_at 37 = .ok (.iadd, 1) := by decide +kernel
theorem dX3_at_38 : decode cX3_at 38 = .ok (.istore 4, 2) := by decide +kernel
theorem dX3_at_40 : decode cX3_at 40 = .ok (.iload_n 3, 1) := by decide +kernel
theorem dX3_at_41 : decode cX3_at 41 = .ok (.ifCond .eq 28, 3) := by decide +kernel
theorem dX3_at_44 : decode cX3_at 44 = .ok (.iload 4, 2) := by decide +kernel
theorem dX3_at_46 : decode cX3_at 46 = .ok (.ifCond .lt 23, 3) := by decide +kernel
theorem dX3_at_49 : decode cX3_at 49 = .ok (.iload 4, 2) := by decide +kernel
theorem dX3_at_51 : decode cX3_at 51 = .ok (.aload_n 0, 1) := by decide +kernel
theorem dX3_at_52 : decode cX3_at 52 = .ok (.getfield 18, 3) := by decide +kernel
theorem dX3_at_55 : decode cX3_at 55 = .ok (.arraylength, 1) := by decide +kernel
theorem dX3_at_56 : decode cX3_at 56 = .ok (.if_icmp .ge 13, 3) := by decide +kernel
theorem dX3_at_59 : decode cX3_at 59 = .ok (.aload_n 0, 1) := by decide +kernel
theorem dX3_at_60 : decode cX3_at 60 = .ok (.getfield 18, 3) := by decide +kernel
theorem dX3_at_63 : decode cX3_at 63 = .ok (.iload 4, 2) := by decide +kernel
theorem dX3_at_65 : decode cX3_at 65 = .ok (.iaload, 1) := by decide +kernel
theorem dX3_at_66 : decode cX3_at 66 = .ok (.goto 4, 3) := by decide +kernel
theorem dX3_at_69 : decode cX3_at 69 = .ok (.iconst 0, 1) := by decide +kernel
theorem dX3_at_70 : decode cX3_at 70 = .ok (.ireturn, 1) := by decide +kernel
theorem dX3_put_0 : decode cX3_put 0 = .ok (.iload_n 1, 1) := by decide +kernel
theorem dX3_put_1 : decode cX3_put 1 = .ok (.ifCond .lt 27, 3) := by decide +kernel
theorem dX3_put_4 : decode cX3_put 4 = .ok (.iload_n 1, 1) := by decide +kernel
theorem dX3_put_5 : decode cX3_put 5 = .ok (.aload_n 0, 1) := by decide +kernel
theorem dX3_put_6 : decode cX3_put 6 = .ok (.getfield 22, 3) := by decide +kernel
theorem dX3_put_9 : decode cX3_put 9 = .ok (.if_icmp .ge 19, 3) := by decide +kernel
theorem dX3_put_12 : decode cX3_put 12 = .ok (.iload_n 2, 1) := by decide +kernel
theorem dX3_put_13 : decode cX3_put 13 = .ok (.ifCond .lt 15, 3) := by decide +kernel
theorem dX3_put_16 : decode cX3_put 16 = .ok (.iload_n 2, 1) := by decide +kernel
theorem dX3_put_17 : decode cX3_put 17 = .ok (.aload_n 0, 1) := by decide +kernel
theorem dX3_put_18 : decode cX3_put 18 = .ok (.getfield 15, 3) := by decide +kernel
theorem dX3_put_21 : decode cX3_put 21 = .ok (.if_icmp .ge 7, 3) := by decide +kernel
theorem dX3_put_24 : decode cX3_put 24 = .ok (.iconst 1, 1) := by decide +kernel
theorem dX3_put_25 : decode cX3_put 25 = .ok (.goto 4, 3) := by decide +kernel
theorem dX3_put_28 : decode cX3_put 28 = .ok (.iconst 0, 1) := by decide +kernel
theorem dX3_put_29 : decode cX3_put 29 = .ok (.istore 4, 2) := by decide +kernel
theorem dX3_put_31 : decode cX3_put 31 = .ok (.iload_n 1, 1) := by decide +kernel
theorem dX3_put_32 : decode cX3_put 32 = .ok (.aload_n 0, 1) := by decide +kernel
theorem dX3_put_33 : decode cX3_put 33 = .ok (.getfield 15, 3) := by decide +kernel
theorem dX3_put_36 : decode cX3_put 36 = .ok (.imul, 1) := by decide +kernel
theorem dX3_put_37 : decode cX3_put 37 = .ok (.iload_n 2, 1) := by decide +kernel
theorem dX3_put_38 : decode cX3_put 38 = .ok (.iadd, 1) := by decide +kernel
theorem dX3_put_39 : decode cX3_put 39 = .ok (.istore 5, 2) := by decide +kernel
theorem dX3_put_41 : decode cX3_put 41 = .ok (.iload 4, 2) := by decide +kernel
theorem dX3_put_43 : decode cX3_put 43 = .ok (.ifCond .eq 26, 3) := by decide +kernel
theorem dX3_put_46 : decode cX3_put 46 = .ok (.iload 5, 2) := by decide +kernel
theorem dX3_put_48 : decode cX3_put 48 = .ok (.ifCond .lt 21, 3) := by decide +kernel
theorem dX3_put_51 : decode cX3_put 51 = .ok (.iload 5, 2) := by decide +kernel
theorem dX3_put_53 : decode cX3_put 53 = .ok (.aload_n 0, 1) := by decide +kernel
theorem dX3_put_54 : decode cX3_put 54 = .ok (.getfield 18, 3) := by decide +kernel
theorem dX3_put_57 : decode cX3_put 57 = .ok (.arraylength, 1) := by decide +kernel
theorem dX3_put_58 : decode cX3_put 58 = .ok (.if_icmp .ge 11, 3) := by decide +kernel
theorem dX3_put_61 : decode cX3_put 61 = .ok (.aload_n 0, 1) := by decide +kernel
theorem dX3_put_62 : decode cX3_put 62 = .ok (.getfield 18, 3) := by decide +kernel
theorem dX3_put_65 : decode cX3_put 65 = .ok (.iload 5, 2) := by decide +kernel
theorem dX3_put_67 : decode cX3_put 67 = .ok (.iload_n 3, 1) := by decide +kernel
theorem dX3_put_68 : decode cX3_put 68 = .ok (.iastore, 1) := by decide +kernel
theorem dX3_put_69 : decode cX3_put 69 = .ok (.return_, 1) := by decide +kernel
theorem dX3_addRow_0 : decode cX3_addRow 0 = .ok (.aload_n 0, 1) := by decide +kernel
theorem dX3_addRow_1 : decode cX3_addRow 1 = .ok (.getfield 22, 3) := by decide +kernel
theorem dX3_addRow_4 : decode cX3_addRow 4 = .ok (.aload_n 0, 1) := by decide +kernel
theorem dX3_addRow_5 : decode cX3_addRow 5 = .ok (.getfield 9, 3) := by decide +kernel
theorem dX3_addRow_8 : decode cX3_addRow 8 = .ok (.if_icmp .lt 5, 3) := by decide +kernel
theorem dX3_addRow_11 : decode cX3_addRow 11 = .ok (.iconst (-1), 1) := by decide +kernel
theorem dX3_addRow_12 : decode cX3_addRow 12 = .ok (.ireturn, 1) := by decide +kernel
theorem dX3_addRow_13 : decode cX3_addRow 13 = .ok (.aload_n 0, 1) := by decide +kernel
theorem dX3_addRow_14 : decode cX3_addRow 14 = .ok (.dup, 1) := by decide +kernel
theorem dX3_addRow_15 : decode cX3_addRow 15 = .ok (.getfield 22, 3) := by decide +kernel
theorem dX3_addRow_18 : decode cX3_addRow 18 = .ok (.iconst 1, 1) := by decide +kernel
theorem dX3_addRow_19 : decode cX3_addRow 19 = .ok (.iadd, 1) := by decide +kernel
theorem dX3_addRow_20 : decode cX3_addRow 20 = .ok (.putfield 22, 3) := by decide +kernel
theorem dX3_addRow_23 : decode cX3_addRow 23 = .ok (.aload_n 0, 1) := by decide +kernel
theorem dX3_addRow_24 : decode cX3_addRow 24 = .ok (.getfield 22, 3) := by decide +kernel
theorem dX3_addRow_27 : decode cX3_addRow 27 = .ok (.iconst 1, 1) := by decide +kernel
theorem dX3_addRow_28 : decode cX3_addRow 28 = .ok (.isub, 1) := by decide +kernel
theorem dX3_addRow_29 : decode cX3_addRow 29 = .ok (.ireturn, 1) := by decide +kernel
theorem dX3_drop_0 : decode cX3_drop 0 = .ok (.iload_n 1, 1) := by decide +kernel
theorem dX3_drop_1 : decode cX3_drop 1 = .ok (.ifCond .lt 11, 3) := by decide +kernel
theorem dX3_drop_4 : decode cX3_drop 4 = .ok (.iload_n 1, 1) := by decide +kernel
theorem dX3_drop_5 : decode cX3_drop 5 = .ok (.aload_n 0, 1) := by decide +kernel
theorem dX3_drop_6 : decode cX3_drop 6 = .ok (.getfield 22, 3) := by decide +kernel
theorem dX3_drop_9 : decode cX3_drop 9 = .ok (.if_icmp .lt 4, 3) := by decide +kernel
theorem dX3_drop_12 : decode cX3_drop 12 = .ok (.return_, 1) := by decide +kernel
theorem dX3_drop_13 : decode cX3_drop 13 = .ok (.aload_n 0, 1) := by decide +kernel
theorem dX3_drop_14 : decode cX3_drop 14 = .ok (.getfield 22, 3) := by decide +kernel
theorem dX3_drop_17 : decode cX3_drop 17 = .ok (.aload_n 0, 1) := by decide +kernel
theorem dX3_drop_18 : decode cX3_drop 18 = .ok (.getfield 15, 3) := by decide +kernel
theorem dX3_drop_21 : decode cX3_drop 21 = .ok (.imul, 1) := by decide +kernel
theorem dX3_drop_22 : decode cX3_drop 22 = .ok (.istore_n 2, 1) := by decide +kernel
theorem dX3_drop_23 : decode cX3_drop 23 = .ok (.iload_n 1, 1) := by decide +kernel
theorem dX3_drop_24 : decode cX3_drop 24 = .ok (.aload_n 0, 1) := by decide +kernel
theorem dX3_drop_25 : decode cX3_drop 25 = .ok (.getfield 15, 3) := by decide +kernel
theorem dX3_drop_28 : decode cX3_drop 28 = .ok (.imul, 1) := by decide +kernel
theorem dX3_drop_29 : decode cX3_drop 29 = .ok (.istore_n 3, 1) := by decide +kernel
theorem dX3_drop_30 : decode cX3_drop 30 = .ok (.iload_n 3, 1) := by decide +kernel
theorem dX3_drop_31 : decode cX3_drop 31 = .ok (.iload_n 2, 1) := by decide +kernel
theorem dX3_drop_32 : decode cX3_drop 32 = .ok (.aload_n 0, 1) := by decide +kernel
theorem dX3_drop_33 : decode cX3_drop 33 = .ok (.getfield 15, 3) := by decide +kernel
theorem dX3_drop_36 : decode cX3_drop 36 = .ok (.isub, 1) := by decide +kernel
theorem dX3_drop_37 : decode cX3_drop 37 = .ok (.if_icmp .ge 58, 3) := by decide +kernel
theorem dX3_drop_40 : decode cX3_drop 40 = .ok (.iload_n 3, 1) := by decide +kernel
theorem dX3_drop_41 : decode cX3_drop 41 = .ok (.aload_n 0, 1) := by decide +kernel
theorem dX3_drop_42 : decode cX3_drop 42 = .ok (.getfield 15, 3) := by decide +kernel
theorem dX3_drop_45 : decode cX3_drop 45 = .ok (.iadd, 1) := by decide +kernel
theorem dX3_drop_46 : decode cX3_drop 46 = .ok (.istore 4, 2) := by decide +kernel
theorem dX3_drop_48 : decode cX3_drop 48 = .ok (.iload_n 3, 1) := by decide +kernel
theorem dX3_drop_49 : decode cX3_drop 49 = .ok (.ifCond .lt 40, 3) := by decide +kernel
theorem dX3_drop_52 : decode cX3_drop 52 = .ok (.iload_n 3, 1) := by decide +kernel
theorem dX3_drop_53 : decode cX3_drop 53 = .ok (.aload_n 0, 1) := by decide +kernel
theorem dX3_drop_54 : decode cX3_drop 54 = .ok (.getfield 18, 3) := by decide +kernel
theorem dX3_drop_57 : decode cX3_drop 57 = .ok (.arraylength, 1) := by decide +kernel
theorem dX3_drop_58 : decode cX3_drop 58 = .ok (.if_icmp .ge 31, 3) := by decide +kernel
theorem dX3_drop_61 : decode cX3_drop 61 = .ok (.iload 4, 2) := by decide +kernel
theorem dX3_drop_63 : decode cX3_drop 63 = .ok (.ifCond .lt 26, 3) := by decide +kernel
theorem dX3_drop_66 : decode cX3_drop 66 = .ok (.iload 4, 2) := by decide +kernel
theorem dX3_drop_68 : decode cX3_drop 68 = .ok (.aload_n 0, 1) := by decide +kernel
theorem dX3_drop_69 : decode cX3_drop 69 = .ok (.getfield 18, 3) := by decide +kernel
theorem dX3_drop_72 : decode cX3_drop 72 = .ok (.arraylength, 1) := by decide +kernel
theorem dX3_drop_73 : decode cX3_drop 73 = .ok (.if_icmp .ge 16, 3) := by decide +kernel
theorem dX3_drop_76 : decode cX3_drop 76 = .ok (.aload_n 0, 1) := by decide +kernel
theorem dX3_drop_77 : decode cX3_drop 77 = .ok (.getfield 18, 3) := by decide +kernel
theorem dX3_drop_80 : decode cX3_drop 80 = .ok (.iload_n 3, 1) := by decide +kernel
theorem dX3_drop_81 : decode cX3_drop 81 = .ok (.aload_n 0, 1) := by decide +kernel
theorem dX3_drop_82 : decode cX3_drop 82 = .ok (.getfield 18, 3) := by decide +kernel
theorem dX3_drop_85 : decode cX3_drop 85 = .ok (.iload 4, 2) := by decide +kernel
theorem dX3_drop_87 : decode cX3_drop 87 = .ok (.iaload, 1) := by decide +kernel
theorem dX3_drop_88 : decode cX3_drop 88 = .ok (.iastore, 1) := by decide +kernel
theorem dX3_drop_89 : decode cX3_drop 89 = .ok (.iinc 3 1, 3) := by decide +kernel
theorem dX3_drop_92 : decode cX3_drop 92 = .ok (.goto (-62), 3) := by decide +kernel
theorem dX3_drop_95 : decode cX3_drop 95 = .ok (.aload_n 0, 1) := by decide +kernel
theorem dX3_drop_96 : decode cX3_drop 96 = .ok (.dup, 1) := by decide +kernel
theorem dX3_drop_97 : decode cX3_drop 97 = .ok (.getfield 22, 3) := by decide +kernel
theorem dX3_drop_100 : decode cX3_drop 100 = .ok (.iconst 1, 1) := by decide +kernel
theorem dX3_drop_101 : decode cX3_drop 101 = .ok (.isub, 1) := by decide +kernel
theorem dX3_drop_102 : decode cX3_drop 102 = .ok (.putfield 22, 3) := by decide +kernel
theorem dX3_drop_105 : decode cX3_drop 105 = .ok (.return_, 1) := by decide +kernel
theorem dX3_takeOver_0 : decode cX3_takeOver 0 = .ok (.aload_n 0, 1) := by decide +kernel
theorem dX3_takeOver_1 : decode cX3_takeOver 1 = .ok (.aload_n 1, 1) := by decide +kernel
theorem dX3_takeOver_2 : decode cX3_takeOver 2 = .ok (.getfield 22, 3) := by decide +kernel
theorem dX3_takeOver_5 : decode cX3_takeOver 5 = .ok (.aload_n 0, 1) := by decide +kernel
theorem dX3_takeOver_6 : decode cX3_takeOver 6 = .ok (.getfield 9, 3) := by decide +kernel
theorem dX3_takeOver_9 : decode cX3_takeOver 9 = .ok (.if_icmp .ge 10, 3) := by decide +kernel
theorem dX3_takeOver_12 : decode cX3_takeOver 12 = .ok (.aload_n 1, 1) := by decide +kernel
theorem dX3_takeOver_13 : decode cX3_takeOver 13 = .ok (.getfield 22, 3) := by decide +kernel
theorem dX3_takeOver_16 : decode cX3_takeOver 16 = .ok (.goto 7, 3) := by decide +kernel
theorem dX3_takeOver_19 : decode cX3_takeOver 19 = .ok (.aload_n 0, 1) := by decide +kernel
theorem dX3_takeOver_20 : decode cX3_takeOver 20 = .ok (.getfield 9, 3) := by decide +kernel
theorem dX3_takeOver_23 : decode cX3_takeOver 23 = .ok (.putfield 22, 3) := by decide +kernel
theorem dX3_takeOver_26 : decode cX3_takeOver 26 = .ok (.aload_n 0, 1) := by decide +kernel
theorem dX3_takeOver_27 : decode cX3_takeOver 27 = .ok (.getfield 22, 3) := by decide +kernel
theorem dX3_takeOver_30 : decode cX3_takeOver 30 = .ok (.aload_n 0, 1) := by decide +kernel
theorem dX3_takeOver_31 : decode cX3_takeOver 31 = .ok (.getfield 15, 3) := by decide +kernel
theorem dX3_takeOver_34 : decode cX3_takeOver 34 = .ok (.imul, 1) := by decide +kernel
theorem dX3_takeOver_35 : decode cX3_takeOver 35 = .ok (.istore_n 2, 1) := by decide +kernel
theorem dX3_takeOver_36 : decode cX3_takeOver 36 = .ok (.iconst 0, 1) := by decide +kernel
theorem dX3_takeOver_37 : decode cX3_takeOver 37 = .ok (.istore_n 3, 1) := by decide +kernel
theorem dX3_takeOver_38 : decode cX3_takeOver 38 = .ok (.iload_n 3, 1) := by decide +kernel
theorem dX3_takeOver_39 : decode cX3_takeOver 39 = .ok (.iload_n 2, 1) := by decide +kernel
theorem dX3_takeOver_40 : decode cX3_takeOver 40 = .ok (.if_icmp .ge 39, 3) := by decide +kernel
theorem dX3_takeOver_43 : decode cX3_takeOver 43 = .ok (.iload_n 3, 1) := by decide +kernel
theorem dX3_takeOver_44 : decode cX3_takeOver 44 = .ok (.aload_n 0, 1) := by decide +kernel
theorem dX3_takeOver_45 : decode cX3_takeOver 45 = .ok (.getfield 18, 3) := by decide +kernel
theorem dX3_takeOver_48 : decode cX3_takeOver 48 = .ok (.arraylength, 1) := by decide +kernel
theorem dX3_takeOver_49 : decode cX3_takeOver 49 = .ok (.if_icmp .ge 30, 3) := by decide +kernel
theorem dX3_takeOver_52 : decode cX3_takeOver 52 = .ok (.iload_n 3, 1) := by decide +kernel
theorem dX3_takeOver_53 : decode cX3_takeOver 53 = .ok (.aload_n 1, 1) := by decide +kernel
theorem dX3_takeOver_54 : decode cX3_takeOver 54 = .ok (.getfield 18, 3) := by decide +kernel
theorem dX3_takeOver_57 : decode cX3_takeOver 57 = .ok (.arraylength, 1) := by decide +kernel
theorem dX3_takeOver_58 : decode cX3_takeOver 58 = .ok (.if_icmp .ge 21, 3) := by decide +kernel
theorem dX3_takeOver_61 : decode cX3_takeOver 61 = .ok (.aload_n 0, 1) := by decide +kernel
theorem dX3_takeOver_62 : decode cX3_takeOver 62 = .ok (.getfield 18, 3) := by decide +kernel
theorem dX3_takeOver_65 : decode cX3_takeOver 65 = .ok (.iload_n 3, 1) := by decide +kernel
theorem dX3_takeOver_66 : decode cX3_takeOver 66 = .ok (.aload_n 1, 1) := by decide +kernel
theorem dX3_takeOver_67 : decode cX3_takeOver 67 = .ok (.getfield 18, 3) := by decide +kernel
theorem dX3_takeOver_70 : decode cX3_takeOver 70 = .ok (.iload_n 3, 1) := by decide +kernel
theorem dX3_takeOver_71 : decode cX3_takeOver 71 = .ok (.iaload, 1) := by decide +kernel
theorem dX3_takeOver_72 : decode cX3_takeOver 72 = .ok (.iastore, 1) := by decide +kernel
theorem dX3_takeOver_73 : decode cX3_takeOver 73 = .ok (.iinc 3 1, 3) := by decide +kernel
theorem dX3_takeOver_76 : decode cX3_takeOver 76 = .ok (.goto (-38), 3) := by decide +kernel
theorem dX3_takeOver_79 : decode cX3_takeOver 79 = .ok (.return_, 1) := by decide +kernel
set_option maxRecDepth 20000 in
theorem ggX4_init_X3_init : GoodIn wsX4_init wsX3_init := goodIn_r _ [12, 13, 2, 3, 14, 15, 16, 17, 18, 19, 20, 21] (by decide +kernel) (by decide +kernel)
set_option maxRecDepth 20000 in
theorem gX4_init_X3_init : GoodIn wsX4_init (wsX3_init) := ggX4_init_X3_init
theorem dX4_init_0 : decode cX4_init 0 = .ok (.aload_n 0, 1) := by decide +kernel
theorem dX4_init_1 : decode cX4_init 1 = .ok (.invokespecial 3, 3) := by decide +kernel
theorem dX4_init_4 : decode cX4_init 4 = .ok (.aload_n 0, 1) := by decide +kernel
theorem dX4_init_5 : decode cX4_init 5 = .ok (.new 9, 3) := by decide +kernel
theorem dX4_init_8 : decode cX4_init 8 = .ok (.dup, 1) := by decide +kernel
theorem dX4_init_9 : decode cX4_init 9 = .ok (.bipush 100, 2) := by decide +kernel
theorem dX4_init_11 : decode cX4_init 11 = .ok (.iconst 1, 1) := by decide +kernel
theorem dX4_init_12 : decode cX4_init 12 = .ok (.invokespecial 11, 3) := by decide +kernel
theorem dX4_init_15 : decode cX4_init 15 = .ok (.putfield 14, 3) := by decide +kernel
theorem dX4_init_18 : decode cX4_init 18 = .ok (.aload_n 0, 1) := by decide +kernel
theorem dX4_init_19 : decode cX4_init 19 = .ok (.new 9, 3) := by decide +kernel
theorem dX4_init_22 : decode cX4_init 22 = .ok (.dup, 1) := by decide +kernel
theorem dX4_init_23 : decode cX4_init 23 = .ok (.bipush 100, 2) := by decide +kernel
theorem dX4_init_25 : decode cX4_init 25 = .ok (.bipush 6, 2) := by decide +kernel
theorem dX4_init_27 : decode cX4_init 27 = .ok (.invokespecial 11, 3) := by decide +kernel
theorem dX4_init_30 : decode cX4_init 30 = .ok (.putfield 20, 3) := by decide +kernel
theorem dX4_init_33 : decode cX4_init 33 = .ok (.aload_n 0, 1) := by decide +kernel
theorem dX4_init_34 : decode cX4_init 34 = .ok (.iconst (-1), 1) := by decide +kernel
theorem dX4_init_35 : decode cX4_init 35 = .ok (.putfield 23, 3) := by decide +kernel
theorem dX4_init_38 : decode cX4_init 38 = .ok (.return_, 1) := by decide +kernel
set_option maxRecDepth 20000 in
theorem ggX5_init_X2_init : GoodIn wsX5_init wsX2_init := goodIn_r _ [23, 24, 2, 3, 25, 26, 27, 28, 29, 30, 31, 32, 33, 34, 35, 36, 37, 38, 39, 40, 41, 42, 43, 44, 45, 46, 47, 48, 49, 95, 96, 97, 98, 74, 75, 76, 77, 78, 79, 80, 81, 82] (by decide +kernel) (by decide +kernel)
set_option maxRecDepth 20000 in
theorem gX5_init_X2_init : GoodIn wsX5_init (wsX2_init) := ggX5_init_X2_init
set_option maxRecDepth 20000 in
theorem ggX5_init_X1_init : GoodIn wsX5_init wsX1_init := goodIn_r _ [52, 53, 2, 3, 54, 55, 5, 6, 56, 22, 23, 24, 25, 26, 27, 28, 29, 30, 31, 32, 33, 34, 35, 36, 37, 38, 39, 40, 41, 42, 43, 44, 45, 46, 47, 48, 49, 88, 89, 74, 75, 76, 77, 78, 79, 80, 81, 82, 95, 96, 97, 98] (by decide +kernel) (by decide +kernel)
set_option maxRecDepth 20000 in
theorem gX5_init_X1_init : GoodIn wsX5_init (wsX1_init) := ggX5_init_X1_init
set_option maxRecDepth 20000 in
theorem ggX5_init_X0_init : GoodIn wsX5_init wsX0_init := goodIn_r _ [59, 60, 2, 3, 61, 26, 27, 62, 63, 34, 35, 36, 37, 38, 39, 40, 64, 42, 43, 44, 45, 95, 96, 97, 98, 90] (by decide +kernel) (by decide +kernel)
set_option maxRecDepth 20000 in
theorem gX5_init_X0_init : GoodIn wsX5_init (wsX0_init) := ggX5_init_X0_init
set_option maxRecDepth 20000 in
theorem ggX5_init_X4_init : GoodIn wsX5_init wsX4_init := goodIn_r _ [67, 68, 2, 3, 69, 26, 27, 70, 71, 72, 73, 34, 35, 36, 37, 38, 39, 40, 95, 96, 97, 98, 91, 92, 93, 94] (by decide +kernel) (by decide +kernel)
set_option maxRecDepth 20000 in
theorem gX5_init_X4_init : GoodIn wsX5_init (wsX4_init) := ggX5_init_X4_init
theorem dX5_init_0 : decode cX5_init 0 = .ok (.aload_n 0, 1) := by decide +kernel
theorem dX5_init_1 : decode cX5_init 1 = .ok (.invokespecial 1, 3) := by decide +kernel
theorem dX5_init_4 : decode cX5_init 4 = .ok (.aload_n 0, 1) := by decide +kernel
theorem dX5_init_5 : decode cX5_init 5 = .ok (.new 7, 3) := by decide +kernel
theorem dX5_init_8 : decode cX5_init 8 = .ok (.dup, 1) := by decide +kernel
theorem dX5_init_9 : decode cX5_init 9 = .ok (.invokespecial 9, 3) := by decide +kernel
theorem dX5_init_12 : decode cX5_init 12 = .ok (.putfield 10, 3) := by decide +kernel
theorem dX5_init_15 : decode cX5_init 15 = .ok (.aload_n 0, 1) := by decide +kernel
theorem dX5_init_16 : decode cX5_init 16 = .ok (.new 7, 3) := by decide +kernel
theorem dX5_init_19 : decode cX5_init 19 = .ok (.dup, 1) := by decide +kernel
theorem dX5_init_20 : decode cX5_init 20 = .ok (.invokespecial 9, 3) := by decide +kernel
theorem dX5_init_23 : decode cX5_init 23 = .ok (.putfield 16, 3) := by decide +kernel
theorem dX5_init_26 : decode cX5_init 26 = .ok (.aload_n 0, 1) := by decide +kernel
theorem dX5_init_27 : decode cX5_init 27 = .ok (.new 19, 3) := by decide +kernel
theorem dX5_init_30 : decode cX5_init 30 = .ok (.dup, 1) := by decide +kernel
theorem dX5_init_31 : decode cX5_init 31 = .ok (.invokespecial 21, 3) := by decide +kernel
theorem dX5_init_34 : decode cX5_init 34 = .ok (.putfield 22, 3) := by decide +kernel
theorem dX5_init_37 : decode cX5_init 37 = .ok (.aload_n 0, 1) := by decide +kernel
theorem dX5_init_38 : decode cX5_init 38 = .ok (.new 26, 3) := by decide +kernel
theorem dX5_init_41 : decode cX5_init 41 = .ok (.dup, 1) := by decide +kernel
theorem dX5_init_42 : decode cX5_init 42 = .ok (.invokespecial 28, 3) := by decide +kernel
theorem dX5_init_45 : decode cX5_init 45 = .ok (.putfield 29, 3) := by decide +kernel
theorem dX5_init_48 : decode cX5_init 48 = .ok (.aload_n 0, 1) := by decide +kernel
theorem dX5_init_49 : decode cX5_init 49 = .ok (.new 33, 3) := by decide +kernel
theorem dX5_init_52 : decode cX5_init 52 = .ok (.dup, 1) := by decide +kernel
theorem dX5_init_53 : decode cX5_init 53 = .ok (.invokespecial 35, 3) := by decide +kernel
theorem dX5_init_56 : decode cX5_init 56 = .ok (.putfield 36, 3) := by decide +kernel
theorem dX5_init_59 : decode cX5_init 59 = .ok (.return_, 1) := by decide +kernel
set_option maxRecDepth 20000 in
theorem ggX5_addThing_X5_requirePerson : GoodIn wsX5_addThing wsX5_requirePerson := goodIn_ca (goodIn_r _ [9, 10, 11, 12, 13, 8, 14, 15, 16, 17] (by decide +kernel) (by decide +kernel)) (goodIn_sub (fun _ h => List.mem_cons_of_mem _ (List.mem_append_left _ (List.mem_append_right _ h))) (by decide +kernel))
set_option maxRecDepth 20000 in
theorem gX5_addThing_X5_requirePerson : GoodIn wsX5_addThing (va_wsS RX5 40 yX5_requirePerson wsX5_requirePerson) := goodIn_app (goodIn_of _ (by decide +kernel)) ggX5_addThing_X5_requirePerson
set_option maxRecDepth 20000 in
theorem ggX5_addThing_X5_requireMask : GoodIn wsX5_addThing wsX5_requireMask := goodIn_ca (goodIn_r _ [20, 21, 22, 8, 23, 24, 25, 15, 16, 17] (by decide +kernel) (by decide +kernel)) (goodIn_sub (fun _ h => List.mem_cons_of_mem _ (List.mem_append_right _ h)) (by decide +kernel))
set_option maxRecDepth 20000 in
theorem gX5_addThing_X5_requireMask : GoodIn wsX5_addThing (va_wsS RX5 44 yX5_requireMask wsX5_requireMask) := goodIn_app (goodIn_of _ (by decide +kernel)) ggX5_addThing_X5_requireMask
set_option maxRecDepth 20000 in
theorem ggX5_addThing_X3_isFull : GoodIn wsX5_addThing wsX3_isFull := goodIn_r _ [30, 31, 32, 106, 107, 108, 109] (by decide +kernel) (by decide +kernel)
set_option maxRecDepth 20000 in
theorem gX5_addThing_X3_isFull : GoodIn wsX5_addThing (wsV RX5 51 RX3 yX3_isFull wsX3_isFull) := goodIn_app (goodIn_of _ (by decide +kernel)) ggX5_addThing_X3_isFull
set_option maxRecDepth 20000 in
theorem ggX5_addThing_X1_keep : GoodIn wsX5_addThing wsX1_keep := goodIn_r _ [37, 38, 39, 40, 41, 42, 36, 43, 44, 45, 46, 47, 48, 49, 50, 51, 52, 53, 54, 55, 56, 57, 58, 59, 60, 29, 61, 31, 32, 62, 63, 110, 111, 97, 98, 99, 100, 101, 102, 103, 104, 105, 106, 107, 108, 109] (by decide +kernel) (by decide +kernel)
set_option maxRecDepth 20000 in
theorem gX5_addThing_X1_keep : GoodIn wsX5_addThing (wsV RX5 64 RX1 yX1_keep wsX1_keep) := goodIn_app (goodIn_of _ (by decide +kernel)) ggX5_addThing_X1_keep
set_option maxRecDepth 20000 in
theorem ggX5_addThing_X2_takeIn : GoodIn wsX5_addThing wsX2_takeIn := goodIn_r _ [67, 50, 53, 68, 69, 70, 29, 71, 31, 32, 72, 73, 74, 75, 62, 63, 76, 77, 78, 47, 79, 51, 80, 81, 82, 83, 84, 85, 86, 87, 88, 89, 90, 91, 97, 98, 99, 100, 101, 102, 103, 104, 105, 106, 107, 108, 109] (by decide +kernel) (by decide +kernel)
set_option maxRecDepth 20000 in
theorem gX5_addThing_X2_takeIn : GoodIn wsX5_addThing (wsV RX5 68 RX2 yX2_takeIn wsX2_takeIn) := goodIn_app (goodIn_of _ (by decide +kernel)) ggX5_addThing_X2_takeIn
theorem dX5_addThing_0 : decode cX5_addThing 0 = .ok (.iload_n 1, 1) := by decide +kernel
theorem dX5_addThing_1 : decode cX5_addThing 1 = .ok (.invokestatic 40, 3) := by decide +kernel
theorem dX5_addThing_4 : decode cX5_addThing 4 = .ok (.iload_n 2, 1) := by decide +kernel
theorem dX5_addThing_5 : decode cX5_addThing 5 = .ok (.invokestatic 44, 3) := by decide +kernel
theorem dX5_addThing_8 : decode cX5_addThing 8 = .ok (.aload_n 0, 1) := by decide +kernel
theorem dX5_addThing_9 : decode cX5_addThing 9 = .ok (.getfield 10, 3) := by decide +kernel
theorem dX5_addThing_12 : decode cX5_addThing 12 = .ok (.getfield 47, 3) := by decide +kernel
theorem dX5_addThing_15 : decode cX5_addThing 15 = .ok (.invokevirtual 51, 3) := by decide +kernel
theorem dX5_addThing_18 : decode cX5_addThing 18 = .ok (.ifCond .eq 13, 3) := by decide +kernel
theorem dX5_addThing_21 : decode cX5_addThing 21 = .ok (.new 57, 3) := by decide +kernel
theorem dX5_addThing_24 : decode cX5_addThing 24 = .ok (.dup, 1) := by decide +kernel
theorem dX5_addThing_25 : decode cX5_addThing 25 = .ok (.ldc 59, 2) := by decide +kernel
theorem dX5_addThing_27 : decode cX5_addThing 27 = .ok (.invokespecial 61, 3) := by decide +kernel
theorem dX5_addThing_30 : decode cX5_addThing 30 = .ok (.athrow, 1) := by decide +kernel
theorem dX5_addThing_31 : decode cX5_addThing 31 = .ok (.aload_n 0, 1) := by decide +kernel
theorem dX5_addThing_32 : decode cX5_addThing 32 = .ok (.getfield 22, 3) := by decide +kernel
theorem dX5_addThing_35 : decode cX5_addThing 35 = .ok (.aload_n 0, 1) := by decide +kernel
theorem dX5_addThing_36 : decode cX5_addThing 36 = .ok (.getfield 10, 3) := by decide +kernel
theorem dX5_addThing_39 : decode cX5_addThing 39 = .ok (.invokevirtual 64, 3) := by decide +kernel
theorem dX5_addThing_42 : decode cX5_addThing 42 = .ok (.aload_n 0, 1) := by decide +kernel
theorem dX5_addThing_43 : decode cX5_addThing 43 = .ok (.getfield 10, 3) := by decide +kernel
theorem dX5_addThing_46 : decode cX5_addThing 46 = .ok (.iload_n 1, 1) := by decide +kernel
theorem dX5_addThing_47 : decode cX5_addThing 47 = .ok (.iload_n 2, 1) := by decide +kernel
theorem dX5_addThing_48 : decode cX5_addThing 48 = .ok (.invokevirtual 68, 3) := by decide +kernel
theorem dX5_addThing_51 : decode cX5_addThing 51 = .ok (.ireturn, 1) := by decide +kernel
set_option maxRecDepth 20000 in
theorem ggX5_setMask_X5_requireThing : GoodIn wsX5_setMask wsX5_requireThing := goodIn_ca (goodIn_r _ [7, 8, 9, 2, 10, 11, 12, 13, 14, 15, 16, 84, 85, 86, 87, 88, 89, 90, 91, 92, 93, 94, 95, 96, 97, 98, 99, 100, 101] (by decide +kernel) (by decide +kernel)) (goodIn_sub (fun _ h => List.mem_cons_of_mem _ (List.mem_append_left _ (List.mem_append_right _ h))) (by decide +kernel))
set_option maxRecDepth 20000 in
theorem gX5_setMask_X5_requireThing : GoodIn wsX5_setMask (wsV RX5 72 RX5 yX5_requireThing wsX5_requireThing) := goodIn_app (goodIn_of _ (by decide +kernel)) ggX5_setMask_X5_requireThing
set_option maxRecDepth 20000 in
theorem ggX5_setMask_X5_requireMask : GoodIn wsX5_setMask wsX5_requireMask := goodIn_ca (goodIn_r _ [19, 20, 21, 6, 22, 23, 24, 25, 26, 27] (by decide +kernel) (by decide +kernel)) (goodIn_sub (fun _ h => List.mem_cons_of_mem _ (List.mem_append_right _ h)) (by decide +kernel))
set_option maxRecDepth 20000 in
theorem gX5_setMask_X5_requireMask : GoodIn wsX5_setMask (va_wsS RX5 44 yX5_requireMask wsX5_requireMask) := goodIn_app (goodIn_of _ (by decide +kernel)) ggX5_setMask_X5_requireMask
set_option maxRecDepth 20000 in
theorem ggX5_setMask_X1_keep : GoodIn wsX5_setMask wsX1_keep := goodIn_r _ [32, 33, 34, 35, 36, 37, 31, 38, 39, 40, 41, 42, 43, 44, 45, 46, 47, 48, 49, 50, 51, 52, 53, 54, 55, 14, 56, 16, 57, 58, 59, 102, 103, 89, 90, 91, 92, 93, 94, 95, 96, 97, 98, 99, 100, 101] (by decide +kernel) (by decide +kernel)
set_option maxRecDepth 20000 in
theorem gX5_setMask_X1_keep : GoodIn wsX5_setMask (wsV RX5 64 RX1 yX1_keep wsX1_keep) := goodIn_app (goodIn_of _ (by decide +kernel)) ggX5_setMask_X1_keep
set_option maxRecDepth 20000 in
theorem ggX5_setMask_X2_changeThing : GoodIn wsX5_setMask wsX2_changeThing := goodIn_r _ [63, 45, 64, 65, 66, 14, 67, 16, 58, 59, 68, 69, 70, 71, 72, 73, 74, 42, 75, 48, 46, 76, 77, 78, 79, 80, 81, 82, 83, 89, 90, 91, 92, 93, 94, 95, 96, 97, 98, 99, 100, 101] (by decide +kernel) (by decide +kernel)
set_option maxRecDepth 20000 in
theorem gX5_setMask_X2_changeThing : GoodIn wsX5_setMask (wsV RX5 75 RX2 yX2_changeThing wsX2_changeThing) := goodIn_app (goodIn_of _ (by decide +kernel)) ggX5_setMask_X2_changeThing
theorem dX5_setMask_0 : decode cX5_setMask 0 = .ok (.aload_n 0, 1) := by decide +kernel
theorem dX5_setMask_1 : decode cX5_setMask 1 = .ok (.iload_n 1, 1) := by decide +kernel
theorem dX5_setMask_2 : decode cX5_setMask 2 = .ok (.invokevirtual 72, 3) := by decide +kernel
theorem dX5_setMask_5 : decode cX5_setMask 5 = .ok (.iload_n 2, 1) := by decide +kernel
theorem dX5_setMask_6 : decode cX5_setMask 6 = .ok (.invokestatic 44, 3) := by decide +kernel
theorem dX5_setMask_9 : decode cX5_setMask 9 = .ok (.aload_n 0, 1) := by decide +kernel
theorem dX5_setMask_10 : decode cX5_setMask 10 = .ok (.getfield 22, 3) := by decide +kernel
theorem dX5_setMask_13 : decode cX5_setMask 13 = .ok (.aload_n 0, 1) := by decide +kernel
theorem dX5_setMask_14 : decode cX5_setMask 14 = .ok (.getfield 10, 3) := by decide +kernel
theorem dX5_setMask_17 : decode cX5_setMask 17 = .ok (.invokevirtual 64, 3) := by decide +kernel
theorem dX5_setMask_20 : decode cX5_setMask 20 = .ok (.aload_n 0, 1) := by decide +kernel
theorem dX5_setMask_21 : decode cX5_setMask 21 = .ok (.getfield 10, 3) := by decide +kernel
theorem dX5_setMask_24 : decode cX5_setMask 24 = .ok (.iload_n 1, 1) := by decide +kernel
theorem dX5_setMask_25 : decode cX5_setMask 25 = .ok (.iconst 1, 1) := by decide +kernel
theorem dX5_setMask_26 : decode cX5_setMask 26 = .ok (.iload_n 2, 1) := by decide +kernel
theorem dX5_setMask_27 : decode cX5_setMask 27 = .ok (.invokevirtual 75, 3) := by decide +kernel
theorem dX5_setMask_30 : decode cX5_setMask 30 = .ok (.ireturn, 1) := by decide +kernel
set_option maxRecDepth 20000 in
theorem ggX5_setBase_X5_requirePerson : GoodIn wsX5_setBase wsX5_requirePerson := goodIn_ca (goodIn_r _ [7, 8, 9, 10, 11, 6, 12, 13, 14, 15] (by decide +kernel) (by decide +kernel)) (goodIn_sub (fun _ h => List.mem_cons_of_mem _ (List.mem_append_left _ (List.mem_append_right _ h))) (by decide +kernel))
set_option maxRecDepth 20000 in
theorem gX5_setBase_X5_requirePerson : GoodIn wsX5_setBase (va_wsS RX5 40 yX5_requirePerson wsX5_requirePerson) := goodIn_app (goodIn_of _ (by decide +kernel)) ggX5_setBase_X5_requirePerson
set_option maxRecDepth 20000 in
theorem ggX5_setBase_X5_requireRange : GoodIn wsX5_setBase wsX5_requireRange := goodIn_ca (goodIn_r _ [18, 19, 20, 13, 14, 6, 15] (by decide +kernel) (by decide +kernel)) (goodIn_sub (fun _ h => List.mem_cons_of_mem _ (List.mem_append_right _ h)) (by decide +kernel))
set_option maxRecDepth 20000 in
theorem gX5_setBase_X5_requireRange : GoodIn wsX5_setBase (va_wsS RX5 79 yX5_requireRange wsX5_requireRange) := goodIn_app (goodIn_of _ (by decide +kernel)) ggX5_setBase_X5_requireRange
set_option maxRecDepth 20000 in
theorem ggX5_setBase_X1_keep : GoodIn wsX5_setBase wsX1_keep := goodIn_r _ [25, 26, 27, 28, 29, 30, 24, 31, 32, 33, 34, 35, 36, 37, 38, 39, 40, 41, 42, 43, 44, 45, 46, 47, 48, 49, 50, 51, 52, 53, 54, 77, 78, 68, 69, 70, 71, 72, 73, 74, 75, 76, 79, 80, 81, 82] (by decide +kernel) (by decide +kernel)
set_option maxRecDepth 20000 in
theorem gX5_setBase_X1_keep : GoodIn wsX5_setBase (wsV RX5 64 RX1 yX1_keep wsX1_keep) := goodIn_app (goodIn_of _ (by decide +kernel)) ggX5_setBase_X1_keep
set_option maxRecDepth 20000 in
theorem ggX5_setBase_X3_at : GoodIn wsX5_setBase wsX3_at := goodIn_r _ [58, 51, 53, 54, 79, 80, 81, 82] (by decide +kernel) (by decide +kernel)
set_option maxRecDepth 20000 in
theorem gX5_setBase_X3_at : GoodIn wsX5_setBase (wsV RX5 86 RX3 yX3_at wsX3_at) := goodIn_app (goodIn_of _ (by decide +kernel)) ggX5_setBase_X3_at
set_option maxRecDepth 20000 in
theorem ggX5_setBase_X3_put : GoodIn wsX5_setBase wsX3_put := goodIn_r _ [62, 51, 53, 54, 79, 80, 81, 82] (by decide +kernel) (by decide +kernel)
set_option maxRecDepth 20000 in
theorem gX5_setBase_X3_put : GoodIn wsX5_setBase (wsV RX5 89 RX3 yX3_put wsX3_put) := goodIn_app (goodIn_of _ (by decide +kernel)) ggX5_setBase_X3_put
theorem dX5_setBase_0 : decode cX5_setBase 0 = .ok (.iload_n 1, 1) := by decide +kernel
theorem dX5_setBase_1 : decode cX5_setBase 1 = .ok (.invokestatic 40, 3) := by decide +kernel
theorem dX5_setBase_4 : decode cX5_setBase 4 = .ok (.iload_n 2, 1) := by decide +kernel
theorem dX5_setBase_5 : decode cX5_setBase 5 = .ok (.iconst 0, 1) := by decide +kernel
theorem dX5_setBase_6 : decode cX5_setBase 6 = .ok (.bipush 100, 2) := by decide +kernel
theorem dX5_setBase_8 : decode cX5_setBase 8 = .ok (.invokestatic 79, 3) := by decide +kernel
theorem dX5_setBase_11 : decode cX5_setBase 11 = .ok (.aload_n 0, 1) := by decide +kernel
theorem dX5_setBase_12 : decode cX5_setBase 12 = .ok (.getfield 22, 3) := by decide +kernel
theorem dX5_setBase_15 : decode cX5_setBase 15 = .ok (.aload_n 0, 1) := by decide +kernel
theorem dX5_setBase_16 : decode cX5_setBase 16 = .ok (.getfield 10, 3) := by decide +kernel
theorem dX5_setBase_19 : decode cX5_setBase 19 = .ok (.invokevirtual 64, 3) := by decide +kernel
theorem dX5_setBase_22 : decode cX5_setBase 22 = .ok (.aload_n 0, 1) := by decide +kernel
theorem dX5_setBase_23 : decode cX5_setBase 23 = .ok (.getfield 10, 3) := by decide +kernel
theorem dX5_setBase_26 : decode cX5_setBase 26 = .ok (.getfield 83, 3) := by decide +kernel
theorem dX5_setBase_29 : decode cX5_setBase 29 = .ok (.iload_n 1, 1) := by decide +kernel
theorem dX5_setBase_30 : decode cX5_setBase 30 = .ok (.iconst 1, 1) := by decide +kernel
theorem dX5_setBase_31 : decode cX5_setBase 31 = .ok (.invokevirtual 86, 3) := by decide +kernel
theorem dX5_setBase_34 : decode cX5_setBase 34 = .ok (.istore_n 3, 1) := by decide +kernel
theorem dX5_setBase_35 : decode cX5_setBase 35 = .ok (.aload_n 0, 1) := by decide +kernel
theorem dX5_setBase_36 : decode cX5_setBase 36 = .ok (.getfield 10, 3) := by decide +kernel
theorem dX5_setBase_39 : decode cX5_setBase 39 = .ok (.getfield 83, 3) := by decide +kernel
theorem dX5_setBase_42 : decode cX5_setBase 42 = .ok (.iload_n 1, 1) := by decide +kernel
theorem dX5_setBase_43 : decode cX5_setBase 43 = .ok (.iconst 1, 1) := by decide +kernel
theorem dX5_setBase_44 : decode cX5_setBase 44 = .ok (.iload_n 2, 1) := by decide +kernel
theorem dX5_setBase_45 : decode cX5_setBase 45 = .ok (.invokevirtual 89, 3) := by decide +kernel
theorem dX5_setBase_48 : decode cX5_setBase 48 = .ok (.iload_n 3, 1) := by decide +kernel
theorem dX5_setBase_49 : decode cX5_setBase 49 = .ok (.ireturn, 1) := by decide +kernel
set_option maxRecDepth 20000 in
theorem ggX5_give_X5_requirePerson : GoodIn wsX5_give wsX5_requirePerson := goodIn_ca (goodIn_r _ [6, 7, 8, 9, 10, 5, 11, 12, 13, 14] (by decide +kernel) (by decide +kernel)) (goodIn_sub (fun _ h => List.mem_cons_of_mem _ (List.mem_append_right _ h)) (by decide +kernel))
set_option maxRecDepth 20000 in
theorem gX5_give_X5_requirePerson : GoodIn wsX5_give (va_wsS RX5 40 yX5_requirePerson wsX5_requirePerson) := goodIn_app (goodIn_of _ (by decide +kernel)) ggX5_give_X5_requirePerson
set_option maxRecDepth 20000 in
theorem ggX5_give_X5_requireThing : GoodIn wsX5_give wsX5_requireThing := goodIn_ca (goodIn_r _ [18, 7, 8, 2, 19, 20, 21, 22, 23, 24, 25, 82, 83, 84, 85, 86, 87, 88, 89, 90, 91, 92, 93, 94, 95, 96, 97, 98, 99] (by decide +kernel) (by decide +kernel)) (goodIn_sub (fun _ h => List.mem_cons_of_mem _ (List.mem_append_right _ h)) (by decide +kernel))
set_option maxRecDepth 20000 in
theorem gX5_give_X5_requireThing : GoodIn wsX5_give (wsV RX5 72 RX5 yX5_requireThing wsX5_requireThing) := goodIn_app (goodIn_of _ (by decide +kernel)) ggX5_give_X5_requireThing
set_option maxRecDepth 20000 in
theorem ggX5_give_X1_keep : GoodIn wsX5_give wsX1_keep := goodIn_r _ [30, 31, 32, 33, 34, 35, 29, 36, 37, 38, 39, 40, 41, 42, 43, 44, 45, 46, 47, 48, 49, 50, 51, 52, 53, 23, 54, 25, 55, 56, 57, 100, 101, 87, 88, 89, 90, 91, 92, 93, 94, 95, 96, 97, 98, 99] (by decide +kernel) (by decide +kernel)
set_option maxRecDepth 20000 in
theorem gX5_give_X1_keep : GoodIn wsX5_give (wsV RX5 64 RX1 yX1_keep wsX1_keep) := goodIn_app (goodIn_of _ (by decide +kernel)) ggX5_give_X1_keep
set_option maxRecDepth 20000 in
theorem ggX5_give_X2_changeThing : GoodIn wsX5_give wsX2_changeThing := goodIn_r _ [61, 43, 62, 63, 64, 23, 65, 25, 56, 57, 66, 67, 68, 69, 70, 71, 72, 40, 73, 46, 44, 74, 75, 76, 77, 78, 79, 80, 81, 87, 88, 89, 90, 91, 92, 93, 94, 95, 96, 97, 98, 99] (by decide +kernel) (by decide +kernel)
set_option maxRecDepth 20000 in
theorem gX5_give_X2_changeThing : GoodIn wsX5_give (wsV RX5 75 RX2 yX2_changeThing wsX2_changeThing) := goodIn_app (goodIn_of _ (by decide +kernel)) ggX5_give_X2_changeThing
theorem dX5_give_0 : decode cX5_give 0 = .ok (.iload_n 2, 1) := by decide +kernel
theorem dX5_give_1 : decode cX5_give 1 = .ok (.invokestatic 40, 3) := by decide +kernel
theorem dX5_give_4 : decode cX5_give 4 = .ok (.aload_n 0, 1) := by decide +kernel
theorem dX5_give_5 : decode cX5_give 5 = .ok (.iload_n 1, 1) := by decide +kernel
theorem dX5_give_6 : decode cX5_give 6 = .ok (.invokevirtual 72, 3) := by decide +kernel
theorem dX5_give_9 : decode cX5_give 9 = .ok (.aload_n 0, 1) := by decide +kernel
theorem dX5_give_10 : decode cX5_give 10 = .ok (.getfield 22, 3) := by decide +kernel
theorem dX5_give_13 : decode cX5_give 13 = .ok (.aload_n 0, 1) := by decide +kernel
theorem dX5_give_14 : decode cX5_give 14 = .ok (.getfield 10, 3) := by decide +kernel
theorem dX5_give_17 : decode cX5_give 17 = .ok (.invokevirtual 64, 3) := by decide +kernel
theorem dX5_give_20 : decode cX5_give 20 = .ok (.aload_n 0, 1) := by decide +kernel
theorem dX5_give_21 : decode cX5_give 21 = .ok (.getfield 10, 3) := by decide +kernel
theorem dX5_give_24 : decode cX5_give 24 = .ok (.iload_n 1, 1) := by decide +kernel
theorem dX5_give_25 : decode cX5_give 25 = .ok (.iconst 0, 1) := by decide +kernel
theorem dX5_give_26 : decode cX5_give 26 = .ok (.iload_n 2, 1) := by decide +kernel
theorem dX5_give_27 : decode cX5_give 27 = .ok (.invokevirtual 75, 3) := by decide +kernel
theorem dX5_give_30 : decode cX5_give 30 = .ok (.ireturn, 1) := by decide +kernel
set_option maxRecDepth 20000 in
theorem ggX5_grant_X2_faultOfGrant : GoodIn wsX5_grant wsX2_faultOfGrant := goodIn_r _ [9, 10, 11, 12, 13, 14, 15, 16, 17, 18, 19, 20, 21, 22, 23, 24, 25, 26, 27, 8, 28, 29, 30, 31, 32, 33, 34, 35, 36, 37, 38, 39, 40, 101, 102, 103, 104, 105, 106, 107, 108, 109, 110, 111, 112, 113] (by decide +kernel) (by decide +kernel)
set_option maxRecDepth 20000 in
theorem gX5_grant_X2_faultOfGrant : GoodIn wsX5_grant (wsV RX5 92 RX2 yX2_faultOfGrant wsX2_faultOfGrant) := goodIn_app (goodIn_of _ (by decide +kernel)) ggX5_grant_X2_faultOfGrant
set_option maxRecDepth 20000 in
theorem ggX5_grant_X5_requireFit : GoodIn wsX5_grant wsX5_requireFit := goodIn_ca (goodIn_ca (goodIn_r _ [43, 44, 45, 46, 47] (by decide +kernel) (by decide +kernel)) (goodIn_sub (fun _ h => List.mem_cons_of_mem _ (List.mem_append_left _ (List.mem_append_right _ h))) (by decide +kernel))) (goodIn_sub (fun _ h => List.mem_cons_of_mem _ (List.mem_append_right _ h)) (by decide +kernel))
set_option maxRecDepth 20000 in
theorem gX5_grant_X5_requireFit : GoodIn wsX5_grant (va_wsS RX5 96 yX5_requireFit wsX5_requireFit) := goodIn_app (goodIn_of _ (by decide +kernel)) ggX5_grant_X5_requireFit
set_option maxRecDepth 20000 in
theorem ggX5_grant_X1_keep : GoodIn wsX5_grant wsX1_keep := goodIn_r _ [52, 53, 54, 55, 56, 57, 51, 58, 59, 60, 61, 8, 62, 11, 10, 12, 63, 29, 64, 65, 66, 67, 68, 69, 70, 22, 71, 24, 40, 34, 35, 114, 115, 101, 102, 103, 104, 105, 106, 107, 108, 109, 110, 111, 112, 113] (by decide +kernel) (by decide +kernel)
set_option maxRecDepth 20000 in
theorem gX5_grant_X1_keep : GoodIn wsX5_grant (wsV RX5 64 RX1 yX1_keep wsX1_keep) := goodIn_app (goodIn_of _ (by decide +kernel)) ggX5_grant_X1_keep
set_option maxRecDepth 20000 in
theorem ggX5_grant_X2_lend : GoodIn wsX5_grant wsX2_lend := goodIn_r _ [75, 64, 12, 76, 77, 78, 22, 79, 24, 40, 80, 81, 82, 83, 34, 35, 84, 85, 86, 8, 87, 10, 29, 88, 89, 90, 91, 30, 31, 32, 33, 92, 93, 94, 95, 101, 102, 103, 104, 105, 106, 107, 108, 109, 110, 111, 112, 113] (by decide +kernel) (by decide +kernel)
set_option maxRecDepth 20000 in
theorem gX5_grant_X2_lend : GoodIn wsX5_grant (wsV RX5 101 RX2 yX2_lend wsX2_lend) := goodIn_app (goodIn_of _ (by decide +kernel)) ggX5_grant_X2_lend
theorem dX5_grant_0 : decode cX5_grant 0 = .ok (.aload_n 0, 1) := by decide +kernel
theorem dX5_grant_1 : decode cX5_grant 1 = .ok (.getfield 10, 3) := by decide +kernel
theorem dX5_grant_4 : decode cX5_grant 4 = .ok (.iload_n 1, 1) := by decide +kernel
theorem dX5_grant_5 : decode cX5_grant 5 = .ok (.iload_n 2, 1) := by decide +kernel
theorem dX5_grant_6 : decode cX5_grant 6 = .ok (.iload_n 3, 1) := by decide +kernel
theorem dX5_grant_7 : decode cX5_grant 7 = .ok (.iload 4, 2) := by decide +kernel
theorem dX5_grant_9 : decode cX5_grant 9 = .ok (.iload 5, 2) := by decide +kernel
theorem dX5_grant_11 : decode cX5_grant 11 = .ok (.invokevirtual 92, 3) := by decide +kernel
theorem dX5_grant_14 : decode cX5_grant 14 = .ok (.istore 6, 2) := by decide +kernel
theorem dX5_grant_16 : decode cX5_grant 16 = .ok (.iload 6, 2) := by decide +kernel
theorem dX5_grant_18 : decode cX5_grant 18 = .ok (.invokestatic 96, 3) := by decide +kernel
theorem dX5_grant_21 : decode cX5_grant 21 = .ok (.iload 6, 2) := by decide +kernel
theorem dX5_grant_23 : decode cX5_grant 23 = .ok (.iconst 3, 1) := by decide +kernel
theorem dX5_grant_24 : decode cX5_grant 24 = .ok (.if_icmp .ne 13, 3) := by decide +kernel
theorem dX5_grant_27 : decode cX5_grant 27 = .ok (.new 57, 3) := by decide +kernel
theorem dX5_grant_30 : decode cX5_grant 30 = .ok (.dup, 1) := by decide +kernel
theorem dX5_grant_31 : decode cX5_grant 31 = .ok (.ldc 99, 2) := by decide +kernel
theorem dX5_grant_33 : decode cX5_grant 33 = .ok (.invokespecial 61, 3) := by decide +kernel
theorem dX5_grant_36 : decode cX5_grant 36 = .ok (.athrow, 1) := by decide +kernel
theorem dX5_grant_37 : decode cX5_grant 37 = .ok (.aload_n 0, 1) := by decide +kernel
theorem dX5_grant_38 : decode cX5_grant 38 = .ok (.getfield 22, 3) := by decide +kernel
theorem dX5_grant_41 : decode cX5_grant 41 = .ok (.aload_n 0, 1) := by decide +kernel
theorem dX5_grant_42 : decode cX5_grant 42 = .ok (.getfield 10, 3) := by decide +kernel
theorem dX5_grant_45 : decode cX5_grant 45 = .ok (.invokevirtual 64, 3) := by decide +kernel
theorem dX5_grant_48 : decode cX5_grant 48 = .ok (.aload_n 0, 1) := by decide +kernel
theorem dX5_grant_49 : decode cX5_grant 49 = .ok (.getfield 10, 3) := by decide +kernel
theorem dX5_grant_52 : decode cX5_grant 52 = .ok (.iload_n 1, 1) := by decide +kernel
theorem dX5_grant_53 : decode cX5_grant 53 = .ok (.iload_n 2, 1) := by decide +kernel
theorem dX5_grant_54 : decode cX5_grant 54 = .ok (.iload_n 3, 1) := by decide +kernel
theorem dX5_grant_55 : decode cX5_grant 55 = .ok (.iload 4, 2) := by decide +kernel
theorem dX5_grant_57 : decode cX5_grant 57 = .ok (.iload 5, 2) := by decide +kernel
theorem dX5_grant_59 : decode cX5_grant 59 = .ok (.invokevirtual 101, 3) := by decide +kernel
theorem dX5_grant_62 : decode cX5_grant 62 = .ok (.ireturn, 1) := by decide +kernel
set_option maxRecDepth 20000 in
theorem ggX5_cheer_X5_requirePerson : GoodIn wsX5_cheer wsX5_requirePerson := goodIn_ca (goodIn_r _ [6, 7, 8, 9, 10, 5, 11, 12, 13, 14] (by decide +kernel) (by decide +kernel)) (goodIn_sub (fun _ h => List.mem_cons_of_mem _ (List.mem_append_left _ (List.mem_append_right _ h))) (by decide +kernel))
set_option maxRecDepth 20000 in
theorem gX5_cheer_X5_requirePerson : GoodIn wsX5_cheer (va_wsS RX5 40 yX5_requirePerson wsX5_requirePerson) := goodIn_app (goodIn_of _ (by decide +kernel)) ggX5_cheer_X5_requirePerson
set_option maxRecDepth 20000 in
theorem ggX5_cheer_X5_requireRange : GoodIn wsX5_cheer wsX5_requireRange := goodIn_ca (goodIn_r _ [17, 18, 19, 12, 13, 5, 14] (by decide +kernel) (by decide +kernel)) (goodIn_sub (fun _ h => List.mem_cons_of_mem _ (List.mem_append_right _ h)) (by decide +kernel))
set_option maxRecDepth 20000 in
theorem gX5_cheer_X5_requireRange : GoodIn wsX5_cheer (va_wsS RX5 79 yX5_requireRange wsX5_requireRange) := goodIn_app (goodIn_of _ (by decide +kernel)) ggX5_cheer_X5_requireRange
set_option maxRecDepth 20000 in
theorem ggX5_cheer_X1_keep : GoodIn wsX5_cheer wsX1_keep := goodIn_r _ [24, 25, 26, 27, 28, 29, 23, 30, 31, 32, 33, 34, 35, 36, 37, 38, 39, 40, 41, 42, 43, 44, 45, 46, 47, 48, 49, 50, 51, 52, 53, 114, 115, 116, 117, 118, 119, 120, 121, 122, 123, 124, 125, 126, 127, 128] (by decide +kernel) (by decide +kernel)
set_option maxRecDepth 20000 in
theorem gX5_cheer_X1_keep : GoodIn wsX5_cheer (wsV RX5 64 RX1 yX1_keep wsX1_keep) := goodIn_app (goodIn_of _ (by decide +kernel)) ggX5_cheer_X1_keep
set_option maxRecDepth 20000 in
theorem ggX5_cheer_X2_changeMood : GoodIn wsX5_cheer wsX2_changeMood := goodIn_r _ [57, 36, 58, 59, 60, 61, 62, 63, 64, 65, 66, 67, 48, 68, 50, 52, 53, 69, 70, 71, 72, 73, 74, 75, 34, 76, 38, 42, 77, 78, 79, 80, 81, 82, 83, 84, 85, 86, 87, 88, 39, 44, 89, 90, 91, 92, 51, 93, 94, 95, 96, 97, 98, 99, 100, 101, 102, 103, 104, 37, 40, 105, 106, 107, 108, 116, 117, 118, 119, 120, 121, 122, 123, 124, 125, 126, 127, 128] (by decide +kernel) (by decide +kernel)
set_option maxRecDepth 20000 in
theorem gX5_cheer_X2_changeMood : GoodIn wsX5_cheer (wsV RX5 111 RX2 yX2_changeMood wsX2_changeMood) := goodIn_app (goodIn_of _ (by decide +kernel)) ggX5_cheer_X2_changeMood
theorem dX5_cheer_0 : decode cX5_cheer 0 = .ok (.iload_n 1, 1) := by decide +kernel
theorem dX5_cheer_1 : decode cX5_cheer 1 = .ok (.invokestatic 40, 3) := by decide +kernel
theorem dX5_cheer_4 : decode cX5_cheer 4 = .ok (.iload_n 2, 1) := by decide +kernel
theorem dX5_cheer_5 : decode cX5_cheer 5 = .ok (.bipush (-100), 2) := by decide +kernel
theorem dX5_cheer_7 : decode cX5_cheer 7 = .ok (.bipush 100, 2) := by decide +kernel
theorem dX5_cheer_9 : decode cX5_cheer 9 = .ok (.invokestatic 79, 3) := by decide +kernel
theorem dX5_cheer_12 : decode cX5_cheer 12 = .ok (.aload_n 0, 1) := by decide +kernel
theorem dX5_cheer_13 : decode cX5_cheer 13 = .ok (.getfield 22, 3) := by decide +kernel
theorem dX5_cheer_16 : decode cX5_cheer 16 = .ok (.aload_n 0, 1) := by decide +kernel
theorem dX5_cheer_17 : decode cX5_cheer 17 = .ok (.getfield 10, 3) := by decide +kernel
theorem dX5_cheer_20 : decode cX5_cheer 20 = .ok (.invokevirtual 64, 3) := by decide +kernel
theorem dX5_cheer_23 : decode cX5_cheer 23 = .ok (.aload_n 0, 1) := by decide +kernel
theorem dX5_cheer_24 : decode cX5_cheer 24 = .ok (.getfield 10, 3) := by decide +kernel
theorem dX5_cheer_27 : decode cX5_cheer 27 = .ok (.iload_n 1, 1) := by decide +kernel
theorem dX5_cheer_28 : decode cX5_cheer 28 = .ok (.iload_n 2, 1) := by decide +kernel
theorem dX5_cheer_29 : decode cX5_cheer 29 = .ok (.invokevirtual 111, 3) := by decide +kernel
theorem dX5_cheer_32 : decode cX5_cheer 32 = .ok (.ireturn, 1) := by decide +kernel
set_option maxRecDepth 20000 in
theorem ggX5_pass_X5_requireRange : GoodIn wsX5_pass wsX5_requireRange := goodIn_ca (goodIn_r _ [8, 9, 10, 11, 12, 7, 13] (by decide +kernel) (by decide +kernel)) (goodIn_sub (fun _ h => List.mem_cons_of_mem _ (List.mem_append_right _ h)) (by decide +kernel))
set_option maxRecDepth 20000 in
theorem gX5_pass_X5_requireRange : GoodIn wsX5_pass (va_wsS RX5 79 yX5_requireRange wsX5_requireRange) := goodIn_app (goodIn_of _ (by decide +kernel)) ggX5_pass_X5_requireRange
set_option maxRecDepth 20000 in
theorem ggX5_pass_X2_hasTimeFor : GoodIn wsX5_pass wsX2_hasTimeFor := goodIn_r _ [18, 19, 20, 110, 111, 112, 113, 114, 115, 116, 117, 118] (by decide +kernel) (by decide +kernel)
set_option maxRecDepth 20000 in
theorem gX5_pass_X2_hasTimeFor : GoodIn wsX5_pass (wsV RX5 114 RX2 yX2_hasTimeFor wsX2_hasTimeFor) := goodIn_app (goodIn_of _ (by decide +kernel)) ggX5_pass_X2_hasTimeFor
set_option maxRecDepth 20000 in
theorem ggX5_pass_X1_keep : GoodIn wsX5_pass wsX1_keep := goodIn_r _ [25, 26, 27, 28, 29, 30, 24, 31, 32, 33, 34, 17, 35, 36, 37, 38, 39, 40, 41, 42, 43, 19, 44, 45, 46, 47, 48, 49, 50, 51, 52, 119, 120, 110, 111, 112, 113, 114, 115, 116, 117, 118, 121, 122, 123, 124] (by decide +kernel) (by decide +kernel)
set_option maxRecDepth 20000 in
theorem gX5_pass_X1_keep : GoodIn wsX5_pass (wsV RX5 64 RX1 yX1_keep wsX1_keep) := goodIn_app (goodIn_of _ (by decide +kernel)) ggX5_pass_X1_keep
set_option maxRecDepth 20000 in
theorem ggX5_pass_X2_letPass : GoodIn wsX5_pass wsX2_letPass := goodIn_r _ [56, 19, 57, 58, 59, 17, 60, 36, 61, 62, 63, 47, 64, 49, 51, 52, 65, 66, 67, 68, 69, 70, 71, 72, 38, 42, 73, 74, 75, 76, 77, 78, 79, 80, 81, 82, 83, 84, 39, 85, 86, 87, 88, 50, 89, 90, 91, 92, 93, 94, 95, 96, 97, 98, 99, 100, 37, 40, 101, 102, 103, 104, 110, 111, 112, 113, 114, 115, 116, 117, 118, 121, 122, 123, 124] (by decide +kernel) (by decide +kernel)
set_option maxRecDepth 20000 in
theorem gX5_pass_X2_letPass : GoodIn wsX5_pass (wsV RX5 120 RX2 yX2_letPass wsX2_letPass) := goodIn_app (goodIn_of _ (by decide +kernel)) ggX5_pass_X2_letPass
theorem dX5_pass_0 : decode cX5_pass 0 = .ok (.iload_n 1, 1) := by decide +kernel
theorem dX5_pass_1 : decode cX5_pass 1 = .ok (.iconst 1, 1) := by decide +kernel
theorem dX5_pass_2 : decode cX5_pass 2 = .ok (.bipush 100, 2) := by decide +kernel
theorem dX5_pass_4 : decode cX5_pass 4 = .ok (.invokestatic 79, 3) := by decide +kernel
theorem dX5_pass_7 : decode cX5_pass 7 = .ok (.aload_n 0, 1) := by decide +kernel
theorem dX5_pass_8 : decode cX5_pass 8 = .ok (.getfield 10, 3) := by decide +kernel
theorem dX5_pass_11 : decode cX5_pass 11 = .ok (.iload_n 1, 1) := by decide +kernel
theorem dX5_pass_12 : decode cX5_pass 12 = .ok (.invokevirtual 114, 3) := by decide +kernel
theorem dX5_pass_15 : decode cX5_pass 15 = .ok (.ifCond .ne 13, 3) := by decide +kernel
theorem dX5_pass_18 : decode cX5_pass 18 = .ok (.new 57, 3) := by decide +kernel
theorem dX5_pass_21 : decode cX5_pass 21 = .ok (.dup, 1) := by decide +kernel
theorem dX5_pass_22 : decode cX5_pass 22 = .ok (.ldc 118, 2) := by decide +kernel
theorem dX5_pass_24 : decode cX5_pass 24 = .ok (.invokespecial 61, 3) := by decide +kernel
theorem dX5_pass_27 : decode cX5_pass 27 = .ok (.athrow, 1) := by decide +kernel
theorem dX5_pass_28 : decode cX5_pass 28 = .ok (.aload_n 0, 1) := by decide +kernel
theorem dX5_pass_29 : decode cX5_pass 29 = .ok (.getfield 22, 3) := by decide +kernel
theorem dX5_pass_32 : decode cX5_pass 32 = .ok (.aload_n 0, 1) := by decide +kernel
theorem dX5_pass_33 : decode cX5_pass 33 = .ok (.getfield 10, 3) := by decide +kernel
theorem dX5_pass_36 : decode cX5_pass 36 = .ok (.invokevirtual 64, 3) := by decide +kernel
theorem dX5_pass_39 : decode cX5_pass 39 = .ok (.aload_n 0, 1) := by decide +kernel
theorem dX5_pass_40 : decode cX5_pass 40 = .ok (.getfield 10, 3) := by decide +kernel
theorem dX5_pass_43 : decode cX5_pass 43 = .ok (.iload_n 1, 1) := by decide +kernel
theorem dX5_pass_44 : decode cX5_pass 44 = .ok (.invokevirtual 120, 3) := by decide +kernel
theorem dX5_pass_47 : decode cX5_pass 47 = .ok (.ireturn, 1) := by decide +kernel
set_option maxRecDepth 20000 in
theorem ggX5_held_X5_requirePerson : GoodIn wsX5_held wsX5_requirePerson := goodIn_ca (goodIn_r _ [5, 6, 7, 8, 9, 4, 10, 11, 12, 13] (by decide +kernel) (by decide +kernel)) (goodIn_sub (fun _ h => List.mem_cons_of_mem _ (List.mem_append_right _ h)) (by decide +kernel))
set_option maxRecDepth 20000 in
theorem gX5_held_X5_requirePerson : GoodIn wsX5_held (va_wsS RX5 40 yX5_requirePerson wsX5_requirePerson) := goodIn_app (goodIn_of _ (by decide +kernel)) ggX5_held_X5_requirePerson
set_option maxRecDepth 20000 in
theorem ggX5_held_X5_requireThing : GoodIn wsX5_held wsX5_requireThing := goodIn_ca (goodIn_r _ [17, 6, 7, 1, 18, 19, 20, 21, 22, 23, 24, 37, 38, 39, 40, 41, 42, 43, 44, 45, 46, 47, 48, 49, 50, 51, 52, 53, 54] (by decide +kernel) (by decide +kernel)) (goodIn_sub (fun _ h => List.mem_cons_of_mem _ (List.mem_append_right _ h)) (by decide +kernel))
set_option maxRecDepth 20000 in
theorem gX5_held_X5_requireThing : GoodIn wsX5_held (wsV RX5 72 RX5 yX5_requireThing wsX5_requireThing) := goodIn_app (goodIn_of _ (by decide +kernel)) ggX5_held_X5_requireThing
set_option maxRecDepth 20000 in
theorem ggX5_held_X2_rightsOf : GoodIn wsX5_held wsX2_rightsOf := goodIn_r _ [29, 30, 31, 32, 33, 22, 34, 24, 35, 36, 42, 43, 44, 45, 46, 47, 48, 49, 50, 51, 52, 53, 54] (by decide +kernel) (by decide +kernel)
set_option maxRecDepth 20000 in
theorem gX5_held_X2_rightsOf : GoodIn wsX5_held (wsV RX5 123 RX2 yX2_rightsOf wsX2_rightsOf) := goodIn_app (goodIn_of _ (by decide +kernel)) ggX5_held_X2_rightsOf
theorem dX5_held_0 : decode cX5_held 0 = .ok (.iload_n 1, 1) := by decide +kernel
theorem dX5_held_1 : decode cX5_held 1 = .ok (.invokestatic 40, 3) := by decide +kernel
theorem dX5_held_4 : decode cX5_held 4 = .ok (.aload_n 0, 1) := by decide +kernel
theorem dX5_held_5 : decode cX5_held 5 = .ok (.iload_n 2, 1) := by decide +kernel
theorem dX5_held_6 : decode cX5_held 6 = .ok (.invokevirtual 72, 3) := by decide +kernel
theorem dX5_held_9 : decode cX5_held 9 = .ok (.aload_n 0, 1) := by decide +kernel
theorem dX5_held_10 : decode cX5_held 10 = .ok (.getfield 10, 3) := by decide +kernel
theorem dX5_held_13 : decode cX5_held 13 = .ok (.iload_n 1, 1) := by decide +kernel
theorem dX5_held_14 : decode cX5_held 14 = .ok (.iload_n 2, 1) := by decide +kernel
theorem dX5_held_15 : decode cX5_held 15 = .ok (.invokevirtual 123, 3) := by decide +kernel
theorem dX5_held_18 : decode cX5_held 18 = .ok (.ireturn, 1) := by decide +kernel
set_option maxRecDepth 20000 in
theorem ggX5_person_X5_requirePerson : GoodIn wsX5_person wsX5_requirePerson := goodIn_ca (goodIn_r _ [5, 6, 7, 8, 9, 4, 10, 11, 12, 13] (by decide +kernel) (by decide +kernel)) (goodIn_sub (fun _ h => List.mem_cons_of_mem _ (List.mem_append_left _ (List.mem_append_right _ h))) (by decide +kernel))
set_option maxRecDepth 20000 in
theorem gX5_person_X5_requirePerson : GoodIn wsX5_person (va_wsS RX5 40 yX5_requirePerson wsX5_requirePerson) := goodIn_app (goodIn_of _ (by decide +kernel)) ggX5_person_X5_requirePerson
set_option maxRecDepth 20000 in
theorem ggX5_person_X5_requireRange : GoodIn wsX5_person wsX5_requireRange := goodIn_ca (goodIn_r _ [16, 17, 18, 11, 12, 4, 13] (by decide +kernel) (by decide +kernel)) (goodIn_sub (fun _ h => List.mem_cons_of_mem _ (List.mem_append_right _ h)) (by decide +kernel))
set_option maxRecDepth 20000 in
theorem gX5_person_X5_requireRange : GoodIn wsX5_person (va_wsS RX5 79 yX5_requireRange wsX5_requireRange) := goodIn_app (goodIn_of _ (by decide +kernel)) ggX5_person_X5_requireRange
set_option maxRecDepth 20000 in
theorem ggX5_person_X2_aboutPerson : GoodIn wsX5_person wsX2_aboutPerson := goodIn_r _ [23, 24, 25, 26, 27, 28, 29, 30, 31, 32, 33, 34, 35, 36, 22, 37, 38, 39, 40, 41, 42, 43, 44, 45, 46, 47, 48, 49, 50, 51, 52, 53, 59, 60, 61, 62, 63, 64, 65, 66, 67, 68, 69, 70, 71] (by decide +kernel) (by decide +kernel)
set_option maxRecDepth 20000 in
theorem gX5_person_X2_aboutPerson : GoodIn wsX5_person (wsV RX5 126 RX2 yX2_aboutPerson wsX2_aboutPerson) := goodIn_app (goodIn_of _ (by decide +kernel)) ggX5_person_X2_aboutPerson
