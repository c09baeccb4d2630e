theorem dX0_init_0 : decode cX0_init 0 = .ok (.aload_n 0, 1) := by decide +kernel
theorem dX0_init_1 : decode cX0_init 1 = .ok (.invokespecial 3, 3) := by decide +kernel
theorem dX0_init_4 : decode cX0_init 4 = .ok (.aload_n 0, 1) := by decide +kernel
theorem dX0_init_5 : decode cX0_init 5 = .ok (.iconst 5, 1) := by decide +kernel
theorem dX0_init_6 : decode cX0_init 6 = .ok (.newarray .long, 2) := by decide +kernel
theorem dX0_init_8 : decode cX0_init 8 = .ok (.putfield 9, 3) := by decide +kernel
theorem dX0_init_11 : decode cX0_init 11 = .ok (.aload_n 0, 1) := by decide +kernel
theorem dX0_init_12 : decode cX0_init 12 = .ok (.lconst 0, 1) := by decide +kernel
theorem dX0_init_13 : decode cX0_init 13 = .ok (.putfield 15, 3) := by decide +kernel
theorem dX0_init_16 : decode cX0_init 16 = .ok (.aload_n 0, 1) := by decide +kernel
theorem dX0_init_17 : decode cX0_init 17 = .ok (.lconst 1, 1) := by decide +kernel
theorem dX0_init_18 : decode cX0_init 18 = .ok (.putfield 19, 3) := by decide +kernel
theorem dX0_init_21 : decode cX0_init 21 = .ok (.aload_n 0, 1) := by decide +kernel
theorem dX0_init_22 : decode cX0_init 22 = .ok (.iconst 3, 1) := by decide +kernel
theorem dX0_init_23 : decode cX0_init 23 = .ok (.putfield 22, 3) := by decide +kernel
theorem dX0_init_26 : decode cX0_init 26 = .ok (.return_, 1) := by decide +kernel
set_option maxRecDepth 20000 in
theorem ggX0_accept_X5_isEndless : GoodIn wsX0_accept wsX5_isEndless := goodIn_r _ [11, 12, 28, 29, 30, 31, 32, 33, 34, 35, 36, 37] (by decide +kernel) (by decide +kernel)
set_option maxRecDepth 20000 in
theorem gX0_accept_X5_isEndless : GoodIn wsX0_accept (wsV RX0 26 RX5 yX5_isEndless wsX5_isEndless) := goodIn_app (goodIn_of _ (by decide +kernel)) ggX0_accept_X5_isEndless
set_option maxRecDepth 20000 in
theorem ggX0_accept_X5_costAbove : GoodIn wsX0_accept wsX5_costAbove := goodIn_r _ [16, 17, 28, 29, 30, 31, 32, 33, 34, 35, 36, 37] (by decide +kernel) (by decide +kernel)
set_option maxRecDepth 20000 in
theorem gX0_accept_X5_costAbove : GoodIn wsX0_accept (wsV RX0 33 RX5 yX5_costAbove wsX5_costAbove) := goodIn_app (goodIn_of _ (by decide +kernel)) ggX0_accept_X5_costAbove
set_option maxRecDepth 20000 in
theorem ggX0_accept_X5_valueAbove : GoodIn wsX0_accept wsX5_valueAbove := goodIn_r _ [21, 22, 23, 17, 28, 29, 30, 31, 32, 33, 34, 35, 36, 37] (by decide +kernel) (by decide +kernel)
set_option maxRecDepth 20000 in
theorem gX0_accept_X5_valueAbove : GoodIn wsX0_accept (wsV RX0 40 RX5 yX5_valueAbove wsX5_valueAbove) := goodIn_app (goodIn_of _ (by decide +kernel)) ggX0_accept_X5_valueAbove
theorem dX0_accept_0 : decode cX0_accept 0 = .ok (.aload_n 0, 1) := by decide +kernel
theorem dX0_accept_1 : decode cX0_accept 1 = .ok (.aload_n 1, 1) := by decide +kernel
theorem dX0_accept_2 : decode cX0_accept 2 = .ok (.invokevirtual 26, 3) := by decide +kernel
theorem dX0_accept_5 : decode cX0_accept 5 = .ok (.ifCond .eq 7, 3) := by decide +kernel
theorem dX0_accept_8 : decode cX0_accept 8 = .ok (.iconst 2, 1) := by decide +kernel
theorem dX0_accept_9 : decode cX0_accept 9 = .ok (.goto 4, 3) := by decide +kernel
theorem dX0_accept_12 : decode cX0_accept 12 = .ok (.iconst 0, 1) := by decide +kernel
theorem dX0_accept_13 : decode cX0_accept 13 = .ok (.putfield 22, 3) := by decide +kernel
theorem dX0_accept_16 : decode cX0_accept 16 = .ok (.aload_n 0, 1) := by decide +kernel
theorem dX0_accept_17 : decode cX0_accept 17 = .ok (.aload_n 1, 1) := by decide +kernel
theorem dX0_accept_18 : decode cX0_accept 18 = .ok (.getfield 32, 3) := by decide +kernel
theorem dX0_accept_21 : decode cX0_accept 21 = .ok (.putfield 19, 3) := by decide +kernel
theorem dX0_accept_24 : decode cX0_accept 24 = .ok (.aload_n 0, 1) := by decide +kernel
theorem dX0_accept_25 : decode cX0_accept 25 = .ok (.aload_n 1, 1) := by decide +kernel
theorem dX0_accept_26 : decode cX0_accept 26 = .ok (.invokevirtual 33, 3) := by decide +kernel
theorem dX0_accept_29 : decode cX0_accept 29 = .ok (.putfield 15, 3) := by decide +kernel
theorem dX0_accept_32 : decode cX0_accept 32 = .ok (.iconst 0, 1) := by decide +kernel
theorem dX0_accept_33 : decode cX0_accept 33 = .ok (.istore_n 2, 1) := by decide +kernel
theorem dX0_accept_34 : decode cX0_accept 34 = .ok (.iload_n 2, 1) := by decide +kernel
theorem dX0_accept_35 : decode cX0_accept 35 = .ok (.iconst 5, 1) := by decide +kernel
theorem dX0_accept_36 : decode cX0_accept 36 = .ok (.if_icmp .ge 32, 3) := by decide +kernel
theorem dX0_accept_39 : decode cX0_accept 39 = .ok (.aload_n 0, 1) := by decide +kernel
theorem dX0_accept_40 : decode cX0_accept 40 = .ok (.getfield 9, 3) := by decide +kernel
theorem dX0_accept_43 : decode cX0_accept 43 = .ok (.iload_n 2, 1) := by decide +kernel
theorem dX0_accept_44 : decode cX0_accept 44 = .ok (.iload_n 2, 1) := by decide +kernel
theorem dX0_accept_45 : decode cX0_accept 45 = .ok (.aload_n 1, 1) := by decide +kernel
theorem dX0_accept_46 : decode cX0_accept 46 = .ok (.getfield 37, 3) := by decide +kernel
theorem dX0_accept_49 : decode cX0_accept 49 = .ok (.if_icmp .ge 11, 3) := by decide +kernel
theorem dX0_accept_52 : decode cX0_accept 52 = .ok (.aload_n 1, 1) := by decide +kernel
theorem dX0_accept_53 : decode cX0_accept 53 = .ok (.iload_n 2, 1) := by decide +kernel
theorem dX0_accept_54 : decode cX0_accept 54 = .ok (.invokevirtual 40, 3) := by decide +kernel
theorem dX0_accept_57 : decode cX0_accept 57 = .ok (.goto 4, 3) := by decide +kernel
theorem dX0_accept_60 : decode cX0_accept 60 = .ok (.lconst 0, 1) := by decide +kernel
theorem dX0_accept_61 : decode cX0_accept 61 = .ok (.lastore, 1) := by decide +kernel
theorem dX0_accept_62 : decode cX0_accept 62 = .ok (.iinc 2 1, 3) := by decide +kernel
theorem dX0_accept_65 : decode cX0_accept 65 = .ok (.goto (-31), 3) := by decide +kernel
theorem dX0_accept_68 : decode cX0_accept 68 = .ok (.return_, 1) := by decide +kernel
set_option maxRecDepth 20000 in
theorem ggX0_mayYieldTo_X5_isEndless : GoodIn wsX0_mayYieldTo wsX5_isEndless := goodIn_r _ [11, 12, 32, 33, 34, 35, 36, 37, 38, 39, 40, 41] (by decide +kernel) (by decide +kernel)
set_option maxRecDepth 20000 in
theorem gX0_mayYieldTo_X5_isEndless : GoodIn wsX0_mayYieldTo (wsV RX0 26 RX5 yX5_isEndless wsX5_isEndless) := goodIn_app (goodIn_of _ (by decide +kernel)) ggX0_mayYieldTo_X5_isEndless
set_option maxRecDepth 20000 in
theorem ggX0_mayYieldTo_X5_costAbove : GoodIn wsX0_mayYieldTo wsX5_costAbove := goodIn_r _ [16, 17, 32, 33, 34, 35, 36, 37, 38, 39, 40, 41] (by decide +kernel) (by decide +kernel)
set_option maxRecDepth 20000 in
theorem gX0_mayYieldTo_X5_costAbove : GoodIn wsX0_mayYieldTo (wsV RX0 33 RX5 yX5_costAbove wsX5_costAbove) := goodIn_app (goodIn_of _ (by decide +kernel)) ggX0_mayYieldTo_X5_costAbove
set_option maxRecDepth 20000 in
theorem ggX0_mayYieldTo_J13_compare_74951 : GoodIn wsX0_mayYieldTo wsJ13_compare_74951 := goodIn_r _ [21] (by decide +kernel) (by decide +kernel)
set_option maxRecDepth 20000 in
theorem gX0_mayYieldTo_J13_compare_74951 : GoodIn wsX0_mayYieldTo (va_wsS RX0 44 yJ13_compare_74951 wsJ13_compare_74951) := goodIn_app (goodIn_of _ (by decide +kernel)) ggX0_mayYieldTo_J13_compare_74951
set_option maxRecDepth 20000 in
theorem ggX0_mayYieldTo_X5_valueAbove : GoodIn wsX0_mayYieldTo wsX5_valueAbove := goodIn_r _ [25, 26, 27, 17, 32, 33, 34, 35, 36, 37, 38, 39, 40, 41] (by decide +kernel) (by decide +kernel)
set_option maxRecDepth 20000 in
theorem gX0_mayYieldTo_X5_valueAbove : GoodIn wsX0_mayYieldTo (wsV RX0 40 RX5 yX5_valueAbove wsX5_valueAbove) := goodIn_app (goodIn_of _ (by decide +kernel)) ggX0_mayYieldTo_X5_valueAbove
theorem dX0_mayYieldTo_0 : decode cX0_mayYieldTo 0 = .ok (.aload_n 0, 1) := by decide +kernel
theorem dX0_mayYieldTo_1 : decode cX0_mayYieldTo 1 = .ok (.getfield 22, 3) := by decide +kernel
theorem dX0_mayYieldTo_4 : decode cX0_mayYieldTo 4 = .ok (.ifCond .ne 10, 3) := by decide +kernel
theorem dX0_mayYieldTo_7 : decode cX0_mayYieldTo 7 = .ok (.aload_n 1, 1) := by decide +kernel
theorem dX0_mayYieldTo_8 : decode cX0_mayYieldTo 8 = .ok (.invokevirtual 26, 3) := by decide +kernel
theorem dX0_mayYieldTo_11 : decode cX0_mayYieldTo 11 = .ok (.ifCond .eq 17, 3) := by decide +kernel
theorem dX0_mayYieldTo_14 : decode cX0_mayYieldTo 14 = .ok (.aload_n 0, 1) := by decide +kernel
theorem dX0_mayYieldTo_15 : decode cX0_mayYieldTo 15 = .ok (.getfield 22, 3) := by decide +kernel
theorem dX0_mayYieldTo_18 : decode cX0_mayYieldTo 18 = .ok (.iconst 2, 1) := by decide +kernel
theorem dX0_mayYieldTo_19 : decode cX0_mayYieldTo 19 = .ok (.if_icmp .eq 7, 3) := by decide +kernel
theorem dX0_mayYieldTo_22 : decode cX0_mayYieldTo 22 = .ok (.iconst 1, 1) := by decide +kernel
theorem dX0_mayYieldTo_23 : decode cX0_mayYieldTo 23 = .ok (.goto 4, 3) := by decide +kernel
theorem dX0_mayYieldTo_26 : decode cX0_mayYieldTo 26 = .ok (.iconst 0, 1) := by decide +kernel
theorem dX0_mayYieldTo_27 : decode cX0_mayYieldTo 27 = .ok (.ireturn, 1) := by decide +kernel
theorem dX0_mayYieldTo_28 : decode cX0_mayYieldTo 28 = .ok (.aload_n 1, 1) := by decide +kernel
theorem dX0_mayYieldTo_29 : decode cX0_mayYieldTo 29 = .ok (.invokevirtual 33, 3) := by decide +kernel
theorem dX0_mayYieldTo_32 : decode cX0_mayYieldTo 32 = .ok (.aload_n 0, 1) := by decide +kernel
theorem dX0_mayYieldTo_33 : decode cX0_mayYieldTo 33 = .ok (.getfield 19, 3) := by decide +kernel
theorem dX0_mayYieldTo_36 : decode cX0_mayYieldTo 36 = .ok (.lmul, 1) := by decide +kernel
theorem dX0_mayYieldTo_37 : decode cX0_mayYieldTo 37 = .ok (.aload_n 0, 1) := by decide +kernel
theorem dX0_mayYieldTo_38 : decode cX0_mayYieldTo 38 = .ok (.getfield 15, 3) := by decide +kernel
theorem dX0_mayYieldTo_41 : decode cX0_mayYieldTo 41 = .ok (.aload_n 1, 1) := by decide +kernel
theorem dX0_mayYieldTo_42 : decode cX0_mayYieldTo 42 = .ok (.getfield 32, 3) := by decide +kernel
theorem dX0_mayYieldTo_45 : decode cX0_mayYieldTo 45 = .ok (.lmul, 1) := by decide +kernel
theorem dX0_mayYieldTo_46 : decode cX0_mayYieldTo 46 = .ok (.invokestatic 44, 3) := by decide +kernel
theorem dX0_mayYieldTo_49 : decode cX0_mayYieldTo 49 = .ok (.istore_n 2, 1) := by decide +kernel
theorem dX0_mayYieldTo_50 : decode cX0_mayYieldTo 50 = .ok (.iconst 0, 1) := by decide +kernel
theorem dX0_mayYieldTo_51 : decode cX0_mayYieldTo 51 = .ok (.istore_n 3, 1) := by decide +kernel
theorem dX0_mayYieldTo_52 : decode cX0_mayYieldTo 52 = .ok (.iload_n 3, 1) := by decide +kernel
theorem dX0_mayYieldTo_53 : decode cX0_mayYieldTo 53 = .ok (.aload_n 1, 1) := by decide +kernel
theorem dX0_mayYieldTo_54 : decode cX0_mayYieldTo 54 = .ok (.getfield 37, 3) := by decide +kernel
theorem dX0_mayYieldTo_57 : decode cX0_mayYieldTo 57 = .ok (.if_icmp .ge 38, 3) := by decide +kernel
theorem dX0_mayYieldTo_60 : decode cX0_mayYieldTo 60 = .ok (.iload_n 2, 1) := by decide +kernel
theorem dX0_mayYieldTo_61 : decode cX0_mayYieldTo 61 = .ok (.ifCond .ne 34, 3) := by decide +kernel
theorem dX0_mayYieldTo_64 : decode cX0_mayYieldTo 64 = .ok (.aload_n 1, 1) := by decide +kernel
theorem dX0_mayYieldTo_65 : decode cX0_mayYieldTo 65 = .ok (.iload_n 3, 1) := by decide +kernel
theorem dX0_mayYieldTo_66 : decode cX0_mayYieldTo 66 = .ok (.invokevirtual 40, 3) := by decide +kernel
theorem dX0_mayYieldTo_69 : decode cX0_mayYieldTo 69 = .ok (.aload_n 0, 1) := by decide +kernel
theorem dX0_mayYieldTo_70 : decode cX0_mayYieldTo 70 = .ok (.getfield 19, 3) := by decide +kernel
theorem dX0_mayYieldTo_73 : decode cX0_mayYieldTo 73 = .ok (.lmul, 1) := by decide +kernel
theorem dX0_mayYieldTo_74 : decode cX0_mayYieldTo 74 = .ok (.aload_n 0, 1) := by decide +kernel
theorem dX0_mayYieldTo_75 : decode cX0_mayYieldTo 75 = .ok (.getfield 9, 3) := by decide +kernel
theorem dX0_mayYieldTo_78 : decode cX0_mayYieldTo 78 = .ok (.iload_n 3, 1) := by decide +kernel
theorem dX0_mayYieldTo_79 : decode cX0_mayYieldTo 79 = .ok (.laload, 1) := by decide +kernel
theorem dX0_mayYieldTo_80 : decode cX0_mayYieldTo 80 = .ok (.aload_n 1, 1) := by decide +kernel
theorem dX0_mayYieldTo_81 : decode cX0_mayYieldTo 81 = .ok (.getfield 32, 3) := by decide +kernel
theorem dX0_mayYieldTo_84 : decode cX0_mayYieldTo 84 = .ok (.lmul, 1) := by decide +kernel
theorem dX0_mayYieldTo_85 : decode cX0_mayYieldTo 85 = .ok (.invokestatic 44, 3) := by decide +kernel
theorem dX0_mayYieldTo_88 : decode cX0_mayYieldTo 88 = .ok (.istore_n 2, 1) := by decide +kernel
theorem dX0_mayYieldTo_89 : decode cX0_mayYieldTo 89 = .ok (.iinc 3 1, 3) := by decide +kernel
theorem dX0_mayYieldTo_92 : decode cX0_mayYieldTo 92 = .ok (.goto (-40), 3) := by decide +kernel
theorem dX0_mayYieldTo_95 : decode cX0_mayYieldTo 95 = .ok (.iload_n 2, 1) := by decide +kernel
theorem dX0_mayYieldTo_96 : decode cX0_mayYieldTo 96 = .ok (.ifCond .ge 7, 3) := by decide +kernel
theorem dX0_mayYieldTo_99 : decode cX0_mayYieldTo 99 = .ok (.iconst 1, 1) := by decide +kernel
theorem dX0_mayYieldTo_100 : decode cX0_mayYieldTo 100 = .ok (.goto 4, 3) := by decide +kernel
theorem dX0_mayYieldTo_103 : decode cX0_mayYieldTo 103 = .ok (.iconst 0, 1) := by decide +kernel
theorem dX0_mayYieldTo_104 : decode cX0_mayYieldTo 104 = .ok (.ireturn, 1) := by decide +kernel
theorem dX1_init_0 : decode cX1_init 0 = .ok (.aload_n 0, 1) := by decide +kernel
theorem dX1_init_1 : decode cX1_init 1 = .ok (.invokespecial 3, 3) := by decide +kernel
theorem dX1_init_4 : decode cX1_init 4 = .ok (.aload_n 0, 1) := by decide +kernel
theorem dX1_init_5 : decode cX1_init 5 = .ok (.iconst 5, 1) := by decide +kernel
theorem dX1_init_6 : decode cX1_init 6 = .ok (.newarray .long, 2) := by decide +kernel
theorem dX1_init_8 : decode cX1_init 8 = .ok (.putfield 9, 3) := by decide +kernel
theorem dX1_init_11 : decode cX1_init 11 = .ok (.aload_n 0, 1) := by decide +kernel
theorem dX1_init_12 : decode cX1_init 12 = .ok (.bipush 7, 2) := by decide +kernel
theorem dX1_init_14 : decode cX1_init 14 = .ok (.newarray .int, 2) := by decide +kernel
theorem dX1_init_16 : decode cX1_init 16 = .ok (.putfield 15, 3) := by decide +kernel
theorem dX1_init_19 : decode cX1_init 19 = .ok (.aload_n 0, 1) := by decide +kernel
theorem dX1_init_20 : decode cX1_init 20 = .ok (.lconst 1, 1) := by decide +kernel
theorem dX1_init_21 : decode cX1_init 21 = .ok (.putfield 19, 3) := by decide +kernel
theorem dX1_init_24 : decode cX1_init 24 = .ok (.aload_n 0, 1) := by decide +kernel
theorem dX1_init_25 : decode cX1_init 25 = .ok (.iconst 1, 1) := by decide +kernel
theorem dX1_init_26 : decode cX1_init 26 = .ok (.putfield 23, 3) := by decide +kernel
theorem dX1_init_29 : decode cX1_init 29 = .ok (.return_, 1) := by decide +kernel
set_option maxRecDepth 20000 in
theorem ggX1_grasp_X6_commonDivisor : GoodIn wsX1_grasp wsX6_commonDivisor := goodIn_r _ [7, 8, 9, 10, 11] (by decide +kernel) (by decide +kernel)
set_option maxRecDepth 20000 in
theorem gX1_grasp_X6_commonDivisor_n35 : GoodIn wsX1_grasp (wsX6_commonDivisor) := ggX1_grasp_X6_commonDivisor
theorem dX1_grasp_0 : decode cX1_grasp 0 = .ok (.aload_n 1, 1) := by decide +kernel
theorem dX1_grasp_1 : decode cX1_grasp 1 = .ok (.getfield 27, 3) := by decide +kernel
theorem dX1_grasp_4 : decode cX1_grasp 4 = .ok (.lstore_n 2, 1) := by decide +kernel
theorem dX1_grasp_5 : decode cX1_grasp 5 = .ok (.iconst 0, 1) := by decide +kernel
theorem dX1_grasp_6 : decode cX1_grasp 6 = .ok (.istore 4, 2) := by decide +kernel
theorem dX1_grasp_8 : decode cX1_grasp 8 = .ok (.iload 4, 2) := by decide +kernel
theorem dX1_grasp_10 : decode cX1_grasp 10 = .ok (.iconst 5, 1) := by decide +kernel
theorem dX1_grasp_11 : decode cX1_grasp 11 = .ok (.if_icmp .ge 21, 3) := by decide +kernel
theorem dX1_grasp_14 : decode cX1_grasp 14 = .ok (.lload_n 2, 1) := by decide +kernel
theorem dX1_grasp_15 : decode cX1_grasp 15 = .ok (.aload_n 1, 1) := by decide +kernel
theorem dX1_grasp_16 : decode cX1_grasp 16 = .ok (.getfield 32, 3) := by decide +kernel
theorem dX1_grasp_19 : decode cX1_grasp 19 = .ok (.iload 4, 2) := by decide +kernel
theorem dX1_grasp_21 : decode cX1_grasp 21 = .ok (.laload, 1) := by decide +kernel
theorem dX1_grasp_22 : decode cX1_grasp 22 = .ok (.invokestatic 35, 3) := by decide +kernel
theorem dX1_grasp_25 : decode cX1_grasp 25 = .ok (.lstore_n 2, 1) := by decide +kernel
theorem dX1_grasp_26 : decode cX1_grasp 26 = .ok (.iinc 4 1, 3) := by decide +kernel
theorem dX1_grasp_29 : decode cX1_grasp 29 = .ok (.goto (-21), 3) := by decide +kernel
theorem dX1_grasp_32 : decode cX1_grasp 32 = .ok (.lload_n 2, 1) := by decide +kernel
theorem dX1_grasp_33 : decode cX1_grasp 33 = .ok (.lconst 0, 1) := by decide +kernel
theorem dX1_grasp_34 : decode cX1_grasp 34 = .ok (.lcmp, 1) := by decide +kernel
theorem dX1_grasp_35 : decode cX1_grasp 35 = .ok (.ifCond .ne 4, 3) := by decide +kernel
theorem dX1_grasp_38 : decode cX1_grasp 38 = .ok (.return_, 1) := by decide +kernel
theorem dX1_grasp_39 : decode cX1_grasp 39 = .ok (.iconst 0, 1) := by decide +kernel
theorem dX1_grasp_40 : decode cX1_grasp 40 = .ok (.istore 4, 2) := by decide +kernel
theorem dX1_grasp_42 : decode cX1_grasp 42 = .ok (.iload 4, 2) := by decide +kernel
theorem dX1_grasp_44 : decode cX1_grasp 44 = .ok (.iconst 5, 1) := by decide +kernel
theorem dX1_grasp_45 : decode cX1_grasp 45 = .ok (.if_icmp .ge 25, 3) := by decide +kernel
theorem dX1_grasp_48 : decode cX1_grasp 48 = .ok (.aload_n 0, 1) := by decide +kernel
theorem dX1_grasp_49 : decode cX1_grasp 49 = .ok (.getfield 9, 3) := by decide +kernel
theorem dX1_grasp_52 : decode cX1_grasp 52 = .ok (.iload 4, 2) := by decide +kernel
theorem dX1_grasp_54 : decode cX1_grasp 54 = .ok (.aload_n 1, 1) := by decide +kernel
theorem dX1_grasp_55 : decode cX1_grasp 55 = .ok (.getfield 32, 3) := by decide +kernel
theorem dX1_grasp_58 : decode cX1_grasp 58 = .ok (.iload 4, 2) := by decide +kernel
theorem dX1_grasp_60 : decode cX1_grasp 60 = .ok (.laload, 1) := by decide +kernel
theorem dX1_grasp_61 : decode cX1_grasp 61 = .ok (.lload_n 2, 1) := by decide +kernel
theorem dX1_grasp_62 : decode cX1_grasp 62 = .ok (.ldiv, 1) := by decide +kernel
theorem dX1_grasp_63 : decode cX1_grasp 63 = .ok (.lastore, 1) := by decide +kernel
theorem dX1_grasp_64 : decode cX1_grasp 64 = .ok (.iinc 4 1, 3) := by decide +kernel
theorem dX1_grasp_67 : decode cX1_grasp 67 = .ok (.goto (-25), 3) := by decide +kernel
theorem dX1_grasp_70 : decode cX1_grasp 70 = .ok (.aload_n 0, 1) := by decide +kernel
theorem dX1_grasp_71 : decode cX1_grasp 71 = .ok (.aload_n 1, 1) := by decide +kernel
theorem dX1_grasp_72 : decode cX1_grasp 72 = .ok (.getfield 27, 3) := by decide +kernel
theorem dX1_grasp_75 : decode cX1_grasp 75 = .ok (.lload_n 2, 1) := by decide +kernel
theorem dX1_grasp_76 : decode cX1_grasp 76 = .ok (.ldiv, 1) := by decide +kernel
theorem dX1_grasp_77 : decode cX1_grasp 77 = .ok (.putfield 19, 3) := by decide +kernel
theorem dX1_grasp_80 : decode cX1_grasp 80 = .ok (.return_, 1) := by decide +kernel
theorem dX1_isAtLeastOf_0 : decode cX1_isAtLeastOf 0 = .ok (.aload_n 0, 1) := by decide +kernel
theorem dX1_isAtLeastOf_1 : decode cX1_isAtLeastOf 1 = .ok (.getfield 9, 3) := by decide +kernel
theorem dX1_isAtLeastOf_4 : decode cX1_isAtLeastOf 4 = .ok (.iload_n 2, 1) := by decide +kernel
theorem dX1_isAtLeastOf_5 : decode cX1_isAtLeastOf 5 = .ok (.laload, 1) := by decide +kernel
theorem dX1_isAtLeastOf_6 : decode cX1_isAtLeastOf 6 = .ok (.aload_n 1, 1) := by decide +kernel
theorem dX1_isAtLeastOf_7 : decode cX1_isAtLeastOf 7 = .ok (.getfield 39, 3) := by decide +kernel
theorem dX1_isAtLeastOf_10 : decode cX1_isAtLeastOf 10 = .ok (.iload_n 2, 1) := by decide +kernel
theorem dX1_isAtLeastOf_11 : decode cX1_isAtLeastOf 11 = .ok (.iaload, 1) := by decide +kernel
theorem dX1_isAtLeastOf_12 : decode cX1_isAtLeastOf 12 = .ok (.i2l, 1) := by decide +kernel
theorem dX1_isAtLeastOf_13 : decode cX1_isAtLeastOf 13 = .ok (.aload_n 0, 1) := by decide +kernel
theorem dX1_isAtLeastOf_14 : decode cX1_isAtLeastOf 14 = .ok (.getfield 19, 3) := by decide +kernel
theorem dX1_isAtLeastOf_17 : decode cX1_isAtLeastOf 17 = .ok (.lmul, 1) := by decide +kernel
theorem dX1_isAtLeastOf_18 : decode cX1_isAtLeastOf 18 = .ok (.lcmp, 1) := by decide +kernel
theorem dX1_isAtLeastOf_19 : decode cX1_isAtLeastOf 19 = .ok (.ifCond .ne 7, 3) := by decide +kernel
theorem dX1_isAtLeastOf_22 : decode cX1_isAtLeastOf 22 = .ok (.iconst 1, 1) := by decide +kernel
theorem dX1_isAtLeastOf_23 : decode cX1_isAtLeastOf 23 = .ok (.goto 4, 3) := by decide +kernel
theorem dX1_isAtLeastOf_26 : decode cX1_isAtLeastOf 26 = .ok (.iconst 0, 1) := by decide +kernel
theorem dX1_isAtLeastOf_27 : decode cX1_isAtLeastOf 27 = .ok (.ireturn, 1) := by decide +kernel
theorem dX1_isAtGreatestOf_0 : decode cX1_isAtGreatestOf 0 = .ok (.aload_n 1, 1) := by decide +kernel
theorem dX1_isAtGreatestOf_1 : decode cX1_isAtGreatestOf 1 = .ok (.getfield 44, 3) := by decide +kernel
theorem dX1_isAtGreatestOf_4 : decode cX1_isAtGreatestOf 4 = .ok (.iload_n 2, 1) := by decide +kernel
theorem dX1_isAtGreatestOf_5 : decode cX1_isAtGreatestOf 5 = .ok (.iaload, 1) := by decide +kernel
theorem dX1_isAtGreatestOf_6 : decode cX1_isAtGreatestOf 6 = .ok (.ldc 47, 2) := by decide +kernel
theorem dX1_isAtGreatestOf_8 : decode cX1_isAtGreatestOf 8 = .ok (.if_icmp .eq 29, 3) := by decide +kernel
theorem dX1_isAtGreatestOf_11 : decode cX1_isAtGreatestOf 11 = .ok (.aload_n 0, 1) := by decide +kernel
theorem dX1_isAtGreatestOf_12 : decode cX1_isAtGreatestOf 12 = .ok (.getfield 9, 3) := by decide +kernel
theorem dX1_isAtGreatestOf_15 : decode cX1_isAtGreatestOf 15 = .ok (.iload_n 2, 1) := by decide +kernel
theorem dX1_isAtGreatestOf_16 : decode cX1_isAtGreatestOf 16 = .ok (.laload, 1) := by decide +kernel
theorem dX1_isAtGreatestOf_17 : decode cX1_isAtGreatestOf 17 = .ok (.aload_n 1, 1) := by decide +kernel
theorem dX1_isAtGreatestOf_18 : decode cX1_isAtGreatestOf 18 = .ok (.getfield 44, 3) := by decide +kernel
theorem dX1_isAtGreatestOf_21 : decode cX1_isAtGreatestOf 21 = .ok (.iload_n 2, 1) := by decide +kernel
theorem dX1_isAtGreatestOf_22 : decode cX1_isAtGreatestOf 22 = .ok (.iaload, 1) := by decide +kernel
theorem dX1_isAtGreatestOf_23 : decode cX1_isAtGreatestOf 23 = .ok (.i2l, 1) := by decide +kernel
theorem dX1_isAtGreatestOf_24 : decode cX1_isAtGreatestOf 24 = .ok (.aload_n 0, 1) := by decide +kernel
theorem dX1_isAtGreatestOf_25 : decode cX1_isAtGreatestOf 25 = .ok (.getfield 19, 3) := by decide +kernel
theorem dX1_isAtGreatestOf_28 : decode cX1_isAtGreatestOf 28 = .ok (.lmul, 1) := by decide +kernel
theorem dX1_isAtGreatestOf_29 : decode cX1_isAtGreatestOf 29 = .ok (.lcmp, 1) := by decide +kernel
theorem dX1_isAtGreatestOf_30 : decode cX1_isAtGreatestOf 30 = .ok (.ifCond .ne 7, 3) := by decide +kernel
theorem dX1_isAtGreatestOf_33 : decode cX1_isAtGreatestOf 33 = .ok (.iconst 1, 1) := by decide +kernel
theorem dX1_isAtGreatestOf_34 : decode cX1_isAtGreatestOf 34 = .ok (.goto 4, 3) := by decide +kernel
theorem dX1_isAtGreatestOf_37 : decode cX1_isAtGreatestOf 37 = .ok (.iconst 0, 1) := by decide +kernel
theorem dX1_isAtGreatestOf_38 : decode cX1_isAtGreatestOf 38 = .ok (.ireturn, 1) := by decide +kernel
theorem dX1_isInBounds_0 : decode cX1_isInBounds 0 = .ok (.aload_n 1, 1) := by decide +kernel
theorem dX1_isInBounds_1 : decode cX1_isInBounds 1 = .ok (.getfield 44, 3) := by decide +kernel
theorem dX1_isInBounds_4 : decode cX1_isInBounds 4 = .ok (.iload_n 2, 1) := by decide +kernel
theorem dX1_isInBounds_5 : decode cX1_isInBounds 5 = .ok (.iaload, 1) := by decide +kernel
theorem dX1_isInBounds_6 : decode cX1_isInBounds 6 = .ok (.ldc 47, 2) := by decide +kernel
theorem dX1_isInBounds_8 : decode cX1_isInBounds 8 = .ok (.if_icmp .eq 29, 3) := by decide +kernel
theorem dX1_isInBounds_11 : decode cX1_isInBounds 11 = .ok (.aload_n 0, 1) := by decide +kernel
theorem dX1_isInBounds_12 : decode cX1_isInBounds 12 = .ok (.getfield 9, 3) := by decide +kernel
theorem dX1_isInBounds_15 : decode cX1_isInBounds 15 = .ok (.iload_n 2, 1) := by decide +kernel
theorem dX1_isInBounds_16 : decode cX1_isInBounds 16 = .ok (.laload, 1) := by decide +kernel
theorem dX1_isInBounds_17 : decode cX1_isInBounds 17 = .ok (.aload_n 1, 1) := by decide +kernel
theorem dX1_isInBounds_18 : decode cX1_isInBounds 18 = .ok (.getfield 44, 3) := by decide +kernel
theorem dX1_isInBounds_21 : decode cX1_isInBounds 21 = .ok (.iload_n 2, 1) := by decide +kernel
theorem dX1_isInBounds_22 : decode cX1_isInBounds 22 = .ok (.iaload, 1) := by decide +kernel
theorem dX1_isInBounds_23 : decode cX1_isInBounds 23 = .ok (.i2l, 1) := by decide +kernel
theorem dX1_isInBounds_24 : decode cX1_isInBounds 24 = .ok (.aload_n 0, 1) := by decide +kernel
theorem dX1_isInBounds_25 : decode cX1_isInBounds 25 = .ok (.getfield 19, 3) := by decide +kernel
theorem dX1_isInBounds_28 : decode cX1_isInBounds 28 = .ok (.lmul, 1) := by decide +kernel
theorem dX1_isInBounds_29 : decode cX1_isInBounds 29 = .ok (.lcmp, 1) := by decide +kernel
theorem dX1_isInBounds_30 : decode cX1_isInBounds 30 = .ok (.ifCond .le 7, 3) := by decide +kernel
theorem dX1_isInBounds_33 : decode cX1_isInBounds 33 = .ok (.iconst 1, 1) := by decide +kernel
theorem dX1_isInBounds_34 : decode cX1_isInBounds 34 = .ok (.goto 4, 3) := by decide +kernel
theorem dX1_isInBounds_37 : decode cX1_isInBounds 37 = .ok (.iconst 0, 1) := by decide +kernel
theorem dX1_isInBounds_38 : decode cX1_isInBounds 38 = .ok (.istore_n 3, 1) := by decide +kernel
theorem dX1_isInBounds_39 : decode cX1_isInBounds 39 = .ok (.iload_n 3, 1) := by decide +kernel
theorem dX1_isInBounds_40 : decode cX1_isInBounds 40 = .ok (.ifCond .ne 29, 3) := by decide +kernel
theorem dX1_isInBounds_43 : decode cX1_isInBounds 43 = .ok (.aload_n 0, 1) := by decide +kernel
theorem dX1_isInBounds_44 : decode cX1_isInBounds 44 = .ok (.getfield 9, 3) := by decide +kernel
theorem dX1_isInBounds_47 : decode cX1_isInBounds 47 = .ok (.iload_n 2, 1) := by decide +kernel
theorem dX1_isInBounds_48 : decode cX1_isInBounds 48 = .ok (.laload, 1) := by decide +kernel
theorem dX1_isInBounds_49 : decode cX1_isInBounds 49 = .ok (.aload_n 1, 1) := by decide +kernel
theorem dX1_isInBounds_50 : decode cX1_isInBounds 50 = .ok (.getfield 39, 3) := by decide +kernel
theorem dX1_isInBounds_53 : decode cX1_isInBounds 53 = .ok (.iload_n 2, 1) := by decide +kernel
theorem dX1_isInBounds_54 : decode cX1_isInBounds 54 = .ok (.iaload, 1) := by decide +kernel
theorem dX1_isInBounds_55 : decode cX1_isInBounds 55 = .ok (.i2l, 1) := by decide +kernel
theorem dX1_isInBounds_56 : decode cX1_isInBounds 56 = .ok (.aload_n 0, 1) := by decide +kernel
theorem dX1_isInBounds_57 : decode cX1_isInBounds 57 = .ok (.getfield 19, 3) := by decide +kernel
theorem dX1_isInBounds_60 : decode cX1_isInBounds 60 = .ok (.lmul, 1) := by decide +kernel
theorem dX1_isInBounds_61 : decode cX1_isInBounds 61 = .ok (.lcmp, 1) := by decide +kernel
theorem dX1_isInBounds_62 : decode cX1_isInBounds 62 = .ok (.ifCond .lt 7, 3) := by decide +kernel
theorem dX1_isInBounds_65 : decode cX1_isInBounds 65 = .ok (.iconst 1, 1) := by decide +kernel
theorem dX1_isInBounds_66 : decode cX1_isInBounds 66 = .ok (.goto 4, 3) := by decide +kernel
theorem dX1_isInBounds_69 : decode cX1_isInBounds 69 = .ok (.iconst 0, 1) := by decide +kernel
theorem dX1_isInBounds_70 : decode cX1_isInBounds 70 = .ok (.ireturn, 1) := by decide +kernel
set_option maxRecDepth 20000 in
theorem ggX1_isWell_X1_isInBounds : GoodIn wsX1_isWell wsX1_isInBounds := goodIn_r _ [8, 9, 10, 2, 1, 11, 31, 32, 33, 34, 35, 36, 37, 38, 39, 40, 41, 27, 28, 29, 30] (by decide +kernel) (by decide +kernel)
set_option maxRecDepth 20000 in
theorem gX1_isWell_X1_isInBounds : GoodIn wsX1_isWell (wsV RX1 48 RX1 yX1_isInBounds wsX1_isInBounds) := goodIn_app (goodIn_of _ (by decide +kernel)) ggX1_isWell_X1_isInBounds
set_option maxRecDepth 20000 in
theorem ggX1_isWell_X2_isWhole : GoodIn wsX1_isWell wsX2_isWhole := goodIn_r _ [16, 17, 31, 32, 33, 34, 35, 36, 37, 38, 39, 40, 41] (by decide +kernel) (by decide +kernel)
set_option maxRecDepth 20000 in
theorem gX1_isWell_X2_isWhole : GoodIn wsX1_isWell (wsV RX1 52 RX2 yX2_isWhole wsX2_isWhole) := goodIn_app (goodIn_of _ (by decide +kernel)) ggX1_isWell_X2_isWhole
set_option maxRecDepth 20000 in
theorem ggX1_isWell_X2_isSwitch : GoodIn wsX1_isWell wsX2_isSwitch := goodIn_r _ [21, 17, 31, 32, 33, 34, 35, 36, 37, 38, 39, 40, 41] (by decide +kernel) (by decide +kernel)
set_option maxRecDepth 20000 in
theorem gX1_isWell_X2_isSwitch : GoodIn wsX1_isWell (wsV RX1 59 RX2 yX2_isSwitch wsX2_isSwitch) := goodIn_app (goodIn_of _ (by decide +kernel)) ggX1_isWell_X2_isSwitch
set_option maxRecDepth 20000 in
theorem ggX1_isWell_X2_hasColumn : GoodIn wsX1_isWell wsX2_hasColumn := goodIn_r _ [25, 26, 31, 32, 33, 34, 35, 36, 37, 38, 39, 40, 41] (by decide +kernel) (by decide +kernel)
set_option maxRecDepth 20000 in
theorem gX1_isWell_X2_hasColumn : GoodIn wsX1_isWell (wsV RX1 62 RX2 yX2_hasColumn wsX2_hasColumn) := goodIn_app (goodIn_of _ (by decide +kernel)) ggX1_isWell_X2_hasColumn
theorem dX1_isWell_0 : decode cX1_isWell 0 = .ok (.aload_n 0, 1) := by decide +kernel
theorem dX1_isWell_1 : decode cX1_isWell 1 = .ok (.aload_n 1, 1) := by decide +kernel
theorem dX1_isWell_2 : decode cX1_isWell 2 = .ok (.iload_n 2, 1) := by decide +kernel
theorem dX1_isWell_3 : decode cX1_isWell 3 = .ok (.invokevirtual 48, 3) := by decide +kernel
theorem dX1_isWell_6 : decode cX1_isWell 6 = .ok (.ifCond .ne 5, 3) := by decide +kernel
theorem dX1_isWell_9 : decode cX1_isWell 9 = .ok (.iconst 0, 1) := by decide +kernel
theorem dX1_isWell_10 : decode cX1_isWell 10 = .ok (.ireturn, 1) := by decide +kernel
theorem dX1_isWell_11 : decode cX1_isWell 11 = .ok (.aload_n 1, 1) := by decide +kernel
theorem dX1_isWell_12 : decode cX1_isWell 12 = .ok (.iload_n 2, 1) := by decide +kernel
theorem dX1_isWell_13 : decode cX1_isWell 13 = .ok (.invokevirtual 52, 3) := by decide +kernel
theorem dX1_isWell_16 : decode cX1_isWell 16 = .ok (.ifCond .eq 30, 3) := by decide +kernel
theorem dX1_isWell_19 : decode cX1_isWell 19 = .ok (.aload_n 0, 1) := by decide +kernel
theorem dX1_isWell_20 : decode cX1_isWell 20 = .ok (.getfield 19, 3) := by decide +kernel
theorem dX1_isWell_23 : decode cX1_isWell 23 = .ok (.lconst 0, 1) := by decide +kernel
theorem dX1_isWell_24 : decode cX1_isWell 24 = .ok (.lcmp, 1) := by decide +kernel
theorem dX1_isWell_25 : decode cX1_isWell 25 = .ok (.ifCond .eq 21, 3) := by decide +kernel
theorem dX1_isWell_28 : decode cX1_isWell 28 = .ok (.aload_n 0, 1) := by decide +kernel
theorem dX1_isWell_29 : decode cX1_isWell 29 = .ok (.getfield 9, 3) := by decide +kernel
theorem dX1_isWell_32 : decode cX1_isWell 32 = .ok (.iload_n 2, 1) := by decide +kernel
theorem dX1_isWell_33 : decode cX1_isWell 33 = .ok (.laload, 1) := by decide +kernel
theorem dX1_isWell_34 : decode cX1_isWell 34 = .ok (.aload_n 0, 1) := by decide +kernel
theorem dX1_isWell_35 : decode cX1_isWell 35 = .ok (.getfield 19, 3) := by decide +kernel
theorem dX1_isWell_38 : decode cX1_isWell 38 = .ok (.lrem, 1) := by decide +kernel
theorem dX1_isWell_39 : decode cX1_isWell 39 = .ok (.lconst 0, 1) := by decide +kernel
theorem dX1_isWell_40 : decode cX1_isWell 40 = .ok (.lcmp, 1) := by decide +kernel
theorem dX1_isWell_41 : decode cX1_isWell 41 = .ok (.ifCond .eq 5, 3) := by decide +kernel
theorem dX1_isWell_44 : decode cX1_isWell 44 = .ok (.iconst 0, 1) := by decide +kernel
theorem dX1_isWell_45 : decode cX1_isWell 45 = .ok (.ireturn, 1) := by decide +kernel
theorem dX1_isWell_46 : decode cX1_isWell 46 = .ok (.aload_n 1, 1) := by decide +kernel
theorem dX1_isWell_47 : decode cX1_isWell 47 = .ok (.getfield 56, 3) := by decide +kernel
theorem dX1_isWell_50 : decode cX1_isWell 50 = .ok (.iload_n 2, 1) := by decide +kernel
theorem dX1_isWell_51 : decode cX1_isWell 51 = .ok (.iaload, 1) := by decide +kernel
theorem dX1_isWell_52 : decode cX1_isWell 52 = .ok (.istore_n 3, 1) := by decide +kernel
theorem dX1_isWell_53 : decode cX1_isWell 53 = .ok (.aload_n 1, 1) := by decide +kernel
theorem dX1_isWell_54 : decode cX1_isWell 54 = .ok (.iload_n 2, 1) := by decide +kernel
theorem dX1_isWell_55 : decode cX1_isWell 55 = .ok (.invokevirtual 59, 3) := by decide +kernel
theorem dX1_isWell_58 : decode cX1_isWell 58 = .ok (.ifCond .eq 33, 3) := by decide +kernel
theorem dX1_isWell_61 : decode cX1_isWell 61 = .ok (.aload_n 0, 1) := by decide +kernel
theorem dX1_isWell_62 : decode cX1_isWell 62 = .ok (.getfield 9, 3) := by decide +kernel
theorem dX1_isWell_65 : decode cX1_isWell 65 = .ok (.iload_n 2, 1) := by decide +kernel
theorem dX1_isWell_66 : decode cX1_isWell 66 = .ok (.laload, 1) := by decide +kernel
theorem dX1_isWell_67 : decode cX1_isWell 67 = .ok (.lconst 0, 1) := by decide +kernel
theorem dX1_isWell_68 : decode cX1_isWell 68 = .ok (.lcmp, 1) := by decide +kernel
theorem dX1_isWell_69 : decode cX1_isWell 69 = .ok (.ifCond .ne 22, 3) := by decide +kernel
theorem dX1_isWell_72 : decode cX1_isWell 72 = .ok (.aload_n 1, 1) := by decide +kernel
theorem dX1_isWell_73 : decode cX1_isWell 73 = .ok (.iload_n 3, 1) := by decide +kernel
theorem dX1_isWell_74 : decode cX1_isWell 74 = .ok (.invokevirtual 62, 3) := by decide +kernel
theorem dX1_isWell_77 : decode cX1_isWell 77 = .ok (.ifCond .eq 14, 3) := by decide +kernel
theorem dX1_isWell_80 : decode cX1_isWell 80 = .ok (.aload_n 0, 1) := by decide +kernel
theorem dX1_isWell_81 : decode cX1_isWell 81 = .ok (.getfield 9, 3) := by decide +kernel
theorem dX1_isWell_84 : decode cX1_isWell 84 = .ok (.iload_n 3, 1) := by decide +kernel
theorem dX1_isWell_85 : decode cX1_isWell 85 = .ok (.laload, 1) := by decide +kernel
theorem dX1_isWell_86 : decode cX1_isWell 86 = .ok (.lconst 0, 1) := by decide +kernel
theorem dX1_isWell_87 : decode cX1_isWell 87 = .ok (.lcmp, 1) := by decide +kernel
theorem dX1_isWell_88 : decode cX1_isWell 88 = .ok (.ifCond .ne 7, 3) := by decide +kernel
theorem dX1_isWell_91 : decode cX1_isWell 91 = .ok (.iconst 1, 1) := by decide +kernel
theorem dX1_isWell_92 : decode cX1_isWell 92 = .ok (.goto 4, 3) := by decide +kernel
theorem dX1_isWell_95 : decode cX1_isWell 95 = .ok (.iconst 0, 1) := by decide +kernel
theorem dX1_isWell_96 : decode cX1_isWell 96 = .ok (.ireturn, 1) := by decide +kernel
set_option maxRecDepth 20000 in
theorem ggX1_brokenRow_X2_isKept : GoodIn wsX1_brokenRow wsX2_isKept := goodIn_r _ [9, 10, 11, 12, 13, 14, 8, 15, 16, 17, 18, 19, 20, 21, 22, 23, 24, 25, 26, 27, 28, 29, 30, 31, 32, 33, 34, 35, 36] (by decide +kernel) (by decide +kernel)
set_option maxRecDepth 20000 in
theorem gX1_brokenRow_X2_isKept : GoodIn wsX1_brokenRow (wsV RX1 71 RX2 yX2_isKept wsX2_isKept) := goodIn_app (goodIn_of _ (by decide +kernel)) ggX1_brokenRow_X2_isKept
theorem dX1_brokenRow_0 : decode cX1_brokenRow 0 = .ok (.iconst 0, 1) := by decide +kernel
theorem dX1_brokenRow_1 : decode cX1_brokenRow 1 = .ok (.istore_n 2, 1) := by decide +kernel
theorem dX1_brokenRow_2 : decode cX1_brokenRow 2 = .ok (.iload_n 2, 1) := by decide +kernel
theorem dX1_brokenRow_3 : decode cX1_brokenRow 3 = .ok (.aload_n 1, 1) := by decide +kernel
theorem dX1_brokenRow_4 : decode cX1_brokenRow 4 = .ok (.getfield 65, 3) := by decide +kernel
theorem dX1_brokenRow_7 : decode cX1_brokenRow 7 = .ok (.if_icmp .ge 37, 3) := by decide +kernel
theorem dX1_brokenRow_10 : decode cX1_brokenRow 10 = .ok (.aload_n 1, 1) := by decide +kernel
theorem dX1_brokenRow_11 : decode cX1_brokenRow 11 = .ok (.getfield 68, 3) := by decide +kernel
theorem dX1_brokenRow_14 : decode cX1_brokenRow 14 = .ok (.iload_n 2, 1) := by decide +kernel
theorem dX1_brokenRow_15 : decode cX1_brokenRow 15 = .ok (.iaload, 1) := by decide +kernel
theorem dX1_brokenRow_16 : decode cX1_brokenRow 16 = .ok (.iconst 1, 1) := by decide +kernel
theorem dX1_brokenRow_17 : decode cX1_brokenRow 17 = .ok (.if_icmp .ne 21, 3) := by decide +kernel
theorem dX1_brokenRow_20 : decode cX1_brokenRow 20 = .ok (.aload_n 1, 1) := by decide +kernel
theorem dX1_brokenRow_21 : decode cX1_brokenRow 21 = .ok (.iload_n 2, 1) := by decide +kernel
theorem dX1_brokenRow_22 : decode cX1_brokenRow 22 = .ok (.aload_n 0, 1) := by decide +kernel
theorem dX1_brokenRow_23 : decode cX1_brokenRow 23 = .ok (.getfield 9, 3) := by decide +kernel
theorem dX1_brokenRow_26 : decode cX1_brokenRow 26 = .ok (.aload_n 0, 1) := by decide +kernel
theorem dX1_brokenRow_27 : decode cX1_brokenRow 27 = .ok (.getfield 19, 3) := by decide +kernel
theorem dX1_brokenRow_30 : decode cX1_brokenRow 30 = .ok (.invokevirtual 71, 3) := by decide +kernel
theorem dX1_brokenRow_33 : decode cX1_brokenRow 33 = .ok (.ifCond .ne 5, 3) := by decide +kernel
theorem dX1_brokenRow_36 : decode cX1_brokenRow 36 = .ok (.iload_n 2, 1) := by decide +kernel
theorem dX1_brokenRow_37 : decode cX1_brokenRow 37 = .ok (.ireturn, 1) := by decide +kernel
theorem dX1_brokenRow_38 : decode cX1_brokenRow 38 = .ok (.iinc 2 1, 3) := by decide +kernel
theorem dX1_brokenRow_41 : decode cX1_brokenRow 41 = .ok (.goto (-39), 3) := by decide +kernel
theorem dX1_brokenRow_44 : decode cX1_brokenRow 44 = .ok (.iconst (-1), 1) := by decide +kernel
theorem dX1_brokenRow_45 : decode cX1_brokenRow 45 = .ok (.ireturn, 1) := by decide +kernel
set_option maxRecDepth 20000 in
theorem ggX1_firstWrong_X1_isWell : GoodIn wsX1_firstWrong wsX1_isWell := goodIn_r _ [6, 7, 8, 9, 10, 11, 12, 5, 13, 14, 15, 16, 17, 18, 19, 20, 21, 22, 23, 24, 25, 26, 27, 28, 29, 30, 31, 68, 69, 70, 71, 57, 58, 59, 60, 61, 62, 63, 64, 65, 66, 67] (by decide +kernel) (by decide +kernel)
set_option maxRecDepth 20000 in
theorem gX1_firstWrong_X1_isWell : GoodIn wsX1_firstWrong (wsV RX1 78 RX1 yX1_isWell wsX1_isWell) := goodIn_app (goodIn_of _ (by decide +kernel)) ggX1_firstWrong_X1_isWell
set_option maxRecDepth 20000 in
theorem ggX1_firstWrong_X1_brokenRow : GoodIn wsX1_firstWrong wsX1_brokenRow := goodIn_r _ [35, 36, 37, 8, 7, 38, 39, 40, 20, 41, 42, 43, 44, 45, 46, 47, 31, 48, 49, 50, 51, 52, 53, 54, 55, 56, 57, 58, 59, 60, 61, 62, 63, 64, 65, 66, 67, 68, 69, 70, 71] (by decide +kernel) (by decide +kernel)
set_option maxRecDepth 20000 in
theorem gX1_firstWrong_X1_brokenRow : GoodIn wsX1_firstWrong (wsV RX1 81 RX1 yX1_brokenRow wsX1_brokenRow) := goodIn_app (goodIn_of _ (by decide +kernel)) ggX1_firstWrong_X1_brokenRow
theorem dX1_firstWrong_0 : decode cX1_firstWrong 0 = .ok (.iconst 0, 1) := by decide +kernel
theorem dX1_firstWrong_1 : decode cX1_firstWrong 1 = .ok (.istore_n 2, 1) := by decide +kernel
theorem dX1_firstWrong_2 : decode cX1_firstWrong 2 = .ok (.iload_n 2, 1) := by decide +kernel
theorem dX1_firstWrong_3 : decode cX1_firstWrong 3 = .ok (.aload_n 1, 1) := by decide +kernel
theorem dX1_firstWrong_4 : decode cX1_firstWrong 4 = .ok (.getfield 75, 3) := by decide +kernel
theorem dX1_firstWrong_7 : decode cX1_firstWrong 7 = .ok (.if_icmp .ge 22, 3) := by decide +kernel
theorem dX1_firstWrong_10 : decode cX1_firstWrong 10 = .ok (.aload_n 0, 1) := by decide +kernel
theorem dX1_firstWrong_11 : decode cX1_firstWrong 11 = .ok (.aload_n 1, 1) := by decide +kernel
theorem dX1_firstWrong_12 : decode cX1_firstWrong 12 = .ok (.iload_n 2, 1) := by decide +kernel
theorem dX1_firstWrong_13 : decode cX1_firstWrong 13 = .ok (.invokevirtual 78, 3) := by decide +kernel
theorem dX1_firstWrong_16 : decode cX1_firstWrong 16 = .ok (.ifCond .ne 7, 3) := by decide +kernel
theorem dX1_firstWrong_19 : decode cX1_firstWrong 19 = .ok (.iconst 1, 1) := by decide +kernel
theorem dX1_firstWrong_20 : decode cX1_firstWrong 20 = .ok (.iload_n 2, 1) := by decide +kernel
theorem dX1_firstWrong_21 : decode cX1_firstWrong 21 = .ok (.iadd, 1) := by decide +kernel
theorem dX1_firstWrong_22 : decode cX1_firstWrong 22 = .ok (.ireturn, 1) := by decide +kernel
theorem dX1_firstWrong_23 : decode cX1_firstWrong 23 = .ok (.iinc 2 1, 3) := by decide +kernel
theorem dX1_firstWrong_26 : decode cX1_firstWrong 26 = .ok (.goto (-24), 3) := by decide +kernel
theorem dX1_firstWrong_29 : decode cX1_firstWrong 29 = .ok (.aload_n 0, 1) := by decide +kernel
theorem dX1_firstWrong_30 : decode cX1_firstWrong 30 = .ok (.aload_n 1, 1) := by decide +kernel
theorem dX1_firstWrong_31 : decode cX1_firstWrong 31 = .ok (.invokevirtual 81, 3) := by decide +kernel
theorem dX1_firstWrong_34 : decode cX1_firstWrong 34 = .ok (.istore_n 2, 1) := by decide +kernel
theorem dX1_firstWrong_35 : decode cX1_firstWrong 35 = .ok (.iload_n 2, 1) := by decide +kernel
theorem dX1_firstWrong_36 : decode cX1_firstWrong 36 = .ok (.ifCond .ge 7, 3) := by decide +kernel
theorem dX1_firstWrong_39 : decode cX1_firstWrong 39 = .ok (.iconst 0, 1) := by decide +kernel
theorem dX1_firstWrong_40 : decode cX1_firstWrong 40 = .ok (.goto 7, 3) := by decide +kernel
theorem dX1_firstWrong_43 : decode cX1_firstWrong 43 = .ok (.bipush 100, 2) := by decide +kernel
theorem dX1_firstWrong_45 : decode cX1_firstWrong 45 = .ok (.iload_n 2, 1) := by decide +kernel
theorem dX1_firstWrong_46 : decode cX1_firstWrong 46 = .ok (.iadd, 1) := by decide +kernel
theorem dX1_firstWrong_47 : decode cX1_firstWrong 47 = .ok (.ireturn, 1) := by decide +kernel
set_option maxRecDepth 20000 in
theorem ggX1_firstDoubt_X1_isLooselyRight : GoodIn wsX1_firstDoubt wsX1_isLooselyRight := goodIn_r _ [5, 6, 7, 8, 9, 4, 10, 11, 12, 13, 14, 15, 16, 17, 18, 19, 20, 21, 22, 23, 24, 25, 26, 27, 28, 29, 30, 31, 32, 33, 34, 35, 36, 37, 38, 39, 40, 41, 42, 74, 75, 76, 77, 78, 79, 80, 81, 82, 83, 84, 85, 86, 87, 88] (by decide +kernel) (by decide +kernel)
set_option maxRecDepth 20000 in
theorem gX1_firstDoubt_X1_isLooselyRight : GoodIn wsX1_firstDoubt (wsV RX1 85 RX1 yX1_isLooselyRight wsX1_isLooselyRight) := goodIn_app (goodIn_of _ (by decide +kernel)) ggX1_firstDoubt_X1_isLooselyRight
set_option maxRecDepth 20000 in
theorem ggX1_firstDoubt_X1_hasWrongPrice : GoodIn wsX1_firstDoubt wsX1_hasWrongPrice := goodIn_r _ [46, 20, 47, 48, 21, 74, 75, 76, 77, 78, 79, 80, 81, 82, 83, 84, 85, 86, 87, 88] (by decide +kernel) (by decide +kernel)
set_option maxRecDepth 20000 in
theorem gX1_firstDoubt_X1_hasWrongPrice : GoodIn wsX1_firstDoubt (wsV RX1 89 RX1 yX1_hasWrongPrice wsX1_hasWrongPrice) := goodIn_app (goodIn_of _ (by decide +kernel)) ggX1_firstDoubt_X1_hasWrongPrice
set_option maxRecDepth 20000 in
theorem ggX1_firstDoubt_X1_hasWrongRest : GoodIn wsX1_firstDoubt wsX1_hasWrongRest := goodIn_r _ [52, 6, 53, 54, 55, 4, 56, 57, 58, 20, 21, 48, 59, 35, 36, 25, 37, 38, 60, 61, 62, 63, 11, 12, 13, 14, 64, 65, 66, 67, 15, 74, 75, 76, 77, 78, 79, 80, 81, 82, 83, 84, 85, 86, 87, 88] (by decide +kernel) (by decide +kernel)
set_option maxRecDepth 20000 in
theorem gX1_firstDoubt_X1_hasWrongRest : GoodIn wsX1_firstDoubt (wsV RX1 92 RX1 yX1_hasWrongRest wsX1_hasWrongRest) := goodIn_app (goodIn_of _ (by decide +kernel)) ggX1_firstDoubt_X1_hasWrongRest
set_option maxRecDepth 20000 in
theorem ggX1_firstDoubt_X1_hasIdlePrice : GoodIn wsX1_firstDoubt wsX1_hasIdlePrice := goodIn_r _ [71, 20, 13, 72, 14, 21, 48, 73, 30, 31, 25, 32, 33, 34, 35, 36, 37, 38, 74, 75, 76, 77, 78, 79, 80, 81, 82, 83, 84, 85, 86, 87, 88] (by decide +kernel) (by decide +kernel)
set_option maxRecDepth 20000 in
theorem gX1_firstDoubt_X1_hasIdlePrice : GoodIn wsX1_firstDoubt (wsV RX1 95 RX1 yX1_hasIdlePrice wsX1_hasIdlePrice) := goodIn_app (goodIn_of _ (by decide +kernel)) ggX1_firstDoubt_X1_hasIdlePrice
theorem dX1_firstDoubt_0 : decode cX1_firstDoubt 0 = .ok (.aload_n 0, 1) := by decide +kernel
theorem dX1_firstDoubt_1 : decode cX1_firstDoubt 1 = .ok (.aload_n 1, 1) := by decide +kernel
theorem dX1_firstDoubt_2 : decode cX1_firstDoubt 2 = .ok (.invokevirtual 85, 3) := by decide +kernel
theorem dX1_firstDoubt_5 : decode cX1_firstDoubt 5 = .ok (.ifCond .ne 5, 3) := by decide +kernel
theorem dX1_firstDoubt_8 : decode cX1_firstDoubt 8 = .ok (.iconst 1, 1) := by decide +kernel
theorem dX1_firstDoubt_9 : decode cX1_firstDoubt 9 = .ok (.ireturn, 1) := by decide +kernel
theorem dX1_firstDoubt_10 : decode cX1_firstDoubt 10 = .ok (.aload_n 0, 1) := by decide +kernel
theorem dX1_firstDoubt_11 : decode cX1_firstDoubt 11 = .ok (.aload_n 1, 1) := by decide +kernel
theorem dX1_firstDoubt_12 : decode cX1_firstDoubt 12 = .ok (.invokevirtual 89, 3) := by decide +kernel
theorem dX1_firstDoubt_15 : decode cX1_firstDoubt 15 = .ok (.ifCond .eq 5, 3) := by decide +kernel
theorem dX1_firstDoubt_18 : decode cX1_firstDoubt 18 = .ok (.iconst 2, 1) := by decide +kernel
theorem dX1_firstDoubt_19 : decode cX1_firstDoubt 19 = .ok (.ireturn, 1) := by decide +kernel
theorem dX1_firstDoubt_20 : decode cX1_firstDoubt 20 = .ok (.aload_n 0, 1) := by decide +kernel
theorem dX1_firstDoubt_21 : decode cX1_firstDoubt 21 = .ok (.aload_n 1, 1) := by decide +kernel
theorem dX1_firstDoubt_22 : decode cX1_firstDoubt 22 = .ok (.invokevirtual 92, 3) := by decide +kernel
theorem dX1_firstDoubt_25 : decode cX1_firstDoubt 25 = .ok (.ifCond .eq 5, 3) := by decide +kernel
theorem dX1_firstDoubt_28 : decode cX1_firstDoubt 28 = .ok (.iconst 3, 1) := by decide +kernel
theorem dX1_firstDoubt_29 : decode cX1_firstDoubt 29 = .ok (.ireturn, 1) := by decide +kernel
theorem dX1_firstDoubt_30 : decode cX1_firstDoubt 30 = .ok (.aload_n 0, 1) := by decide +kernel
theorem dX1_firstDoubt_31 : decode cX1_firstDoubt 31 = .ok (.aload_n 1, 1) := by decide +kernel
theorem dX1_firstDoubt_32 : decode cX1_firstDoubt 32 = .ok (.invokevirtual 95, 3) := by decide +kernel
theorem dX1_firstDoubt_35 : decode cX1_firstDoubt 35 = .ok (.ifCond .eq 7, 3) := by decide +kernel
theorem dX1_firstDoubt_38 : decode cX1_firstDoubt 38 = .ok (.iconst 4, 1) := by decide +kernel
theorem dX1_firstDoubt_39 : decode cX1_firstDoubt 39 = .ok (.goto 4, 3) := by decide +kernel
theorem dX1_firstDoubt_42 : decode cX1_firstDoubt 42 = .ok (.iconst 0, 1) := by decide +kernel
theorem dX1_firstDoubt_43 : decode cX1_firstDoubt 43 = .ok (.ireturn, 1) := by decide +kernel
set_option maxRecDepth 20000 in
theorem ggX1_isLooselyRight_X1_isInBounds : GoodIn wsX1_isLooselyRight wsX1_isInBounds := goodIn_r _ [6, 7, 8, 9, 10, 11, 39, 40, 41, 42, 43, 44, 45, 46, 47, 48, 49, 50, 51, 52, 53] (by decide +kernel) (by decide +kernel)
set_option maxRecDepth 20000 in
theorem gX1_isLooselyRight_X1_isInBounds : GoodIn wsX1_isLooselyRight (wsV RX1 48 RX1 yX1_isInBounds wsX1_isInBounds) := goodIn_app (goodIn_of _ (by decide +kernel)) ggX1_isLooselyRight_X1_isInBounds
set_option maxRecDepth 20000 in
theorem ggX1_isLooselyRight_X1_brokenRow : GoodIn wsX1_isLooselyRight wsX1_brokenRow := goodIn_r _ [15, 16, 17, 9, 10, 18, 19, 20, 21, 22, 23, 24, 25, 26, 27, 28, 29, 30, 31, 32, 33, 34, 35, 36, 37, 38, 39, 40, 41, 42, 43, 44, 45, 46, 47, 48, 49, 50, 51, 52, 53] (by decide +kernel) (by decide +kernel)
set_option maxRecDepth 20000 in
theorem gX1_isLooselyRight_X1_brokenRow : GoodIn wsX1_isLooselyRight (wsV RX1 81 RX1 yX1_brokenRow wsX1_brokenRow) := goodIn_app (goodIn_of _ (by decide +kernel)) ggX1_isLooselyRight_X1_brokenRow
theorem dX1_isLooselyRight_0 : decode cX1_isLooselyRight 0 = .ok (.iconst 0, 1) := by decide +kernel
theorem dX1_isLooselyRight_1 : decode cX1_isLooselyRight 1 = .ok (.istore_n 2, 1) := by decide +kernel
theorem dX1_isLooselyRight_2 : decode cX1_isLooselyRight 2 = .ok (.iload_n 2, 1) := by decide +kernel
theorem dX1_isLooselyRight_3 : decode cX1_isLooselyRight 3 = .ok (.aload_n 1, 1) := by decide +kernel
theorem dX1_isLooselyRight_4 : decode cX1_isLooselyRight 4 = .ok (.getfield 75, 3) := by decide +kernel
theorem dX1_isLooselyRight_7 : decode cX1_isLooselyRight 7 = .ok (.if_icmp .ge 20, 3) := by decide +kernel
theorem dX1_isLooselyRight_10 : decode cX1_isLooselyRight 10 = .ok (.aload_n 0, 1) := by decide +kernel
theorem dX1_isLooselyRight_11 : decode cX1_isLooselyRight 11 = .ok (.aload_n 1, 1) := by decide +kernel
theorem dX1_isLooselyRight_12 : decode cX1_isLooselyRight 12 = .ok (.iload_n 2, 1) := by decide +kernel
theorem dX1_isLooselyRight_13 : decode cX1_isLooselyRight 13 = .ok (.invokevirtual 48, 3) := by decide +kernel
theorem dX1_isLooselyRight_16 : decode cX1_isLooselyRight 16 = .ok (.ifCond .ne 5, 3) := by decide +kernel
theorem dX1_isLooselyRight_19 : decode cX1_isLooselyRight 19 = .ok (.iconst 0, 1) := by decide +kernel
theorem dX1_isLooselyRight_20 : decode cX1_isLooselyRight 20 = .ok (.ireturn, 1) := by decide +kernel
theorem dX1_isLooselyRight_21 : decode cX1_isLooselyRight 21 = .ok (.iinc 2 1, 3) := by decide +kernel
theorem dX1_isLooselyRight_24 : decode cX1_isLooselyRight 24 = .ok (.goto (-22), 3) := by decide +kernel
theorem dX1_isLooselyRight_27 : decode cX1_isLooselyRight 27 = .ok (.aload_n 0, 1) := by decide +kernel
theorem dX1_isLooselyRight_28 : decode cX1_isLooselyRight 28 = .ok (.aload_n 1, 1) := by decide +kernel
theorem dX1_isLooselyRight_29 : decode cX1_isLooselyRight 29 = .ok (.invokevirtual 81, 3) := by decide +kernel
theorem dX1_isLooselyRight_32 : decode cX1_isLooselyRight 32 = .ok (.ifCond .ge 7, 3) := by decide +kernel
theorem dX1_isLooselyRight_35 : decode cX1_isLooselyRight 35 = .ok (.iconst 1, 1) := by decide +kernel
theorem dX1_isLooselyRight_36 : decode cX1_isLooselyRight 36 = .ok (.goto 4, 3) := by decide +kernel
theorem dX1_isLooselyRight_39 : decode cX1_isLooselyRight 39 = .ok (.iconst 0, 1) := by decide +kernel
theorem dX1_isLooselyRight_40 : decode cX1_isLooselyRight 40 = .ok (.ireturn, 1) := by decide +kernel
theorem dX1_hasWrongPrice_0 : decode cX1_hasWrongPrice 0 = .ok (.iconst 0, 1) := by decide +kernel
theorem dX1_hasWrongPrice_1 : decode cX1_hasWrongPrice 1 = .ok (.istore_n 2, 1) := by decide +kernel
theorem dX1_hasWrongPrice_2 : decode cX1_hasWrongPrice 2 = .ok (.iload_n 2, 1) := by decide +kernel
theorem dX1_hasWrongPrice_3 : decode cX1_hasWrongPrice 3 = .ok (.aload_n 1, 1) := by decide +kernel
theorem dX1_hasWrongPrice_4 : decode cX1_hasWrongPrice 4 = .ok (.getfield 65, 3) := by decide +kernel
theorem dX1_hasWrongPrice_7 : decode cX1_hasWrongPrice 7 = .ok (.if_icmp .ge 63, 3) := by decide +kernel
theorem dX1_hasWrongPrice_10 : decode cX1_hasWrongPrice 10 = .ok (.aload_n 1, 1) := by decide +kernel
theorem dX1_hasWrongPrice_11 : decode cX1_hasWrongPrice 11 = .ok (.getfield 98, 3) := by decide +kernel
theorem dX1_hasWrongPrice_14 : decode cX1_hasWrongPrice 14 = .ok (.iload_n 2, 1) := by decide +kernel
theorem dX1_hasWrongPrice_15 : decode cX1_hasWrongPrice 15 = .ok (.iaload, 1) := by decide +kernel
theorem dX1_hasWrongPrice_16 : decode cX1_hasWrongPrice 16 = .ok (.aload_n 0, 1) := by decide +kernel
theorem dX1_hasWrongPrice_17 : decode cX1_hasWrongPrice 17 = .ok (.getfield 15, 3) := by decide +kernel
theorem dX1_hasWrongPrice_20 : decode cX1_hasWrongPrice 20 = .ok (.iload_n 2, 1) := by decide +kernel
theorem dX1_hasWrongPrice_21 : decode cX1_hasWrongPrice 21 = .ok (.iaload, 1) := by decide +kernel
theorem dX1_hasWrongPrice_22 : decode cX1_hasWrongPrice 22 = .ok (.ifCond .le 7, 3) := by decide +kernel
theorem dX1_hasWrongPrice_25 : decode cX1_hasWrongPrice 25 = .ok (.iconst 0, 1) := by decide +kernel
theorem dX1_hasWrongPrice_26 : decode cX1_hasWrongPrice 26 = .ok (.goto 4, 3) := by decide +kernel
theorem dX1_hasWrongPrice_29 : decode cX1_hasWrongPrice 29 = .ok (.iconst 1, 1) := by decide +kernel
theorem dX1_hasWrongPrice_30 : decode cX1_hasWrongPrice 30 = .ok (.if_icmp .ne 7, 3) := by decide +kernel
theorem dX1_hasWrongPrice_33 : decode cX1_hasWrongPrice 33 = .ok (.iconst 1, 1) := by decide +kernel
theorem dX1_hasWrongPrice_34 : decode cX1_hasWrongPrice 34 = .ok (.goto 4, 3) := by decide +kernel
theorem dX1_hasWrongPrice_37 : decode cX1_hasWrongPrice 37 = .ok (.iconst 0, 1) := by decide +kernel
theorem dX1_hasWrongPrice_38 : decode cX1_hasWrongPrice 38 = .ok (.istore_n 3, 1) := by decide +kernel
theorem dX1_hasWrongPrice_39 : decode cX1_hasWrongPrice 39 = .ok (.aload_n 1, 1) := by decide +kernel
theorem dX1_hasWrongPrice_40 : decode cX1_hasWrongPrice 40 = .ok (.getfield 68, 3) := by decide +kernel
theorem dX1_hasWrongPrice_43 : decode cX1_hasWrongPrice 43 = .ok (.iload_n 2, 1) := by decide +kernel
theorem dX1_hasWrongPrice_44 : decode cX1_hasWrongPrice 44 = .ok (.iaload, 1) := by decide +kernel
theorem dX1_hasWrongPrice_45 : decode cX1_hasWrongPrice 45 = .ok (.iconst 1, 1) := by decide +kernel
theorem dX1_hasWrongPrice_46 : decode cX1_hasWrongPrice 46 = .ok (.if_icmp .ne 18, 3) := by decide +kernel
theorem dX1_hasWrongPrice_49 : decode cX1_hasWrongPrice 49 = .ok (.aload_n 0, 1) := by decide +kernel
theorem dX1_hasWrongPrice_50 : decode cX1_hasWrongPrice 50 = .ok (.getfield 15, 3) := by decide +kernel
theorem dX1_hasWrongPrice_53 : decode cX1_hasWrongPrice 53 = .ok (.iload_n 2, 1) := by decide +kernel
theorem dX1_hasWrongPrice_54 : decode cX1_hasWrongPrice 54 = .ok (.iaload, 1) := by decide +kernel
theorem dX1_hasWrongPrice_55 : decode cX1_hasWrongPrice 55 = .ok (.ifCond .eq 9, 3) := by decide +kernel
theorem dX1_hasWrongPrice_58 : decode cX1_hasWrongPrice 58 = .ok (.iload_n 3, 1) := by decide +kernel
theorem dX1_hasWrongPrice_59 : decode cX1_hasWrongPrice 59 = .ok (.ifCond .eq 5, 3) := by decide +kernel
theorem dX1_hasWrongPrice_62 : decode cX1_hasWrongPrice 62 = .ok (.iconst 1, 1) := by decide +kernel
theorem dX1_hasWrongPrice_63 : decode cX1_hasWrongPrice 63 = .ok (.ireturn, 1) := by decide +kernel
theorem dX1_hasWrongPrice_64 : decode cX1_hasWrongPrice 64 = .ok (.iinc 2 1, 3) := by decide +kernel
theorem dX1_hasWrongPrice_67 : decode cX1_hasWrongPrice 67 = .ok (.goto (-65), 3) := by decide +kernel
theorem dX1_hasWrongPrice_70 : decode cX1_hasWrongPrice 70 = .ok (.iconst 0, 1) := by decide +kernel
theorem dX1_hasWrongPrice_71 : decode cX1_hasWrongPrice 71 = .ok (.ireturn, 1) := by decide +kernel
set_option maxRecDepth 20000 in
theorem ggX1_hasWrongRest_X1_leftOf : GoodIn wsX1_hasWrongRest wsX1_leftOf := goodIn_r _ [6, 7, 8, 9, 10, 11, 12, 13, 14, 15, 16, 17, 31, 32, 33, 34, 35, 36, 37, 38, 39, 40, 41, 42, 43, 44, 45] (by decide +kernel) (by decide +kernel)
set_option maxRecDepth 20000 in
theorem gX1_hasWrongRest_X1_leftOf : GoodIn wsX1_hasWrongRest (wsV RX1 101 RX1 yX1_leftOf wsX1_leftOf) := goodIn_app (goodIn_of _ (by decide +kernel)) ggX1_hasWrongRest_X1_leftOf
set_option maxRecDepth 20000 in
theorem ggX1_hasWrongRest_X1_isAtGreatestOf : GoodIn wsX1_hasWrongRest wsX1_isAtGreatestOf := goodIn_r _ [21, 22, 23, 24, 25, 31, 32, 33, 34, 35, 36, 37, 38, 39, 40, 41, 42, 43, 44, 45] (by decide +kernel) (by decide +kernel)
set_option maxRecDepth 20000 in
theorem gX1_hasWrongRest_X1_isAtGreatestOf : GoodIn wsX1_hasWrongRest (wsV RX1 105 RX1 yX1_isAtGreatestOf wsX1_isAtGreatestOf) := goodIn_app (goodIn_of _ (by decide +kernel)) ggX1_hasWrongRest_X1_isAtGreatestOf
set_option maxRecDepth 20000 in
theorem ggX1_hasWrongRest_X1_isAtLeastOf : GoodIn wsX1_hasWrongRest wsX1_isAtLeastOf := goodIn_r _ [29, 24, 30, 25, 42, 43, 44, 45, 31, 32, 33, 34, 35, 36, 37, 38, 39, 40, 41] (by decide +kernel) (by decide +kernel)
set_option maxRecDepth 20000 in
theorem gX1_hasWrongRest_X1_isAtLeastOf : GoodIn wsX1_hasWrongRest (wsV RX1 108 RX1 yX1_isAtLeastOf wsX1_isAtLeastOf) := goodIn_app (goodIn_of _ (by decide +kernel)) ggX1_hasWrongRest_X1_isAtLeastOf
theorem dX1_hasWrongRest_0 : decode cX1_hasWrongRest 0 = .ok (.iconst 0, 1) := by decide +kernel
theorem dX1_hasWrongRest_1 : decode cX1_hasWrongRest 1 = .ok (.istore_n 2, 1) := by decide +kernel
theorem dX1_hasWrongRest_2 : decode cX1_hasWrongRest 2 = .ok (.iload_n 2, 1) := by decide +kernel
theorem dX1_hasWrongRest_3 : decode cX1_hasWrongRest 3 = .ok (.aload_n 1, 1) := by decide +kernel
theorem dX1_hasWrongRest_4 : decode cX1_hasWrongRest 4 = .ok (.getfield 75, 3) := by decide +kernel
theorem dX1_hasWrongRest_7 : decode cX1_hasWrongRest 7 = .ok (.if_icmp .ge 50, 3) := by decide +kernel
theorem dX1_hasWrongRest_10 : decode cX1_hasWrongRest 10 = .ok (.aload_n 0, 1) := by decide +kernel
theorem dX1_hasWrongRest_11 : decode cX1_hasWrongRest 11 = .ok (.aload_n 1, 1) := by decide +kernel
theorem dX1_hasWrongRest_12 : decode cX1_hasWrongRest 12 = .ok (.iload_n 2, 1) := by decide +kernel
theorem dX1_hasWrongRest_13 : decode cX1_hasWrongRest 13 = .ok (.invokevirtual 101, 3) := by decide +kernel
theorem dX1_hasWrongRest_16 : decode cX1_hasWrongRest 16 = .ok (.lstore_n 3, 1) := by decide +kernel
theorem dX1_hasWrongRest_17 : decode cX1_hasWrongRest 17 = .ok (.lload_n 3, 1) := by decide +kernel
theorem dX1_hasWrongRest_18 : decode cX1_hasWrongRest 18 = .ok (.lconst 0, 1) := by decide +kernel
theorem dX1_hasWrongRest_19 : decode cX1_hasWrongRest 19 = .ok (.lcmp, 1) := by decide +kernel
theorem dX1_hasWrongRest_20 : decode cX1_hasWrongRest 20 = .ok (.ifCond .ge 14, 3) := by decide +kernel
theorem dX1_hasWrongRest_23 : decode cX1_hasWrongRest 23 = .ok (.aload_n 0, 1) := by decide +kernel
theorem dX1_hasWrongRest_24 : decode cX1_hasWrongRest 24 = .ok (.aload_n 1, 1) := by decide +kernel
theorem dX1_hasWrongRest_25 : decode cX1_hasWrongRest 25 = .ok (.iload_n 2, 1) := by decide +kernel
theorem dX1_hasWrongRest_26 : decode cX1_hasWrongRest 26 = .ok (.invokevirtual 105, 3) := by decide +kernel
theorem dX1_hasWrongRest_29 : decode cX1_hasWrongRest 29 = .ok (.ifCond .ne 5, 3) := by decide +kernel
theorem dX1_hasWrongRest_32 : decode cX1_hasWrongRest 32 = .ok (.iconst 1, 1) := by decide +kernel
theorem dX1_hasWrongRest_33 : decode cX1_hasWrongRest 33 = .ok (.ireturn, 1) := by decide +kernel
theorem dX1_hasWrongRest_34 : decode cX1_hasWrongRest 34 = .ok (.lload_n 3, 1) := by decide +kernel
theorem dX1_hasWrongRest_35 : decode cX1_hasWrongRest 35 = .ok (.lconst 0, 1) := by decide +kernel
theorem dX1_hasWrongRest_36 : decode cX1_hasWrongRest 36 = .ok (.lcmp, 1) := by decide +kernel
theorem dX1_hasWrongRest_37 : decode cX1_hasWrongRest 37 = .ok (.ifCond .le 14, 3) := by decide +kernel
theorem dX1_hasWrongRest_40 : decode cX1_hasWrongRest 40 = .ok (.aload_n 0, 1) := by decide +kernel
theorem dX1_hasWrongRest_41 : decode cX1_hasWrongRest 41 = .ok (.aload_n 1, 1) := by decide +kernel
theorem dX1_hasWrongRest_42 : decode cX1_hasWrongRest 42 = .ok (.iload_n 2, 1) := by decide +kernel
theorem dX1_hasWrongRest_43 : decode cX1_hasWrongRest 43 = .ok (.invokevirtual 108, 3) := by decide +kernel
theorem dX1_hasWrongRest_46 : decode cX1_hasWrongRest 46 = .ok (.ifCond .ne 5, 3) := by decide +kernel
theorem dX1_hasWrongRest_49 : decode cX1_hasWrongRest 49 = .ok (.iconst 1, 1) := by decide +kernel
theorem dX1_hasWrongRest_50 : decode cX1_hasWrongRest 50 = .ok (.ireturn, 1) := by decide +kernel
theorem dX1_hasWrongRest_51 : decode cX1_hasWrongRest 51 = .ok (.iinc 2 1, 3) := by decide +kernel
theorem dX1_hasWrongRest_54 : decode cX1_hasWrongRest 54 = .ok (.goto (-52), 3) := by decide +kernel
theorem dX1_hasWrongRest_57 : decode cX1_hasWrongRest 57 = .ok (.iconst 0, 1) := by decide +kernel
theorem dX1_hasWrongRest_58 : decode cX1_hasWrongRest 58 = .ok (.ireturn, 1) := by decide +kernel
set_option maxRecDepth 20000 in
theorem ggX1_leftOf_X2_shareOf : GoodIn wsX1_leftOf wsX2_shareOf := goodIn_r _ [10, 11, 12, 13, 14, 15, 16, 17, 18, 19, 20, 21, 22] (by decide +kernel) (by decide +kernel)
set_option maxRecDepth 20000 in
theorem gX1_leftOf_X2_shareOf : GoodIn wsX1_leftOf (wsV RX1 114 RX2 yX2_shareOf wsX2_shareOf) := goodIn_app (goodIn_of _ (by decide +kernel)) ggX1_leftOf_X2_shareOf
theorem dX1_leftOf_0 : decode cX1_leftOf 0 = .ok (.aload_n 1, 1) := by decide +kernel
theorem dX1_leftOf_1 : decode cX1_leftOf 1 = .ok (.getfield 111, 3) := by decide +kernel
theorem dX1_leftOf_4 : decode cX1_leftOf 4 = .ok (.iload_n 2, 1) := by decide +kernel
theorem dX1_leftOf_5 : decode cX1_leftOf 5 = .ok (.iaload, 1) := by decide +kernel
theorem dX1_leftOf_6 : decode cX1_leftOf 6 = .ok (.i2l, 1) := by decide +kernel
theorem dX1_leftOf_7 : decode cX1_leftOf 7 = .ok (.aload_n 0, 1) := by decide +kernel
theorem dX1_leftOf_8 : decode cX1_leftOf 8 = .ok (.getfield 23, 3) := by decide +kernel
theorem dX1_leftOf_11 : decode cX1_leftOf 11 = .ok (.i2l, 1) := by decide +kernel
theorem dX1_leftOf_12 : decode cX1_leftOf 12 = .ok (.lmul, 1) := by decide +kernel
theorem dX1_leftOf_13 : decode cX1_leftOf 13 = .ok (.lstore_n 3, 1) := by decide +kernel
theorem dX1_leftOf_14 : decode cX1_leftOf 14 = .ok (.iconst 0, 1) := by decide +kernel
theorem dX1_leftOf_15 : decode cX1_leftOf 15 = .ok (.istore 5, 2) := by decide +kernel
theorem dX1_leftOf_17 : decode cX1_leftOf 17 = .ok (.iload 5, 2) := by decide +kernel
theorem dX1_leftOf_19 : decode cX1_leftOf 19 = .ok (.aload_n 1, 1) := by decide +kernel
theorem dX1_leftOf_20 : decode cX1_leftOf 20 = .ok (.getfield 65, 3) := by decide +kernel
theorem dX1_leftOf_23 : decode cX1_leftOf 23 = .ok (.if_icmp .ge 40, 3) := by decide +kernel
theorem dX1_leftOf_26 : decode cX1_leftOf 26 = .ok (.aload_n 1, 1) := by decide +kernel
theorem dX1_leftOf_27 : decode cX1_leftOf 27 = .ok (.getfield 68, 3) := by decide +kernel
theorem dX1_leftOf_30 : decode cX1_leftOf 30 = .ok (.iload 5, 2) := by decide +kernel
theorem dX1_leftOf_32 : decode cX1_leftOf 32 = .ok (.iaload, 1) := by decide +kernel
theorem dX1_leftOf_33 : decode cX1_leftOf 33 = .ok (.iconst 1, 1) := by decide +kernel
theorem dX1_leftOf_34 : decode cX1_leftOf 34 = .ok (.if_icmp .ne 23, 3) := by decide +kernel
theorem dX1_leftOf_37 : decode cX1_leftOf 37 = .ok (.lload_n 3, 1) := by decide +kernel
theorem dX1_leftOf_38 : decode cX1_leftOf 38 = .ok (.aload_n 1, 1) := by decide +kernel
theorem dX1_leftOf_39 : decode cX1_leftOf 39 = .ok (.iload 5, 2) := by decide +kernel
theorem dX1_leftOf_41 : decode cX1_leftOf 41 = .ok (.iload_n 2, 1) := by decide +kernel
theorem dX1_leftOf_42 : decode cX1_leftOf 42 = .ok (.invokevirtual 114, 3) := by decide +kernel
theorem dX1_leftOf_45 : decode cX1_leftOf 45 = .ok (.i2l, 1) := by decide +kernel
theorem dX1_leftOf_46 : decode cX1_leftOf 46 = .ok (.aload_n 0, 1) := by decide +kernel
theorem dX1_leftOf_47 : decode cX1_leftOf 47 = .ok (.getfield 15, 3) := by decide +kernel
theorem dX1_leftOf_50 : decode cX1_leftOf 50 = .ok (.iload 5, 2) := by decide +kernel
theorem dX1_leftOf_52 : decode cX1_leftOf 52 = .ok (.iaload, 1) := by decide +kernel
theorem dX1_leftOf_53 : decode cX1_leftOf 53 = .ok (.i2l, 1) := by decide +kernel
theorem dX1_leftOf_54 : decode cX1_leftOf 54 = .ok (.lmul, 1) := by decide +kernel
theorem dX1_leftOf_55 : decode cX1_leftOf 55 = .ok (.lsub, 1) := by decide +kernel
theorem dX1_leftOf_56 : decode cX1_leftOf 56 = .ok (.lstore_n 3, 1) := by decide +kernel
theorem dX1_leftOf_57 : decode cX1_leftOf 57 = .ok (.iinc 5 1, 3) := by decide +kernel
theorem dX1_leftOf_60 : decode cX1_leftOf 60 = .ok (.goto (-43), 3) := by decide +kernel
theorem dX1_leftOf_63 : decode cX1_leftOf 63 = .ok (.lload_n 3, 1) := by decide +kernel
theorem dX1_leftOf_64 : decode cX1_leftOf 64 = .ok (.lreturn, 1) := by decide +kernel
set_option maxRecDepth 20000 in
theorem ggX1_hasIdlePrice_X2_sumIn : GoodIn wsX1_hasIdlePrice wsX2_sumIn := goodIn_r _ [11, 12, 13, 14, 15, 10, 16, 17, 18, 19, 20, 21, 22, 23, 24, 25, 26, 27, 28] (by decide +kernel) (by decide +kernel)
set_option maxRecDepth 20000 in
theorem gX1_hasIdlePrice_X2_sumIn : GoodIn wsX1_hasIdlePrice (wsV RX1 118 RX2 yX2_sumIn wsX2_sumIn) := goodIn_app (goodIn_of _ (by decide +kernel)) ggX1_hasIdlePrice_X2_sumIn
theorem dX1_hasIdlePrice_0 : decode cX1_hasIdlePrice 0 = .ok (.iconst 0, 1) := by decide +kernel
theorem dX1_hasIdlePrice_1 : decode cX1_hasIdlePrice 1 = .ok (.istore_n 2, 1) := by decide +kernel
theorem dX1_hasIdlePrice_2 : decode cX1_hasIdlePrice 2 = .ok (.iload_n 2, 1) := by decide +kernel
theorem dX1_hasIdlePrice_3 : decode cX1_hasIdlePrice 3 = .ok (.aload_n 1, 1) := by decide +kernel
theorem dX1_hasIdlePrice_4 : decode cX1_hasIdlePrice 4 = .ok (.getfield 65, 3) := by decide +kernel
theorem dX1_hasIdlePrice_7 : decode cX1_hasIdlePrice 7 = .ok (.if_icmp .ge 65, 3) := by decide +kernel
theorem dX1_hasIdlePrice_10 : decode cX1_hasIdlePrice 10 = .ok (.aload_n 1, 1) := by decide +kernel
theorem dX1_hasIdlePrice_11 : decode cX1_hasIdlePrice 11 = .ok (.iload_n 2, 1) := by decide +kernel
theorem dX1_hasIdlePrice_12 : decode cX1_hasIdlePrice 12 = .ok (.aload_n 0, 1) := by decide +kernel
theorem dX1_hasIdlePrice_13 : decode cX1_hasIdlePrice 13 = .ok (.getfield 9, 3) := by decide +kernel
theorem dX1_hasIdlePrice_16 : decode cX1_hasIdlePrice 16 = .ok (.invokevirtual 118, 3) := by decide +kernel
theorem dX1_hasIdlePrice_19 : decode cX1_hasIdlePrice 19 = .ok (.aload_n 1, 1) := by decide +kernel
theorem dX1_hasIdlePrice_20 : decode cX1_hasIdlePrice 20 = .ok (.getfield 122, 3) := by decide +kernel
theorem dX1_hasIdlePrice_23 : decode cX1_hasIdlePrice 23 = .ok (.iload_n 2, 1) := by decide +kernel
theorem dX1_hasIdlePrice_24 : decode cX1_hasIdlePrice 24 = .ok (.iaload, 1) := by decide +kernel
theorem dX1_hasIdlePrice_25 : decode cX1_hasIdlePrice 25 = .ok (.i2l, 1) := by decide +kernel
theorem dX1_hasIdlePrice_26 : decode cX1_hasIdlePrice 26 = .ok (.aload_n 0, 1) := by decide +kernel
theorem dX1_hasIdlePrice_27 : decode cX1_hasIdlePrice 27 = .ok (.getfield 19, 3) := by decide +kernel
theorem dX1_hasIdlePrice_30 : decode cX1_hasIdlePrice 30 = .ok (.lmul, 1) := by decide +kernel
theorem dX1_hasIdlePrice_31 : decode cX1_hasIdlePrice 31 = .ok (.lcmp, 1) := by decide +kernel
theorem dX1_hasIdlePrice_32 : decode cX1_hasIdlePrice 32 = .ok (.ifCond .ne 7, 3) := by decide +kernel
theorem dX1_hasIdlePrice_35 : decode cX1_hasIdlePrice 35 = .ok (.iconst 1, 1) := by decide +kernel
theorem dX1_hasIdlePrice_36 : decode cX1_hasIdlePrice 36 = .ok (.goto 4, 3) := by decide +kernel
theorem dX1_hasIdlePrice_39 : decode cX1_hasIdlePrice 39 = .ok (.iconst 0, 1) := by decide +kernel
theorem dX1_hasIdlePrice_40 : decode cX1_hasIdlePrice 40 = .ok (.istore_n 3, 1) := by decide +kernel
theorem dX1_hasIdlePrice_41 : decode cX1_hasIdlePrice 41 = .ok (.aload_n 1, 1) := by decide +kernel
theorem dX1_hasIdlePrice_42 : decode cX1_hasIdlePrice 42 = .ok (.getfield 68, 3) := by decide +kernel
theorem dX1_hasIdlePrice_45 : decode cX1_hasIdlePrice 45 = .ok (.iload_n 2, 1) := by decide +kernel
theorem dX1_hasIdlePrice_46 : decode cX1_hasIdlePrice 46 = .ok (.iaload, 1) := by decide +kernel
theorem dX1_hasIdlePrice_47 : decode cX1_hasIdlePrice 47 = .ok (.iconst 1, 1) := by decide +kernel
theorem dX1_hasIdlePrice_48 : decode cX1_hasIdlePrice 48 = .ok (.if_icmp .ne 18, 3) := by decide +kernel
theorem dX1_hasIdlePrice_51 : decode cX1_hasIdlePrice 51 = .ok (.aload_n 0, 1) := by decide +kernel
theorem dX1_hasIdlePrice_52 : decode cX1_hasIdlePrice 52 = .ok (.getfield 15, 3) := by decide +kernel
theorem dX1_hasIdlePrice_55 : decode cX1_hasIdlePrice 55 = .ok (.iload_n 2, 1) := by decide +kernel
theorem dX1_hasIdlePrice_56 : decode cX1_hasIdlePrice 56 = .ok (.iaload, 1) := by decide +kernel
theorem dX1_hasIdlePrice_57 : decode cX1_hasIdlePrice 57 = .ok (.ifCond .eq 9, 3) := by decide +kernel
theorem dX1_hasIdlePrice_60 : decode cX1_hasIdlePrice 60 = .ok (.iload_n 3, 1) := by decide +kernel
theorem dX1_hasIdlePrice_61 : decode cX1_hasIdlePrice 61 = .ok (.ifCond .ne 5, 3) := by decide +kernel
theorem dX1_hasIdlePrice_64 : decode cX1_hasIdlePrice 64 = .ok (.iconst 1, 1) := by decide +kernel
theorem dX1_hasIdlePrice_65 : decode cX1_hasIdlePrice 65 = .ok (.ireturn, 1) := by decide +kernel
theorem dX1_hasIdlePrice_66 : decode cX1_hasIdlePrice 66 = .ok (.iinc 2 1, 3) := by decide +kernel
theorem dX1_hasIdlePrice_69 : decode cX1_hasIdlePrice 69 = .ok (.goto (-67), 3) := by decide +kernel
theorem dX1_hasIdlePrice_72 : decode cX1_hasIdlePrice 72 = .ok (.iconst 0, 1) := by decide +kernel
theorem dX1_hasIdlePrice_73 : decode cX1_hasIdlePrice 73 = .ok (.ireturn, 1) := by decide +kernel
set_option maxRecDepth 20000 in
theorem ggX3_init_X5_init : GoodIn wsX3_init wsX5_init := goodIn_r _ [13, 14, 2, 3, 8, 15, 16, 17, 18, 19, 20, 10, 21, 22, 23, 24, 25, 26, 27, 28, 29, 30, 31, 32, 33, 34, 35] (by decide +kernel) (by decide +kernel)
set_option maxRecDepth 20000 in
theorem gX3_init_X5_init_n11 : GoodIn wsX3_init (wsX5_init) := ggX3_init_X5_init
theorem dX3_init_0 : decode cX3_init 0 = .ok (.aload_n 0, 1) := by decide +kernel
theorem dX3_init_1 : decode cX3_init 1 = .ok (.invokespecial 3, 3) := by decide +kernel
theorem dX3_init_4 : decode cX3_init 4 = .ok (.aload_n 0, 1) := by decide +kernel
theorem dX3_init_5 : decode cX3_init 5 = .ok (.new 9, 3) := by decide +kernel
theorem dX3_init_8 : decode cX3_init 8 = .ok (.dup, 1) := by decide +kernel
theorem dX3_init_9 : decode cX3_init 9 = .ok (.invokespecial 11, 3) := by decide +kernel
theorem dX3_init_12 : decode cX3_init 12 = .ok (.putfield 12, 3) := by decide +kernel
theorem dX3_init_15 : decode cX3_init 15 = .ok (.aload_n 0, 1) := by decide +kernel
theorem dX3_init_16 : decode cX3_init 16 = .ok (.iconst 5, 1) := by decide +kernel
theorem dX3_init_17 : decode cX3_init 17 = .ok (.newarray .long, 2) := by decide +kernel
theorem dX3_init_19 : decode cX3_init 19 = .ok (.putfield 18, 3) := by decide +kernel
theorem dX3_init_22 : decode cX3_init 22 = .ok (.aload_n 0, 1) := by decide +kernel
theorem dX3_init_23 : decode cX3_init 23 = .ok (.sipush 128, 3) := by decide +kernel
theorem dX3_init_26 : decode cX3_init 26 = .ok (.newarray .boolean, 2) := by decide +kernel
theorem dX3_init_28 : decode cX3_init 28 = .ok (.putfield 22, 3) := by decide +kernel
theorem dX3_init_31 : decode cX3_init 31 = .ok (.return_, 1) := by decide +kernel
set_option maxRecDepth 20000 in
theorem ggX3_smallest_X2_countingSet : GoodIn wsX3_smallest wsX2_countingSet := goodIn_r _ [6, 7, 8, 119, 120, 121, 122, 123, 124, 125, 126, 127, 128, 129] (by decide +kernel) (by decide +kernel)
set_option maxRecDepth 20000 in
theorem gX3_smallest_X2_countingSet : GoodIn wsX3_smallest (wsV RX3 26 RX2 yX2_countingSet wsX2_countingSet) := goodIn_app (goodIn_of _ (by decide +kernel)) ggX3_smallest_X2_countingSet
set_option maxRecDepth 20000 in
theorem ggX3_smallest_X3_makesPeace : GoodIn wsX3_smallest wsX3_makesPeace := goodIn_r _ [13, 14, 15, 16, 17, 18, 19, 1, 20, 21, 22, 23, 24, 25, 26, 27, 28, 29, 30, 31, 32, 33, 34, 35, 36, 37, 38, 39, 40, 41, 42, 43, 44, 45, 46, 47, 48, 49, 50, 51, 52, 53, 54, 55, 5, 56, 57, 58, 59, 60, 61, 62, 63, 64, 65, 66, 67, 68, 69, 70, 71, 72, 73, 74, 75, 76, 77, 78, 79, 80, 81, 82, 83, 84, 85, 86, 87, 88, 89, 90, 91, 92, 93, 94, 95, 96, 97, 98, 99, 100, 101, 102, 103, 104, 105, 106, 107, 108, 116, 117, 118, 119, 120, 121, 122, 123, 124, 125, 126, 127, 128, 129, 130, 131, 132, 133, 134, 135, 136, 137, 138, 139] (by decide +kernel) (by decide +kernel)
set_option maxRecDepth 20000 in
theorem gX3_smallest_X3_makesPeace : GoodIn wsX3_smallest (wsV RX3 32 RX3 yX3_makesPeace wsX3_makesPeace) := goodIn_app (goodIn_of _ (by decide +kernel)) ggX3_smallest_X3_makesPeace
set_option maxRecDepth 20000 in
theorem ggX3_smallest_J6_bitCount_0f7a4 : GoodIn wsX3_smallest wsJ6_bitCount_0f7a4 := goodIn_r _ [112, 113, 114, 115] (by decide +kernel) (by decide +kernel)
set_option maxRecDepth 20000 in
theorem gX3_smallest_J6_bitCount_0f7a4 : GoodIn wsX3_smallest (va_wsS RX3 36 yJ6_bitCount_0f7a4 wsJ6_bitCount_0f7a4) := goodIn_app (goodIn_of _ (by decide +kernel)) ggX3_smallest_J6_bitCount_0f7a4
theorem dX3_smallest_0 : decode cX3_smallest 0 = .ok (.aload_n 1, 1) := by decide +kernel
theorem dX3_smallest_1 : decode cX3_smallest 1 = .ok (.invokevirtual 26, 3) := by decide +kernel
theorem dX3_smallest_4 : decode cX3_smallest 4 = .ok (.istore_n 2, 1) := by decide +kernel
theorem dX3_smallest_5 : decode cX3_smallest 5 = .ok (.iconst 0, 1) := by decide +kernel
theorem dX3_smallest_6 : decode cX3_smallest 6 = .ok (.istore_n 3, 1) := by decide +kernel
theorem dX3_smallest_7 : decode cX3_smallest 7 = .ok (.iload_n 3, 1) := by decide +kernel
theorem dX3_smallest_8 : decode cX3_smallest 8 = .ok (.sipush 128, 3) := by decide +kernel
theorem dX3_smallest_11 : decode cX3_smallest 11 = .ok (.if_icmp .ge 16, 3) := by decide +kernel
theorem dX3_smallest_14 : decode cX3_smallest 14 = .ok (.aload_n 0, 1) := by decide +kernel
theorem dX3_smallest_15 : decode cX3_smallest 15 = .ok (.getfield 22, 3) := by decide +kernel
theorem dX3_smallest_18 : decode cX3_smallest 18 = .ok (.iload_n 3, 1) := by decide +kernel
theorem dX3_smallest_19 : decode cX3_smallest 19 = .ok (.iconst 0, 1) := by decide +kernel
theorem dX3_smallest_20 : decode cX3_smallest 20 = .ok (.bastore, 1) := by decide +kernel
theorem dX3_smallest_21 : decode cX3_smallest 21 = .ok (.iinc 3 1, 3) := by decide +kernel
theorem dX3_smallest_24 : decode cX3_smallest 24 = .ok (.goto (-17), 3) := by decide +kernel
theorem dX3_smallest_27 : decode cX3_smallest 27 = .ok (.aload_n 0, 1) := by decide +kernel
theorem dX3_smallest_28 : decode cX3_smallest 28 = .ok (.aload_n 1, 1) := by decide +kernel
theorem dX3_smallest_29 : decode cX3_smallest 29 = .ok (.iload_n 2, 1) := by decide +kernel
theorem dX3_smallest_30 : decode cX3_smallest 30 = .ok (.invokevirtual 32, 3) := by decide +kernel
theorem dX3_smallest_33 : decode cX3_smallest 33 = .ok (.ifCond .eq 5, 3) := by decide +kernel
theorem dX3_smallest_36 : decode cX3_smallest 36 = .ok (.iconst 0, 1) := by decide +kernel
theorem dX3_smallest_37 : decode cX3_smallest 37 = .ok (.ireturn, 1) := by decide +kernel
theorem dX3_smallest_38 : decode cX3_smallest 38 = .ok (.iconst 1, 1) := by decide +kernel
theorem dX3_smallest_39 : decode cX3_smallest 39 = .ok (.istore_n 3, 1) := by decide +kernel
theorem dX3_smallest_40 : decode cX3_smallest 40 = .ok (.iload_n 3, 1) := by decide +kernel
theorem dX3_smallest_41 : decode cX3_smallest 41 = .ok (.bipush 7, 2) := by decide +kernel
theorem dX3_smallest_43 : decode cX3_smallest 43 = .ok (.if_icmp .gt 79, 3) := by decide +kernel
theorem dX3_smallest_46 : decode cX3_smallest 46 = .ok (.iconst 1, 1) := by decide +kernel
theorem dX3_smallest_47 : decode cX3_smallest 47 = .ok (.istore 4, 2) := by decide +kernel
theorem dX3_smallest_49 : decode cX3_smallest 49 = .ok (.iload 4, 2) := by decide +kernel
theorem dX3_smallest_51 : decode cX3_smallest 51 = .ok (.sipush 128, 3) := by decide +kernel
theorem dX3_smallest_54 : decode cX3_smallest 54 = .ok (.if_icmp .ge 62, 3) := by decide +kernel
theorem dX3_smallest_57 : decode cX3_smallest 57 = .ok (.iload 4, 2) := by decide +kernel
theorem dX3_smallest_59 : decode cX3_smallest 59 = .ok (.iload_n 2, 1) := by decide +kernel
theorem dX3_smallest_60 : decode cX3_smallest 60 = .ok (.iconst (-1), 1) := by decide +kernel
theorem dX3_smallest_61 : decode cX3_smallest 61 = .ok (.ixor, 1) := by decide +kernel
theorem dX3_smallest_62 : decode cX3_smallest 62 = .ok (.iand, 1) := by decide +kernel
theorem dX3_smallest_63 : decode cX3_smallest 63 = .ok (.ifCond .ne 16, 3) := by decide +kernel
theorem dX3_smallest_66 : decode cX3_smallest 66 = .ok (.iload 4, 2) := by decide +kernel
theorem dX3_smallest_68 : decode cX3_smallest 68 = .ok (.invokestatic 36, 3) := by decide +kernel
theorem dX3_smallest_71 : decode cX3_smallest 71 = .ok (.iload_n 3, 1) := by decide +kernel
theorem dX3_smallest_72 : decode cX3_smallest 72 = .ok (.if_icmp .ne 7, 3) := by decide +kernel
theorem dX3_smallest_75 : decode cX3_smallest 75 = .ok (.iconst 1, 1) := by decide +kernel
theorem dX3_smallest_76 : decode cX3_smallest 76 = .ok (.goto 4, 3) := by decide +kernel
theorem dX3_smallest_79 : decode cX3_smallest 79 = .ok (.iconst 0, 1) := by decide +kernel
theorem dX3_smallest_80 : decode cX3_smallest 80 = .ok (.istore 5, 2) := by decide +kernel
theorem dX3_smallest_82 : decode cX3_smallest 82 = .ok (.iload 5, 2) := by decide +kernel
theorem dX3_smallest_84 : decode cX3_smallest 84 = .ok (.ifCond .eq 26, 3) := by decide +kernel
theorem dX3_smallest_87 : decode cX3_smallest 87 = .ok (.aload_n 0, 1) := by decide +kernel
theorem dX3_smallest_88 : decode cX3_smallest 88 = .ok (.getfield 22, 3) := by decide +kernel
theorem dX3_smallest_91 : decode cX3_smallest 91 = .ok (.iload 4, 2) := by decide +kernel
theorem dX3_smallest_93 : decode cX3_smallest 93 = .ok (.baload, 1) := by decide +kernel
theorem dX3_smallest_94 : decode cX3_smallest 94 = .ok (.ifCond .ne 16, 3) := by decide +kernel
theorem dX3_smallest_97 : decode cX3_smallest 97 = .ok (.aload_n 0, 1) := by decide +kernel
theorem dX3_smallest_98 : decode cX3_smallest 98 = .ok (.aload_n 1, 1) := by decide +kernel
theorem dX3_smallest_99 : decode cX3_smallest 99 = .ok (.iload 4, 2) := by decide +kernel
theorem dX3_smallest_101 : decode cX3_smallest 101 = .ok (.invokevirtual 32, 3) := by decide +kernel
theorem dX3_smallest_104 : decode cX3_smallest 104 = .ok (.ifCond .ne 6, 3) := by decide +kernel
theorem dX3_smallest_107 : decode cX3_smallest 107 = .ok (.iload 4, 2) := by decide +kernel
theorem dX3_smallest_109 : decode cX3_smallest 109 = .ok (.ireturn, 1) := by decide +kernel
theorem dX3_smallest_110 : decode cX3_smallest 110 = .ok (.iinc 4 1, 3) := by decide +kernel
theorem dX3_smallest_113 : decode cX3_smallest 113 = .ok (.goto (-64), 3) := by decide +kernel
theorem dX3_smallest_116 : decode cX3_smallest 116 = .ok (.iinc 3 1, 3) := by decide +kernel
theorem dX3_smallest_119 : decode cX3_smallest 119 = .ok (.goto (-79), 3) := by decide +kernel
theorem dX3_smallest_122 : decode cX3_smallest 122 = .ok (.iconst 0, 1) := by decide +kernel
theorem dX3_smallest_123 : decode cX3_smallest 123 = .ok (.ireturn, 1) := by decide +kernel
set_option maxRecDepth 20000 in
theorem ggX3_makesPeace_X5_begin : GoodIn wsX3_makesPeace wsX5_begin := goodIn_r _ [12, 13, 14, 15, 16, 17, 18, 19, 20, 21, 11, 22, 23, 24, 25, 26, 27, 28, 29, 30, 31, 32, 33, 34, 35, 101, 102, 103, 104, 105, 106, 107, 108, 109, 110, 111, 112, 113, 114, 115, 116, 117, 118, 119, 120, 121] (by decide +kernel) (by decide +kernel)
set_option maxRecDepth 20000 in
theorem gX3_makesPeace_X5_begin : GoodIn wsX3_makesPeace (wsV RX3 42 RX5 yX5_begin wsX5_begin) := goodIn_app (goodIn_of _ (by decide +kernel)) ggX3_makesPeace_X5_begin
set_option maxRecDepth 20000 in
theorem ggX3_makesPeace_X5_addRow : GoodIn wsX3_makesPeace wsX5_addRow := goodIn_r _ [39, 40, 14, 23, 19, 20, 21, 11, 22, 15, 24, 41, 42, 43, 44, 45, 46, 47, 48, 49, 50, 32, 16, 101, 102, 103, 104, 105, 106, 107, 108, 109, 110, 111, 112, 113, 114, 115, 116, 117, 118, 119, 120, 121] (by decide +kernel) (by decide +kernel)
set_option maxRecDepth 20000 in
theorem gX3_makesPeace_X5_addRow : GoodIn wsX3_makesPeace (wsV RX3 54 RX5 yX5_addRow wsX5_addRow) := goodIn_app (goodIn_of _ (by decide +kernel)) ggX3_makesPeace_X5_addRow
set_option maxRecDepth 20000 in
theorem ggX3_makesPeace_X5_descend : GoodIn wsX3_makesPeace wsX5_descend := goodIn_r _ [54, 55, 56, 57, 58, 11, 59, 15, 24, 60, 61, 62, 63, 17, 23, 64, 65, 66, 67, 68, 69, 70, 71, 14, 35, 72, 73, 74, 75, 76, 77, 78, 79, 80, 81, 82, 83, 16, 112, 113, 114, 115, 116, 117, 118, 119, 120, 121] (by decide +kernel) (by decide +kernel)
set_option maxRecDepth 20000 in
theorem gX3_makesPeace_X5_descend : GoodIn wsX3_makesPeace (wsV RX3 58 RX5 yX5_descend wsX5_descend) := goodIn_app (goodIn_of _ (by decide +kernel)) ggX3_makesPeace_X5_descend
set_option maxRecDepth 20000 in
theorem ggX3_makesPeace_X5_valueAbove : GoodIn wsX3_makesPeace wsX5_valueAbove := goodIn_r _ [50, 32, 16, 23, 112, 113, 114, 115, 116, 117, 118, 119, 120, 121] (by decide +kernel) (by decide +kernel)
set_option maxRecDepth 20000 in
theorem gX3_makesPeace_X5_valueAbove : GoodIn wsX3_makesPeace (wsV RX3 65 RX5 yX5_valueAbove wsX5_valueAbove) := goodIn_app (goodIn_of _ (by decide +kernel)) ggX3_makesPeace_X5_valueAbove
set_option maxRecDepth 20000 in
theorem ggX3_makesPeace_X2_isKept : GoodIn wsX3_makesPeace wsX2_isKept := goodIn_r _ [88, 89, 90, 91, 92, 93, 44, 94, 95, 96, 42, 43, 45, 46, 97, 65, 66, 67, 101, 102, 103, 104, 105, 106, 107, 108, 109, 110, 111] (by decide +kernel) (by decide +kernel)
set_option maxRecDepth 20000 in
theorem gX3_makesPeace_X2_isKept : GoodIn wsX3_makesPeace (wsV RX3 73 RX2 yX2_isKept wsX2_isKept) := goodIn_app (goodIn_of _ (by decide +kernel)) ggX3_makesPeace_X2_isKept
theorem dX3_makesPeace_0 : decode cX3_makesPeace 0 = .ok (.aload_n 0, 1) := by decide +kernel
theorem dX3_makesPeace_1 : decode cX3_makesPeace 1 = .ok (.getfield 12, 3) := by decide +kernel
theorem dX3_makesPeace_4 : decode cX3_makesPeace 4 = .ok (.aload_n 1, 1) := by decide +kernel
theorem dX3_makesPeace_5 : decode cX3_makesPeace 5 = .ok (.iconst 0, 1) := by decide +kernel
theorem dX3_makesPeace_6 : decode cX3_makesPeace 6 = .ok (.invokevirtual 42, 3) := by decide +kernel
theorem dX3_makesPeace_9 : decode cX3_makesPeace 9 = .ok (.iconst 0, 1) := by decide +kernel
theorem dX3_makesPeace_10 : decode cX3_makesPeace 10 = .ok (.istore_n 3, 1) := by decide +kernel
theorem dX3_makesPeace_11 : decode cX3_makesPeace 11 = .ok (.iload_n 3, 1) := by decide +kernel
theorem dX3_makesPeace_12 : decode cX3_makesPeace 12 = .ok (.aload_n 1, 1) := by decide +kernel
theorem dX3_makesPeace_13 : decode cX3_makesPeace 13 = .ok (.getfield 46, 3) := by decide +kernel
theorem dX3_makesPeace_16 : decode cX3_makesPeace 16 = .ok (.if_icmp .ge 33, 3) := by decide +kernel
theorem dX3_makesPeace_19 : decode cX3_makesPeace 19 = .ok (.iload_n 2, 1) := by decide +kernel
theorem dX3_makesPeace_20 : decode cX3_makesPeace 20 = .ok (.iload_n 3, 1) := by decide +kernel
theorem dX3_makesPeace_21 : decode cX3_makesPeace 21 = .ok (.ishr, 1) := by decide +kernel
theorem dX3_makesPeace_22 : decode cX3_makesPeace 22 = .ok (.iconst 1, 1) := by decide +kernel
theorem dX3_makesPeace_23 : decode cX3_makesPeace 23 = .ok (.iand, 1) := by decide +kernel
theorem dX3_makesPeace_24 : decode cX3_makesPeace 24 = .ok (.iconst 1, 1) := by decide +kernel
theorem dX3_makesPeace_25 : decode cX3_makesPeace 25 = .ok (.if_icmp .ne 18, 3) := by decide +kernel
theorem dX3_makesPeace_28 : decode cX3_makesPeace 28 = .ok (.aload_n 0, 1) := by decide +kernel
theorem dX3_makesPeace_29 : decode cX3_makesPeace 29 = .ok (.getfield 12, 3) := by decide +kernel
theorem dX3_makesPeace_32 : decode cX3_makesPeace 32 = .ok (.aload_n 1, 1) := by decide +kernel
theorem dX3_makesPeace_33 : decode cX3_makesPeace 33 = .ok (.iload_n 3, 1) := by decide +kernel
theorem dX3_makesPeace_34 : decode cX3_makesPeace 34 = .ok (.aload_n 1, 1) := by decide +kernel
theorem dX3_makesPeace_35 : decode cX3_makesPeace 35 = .ok (.getfield 50, 3) := by decide +kernel
theorem dX3_makesPeace_38 : decode cX3_makesPeace 38 = .ok (.iload_n 3, 1) := by decide +kernel
theorem dX3_makesPeace_39 : decode cX3_makesPeace 39 = .ok (.iaload, 1) := by decide +kernel
theorem dX3_makesPeace_40 : decode cX3_makesPeace 40 = .ok (.invokevirtual 54, 3) := by decide +kernel
theorem dX3_makesPeace_43 : decode cX3_makesPeace 43 = .ok (.iinc 3 1, 3) := by decide +kernel
theorem dX3_makesPeace_46 : decode cX3_makesPeace 46 = .ok (.goto (-35), 3) := by decide +kernel
theorem dX3_makesPeace_49 : decode cX3_makesPeace 49 = .ok (.aload_n 0, 1) := by decide +kernel
theorem dX3_makesPeace_50 : decode cX3_makesPeace 50 = .ok (.getfield 12, 3) := by decide +kernel
theorem dX3_makesPeace_53 : decode cX3_makesPeace 53 = .ok (.invokevirtual 58, 3) := by decide +kernel
theorem dX3_makesPeace_56 : decode cX3_makesPeace 56 = .ok (.ifCond .ne 5, 3) := by decide +kernel
theorem dX3_makesPeace_59 : decode cX3_makesPeace 59 = .ok (.iconst 0, 1) := by decide +kernel
theorem dX3_makesPeace_60 : decode cX3_makesPeace 60 = .ok (.ireturn, 1) := by decide +kernel
theorem dX3_makesPeace_61 : decode cX3_makesPeace 61 = .ok (.iconst 0, 1) := by decide +kernel
theorem dX3_makesPeace_62 : decode cX3_makesPeace 62 = .ok (.istore_n 3, 1) := by decide +kernel
theorem dX3_makesPeace_63 : decode cX3_makesPeace 63 = .ok (.iload_n 3, 1) := by decide +kernel
theorem dX3_makesPeace_64 : decode cX3_makesPeace 64 = .ok (.aload_n 1, 1) := by decide +kernel
theorem dX3_makesPeace_65 : decode cX3_makesPeace 65 = .ok (.getfield 62, 3) := by decide +kernel
theorem dX3_makesPeace_68 : decode cX3_makesPeace 68 = .ok (.if_icmp .ge 23, 3) := by decide +kernel
theorem dX3_makesPeace_71 : decode cX3_makesPeace 71 = .ok (.aload_n 0, 1) := by decide +kernel
theorem dX3_makesPeace_72 : decode cX3_makesPeace 72 = .ok (.getfield 18, 3) := by decide +kernel
theorem dX3_makesPeace_75 : decode cX3_makesPeace 75 = .ok (.iload_n 3, 1) := by decide +kernel
theorem dX3_makesPeace_76 : decode cX3_makesPeace 76 = .ok (.aload_n 0, 1) := by decide +kernel
theorem dX3_makesPeace_77 : decode cX3_makesPeace 77 = .ok (.getfield 12, 3) := by decide +kernel
theorem dX3_makesPeace_80 : decode cX3_makesPeace 80 = .ok (.iload_n 3, 1) := by decide +kernel
theorem dX3_makesPeace_81 : decode cX3_makesPeace 81 = .ok (.invokevirtual 65, 3) := by decide +kernel
theorem dX3_makesPeace_84 : decode cX3_makesPeace 84 = .ok (.lastore, 1) := by decide +kernel
theorem dX3_makesPeace_85 : decode cX3_makesPeace 85 = .ok (.iinc 3 1, 3) := by decide +kernel
theorem dX3_makesPeace_88 : decode cX3_makesPeace 88 = .ok (.goto (-25), 3) := by decide +kernel
theorem dX3_makesPeace_91 : decode cX3_makesPeace 91 = .ok (.iconst 0, 1) := by decide +kernel
theorem dX3_makesPeace_92 : decode cX3_makesPeace 92 = .ok (.istore_n 3, 1) := by decide +kernel
theorem dX3_makesPeace_93 : decode cX3_makesPeace 93 = .ok (.iconst 0, 1) := by decide +kernel
theorem dX3_makesPeace_94 : decode cX3_makesPeace 94 = .ok (.istore 4, 2) := by decide +kernel
theorem dX3_makesPeace_96 : decode cX3_makesPeace 96 = .ok (.iload 4, 2) := by decide +kernel
theorem dX3_makesPeace_98 : decode cX3_makesPeace 98 = .ok (.aload_n 1, 1) := by decide +kernel
theorem dX3_makesPeace_99 : decode cX3_makesPeace 99 = .ok (.getfield 46, 3) := by decide +kernel
theorem dX3_makesPeace_102 : decode cX3_makesPeace 102 = .ok (.if_icmp .ge 40, 3) := by decide +kernel
theorem dX3_makesPeace_105 : decode cX3_makesPeace 105 = .ok (.iload_n 3, 1) := by decide +kernel
theorem dX3_makesPeace_106 : decode cX3_makesPeace 106 = .ok (.aload_n 1, 1) := by decide +kernel
theorem dX3_makesPeace_107 : decode cX3_makesPeace 107 = .ok (.iload 4, 2) := by decide +kernel
theorem dX3_makesPeace_109 : decode cX3_makesPeace 109 = .ok (.aload_n 0, 1) := by decide +kernel
theorem dX3_makesPeace_110 : decode cX3_makesPeace 110 = .ok (.getfield 18, 3) := by decide +kernel
theorem dX3_makesPeace_113 : decode cX3_makesPeace 113 = .ok (.aload_n 0, 1) := by decide +kernel
theorem dX3_makesPeace_114 : decode cX3_makesPeace 114 = .ok (.getfield 12, 3) := by decide +kernel
theorem dX3_makesPeace_117 : decode cX3_makesPeace 117 = .ok (.getfield 69, 3) := by decide +kernel
theorem dX3_makesPeace_120 : decode cX3_makesPeace 120 = .ok (.invokevirtual 73, 3) := by decide +kernel
theorem dX3_makesPeace_123 : decode cX3_makesPeace 123 = .ok (.ifCond .eq 7, 3) := by decide +kernel
theorem dX3_makesPeace_126 : decode cX3_makesPeace 126 = .ok (.iconst 0, 1) := by decide +kernel
theorem dX3_makesPeace_127 : decode cX3_makesPeace 127 = .ok (.goto 7, 3) := by decide +kernel
theorem dX3_makesPeace_130 : decode cX3_makesPeace 130 = .ok (.iconst 1, 1) := by decide +kernel
theorem dX3_makesPeace_131 : decode cX3_makesPeace 131 = .ok (.iload 4, 2) := by decide +kernel
theorem dX3_makesPeace_133 : decode cX3_makesPeace 133 = .ok (.ishl, 1) := by decide +kernel
theorem dX3_makesPeace_134 : decode cX3_makesPeace 134 = .ok (.ior, 1) := by decide +kernel
theorem dX3_makesPeace_135 : decode cX3_makesPeace 135 = .ok (.istore_n 3, 1) := by decide +kernel
theorem dX3_makesPeace_136 : decode cX3_makesPeace 136 = .ok (.iinc 4 1, 3) := by decide +kernel
theorem dX3_makesPeace_139 : decode cX3_makesPeace 139 = .ok (.goto (-43), 3) := by decide +kernel
theorem dX3_makesPeace_142 : decode cX3_makesPeace 142 = .ok (.iconst 0, 1) := by decide +kernel
theorem dX3_makesPeace_143 : decode cX3_makesPeace 143 = .ok (.istore 4, 2) := by decide +kernel
theorem dX3_makesPeace_145 : decode cX3_makesPeace 145 = .ok (.iload 4, 2) := by decide +kernel
theorem dX3_makesPeace_147 : decode cX3_makesPeace 147 = .ok (.sipush 128, 3) := by decide +kernel
theorem dX3_makesPeace_150 : decode cX3_makesPeace 150 = .ok (.if_icmp .ge 38, 3) := by decide +kernel
theorem dX3_makesPeace_153 : decode cX3_makesPeace 153 = .ok (.aload_n 0, 1) := by decide +kernel
theorem dX3_makesPeace_154 : decode cX3_makesPeace 154 = .ok (.getfield 22, 3) := by decide +kernel
theorem dX3_makesPeace_157 : decode cX3_makesPeace 157 = .ok (.iload 4, 2) := by decide +kernel
theorem dX3_makesPeace_159 : decode cX3_makesPeace 159 = .ok (.aload_n 0, 1) := by decide +kernel
theorem dX3_makesPeace_160 : decode cX3_makesPeace 160 = .ok (.getfield 22, 3) := by decide +kernel
theorem dX3_makesPeace_163 : decode cX3_makesPeace 163 = .ok (.iload 4, 2) := by decide +kernel
theorem dX3_makesPeace_165 : decode cX3_makesPeace 165 = .ok (.baload, 1) := by decide +kernel
theorem dX3_makesPeace_166 : decode cX3_makesPeace 166 = .ok (.ifCond .ne 10, 3) := by decide +kernel
theorem dX3_makesPeace_169 : decode cX3_makesPeace 169 = .ok (.iload 4, 2) := by decide +kernel
theorem dX3_makesPeace_171 : decode cX3_makesPeace 171 = .ok (.iload_n 3, 1) := by decide +kernel
theorem dX3_makesPeace_172 : decode cX3_makesPeace 172 = .ok (.iand, 1) := by decide +kernel
theorem dX3_makesPeace_173 : decode cX3_makesPeace 173 = .ok (.ifCond .ne 7, 3) := by decide +kernel
theorem dX3_makesPeace_176 : decode cX3_makesPeace 176 = .ok (.iconst 1, 1) := by decide +kernel
theorem dX3_makesPeace_177 : decode cX3_makesPeace 177 = .ok (.goto 4, 3) := by decide +kernel
theorem dX3_makesPeace_180 : decode cX3_makesPeace 180 = .ok (.iconst 0, 1) := by decide +kernel
theorem dX3_makesPeace_181 : decode cX3_makesPeace 181 = .ok (.bastore, 1) := by decide +kernel
theorem dX3_makesPeace_182 : decode cX3_makesPeace 182 = .ok (.iinc 4 1, 3) := by decide +kernel
theorem dX3_makesPeace_185 : decode cX3_makesPeace 185 = .ok (.goto (-40), 3) := by decide +kernel
theorem dX3_makesPeace_188 : decode cX3_makesPeace 188 = .ok (.iconst 1, 1) := by decide +kernel
theorem dX3_makesPeace_189 : decode cX3_makesPeace 189 = .ok (.ireturn, 1) := by decide +kernel
theorem dX4_init_0 : decode cX4_init 0 = .ok (.aload_n 0, 1) := by decide +kernel
theorem dX4_init_1 : decode cX4_init 1 = .ok (.invokespecial 3, 3) := by decide +kernel
theorem dX4_init_4 : decode cX4_init 4 = .ok (.aload_n 0, 1) := by decide +kernel
theorem dX4_init_5 : decode cX4_init 5 = .ok (.bipush 51, 2) := by decide +kernel
theorem dX4_init_7 : decode cX4_init 7 = .ok (.anewarray 11, 3) := by decide +kernel
theorem dX4_init_10 : decode cX4_init 10 = .ok (.putfield 13, 3) := by decide +kernel
theorem dX4_init_13 : decode cX4_init 13 = .ok (.aload_n 0, 1) := by decide +kernel
theorem dX4_init_14 : decode cX4_init 14 = .ok (.bipush 51, 2) := by decide +kernel
theorem dX4_init_16 : decode cX4_init 16 = .ok (.newarray .int, 2) := by decide +kernel
theorem dX4_init_18 : decode cX4_init 18 = .ok (.putfield 17, 3) := by decide +kernel
theorem dX4_init_21 : decode cX4_init 21 = .ok (.aload_n 0, 1) := by decide +kernel
theorem dX4_init_22 : decode cX4_init 22 = .ok (.bipush 51, 2) := by decide +kernel
theorem dX4_init_24 : decode cX4_init 24 = .ok (.newarray .int, 2) := by decide +kernel
theorem dX4_init_26 : decode cX4_init 26 = .ok (.putfield 21, 3) := by decide +kernel
theorem dX4_init_29 : decode cX4_init 29 = .ok (.return_, 1) := by decide +kernel
set_option maxRecDepth 20000 in
theorem ggX4_tableAt_X5_init : GoodIn wsX4_tableAt wsX5_init := goodIn_r _ [6, 7, 8, 9, 10, 11, 12, 13, 14, 15, 16, 17, 18, 19, 20, 21, 22, 26, 27, 28, 29, 30, 31, 32, 33, 34, 35] (by decide +kernel) (by decide +kernel)
set_option maxRecDepth 20000 in
theorem gX4_tableAt_X5_init_n24 : GoodIn wsX4_tableAt (wsX5_init) := ggX4_tableAt_X5_init
theorem dX4_tableAt_0 : decode cX4_tableAt 0 = .ok (.aload_n 0, 1) := by decide +kernel
theorem dX4_tableAt_1 : decode cX4_tableAt 1 = .ok (.getfield 13, 3) := by decide +kernel
theorem dX4_tableAt_4 : decode cX4_tableAt 4 = .ok (.iload_n 1, 1) := by decide +kernel
theorem dX4_tableAt_5 : decode cX4_tableAt 5 = .ok (.aaload, 1) := by decide +kernel
theorem dX4_tableAt_6 : decode cX4_tableAt 6 = .ok (.astore_n 2, 1) := by decide +kernel
theorem dX4_tableAt_7 : decode cX4_tableAt 7 = .ok (.aload_n 2, 1) := by decide +kernel
theorem dX4_tableAt_8 : decode cX4_tableAt 8 = .ok (.ifnonnull 18, 3) := by decide +kernel
theorem dX4_tableAt_11 : decode cX4_tableAt 11 = .ok (.new 11, 3) := by decide +kernel
theorem dX4_tableAt_14 : decode cX4_tableAt 14 = .ok (.dup, 1) := by decide +kernel
theorem dX4_tableAt_15 : decode cX4_tableAt 15 = .ok (.invokespecial 24, 3) := by decide +kernel
theorem dX4_tableAt_18 : decode cX4_tableAt 18 = .ok (.astore_n 2, 1) := by decide +kernel
theorem dX4_tableAt_19 : decode cX4_tableAt 19 = .ok (.aload_n 0, 1) := by decide +kernel
theorem dX4_tableAt_20 : decode cX4_tableAt 20 = .ok (.getfield 13, 3) := by decide +kernel
theorem dX4_tableAt_23 : decode cX4_tableAt 23 = .ok (.iload_n 1, 1) := by decide +kernel
theorem dX4_tableAt_24 : decode cX4_tableAt 24 = .ok (.aload_n 2, 1) := by decide +kernel
theorem dX4_tableAt_25 : decode cX4_tableAt 25 = .ok (.aastore, 1) := by decide +kernel
theorem dX4_tableAt_26 : decode cX4_tableAt 26 = .ok (.aload_n 2, 1) := by decide +kernel
theorem dX4_tableAt_27 : decode cX4_tableAt 27 = .ok (.areturn, 1) := by decide +kernel
set_option maxRecDepth 20000 in
theorem ggX4_run_X4_tableAt : GoodIn wsX4_run wsX4_tableAt := goodIn_r _ [10, 11, 12, 13, 14, 15, 16, 17, 18, 19, 20, 21, 22, 23, 24, 25, 26, 27, 28, 29, 30, 31, 32, 234, 235, 236, 237, 238, 239, 240, 241, 242, 243, 244, 245, 246] (by decide +kernel) (by decide +kernel)
set_option maxRecDepth 20000 in
theorem gX4_run_X4_tableAt : GoodIn wsX4_run (wsV RX4 25 RX4 yX4_tableAt wsX4_tableAt) := goodIn_app (goodIn_of _ (by decide +kernel)) ggX4_run_X4_tableAt
set_option maxRecDepth 20000 in
theorem ggX4_run_X5_begin : GoodIn wsX4_run wsX5_begin := goodIn_r _ [36, 37, 29, 30, 31, 32, 38, 39, 40, 41, 14, 42, 21, 23, 43, 44, 45, 46, 47, 48, 49, 24, 25, 26, 28, 223, 224, 225, 226, 227, 228, 229, 230, 231, 232, 233, 237, 238, 239, 240, 241, 242, 243, 244, 245, 246] (by decide +kernel) (by decide +kernel)
set_option maxRecDepth 20000 in
theorem gX4_run_X5_begin : GoodIn wsX4_run (wsV RX4 35 RX5 yX5_begin wsX5_begin) := goodIn_app (goodIn_of _ (by decide +kernel)) ggX4_run_X5_begin
set_option maxRecDepth 20000 in
theorem ggX4_run_X2_divisorIn : GoodIn wsX4_run wsX2_divisorIn := goodIn_r _ [54, 55, 56, 57, 58, 53, 59, 60, 61, 62, 63, 64, 65, 66, 67, 68, 69, 70, 71, 72, 223, 224, 225, 226, 227, 228, 229, 230, 231, 232, 233] (by decide +kernel) (by decide +kernel)
set_option maxRecDepth 20000 in
theorem gX4_run_X2_divisorIn : GoodIn wsX4_run (wsV RX4 47 RX2 yX2_divisorIn wsX2_divisorIn) := goodIn_app (goodIn_of _ (by decide +kernel)) ggX4_run_X2_divisorIn
set_option maxRecDepth 20000 in
theorem ggX4_run_X4_isOutOfStep : GoodIn wsX4_run wsX4_isOutOfStep := goodIn_r _ [75] (by decide +kernel) (by decide +kernel)
set_option maxRecDepth 20000 in
theorem gX4_run_X4_isOutOfStep : GoodIn wsX4_run (va_wsS RX4 57 yX4_isOutOfStep wsX4_isOutOfStep) := goodIn_app (goodIn_of _ (by decide +kernel)) ggX4_run_X4_isOutOfStep
set_option maxRecDepth 20000 in
theorem ggX4_run_X4_inStep : GoodIn wsX4_run wsX4_inStep := goodIn_r _ [78, 79, 80, 81, 82] (by decide +kernel) (by decide +kernel)
set_option maxRecDepth 20000 in
theorem gX4_run_X4_inStep : GoodIn wsX4_run (va_wsS RX4 61 yX4_inStep wsX4_inStep) := goodIn_app (goodIn_of _ (by decide +kernel)) ggX4_run_X4_inStep
set_option maxRecDepth 20000 in
theorem ggX4_run_X5_addRow : GoodIn wsX4_run wsX5_addRow := goodIn_r _ [86, 87, 29, 21, 39, 40, 41, 14, 42, 30, 23, 88, 57, 58, 53, 59, 60, 89, 90, 91, 92, 24, 31, 223, 224, 225, 226, 227, 228, 229, 230, 231, 232, 233, 237, 238, 239, 240, 241, 242, 243, 244, 245, 246] (by decide +kernel) (by decide +kernel)
set_option maxRecDepth 20000 in
theorem gX4_run_X5_addRow : GoodIn wsX4_run (wsV RX4 65 RX5 yX5_addRow wsX5_addRow) := goodIn_app (goodIn_of _ (by decide +kernel)) ggX4_run_X5_addRow
set_option maxRecDepth 20000 in
theorem ggX4_run_X5_reachFar : GoodIn wsX4_run wsX5_reachFar := goodIn_r _ [96, 29, 21, 30, 32, 237, 238, 239, 240, 241, 242, 243, 244, 245, 246] (by decide +kernel) (by decide +kernel)
set_option maxRecDepth 20000 in
theorem gX4_run_X5_reachFar : GoodIn wsX4_run (wsV RX4 69 RX5 yX5_reachFar wsX5_reachFar) := goodIn_app (goodIn_of _ (by decide +kernel)) ggX4_run_X5_reachFar
set_option maxRecDepth 20000 in
theorem ggX4_run_X5_descend : GoodIn wsX4_run wsX5_descend := goodIn_r _ [100, 101, 102, 103, 104, 14, 105, 30, 23, 106, 107, 108, 109, 32, 21, 110, 111, 112, 113, 114, 115, 116, 117, 29, 28, 118, 119, 120, 121, 122, 70, 71, 72, 123, 124, 125, 126, 31, 237, 238, 239, 240, 241, 242, 243, 244, 245, 246] (by decide +kernel) (by decide +kernel)
set_option maxRecDepth 20000 in
theorem gX4_run_X5_descend : GoodIn wsX4_run (wsV RX4 72 RX5 yX5_descend wsX5_descend) := goodIn_app (goodIn_of _ (by decide +kernel)) ggX4_run_X5_descend
set_option maxRecDepth 20000 in
theorem ggX4_run_X4_branch : GoodIn wsX4_run wsX4_branch := goodIn_r _ [130, 131, 132, 133, 6, 7, 8, 9, 10, 11, 12, 13, 14, 15, 16, 17, 18, 19, 20, 21, 22, 23, 24, 25, 26, 27, 28, 29, 30, 31, 32, 134, 135, 136, 137, 138, 139, 140, 141, 142, 143, 144, 145, 146, 147, 148, 149, 150, 151, 152, 153, 111, 112, 113, 154, 90, 91, 92, 155, 156, 157, 158, 159, 160, 161, 62, 63, 53, 64, 65, 162, 163, 164, 165, 89, 166, 167, 168, 169, 170, 171, 81, 172, 173, 174, 175, 176, 177, 178, 179, 180, 55, 181, 182, 183, 184, 185, 186, 187, 188, 189, 190, 191, 192, 193, 194, 195, 196, 197, 198, 199, 200, 201, 202, 203, 204, 205, 206, 207, 208, 209, 210, 211, 212, 213, 214, 215, 216, 217, 218, 97, 98, 99, 100, 101, 102, 103, 104, 105, 106, 107, 108, 109, 110, 114, 115, 116, 117, 118, 119, 120, 121, 122, 70, 71, 72, 123, 124, 125, 126, 234, 235, 236, 237, 238, 239, 240, 241, 242, 243, 244, 245, 246, 219, 220, 221, 222, 223, 224, 225, 226, 227, 228, 229, 230, 231, 232, 233] (by decide +kernel) (by decide +kernel)
set_option maxRecDepth 20000 in
theorem gX4_run_X4_branch : GoodIn wsX4_run (wsV RX4 76 RX4 yX4_branch wsX4_branch) := goodIn_app (goodIn_of _ (by decide +kernel)) ggX4_run_X4_branch
set_option maxRecDepth 20000 in
theorem ggX4_run_X0_accept : GoodIn wsX4_run wsX0_accept := goodIn_r _ [188, 139, 142, 140, 141, 144, 143, 145, 146, 147, 14, 148, 32, 149, 150, 151, 152, 21, 154, 90, 91, 92, 24, 31, 219, 220, 221, 222, 237, 238, 239, 240, 241, 242, 243, 244, 245, 246] (by decide +kernel) (by decide +kernel)
set_option maxRecDepth 20000 in
theorem gX4_run_X0_accept : GoodIn wsX4_run (wsV RX4 80 RX0 yX0_accept wsX0_accept) := goodIn_app (goodIn_of _ (by decide +kernel)) ggX4_run_X0_accept
theorem dX4_run_0 : decode cX4_run 0 = .ok (.aload_n 0, 1) := by decide +kernel
theorem dX4_run_1 : decode cX4_run 1 = .ok (.iconst 0, 1) := by decide +kernel
theorem dX4_run_2 : decode cX4_run 2 = .ok (.invokevirtual 25, 3) := by decide +kernel
theorem dX4_run_5 : decode cX4_run 5 = .ok (.astore 6, 2) := by decide +kernel
theorem dX4_run_7 : decode cX4_run 7 = .ok (.aload_n 2, 1) := by decide +kernel
theorem dX4_run_8 : decode cX4_run 8 = .ok (.iconst 1, 1) := by decide +kernel
theorem dX4_run_9 : decode cX4_run 9 = .ok (.putfield 29, 3) := by decide +kernel
theorem dX4_run_12 : decode cX4_run 12 = .ok (.aload 6, 2) := by decide +kernel
theorem dX4_run_14 : decode cX4_run 14 = .ok (.aload_n 1, 1) := by decide +kernel
theorem dX4_run_15 : decode cX4_run 15 = .ok (.iconst 1, 1) := by decide +kernel
theorem dX4_run_16 : decode cX4_run 16 = .ok (.invokevirtual 35, 3) := by decide +kernel
theorem dX4_run_19 : decode cX4_run 19 = .ok (.iconst 0, 1) := by decide +kernel
theorem dX4_run_20 : decode cX4_run 20 = .ok (.istore 7, 2) := by decide +kernel
theorem dX4_run_22 : decode cX4_run 22 = .ok (.iload 7, 2) := by decide +kernel
theorem dX4_run_24 : decode cX4_run 24 = .ok (.aload_n 1, 1) := by decide +kernel
theorem dX4_run_25 : decode cX4_run 25 = .ok (.getfield 39, 3) := by decide +kernel
theorem dX4_run_28 : decode cX4_run 28 = .ok (.if_icmp .ge 99, 3) := by decide +kernel
theorem dX4_run_31 : decode cX4_run 31 = .ok (.aload_n 1, 1) := by decide +kernel
theorem dX4_run_32 : decode cX4_run 32 = .ok (.getfield 44, 3) := by decide +kernel
theorem dX4_run_35 : decode cX4_run 35 = .ok (.iload 7, 2) := by decide +kernel
theorem dX4_run_37 : decode cX4_run 37 = .ok (.iaload, 1) := by decide +kernel
theorem dX4_run_38 : decode cX4_run 38 = .ok (.iload 7, 2) := by decide +kernel
theorem dX4_run_40 : decode cX4_run 40 = .ok (.iload_n 3, 1) := by decide +kernel
theorem dX4_run_41 : decode cX4_run 41 = .ok (.if_icmp .ne 8, 3) := by decide +kernel
theorem dX4_run_44 : decode cX4_run 44 = .ok (.iload 4, 2) := by decide +kernel
theorem dX4_run_46 : decode cX4_run 46 = .ok (.goto 4, 3) := by decide +kernel
theorem dX4_run_49 : decode cX4_run 49 = .ok (.iconst 0, 1) := by decide +kernel
theorem dX4_run_50 : decode cX4_run 50 = .ok (.iadd, 1) := by decide +kernel
theorem dX4_run_51 : decode cX4_run 51 = .ok (.istore 8, 2) := by decide +kernel
theorem dX4_run_53 : decode cX4_run 53 = .ok (.iload 5, 2) := by decide +kernel
theorem dX4_run_55 : decode cX4_run 55 = .ok (.ifCond .eq 12, 3) := by decide +kernel
theorem dX4_run_58 : decode cX4_run 58 = .ok (.aload_n 1, 1) := by decide +kernel
theorem dX4_run_59 : decode cX4_run 59 = .ok (.iload 7, 2) := by decide +kernel
theorem dX4_run_61 : decode cX4_run 61 = .ok (.invokevirtual 47, 3) := by decide +kernel
theorem dX4_run_64 : decode cX4_run 64 = .ok (.goto 4, 3) := by decide +kernel
theorem dX4_run_67 : decode cX4_run 67 = .ok (.iconst 0, 1) := by decide +kernel
theorem dX4_run_68 : decode cX4_run 68 = .ok (.istore 9, 2) := by decide +kernel
theorem dX4_run_70 : decode cX4_run 70 = .ok (.aload_n 1, 1) := by decide +kernel
theorem dX4_run_71 : decode cX4_run 71 = .ok (.getfield 51, 3) := by decide +kernel
theorem dX4_run_74 : decode cX4_run 74 = .ok (.iload 7, 2) := by decide +kernel
theorem dX4_run_76 : decode cX4_run 76 = .ok (.iaload, 1) := by decide +kernel
theorem dX4_run_77 : decode cX4_run 77 = .ok (.iconst 1, 1) := by decide +kernel
theorem dX4_run_78 : decode cX4_run 78 = .ok (.if_icmp .ne 43, 3) := by decide +kernel
theorem dX4_run_81 : decode cX4_run 81 = .ok (.aload_n 1, 1) := by decide +kernel
theorem dX4_run_82 : decode cX4_run 82 = .ok (.getfield 54, 3) := by decide +kernel
theorem dX4_run_85 : decode cX4_run 85 = .ok (.iload 7, 2) := by decide +kernel
theorem dX4_run_87 : decode cX4_run 87 = .ok (.iaload, 1) := by decide +kernel
theorem dX4_run_88 : decode cX4_run 88 = .ok (.iload 8, 2) := by decide +kernel
theorem dX4_run_90 : decode cX4_run 90 = .ok (.iload 9, 2) := by decide +kernel
theorem dX4_run_92 : decode cX4_run 92 = .ok (.invokestatic 57, 3) := by decide +kernel
theorem dX4_run_95 : decode cX4_run 95 = .ok (.ifCond .eq 4, 3) := by decide +kernel
theorem dX4_run_98 : decode cX4_run 98 = .ok (.return_, 1) := by decide +kernel
theorem dX4_run_99 : decode cX4_run 99 = .ok (.aload 6, 2) := by decide +kernel
theorem dX4_run_101 : decode cX4_run 101 = .ok (.aload_n 1, 1) := by decide +kernel
theorem dX4_run_102 : decode cX4_run 102 = .ok (.iload 7, 2) := by decide +kernel
theorem dX4_run_104 : decode cX4_run 104 = .ok (.aload_n 1, 1) := by decide +kernel
theorem dX4_run_105 : decode cX4_run 105 = .ok (.getfield 54, 3) := by decide +kernel
theorem dX4_run_108 : decode cX4_run 108 = .ok (.iload 7, 2) := by decide +kernel
theorem dX4_run_110 : decode cX4_run 110 = .ok (.iaload, 1) := by decide +kernel
theorem dX4_run_111 : decode cX4_run 111 = .ok (.iload 8, 2) := by decide +kernel
theorem dX4_run_113 : decode cX4_run 113 = .ok (.iload 9, 2) := by decide +kernel
theorem dX4_run_115 : decode cX4_run 115 = .ok (.invokestatic 61, 3) := by decide +kernel
theorem dX4_run_118 : decode cX4_run 118 = .ok (.invokevirtual 65, 3) := by decide +kernel
theorem dX4_run_121 : decode cX4_run 121 = .ok (.iinc 7 1, 3) := by decide +kernel
theorem dX4_run_124 : decode cX4_run 124 = .ok (.goto (-102), 3) := by decide +kernel
theorem dX4_run_127 : decode cX4_run 127 = .ok (.aload 6, 2) := by decide +kernel
theorem dX4_run_129 : decode cX4_run 129 = .ok (.invokevirtual 69, 3) := by decide +kernel
theorem dX4_run_132 : decode cX4_run 132 = .ok (.aload 6, 2) := by decide +kernel
theorem dX4_run_134 : decode cX4_run 134 = .ok (.invokevirtual 72, 3) := by decide +kernel
theorem dX4_run_137 : decode cX4_run 137 = .ok (.ifCond .ne 4, 3) := by decide +kernel
theorem dX4_run_140 : decode cX4_run 140 = .ok (.return_, 1) := by decide +kernel
theorem dX4_run_141 : decode cX4_run 141 = .ok (.iload 5, 2) := by decide +kernel
theorem dX4_run_143 : decode cX4_run 143 = .ok (.ifCond .eq 12, 3) := by decide +kernel
theorem dX4_run_146 : decode cX4_run 146 = .ok (.aload_n 0, 1) := by decide +kernel
theorem dX4_run_147 : decode cX4_run 147 = .ok (.aload_n 1, 1) := by decide +kernel
theorem dX4_run_148 : decode cX4_run 148 = .ok (.aload_n 2, 1) := by decide +kernel
theorem dX4_run_149 : decode cX4_run 149 = .ok (.invokevirtual 76, 3) := by decide +kernel
theorem dX4_run_152 : decode cX4_run 152 = .ok (.goto 9, 3) := by decide +kernel
theorem dX4_run_155 : decode cX4_run 155 = .ok (.aload_n 2, 1) := by decide +kernel
theorem dX4_run_156 : decode cX4_run 156 = .ok (.aload 6, 2) := by decide +kernel
theorem dX4_run_158 : decode cX4_run 158 = .ok (.invokevirtual 80, 3) := by decide +kernel
theorem dX4_run_161 : decode cX4_run 161 = .ok (.return_, 1) := by decide +kernel
theorem dX4_isOutOfStep_0 : decode cX4_isOutOfStep 0 = .ok (.iload_n 0, 1) := by decide +kernel
theorem dX4_isOutOfStep_1 : decode cX4_isOutOfStep 1 = .ok (.iconst 2, 1) := by decide +kernel
theorem dX4_isOutOfStep_2 : decode cX4_isOutOfStep 2 = .ok (.if_icmp .ne 17, 3) := by decide +kernel
theorem dX4_isOutOfStep_5 : decode cX4_isOutOfStep 5 = .ok (.iload_n 2, 1) := by decide +kernel
theorem dX4_isOutOfStep_6 : decode cX4_isOutOfStep 6 = .ok (.ifCond .le 13, 3) := by decide +kernel
theorem dX4_isOutOfStep_9 : decode cX4_isOutOfStep 9 = .ok (.iload_n 1, 1) := by decide +kernel
theorem dX4_isOutOfStep_10 : decode cX4_isOutOfStep 10 = .ok (.iload_n 2, 1) := by decide +kernel
theorem dX4_isOutOfStep_11 : decode cX4_isOutOfStep 11 = .ok (.irem, 1) := by decide +kernel
theorem dX4_isOutOfStep_12 : decode cX4_isOutOfStep 12 = .ok (.ifCond .eq 7, 3) := by decide +kernel
theorem dX4_isOutOfStep_15 : decode cX4_isOutOfStep 15 = .ok (.iconst 1, 1) := by decide +kernel
theorem dX4_isOutOfStep_16 : decode cX4_isOutOfStep 16 = .ok (.goto 4, 3) := by decide +kernel
theorem dX4_isOutOfStep_19 : decode cX4_isOutOfStep 19 = .ok (.iconst 0, 1) := by decide +kernel
theorem dX4_isOutOfStep_20 : decode cX4_isOutOfStep 20 = .ok (.ireturn, 1) := by decide +kernel
set_option maxRecDepth 20000 in
theorem ggX4_inStep_J9_floorDiv_7cf53 : GoodIn wsX4_inStep wsJ9_floorDiv_7cf53 := goodIn_r _ [4] (by decide +kernel) (by decide +kernel)
set_option maxRecDepth 20000 in
theorem gX4_inStep_J9_floorDiv_7cf53 : GoodIn wsX4_inStep (va_wsS RX4 84 yJ9_floorDiv_7cf53 wsJ9_floorDiv_7cf53) := goodIn_app (goodIn_of _ (by decide +kernel)) ggX4_inStep_J9_floorDiv_7cf53
theorem dX4_inStep_0 : decode cX4_inStep 0 = .ok (.iload_n 2, 1) := by decide +kernel
theorem dX4_inStep_1 : decode cX4_inStep 1 = .ok (.ifCond .le 8, 3) := by decide +kernel
theorem dX4_inStep_4 : decode cX4_inStep 4 = .ok (.iload_n 0, 1) := by decide +kernel
theorem dX4_inStep_5 : decode cX4_inStep 5 = .ok (.iconst 2, 1) := by decide +kernel
theorem dX4_inStep_6 : decode cX4_inStep 6 = .ok (.if_icmp .ne 5, 3) := by decide +kernel
theorem dX4_inStep_9 : decode cX4_inStep 9 = .ok (.iload_n 1, 1) := by decide +kernel
theorem dX4_inStep_10 : decode cX4_inStep 10 = .ok (.ireturn, 1) := by decide +kernel
theorem dX4_inStep_11 : decode cX4_inStep 11 = .ok (.iload_n 1, 1) := by decide +kernel
theorem dX4_inStep_12 : decode cX4_inStep 12 = .ok (.iload_n 2, 1) := by decide +kernel
theorem dX4_inStep_13 : decode cX4_inStep 13 = .ok (.invokestatic 84, 3) := by decide +kernel
theorem dX4_inStep_16 : decode cX4_inStep 16 = .ok (.iload_n 2, 1) := by decide +kernel
theorem dX4_inStep_17 : decode cX4_inStep 17 = .ok (.imul, 1) := by decide +kernel
theorem dX4_inStep_18 : decode cX4_inStep 18 = .ok (.istore_n 3, 1) := by decide +kernel
theorem dX4_inStep_19 : decode cX4_inStep 19 = .ok (.iload_n 0, 1) := by decide +kernel
theorem dX4_inStep_20 : decode cX4_inStep 20 = .ok (.ifCond .eq 8, 3) := by decide +kernel
theorem dX4_inStep_23 : decode cX4_inStep 23 = .ok (.iload_n 3, 1) := by decide +kernel
theorem dX4_inStep_24 : decode cX4_inStep 24 = .ok (.iload_n 1, 1) := by decide +kernel
theorem dX4_inStep_25 : decode cX4_inStep 25 = .ok (.if_icmp .ne 7, 3) := by decide +kernel
theorem dX4_inStep_28 : decode cX4_inStep 28 = .ok (.iload_n 3, 1) := by decide +kernel
theorem dX4_inStep_29 : decode cX4_inStep 29 = .ok (.goto 6, 3) := by decide +kernel
theorem dX4_inStep_32 : decode cX4_inStep 32 = .ok (.iload_n 3, 1) := by decide +kernel
theorem dX4_inStep_33 : decode cX4_inStep 33 = .ok (.iload_n 2, 1) := by decide +kernel
theorem dX4_inStep_34 : decode cX4_inStep 34 = .ok (.iadd, 1) := by decide +kernel
theorem dX4_inStep_35 : decode cX4_inStep 35 = .ok (.ireturn, 1) := by decide +kernel
set_option maxRecDepth 20000 in
theorem ggX4_branch_X4_tableAt : GoodIn wsX4_branch wsX4_tableAt := goodIn_r _ [8, 9, 10, 11, 12, 13, 14, 15, 16, 17, 18, 19, 20, 21, 22, 23, 24, 25, 26, 27, 28, 29, 30, 160, 161, 162, 163, 164, 165, 166, 167, 168, 169, 170, 171, 172] (by decide +kernel) (by decide +kernel)
set_option maxRecDepth 20000 in
theorem gX4_branch_X4_tableAt : GoodIn wsX4_branch (wsV RX4 25 RX4 yX4_tableAt wsX4_tableAt) := goodIn_app (goodIn_of _ (by decide +kernel)) ggX4_branch_X4_tableAt
set_option maxRecDepth 20000 in
theorem ggX4_branch_X0_mayYieldTo : GoodIn wsX4_branch wsX0_mayYieldTo := goodIn_r _ [35, 36, 37, 38, 39, 40, 41, 42, 43, 44, 12, 45, 30, 46, 47, 48, 49, 19, 50, 51, 52, 53, 54, 55, 56, 57, 22, 29, 173, 174, 175, 176, 163, 164, 165, 166, 167, 168, 169, 170, 171, 172] (by decide +kernel) (by decide +kernel)
set_option maxRecDepth 20000 in
theorem gX4_branch_X0_mayYieldTo : GoodIn wsX4_branch (wsV RX4 91 RX0 yX0_mayYieldTo wsX0_mayYieldTo) := goodIn_app (goodIn_of _ (by decide +kernel)) ggX4_branch_X0_mayYieldTo
set_option maxRecDepth 20000 in
theorem ggX4_branch_X4_columnToSplit : GoodIn wsX4_branch wsX4_columnToSplit := goodIn_r _ [61, 62, 63, 64, 65, 66, 67, 68, 69, 70, 71, 72, 12, 73, 29, 74, 55, 56, 57, 22, 19, 75, 76, 77, 78, 79, 80, 81, 82, 83, 84, 85, 86, 87, 88, 89, 90, 91, 92, 93, 94, 95, 30, 177, 178, 179, 180, 181, 182, 183, 184, 185, 186, 187, 163, 164, 165, 166, 167, 168, 169, 170, 171, 172] (by decide +kernel) (by decide +kernel)
set_option maxRecDepth 20000 in
theorem gX4_branch_X4_columnToSplit : GoodIn wsX4_branch (wsV RX4 95 RX4 yX4_columnToSplit wsX4_columnToSplit) := goodIn_app (goodIn_of _ (by decide +kernel)) ggX4_branch_X4_columnToSplit
set_option maxRecDepth 20000 in
theorem ggX4_branch_X0_accept : GoodIn wsX4_branch wsX0_accept := goodIn_r _ [99, 36, 39, 37, 38, 41, 40, 42, 43, 44, 12, 45, 30, 46, 47, 48, 49, 19, 54, 55, 56, 57, 22, 29, 173, 174, 175, 176, 163, 164, 165, 166, 167, 168, 169, 170, 171, 172] (by decide +kernel) (by decide +kernel)
set_option maxRecDepth 20000 in
theorem gX4_branch_X0_accept : GoodIn wsX4_branch (wsV RX4 80 RX0 yX0_accept wsX0_accept) := goodIn_app (goodIn_of _ (by decide +kernel)) ggX4_branch_X0_accept
set_option maxRecDepth 20000 in
theorem ggX4_branch_X4_enter : GoodIn wsX4_branch wsX4_enter := goodIn_r _ [103, 1, 3, 4, 5, 6, 7, 8, 9, 10, 11, 12, 13, 14, 15, 16, 17, 18, 19, 20, 21, 22, 23, 24, 25, 26, 27, 28, 29, 30, 104, 105, 106, 107, 108, 109, 110, 111, 112, 113, 114, 115, 63, 116, 76, 77, 78, 74, 55, 56, 57, 79, 80, 81, 82, 117, 118, 119, 120, 121, 122, 123, 124, 83, 84, 85, 67, 86, 69, 87, 88, 89, 90, 91, 125, 126, 127, 128, 129, 130, 131, 132, 133, 134, 135, 136, 137, 138, 139, 140, 141, 142, 143, 51, 52, 53, 144, 145, 146, 147, 148, 149, 150, 151, 152, 153, 154, 155, 156, 157, 158, 159, 160, 161, 162, 163, 164, 165, 166, 167, 168, 169, 170, 171, 172, 177, 178, 179, 180, 181, 182, 183, 184, 185, 186, 187] (by decide +kernel) (by decide +kernel)
set_option maxRecDepth 20000 in
theorem gX4_branch_X4_enter : GoodIn wsX4_branch (wsV RX4 99 RX4 yX4_enter wsX4_enter) := goodIn_app (goodIn_of _ (by decide +kernel)) ggX4_branch_X4_enter
theorem dX4_branch_0 : decode cX4_branch 0 = .ok (.iconst 0, 1) := by decide +kernel
theorem dX4_branch_1 : decode cX4_branch 1 = .ok (.istore_n 3, 1) := by decide +kernel
theorem dX4_branch_2 : decode cX4_branch 2 = .ok (.aload_n 0, 1) := by decide +kernel
theorem dX4_branch_3 : decode cX4_branch 3 = .ok (.getfield 21, 3) := by decide +kernel
theorem dX4_branch_6 : decode cX4_branch 6 = .ok (.iconst 0, 1) := by decide +kernel
theorem dX4_branch_7 : decode cX4_branch 7 = .ok (.iconst 0, 1) := by decide +kernel
theorem dX4_branch_8 : decode cX4_branch 8 = .ok (.iastore, 1) := by decide +kernel
theorem dX4_branch_9 : decode cX4_branch 9 = .ok (.iconst 0, 1) := by decide +kernel
theorem dX4_branch_10 : decode cX4_branch 10 = .ok (.istore 4, 2) := by decide +kernel
theorem dX4_branch_12 : decode cX4_branch 12 = .ok (.iload 4, 2) := by decide +kernel
theorem dX4_branch_14 : decode cX4_branch 14 = .ok (.ldc 90, 2) := by decide +kernel
theorem dX4_branch_16 : decode cX4_branch 16 = .ok (.if_icmp .ge 95, 3) := by decide +kernel
theorem dX4_branch_19 : decode cX4_branch 19 = .ok (.iload_n 3, 1) := by decide +kernel
theorem dX4_branch_20 : decode cX4_branch 20 = .ok (.ifCond .lt 91, 3) := by decide +kernel
theorem dX4_branch_23 : decode cX4_branch 23 = .ok (.aload_n 0, 1) := by decide +kernel
theorem dX4_branch_24 : decode cX4_branch 24 = .ok (.iload_n 3, 1) := by decide +kernel
theorem dX4_branch_25 : decode cX4_branch 25 = .ok (.invokevirtual 25, 3) := by decide +kernel
theorem dX4_branch_28 : decode cX4_branch 28 = .ok (.astore 5, 2) := by decide +kernel
theorem dX4_branch_30 : decode cX4_branch 30 = .ok (.aload_n 0, 1) := by decide +kernel
theorem dX4_branch_31 : decode cX4_branch 31 = .ok (.getfield 21, 3) := by decide +kernel
theorem dX4_branch_34 : decode cX4_branch 34 = .ok (.iload_n 3, 1) := by decide +kernel
theorem dX4_branch_35 : decode cX4_branch 35 = .ok (.iaload, 1) := by decide +kernel
theorem dX4_branch_36 : decode cX4_branch 36 = .ok (.iconst 2, 1) := by decide +kernel
theorem dX4_branch_37 : decode cX4_branch 37 = .ok (.if_icmp .eq 12, 3) := by decide +kernel
theorem dX4_branch_40 : decode cX4_branch 40 = .ok (.aload_n 2, 1) := by decide +kernel
theorem dX4_branch_41 : decode cX4_branch 41 = .ok (.aload 5, 2) := by decide +kernel
theorem dX4_branch_43 : decode cX4_branch 43 = .ok (.invokevirtual 91, 3) := by decide +kernel
theorem dX4_branch_46 : decode cX4_branch 46 = .ok (.ifCond .ne 9, 3) := by decide +kernel
theorem dX4_branch_49 : decode cX4_branch 49 = .ok (.iinc 3 (-1), 3) := by decide +kernel
theorem dX4_branch_52 : decode cX4_branch 52 = .ok (.goto 53, 3) := by decide +kernel
theorem dX4_branch_55 : decode cX4_branch 55 = .ok (.aload_n 0, 1) := by decide +kernel
theorem dX4_branch_56 : decode cX4_branch 56 = .ok (.getfield 21, 3) := by decide +kernel
theorem dX4_branch_59 : decode cX4_branch 59 = .ok (.iload_n 3, 1) := by decide +kernel
theorem dX4_branch_60 : decode cX4_branch 60 = .ok (.iaload, 1) := by decide +kernel
theorem dX4_branch_61 : decode cX4_branch 61 = .ok (.ifCond .ne 16, 3) := by decide +kernel
theorem dX4_branch_64 : decode cX4_branch 64 = .ok (.aload_n 0, 1) := by decide +kernel
theorem dX4_branch_65 : decode cX4_branch 65 = .ok (.getfield 17, 3) := by decide +kernel
theorem dX4_branch_68 : decode cX4_branch 68 = .ok (.iload_n 3, 1) := by decide +kernel
theorem dX4_branch_69 : decode cX4_branch 69 = .ok (.aload_n 0, 1) := by decide +kernel
theorem dX4_branch_70 : decode cX4_branch 70 = .ok (.aload_n 1, 1) := by decide +kernel
theorem dX4_branch_71 : decode cX4_branch 71 = .ok (.aload 5, 2) := by decide +kernel
theorem dX4_branch_73 : decode cX4_branch 73 = .ok (.invokevirtual 95, 3) := by decide +kernel
theorem dX4_branch_76 : decode cX4_branch 76 = .ok (.iastore, 1) := by decide +kernel
theorem dX4_branch_77 : decode cX4_branch 77 = .ok (.aload_n 0, 1) := by decide +kernel
theorem dX4_branch_78 : decode cX4_branch 78 = .ok (.getfield 17, 3) := by decide +kernel
theorem dX4_branch_81 : decode cX4_branch 81 = .ok (.iload_n 3, 1) := by decide +kernel
theorem dX4_branch_82 : decode cX4_branch 82 = .ok (.iaload, 1) := by decide +kernel
theorem dX4_branch_83 : decode cX4_branch 83 = .ok (.ifCond .ge 15, 3) := by decide +kernel
theorem dX4_branch_86 : decode cX4_branch 86 = .ok (.aload_n 2, 1) := by decide +kernel
theorem dX4_branch_87 : decode cX4_branch 87 = .ok (.aload 5, 2) := by decide +kernel
theorem dX4_branch_89 : decode cX4_branch 89 = .ok (.invokevirtual 80, 3) := by decide +kernel
theorem dX4_branch_92 : decode cX4_branch 92 = .ok (.iinc 3 (-1), 3) := by decide +kernel
theorem dX4_branch_95 : decode cX4_branch 95 = .ok (.goto 10, 3) := by decide +kernel
theorem dX4_branch_98 : decode cX4_branch 98 = .ok (.aload_n 0, 1) := by decide +kernel
theorem dX4_branch_99 : decode cX4_branch 99 = .ok (.aload_n 1, 1) := by decide +kernel
theorem dX4_branch_100 : decode cX4_branch 100 = .ok (.iload_n 3, 1) := by decide +kernel
theorem dX4_branch_101 : decode cX4_branch 101 = .ok (.invokevirtual 99, 3) := by decide +kernel
theorem dX4_branch_104 : decode cX4_branch 104 = .ok (.istore_n 3, 1) := by decide +kernel
theorem dX4_branch_105 : decode cX4_branch 105 = .ok (.iinc 4 1, 3) := by decide +kernel
theorem dX4_branch_108 : decode cX4_branch 108 = .ok (.goto (-96), 3) := by decide +kernel
theorem dX4_branch_111 : decode cX4_branch 111 = .ok (.return_, 1) := by decide +kernel
set_option maxRecDepth 20000 in
theorem ggX4_columnToSplit_X2_isWhole : GoodIn wsX4_columnToSplit wsX2_isWhole := goodIn_r _ [7, 8, 43, 44, 45, 46, 47, 48, 49, 50, 51, 52, 53] (by decide +kernel) (by decide +kernel)
set_option maxRecDepth 20000 in
theorem gX4_columnToSplit_X2_isWhole : GoodIn wsX4_columnToSplit (wsV RX4 106 RX2 yX2_isWhole wsX2_isWhole) := goodIn_app (goodIn_of _ (by decide +kernel)) ggX4_columnToSplit_X2_isWhole
set_option maxRecDepth 20000 in
theorem ggX4_columnToSplit_X5_isBroken : GoodIn wsX4_columnToSplit wsX5_isBroken := goodIn_r _ [13, 14, 15, 16, 17, 12, 18, 19, 20, 21, 22, 23, 24, 25, 26, 27, 28, 54, 55, 56, 57, 58, 59, 60, 61, 62, 63] (by decide +kernel) (by decide +kernel)
set_option maxRecDepth 20000 in
theorem gX4_columnToSplit_X5_isBroken : GoodIn wsX4_columnToSplit (wsV RX4 110 RX5 yX5_isBroken wsX5_isBroken) := goodIn_app (goodIn_of _ (by decide +kernel)) ggX4_columnToSplit_X5_isBroken
set_option maxRecDepth 20000 in
theorem ggX4_columnToSplit_X2_isSwitch : GoodIn wsX4_columnToSplit wsX2_isSwitch := goodIn_r _ [32, 8, 43, 44, 45, 46, 47, 48, 49, 50, 51, 52, 53] (by decide +kernel) (by decide +kernel)
set_option maxRecDepth 20000 in
theorem gX4_columnToSplit_X2_isSwitch : GoodIn wsX4_columnToSplit (wsV RX4 116 RX2 yX2_isSwitch wsX2_isSwitch) := goodIn_app (goodIn_of _ (by decide +kernel)) ggX4_columnToSplit_X2_isSwitch
set_option maxRecDepth 20000 in
theorem ggX4_columnToSplit_X2_hasColumn : GoodIn wsX4_columnToSplit wsX2_hasColumn := goodIn_r _ [36, 37, 43, 44, 45, 46, 47, 48, 49, 50, 51, 52, 53] (by decide +kernel) (by decide +kernel)
set_option maxRecDepth 20000 in
theorem gX4_columnToSplit_X2_hasColumn : GoodIn wsX4_columnToSplit (wsV RX4 119 RX2 yX2_hasColumn wsX2_hasColumn) := goodIn_app (goodIn_of _ (by decide +kernel)) ggX4_columnToSplit_X2_hasColumn
set_option maxRecDepth 20000 in
theorem ggX4_columnToSplit_X5_isNothing : GoodIn wsX4_columnToSplit wsX5_isNothing := goodIn_r _ [41, 42, 20, 15, 16, 17, 12, 18, 19, 14, 54, 55, 56, 57, 58, 59, 60, 61, 62, 63] (by decide +kernel) (by decide +kernel)
set_option maxRecDepth 20000 in
theorem gX4_columnToSplit_X5_isNothing : GoodIn wsX4_columnToSplit (wsV RX4 122 RX5 yX5_isNothing wsX5_isNothing) := goodIn_app (goodIn_of _ (by decide +kernel)) ggX4_columnToSplit_X5_isNothing
theorem dX4_columnToSplit_0 : decode cX4_columnToSplit 0 = .ok (.iconst 0, 1) := by decide +kernel
theorem dX4_columnToSplit_1 : decode cX4_columnToSplit 1 = .ok (.istore_n 3, 1) := by decide +kernel
theorem dX4_columnToSplit_2 : decode cX4_columnToSplit 2 = .ok (.iload_n 3, 1) := by decide +kernel
theorem dX4_columnToSplit_3 : decode cX4_columnToSplit 3 = .ok (.aload_n 1, 1) := by decide +kernel
theorem dX4_columnToSplit_4 : decode cX4_columnToSplit 4 = .ok (.getfield 103, 3) := by decide +kernel
theorem dX4_columnToSplit_7 : decode cX4_columnToSplit 7 = .ok (.if_icmp .ge 27, 3) := by decide +kernel
theorem dX4_columnToSplit_10 : decode cX4_columnToSplit 10 = .ok (.aload_n 1, 1) := by decide +kernel
theorem dX4_columnToSplit_11 : decode cX4_columnToSplit 11 = .ok (.iload_n 3, 1) := by decide +kernel
theorem dX4_columnToSplit_12 : decode cX4_columnToSplit 12 = .ok (.invokevirtual 106, 3) := by decide +kernel
theorem dX4_columnToSplit_15 : decode cX4_columnToSplit 15 = .ok (.ifCond .eq 13, 3) := by decide +kernel
theorem dX4_columnToSplit_18 : decode cX4_columnToSplit 18 = .ok (.aload_n 2, 1) := by decide +kernel
theorem dX4_columnToSplit_19 : decode cX4_columnToSplit 19 = .ok (.iload_n 3, 1) := by decide +kernel
theorem dX4_columnToSplit_20 : decode cX4_columnToSplit 20 = .ok (.invokevirtual 110, 3) := by decide +kernel
theorem dX4_columnToSplit_23 : decode cX4_columnToSplit 23 = .ok (.ifCond .eq 5, 3) := by decide +kernel
theorem dX4_columnToSplit_26 : decode cX4_columnToSplit 26 = .ok (.iload_n 3, 1) := by decide +kernel
theorem dX4_columnToSplit_27 : decode cX4_columnToSplit 27 = .ok (.ireturn, 1) := by decide +kernel
theorem dX4_columnToSplit_28 : decode cX4_columnToSplit 28 = .ok (.iinc 3 1, 3) := by decide +kernel
theorem dX4_columnToSplit_31 : decode cX4_columnToSplit 31 = .ok (.goto (-29), 3) := by decide +kernel
theorem dX4_columnToSplit_34 : decode cX4_columnToSplit 34 = .ok (.iconst 0, 1) := by decide +kernel
theorem dX4_columnToSplit_35 : decode cX4_columnToSplit 35 = .ok (.istore_n 3, 1) := by decide +kernel
theorem dX4_columnToSplit_36 : decode cX4_columnToSplit 36 = .ok (.iload_n 3, 1) := by decide +kernel
theorem dX4_columnToSplit_37 : decode cX4_columnToSplit 37 = .ok (.aload_n 1, 1) := by decide +kernel
theorem dX4_columnToSplit_38 : decode cX4_columnToSplit 38 = .ok (.getfield 103, 3) := by decide +kernel
theorem dX4_columnToSplit_41 : decode cX4_columnToSplit 41 = .ok (.if_icmp .ge 53, 3) := by decide +kernel
theorem dX4_columnToSplit_44 : decode cX4_columnToSplit 44 = .ok (.aload_n 1, 1) := by decide +kernel
theorem dX4_columnToSplit_45 : decode cX4_columnToSplit 45 = .ok (.getfield 113, 3) := by decide +kernel
theorem dX4_columnToSplit_48 : decode cX4_columnToSplit 48 = .ok (.iload_n 3, 1) := by decide +kernel
theorem dX4_columnToSplit_49 : decode cX4_columnToSplit 49 = .ok (.iaload, 1) := by decide +kernel
theorem dX4_columnToSplit_50 : decode cX4_columnToSplit 50 = .ok (.istore 4, 2) := by decide +kernel
theorem dX4_columnToSplit_52 : decode cX4_columnToSplit 52 = .ok (.aload_n 1, 1) := by decide +kernel
theorem dX4_columnToSplit_53 : decode cX4_columnToSplit 53 = .ok (.iload_n 3, 1) := by decide +kernel
theorem dX4_columnToSplit_54 : decode cX4_columnToSplit 54 = .ok (.invokevirtual 116, 3) := by decide +kernel
theorem dX4_columnToSplit_57 : decode cX4_columnToSplit 57 = .ok (.ifCond .eq 31, 3) := by decide +kernel
theorem dX4_columnToSplit_60 : decode cX4_columnToSplit 60 = .ok (.aload_n 1, 1) := by decide +kernel
theorem dX4_columnToSplit_61 : decode cX4_columnToSplit 61 = .ok (.iload 4, 2) := by decide +kernel
theorem dX4_columnToSplit_63 : decode cX4_columnToSplit 63 = .ok (.invokevirtual 119, 3) := by decide +kernel
theorem dX4_columnToSplit_66 : decode cX4_columnToSplit 66 = .ok (.ifCond .eq 22, 3) := by decide +kernel
theorem dX4_columnToSplit_69 : decode cX4_columnToSplit 69 = .ok (.aload_n 2, 1) := by decide +kernel
theorem dX4_columnToSplit_70 : decode cX4_columnToSplit 70 = .ok (.iload_n 3, 1) := by decide +kernel
theorem dX4_columnToSplit_71 : decode cX4_columnToSplit 71 = .ok (.invokevirtual 122, 3) := by decide +kernel
theorem dX4_columnToSplit_74 : decode cX4_columnToSplit 74 = .ok (.ifCond .eq 14, 3) := by decide +kernel
theorem dX4_columnToSplit_77 : decode cX4_columnToSplit 77 = .ok (.aload_n 2, 1) := by decide +kernel
theorem dX4_columnToSplit_78 : decode cX4_columnToSplit 78 = .ok (.iload 4, 2) := by decide +kernel
theorem dX4_columnToSplit_80 : decode cX4_columnToSplit 80 = .ok (.invokevirtual 122, 3) := by decide +kernel
theorem dX4_columnToSplit_83 : decode cX4_columnToSplit 83 = .ok (.ifCond .ne 5, 3) := by decide +kernel
theorem dX4_columnToSplit_86 : decode cX4_columnToSplit 86 = .ok (.iload_n 3, 1) := by decide +kernel
theorem dX4_columnToSplit_87 : decode cX4_columnToSplit 87 = .ok (.ireturn, 1) := by decide +kernel
theorem dX4_columnToSplit_88 : decode cX4_columnToSplit 88 = .ok (.iinc 3 1, 3) := by decide +kernel
theorem dX4_columnToSplit_91 : decode cX4_columnToSplit 91 = .ok (.goto (-55), 3) := by decide +kernel
theorem dX4_columnToSplit_94 : decode cX4_columnToSplit 94 = .ok (.iconst (-1), 1) := by decide +kernel
theorem dX4_columnToSplit_95 : decode cX4_columnToSplit 95 = .ok (.ireturn, 1) := by decide +kernel
set_option maxRecDepth 20000 in
theorem ggX4_enter_X4_tableAt : GoodIn wsX4_enter wsX4_tableAt := goodIn_r _ [7, 8, 9, 10, 11, 12, 13, 14, 15, 16, 17, 18, 19, 20, 21, 22, 23, 24, 25, 26, 27, 28, 29, 112, 113, 114, 115, 116, 117, 118, 119, 120, 121, 122, 123, 124] (by decide +kernel) (by decide +kernel)
set_option maxRecDepth 20000 in
theorem gX4_enter_X4_tableAt : GoodIn wsX4_enter (wsV RX4 25 RX4 yX4_tableAt wsX4_tableAt) := goodIn_app (goodIn_of _ (by decide +kernel)) ggX4_enter_X4_tableAt
set_option maxRecDepth 20000 in
theorem ggX4_enter_X5_copy : GoodIn wsX4_enter wsX5_copy := goodIn_r _ [33, 18, 34, 35, 36, 37, 20, 21, 22, 23, 25, 26, 27, 28, 29, 115, 116, 117, 118, 119, 120, 121, 122, 123, 124] (by decide +kernel) (by decide +kernel)
set_option maxRecDepth 20000 in
theorem gX4_enter_X5_copy : GoodIn wsX4_enter (wsV RX4 125 RX5 yX5_copy wsX5_copy) := goodIn_app (goodIn_of _ (by decide +kernel)) ggX4_enter_X5_copy
set_option maxRecDepth 20000 in
theorem ggX4_enter_X4_narrow : GoodIn wsX4_enter wsX4_narrow := goodIn_r _ [41, 42, 43, 44, 45, 11, 46, 28, 47, 48, 49, 50, 21, 18, 51, 52, 53, 54, 55, 56, 57, 58, 59, 60, 61, 62, 23, 27, 22, 63, 64, 65, 66, 67, 68, 69, 70, 71, 72, 73, 74, 75, 76, 77, 20, 78, 125, 126, 127, 128, 129, 130, 131, 132, 133, 134, 135, 115, 116, 117, 118, 119, 120, 121, 122, 123, 124] (by decide +kernel) (by decide +kernel)
set_option maxRecDepth 20000 in
theorem gX4_enter_X4_narrow : GoodIn wsX4_enter (wsV RX4 128 RX4 yX4_narrow wsX4_narrow) := goodIn_app (goodIn_of _ (by decide +kernel)) ggX4_enter_X4_narrow
set_option maxRecDepth 20000 in
theorem ggX4_enter_X5_descend : GoodIn wsX4_enter wsX5_descend := goodIn_r _ [82, 83, 84, 85, 86, 11, 87, 27, 20, 88, 89, 90, 91, 29, 18, 92, 93, 94, 95, 96, 97, 98, 99, 26, 25, 100, 101, 102, 103, 104, 105, 106, 107, 108, 109, 110, 111, 28, 115, 116, 117, 118, 119, 120, 121, 122, 123, 124] (by decide +kernel) (by decide +kernel)
set_option maxRecDepth 20000 in
theorem gX4_enter_X5_descend : GoodIn wsX4_enter (wsV RX4 72 RX5 yX5_descend wsX5_descend) := goodIn_app (goodIn_of _ (by decide +kernel)) ggX4_enter_X5_descend
theorem dX4_enter_0 : decode cX4_enter 0 = .ok (.aload_n 0, 1) := by decide +kernel
theorem dX4_enter_1 : decode cX4_enter 1 = .ok (.getfield 21, 3) := by decide +kernel
theorem dX4_enter_4 : decode cX4_enter 4 = .ok (.iload_n 2, 1) := by decide +kernel
theorem dX4_enter_5 : decode cX4_enter 5 = .ok (.iaload, 1) := by decide +kernel
theorem dX4_enter_6 : decode cX4_enter 6 = .ok (.iconst 1, 1) := by decide +kernel
theorem dX4_enter_7 : decode cX4_enter 7 = .ok (.if_icmp .ne 7, 3) := by decide +kernel
theorem dX4_enter_10 : decode cX4_enter 10 = .ok (.iconst 1, 1) := by decide +kernel
theorem dX4_enter_11 : decode cX4_enter 11 = .ok (.goto 4, 3) := by decide +kernel
theorem dX4_enter_14 : decode cX4_enter 14 = .ok (.iconst 0, 1) := by decide +kernel
theorem dX4_enter_15 : decode cX4_enter 15 = .ok (.istore_n 3, 1) := by decide +kernel
theorem dX4_enter_16 : decode cX4_enter 16 = .ok (.aload_n 0, 1) := by decide +kernel
theorem dX4_enter_17 : decode cX4_enter 17 = .ok (.getfield 21, 3) := by decide +kernel
theorem dX4_enter_20 : decode cX4_enter 20 = .ok (.iload_n 2, 1) := by decide +kernel
theorem dX4_enter_21 : decode cX4_enter 21 = .ok (.dup2, 1) := by decide +kernel
theorem dX4_enter_22 : decode cX4_enter 22 = .ok (.iaload, 1) := by decide +kernel
theorem dX4_enter_23 : decode cX4_enter 23 = .ok (.iconst 1, 1) := by decide +kernel
theorem dX4_enter_24 : decode cX4_enter 24 = .ok (.iadd, 1) := by decide +kernel
theorem dX4_enter_25 : decode cX4_enter 25 = .ok (.iastore, 1) := by decide +kernel
theorem dX4_enter_26 : decode cX4_enter 26 = .ok (.iload_n 2, 1) := by decide +kernel
theorem dX4_enter_27 : decode cX4_enter 27 = .ok (.iconst 1, 1) := by decide +kernel
theorem dX4_enter_28 : decode cX4_enter 28 = .ok (.iadd, 1) := by decide +kernel
theorem dX4_enter_29 : decode cX4_enter 29 = .ok (.bipush 51, 2) := by decide +kernel
theorem dX4_enter_31 : decode cX4_enter 31 = .ok (.if_icmp .lt 5, 3) := by decide +kernel
theorem dX4_enter_34 : decode cX4_enter 34 = .ok (.iload_n 2, 1) := by decide +kernel
theorem dX4_enter_35 : decode cX4_enter 35 = .ok (.ireturn, 1) := by decide +kernel
theorem dX4_enter_36 : decode cX4_enter 36 = .ok (.aload_n 0, 1) := by decide +kernel
theorem dX4_enter_37 : decode cX4_enter 37 = .ok (.iload_n 2, 1) := by decide +kernel
theorem dX4_enter_38 : decode cX4_enter 38 = .ok (.iconst 1, 1) := by decide +kernel
theorem dX4_enter_39 : decode cX4_enter 39 = .ok (.iadd, 1) := by decide +kernel
theorem dX4_enter_40 : decode cX4_enter 40 = .ok (.invokevirtual 25, 3) := by decide +kernel
theorem dX4_enter_43 : decode cX4_enter 43 = .ok (.astore 4, 2) := by decide +kernel
theorem dX4_enter_45 : decode cX4_enter 45 = .ok (.aload 4, 2) := by decide +kernel
theorem dX4_enter_47 : decode cX4_enter 47 = .ok (.aload_n 0, 1) := by decide +kernel
theorem dX4_enter_48 : decode cX4_enter 48 = .ok (.iload_n 2, 1) := by decide +kernel
theorem dX4_enter_49 : decode cX4_enter 49 = .ok (.invokevirtual 25, 3) := by decide +kernel
theorem dX4_enter_52 : decode cX4_enter 52 = .ok (.invokevirtual 125, 3) := by decide +kernel
theorem dX4_enter_55 : decode cX4_enter 55 = .ok (.aload_n 0, 1) := by decide +kernel
theorem dX4_enter_56 : decode cX4_enter 56 = .ok (.aload_n 1, 1) := by decide +kernel
theorem dX4_enter_57 : decode cX4_enter 57 = .ok (.aload 4, 2) := by decide +kernel
theorem dX4_enter_59 : decode cX4_enter 59 = .ok (.aload_n 0, 1) := by decide +kernel
theorem dX4_enter_60 : decode cX4_enter 60 = .ok (.getfield 17, 3) := by decide +kernel
theorem dX4_enter_63 : decode cX4_enter 63 = .ok (.iload_n 2, 1) := by decide +kernel
theorem dX4_enter_64 : decode cX4_enter 64 = .ok (.iaload, 1) := by decide +kernel
theorem dX4_enter_65 : decode cX4_enter 65 = .ok (.iload_n 3, 1) := by decide +kernel
theorem dX4_enter_66 : decode cX4_enter 66 = .ok (.invokevirtual 128, 3) := by decide +kernel
theorem dX4_enter_69 : decode cX4_enter 69 = .ok (.ifCond .eq 11, 3) := by decide +kernel
theorem dX4_enter_72 : decode cX4_enter 72 = .ok (.aload 4, 2) := by decide +kernel
theorem dX4_enter_74 : decode cX4_enter 74 = .ok (.invokevirtual 72, 3) := by decide +kernel
theorem dX4_enter_77 : decode cX4_enter 77 = .ok (.ifCond .ne 5, 3) := by decide +kernel
theorem dX4_enter_80 : decode cX4_enter 80 = .ok (.iload_n 2, 1) := by decide +kernel
theorem dX4_enter_81 : decode cX4_enter 81 = .ok (.ireturn, 1) := by decide +kernel
theorem dX4_enter_82 : decode cX4_enter 82 = .ok (.aload_n 0, 1) := by decide +kernel
theorem dX4_enter_83 : decode cX4_enter 83 = .ok (.getfield 21, 3) := by decide +kernel
theorem dX4_enter_86 : decode cX4_enter 86 = .ok (.iload_n 2, 1) := by decide +kernel
theorem dX4_enter_87 : decode cX4_enter 87 = .ok (.iconst 1, 1) := by decide +kernel
theorem dX4_enter_88 : decode cX4_enter 88 = .ok (.iadd, 1) := by decide +kernel
theorem dX4_enter_89 : decode cX4_enter 89 = .ok (.iconst 0, 1) := by decide +kernel
theorem dX4_enter_90 : decode cX4_enter 90 = .ok (.iastore, 1) := by decide +kernel
theorem dX4_enter_91 : decode cX4_enter 91 = .ok (.iload_n 2, 1) := by decide +kernel
theorem dX4_enter_92 : decode cX4_enter 92 = .ok (.iconst 1, 1) := by decide +kernel
theorem dX4_enter_93 : decode cX4_enter 93 = .ok (.iadd, 1) := by decide +kernel
theorem dX4_enter_94 : decode cX4_enter 94 = .ok (.ireturn, 1) := by decide +kernel
set_option maxRecDepth 20000 in
theorem ggX4_narrow_X5_wholePart : GoodIn wsX4_narrow wsX5_wholePart := goodIn_r _ [6, 7, 8, 9, 10, 5, 11, 12, 13, 14, 15, 16, 17, 57, 58, 59, 60, 61, 62, 63, 64, 65, 66] (by decide +kernel) (by decide +kernel)
set_option maxRecDepth 20000 in
theorem gX4_narrow_X5_wholePart : GoodIn wsX4_narrow (wsV RX4 132 RX5 yX5_wholePart wsX5_wholePart) := goodIn_app (goodIn_of _ (by decide +kernel)) ggX4_narrow_X5_wholePart
set_option maxRecDepth 20000 in
theorem ggX4_narrow_X5_raise : GoodIn wsX4_narrow wsX5_raise := goodIn_r _ [21, 13, 12, 7, 57, 58, 59, 60, 61, 62, 63, 64, 65, 66] (by decide +kernel) (by decide +kernel)
set_option maxRecDepth 20000 in
theorem gX4_narrow_X5_raise : GoodIn wsX4_narrow (wsV RX4 135 RX5 yX5_raise wsX5_raise) := goodIn_app (goodIn_of _ (by decide +kernel)) ggX4_narrow_X5_raise
set_option maxRecDepth 20000 in
theorem ggX4_narrow_X5_lower : GoodIn wsX4_narrow wsX5_lower := goodIn_r _ [25, 26, 27, 13, 28, 7, 57, 58, 59, 60, 61, 62, 63, 64, 65, 66] (by decide +kernel) (by decide +kernel)
set_option maxRecDepth 20000 in
theorem gX4_narrow_X5_lower : GoodIn wsX4_narrow (wsV RX4 139 RX5 yX5_lower wsX5_lower) := goodIn_app (goodIn_of _ (by decide +kernel)) ggX4_narrow_X5_lower
set_option maxRecDepth 20000 in
theorem ggX4_narrow_X2_isSwitch : GoodIn wsX4_narrow wsX2_isSwitch := goodIn_r _ [33, 34, 46, 47, 48, 49, 50, 51, 52, 53, 54, 55, 56] (by decide +kernel) (by decide +kernel)
set_option maxRecDepth 20000 in
theorem gX4_narrow_X2_isSwitch : GoodIn wsX4_narrow (wsV RX4 116 RX2 yX2_isSwitch wsX2_isSwitch) := goodIn_app (goodIn_of _ (by decide +kernel)) ggX4_narrow_X2_isSwitch
set_option maxRecDepth 20000 in
theorem ggX4_narrow_X2_hasColumn : GoodIn wsX4_narrow wsX2_hasColumn := goodIn_r _ [38, 39, 46, 47, 48, 49, 50, 51, 52, 53, 54, 55, 56] (by decide +kernel) (by decide +kernel)
set_option maxRecDepth 20000 in
theorem gX4_narrow_X2_hasColumn : GoodIn wsX4_narrow (wsV RX4 119 RX2 yX2_hasColumn wsX2_hasColumn) := goodIn_app (goodIn_of _ (by decide +kernel)) ggX4_narrow_X2_hasColumn
set_option maxRecDepth 20000 in
theorem ggX4_narrow_X5_holdAtNothing : GoodIn wsX4_narrow wsX5_holdAtNothing := goodIn_r _ [43, 12, 44, 45, 19, 20, 5, 21, 13, 7, 57, 58, 59, 60, 61, 62, 63, 64, 65, 66] (by decide +kernel) (by decide +kernel)
set_option maxRecDepth 20000 in
theorem gX4_narrow_X5_holdAtNothing : GoodIn wsX4_narrow (wsV RX4 142 RX5 yX5_holdAtNothing wsX5_holdAtNothing) := goodIn_app (goodIn_of _ (by decide +kernel)) ggX4_narrow_X5_holdAtNothing
theorem dX4_narrow_0 : decode cX4_narrow 0 = .ok (.aload_n 2, 1) := by decide +kernel
theorem dX4_narrow_1 : decode cX4_narrow 1 = .ok (.iload_n 3, 1) := by decide +kernel
theorem dX4_narrow_2 : decode cX4_narrow 2 = .ok (.invokevirtual 132, 3) := by decide +kernel
theorem dX4_narrow_5 : decode cX4_narrow 5 = .ok (.istore 5, 2) := by decide +kernel
theorem dX4_narrow_7 : decode cX4_narrow 7 = .ok (.iload 4, 2) := by decide +kernel
theorem dX4_narrow_9 : decode cX4_narrow 9 = .ok (.ifCond .eq 14, 3) := by decide +kernel
theorem dX4_narrow_12 : decode cX4_narrow 12 = .ok (.aload_n 2, 1) := by decide +kernel
theorem dX4_narrow_13 : decode cX4_narrow 13 = .ok (.iload_n 3, 1) := by decide +kernel
theorem dX4_narrow_14 : decode cX4_narrow 14 = .ok (.iload 5, 2) := by decide +kernel
theorem dX4_narrow_16 : decode cX4_narrow 16 = .ok (.iconst 1, 1) := by decide +kernel
theorem dX4_narrow_17 : decode cX4_narrow 17 = .ok (.iadd, 1) := by decide +kernel
theorem dX4_narrow_18 : decode cX4_narrow 18 = .ok (.invokevirtual 135, 3) := by decide +kernel
theorem dX4_narrow_21 : decode cX4_narrow 21 = .ok (.iconst 1, 1) := by decide +kernel
theorem dX4_narrow_22 : decode cX4_narrow 22 = .ok (.ireturn, 1) := by decide +kernel
theorem dX4_narrow_23 : decode cX4_narrow 23 = .ok (.aload_n 2, 1) := by decide +kernel
theorem dX4_narrow_24 : decode cX4_narrow 24 = .ok (.iload_n 3, 1) := by decide +kernel
theorem dX4_narrow_25 : decode cX4_narrow 25 = .ok (.iload 5, 2) := by decide +kernel
theorem dX4_narrow_27 : decode cX4_narrow 27 = .ok (.invokevirtual 139, 3) := by decide +kernel
theorem dX4_narrow_30 : decode cX4_narrow 30 = .ok (.aload_n 1, 1) := by decide +kernel
theorem dX4_narrow_31 : decode cX4_narrow 31 = .ok (.getfield 113, 3) := by decide +kernel
theorem dX4_narrow_34 : decode cX4_narrow 34 = .ok (.iload_n 3, 1) := by decide +kernel
theorem dX4_narrow_35 : decode cX4_narrow 35 = .ok (.iaload, 1) := by decide +kernel
theorem dX4_narrow_36 : decode cX4_narrow 36 = .ok (.istore 6, 2) := by decide +kernel
theorem dX4_narrow_38 : decode cX4_narrow 38 = .ok (.aload_n 1, 1) := by decide +kernel
theorem dX4_narrow_39 : decode cX4_narrow 39 = .ok (.iload_n 3, 1) := by decide +kernel
theorem dX4_narrow_40 : decode cX4_narrow 40 = .ok (.invokevirtual 116, 3) := by decide +kernel
theorem dX4_narrow_43 : decode cX4_narrow 43 = .ok (.ifCond .eq 21, 3) := by decide +kernel
theorem dX4_narrow_46 : decode cX4_narrow 46 = .ok (.aload_n 1, 1) := by decide +kernel
theorem dX4_narrow_47 : decode cX4_narrow 47 = .ok (.iload 6, 2) := by decide +kernel
theorem dX4_narrow_49 : decode cX4_narrow 49 = .ok (.invokevirtual 119, 3) := by decide +kernel
theorem dX4_narrow_52 : decode cX4_narrow 52 = .ok (.ifCond .eq 12, 3) := by decide +kernel
theorem dX4_narrow_55 : decode cX4_narrow 55 = .ok (.aload_n 2, 1) := by decide +kernel
theorem dX4_narrow_56 : decode cX4_narrow 56 = .ok (.iload 6, 2) := by decide +kernel
theorem dX4_narrow_58 : decode cX4_narrow 58 = .ok (.invokevirtual 142, 3) := by decide +kernel
theorem dX4_narrow_61 : decode cX4_narrow 61 = .ok (.ifCond .eq 7, 3) := by decide +kernel
theorem dX4_narrow_64 : decode cX4_narrow 64 = .ok (.iconst 1, 1) := by decide +kernel
theorem dX4_narrow_65 : decode cX4_narrow 65 = .ok (.goto 4, 3) := by decide +kernel
theorem dX4_narrow_68 : decode cX4_narrow 68 = .ok (.iconst 0, 1) := by decide +kernel
theorem dX4_narrow_69 : decode cX4_narrow 69 = .ok (.ireturn, 1) := by decide +kernel


