theorem dX7_manyOf_21 : decode cX7_manyOf 21 = .ok (.goto (-17), 3) := by decide +kernel
theorem dX7_manyOf_24 : decode cX7_manyOf 24 = .ok (.iload_n 1, 1) := by decide +kernel
theorem dX7_manyOf_25 : decode cX7_manyOf 25 = .ok (.ireturn, 1) := by decide +kernel
set_option maxRecDepth 20000 in
theorem ggX7_quarrel_X7_takeNumbers : GoodIn wsX7_quarrel wsX7_takeNumbers := goodIn_r _ [5, 6, 7, 8, 97, 98, 99, 100, 101, 102, 103, 104, 105, 106, 107, 108, 109, 110, 111, 112, 113, 114, 115, 116, 117, 118, 119, 120, 121, 122, 123, 124, 125, 126, 127, 128, 129, 130, 131, 132, 133, 134] (by decide +kernel) (by decide +kernel)
set_option maxRecDepth 20000 in
theorem gX7_quarrel_X7_takeNumbers : GoodIn wsX7_quarrel (wsV RX7 213 RX7 yX7_takeNumbers wsX7_takeNumbers) := goodIn_app (goodIn_of _ (by decide +kernel)) ggX7_quarrel_X7_takeNumbers
set_option maxRecDepth 20000 in
theorem ggX7_quarrel_X7_counting : GoodIn wsX7_quarrel wsX7_counting := goodIn_r _ [12, 6, 13, 97, 98, 99, 100, 101, 102, 103, 104, 105, 106, 107, 108, 109, 110, 111, 112, 113, 114, 115, 116, 117, 118, 119, 120, 121, 122, 123, 124, 125, 126, 127, 128, 129, 130, 131, 132, 133, 134] (by decide +kernel) (by decide +kernel)
set_option maxRecDepth 20000 in
theorem gX7_quarrel_X7_counting : GoodIn wsX7_quarrel (wsV RX7 176 RX7 yX7_counting wsX7_counting) := goodIn_app (goodIn_of _ (by decide +kernel)) ggX7_quarrel_X7_counting
set_option maxRecDepth 20000 in
theorem ggX7_quarrel_X7_manyOf : GoodIn wsX7_quarrel wsX7_manyOf := goodIn_r _ [96] (by decide +kernel) (by decide +kernel)
set_option maxRecDepth 20000 in
theorem gX7_quarrel_X7_manyOf : GoodIn wsX7_quarrel (va_wsS RX7 235 yX7_manyOf wsX7_manyOf) := goodIn_app (goodIn_of _ (by decide +kernel)) ggX7_quarrel_X7_manyOf
theorem dX7_quarrel_0 : decode cX7_quarrel 0 = .ok (.aload_n 0, 1) := by decide +kernel
theorem dX7_quarrel_1 : decode cX7_quarrel 1 = .ok (.invokevirtual 213, 3) := by decide +kernel
theorem dX7_quarrel_4 : decode cX7_quarrel 4 = .ok (.aload_n 0, 1) := by decide +kernel
theorem dX7_quarrel_5 : decode cX7_quarrel 5 = .ok (.invokevirtual 176, 3) := by decide +kernel
theorem dX7_quarrel_8 : decode cX7_quarrel 8 = .ok (.istore_n 1, 1) := by decide +kernel
theorem dX7_quarrel_9 : decode cX7_quarrel 9 = .ok (.aload_n 0, 1) := by decide +kernel
theorem dX7_quarrel_10 : decode cX7_quarrel 10 = .ok (.iload_n 1, 1) := by decide +kernel
theorem dX7_quarrel_11 : decode cX7_quarrel 11 = .ok (.invokevirtual 232, 3) := by decide +kernel
theorem dX7_quarrel_14 : decode cX7_quarrel 14 = .ok (.ifCond .ne 5, 3) := by decide +kernel
theorem dX7_quarrel_17 : decode cX7_quarrel 17 = .ok (.iconst 0, 1) := by decide +kernel
theorem dX7_quarrel_18 : decode cX7_quarrel 18 = .ok (.ireturn, 1) := by decide +kernel
theorem dX7_quarrel_19 : decode cX7_quarrel 19 = .ok (.iconst 1, 1) := by decide +kernel
theorem dX7_quarrel_20 : decode cX7_quarrel 20 = .ok (.istore_n 2, 1) := by decide +kernel
theorem dX7_quarrel_21 : decode cX7_quarrel 21 = .ok (.iload_n 2, 1) := by decide +kernel
theorem dX7_quarrel_22 : decode cX7_quarrel 22 = .ok (.bipush 7, 2) := by decide +kernel
theorem dX7_quarrel_24 : decode cX7_quarrel 24 = .ok (.if_icmp .gt 47, 3) := by decide +kernel
theorem dX7_quarrel_27 : decode cX7_quarrel 27 = .ok (.iconst 1, 1) := by decide +kernel
theorem dX7_quarrel_28 : decode cX7_quarrel 28 = .ok (.istore_n 3, 1) := by decide +kernel
theorem dX7_quarrel_29 : decode cX7_quarrel 29 = .ok (.iload_n 3, 1) := by decide +kernel
theorem dX7_quarrel_30 : decode cX7_quarrel 30 = .ok (.iload_n 1, 1) := by decide +kernel
theorem dX7_quarrel_31 : decode cX7_quarrel 31 = .ok (.if_icmp .gt 34, 3) := by decide +kernel
theorem dX7_quarrel_34 : decode cX7_quarrel 34 = .ok (.iload_n 3, 1) := by decide +kernel
theorem dX7_quarrel_35 : decode cX7_quarrel 35 = .ok (.iload_n 1, 1) := by decide +kernel
theorem dX7_quarrel_36 : decode cX7_quarrel 36 = .ok (.iand, 1) := by decide +kernel
theorem dX7_quarrel_37 : decode cX7_quarrel 37 = .ok (.iload_n 3, 1) := by decide +kernel
theorem dX7_quarrel_38 : decode cX7_quarrel 38 = .ok (.if_icmp .ne 21, 3) := by decide +kernel
theorem dX7_quarrel_41 : decode cX7_quarrel 41 = .ok (.iload_n 3, 1) := by decide +kernel
theorem dX7_quarrel_42 : decode cX7_quarrel 42 = .ok (.invokestatic 235, 3) := by decide +kernel
theorem dX7_quarrel_45 : decode cX7_quarrel 45 = .ok (.iload_n 2, 1) := by decide +kernel
theorem dX7_quarrel_46 : decode cX7_quarrel 46 = .ok (.if_icmp .ne 13, 3) := by decide +kernel
theorem dX7_quarrel_49 : decode cX7_quarrel 49 = .ok (.aload_n 0, 1) := by decide +kernel
theorem dX7_quarrel_50 : decode cX7_quarrel 50 = .ok (.iload_n 3, 1) := by decide +kernel
theorem dX7_quarrel_51 : decode cX7_quarrel 51 = .ok (.invokevirtual 232, 3) := by decide +kernel
theorem dX7_quarrel_54 : decode cX7_quarrel 54 = .ok (.ifCond .eq 5, 3) := by decide +kernel
theorem dX7_quarrel_57 : decode cX7_quarrel 57 = .ok (.iload_n 3, 1) := by decide +kernel
theorem dX7_quarrel_58 : decode cX7_quarrel 58 = .ok (.ireturn, 1) := by decide +kernel
theorem dX7_quarrel_59 : decode cX7_quarrel 59 = .ok (.iinc 3 1, 3) := by decide +kernel
theorem dX7_quarrel_62 : decode cX7_quarrel 62 = .ok (.goto (-33), 3) := by decide +kernel
theorem dX7_quarrel_65 : decode cX7_quarrel 65 = .ok (.iinc 2 1, 3) := by decide +kernel
theorem dX7_quarrel_68 : decode cX7_quarrel 68 = .ok (.goto (-47), 3) := by decide +kernel
theorem dX7_quarrel_71 : decode cX7_quarrel 71 = .ok (.iload_n 1, 1) := by decide +kernel
theorem dX7_quarrel_72 : decode cX7_quarrel 72 = .ok (.ireturn, 1) := by decide +kernel
set_option maxRecDepth 20000 in
theorem ggX7_put_X7_isIn : GoodIn wsX7_put wsX7_isIn := goodIn_r _ [8] (by decide +kernel) (by decide +kernel)
set_option maxRecDepth 20000 in
theorem gX7_put_X7_isIn : GoodIn wsX7_put (va_wsS RX7 101 yX7_isIn wsX7_isIn) := goodIn_app (goodIn_of _ (by decide +kernel)) ggX7_put_X7_isIn
theorem dX7_put_0 : decode cX7_put 0 = .ok (.iload_n 1, 1) := by decide +kernel
theorem dX7_put_1 : decode cX7_put 1 = .ok (.iconst 0, 1) := by decide +kernel
theorem dX7_put_2 : decode cX7_put 2 = .ok (.iconst 4, 1) := by decide +kernel
theorem dX7_put_3 : decode cX7_put 3 = .ok (.invokestatic 101, 3) := by decide +kernel
theorem dX7_put_6 : decode cX7_put 6 = .ok (.ifCond .eq 14, 3) := by decide +kernel
theorem dX7_put_9 : decode cX7_put 9 = .ok (.iload_n 2, 1) := by decide +kernel
theorem dX7_put_10 : decode cX7_put 10 = .ok (.ldc 239, 2) := by decide +kernel
theorem dX7_put_12 : decode cX7_put 12 = .ok (.ldc 240, 2) := by decide +kernel
theorem dX7_put_14 : decode cX7_put 14 = .ok (.invokestatic 101, 3) := by decide +kernel
theorem dX7_put_17 : decode cX7_put 17 = .ok (.ifCond .ne 6, 3) := by decide +kernel
theorem dX7_put_20 : decode cX7_put 20 = .ok (.ldc 112, 2) := by decide +kernel
theorem dX7_put_22 : decode cX7_put 22 = .ok (.ireturn, 1) := by decide +kernel
theorem dX7_put_23 : decode cX7_put 23 = .ok (.aload_n 0, 1) := by decide +kernel
theorem dX7_put_24 : decode cX7_put 24 = .ok (.getfield 50, 3) := by decide +kernel
theorem dX7_put_27 : decode cX7_put 27 = .ok (.iload_n 1, 1) := by decide +kernel
theorem dX7_put_28 : decode cX7_put 28 = .ok (.iload_n 2, 1) := by decide +kernel
theorem dX7_put_29 : decode cX7_put 29 = .ok (.i2l, 1) := by decide +kernel
theorem dX7_put_30 : decode cX7_put 30 = .ok (.lastore, 1) := by decide +kernel
theorem dX7_put_31 : decode cX7_put 31 = .ok (.iconst 0, 1) := by decide +kernel
theorem dX7_put_32 : decode cX7_put 32 = .ok (.ireturn, 1) := by decide +kernel
set_option maxRecDepth 20000 in
theorem ggX7_over_X7_isIn : GoodIn wsX7_over wsX7_isIn := goodIn_r _ [7] (by decide +kernel) (by decide +kernel)
set_option maxRecDepth 20000 in
theorem gX7_over_X7_isIn : GoodIn wsX7_over (va_wsS RX7 101 yX7_isIn wsX7_isIn) := goodIn_app (goodIn_of _ (by decide +kernel)) ggX7_over_X7_isIn
theorem dX7_over_0 : decode cX7_over 0 = .ok (.iload_n 1, 1) := by decide +kernel
theorem dX7_over_1 : decode cX7_over 1 = .ok (.iconst 1, 1) := by decide +kernel
theorem dX7_over_2 : decode cX7_over 2 = .ok (.ldc 241, 2) := by decide +kernel
theorem dX7_over_4 : decode cX7_over 4 = .ok (.invokestatic 101, 3) := by decide +kernel
theorem dX7_over_7 : decode cX7_over 7 = .ok (.ifCond .ne 6, 3) := by decide +kernel
theorem dX7_over_10 : decode cX7_over 10 = .ok (.ldc 112, 2) := by decide +kernel
theorem dX7_over_12 : decode cX7_over 12 = .ok (.ireturn, 1) := by decide +kernel
theorem dX7_over_13 : decode cX7_over 13 = .ok (.aload_n 0, 1) := by decide +kernel
theorem dX7_over_14 : decode cX7_over 14 = .ok (.getfield 53, 3) := by decide +kernel
theorem dX7_over_17 : decode cX7_over 17 = .ok (.lstore_n 2, 1) := by decide +kernel
theorem dX7_over_18 : decode cX7_over 18 = .ok (.aload_n 0, 1) := by decide +kernel
theorem dX7_over_19 : decode cX7_over 19 = .ok (.iload_n 1, 1) := by decide +kernel
theorem dX7_over_20 : decode cX7_over 20 = .ok (.i2l, 1) := by decide +kernel
theorem dX7_over_21 : decode cX7_over 21 = .ok (.putfield 53, 3) := by decide +kernel
theorem dX7_over_24 : decode cX7_over 24 = .ok (.lload_n 2, 1) := by decide +kernel
theorem dX7_over_25 : decode cX7_over 25 = .ok (.l2i, 1) := by decide +kernel
theorem dX7_over_26 : decode cX7_over 26 = .ok (.ireturn, 1) := by decide +kernel
set_option maxRecDepth 20000 in
theorem ggX7_take_X7_part : GoodIn wsX7_take wsX7_part := goodIn_r _ [10, 11, 12, 9, 13] (by decide +kernel) (by decide +kernel)
set_option maxRecDepth 20000 in
theorem gX7_take_X7_part : GoodIn wsX7_take (va_wsS RX7 228 yX7_part wsX7_part) := goodIn_app (goodIn_of _ (by decide +kernel)) ggX7_take_X7_part
set_option maxRecDepth 20000 in
theorem ggX7_take_X7_common : GoodIn wsX7_take wsX7_common := goodIn_r _ [13] (by decide +kernel) (by decide +kernel)
set_option maxRecDepth 20000 in
theorem gX7_take_X7_common : GoodIn wsX7_take (va_wsS RX7 220 yX7_common wsX7_common) := goodIn_app (goodIn_of _ (by decide +kernel)) ggX7_take_X7_common
theorem dX7_take_0 : decode cX7_take 0 = .ok (.aload_n 0, 1) := by decide +kernel
theorem dX7_take_1 : decode cX7_take 1 = .ok (.getfield 38, 3) := by decide +kernel
theorem dX7_take_4 : decode cX7_take 4 = .ok (.ifCond .eq 7, 3) := by decide +kernel
theorem dX7_take_7 : decode cX7_take 7 = .ok (.ldc2_w 226, 3) := by decide +kernel
theorem dX7_take_10 : decode cX7_take 10 = .ok (.lreturn, 1) := by decide +kernel
theorem dX7_take_11 : decode cX7_take 11 = .ok (.lconst 1, 1) := by decide +kernel
theorem dX7_take_12 : decode cX7_take 12 = .ok (.lstore_n 1, 1) := by decide +kernel
theorem dX7_take_13 : decode cX7_take 13 = .ok (.iconst 0, 1) := by decide +kernel
theorem dX7_take_14 : decode cX7_take 14 = .ok (.istore_n 3, 1) := by decide +kernel
theorem dX7_take_15 : decode cX7_take 15 = .ok (.iload_n 3, 1) := by decide +kernel
theorem dX7_take_16 : decode cX7_take 16 = .ok (.iconst 5, 1) := by decide +kernel
theorem dX7_take_17 : decode cX7_take 17 = .ok (.if_icmp .ge 37, 3) := by decide +kernel
theorem dX7_take_20 : decode cX7_take 20 = .ok (.aload_n 0, 1) := by decide +kernel
theorem dX7_take_21 : decode cX7_take 21 = .ok (.getfield 42, 3) := by decide +kernel
theorem dX7_take_24 : decode cX7_take 24 = .ok (.iload_n 3, 1) := by decide +kernel
theorem dX7_take_25 : decode cX7_take 25 = .ok (.laload, 1) := by decide +kernel
theorem dX7_take_26 : decode cX7_take 26 = .ok (.aload_n 0, 1) := by decide +kernel
theorem dX7_take_27 : decode cX7_take 27 = .ok (.getfield 46, 3) := by decide +kernel
theorem dX7_take_30 : decode cX7_take 30 = .ok (.iconst 1, 1) := by decide +kernel
theorem dX7_take_31 : decode cX7_take 31 = .ok (.invokestatic 228, 3) := by decide +kernel
theorem dX7_take_34 : decode cX7_take 34 = .ok (.lstore 4, 2) := by decide +kernel
theorem dX7_take_36 : decode cX7_take 36 = .ok (.lload_n 1, 1) := by decide +kernel
theorem dX7_take_37 : decode cX7_take 37 = .ok (.lload_n 1, 1) := by decide +kernel
theorem dX7_take_38 : decode cX7_take 38 = .ok (.lload 4, 2) := by decide +kernel
theorem dX7_take_40 : decode cX7_take 40 = .ok (.invokestatic 220, 3) := by decide +kernel
theorem dX7_take_43 : decode cX7_take 43 = .ok (.ldiv, 1) := by decide +kernel
theorem dX7_take_44 : decode cX7_take 44 = .ok (.lload 4, 2) := by decide +kernel
theorem dX7_take_46 : decode cX7_take 46 = .ok (.lmul, 1) := by decide +kernel
theorem dX7_take_47 : decode cX7_take 47 = .ok (.lstore_n 1, 1) := by decide +kernel
theorem dX7_take_48 : decode cX7_take 48 = .ok (.iinc 3 1, 3) := by decide +kernel
theorem dX7_take_51 : decode cX7_take 51 = .ok (.goto (-36), 3) := by decide +kernel
theorem dX7_take_54 : decode cX7_take 54 = .ok (.iconst 0, 1) := by decide +kernel
theorem dX7_take_55 : decode cX7_take 55 = .ok (.istore_n 3, 1) := by decide +kernel
theorem dX7_take_56 : decode cX7_take 56 = .ok (.iload_n 3, 1) := by decide +kernel
theorem dX7_take_57 : decode cX7_take 57 = .ok (.iconst 5, 1) := by decide +kernel
theorem dX7_take_58 : decode cX7_take 58 = .ok (.if_icmp .ge 46, 3) := by decide +kernel
theorem dX7_take_61 : decode cX7_take 61 = .ok (.aload_n 0, 1) := by decide +kernel
theorem dX7_take_62 : decode cX7_take 62 = .ok (.getfield 50, 3) := by decide +kernel
theorem dX7_take_65 : decode cX7_take 65 = .ok (.iload_n 3, 1) := by decide +kernel
theorem dX7_take_66 : decode cX7_take 66 = .ok (.aload_n 0, 1) := by decide +kernel
theorem dX7_take_67 : decode cX7_take 67 = .ok (.getfield 42, 3) := by decide +kernel
theorem dX7_take_70 : decode cX7_take 70 = .ok (.iload_n 3, 1) := by decide +kernel
theorem dX7_take_71 : decode cX7_take 71 = .ok (.laload, 1) := by decide +kernel
theorem dX7_take_72 : decode cX7_take 72 = .ok (.aload_n 0, 1) := by decide +kernel
theorem dX7_take_73 : decode cX7_take 73 = .ok (.getfield 46, 3) := by decide +kernel
theorem dX7_take_76 : decode cX7_take 76 = .ok (.iconst 0, 1) := by decide +kernel
theorem dX7_take_77 : decode cX7_take 77 = .ok (.invokestatic 228, 3) := by decide +kernel
theorem dX7_take_80 : decode cX7_take 80 = .ok (.lload_n 1, 1) := by decide +kernel
theorem dX7_take_81 : decode cX7_take 81 = .ok (.aload_n 0, 1) := by decide +kernel
theorem dX7_take_82 : decode cX7_take 82 = .ok (.getfield 42, 3) := by decide +kernel
theorem dX7_take_85 : decode cX7_take 85 = .ok (.iload_n 3, 1) := by decide +kernel
theorem dX7_take_86 : decode cX7_take 86 = .ok (.laload, 1) := by decide +kernel
theorem dX7_take_87 : decode cX7_take 87 = .ok (.aload_n 0, 1) := by decide +kernel
theorem dX7_take_88 : decode cX7_take 88 = .ok (.getfield 46, 3) := by decide +kernel
theorem dX7_take_91 : decode cX7_take 91 = .ok (.iconst 1, 1) := by decide +kernel
theorem dX7_take_92 : decode cX7_take 92 = .ok (.invokestatic 228, 3) := by decide +kernel
theorem dX7_take_95 : decode cX7_take 95 = .ok (.ldiv, 1) := by decide +kernel
theorem dX7_take_96 : decode cX7_take 96 = .ok (.lmul, 1) := by decide +kernel
theorem dX7_take_97 : decode cX7_take 97 = .ok (.lastore, 1) := by decide +kernel
theorem dX7_take_98 : decode cX7_take 98 = .ok (.iinc 3 1, 3) := by decide +kernel
theorem dX7_take_101 : decode cX7_take 101 = .ok (.goto (-45), 3) := by decide +kernel
theorem dX7_take_104 : decode cX7_take 104 = .ok (.aload_n 0, 1) := by decide +kernel
theorem dX7_take_105 : decode cX7_take 105 = .ok (.lload_n 1, 1) := by decide +kernel
theorem dX7_take_106 : decode cX7_take 106 = .ok (.putfield 53, 3) := by decide +kernel
theorem dX7_take_109 : decode cX7_take 109 = .ok (.lload_n 1, 1) := by decide +kernel
theorem dX7_take_110 : decode cX7_take 110 = .ok (.lreturn, 1) := by decide +kernel
set_option maxRecDepth 20000 in
theorem ggX7_price_X7_isIn : GoodIn wsX7_price wsX7_isIn := goodIn_r _ [8] (by decide +kernel) (by decide +kernel)
set_option maxRecDepth 20000 in
theorem gX7_price_X7_isIn : GoodIn wsX7_price (va_wsS RX7 101 yX7_isIn wsX7_isIn) := goodIn_app (goodIn_of _ (by decide +kernel)) ggX7_price_X7_isIn
theorem dX7_price_0 : decode cX7_price 0 = .ok (.iload_n 1, 1) := by decide +kernel
theorem dX7_price_1 : decode cX7_price 1 = .ok (.iconst 0, 1) := by decide +kernel
theorem dX7_price_2 : decode cX7_price 2 = .ok (.bipush 6, 2) := by decide +kernel
theorem dX7_price_4 : decode cX7_price 4 = .ok (.invokestatic 101, 3) := by decide +kernel
theorem dX7_price_7 : decode cX7_price 7 = .ok (.ifCond .eq 14, 3) := by decide +kernel
theorem dX7_price_10 : decode cX7_price 10 = .ok (.iload_n 2, 1) := by decide +kernel
theorem dX7_price_11 : decode cX7_price 11 = .ok (.ldc 242, 2) := by decide +kernel
theorem dX7_price_13 : decode cX7_price 13 = .ok (.ldc 241, 2) := by decide +kernel
theorem dX7_price_15 : decode cX7_price 15 = .ok (.invokestatic 101, 3) := by decide +kernel
theorem dX7_price_18 : decode cX7_price 18 = .ok (.ifCond .ne 6, 3) := by decide +kernel
theorem dX7_price_21 : decode cX7_price 21 = .ok (.ldc 112, 2) := by decide +kernel
theorem dX7_price_23 : decode cX7_price 23 = .ok (.ireturn, 1) := by decide +kernel
theorem dX7_price_24 : decode cX7_price 24 = .ok (.aload_n 0, 1) := by decide +kernel
theorem dX7_price_25 : decode cX7_price 25 = .ok (.getfield 56, 3) := by decide +kernel
theorem dX7_price_28 : decode cX7_price 28 = .ok (.iload_n 1, 1) := by decide +kernel
theorem dX7_price_29 : decode cX7_price 29 = .ok (.iload_n 2, 1) := by decide +kernel
theorem dX7_price_30 : decode cX7_price 30 = .ok (.i2l, 1) := by decide +kernel
theorem dX7_price_31 : decode cX7_price 31 = .ok (.lastore, 1) := by decide +kernel
theorem dX7_price_32 : decode cX7_price 32 = .ok (.iconst 0, 1) := by decide +kernel
theorem dX7_price_33 : decode cX7_price 33 = .ok (.ireturn, 1) := by decide +kernel
set_option maxRecDepth 20000 in
theorem ggX7_pricesOver_X7_isIn : GoodIn wsX7_pricesOver wsX7_isIn := goodIn_r _ [7] (by decide +kernel) (by decide +kernel)
set_option maxRecDepth 20000 in
theorem gX7_pricesOver_X7_isIn : GoodIn wsX7_pricesOver (va_wsS RX7 101 yX7_isIn wsX7_isIn) := goodIn_app (goodIn_of _ (by decide +kernel)) ggX7_pricesOver_X7_isIn
theorem dX7_pricesOver_0 : decode cX7_pricesOver 0 = .ok (.iload_n 1, 1) := by decide +kernel
theorem dX7_pricesOver_1 : decode cX7_pricesOver 1 = .ok (.iconst 1, 1) := by decide +kernel
theorem dX7_pricesOver_2 : decode cX7_pricesOver 2 = .ok (.ldc 241, 2) := by decide +kernel
theorem dX7_pricesOver_4 : decode cX7_pricesOver 4 = .ok (.invokestatic 101, 3) := by decide +kernel
theorem dX7_pricesOver_7 : decode cX7_pricesOver 7 = .ok (.ifCond .ne 6, 3) := by decide +kernel
theorem dX7_pricesOver_10 : decode cX7_pricesOver 10 = .ok (.ldc 112, 2) := by decide +kernel
theorem dX7_pricesOver_12 : decode cX7_pricesOver 12 = .ok (.ireturn, 1) := by decide +kernel
theorem dX7_pricesOver_13 : decode cX7_pricesOver 13 = .ok (.aload_n 0, 1) := by decide +kernel
theorem dX7_pricesOver_14 : decode cX7_pricesOver 14 = .ok (.getfield 59, 3) := by decide +kernel
theorem dX7_pricesOver_17 : decode cX7_pricesOver 17 = .ok (.lstore_n 2, 1) := by decide +kernel
theorem dX7_pricesOver_18 : decode cX7_pricesOver 18 = .ok (.aload_n 0, 1) := by decide +kernel
theorem dX7_pricesOver_19 : decode cX7_pricesOver 19 = .ok (.iload_n 1, 1) := by decide +kernel
theorem dX7_pricesOver_20 : decode cX7_pricesOver 20 = .ok (.i2l, 1) := by decide +kernel
theorem dX7_pricesOver_21 : decode cX7_pricesOver 21 = .ok (.putfield 59, 3) := by decide +kernel
theorem dX7_pricesOver_24 : decode cX7_pricesOver 24 = .ok (.lload_n 2, 1) := by decide +kernel
theorem dX7_pricesOver_25 : decode cX7_pricesOver 25 = .ok (.l2i, 1) := by decide +kernel
theorem dX7_pricesOver_26 : decode cX7_pricesOver 26 = .ok (.ireturn, 1) := by decide +kernel
theorem dX7_isLow_0 : decode cX7_isLow 0 = .ok (.aload_n 0, 1) := by decide +kernel
theorem dX7_isLow_1 : decode cX7_isLow 1 = .ok (.getfield 50, 3) := by decide +kernel
theorem dX7_isLow_4 : decode cX7_isLow 4 = .ok (.iload_n 1, 1) := by decide +kernel
theorem dX7_isLow_5 : decode cX7_isLow 5 = .ok (.laload, 1) := by decide +kernel
theorem dX7_isLow_6 : decode cX7_isLow 6 = .ok (.aload_n 0, 1) := by decide +kernel
theorem dX7_isLow_7 : decode cX7_isLow 7 = .ok (.getfield 13, 3) := by decide +kernel
theorem dX7_isLow_10 : decode cX7_isLow 10 = .ok (.iload_n 1, 1) := by decide +kernel
theorem dX7_isLow_11 : decode cX7_isLow 11 = .ok (.iaload, 1) := by decide +kernel
theorem dX7_isLow_12 : decode cX7_isLow 12 = .ok (.i2l, 1) := by decide +kernel
theorem dX7_isLow_13 : decode cX7_isLow 13 = .ok (.aload_n 0, 1) := by decide +kernel
theorem dX7_isLow_14 : decode cX7_isLow 14 = .ok (.getfield 53, 3) := by decide +kernel
theorem dX7_isLow_17 : decode cX7_isLow 17 = .ok (.lmul, 1) := by decide +kernel
theorem dX7_isLow_18 : decode cX7_isLow 18 = .ok (.lcmp, 1) := by decide +kernel
theorem dX7_isLow_19 : decode cX7_isLow 19 = .ok (.ifCond .ne 7, 3) := by decide +kernel
theorem dX7_isLow_22 : decode cX7_isLow 22 = .ok (.iconst 1, 1) := by decide +kernel
theorem dX7_isLow_23 : decode cX7_isLow 23 = .ok (.goto 4, 3) := by decide +kernel
theorem dX7_isLow_26 : decode cX7_isLow 26 = .ok (.iconst 0, 1) := by decide +kernel
theorem dX7_isLow_27 : decode cX7_isLow 27 = .ok (.ireturn, 1) := by decide +kernel
theorem dX7_isHigh_0 : decode cX7_isHigh 0 = .ok (.aload_n 0, 1) := by decide +kernel
theorem dX7_isHigh_1 : decode cX7_isHigh 1 = .ok (.getfield 16, 3) := by decide +kernel
theorem dX7_isHigh_4 : decode cX7_isHigh 4 = .ok (.iload_n 1, 1) := by decide +kernel
theorem dX7_isHigh_5 : decode cX7_isHigh 5 = .ok (.iaload, 1) := by decide +kernel
theorem dX7_isHigh_6 : decode cX7_isHigh 6 = .ok (.ldc 108, 2) := by decide +kernel
theorem dX7_isHigh_8 : decode cX7_isHigh 8 = .ok (.if_icmp .eq 29, 3) := by decide +kernel
theorem dX7_isHigh_11 : decode cX7_isHigh 11 = .ok (.aload_n 0, 1) := by decide +kernel
theorem dX7_isHigh_12 : decode cX7_isHigh 12 = .ok (.getfield 50, 3) := by decide +kernel
theorem dX7_isHigh_15 : decode cX7_isHigh 15 = .ok (.iload_n 1, 1) := by decide +kernel
theorem dX7_isHigh_16 : decode cX7_isHigh 16 = .ok (.laload, 1) := by decide +kernel
theorem dX7_isHigh_17 : decode cX7_isHigh 17 = .ok (.aload_n 0, 1) := by decide +kernel
theorem dX7_isHigh_18 : decode cX7_isHigh 18 = .ok (.getfield 16, 3) := by decide +kernel
theorem dX7_isHigh_21 : decode cX7_isHigh 21 = .ok (.iload_n 1, 1) := by decide +kernel
theorem dX7_isHigh_22 : decode cX7_isHigh 22 = .ok (.iaload, 1) := by decide +kernel
theorem dX7_isHigh_23 : decode cX7_isHigh 23 = .ok (.i2l, 1) := by decide +kernel
theorem dX7_isHigh_24 : decode cX7_isHigh 24 = .ok (.aload_n 0, 1) := by decide +kernel
theorem dX7_isHigh_25 : decode cX7_isHigh 25 = .ok (.getfield 53, 3) := by decide +kernel
theorem dX7_isHigh_28 : decode cX7_isHigh 28 = .ok (.lmul, 1) := by decide +kernel
theorem dX7_isHigh_29 : decode cX7_isHigh 29 = .ok (.lcmp, 1) := by decide +kernel
theorem dX7_isHigh_30 : decode cX7_isHigh 30 = .ok (.ifCond .ne 7, 3) := by decide +kernel
theorem dX7_isHigh_33 : decode cX7_isHigh 33 = .ok (.iconst 1, 1) := by decide +kernel
theorem dX7_isHigh_34 : decode cX7_isHigh 34 = .ok (.goto 4, 3) := by decide +kernel
theorem dX7_isHigh_37 : decode cX7_isHigh 37 = .ok (.iconst 0, 1) := by decide +kernel
theorem dX7_isHigh_38 : decode cX7_isHigh 38 = .ok (.ireturn, 1) := by decide +kernel
theorem dX7_isWithin_0 : decode cX7_isWithin 0 = .ok (.aload_n 0, 1) := by decide +kernel
theorem dX7_isWithin_1 : decode cX7_isWithin 1 = .ok (.getfield 50, 3) := by decide +kernel
theorem dX7_isWithin_4 : decode cX7_isWithin 4 = .ok (.iload_n 1, 1) := by decide +kernel
theorem dX7_isWithin_5 : decode cX7_isWithin 5 = .ok (.laload, 1) := by decide +kernel
theorem dX7_isWithin_6 : decode cX7_isWithin 6 = .ok (.aload_n 0, 1) := by decide +kernel
theorem dX7_isWithin_7 : decode cX7_isWithin 7 = .ok (.getfield 13, 3) := by decide +kernel
theorem dX7_isWithin_10 : decode cX7_isWithin 10 = .ok (.iload_n 1, 1) := by decide +kernel
theorem dX7_isWithin_11 : decode cX7_isWithin 11 = .ok (.iaload, 1) := by decide +kernel
theorem dX7_isWithin_12 : decode cX7_isWithin 12 = .ok (.i2l, 1) := by decide +kernel
theorem dX7_isWithin_13 : decode cX7_isWithin 13 = .ok (.aload_n 0, 1) := by decide +kernel
theorem dX7_isWithin_14 : decode cX7_isWithin 14 = .ok (.getfield 53, 3) := by decide +kernel
theorem dX7_isWithin_17 : decode cX7_isWithin 17 = .ok (.lmul, 1) := by decide +kernel
theorem dX7_isWithin_18 : decode cX7_isWithin 18 = .ok (.lcmp, 1) := by decide +kernel
theorem dX7_isWithin_19 : decode cX7_isWithin 19 = .ok (.ifCond .lt 40, 3) := by decide +kernel
theorem dX7_isWithin_22 : decode cX7_isWithin 22 = .ok (.aload_n 0, 1) := by decide +kernel
theorem dX7_isWithin_23 : decode cX7_isWithin 23 = .ok (.getfield 16, 3) := by decide +kernel
theorem dX7_isWithin_26 : decode cX7_isWithin 26 = .ok (.iload_n 1, 1) := by decide +kernel
theorem dX7_isWithin_27 : decode cX7_isWithin 27 = .ok (.iaload, 1) := by decide +kernel
theorem dX7_isWithin_28 : decode cX7_isWithin 28 = .ok (.ldc 108, 2) := by decide +kernel
theorem dX7_isWithin_30 : decode cX7_isWithin 30 = .ok (.if_icmp .eq 25, 3) := by decide +kernel
theorem dX7_isWithin_33 : decode cX7_isWithin 33 = .ok (.aload_n 0, 1) := by decide +kernel
theorem dX7_isWithin_34 : decode cX7_isWithin 34 = .ok (.getfield 50, 3) := by decide +kernel
theorem dX7_isWithin_37 : decode cX7_isWithin 37 = .ok (.iload_n 1, 1) := by decide +kernel
theorem dX7_isWithin_38 : decode cX7_isWithin 38 = .ok (.laload, 1) := by decide +kernel
theorem dX7_isWithin_39 : decode cX7_isWithin 39 = .ok (.aload_n 0, 1) := by decide +kernel
theorem dX7_isWithin_40 : decode cX7_isWithin 40 = .ok (.getfield 16, 3) := by decide +kernel
theorem dX7_isWithin_43 : decode cX7_isWithin 43 = .ok (.iload_n 1, 1) := by decide +kernel
theorem dX7_isWithin_44 : decode cX7_isWithin 44 = .ok (.iaload, 1) := by decide +kernel
theorem dX7_isWithin_45 : decode cX7_isWithin 45 = .ok (.i2l, 1) := by decide +kernel
theorem dX7_isWithin_46 : decode cX7_isWithin 46 = .ok (.aload_n 0, 1) := by decide +kernel
theorem dX7_isWithin_47 : decode cX7_isWithin 47 = .ok (.getfield 53, 3) := by decide +kernel
theorem dX7_isWithin_50 : decode cX7_isWithin 50 = .ok (.lmul, 1) := by decide +kernel
theorem dX7_isWithin_51 : decode cX7_isWithin 51 = .ok (.lcmp, 1) := by decide +kernel
theorem dX7_isWithin_52 : decode cX7_isWithin 52 = .ok (.ifCond .gt 7, 3) := by decide +kernel
theorem dX7_isWithin_55 : decode cX7_isWithin 55 = .ok (.iconst 1, 1) := by decide +kernel
theorem dX7_isWithin_56 : decode cX7_isWithin 56 = .ok (.goto 4, 3) := by decide +kernel
theorem dX7_isWithin_59 : decode cX7_isWithin 59 = .ok (.iconst 0, 1) := by decide +kernel
theorem dX7_isWithin_60 : decode cX7_isWithin 60 = .ok (.ireturn, 1) := by decide +kernel
theorem dX7_sumOf_0 : decode cX7_sumOf 0 = .ok (.lconst 0, 1) := by decide +kernel
theorem dX7_sumOf_1 : decode cX7_sumOf 1 = .ok (.lstore_n 2, 1) := by decide +kernel
theorem dX7_sumOf_2 : decode cX7_sumOf 2 = .ok (.iconst 0, 1) := by decide +kernel
theorem dX7_sumOf_3 : decode cX7_sumOf 3 = .ok (.istore 4, 2) := by decide +kernel
theorem dX7_sumOf_5 : decode cX7_sumOf 5 = .ok (.iload 4, 2) := by decide +kernel
theorem dX7_sumOf_7 : decode cX7_sumOf 7 = .ok (.aload_n 0, 1) := by decide +kernel
theorem dX7_sumOf_8 : decode cX7_sumOf 8 = .ok (.getfield 98, 3) := by decide +kernel
theorem dX7_sumOf_11 : decode cX7_sumOf 11 = .ok (.if_icmp .ge 32, 3) := by decide +kernel
theorem dX7_sumOf_14 : decode cX7_sumOf 14 = .ok (.lload_n 2, 1) := by decide +kernel
theorem dX7_sumOf_15 : decode cX7_sumOf 15 = .ok (.aload_n 0, 1) := by decide +kernel
theorem dX7_sumOf_16 : decode cX7_sumOf 16 = .ok (.getfield 35, 3) := by decide +kernel
theorem dX7_sumOf_19 : decode cX7_sumOf 19 = .ok (.iconst 5, 1) := by decide +kernel
theorem dX7_sumOf_20 : decode cX7_sumOf 20 = .ok (.iload_n 1, 1) := by decide +kernel
theorem dX7_sumOf_21 : decode cX7_sumOf 21 = .ok (.imul, 1) := by decide +kernel
theorem dX7_sumOf_22 : decode cX7_sumOf 22 = .ok (.iload 4, 2) := by decide +kernel
theorem dX7_sumOf_24 : decode cX7_sumOf 24 = .ok (.iadd, 1) := by decide +kernel
theorem dX7_sumOf_25 : decode cX7_sumOf 25 = .ok (.iaload, 1) := by decide +kernel
theorem dX7_sumOf_26 : decode cX7_sumOf 26 = .ok (.i2l, 1) := by decide +kernel
theorem dX7_sumOf_27 : decode cX7_sumOf 27 = .ok (.aload_n 0, 1) := by decide +kernel
theorem dX7_sumOf_28 : decode cX7_sumOf 28 = .ok (.getfield 50, 3) := by decide +kernel
theorem dX7_sumOf_31 : decode cX7_sumOf 31 = .ok (.iload 4, 2) := by decide +kernel
theorem dX7_sumOf_33 : decode cX7_sumOf 33 = .ok (.laload, 1) := by decide +kernel
theorem dX7_sumOf_34 : decode cX7_sumOf 34 = .ok (.lmul, 1) := by decide +kernel
theorem dX7_sumOf_35 : decode cX7_sumOf 35 = .ok (.ladd, 1) := by decide +kernel
theorem dX7_sumOf_36 : decode cX7_sumOf 36 = .ok (.lstore_n 2, 1) := by decide +kernel
theorem dX7_sumOf_37 : decode cX7_sumOf 37 = .ok (.iinc 4 1, 3) := by decide +kernel
theorem dX7_sumOf_40 : decode cX7_sumOf 40 = .ok (.goto (-35), 3) := by decide +kernel
theorem dX7_sumOf_43 : decode cX7_sumOf 43 = .ok (.lload_n 2, 1) := by decide +kernel
theorem dX7_sumOf_44 : decode cX7_sumOf 44 = .ok (.lreturn, 1) := by decide +kernel
set_option maxRecDepth 20000 in
theorem ggX7_isKept_X7_sumOf : GoodIn wsX7_isKept wsX7_sumOf := goodIn_r _ [9, 10, 11, 12, 13, 14, 15, 16, 17, 18, 19, 20, 21, 22, 23, 24, 25, 26, 27, 28, 29, 30, 31, 32, 33, 34, 35, 36, 37, 38, 39, 40, 41, 42, 43, 44, 45, 46, 47, 48, 49, 50] (by decide +kernel) (by decide +kernel)
set_option maxRecDepth 20000 in
theorem gX7_isKept_X7_sumOf : GoodIn wsX7_isKept (wsV RX7 243 RX7 yX7_sumOf wsX7_sumOf) := goodIn_app (goodIn_of _ (by decide +kernel)) ggX7_isKept_X7_sumOf
theorem dX7_isKept_0 : decode cX7_isKept 0 = .ok (.aload_n 0, 1) := by decide +kernel
theorem dX7_isKept_1 : decode cX7_isKept 1 = .ok (.iload_n 1, 1) := by decide +kernel
theorem dX7_isKept_2 : decode cX7_isKept 2 = .ok (.invokevirtual 243, 3) := by decide +kernel
theorem dX7_isKept_5 : decode cX7_isKept 5 = .ok (.lstore_n 2, 1) := by decide +kernel
theorem dX7_isKept_6 : decode cX7_isKept 6 = .ok (.aload_n 0, 1) := by decide +kernel
theorem dX7_isKept_7 : decode cX7_isKept 7 = .ok (.getfield 28, 3) := by decide +kernel
theorem dX7_isKept_10 : decode cX7_isKept 10 = .ok (.iload_n 1, 1) := by decide +kernel
theorem dX7_isKept_11 : decode cX7_isKept 11 = .ok (.iaload, 1) := by decide +kernel
theorem dX7_isKept_12 : decode cX7_isKept 12 = .ok (.i2l, 1) := by decide +kernel
theorem dX7_isKept_13 : decode cX7_isKept 13 = .ok (.aload_n 0, 1) := by decide +kernel
theorem dX7_isKept_14 : decode cX7_isKept 14 = .ok (.getfield 53, 3) := by decide +kernel
theorem dX7_isKept_17 : decode cX7_isKept 17 = .ok (.lmul, 1) := by decide +kernel
theorem dX7_isKept_18 : decode cX7_isKept 18 = .ok (.lstore 4, 2) := by decide +kernel
theorem dX7_isKept_20 : decode cX7_isKept 20 = .ok (.aload_n 0, 1) := by decide +kernel
theorem dX7_isKept_21 : decode cX7_isKept 21 = .ok (.getfield 31, 3) := by decide +kernel
theorem dX7_isKept_24 : decode cX7_isKept 24 = .ok (.iload_n 1, 1) := by decide +kernel
theorem dX7_isKept_25 : decode cX7_isKept 25 = .ok (.baload, 1) := by decide +kernel
theorem dX7_isKept_26 : decode cX7_isKept 26 = .ok (.ifCond .eq 49, 3) := by decide +kernel
theorem dX7_isKept_29 : decode cX7_isKept 29 = .ok (.aload_n 0, 1) := by decide +kernel
theorem dX7_isKept_30 : decode cX7_isKept 30 = .ok (.getfield 25, 3) := by decide +kernel
theorem dX7_isKept_33 : decode cX7_isKept 33 = .ok (.iload_n 1, 1) := by decide +kernel
theorem dX7_isKept_34 : decode cX7_isKept 34 = .ok (.iaload, 1) := by decide +kernel
theorem dX7_isKept_35 : decode cX7_isKept 35 = .ok (.ifCond .ne 13, 3) := by decide +kernel
theorem dX7_isKept_38 : decode cX7_isKept 38 = .ok (.lload_n 2, 1) := by decide +kernel
theorem dX7_isKept_39 : decode cX7_isKept 39 = .ok (.lload 4, 2) := by decide +kernel
theorem dX7_isKept_41 : decode cX7_isKept 41 = .ok (.lcmp, 1) := by decide +kernel
theorem dX7_isKept_42 : decode cX7_isKept 42 = .ok (.ifCond .gt 37, 3) := by decide +kernel
theorem dX7_isKept_45 : decode cX7_isKept 45 = .ok (.goto 30, 3) := by decide +kernel
theorem dX7_isKept_48 : decode cX7_isKept 48 = .ok (.aload_n 0, 1) := by decide +kernel
theorem dX7_isKept_49 : decode cX7_isKept 49 = .ok (.getfield 25, 3) := by decide +kernel
theorem dX7_isKept_52 : decode cX7_isKept 52 = .ok (.iload_n 1, 1) := by decide +kernel
theorem dX7_isKept_53 : decode cX7_isKept 53 = .ok (.iaload, 1) := by decide +kernel
theorem dX7_isKept_54 : decode cX7_isKept 54 = .ok (.iconst 1, 1) := by decide +kernel
theorem dX7_isKept_55 : decode cX7_isKept 55 = .ok (.if_icmp .ne 13, 3) := by decide +kernel
theorem dX7_isKept_58 : decode cX7_isKept 58 = .ok (.lload_n 2, 1) := by decide +kernel
theorem dX7_isKept_59 : decode cX7_isKept 59 = .ok (.lload 4, 2) := by decide +kernel
theorem dX7_isKept_61 : decode cX7_isKept 61 = .ok (.lcmp, 1) := by decide +kernel
theorem dX7_isKept_62 : decode cX7_isKept 62 = .ok (.ifCond .lt 17, 3) := by decide +kernel
theorem dX7_isKept_65 : decode cX7_isKept 65 = .ok (.goto 10, 3) := by decide +kernel
theorem dX7_isKept_68 : decode cX7_isKept 68 = .ok (.lload_n 2, 1) := by decide +kernel
theorem dX7_isKept_69 : decode cX7_isKept 69 = .ok (.lload 4, 2) := by decide +kernel
theorem dX7_isKept_71 : decode cX7_isKept 71 = .ok (.lcmp, 1) := by decide +kernel
theorem dX7_isKept_72 : decode cX7_isKept 72 = .ok (.ifCond .ne 7, 3) := by decide +kernel
theorem dX7_isKept_75 : decode cX7_isKept 75 = .ok (.iconst 1, 1) := by decide +kernel
theorem dX7_isKept_76 : decode cX7_isKept 76 = .ok (.goto 4, 3) := by decide +kernel
theorem dX7_isKept_79 : decode cX7_isKept 79 = .ok (.iconst 0, 1) := by decide +kernel
theorem dX7_isKept_80 : decode cX7_isKept 80 = .ok (.ireturn, 1) := by decide +kernel
set_option maxRecDepth 20000 in
theorem ggX7_check_X7_isWithin : GoodIn wsX7_check wsX7_isWithin := goodIn_r _ [12, 3, 13, 4, 14, 6, 27, 28, 29, 30, 31, 32, 33, 34, 35, 36, 37, 38, 39, 40, 41, 42, 43, 44, 45, 46, 47, 48, 49, 50, 51, 52, 53, 54, 55, 56, 57, 58, 59, 60, 61, 62, 63, 64] (by decide +kernel) (by decide +kernel)
set_option maxRecDepth 20000 in
theorem gX7_check_X7_isWithin : GoodIn wsX7_check (wsV RX7 247 RX7 yX7_isWithin wsX7_isWithin) := goodIn_app (goodIn_of _ (by decide +kernel)) ggX7_check_X7_isWithin
set_option maxRecDepth 20000 in
theorem ggX7_check_X7_isKept : GoodIn wsX7_check wsX7_isKept := goodIn_r _ [18, 19, 4, 20, 21, 22, 23, 24, 11, 25, 1, 26, 3, 27, 28, 29, 30, 31, 32, 33, 34, 35, 36, 37, 38, 39, 40, 41, 42, 43, 44, 45, 46, 47, 48, 49, 50, 51, 52, 53, 54, 55, 56, 57, 58, 59, 60, 61, 62, 63, 64] (by decide +kernel) (by decide +kernel)
set_option maxRecDepth 20000 in
theorem gX7_check_X7_isKept : GoodIn wsX7_check (wsV RX7 250 RX7 yX7_isKept wsX7_isKept) := goodIn_app (goodIn_of _ (by decide +kernel)) ggX7_check_X7_isKept
theorem dX7_check_0 : decode cX7_check 0 = .ok (.iconst 0, 1) := by decide +kernel
theorem dX7_check_1 : decode cX7_check 1 = .ok (.istore_n 1, 1) := by decide +kernel
theorem dX7_check_2 : decode cX7_check 2 = .ok (.iload_n 1, 1) := by decide +kernel
theorem dX7_check_3 : decode cX7_check 3 = .ok (.aload_n 0, 1) := by decide +kernel
theorem dX7_check_4 : decode cX7_check 4 = .ok (.getfield 98, 3) := by decide +kernel
theorem dX7_check_7 : decode cX7_check 7 = .ok (.if_icmp .ge 114, 3) := by decide +kernel
theorem dX7_check_10 : decode cX7_check 10 = .ok (.aload_n 0, 1) := by decide +kernel
theorem dX7_check_11 : decode cX7_check 11 = .ok (.getfield 7, 3) := by decide +kernel
theorem dX7_check_14 : decode cX7_check 14 = .ok (.iload_n 1, 1) := by decide +kernel
theorem dX7_check_15 : decode cX7_check 15 = .ok (.iaload, 1) := by decide +kernel
theorem dX7_check_16 : decode cX7_check 16 = .ok (.ifCond .eq 19, 3) := by decide +kernel
theorem dX7_check_19 : decode cX7_check 19 = .ok (.aload_n 0, 1) := by decide +kernel
theorem dX7_check_20 : decode cX7_check 20 = .ok (.getfield 50, 3) := by decide +kernel
theorem dX7_check_23 : decode cX7_check 23 = .ok (.iload_n 1, 1) := by decide +kernel
theorem dX7_check_24 : decode cX7_check 24 = .ok (.laload, 1) := by decide +kernel
theorem dX7_check_25 : decode cX7_check 25 = .ok (.aload_n 0, 1) := by decide +kernel
theorem dX7_check_26 : decode cX7_check 26 = .ok (.getfield 53, 3) := by decide +kernel
theorem dX7_check_29 : decode cX7_check 29 = .ok (.lrem, 1) := by decide +kernel
theorem dX7_check_30 : decode cX7_check 30 = .ok (.lconst 0, 1) := by decide +kernel
theorem dX7_check_31 : decode cX7_check 31 = .ok (.lcmp, 1) := by decide +kernel
theorem dX7_check_32 : decode cX7_check 32 = .ok (.ifCond .ne 7, 3) := by decide +kernel
theorem dX7_check_35 : decode cX7_check 35 = .ok (.iconst 1, 1) := by decide +kernel
theorem dX7_check_36 : decode cX7_check 36 = .ok (.goto 4, 3) := by decide +kernel
theorem dX7_check_39 : decode cX7_check 39 = .ok (.iconst 0, 1) := by decide +kernel
theorem dX7_check_40 : decode cX7_check 40 = .ok (.istore_n 2, 1) := by decide +kernel
theorem dX7_check_41 : decode cX7_check 41 = .ok (.aload_n 0, 1) := by decide +kernel
theorem dX7_check_42 : decode cX7_check 42 = .ok (.getfield 7, 3) := by decide +kernel
theorem dX7_check_45 : decode cX7_check 45 = .ok (.iload_n 1, 1) := by decide +kernel
theorem dX7_check_46 : decode cX7_check 46 = .ok (.iaload, 1) := by decide +kernel
theorem dX7_check_47 : decode cX7_check 47 = .ok (.iconst 2, 1) := by decide +kernel
theorem dX7_check_48 : decode cX7_check 48 = .ok (.if_icmp .ne 45, 3) := by decide +kernel
theorem dX7_check_51 : decode cX7_check 51 = .ok (.aload_n 0, 1) := by decide +kernel
theorem dX7_check_52 : decode cX7_check 52 = .ok (.getfield 50, 3) := by decide +kernel
theorem dX7_check_55 : decode cX7_check 55 = .ok (.iload_n 1, 1) := by decide +kernel
theorem dX7_check_56 : decode cX7_check 56 = .ok (.laload, 1) := by decide +kernel
theorem dX7_check_57 : decode cX7_check 57 = .ok (.lconst 0, 1) := by decide +kernel
theorem dX7_check_58 : decode cX7_check 58 = .ok (.lcmp, 1) := by decide +kernel
theorem dX7_check_59 : decode cX7_check 59 = .ok (.ifCond .ne 34, 3) := by decide +kernel
theorem dX7_check_62 : decode cX7_check 62 = .ok (.aload_n 0, 1) := by decide +kernel
theorem dX7_check_63 : decode cX7_check 63 = .ok (.getfield 22, 3) := by decide +kernel
theorem dX7_check_66 : decode cX7_check 66 = .ok (.iload_n 1, 1) := by decide +kernel
theorem dX7_check_67 : decode cX7_check 67 = .ok (.iaload, 1) := by decide +kernel
theorem dX7_check_68 : decode cX7_check 68 = .ok (.ldc 108, 2) := by decide +kernel
theorem dX7_check_70 : decode cX7_check 70 = .ok (.if_icmp .eq 23, 3) := by decide +kernel
theorem dX7_check_73 : decode cX7_check 73 = .ok (.aload_n 0, 1) := by decide +kernel
theorem dX7_check_74 : decode cX7_check 74 = .ok (.getfield 50, 3) := by decide +kernel
theorem dX7_check_77 : decode cX7_check 77 = .ok (.aload_n 0, 1) := by decide +kernel
theorem dX7_check_78 : decode cX7_check 78 = .ok (.getfield 22, 3) := by decide +kernel
theorem dX7_check_81 : decode cX7_check 81 = .ok (.iload_n 1, 1) := by decide +kernel
theorem dX7_check_82 : decode cX7_check 82 = .ok (.iaload, 1) := by decide +kernel
theorem dX7_check_83 : decode cX7_check 83 = .ok (.laload, 1) := by decide +kernel
theorem dX7_check_84 : decode cX7_check 84 = .ok (.lconst 0, 1) := by decide +kernel
theorem dX7_check_85 : decode cX7_check 85 = .ok (.lcmp, 1) := by decide +kernel
theorem dX7_check_86 : decode cX7_check 86 = .ok (.ifCond .eq 7, 3) := by decide +kernel
theorem dX7_check_89 : decode cX7_check 89 = .ok (.iconst 1, 1) := by decide +kernel
theorem dX7_check_90 : decode cX7_check 90 = .ok (.goto 4, 3) := by decide +kernel
theorem dX7_check_93 : decode cX7_check 93 = .ok (.iconst 0, 1) := by decide +kernel
theorem dX7_check_94 : decode cX7_check 94 = .ok (.istore_n 3, 1) := by decide +kernel
theorem dX7_check_95 : decode cX7_check 95 = .ok (.aload_n 0, 1) := by decide +kernel
theorem dX7_check_96 : decode cX7_check 96 = .ok (.iload_n 1, 1) := by decide +kernel
theorem dX7_check_97 : decode cX7_check 97 = .ok (.invokevirtual 247, 3) := by decide +kernel
theorem dX7_check_100 : decode cX7_check 100 = .ok (.ifCond .eq 11, 3) := by decide +kernel
theorem dX7_check_103 : decode cX7_check 103 = .ok (.iload_n 2, 1) := by decide +kernel
theorem dX7_check_104 : decode cX7_check 104 = .ok (.ifCond .eq 7, 3) := by decide +kernel
theorem dX7_check_107 : decode cX7_check 107 = .ok (.iload_n 3, 1) := by decide +kernel
theorem dX7_check_108 : decode cX7_check 108 = .ok (.ifCond .eq 7, 3) := by decide +kernel
theorem dX7_check_111 : decode cX7_check 111 = .ok (.iconst 1, 1) := by decide +kernel
theorem dX7_check_112 : decode cX7_check 112 = .ok (.iload_n 1, 1) := by decide +kernel
theorem dX7_check_113 : decode cX7_check 113 = .ok (.iadd, 1) := by decide +kernel
theorem dX7_check_114 : decode cX7_check 114 = .ok (.ireturn, 1) := by decide +kernel
theorem dX7_check_115 : decode cX7_check 115 = .ok (.iinc 1 1, 3) := by decide +kernel
theorem dX7_check_118 : decode cX7_check 118 = .ok (.goto (-116), 3) := by decide +kernel
theorem dX7_check_121 : decode cX7_check 121 = .ok (.iconst 0, 1) := by decide +kernel
theorem dX7_check_122 : decode cX7_check 122 = .ok (.istore_n 1, 1) := by decide +kernel
theorem dX7_check_123 : decode cX7_check 123 = .ok (.iload_n 1, 1) := by decide +kernel
theorem dX7_check_124 : decode cX7_check 124 = .ok (.aload_n 0, 1) := by decide +kernel
theorem dX7_check_125 : decode cX7_check 125 = .ok (.getfield 105, 3) := by decide +kernel
theorem dX7_check_128 : decode cX7_check 128 = .ok (.if_icmp .ge 22, 3) := by decide +kernel
theorem dX7_check_131 : decode cX7_check 131 = .ok (.aload_n 0, 1) := by decide +kernel
theorem dX7_check_132 : decode cX7_check 132 = .ok (.iload_n 1, 1) := by decide +kernel
theorem dX7_check_133 : decode cX7_check 133 = .ok (.invokevirtual 250, 3) := by decide +kernel
theorem dX7_check_136 : decode cX7_check 136 = .ok (.ifCond .ne 8, 3) := by decide +kernel
theorem dX7_check_139 : decode cX7_check 139 = .ok (.bipush 100, 2) := by decide +kernel
theorem dX7_check_141 : decode cX7_check 141 = .ok (.iload_n 1, 1) := by decide +kernel
theorem dX7_check_142 : decode cX7_check 142 = .ok (.iadd, 1) := by decide +kernel
theorem dX7_check_143 : decode cX7_check 143 = .ok (.ireturn, 1) := by decide +kernel
theorem dX7_check_144 : decode cX7_check 144 = .ok (.iinc 1 1, 3) := by decide +kernel
theorem dX7_check_147 : decode cX7_check 147 = .ok (.goto (-24), 3) := by decide +kernel
theorem dX7_check_150 : decode cX7_check 150 = .ok (.iconst 0, 1) := by decide +kernel
theorem dX7_check_151 : decode cX7_check 151 = .ok (.ireturn, 1) := by decide +kernel
set_option maxRecDepth 20000 in
theorem ggX7_isLoose_X7_isWithin : GoodIn wsX7_isLoose wsX7_isWithin := goodIn_r _ [7, 8, 9, 10, 11, 12, 25, 26, 27, 28, 29, 30, 31, 32, 33, 34, 35, 36, 37, 38, 39, 40, 41, 42, 43, 44, 45, 46, 47, 48, 49, 50, 51, 52, 53, 54, 55, 56, 57, 58, 59, 60, 61, 62] (by decide +kernel) (by decide +kernel)
set_option maxRecDepth 20000 in
theorem gX7_isLoose_X7_isWithin : GoodIn wsX7_isLoose (wsV RX7 247 RX7 yX7_isWithin wsX7_isWithin) := goodIn_app (goodIn_of _ (by decide +kernel)) ggX7_isLoose_X7_isWithin
set_option maxRecDepth 20000 in
theorem ggX7_isLoose_X7_isKept : GoodIn wsX7_isLoose wsX7_isKept := goodIn_r _ [16, 17, 10, 18, 19, 20, 21, 22, 6, 23, 1, 24, 8, 25, 26, 27, 28, 29, 30, 31, 32, 33, 34, 35, 36, 37, 38, 39, 40, 41, 42, 43, 44, 45, 46, 47, 48, 49, 50, 51, 52, 53, 54, 55, 56, 57, 58, 59, 60, 61, 62] (by decide +kernel) (by decide +kernel)
set_option maxRecDepth 20000 in
theorem gX7_isLoose_X7_isKept : GoodIn wsX7_isLoose (wsV RX7 250 RX7 yX7_isKept wsX7_isKept) := goodIn_app (goodIn_of _ (by decide +kernel)) ggX7_isLoose_X7_isKept
theorem dX7_isLoose_0 : decode cX7_isLoose 0 = .ok (.iconst 1, 1) := by decide +kernel
theorem dX7_isLoose_1 : decode cX7_isLoose 1 = .ok (.istore_n 1, 1) := by decide +kernel
theorem dX7_isLoose_2 : decode cX7_isLoose 2 = .ok (.iconst 0, 1) := by decide +kernel
theorem dX7_isLoose_3 : decode cX7_isLoose 3 = .ok (.istore_n 2, 1) := by decide +kernel
theorem dX7_isLoose_4 : decode cX7_isLoose 4 = .ok (.iload_n 2, 1) := by decide +kernel
theorem dX7_isLoose_5 : decode cX7_isLoose 5 = .ok (.aload_n 0, 1) := by decide +kernel
theorem dX7_isLoose_6 : decode cX7_isLoose 6 = .ok (.getfield 98, 3) := by decide +kernel
theorem dX7_isLoose_9 : decode cX7_isLoose 9 = .ok (.if_icmp .ge 27, 3) := by decide +kernel
theorem dX7_isLoose_12 : decode cX7_isLoose 12 = .ok (.iload_n 1, 1) := by decide +kernel
theorem dX7_isLoose_13 : decode cX7_isLoose 13 = .ok (.ifCond .eq 15, 3) := by decide +kernel
theorem dX7_isLoose_16 : decode cX7_isLoose 16 = .ok (.aload_n 0, 1) := by decide +kernel
theorem dX7_isLoose_17 : decode cX7_isLoose 17 = .ok (.iload_n 2, 1) := by decide +kernel
theorem dX7_isLoose_18 : decode cX7_isLoose 18 = .ok (.invokevirtual 247, 3) := by decide +kernel
theorem dX7_isLoose_21 : decode cX7_isLoose 21 = .ok (.ifCond .eq 7, 3) := by decide +kernel
theorem dX7_isLoose_24 : decode cX7_isLoose 24 = .ok (.iconst 1, 1) := by decide +kernel
theorem dX7_isLoose_25 : decode cX7_isLoose 25 = .ok (.goto 4, 3) := by decide +kernel
theorem dX7_isLoose_28 : decode cX7_isLoose 28 = .ok (.iconst 0, 1) := by decide +kernel
theorem dX7_isLoose_29 : decode cX7_isLoose 29 = .ok (.istore_n 1, 1) := by decide +kernel
theorem dX7_isLoose_30 : decode cX7_isLoose 30 = .ok (.iinc 2 1, 3) := by decide +kernel
theorem dX7_isLoose_33 : decode cX7_isLoose 33 = .ok (.goto (-29), 3) := by decide +kernel
theorem dX7_isLoose_36 : decode cX7_isLoose 36 = .ok (.iconst 0, 1) := by decide +kernel
theorem dX7_isLoose_37 : decode cX7_isLoose 37 = .ok (.istore_n 2, 1) := by decide +kernel
theorem dX7_isLoose_38 : decode cX7_isLoose 38 = .ok (.iload_n 2, 1) := by decide +kernel
theorem dX7_isLoose_39 : decode cX7_isLoose 39 = .ok (.aload_n 0, 1) := by decide +kernel
theorem dX7_isLoose_40 : decode cX7_isLoose 40 = .ok (.getfield 105, 3) := by decide +kernel
theorem dX7_isLoose_43 : decode cX7_isLoose 43 = .ok (.if_icmp .ge 27, 3) := by decide +kernel
theorem dX7_isLoose_46 : decode cX7_isLoose 46 = .ok (.iload_n 1, 1) := by decide +kernel
theorem dX7_isLoose_47 : decode cX7_isLoose 47 = .ok (.ifCond .eq 15, 3) := by decide +kernel
theorem dX7_isLoose_50 : decode cX7_isLoose 50 = .ok (.aload_n 0, 1) := by decide +kernel
theorem dX7_isLoose_51 : decode cX7_isLoose 51 = .ok (.iload_n 2, 1) := by decide +kernel
theorem dX7_isLoose_52 : decode cX7_isLoose 52 = .ok (.invokevirtual 250, 3) := by decide +kernel
theorem dX7_isLoose_55 : decode cX7_isLoose 55 = .ok (.ifCond .eq 7, 3) := by decide +kernel
theorem dX7_isLoose_58 : decode cX7_isLoose 58 = .ok (.iconst 1, 1) := by decide +kernel
theorem dX7_isLoose_59 : decode cX7_isLoose 59 = .ok (.goto 4, 3) := by decide +kernel
theorem dX7_isLoose_62 : decode cX7_isLoose 62 = .ok (.iconst 0, 1) := by decide +kernel
theorem dX7_isLoose_63 : decode cX7_isLoose 63 = .ok (.istore_n 1, 1) := by decide +kernel
theorem dX7_isLoose_64 : decode cX7_isLoose 64 = .ok (.iinc 2 1, 3) := by decide +kernel
theorem dX7_isLoose_67 : decode cX7_isLoose 67 = .ok (.goto (-29), 3) := by decide +kernel
theorem dX7_isLoose_70 : decode cX7_isLoose 70 = .ok (.iload_n 1, 1) := by decide +kernel
theorem dX7_isLoose_71 : decode cX7_isLoose 71 = .ok (.ireturn, 1) := by decide +kernel
theorem dX7_areSigns_0 : decode cX7_areSigns 0 = .ok (.iconst 1, 1) := by decide +kernel
theorem dX7_areSigns_1 : decode cX7_areSigns 1 = .ok (.istore_n 1, 1) := by decide +kernel
theorem dX7_areSigns_2 : decode cX7_areSigns 2 = .ok (.iconst 0, 1) := by decide +kernel
theorem dX7_areSigns_3 : decode cX7_areSigns 3 = .ok (.istore_n 2, 1) := by decide +kernel
theorem dX7_areSigns_4 : decode cX7_areSigns 4 = .ok (.iload_n 2, 1) := by decide +kernel
theorem dX7_areSigns_5 : decode cX7_areSigns 5 = .ok (.aload_n 0, 1) := by decide +kernel
theorem dX7_areSigns_6 : decode cX7_areSigns 6 = .ok (.getfield 105, 3) := by decide +kernel
theorem dX7_areSigns_9 : decode cX7_areSigns 9 = .ok (.if_icmp .ge 69, 3) := by decide +kernel
theorem dX7_areSigns_12 : decode cX7_areSigns 12 = .ok (.iload_n 1, 1) := by decide +kernel
theorem dX7_areSigns_13 : decode cX7_areSigns 13 = .ok (.ifCond .eq 57, 3) := by decide +kernel
theorem dX7_areSigns_16 : decode cX7_areSigns 16 = .ok (.aload_n 0, 1) := by decide +kernel
theorem dX7_areSigns_17 : decode cX7_areSigns 17 = .ok (.getfield 31, 3) := by decide +kernel
theorem dX7_areSigns_20 : decode cX7_areSigns 20 = .ok (.iload_n 2, 1) := by decide +kernel
theorem dX7_areSigns_21 : decode cX7_areSigns 21 = .ok (.baload, 1) := by decide +kernel
theorem dX7_areSigns_22 : decode cX7_areSigns 22 = .ok (.ifCond .eq 44, 3) := by decide +kernel
theorem dX7_areSigns_25 : decode cX7_areSigns 25 = .ok (.aload_n 0, 1) := by decide +kernel
theorem dX7_areSigns_26 : decode cX7_areSigns 26 = .ok (.getfield 56, 3) := by decide +kernel
theorem dX7_areSigns_29 : decode cX7_areSigns 29 = .ok (.iload_n 2, 1) := by decide +kernel
theorem dX7_areSigns_30 : decode cX7_areSigns 30 = .ok (.laload, 1) := by decide +kernel
theorem dX7_areSigns_31 : decode cX7_areSigns 31 = .ok (.lconst 0, 1) := by decide +kernel
theorem dX7_areSigns_32 : decode cX7_areSigns 32 = .ok (.lcmp, 1) := by decide +kernel
theorem dX7_areSigns_33 : decode cX7_areSigns 33 = .ok (.ifCond .le 12, 3) := by decide +kernel
theorem dX7_areSigns_36 : decode cX7_areSigns 36 = .ok (.aload_n 0, 1) := by decide +kernel
theorem dX7_areSigns_37 : decode cX7_areSigns 37 = .ok (.getfield 25, 3) := by decide +kernel
theorem dX7_areSigns_40 : decode cX7_areSigns 40 = .ok (.iload_n 2, 1) := by decide +kernel
theorem dX7_areSigns_41 : decode cX7_areSigns 41 = .ok (.iaload, 1) := by decide +kernel
theorem dX7_areSigns_42 : decode cX7_areSigns 42 = .ok (.ifCond .eq 28, 3) := by decide +kernel
theorem dX7_areSigns_45 : decode cX7_areSigns 45 = .ok (.aload_n 0, 1) := by decide +kernel
theorem dX7_areSigns_46 : decode cX7_areSigns 46 = .ok (.getfield 56, 3) := by decide +kernel
theorem dX7_areSigns_49 : decode cX7_areSigns 49 = .ok (.iload_n 2, 1) := by decide +kernel
theorem dX7_areSigns_50 : decode cX7_areSigns 50 = .ok (.laload, 1) := by decide +kernel
theorem dX7_areSigns_51 : decode cX7_areSigns 51 = .ok (.lconst 0, 1) := by decide +kernel
theorem dX7_areSigns_52 : decode cX7_areSigns 52 = .ok (.lcmp, 1) := by decide +kernel
theorem dX7_areSigns_53 : decode cX7_areSigns 53 = .ok (.ifCond .ge 13, 3) := by decide +kernel
theorem dX7_areSigns_56 : decode cX7_areSigns 56 = .ok (.aload_n 0, 1) := by decide +kernel
theorem dX7_areSigns_57 : decode cX7_areSigns 57 = .ok (.getfield 25, 3) := by decide +kernel
theorem dX7_areSigns_60 : decode cX7_areSigns 60 = .ok (.iload_n 2, 1) := by decide +kernel
theorem dX7_areSigns_61 : decode cX7_areSigns 61 = .ok (.iaload, 1) := by decide +kernel
theorem dX7_areSigns_62 : decode cX7_areSigns 62 = .ok (.iconst 1, 1) := by decide +kernel
theorem dX7_areSigns_63 : decode cX7_areSigns 63 = .ok (.if_icmp .eq 7, 3) := by decide +kernel
theorem dX7_areSigns_66 : decode cX7_areSigns 66 = .ok (.iconst 1, 1) := by decide +kernel
theorem dX7_areSigns_67 : decode cX7_areSigns 67 = .ok (.goto 4, 3) := by decide +kernel
theorem dX7_areSigns_70 : decode cX7_areSigns 70 = .ok (.iconst 0, 1) := by decide +kernel
theorem dX7_areSigns_71 : decode cX7_areSigns 71 = .ok (.istore_n 1, 1) := by decide +kernel
theorem dX7_areSigns_72 : decode cX7_areSigns 72 = .ok (.iinc 2 1, 3) := by decide +kernel
theorem dX7_areSigns_75 : decode cX7_areSigns 75 = .ok (.goto (-71), 3) := by decide +kernel
theorem dX7_areSigns_78 : decode cX7_areSigns 78 = .ok (.iload_n 1, 1) := by decide +kernel
theorem dX7_areSigns_79 : decode cX7_areSigns 79 = .ok (.ireturn, 1) := by decide +kernel
set_option maxRecDepth 20000 in
theorem ggX7_isLeftWell_X7_isHigh : GoodIn wsX7_isLeftWell wsX7_isHigh := goodIn_r _ [11, 12, 13, 14, 15, 21, 22, 23, 24, 25, 26, 27, 28, 29, 30, 31, 32, 33, 34, 35, 36, 37, 38, 39, 40, 41, 42, 43, 44, 45, 46, 47, 48, 49, 50, 51, 52, 53, 54, 55, 56, 57, 58] (by decide +kernel) (by decide +kernel)
set_option maxRecDepth 20000 in
theorem gX7_isLeftWell_X7_isHigh : GoodIn wsX7_isLeftWell (wsV RX7 253 RX7 yX7_isHigh wsX7_isHigh) := goodIn_app (goodIn_of _ (by decide +kernel)) ggX7_isLeftWell_X7_isHigh
set_option maxRecDepth 20000 in
theorem ggX7_isLeftWell_X7_isLow : GoodIn wsX7_isLeftWell wsX7_isLow := goodIn_r _ [19, 14, 20, 15, 21, 22, 23, 24, 25, 26, 27, 28, 29, 30, 31, 32, 33, 34, 35, 36, 37, 38, 39, 40, 41, 42, 43, 44, 45, 46, 47, 48, 49, 50, 51, 52, 53, 54, 55, 56, 57, 58] (by decide +kernel) (by decide +kernel)
set_option maxRecDepth 20000 in
theorem gX7_isLeftWell_X7_isLow : GoodIn wsX7_isLeftWell (wsV RX7 256 RX7 yX7_isLow wsX7_isLow) := goodIn_app (goodIn_of _ (by decide +kernel)) ggX7_isLeftWell_X7_isLow
theorem dX7_isLeftWell_0 : decode cX7_isLeftWell 0 = .ok (.aload_n 0, 1) := by decide +kernel
theorem dX7_isLeftWell_1 : decode cX7_isLeftWell 1 = .ok (.getfield 19, 3) := by decide +kernel
theorem dX7_isLeftWell_4 : decode cX7_isLeftWell 4 = .ok (.iload_n 1, 1) := by decide +kernel
theorem dX7_isLeftWell_5 : decode cX7_isLeftWell 5 = .ok (.iaload, 1) := by decide +kernel
theorem dX7_isLeftWell_6 : decode cX7_isLeftWell 6 = .ok (.i2l, 1) := by decide +kernel
theorem dX7_isLeftWell_7 : decode cX7_isLeftWell 7 = .ok (.aload_n 0, 1) := by decide +kernel
theorem dX7_isLeftWell_8 : decode cX7_isLeftWell 8 = .ok (.getfield 59, 3) := by decide +kernel
theorem dX7_isLeftWell_11 : decode cX7_isLeftWell 11 = .ok (.lmul, 1) := by decide +kernel
theorem dX7_isLeftWell_12 : decode cX7_isLeftWell 12 = .ok (.lstore_n 2, 1) := by decide +kernel
theorem dX7_isLeftWell_13 : decode cX7_isLeftWell 13 = .ok (.iconst 0, 1) := by decide +kernel
theorem dX7_isLeftWell_14 : decode cX7_isLeftWell 14 = .ok (.istore 4, 2) := by decide +kernel
theorem dX7_isLeftWell_16 : decode cX7_isLeftWell 16 = .ok (.iload 4, 2) := by decide +kernel
theorem dX7_isLeftWell_18 : decode cX7_isLeftWell 18 = .ok (.aload_n 0, 1) := by decide +kernel
theorem dX7_isLeftWell_19 : decode cX7_isLeftWell 19 = .ok (.getfield 105, 3) := by decide +kernel
theorem dX7_isLeftWell_22 : decode cX7_isLeftWell 22 = .ok (.if_icmp .ge 46, 3) := by decide +kernel
theorem dX7_isLeftWell_25 : decode cX7_isLeftWell 25 = .ok (.lload_n 2, 1) := by decide +kernel
theorem dX7_isLeftWell_26 : decode cX7_isLeftWell 26 = .ok (.aload_n 0, 1) := by decide +kernel
theorem dX7_isLeftWell_27 : decode cX7_isLeftWell 27 = .ok (.getfield 31, 3) := by decide +kernel
theorem dX7_isLeftWell_30 : decode cX7_isLeftWell 30 = .ok (.iload 4, 2) := by decide +kernel
theorem dX7_isLeftWell_32 : decode cX7_isLeftWell 32 = .ok (.baload, 1) := by decide +kernel
theorem dX7_isLeftWell_33 : decode cX7_isLeftWell 33 = .ok (.ifCond .eq 26, 3) := by decide +kernel
theorem dX7_isLeftWell_36 : decode cX7_isLeftWell 36 = .ok (.aload_n 0, 1) := by decide +kernel
theorem dX7_isLeftWell_37 : decode cX7_isLeftWell 37 = .ok (.getfield 35, 3) := by decide +kernel
theorem dX7_isLeftWell_40 : decode cX7_isLeftWell 40 = .ok (.iconst 5, 1) := by decide +kernel
theorem dX7_isLeftWell_41 : decode cX7_isLeftWell 41 = .ok (.iload 4, 2) := by decide +kernel
theorem dX7_isLeftWell_43 : decode cX7_isLeftWell 43 = .ok (.imul, 1) := by decide +kernel
theorem dX7_isLeftWell_44 : decode cX7_isLeftWell 44 = .ok (.iload_n 1, 1) := by decide +kernel
theorem dX7_isLeftWell_45 : decode cX7_isLeftWell 45 = .ok (.iadd, 1) := by decide +kernel
theorem dX7_isLeftWell_46 : decode cX7_isLeftWell 46 = .ok (.iaload, 1) := by decide +kernel
theorem dX7_isLeftWell_47 : decode cX7_isLeftWell 47 = .ok (.i2l, 1) := by decide +kernel
theorem dX7_isLeftWell_48 : decode cX7_isLeftWell 48 = .ok (.aload_n 0, 1) := by decide +kernel
theorem dX7_isLeftWell_49 : decode cX7_isLeftWell 49 = .ok (.getfield 56, 3) := by decide +kernel
theorem dX7_isLeftWell_52 : decode cX7_isLeftWell 52 = .ok (.iload 4, 2) := by decide +kernel
theorem dX7_isLeftWell_54 : decode cX7_isLeftWell 54 = .ok (.laload, 1) := by decide +kernel
theorem dX7_isLeftWell_55 : decode cX7_isLeftWell 55 = .ok (.lmul, 1) := by decide +kernel
theorem dX7_isLeftWell_56 : decode cX7_isLeftWell 56 = .ok (.goto 4, 3) := by decide +kernel
theorem dX7_isLeftWell_59 : decode cX7_isLeftWell 59 = .ok (.lconst 0, 1) := by decide +kernel
theorem dX7_isLeftWell_60 : decode cX7_isLeftWell 60 = .ok (.lsub, 1) := by decide +kernel
theorem dX7_isLeftWell_61 : decode cX7_isLeftWell 61 = .ok (.lstore_n 2, 1) := by decide +kernel
theorem dX7_isLeftWell_62 : decode cX7_isLeftWell 62 = .ok (.iinc 4 1, 3) := by decide +kernel
theorem dX7_isLeftWell_65 : decode cX7_isLeftWell 65 = .ok (.goto (-49), 3) := by decide +kernel
theorem dX7_isLeftWell_68 : decode cX7_isLeftWell 68 = .ok (.lload_n 2, 1) := by decide +kernel
theorem dX7_isLeftWell_69 : decode cX7_isLeftWell 69 = .ok (.lconst 0, 1) := by decide +kernel
theorem dX7_isLeftWell_70 : decode cX7_isLeftWell 70 = .ok (.lcmp, 1) := by decide +kernel
theorem dX7_isLeftWell_71 : decode cX7_isLeftWell 71 = .ok (.ifCond .ge 11, 3) := by decide +kernel
theorem dX7_isLeftWell_74 : decode cX7_isLeftWell 74 = .ok (.aload_n 0, 1) := by decide +kernel
theorem dX7_isLeftWell_75 : decode cX7_isLeftWell 75 = .ok (.iload_n 1, 1) := by decide +kernel
theorem dX7_isLeftWell_76 : decode cX7_isLeftWell 76 = .ok (.invokevirtual 253, 3) := by decide +kernel
theorem dX7_isLeftWell_79 : decode cX7_isLeftWell 79 = .ok (.ifCond .eq 21, 3) := by decide +kernel
theorem dX7_isLeftWell_82 : decode cX7_isLeftWell 82 = .ok (.lload_n 2, 1) := by decide +kernel
theorem dX7_isLeftWell_83 : decode cX7_isLeftWell 83 = .ok (.lconst 0, 1) := by decide +kernel
theorem dX7_isLeftWell_84 : decode cX7_isLeftWell 84 = .ok (.lcmp, 1) := by decide +kernel
theorem dX7_isLeftWell_85 : decode cX7_isLeftWell 85 = .ok (.ifCond .le 11, 3) := by decide +kernel
theorem dX7_isLeftWell_88 : decode cX7_isLeftWell 88 = .ok (.aload_n 0, 1) := by decide +kernel
theorem dX7_isLeftWell_89 : decode cX7_isLeftWell 89 = .ok (.iload_n 1, 1) := by decide +kernel
theorem dX7_isLeftWell_90 : decode cX7_isLeftWell 90 = .ok (.invokevirtual 256, 3) := by decide +kernel
theorem dX7_isLeftWell_93 : decode cX7_isLeftWell 93 = .ok (.ifCond .eq 7, 3) := by decide +kernel
theorem dX7_isLeftWell_96 : decode cX7_isLeftWell 96 = .ok (.iconst 1, 1) := by decide +kernel
theorem dX7_isLeftWell_97 : decode cX7_isLeftWell 97 = .ok (.goto 4, 3) := by decide +kernel
theorem dX7_isLeftWell_100 : decode cX7_isLeftWell 100 = .ok (.iconst 0, 1) := by decide +kernel
theorem dX7_isLeftWell_101 : decode cX7_isLeftWell 101 = .ok (.ireturn, 1) := by decide +kernel
set_option maxRecDepth 20000 in
theorem ggX7_shows_X7_isLoose : GoodIn wsX7_shows wsX7_isLoose := goodIn_r _ [11, 1, 2, 12, 13, 14, 10, 15, 16, 17, 6, 18, 19, 20, 21, 22, 23, 5, 3, 24, 25, 26, 27, 28, 29, 48, 49, 50, 51, 52, 53, 54, 55, 56, 57, 58, 59, 60, 61, 62, 63, 64, 65, 66, 67, 68, 69, 70, 71, 72, 73, 74, 75, 76, 77, 78, 79, 80, 81, 82, 83, 84, 85] (by decide +kernel) (by decide +kernel)
set_option maxRecDepth 20000 in
theorem gX7_shows_X7_isLoose : GoodIn wsX7_shows (wsV RX7 259 RX7 yX7_isLoose wsX7_isLoose) := goodIn_app (goodIn_of _ (by decide +kernel)) ggX7_shows_X7_isLoose
set_option maxRecDepth 20000 in
theorem ggX7_shows_X7_areSigns : GoodIn wsX7_shows wsX7_areSigns := goodIn_r _ [33, 2, 3, 4, 24, 48, 49, 50, 51, 52, 53, 54, 55, 56, 57, 58, 59, 60, 61, 62, 63, 64, 65, 66, 67, 68, 69, 70, 71, 72, 73, 74, 75, 76, 77, 78, 79, 80, 81, 82, 83, 84, 85] (by decide +kernel) (by decide +kernel)
set_option maxRecDepth 20000 in
theorem gX7_shows_X7_areSigns : GoodIn wsX7_shows (wsV RX7 262 RX7 yX7_areSigns wsX7_areSigns) := goodIn_app (goodIn_of _ (by decide +kernel)) ggX7_shows_X7_areSigns
set_option maxRecDepth 20000 in
theorem ggX7_shows_X7_isLeftWell : GoodIn wsX7_shows wsX7_isLeftWell := goodIn_r _ [37, 38, 39, 2, 3, 29, 4, 40, 41, 42, 10, 43, 18, 19, 16, 6, 44, 45, 46, 47, 17, 48, 49, 50, 51, 52, 53, 54, 55, 56, 57, 58, 59, 60, 61, 62, 63, 64, 65, 66, 67, 68, 69, 70, 71, 72, 73, 74, 75, 76, 77, 78, 79, 80, 81, 82, 83, 84, 85] (by decide +kernel) (by decide +kernel)
set_option maxRecDepth 20000 in
theorem gX7_shows_X7_isLeftWell : GoodIn wsX7_shows (wsV RX7 265 RX7 yX7_isLeftWell wsX7_isLeftWell) := goodIn_app (goodIn_of _ (by decide +kernel)) ggX7_shows_X7_isLeftWell
set_option maxRecDepth 20000 in
theorem ggX7_shows_X7_sumOf : GoodIn wsX7_shows wsX7_sumOf := goodIn_r _ [28, 1, 29, 16, 48, 49, 50, 51, 52, 53, 54, 55, 56, 57, 58, 59, 60, 61, 62, 63, 64, 65, 66, 67, 68, 69, 70, 71, 72, 73, 74, 75, 76, 77, 78, 79, 80, 81, 82, 83, 84, 85] (by decide +kernel) (by decide +kernel)
set_option maxRecDepth 20000 in
theorem gX7_shows_X7_sumOf : GoodIn wsX7_shows (wsV RX7 243 RX7 yX7_sumOf wsX7_sumOf) := goodIn_app (goodIn_of _ (by decide +kernel)) ggX7_shows_X7_sumOf
theorem dX7_shows_0 : decode cX7_shows 0 = .ok (.aload_n 0, 1) := by decide +kernel
theorem dX7_shows_1 : decode cX7_shows 1 = .ok (.invokevirtual 259, 3) := by decide +kernel
theorem dX7_shows_4 : decode cX7_shows 4 = .ok (.ifCond .ne 5, 3) := by decide +kernel
theorem dX7_shows_7 : decode cX7_shows 7 = .ok (.iconst 1, 1) := by decide +kernel
theorem dX7_shows_8 : decode cX7_shows 8 = .ok (.ireturn, 1) := by decide +kernel
theorem dX7_shows_9 : decode cX7_shows 9 = .ok (.aload_n 0, 1) := by decide +kernel
theorem dX7_shows_10 : decode cX7_shows 10 = .ok (.invokevirtual 262, 3) := by decide +kernel
theorem dX7_shows_13 : decode cX7_shows 13 = .ok (.ifCond .ne 5, 3) := by decide +kernel
theorem dX7_shows_16 : decode cX7_shows 16 = .ok (.iconst 2, 1) := by decide +kernel
theorem dX7_shows_17 : decode cX7_shows 17 = .ok (.ireturn, 1) := by decide +kernel
theorem dX7_shows_18 : decode cX7_shows 18 = .ok (.iconst 0, 1) := by decide +kernel
theorem dX7_shows_19 : decode cX7_shows 19 = .ok (.istore_n 1, 1) := by decide +kernel
theorem dX7_shows_20 : decode cX7_shows 20 = .ok (.iload_n 1, 1) := by decide +kernel
theorem dX7_shows_21 : decode cX7_shows 21 = .ok (.aload_n 0, 1) := by decide +kernel
theorem dX7_shows_22 : decode cX7_shows 22 = .ok (.getfield 98, 3) := by decide +kernel
theorem dX7_shows_25 : decode cX7_shows 25 = .ok (.if_icmp .ge 19, 3) := by decide +kernel
theorem dX7_shows_28 : decode cX7_shows 28 = .ok (.aload_n 0, 1) := by decide +kernel
theorem dX7_shows_29 : decode cX7_shows 29 = .ok (.iload_n 1, 1) := by decide +kernel
theorem dX7_shows_30 : decode cX7_shows 30 = .ok (.invokevirtual 265, 3) := by decide +kernel
theorem dX7_shows_33 : decode cX7_shows 33 = .ok (.ifCond .ne 5, 3) := by decide +kernel
theorem dX7_shows_36 : decode cX7_shows 36 = .ok (.iconst 3, 1) := by decide +kernel
theorem dX7_shows_37 : decode cX7_shows 37 = .ok (.ireturn, 1) := by decide +kernel
theorem dX7_shows_38 : decode cX7_shows 38 = .ok (.iinc 1 1, 3) := by decide +kernel
theorem dX7_shows_41 : decode cX7_shows 41 = .ok (.goto (-21), 3) := by decide +kernel
theorem dX7_shows_44 : decode cX7_shows 44 = .ok (.iconst 0, 1) := by decide +kernel
theorem dX7_shows_45 : decode cX7_shows 45 = .ok (.istore_n 1, 1) := by decide +kernel
theorem dX7_shows_46 : decode cX7_shows 46 = .ok (.iload_n 1, 1) := by decide +kernel
theorem dX7_shows_47 : decode cX7_shows 47 = .ok (.aload_n 0, 1) := by decide +kernel
theorem dX7_shows_48 : decode cX7_shows 48 = .ok (.getfield 105, 3) := by decide +kernel
theorem dX7_shows_51 : decode cX7_shows 51 = .ok (.if_icmp .ge 52, 3) := by decide +kernel
theorem dX7_shows_54 : decode cX7_shows 54 = .ok (.aload_n 0, 1) := by decide +kernel
theorem dX7_shows_55 : decode cX7_shows 55 = .ok (.getfield 31, 3) := by decide +kernel
theorem dX7_shows_58 : decode cX7_shows 58 = .ok (.iload_n 1, 1) := by decide +kernel
theorem dX7_shows_59 : decode cX7_shows 59 = .ok (.baload, 1) := by decide +kernel
theorem dX7_shows_60 : decode cX7_shows 60 = .ok (.ifCond .eq 37, 3) := by decide +kernel
theorem dX7_shows_63 : decode cX7_shows 63 = .ok (.aload_n 0, 1) := by decide +kernel
theorem dX7_shows_64 : decode cX7_shows 64 = .ok (.getfield 56, 3) := by decide +kernel
theorem dX7_shows_67 : decode cX7_shows 67 = .ok (.iload_n 1, 1) := by decide +kernel
theorem dX7_shows_68 : decode cX7_shows 68 = .ok (.laload, 1) := by decide +kernel
theorem dX7_shows_69 : decode cX7_shows 69 = .ok (.lconst 0, 1) := by decide +kernel
theorem dX7_shows_70 : decode cX7_shows 70 = .ok (.lcmp, 1) := by decide +kernel
theorem dX7_shows_71 : decode cX7_shows 71 = .ok (.ifCond .eq 26, 3) := by decide +kernel
theorem dX7_shows_74 : decode cX7_shows 74 = .ok (.aload_n 0, 1) := by decide +kernel
theorem dX7_shows_75 : decode cX7_shows 75 = .ok (.iload_n 1, 1) := by decide +kernel
theorem dX7_shows_76 : decode cX7_shows 76 = .ok (.invokevirtual 243, 3) := by decide +kernel
theorem dX7_shows_79 : decode cX7_shows 79 = .ok (.aload_n 0, 1) := by decide +kernel
theorem dX7_shows_80 : decode cX7_shows 80 = .ok (.getfield 28, 3) := by decide +kernel
theorem dX7_shows_83 : decode cX7_shows 83 = .ok (.iload_n 1, 1) := by decide +kernel
theorem dX7_shows_84 : decode cX7_shows 84 = .ok (.iaload, 1) := by decide +kernel
theorem dX7_shows_85 : decode cX7_shows 85 = .ok (.i2l, 1) := by decide +kernel
theorem dX7_shows_86 : decode cX7_shows 86 = .ok (.aload_n 0, 1) := by decide +kernel
theorem dX7_shows_87 : decode cX7_shows 87 = .ok (.getfield 53, 3) := by decide +kernel
theorem dX7_shows_90 : decode cX7_shows 90 = .ok (.lmul, 1) := by decide +kernel
theorem dX7_shows_91 : decode cX7_shows 91 = .ok (.lcmp, 1) := by decide +kernel
theorem dX7_shows_92 : decode cX7_shows 92 = .ok (.ifCond .eq 5, 3) := by decide +kernel
theorem dX7_shows_95 : decode cX7_shows 95 = .ok (.iconst 4, 1) := by decide +kernel
theorem dX7_shows_96 : decode cX7_shows 96 = .ok (.ireturn, 1) := by decide +kernel
theorem dX7_shows_97 : decode cX7_shows 97 = .ok (.iinc 1 1, 3) := by decide +kernel
theorem dX7_shows_100 : decode cX7_shows 100 = .ok (.goto (-54), 3) := by decide +kernel
theorem dX7_shows_103 : decode cX7_shows 103 = .ok (.iconst 0, 1) := by decide +kernel
theorem dX7_shows_104 : decode cX7_shows 104 = .ok (.ireturn, 1) := by decide +kernel
set_option maxRecDepth 20000 in
theorem ggX7_sum_X7_isRow : GoodIn wsX7_sum wsX7_isRow := goodIn_r _ [7, 8, 9, 10, 6, 11, 25, 26, 27, 28, 29, 30, 31, 32, 33, 34, 35, 36, 37, 38, 39, 40, 41, 42, 43, 44, 45, 46, 47, 48, 49, 50, 51, 52, 53, 54, 55, 56, 57, 58, 59, 60, 61, 62] (by decide +kernel) (by decide +kernel)
set_option maxRecDepth 20000 in
theorem gX7_sum_X7_isRow : GoodIn wsX7_sum (wsV RX7 119 RX7 yX7_isRow wsX7_isRow) := goodIn_app (goodIn_of _ (by decide +kernel)) ggX7_sum_X7_isRow
set_option maxRecDepth 20000 in
theorem ggX7_sum_X7_isIn : GoodIn wsX7_sum wsX7_isIn := goodIn_r _ [11] (by decide +kernel) (by decide +kernel)
set_option maxRecDepth 20000 in
theorem gX7_sum_X7_isIn : GoodIn wsX7_sum (va_wsS RX7 101 yX7_isIn wsX7_isIn) := goodIn_app (goodIn_of _ (by decide +kernel)) ggX7_sum_X7_isIn
set_option maxRecDepth 20000 in
theorem ggX7_sum_X7_sumOf : GoodIn wsX7_sum wsX7_sumOf := goodIn_r _ [15, 16, 17, 18, 25, 26, 27, 28, 29, 30, 31, 32, 33, 34, 35, 36, 37, 38, 39, 40, 41, 42, 43, 44, 45, 46, 47, 48, 49, 50, 51, 52, 53, 54, 55, 56, 57, 58, 59, 60, 61, 62] (by decide +kernel) (by decide +kernel)
set_option maxRecDepth 20000 in
theorem gX7_sum_X7_sumOf : GoodIn wsX7_sum (wsV RX7 243 RX7 yX7_sumOf wsX7_sumOf) := goodIn_app (goodIn_of _ (by decide +kernel)) ggX7_sum_X7_sumOf
set_option maxRecDepth 20000 in
theorem ggX7_sum_X7_part : GoodIn wsX7_sum wsX7_part := goodIn_r _ [21, 22, 23, 6, 24] (by decide +kernel) (by decide +kernel)
set_option maxRecDepth 20000 in
theorem gX7_sum_X7_part : GoodIn wsX7_sum (va_wsS RX7 228 yX7_part wsX7_part) := goodIn_app (goodIn_of _ (by decide +kernel)) ggX7_sum_X7_part
theorem dX7_sum_0 : decode cX7_sum 0 = .ok (.aload_n 0, 1) := by decide +kernel
theorem dX7_sum_1 : decode cX7_sum 1 = .ok (.iload_n 1, 1) := by decide +kernel
theorem dX7_sum_2 : decode cX7_sum 2 = .ok (.invokevirtual 119, 3) := by decide +kernel
theorem dX7_sum_5 : decode cX7_sum 5 = .ok (.ifCond .eq 12, 3) := by decide +kernel
theorem dX7_sum_8 : decode cX7_sum 8 = .ok (.iload_n 2, 1) := by decide +kernel
theorem dX7_sum_9 : decode cX7_sum 9 = .ok (.iconst 0, 1) := by decide +kernel
theorem dX7_sum_10 : decode cX7_sum 10 = .ok (.iconst 1, 1) := by decide +kernel
theorem dX7_sum_11 : decode cX7_sum 11 = .ok (.invokestatic 101, 3) := by decide +kernel
theorem dX7_sum_14 : decode cX7_sum 14 = .ok (.ifCond .ne 7, 3) := by decide +kernel
theorem dX7_sum_17 : decode cX7_sum 17 = .ok (.ldc2_w 224, 3) := by decide +kernel
theorem dX7_sum_20 : decode cX7_sum 20 = .ok (.lreturn, 1) := by decide +kernel
theorem dX7_sum_21 : decode cX7_sum 21 = .ok (.aload_n 0, 1) := by decide +kernel
theorem dX7_sum_22 : decode cX7_sum 22 = .ok (.iload_n 1, 1) := by decide +kernel
theorem dX7_sum_23 : decode cX7_sum 23 = .ok (.invokevirtual 243, 3) := by decide +kernel
theorem dX7_sum_26 : decode cX7_sum 26 = .ok (.aload_n 0, 1) := by decide +kernel
theorem dX7_sum_27 : decode cX7_sum 27 = .ok (.getfield 53, 3) := by decide +kernel
theorem dX7_sum_30 : decode cX7_sum 30 = .ok (.iload_n 2, 1) := by decide +kernel
theorem dX7_sum_31 : decode cX7_sum 31 = .ok (.invokestatic 228, 3) := by decide +kernel
theorem dX7_sum_34 : decode cX7_sum 34 = .ok (.lreturn, 1) := by decide +kernel
theorem dX7_manyOfKind_0 : decode cX7_manyOfKind 0 = .ok (.iconst 0, 1) := by decide +kernel
theorem dX7_manyOfKind_1 : decode cX7_manyOfKind 1 = .ok (.istore_n 2, 1) := by decide +kernel
theorem dX7_manyOfKind_2 : decode cX7_manyOfKind 2 = .ok (.iconst 0, 1) := by decide +kernel
theorem dX7_manyOfKind_3 : decode cX7_manyOfKind 3 = .ok (.istore_n 3, 1) := by decide +kernel
theorem dX7_manyOfKind_4 : decode cX7_manyOfKind 4 = .ok (.iload_n 3, 1) := by decide +kernel
theorem dX7_manyOfKind_5 : decode cX7_manyOfKind 5 = .ok (.aload_n 0, 1) := by decide +kernel
theorem dX7_manyOfKind_6 : decode cX7_manyOfKind 6 = .ok (.getfield 98, 3) := by decide +kernel
theorem dX7_manyOfKind_9 : decode cX7_manyOfKind 9 = .ok (.if_icmp .ge 27, 3) := by decide +kernel
theorem dX7_manyOfKind_12 : decode cX7_manyOfKind 12 = .ok (.iload_n 2, 1) := by decide +kernel
theorem dX7_manyOfKind_13 : decode cX7_manyOfKind 13 = .ok (.aload_n 0, 1) := by decide +kernel
theorem dX7_manyOfKind_14 : decode cX7_manyOfKind 14 = .ok (.getfield 7, 3) := by decide +kernel
theorem dX7_manyOfKind_17 : decode cX7_manyOfKind 17 = .ok (.iload_n 3, 1) := by decide +kernel
theorem dX7_manyOfKind_18 : decode cX7_manyOfKind 18 = .ok (.iaload, 1) := by decide +kernel
theorem dX7_manyOfKind_19 : decode cX7_manyOfKind 19 = .ok (.iload_n 1, 1) := by decide +kernel
theorem dX7_manyOfKind_20 : decode cX7_manyOfKind 20 = .ok (.if_icmp .lt 7, 3) := by decide +kernel
theorem dX7_manyOfKind_23 : decode cX7_manyOfKind 23 = .ok (.iconst 1, 1) := by decide +kernel
theorem dX7_manyOfKind_24 : decode cX7_manyOfKind 24 = .ok (.goto 4, 3) := by decide +kernel
theorem dX7_manyOfKind_27 : decode cX7_manyOfKind 27 = .ok (.iconst 0, 1) := by decide +kernel
theorem dX7_manyOfKind_28 : decode cX7_manyOfKind 28 = .ok (.iadd, 1) := by decide +kernel
theorem dX7_manyOfKind_29 : decode cX7_manyOfKind 29 = .ok (.istore_n 2, 1) := by decide +kernel
theorem dX7_manyOfKind_30 : decode cX7_manyOfKind 30 = .ok (.iinc 3 1, 3) := by decide +kernel
theorem dX7_manyOfKind_33 : decode cX7_manyOfKind 33 = .ok (.goto (-29), 3) := by decide +kernel
theorem dX7_manyOfKind_36 : decode cX7_manyOfKind 36 = .ok (.iload_n 2, 1) := by decide +kernel
theorem dX7_manyOfKind_37 : decode cX7_manyOfKind 37 = .ok (.ireturn, 1) := by decide +kernel
set_option maxRecDepth 20000 in
theorem ggX7_count_X7_counting : GoodIn wsX7_count wsX7_counting := goodIn_r _ [9, 2, 10, 19, 20, 21, 22, 23, 24, 25, 26, 27, 28, 29, 30, 31, 32, 33, 34, 35, 36, 37, 38, 39, 40, 41, 42, 43, 44, 45, 46, 47, 48, 49, 50, 51, 52, 53, 54, 55, 56] (by decide +kernel) (by decide +kernel)
set_option maxRecDepth 20000 in
theorem gX7_count_X7_counting : GoodIn wsX7_count (wsV RX7 176 RX7 yX7_counting wsX7_counting) := goodIn_app (goodIn_of _ (by decide +kernel)) ggX7_count_X7_counting
set_option maxRecDepth 20000 in
theorem ggX7_count_X7_manyOf : GoodIn wsX7_count wsX7_manyOf := goodIn_r _ [13] (by decide +kernel) (by decide +kernel)
set_option maxRecDepth 20000 in
theorem gX7_count_X7_manyOf : GoodIn wsX7_count (va_wsS RX7 235 yX7_manyOf wsX7_manyOf) := goodIn_app (goodIn_of _ (by decide +kernel)) ggX7_count_X7_manyOf
set_option maxRecDepth 20000 in
theorem ggX7_count_X7_manyOfKind : GoodIn wsX7_count wsX7_manyOfKind := goodIn_r _ [17, 1, 18, 19, 20, 21, 22, 23, 24, 25, 26, 27, 28, 29, 30, 31, 32, 33, 34, 35, 36, 37, 38, 39, 40, 41, 42, 43, 44, 45, 46, 47, 48, 49, 50, 51, 52, 53, 54, 55, 56] (by decide +kernel) (by decide +kernel)
set_option maxRecDepth 20000 in
theorem gX7_count_X7_manyOfKind : GoodIn wsX7_count (wsV RX7 268 RX7 yX7_manyOfKind wsX7_manyOfKind) := goodIn_app (goodIn_of _ (by decide +kernel)) ggX7_count_X7_manyOfKind
theorem dX7_count_0 : decode cX7_count 0 = .ok (.iload_n 1, 1) := by decide +kernel
theorem dX7_count_1 : decode cX7_count 1 = .ok (.tableswitch 74 0 5 #[39, 44, 49, 57, 63, 69], 39) := by decide +kernel
theorem dX7_count_40 : decode cX7_count 40 = .ok (.aload_n 0, 1) := by decide +kernel
theorem dX7_count_41 : decode cX7_count 41 = .ok (.getfield 98, 3) := by decide +kernel
theorem dX7_count_44 : decode cX7_count 44 = .ok (.ireturn, 1) := by decide +kernel
theorem dX7_count_45 : decode cX7_count 45 = .ok (.aload_n 0, 1) := by decide +kernel
theorem dX7_count_46 : decode cX7_count 46 = .ok (.getfield 105, 3) := by decide +kernel
theorem dX7_count_49 : decode cX7_count 49 = .ok (.ireturn, 1) := by decide +kernel
theorem dX7_count_50 : decode cX7_count 50 = .ok (.aload_n 0, 1) := by decide +kernel
theorem dX7_count_51 : decode cX7_count 51 = .ok (.invokevirtual 176, 3) := by decide +kernel
theorem dX7_count_54 : decode cX7_count 54 = .ok (.invokestatic 235, 3) := by decide +kernel
theorem dX7_count_57 : decode cX7_count 57 = .ok (.ireturn, 1) := by decide +kernel
theorem dX7_count_58 : decode cX7_count 58 = .ok (.aload_n 0, 1) := by decide +kernel
theorem dX7_count_59 : decode cX7_count 59 = .ok (.iconst 1, 1) := by decide +kernel
theorem dX7_count_60 : decode cX7_count 60 = .ok (.invokevirtual 268, 3) := by decide +kernel
theorem dX7_count_63 : decode cX7_count 63 = .ok (.ireturn, 1) := by decide +kernel
theorem dX7_count_64 : decode cX7_count 64 = .ok (.aload_n 0, 1) := by decide +kernel
theorem dX7_count_65 : decode cX7_count 65 = .ok (.iconst 2, 1) := by decide +kernel
theorem dX7_count_66 : decode cX7_count 66 = .ok (.invokevirtual 268, 3) := by decide +kernel
theorem dX7_count_69 : decode cX7_count 69 = .ok (.ireturn, 1) := by decide +kernel
theorem dX7_count_70 : decode cX7_count 70 = .ok (.aload_n 0, 1) := by decide +kernel
theorem dX7_count_71 : decode cX7_count 71 = .ok (.getfield 210, 3) := by decide +kernel
theorem dX7_count_74 : decode cX7_count 74 = .ok (.ireturn, 1) := by decide +kernel
theorem dX7_count_75 : decode cX7_count 75 = .ok (.ldc 112, 2) := by decide +kernel
theorem dX7_count_77 : decode cX7_count 77 = .ok (.ireturn, 1) := by decide +kernel
