set_option maxRecDepth 20000 in
theorem ggX6_init_X2_init : GoodIn wsX6_init wsX2_init := goodIn_r _ [26, 27, 2, 3, 28, 29, 30, 31, 32, 33, 34, 35, 36, 37, 38, 39, 85, 86, 87, 88, 89, 90, 91, 92, 93, 94, 95] (by decide +kernel) (by decide +kernel)
set_option maxRecDepth 20000 in
theorem gX6_init_X2_init_n9 : GoodIn wsX6_init (wsX2_init) := ggX6_init_X2_init
set_option maxRecDepth 20000 in
theorem ggX6_init_X0_init : GoodIn wsX6_init wsX0_init := goodIn_r _ [41, 42, 2, 3, 43, 44, 45, 46, 47, 102, 103, 104, 105] (by decide +kernel) (by decide +kernel)
set_option maxRecDepth 20000 in
theorem gX6_init_X0_init_n18 : GoodIn wsX6_init (wsX0_init) := ggX6_init_X0_init
set_option maxRecDepth 20000 in
theorem ggX6_init_X4_init : GoodIn wsX6_init wsX4_init := goodIn_r _ [49, 50, 2, 3, 51, 52, 28, 53, 54, 106, 107, 108] (by decide +kernel) (by decide +kernel)
set_option maxRecDepth 20000 in
theorem gX6_init_X4_init_n25 : GoodIn wsX6_init (wsX4_init) := ggX6_init_X4_init
set_option maxRecDepth 20000 in
theorem ggX6_init_X3_init : GoodIn wsX6_init wsX3_init := goodIn_r _ [56, 57, 2, 3, 58, 59, 60, 61, 43, 62, 63, 64, 65, 66, 67, 68, 28, 69, 70, 71, 72, 73, 74, 75, 76, 77, 116, 117, 118, 119, 120, 121, 122, 123, 124, 125, 109, 110, 111] (by decide +kernel) (by decide +kernel)
set_option maxRecDepth 20000 in
theorem gX6_init_X3_init_n32 : GoodIn wsX6_init (wsX3_init) := ggX6_init_X3_init
set_option maxRecDepth 20000 in
theorem ggX6_init_X1_init : GoodIn wsX6_init wsX1_init := goodIn_r _ [79, 80, 2, 3, 43, 81, 28, 82, 83, 84, 112, 113, 114, 115] (by decide +kernel) (by decide +kernel)
set_option maxRecDepth 20000 in
theorem gX6_init_X1_init_n39 : GoodIn wsX6_init (wsX1_init) := ggX6_init_X1_init
theorem dX6_init_0 : decode cX6_init 0 = .ok (.aload_n 0, 1) := by decide +kernel
theorem dX6_init_1 : decode cX6_init 1 = .ok (.invokespecial 1, 3) := by decide +kernel
theorem dX6_init_4 : decode cX6_init 4 = .ok (.aload_n 0, 1) := by decide +kernel
theorem dX6_init_5 : decode cX6_init 5 = .ok (.new 7, 3) := by decide +kernel
theorem dX6_init_8 : decode cX6_init 8 = .ok (.dup, 1) := by decide +kernel
theorem dX6_init_9 : decode cX6_init 9 = .ok (.invokespecial 9, 3) := by decide +kernel
theorem dX6_init_12 : decode cX6_init 12 = .ok (.putfield 10, 3) := by decide +kernel
theorem dX6_init_15 : decode cX6_init 15 = .ok (.aload_n 0, 1) := by decide +kernel
theorem dX6_init_16 : decode cX6_init 16 = .ok (.new 16, 3) := by decide +kernel
theorem dX6_init_19 : decode cX6_init 19 = .ok (.dup, 1) := by decide +kernel
theorem dX6_init_20 : decode cX6_init 20 = .ok (.invokespecial 18, 3) := by decide +kernel
theorem dX6_init_23 : decode cX6_init 23 = .ok (.putfield 19, 3) := by decide +kernel
theorem dX6_init_26 : decode cX6_init 26 = .ok (.aload_n 0, 1) := by decide +kernel
theorem dX6_init_27 : decode cX6_init 27 = .ok (.new 23, 3) := by decide +kernel
theorem dX6_init_30 : decode cX6_init 30 = .ok (.dup, 1) := by decide +kernel
theorem dX6_init_31 : decode cX6_init 31 = .ok (.invokespecial 25, 3) := by decide +kernel
theorem dX6_init_34 : decode cX6_init 34 = .ok (.putfield 26, 3) := by decide +kernel
theorem dX6_init_37 : decode cX6_init 37 = .ok (.aload_n 0, 1) := by decide +kernel
theorem dX6_init_38 : decode cX6_init 38 = .ok (.new 30, 3) := by decide +kernel
theorem dX6_init_41 : decode cX6_init 41 = .ok (.dup, 1) := by decide +kernel
theorem dX6_init_42 : decode cX6_init 42 = .ok (.invokespecial 32, 3) := by decide +kernel
theorem dX6_init_45 : decode cX6_init 45 = .ok (.putfield 33, 3) := by decide +kernel
theorem dX6_init_48 : decode cX6_init 48 = .ok (.aload_n 0, 1) := by decide +kernel
theorem dX6_init_49 : decode cX6_init 49 = .ok (.new 37, 3) := by decide +kernel
theorem dX6_init_52 : decode cX6_init 52 = .ok (.dup, 1) := by decide +kernel
theorem dX6_init_53 : decode cX6_init 53 = .ok (.invokespecial 39, 3) := by decide +kernel
theorem dX6_init_56 : decode cX6_init 56 = .ok (.putfield 40, 3) := by decide +kernel
theorem dX6_init_59 : decode cX6_init 59 = .ok (.aload_n 0, 1) := by decide +kernel
theorem dX6_init_60 : decode cX6_init 60 = .ok (.iconst 0, 1) := by decide +kernel
theorem dX6_init_61 : decode cX6_init 61 = .ok (.putfield 44, 3) := by decide +kernel
theorem dX6_init_64 : decode cX6_init 64 = .ok (.return_, 1) := by decide +kernel
set_option maxRecDepth 20000 in
theorem ggX6_column_X6_isKind : GoodIn wsX6_column wsX6_isKind := goodIn_r _ [6] (by decide +kernel) (by decide +kernel)
set_option maxRecDepth 20000 in
theorem gX6_column_X6_isKind : GoodIn wsX6_column (va_wsS RX6 48 yX6_isKind wsX6_isKind) := goodIn_app (goodIn_of _ (by decide +kernel)) ggX6_column_X6_isKind
set_option maxRecDepth 20000 in
theorem ggX6_column_X2_fits : GoodIn wsX6_column wsX2_fits := goodIn_r _ [10, 11, 12, 5, 13] (by decide +kernel) (by decide +kernel)
set_option maxRecDepth 20000 in
theorem gX6_column_X2_fits : GoodIn wsX6_column (va_wsS RX6 52 yX2_fits wsX2_fits) := goodIn_app (goodIn_of _ (by decide +kernel)) ggX6_column_X2_fits
set_option maxRecDepth 20000 in
theorem ggX6_column_X2_addColumn : GoodIn wsX6_column wsX2_addColumn := goodIn_r _ [17, 18, 19, 20, 21, 22, 23, 11, 30, 31, 32, 33, 34, 35, 36, 37, 38, 39, 40] (by decide +kernel) (by decide +kernel)
set_option maxRecDepth 20000 in
theorem gX6_column_X2_addColumn : GoodIn wsX6_column (wsV RX6 57 RX2 yX2_addColumn wsX2_addColumn) := goodIn_app (goodIn_of _ (by decide +kernel)) ggX6_column_X2_addColumn
theorem dX6_column_0 : decode cX6_column 0 = .ok (.iload_n 1, 1) := by decide +kernel
theorem dX6_column_1 : decode cX6_column 1 = .ok (.invokestatic 48, 3) := by decide +kernel
theorem dX6_column_4 : decode cX6_column 4 = .ok (.ifCond .eq 12, 3) := by decide +kernel
theorem dX6_column_7 : decode cX6_column 7 = .ok (.iload_n 1, 1) := by decide +kernel
theorem dX6_column_8 : decode cX6_column 8 = .ok (.iload_n 2, 1) := by decide +kernel
theorem dX6_column_9 : decode cX6_column 9 = .ok (.iload_n 3, 1) := by decide +kernel
theorem dX6_column_10 : decode cX6_column 10 = .ok (.invokestatic 52, 3) := by decide +kernel
theorem dX6_column_13 : decode cX6_column 13 = .ok (.ifCond .ne 6, 3) := by decide +kernel
theorem dX6_column_16 : decode cX6_column 16 = .ok (.ldc 56, 2) := by decide +kernel
theorem dX6_column_18 : decode cX6_column 18 = .ok (.ireturn, 1) := by decide +kernel
theorem dX6_column_19 : decode cX6_column 19 = .ok (.aload_n 0, 1) := by decide +kernel
theorem dX6_column_20 : decode cX6_column 20 = .ok (.getfield 10, 3) := by decide +kernel
theorem dX6_column_23 : decode cX6_column 23 = .ok (.iload_n 1, 1) := by decide +kernel
theorem dX6_column_24 : decode cX6_column 24 = .ok (.iload_n 2, 1) := by decide +kernel
theorem dX6_column_25 : decode cX6_column 25 = .ok (.iload_n 3, 1) := by decide +kernel
theorem dX6_column_26 : decode cX6_column 26 = .ok (.invokevirtual 57, 3) := by decide +kernel
theorem dX6_column_29 : decode cX6_column 29 = .ok (.ireturn, 1) := by decide +kernel
set_option maxRecDepth 20000 in
theorem ggX6_bound_X2_hasColumn : GoodIn wsX6_bound wsX2_hasColumn := goodIn_r _ [11, 12, 31, 32, 33, 34, 35, 36, 37, 38, 39, 40, 41] (by decide +kernel) (by decide +kernel)
set_option maxRecDepth 20000 in
theorem gX6_bound_X2_hasColumn : GoodIn wsX6_bound (wsV RX6 61 RX2 yX2_hasColumn wsX2_hasColumn) := goodIn_app (goodIn_of _ (by decide +kernel)) ggX6_bound_X2_hasColumn
set_option maxRecDepth 20000 in
theorem ggX6_bound_X2_isSwitch : GoodIn wsX6_bound wsX2_isSwitch := goodIn_r _ [16, 17, 31, 32, 33, 34, 35, 36, 37, 38, 39, 40, 41] (by decide +kernel) (by decide +kernel)
set_option maxRecDepth 20000 in
theorem gX6_bound_X2_isSwitch : GoodIn wsX6_bound (wsV RX6 64 RX2 yX2_isSwitch wsX2_isSwitch) := goodIn_app (goodIn_of _ (by decide +kernel)) ggX6_bound_X2_isSwitch
set_option maxRecDepth 20000 in
theorem ggX6_bound_X2_fits : GoodIn wsX6_bound wsX2_fits := goodIn_r _ [20, 21, 22, 23, 24] (by decide +kernel) (by decide +kernel)
set_option maxRecDepth 20000 in
theorem gX6_bound_X2_fits : GoodIn wsX6_bound (va_wsS RX6 52 yX2_fits wsX2_fits) := goodIn_app (goodIn_of _ (by decide +kernel)) ggX6_bound_X2_fits
theorem dX6_bound_0 : decode cX6_bound 0 = .ok (.aload_n 0, 1) := by decide +kernel
theorem dX6_bound_1 : decode cX6_bound 1 = .ok (.getfield 10, 3) := by decide +kernel
theorem dX6_bound_4 : decode cX6_bound 4 = .ok (.iload_n 1, 1) := by decide +kernel
theorem dX6_bound_5 : decode cX6_bound 5 = .ok (.invokevirtual 61, 3) := by decide +kernel
theorem dX6_bound_8 : decode cX6_bound 8 = .ok (.ifCond .ne 6, 3) := by decide +kernel
theorem dX6_bound_11 : decode cX6_bound 11 = .ok (.ldc 56, 2) := by decide +kernel
theorem dX6_bound_13 : decode cX6_bound 13 = .ok (.ireturn, 1) := by decide +kernel
theorem dX6_bound_14 : decode cX6_bound 14 = .ok (.aload_n 0, 1) := by decide +kernel
theorem dX6_bound_15 : decode cX6_bound 15 = .ok (.getfield 10, 3) := by decide +kernel
theorem dX6_bound_18 : decode cX6_bound 18 = .ok (.iload_n 1, 1) := by decide +kernel
theorem dX6_bound_19 : decode cX6_bound 19 = .ok (.invokevirtual 64, 3) := by decide +kernel
theorem dX6_bound_22 : decode cX6_bound 22 = .ok (.ifCond .eq 6, 3) := by decide +kernel
theorem dX6_bound_25 : decode cX6_bound 25 = .ok (.ldc 67, 2) := by decide +kernel
theorem dX6_bound_27 : decode cX6_bound 27 = .ok (.ireturn, 1) := by decide +kernel
theorem dX6_bound_28 : decode cX6_bound 28 = .ok (.aload_n 0, 1) := by decide +kernel
theorem dX6_bound_29 : decode cX6_bound 29 = .ok (.getfield 10, 3) := by decide +kernel
theorem dX6_bound_32 : decode cX6_bound 32 = .ok (.getfield 68, 3) := by decide +kernel
theorem dX6_bound_35 : decode cX6_bound 35 = .ok (.iload_n 1, 1) := by decide +kernel
theorem dX6_bound_36 : decode cX6_bound 36 = .ok (.iaload, 1) := by decide +kernel
theorem dX6_bound_37 : decode cX6_bound 37 = .ok (.iload_n 2, 1) := by decide +kernel
theorem dX6_bound_38 : decode cX6_bound 38 = .ok (.iload_n 3, 1) := by decide +kernel
theorem dX6_bound_39 : decode cX6_bound 39 = .ok (.invokestatic 52, 3) := by decide +kernel
theorem dX6_bound_42 : decode cX6_bound 42 = .ok (.ifCond .ne 6, 3) := by decide +kernel
theorem dX6_bound_45 : decode cX6_bound 45 = .ok (.ldc 56, 2) := by decide +kernel
theorem dX6_bound_47 : decode cX6_bound 47 = .ok (.ireturn, 1) := by decide +kernel
theorem dX6_bound_48 : decode cX6_bound 48 = .ok (.aload_n 0, 1) := by decide +kernel
theorem dX6_bound_49 : decode cX6_bound 49 = .ok (.getfield 10, 3) := by decide +kernel
theorem dX6_bound_52 : decode cX6_bound 52 = .ok (.getfield 72, 3) := by decide +kernel
theorem dX6_bound_55 : decode cX6_bound 55 = .ok (.iload_n 1, 1) := by decide +kernel
theorem dX6_bound_56 : decode cX6_bound 56 = .ok (.iload_n 2, 1) := by decide +kernel
theorem dX6_bound_57 : decode cX6_bound 57 = .ok (.iastore, 1) := by decide +kernel
theorem dX6_bound_58 : decode cX6_bound 58 = .ok (.aload_n 0, 1) := by decide +kernel
theorem dX6_bound_59 : decode cX6_bound 59 = .ok (.getfield 10, 3) := by decide +kernel
theorem dX6_bound_62 : decode cX6_bound 62 = .ok (.getfield 75, 3) := by decide +kernel
theorem dX6_bound_65 : decode cX6_bound 65 = .ok (.iload_n 1, 1) := by decide +kernel
theorem dX6_bound_66 : decode cX6_bound 66 = .ok (.iload_n 3, 1) := by decide +kernel
theorem dX6_bound_67 : decode cX6_bound 67 = .ok (.iastore, 1) := by decide +kernel
theorem dX6_bound_68 : decode cX6_bound 68 = .ok (.iconst 0, 1) := by decide +kernel
theorem dX6_bound_69 : decode cX6_bound 69 = .ok (.ireturn, 1) := by decide +kernel
set_option maxRecDepth 20000 in
theorem ggX6_partner_X2_hasColumn : GoodIn wsX6_partner wsX2_hasColumn := goodIn_r _ [10, 11, 23, 24, 25, 26, 27, 28, 29, 30, 31, 32, 33] (by decide +kernel) (by decide +kernel)
set_option maxRecDepth 20000 in
theorem gX6_partner_X2_hasColumn : GoodIn wsX6_partner (wsV RX6 61 RX2 yX2_hasColumn wsX2_hasColumn) := goodIn_app (goodIn_of _ (by decide +kernel)) ggX6_partner_X2_hasColumn
set_option maxRecDepth 20000 in
theorem ggX6_partner_X2_isSwitch : GoodIn wsX6_partner wsX2_isSwitch := goodIn_r _ [15, 16, 23, 24, 25, 26, 27, 28, 29, 30, 31, 32, 33] (by decide +kernel) (by decide +kernel)
set_option maxRecDepth 20000 in
theorem gX6_partner_X2_isSwitch : GoodIn wsX6_partner (wsV RX6 64 RX2 yX2_isSwitch wsX2_isSwitch) := goodIn_app (goodIn_of _ (by decide +kernel)) ggX6_partner_X2_isSwitch
theorem dX6_partner_0 : decode cX6_partner 0 = .ok (.aload_n 0, 1) := by decide +kernel
theorem dX6_partner_1 : decode cX6_partner 1 = .ok (.getfield 10, 3) := by decide +kernel
theorem dX6_partner_4 : decode cX6_partner 4 = .ok (.iload_n 1, 1) := by decide +kernel
theorem dX6_partner_5 : decode cX6_partner 5 = .ok (.invokevirtual 61, 3) := by decide +kernel
theorem dX6_partner_8 : decode cX6_partner 8 = .ok (.ifCond .eq 8, 3) := by decide +kernel
theorem dX6_partner_11 : decode cX6_partner 11 = .ok (.iload_n 2, 1) := by decide +kernel
theorem dX6_partner_12 : decode cX6_partner 12 = .ok (.iload_n 1, 1) := by decide +kernel
theorem dX6_partner_13 : decode cX6_partner 13 = .ok (.if_icmp .ne 6, 3) := by decide +kernel
theorem dX6_partner_16 : decode cX6_partner 16 = .ok (.ldc 56, 2) := by decide +kernel
theorem dX6_partner_18 : decode cX6_partner 18 = .ok (.ireturn, 1) := by decide +kernel
theorem dX6_partner_19 : decode cX6_partner 19 = .ok (.iload_n 2, 1) := by decide +kernel
theorem dX6_partner_20 : decode cX6_partner 20 = .ok (.ldc 78, 2) := by decide +kernel
theorem dX6_partner_22 : decode cX6_partner 22 = .ok (.if_icmp .eq 17, 3) := by decide +kernel
theorem dX6_partner_25 : decode cX6_partner 25 = .ok (.aload_n 0, 1) := by decide +kernel
theorem dX6_partner_26 : decode cX6_partner 26 = .ok (.getfield 10, 3) := by decide +kernel
theorem dX6_partner_29 : decode cX6_partner 29 = .ok (.iload_n 2, 1) := by decide +kernel
theorem dX6_partner_30 : decode cX6_partner 30 = .ok (.invokevirtual 61, 3) := by decide +kernel
theorem dX6_partner_33 : decode cX6_partner 33 = .ok (.ifCond .ne 6, 3) := by decide +kernel
theorem dX6_partner_36 : decode cX6_partner 36 = .ok (.ldc 56, 2) := by decide +kernel
theorem dX6_partner_38 : decode cX6_partner 38 = .ok (.ireturn, 1) := by decide +kernel
theorem dX6_partner_39 : decode cX6_partner 39 = .ok (.aload_n 0, 1) := by decide +kernel
theorem dX6_partner_40 : decode cX6_partner 40 = .ok (.getfield 10, 3) := by decide +kernel
theorem dX6_partner_43 : decode cX6_partner 43 = .ok (.iload_n 1, 1) := by decide +kernel
theorem dX6_partner_44 : decode cX6_partner 44 = .ok (.invokevirtual 64, 3) := by decide +kernel
theorem dX6_partner_47 : decode cX6_partner 47 = .ok (.ifCond .ne 6, 3) := by decide +kernel
theorem dX6_partner_50 : decode cX6_partner 50 = .ok (.ldc 67, 2) := by decide +kernel
theorem dX6_partner_52 : decode cX6_partner 52 = .ok (.ireturn, 1) := by decide +kernel
theorem dX6_partner_53 : decode cX6_partner 53 = .ok (.aload_n 0, 1) := by decide +kernel
theorem dX6_partner_54 : decode cX6_partner 54 = .ok (.getfield 10, 3) := by decide +kernel
theorem dX6_partner_57 : decode cX6_partner 57 = .ok (.getfield 79, 3) := by decide +kernel
theorem dX6_partner_60 : decode cX6_partner 60 = .ok (.iload_n 1, 1) := by decide +kernel
theorem dX6_partner_61 : decode cX6_partner 61 = .ok (.iaload, 1) := by decide +kernel
theorem dX6_partner_62 : decode cX6_partner 62 = .ok (.istore_n 3, 1) := by decide +kernel
theorem dX6_partner_63 : decode cX6_partner 63 = .ok (.aload_n 0, 1) := by decide +kernel
theorem dX6_partner_64 : decode cX6_partner 64 = .ok (.getfield 10, 3) := by decide +kernel
theorem dX6_partner_67 : decode cX6_partner 67 = .ok (.getfield 79, 3) := by decide +kernel
theorem dX6_partner_70 : decode cX6_partner 70 = .ok (.iload_n 1, 1) := by decide +kernel
theorem dX6_partner_71 : decode cX6_partner 71 = .ok (.iload_n 2, 1) := by decide +kernel
theorem dX6_partner_72 : decode cX6_partner 72 = .ok (.iastore, 1) := by decide +kernel
theorem dX6_partner_73 : decode cX6_partner 73 = .ok (.iload_n 3, 1) := by decide +kernel
theorem dX6_partner_74 : decode cX6_partner 74 = .ok (.ireturn, 1) := by decide +kernel
set_option maxRecDepth 20000 in
theorem ggX6_cost_X2_hasColumn : GoodIn wsX6_cost wsX2_hasColumn := goodIn_r _ [8, 9, 20, 21, 22, 23, 24, 25, 26, 27, 28, 29, 30] (by decide +kernel) (by decide +kernel)
set_option maxRecDepth 20000 in
theorem gX6_cost_X2_hasColumn : GoodIn wsX6_cost (wsV RX6 61 RX2 yX2_hasColumn wsX2_hasColumn) := goodIn_app (goodIn_of _ (by decide +kernel)) ggX6_cost_X2_hasColumn
set_option maxRecDepth 20000 in
theorem ggX6_cost_X6_isWithin : GoodIn wsX6_cost wsX6_isWithin := goodIn_r _ [13] (by decide +kernel) (by decide +kernel)
set_option maxRecDepth 20000 in
theorem gX6_cost_X6_isWithin : GoodIn wsX6_cost (va_wsS RX6 82 yX6_isWithin wsX6_isWithin) := goodIn_app (goodIn_of _ (by decide +kernel)) ggX6_cost_X6_isWithin
theorem dX6_cost_0 : decode cX6_cost 0 = .ok (.aload_n 0, 1) := by decide +kernel
theorem dX6_cost_1 : decode cX6_cost 1 = .ok (.getfield 10, 3) := by decide +kernel
theorem dX6_cost_4 : decode cX6_cost 4 = .ok (.iload_n 1, 1) := by decide +kernel
theorem dX6_cost_5 : decode cX6_cost 5 = .ok (.invokevirtual 61, 3) := by decide +kernel
theorem dX6_cost_8 : decode cX6_cost 8 = .ok (.ifCond .eq 12, 3) := by decide +kernel
theorem dX6_cost_11 : decode cX6_cost 11 = .ok (.iload_n 2, 1) := by decide +kernel
theorem dX6_cost_12 : decode cX6_cost 12 = .ok (.bipush 9, 2) := by decide +kernel
theorem dX6_cost_14 : decode cX6_cost 14 = .ok (.invokestatic 82, 3) := by decide +kernel
theorem dX6_cost_17 : decode cX6_cost 17 = .ok (.ifCond .ne 6, 3) := by decide +kernel
theorem dX6_cost_20 : decode cX6_cost 20 = .ok (.ldc 56, 2) := by decide +kernel
theorem dX6_cost_22 : decode cX6_cost 22 = .ok (.ireturn, 1) := by decide +kernel
theorem dX6_cost_23 : decode cX6_cost 23 = .ok (.aload_n 0, 1) := by decide +kernel
theorem dX6_cost_24 : decode cX6_cost 24 = .ok (.getfield 10, 3) := by decide +kernel
theorem dX6_cost_27 : decode cX6_cost 27 = .ok (.getfield 86, 3) := by decide +kernel
theorem dX6_cost_30 : decode cX6_cost 30 = .ok (.iload_n 1, 1) := by decide +kernel
theorem dX6_cost_31 : decode cX6_cost 31 = .ok (.iaload, 1) := by decide +kernel
theorem dX6_cost_32 : decode cX6_cost 32 = .ok (.istore_n 3, 1) := by decide +kernel
theorem dX6_cost_33 : decode cX6_cost 33 = .ok (.aload_n 0, 1) := by decide +kernel
theorem dX6_cost_34 : decode cX6_cost 34 = .ok (.getfield 10, 3) := by decide +kernel
theorem dX6_cost_37 : decode cX6_cost 37 = .ok (.getfield 86, 3) := by decide +kernel
theorem dX6_cost_40 : decode cX6_cost 40 = .ok (.iload_n 1, 1) := by decide +kernel
theorem dX6_cost_41 : decode cX6_cost 41 = .ok (.iload_n 2, 1) := by decide +kernel
theorem dX6_cost_42 : decode cX6_cost 42 = .ok (.iastore, 1) := by decide +kernel
theorem dX6_cost_43 : decode cX6_cost 43 = .ok (.iload_n 3, 1) := by decide +kernel
theorem dX6_cost_44 : decode cX6_cost 44 = .ok (.ireturn, 1) := by decide +kernel
set_option maxRecDepth 20000 in
theorem ggX6_row_X6_isWithin : GoodIn wsX6_row wsX6_isWithin := goodIn_r _ [6] (by decide +kernel) (by decide +kernel)
set_option maxRecDepth 20000 in
theorem gX6_row_X6_isWithin : GoodIn wsX6_row (va_wsS RX6 82 yX6_isWithin wsX6_isWithin) := goodIn_app (goodIn_of _ (by decide +kernel)) ggX6_row_X6_isWithin
set_option maxRecDepth 20000 in
theorem ggX6_row_X2_addRow : GoodIn wsX6_row wsX2_addRow := goodIn_r _ [11, 12, 13, 14, 15, 16, 23, 24, 25, 26, 27, 28, 29, 30, 31, 32, 33] (by decide +kernel) (by decide +kernel)
set_option maxRecDepth 20000 in
theorem gX6_row_X2_addRow : GoodIn wsX6_row (wsV RX6 89 RX2 yX2_addRow wsX2_addRow) := goodIn_app (goodIn_of _ (by decide +kernel)) ggX6_row_X2_addRow
theorem dX6_row_0 : decode cX6_row 0 = .ok (.iload_n 1, 1) := by decide +kernel
theorem dX6_row_1 : decode cX6_row 1 = .ok (.ifCond .lt 17, 3) := by decide +kernel
theorem dX6_row_4 : decode cX6_row 4 = .ok (.iload_n 1, 1) := by decide +kernel
theorem dX6_row_5 : decode cX6_row 5 = .ok (.iconst 2, 1) := by decide +kernel
theorem dX6_row_6 : decode cX6_row 6 = .ok (.if_icmp .gt 12, 3) := by decide +kernel
theorem dX6_row_9 : decode cX6_row 9 = .ok (.iload_n 2, 1) := by decide +kernel
theorem dX6_row_10 : decode cX6_row 10 = .ok (.bipush 99, 2) := by decide +kernel
theorem dX6_row_12 : decode cX6_row 12 = .ok (.invokestatic 82, 3) := by decide +kernel
theorem dX6_row_15 : decode cX6_row 15 = .ok (.ifCond .ne 6, 3) := by decide +kernel
theorem dX6_row_18 : decode cX6_row 18 = .ok (.ldc 56, 2) := by decide +kernel
theorem dX6_row_20 : decode cX6_row 20 = .ok (.ireturn, 1) := by decide +kernel
theorem dX6_row_21 : decode cX6_row 21 = .ok (.aload_n 0, 1) := by decide +kernel
theorem dX6_row_22 : decode cX6_row 22 = .ok (.getfield 10, 3) := by decide +kernel
theorem dX6_row_25 : decode cX6_row 25 = .ok (.iload_n 1, 1) := by decide +kernel
theorem dX6_row_26 : decode cX6_row 26 = .ok (.iload_n 2, 1) := by decide +kernel
theorem dX6_row_27 : decode cX6_row 27 = .ok (.invokevirtual 89, 3) := by decide +kernel
theorem dX6_row_30 : decode cX6_row 30 = .ok (.ireturn, 1) := by decide +kernel
set_option maxRecDepth 20000 in
theorem ggX6_share_X2_hasRow : GoodIn wsX6_share wsX2_hasRow := goodIn_r _ [8, 9, 30, 31, 32, 33, 34, 35, 36, 37, 38, 39, 40] (by decide +kernel) (by decide +kernel)
set_option maxRecDepth 20000 in
theorem gX6_share_X2_hasRow : GoodIn wsX6_share (wsV RX6 93 RX2 yX2_hasRow wsX2_hasRow) := goodIn_app (goodIn_of _ (by decide +kernel)) ggX6_share_X2_hasRow
set_option maxRecDepth 20000 in
theorem ggX6_share_X2_hasColumn : GoodIn wsX6_share wsX2_hasColumn := goodIn_r _ [13, 14, 30, 31, 32, 33, 34, 35, 36, 37, 38, 39, 40] (by decide +kernel) (by decide +kernel)
set_option maxRecDepth 20000 in
theorem gX6_share_X2_hasColumn : GoodIn wsX6_share (wsV RX6 61 RX2 yX2_hasColumn wsX2_hasColumn) := goodIn_app (goodIn_of _ (by decide +kernel)) ggX6_share_X2_hasColumn
set_option maxRecDepth 20000 in
theorem ggX6_share_X6_isWithin : GoodIn wsX6_share wsX6_isWithin := goodIn_r _ [18] (by decide +kernel) (by decide +kernel)
set_option maxRecDepth 20000 in
theorem gX6_share_X6_isWithin : GoodIn wsX6_share (va_wsS RX6 82 yX6_isWithin wsX6_isWithin) := goodIn_app (goodIn_of _ (by decide +kernel)) ggX6_share_X6_isWithin
set_option maxRecDepth 20000 in
theorem ggX6_share_X2_shareOf : GoodIn wsX6_share wsX2_shareOf := goodIn_r _ [22, 23, 30, 31, 32, 33, 34, 35, 36, 37, 38, 39, 40] (by decide +kernel) (by decide +kernel)
set_option maxRecDepth 20000 in
theorem gX6_share_X2_shareOf : GoodIn wsX6_share (wsV RX6 96 RX2 yX2_shareOf wsX2_shareOf) := goodIn_app (goodIn_of _ (by decide +kernel)) ggX6_share_X2_shareOf
theorem dX6_share_0 : decode cX6_share 0 = .ok (.aload_n 0, 1) := by decide +kernel
theorem dX6_share_1 : decode cX6_share 1 = .ok (.getfield 10, 3) := by decide +kernel
theorem dX6_share_4 : decode cX6_share 4 = .ok (.iload_n 1, 1) := by decide +kernel
theorem dX6_share_5 : decode cX6_share 5 = .ok (.invokevirtual 93, 3) := by decide +kernel
theorem dX6_share_8 : decode cX6_share 8 = .ok (.ifCond .eq 23, 3) := by decide +kernel
theorem dX6_share_11 : decode cX6_share 11 = .ok (.aload_n 0, 1) := by decide +kernel
theorem dX6_share_12 : decode cX6_share 12 = .ok (.getfield 10, 3) := by decide +kernel
theorem dX6_share_15 : decode cX6_share 15 = .ok (.iload_n 2, 1) := by decide +kernel
theorem dX6_share_16 : decode cX6_share 16 = .ok (.invokevirtual 61, 3) := by decide +kernel
theorem dX6_share_19 : decode cX6_share 19 = .ok (.ifCond .eq 12, 3) := by decide +kernel
theorem dX6_share_22 : decode cX6_share 22 = .ok (.iload_n 3, 1) := by decide +kernel
theorem dX6_share_23 : decode cX6_share 23 = .ok (.bipush 9, 2) := by decide +kernel
theorem dX6_share_25 : decode cX6_share 25 = .ok (.invokestatic 82, 3) := by decide +kernel
theorem dX6_share_28 : decode cX6_share 28 = .ok (.ifCond .ne 6, 3) := by decide +kernel
theorem dX6_share_31 : decode cX6_share 31 = .ok (.ldc 56, 2) := by decide +kernel
theorem dX6_share_33 : decode cX6_share 33 = .ok (.ireturn, 1) := by decide +kernel
theorem dX6_share_34 : decode cX6_share 34 = .ok (.aload_n 0, 1) := by decide +kernel
theorem dX6_share_35 : decode cX6_share 35 = .ok (.getfield 10, 3) := by decide +kernel
theorem dX6_share_38 : decode cX6_share 38 = .ok (.iload_n 1, 1) := by decide +kernel
theorem dX6_share_39 : decode cX6_share 39 = .ok (.iload_n 2, 1) := by decide +kernel
theorem dX6_share_40 : decode cX6_share 40 = .ok (.invokevirtual 96, 3) := by decide +kernel
theorem dX6_share_43 : decode cX6_share 43 = .ok (.istore 4, 2) := by decide +kernel
theorem dX6_share_45 : decode cX6_share 45 = .ok (.aload_n 0, 1) := by decide +kernel
theorem dX6_share_46 : decode cX6_share 46 = .ok (.getfield 10, 3) := by decide +kernel
theorem dX6_share_49 : decode cX6_share 49 = .ok (.getfield 99, 3) := by decide +kernel
theorem dX6_share_52 : decode cX6_share 52 = .ok (.iload_n 1, 1) := by decide +kernel
theorem dX6_share_53 : decode cX6_share 53 = .ok (.iconst 5, 1) := by decide +kernel
theorem dX6_share_54 : decode cX6_share 54 = .ok (.imul, 1) := by decide +kernel
theorem dX6_share_55 : decode cX6_share 55 = .ok (.iload_n 2, 1) := by decide +kernel
theorem dX6_share_56 : decode cX6_share 56 = .ok (.iadd, 1) := by decide +kernel
theorem dX6_share_57 : decode cX6_share 57 = .ok (.iload_n 3, 1) := by decide +kernel
theorem dX6_share_58 : decode cX6_share 58 = .ok (.iastore, 1) := by decide +kernel
theorem dX6_share_59 : decode cX6_share 59 = .ok (.iload 4, 2) := by decide +kernel
theorem dX6_share_61 : decode cX6_share 61 = .ok (.ireturn, 1) := by decide +kernel
set_option maxRecDepth 20000 in
theorem ggX6_number_X2_hasRow : GoodIn wsX6_number wsX2_hasRow := goodIn_r _ [8, 9, 20, 21, 22, 23, 24, 25, 26, 27, 28, 29, 30] (by decide +kernel) (by decide +kernel)
set_option maxRecDepth 20000 in
theorem gX6_number_X2_hasRow : GoodIn wsX6_number (wsV RX6 93 RX2 yX2_hasRow wsX2_hasRow) := goodIn_app (goodIn_of _ (by decide +kernel)) ggX6_number_X2_hasRow
set_option maxRecDepth 20000 in
theorem ggX6_number_X6_isWithin : GoodIn wsX6_number wsX6_isWithin := goodIn_r _ [13] (by decide +kernel) (by decide +kernel)
set_option maxRecDepth 20000 in
theorem gX6_number_X6_isWithin : GoodIn wsX6_number (va_wsS RX6 82 yX6_isWithin wsX6_isWithin) := goodIn_app (goodIn_of _ (by decide +kernel)) ggX6_number_X6_isWithin
theorem dX6_number_0 : decode cX6_number 0 = .ok (.aload_n 0, 1) := by decide +kernel
theorem dX6_number_1 : decode cX6_number 1 = .ok (.getfield 10, 3) := by decide +kernel
theorem dX6_number_4 : decode cX6_number 4 = .ok (.iload_n 1, 1) := by decide +kernel
theorem dX6_number_5 : decode cX6_number 5 = .ok (.invokevirtual 93, 3) := by decide +kernel
theorem dX6_number_8 : decode cX6_number 8 = .ok (.ifCond .eq 12, 3) := by decide +kernel
theorem dX6_number_11 : decode cX6_number 11 = .ok (.iload_n 2, 1) := by decide +kernel
theorem dX6_number_12 : decode cX6_number 12 = .ok (.bipush 99, 2) := by decide +kernel
theorem dX6_number_14 : decode cX6_number 14 = .ok (.invokestatic 82, 3) := by decide +kernel
theorem dX6_number_17 : decode cX6_number 17 = .ok (.ifCond .ne 6, 3) := by decide +kernel
theorem dX6_number_20 : decode cX6_number 20 = .ok (.ldc 56, 2) := by decide +kernel
theorem dX6_number_22 : decode cX6_number 22 = .ok (.ireturn, 1) := by decide +kernel
theorem dX6_number_23 : decode cX6_number 23 = .ok (.aload_n 0, 1) := by decide +kernel
theorem dX6_number_24 : decode cX6_number 24 = .ok (.getfield 10, 3) := by decide +kernel
theorem dX6_number_27 : decode cX6_number 27 = .ok (.getfield 102, 3) := by decide +kernel
theorem dX6_number_30 : decode cX6_number 30 = .ok (.iload_n 1, 1) := by decide +kernel
theorem dX6_number_31 : decode cX6_number 31 = .ok (.iaload, 1) := by decide +kernel
theorem dX6_number_32 : decode cX6_number 32 = .ok (.istore_n 3, 1) := by decide +kernel
theorem dX6_number_33 : decode cX6_number 33 = .ok (.aload_n 0, 1) := by decide +kernel
theorem dX6_number_34 : decode cX6_number 34 = .ok (.getfield 10, 3) := by decide +kernel
theorem dX6_number_37 : decode cX6_number 37 = .ok (.getfield 102, 3) := by decide +kernel
theorem dX6_number_40 : decode cX6_number 40 = .ok (.iload_n 1, 1) := by decide +kernel
theorem dX6_number_41 : decode cX6_number 41 = .ok (.iload_n 2, 1) := by decide +kernel
theorem dX6_number_42 : decode cX6_number 42 = .ok (.iastore, 1) := by decide +kernel
theorem dX6_number_43 : decode cX6_number 43 = .ok (.iload_n 3, 1) := by decide +kernel
theorem dX6_number_44 : decode cX6_number 44 = .ok (.ireturn, 1) := by decide +kernel
set_option maxRecDepth 20000 in
theorem ggX6_counts_X2_hasRow : GoodIn wsX6_counts wsX2_hasRow := goodIn_r _ [8, 9, 20, 21, 22, 23, 24, 25, 26, 27, 28, 29, 30] (by decide +kernel) (by decide +kernel)
set_option maxRecDepth 20000 in
theorem gX6_counts_X2_hasRow : GoodIn wsX6_counts (wsV RX6 93 RX2 yX2_hasRow wsX2_hasRow) := goodIn_app (goodIn_of _ (by decide +kernel)) ggX6_counts_X2_hasRow
set_option maxRecDepth 20000 in
theorem ggX6_counts_X6_isBit : GoodIn wsX6_counts wsX6_isBit := goodIn_r _ [13] (by decide +kernel) (by decide +kernel)
set_option maxRecDepth 20000 in
theorem gX6_counts_X6_isBit : GoodIn wsX6_counts (va_wsS RX6 105 yX6_isBit wsX6_isBit) := goodIn_app (goodIn_of _ (by decide +kernel)) ggX6_counts_X6_isBit
theorem dX6_counts_0 : decode cX6_counts 0 = .ok (.aload_n 0, 1) := by decide +kernel
theorem dX6_counts_1 : decode cX6_counts 1 = .ok (.getfield 10, 3) := by decide +kernel
theorem dX6_counts_4 : decode cX6_counts 4 = .ok (.iload_n 1, 1) := by decide +kernel
theorem dX6_counts_5 : decode cX6_counts 5 = .ok (.invokevirtual 93, 3) := by decide +kernel
theorem dX6_counts_8 : decode cX6_counts 8 = .ok (.ifCond .eq 10, 3) := by decide +kernel
theorem dX6_counts_11 : decode cX6_counts 11 = .ok (.iload_n 2, 1) := by decide +kernel
theorem dX6_counts_12 : decode cX6_counts 12 = .ok (.invokestatic 105, 3) := by decide +kernel
theorem dX6_counts_15 : decode cX6_counts 15 = .ok (.ifCond .ne 6, 3) := by decide +kernel
theorem dX6_counts_18 : decode cX6_counts 18 = .ok (.ldc 56, 2) := by decide +kernel
theorem dX6_counts_20 : decode cX6_counts 20 = .ok (.ireturn, 1) := by decide +kernel
theorem dX6_counts_21 : decode cX6_counts 21 = .ok (.aload_n 0, 1) := by decide +kernel
theorem dX6_counts_22 : decode cX6_counts 22 = .ok (.getfield 10, 3) := by decide +kernel
theorem dX6_counts_25 : decode cX6_counts 25 = .ok (.getfield 108, 3) := by decide +kernel
theorem dX6_counts_28 : decode cX6_counts 28 = .ok (.iload_n 1, 1) := by decide +kernel
theorem dX6_counts_29 : decode cX6_counts 29 = .ok (.iaload, 1) := by decide +kernel
theorem dX6_counts_30 : decode cX6_counts 30 = .ok (.istore_n 3, 1) := by decide +kernel
theorem dX6_counts_31 : decode cX6_counts 31 = .ok (.aload_n 0, 1) := by decide +kernel
theorem dX6_counts_32 : decode cX6_counts 32 = .ok (.getfield 10, 3) := by decide +kernel
theorem dX6_counts_35 : decode cX6_counts 35 = .ok (.getfield 108, 3) := by decide +kernel
theorem dX6_counts_38 : decode cX6_counts 38 = .ok (.iload_n 1, 1) := by decide +kernel
theorem dX6_counts_39 : decode cX6_counts 39 = .ok (.iload_n 2, 1) := by decide +kernel
theorem dX6_counts_40 : decode cX6_counts 40 = .ok (.iastore, 1) := by decide +kernel
theorem dX6_counts_41 : decode cX6_counts 41 = .ok (.iload_n 3, 1) := by decide +kernel
theorem dX6_counts_42 : decode cX6_counts 42 = .ok (.ireturn, 1) := by decide +kernel
set_option maxRecDepth 20000 in
theorem ggX6_isOf_X2_hasColumn : GoodIn wsX6_isOf wsX2_hasColumn := goodIn_r _ [8, 9, 20, 21, 22, 23, 24, 25, 26, 27, 28, 29, 30] (by decide +kernel) (by decide +kernel)
set_option maxRecDepth 20000 in
theorem gX6_isOf_X2_hasColumn : GoodIn wsX6_isOf (wsV RX6 61 RX2 yX2_hasColumn wsX2_hasColumn) := goodIn_app (goodIn_of _ (by decide +kernel)) ggX6_isOf_X2_hasColumn
set_option maxRecDepth 20000 in
theorem ggX6_isOf_X6_isKind : GoodIn wsX6_isOf wsX6_isKind := goodIn_r _ [13] (by decide +kernel) (by decide +kernel)
set_option maxRecDepth 20000 in
theorem gX6_isOf_X6_isKind : GoodIn wsX6_isOf (va_wsS RX6 48 yX6_isKind wsX6_isKind) := goodIn_app (goodIn_of _ (by decide +kernel)) ggX6_isOf_X6_isKind
theorem dX6_isOf_0 : decode cX6_isOf 0 = .ok (.aload_n 0, 1) := by decide +kernel
theorem dX6_isOf_1 : decode cX6_isOf 1 = .ok (.getfield 10, 3) := by decide +kernel
theorem dX6_isOf_4 : decode cX6_isOf 4 = .ok (.iload_n 1, 1) := by decide +kernel
theorem dX6_isOf_5 : decode cX6_isOf 5 = .ok (.invokevirtual 61, 3) := by decide +kernel
theorem dX6_isOf_8 : decode cX6_isOf 8 = .ok (.ifCond .eq 10, 3) := by decide +kernel
theorem dX6_isOf_11 : decode cX6_isOf 11 = .ok (.iload_n 2, 1) := by decide +kernel
theorem dX6_isOf_12 : decode cX6_isOf 12 = .ok (.invokestatic 48, 3) := by decide +kernel
theorem dX6_isOf_15 : decode cX6_isOf 15 = .ok (.ifCond .ne 6, 3) := by decide +kernel
theorem dX6_isOf_18 : decode cX6_isOf 18 = .ok (.ldc 56, 2) := by decide +kernel
theorem dX6_isOf_20 : decode cX6_isOf 20 = .ok (.ireturn, 1) := by decide +kernel
theorem dX6_isOf_21 : decode cX6_isOf 21 = .ok (.aload_n 0, 1) := by decide +kernel
theorem dX6_isOf_22 : decode cX6_isOf 22 = .ok (.getfield 10, 3) := by decide +kernel
theorem dX6_isOf_25 : decode cX6_isOf 25 = .ok (.getfield 68, 3) := by decide +kernel
theorem dX6_isOf_28 : decode cX6_isOf 28 = .ok (.iload_n 1, 1) := by decide +kernel
theorem dX6_isOf_29 : decode cX6_isOf 29 = .ok (.iaload, 1) := by decide +kernel
theorem dX6_isOf_30 : decode cX6_isOf 30 = .ok (.iload_n 2, 1) := by decide +kernel
theorem dX6_isOf_31 : decode cX6_isOf 31 = .ok (.if_icmp .lt 7, 3) := by decide +kernel
theorem dX6_isOf_34 : decode cX6_isOf 34 = .ok (.iconst 1, 1) := by decide +kernel
theorem dX6_isOf_35 : decode cX6_isOf 35 = .ok (.goto 4, 3) := by decide +kernel
theorem dX6_isOf_38 : decode cX6_isOf 38 = .ok (.iconst 0, 1) := by decide +kernel
theorem dX6_isOf_39 : decode cX6_isOf 39 = .ok (.ireturn, 1) := by decide +kernel
set_option maxRecDepth 20000 in
theorem ggX6_about_X2_hasColumn : GoodIn wsX6_about wsX2_hasColumn := goodIn_r _ [11, 12, 19, 20, 21, 22, 23, 24, 25, 26, 27, 28, 29] (by decide +kernel) (by decide +kernel)
set_option maxRecDepth 20000 in
theorem gX6_about_X2_hasColumn : GoodIn wsX6_about (wsV RX6 61 RX2 yX2_hasColumn wsX2_hasColumn) := goodIn_app (goodIn_of _ (by decide +kernel)) ggX6_about_X2_hasColumn
theorem dX6_about_0 : decode cX6_about 0 = .ok (.aload_n 0, 1) := by decide +kernel
theorem dX6_about_1 : decode cX6_about 1 = .ok (.getfield 10, 3) := by decide +kernel
theorem dX6_about_4 : decode cX6_about 4 = .ok (.iload_n 1, 1) := by decide +kernel
theorem dX6_about_5 : decode cX6_about 5 = .ok (.invokevirtual 61, 3) := by decide +kernel
theorem dX6_about_8 : decode cX6_about 8 = .ok (.ifCond .ne 6, 3) := by decide +kernel
theorem dX6_about_11 : decode cX6_about 11 = .ok (.ldc 56, 2) := by decide +kernel
theorem dX6_about_13 : decode cX6_about 13 = .ok (.ireturn, 1) := by decide +kernel
theorem dX6_about_14 : decode cX6_about 14 = .ok (.iload_n 2, 1) := by decide +kernel
theorem dX6_about_15 : decode cX6_about 15 = .ok (.tableswitch 69 0 3 #[29, 39, 49, 59], 29) := by decide +kernel
theorem dX6_about_44 : decode cX6_about 44 = .ok (.aload_n 0, 1) := by decide +kernel
theorem dX6_about_45 : decode cX6_about 45 = .ok (.getfield 10, 3) := by decide +kernel
theorem dX6_about_48 : decode cX6_about 48 = .ok (.getfield 72, 3) := by decide +kernel
theorem dX6_about_51 : decode cX6_about 51 = .ok (.iload_n 1, 1) := by decide +kernel
theorem dX6_about_52 : decode cX6_about 52 = .ok (.iaload, 1) := by decide +kernel
theorem dX6_about_53 : decode cX6_about 53 = .ok (.ireturn, 1) := by decide +kernel
theorem dX6_about_54 : decode cX6_about 54 = .ok (.aload_n 0, 1) := by decide +kernel
theorem dX6_about_55 : decode cX6_about 55 = .ok (.getfield 10, 3) := by decide +kernel
theorem dX6_about_58 : decode cX6_about 58 = .ok (.getfield 75, 3) := by decide +kernel
theorem dX6_about_61 : decode cX6_about 61 = .ok (.iload_n 1, 1) := by decide +kernel
theorem dX6_about_62 : decode cX6_about 62 = .ok (.iaload, 1) := by decide +kernel
theorem dX6_about_63 : decode cX6_about 63 = .ok (.ireturn, 1) := by decide +kernel
theorem dX6_about_64 : decode cX6_about 64 = .ok (.aload_n 0, 1) := by decide +kernel
theorem dX6_about_65 : decode cX6_about 65 = .ok (.getfield 10, 3) := by decide +kernel
theorem dX6_about_68 : decode cX6_about 68 = .ok (.getfield 86, 3) := by decide +kernel
theorem dX6_about_71 : decode cX6_about 71 = .ok (.iload_n 1, 1) := by decide +kernel
theorem dX6_about_72 : decode cX6_about 72 = .ok (.iaload, 1) := by decide +kernel
theorem dX6_about_73 : decode cX6_about 73 = .ok (.ireturn, 1) := by decide +kernel
theorem dX6_about_74 : decode cX6_about 74 = .ok (.aload_n 0, 1) := by decide +kernel
theorem dX6_about_75 : decode cX6_about 75 = .ok (.getfield 10, 3) := by decide +kernel
theorem dX6_about_78 : decode cX6_about 78 = .ok (.getfield 79, 3) := by decide +kernel
theorem dX6_about_81 : decode cX6_about 81 = .ok (.iload_n 1, 1) := by decide +kernel
theorem dX6_about_82 : decode cX6_about 82 = .ok (.iaload, 1) := by decide +kernel
theorem dX6_about_83 : decode cX6_about 83 = .ok (.ireturn, 1) := by decide +kernel
theorem dX6_about_84 : decode cX6_about 84 = .ok (.ldc 56, 2) := by decide +kernel
theorem dX6_about_86 : decode cX6_about 86 = .ok (.ireturn, 1) := by decide +kernel
set_option maxRecDepth 20000 in
theorem ggX6_told_X2_hasRow : GoodIn wsX6_told wsX2_hasRow := goodIn_r _ [10, 11, 28, 29, 30, 31, 32, 33, 34, 35, 36, 37, 38] (by decide +kernel) (by decide +kernel)
set_option maxRecDepth 20000 in
theorem gX6_told_X2_hasRow : GoodIn wsX6_told (wsV RX6 93 RX2 yX2_hasRow wsX2_hasRow) := goodIn_app (goodIn_of _ (by decide +kernel)) ggX6_told_X2_hasRow
set_option maxRecDepth 20000 in
theorem ggX6_told_X2_hasColumn : GoodIn wsX6_told wsX2_hasColumn := goodIn_r _ [15, 16, 28, 29, 30, 31, 32, 33, 34, 35, 36, 37, 38] (by decide +kernel) (by decide +kernel)
set_option maxRecDepth 20000 in
theorem gX6_told_X2_hasColumn : GoodIn wsX6_told (wsV RX6 61 RX2 yX2_hasColumn wsX2_hasColumn) := goodIn_app (goodIn_of _ (by decide +kernel)) ggX6_told_X2_hasColumn
set_option maxRecDepth 20000 in
theorem ggX6_told_X2_shareOf : GoodIn wsX6_told wsX2_shareOf := goodIn_r _ [20, 21, 28, 29, 30, 31, 32, 33, 34, 35, 36, 37, 38] (by decide +kernel) (by decide +kernel)
set_option maxRecDepth 20000 in
theorem gX6_told_X2_shareOf : GoodIn wsX6_told (wsV RX6 96 RX2 yX2_shareOf wsX2_shareOf) := goodIn_app (goodIn_of _ (by decide +kernel)) ggX6_told_X2_shareOf
theorem dX6_told_0 : decode cX6_told 0 = .ok (.aload_n 0, 1) := by decide +kernel
theorem dX6_told_1 : decode cX6_told 1 = .ok (.getfield 10, 3) := by decide +kernel
theorem dX6_told_4 : decode cX6_told 4 = .ok (.iload_n 1, 1) := by decide +kernel
theorem dX6_told_5 : decode cX6_told 5 = .ok (.invokevirtual 93, 3) := by decide +kernel
theorem dX6_told_8 : decode cX6_told 8 = .ok (.ifCond .ne 6, 3) := by decide +kernel
theorem dX6_told_11 : decode cX6_told 11 = .ok (.ldc 56, 2) := by decide +kernel
theorem dX6_told_13 : decode cX6_told 13 = .ok (.ireturn, 1) := by decide +kernel
theorem dX6_told_14 : decode cX6_told 14 = .ok (.iload_n 2, 1) := by decide +kernel
theorem dX6_told_15 : decode cX6_told 15 = .ok (.tableswitch 55 0 2 #[25, 35, 45], 25) := by decide +kernel
theorem dX6_told_40 : decode cX6_told 40 = .ok (.aload_n 0, 1) := by decide +kernel
theorem dX6_told_41 : decode cX6_told 41 = .ok (.getfield 10, 3) := by decide +kernel
theorem dX6_told_44 : decode cX6_told 44 = .ok (.getfield 111, 3) := by decide +kernel
theorem dX6_told_47 : decode cX6_told 47 = .ok (.iload_n 1, 1) := by decide +kernel
theorem dX6_told_48 : decode cX6_told 48 = .ok (.iaload, 1) := by decide +kernel
theorem dX6_told_49 : decode cX6_told 49 = .ok (.ireturn, 1) := by decide +kernel
theorem dX6_told_50 : decode cX6_told 50 = .ok (.aload_n 0, 1) := by decide +kernel
theorem dX6_told_51 : decode cX6_told 51 = .ok (.getfield 10, 3) := by decide +kernel
theorem dX6_told_54 : decode cX6_told 54 = .ok (.getfield 102, 3) := by decide +kernel
theorem dX6_told_57 : decode cX6_told 57 = .ok (.iload_n 1, 1) := by decide +kernel
theorem dX6_told_58 : decode cX6_told 58 = .ok (.iaload, 1) := by decide +kernel
theorem dX6_told_59 : decode cX6_told 59 = .ok (.ireturn, 1) := by decide +kernel
theorem dX6_told_60 : decode cX6_told 60 = .ok (.aload_n 0, 1) := by decide +kernel
theorem dX6_told_61 : decode cX6_told 61 = .ok (.getfield 10, 3) := by decide +kernel
theorem dX6_told_64 : decode cX6_told 64 = .ok (.getfield 108, 3) := by decide +kernel
theorem dX6_told_67 : decode cX6_told 67 = .ok (.iload_n 1, 1) := by decide +kernel
theorem dX6_told_68 : decode cX6_told 68 = .ok (.iaload, 1) := by decide +kernel
theorem dX6_told_69 : decode cX6_told 69 = .ok (.ireturn, 1) := by decide +kernel
theorem dX6_told_70 : decode cX6_told 70 = .ok (.iload_n 2, 1) := by decide +kernel
theorem dX6_told_71 : decode cX6_told 71 = .ok (.iconst 2, 1) := by decide +kernel
theorem dX6_told_72 : decode cX6_told 72 = .ok (.if_icmp .le 30, 3) := by decide +kernel
theorem dX6_told_75 : decode cX6_told 75 = .ok (.aload_n 0, 1) := by decide +kernel
theorem dX6_told_76 : decode cX6_told 76 = .ok (.getfield 10, 3) := by decide +kernel
theorem dX6_told_79 : decode cX6_told 79 = .ok (.iload_n 2, 1) := by decide +kernel
theorem dX6_told_80 : decode cX6_told 80 = .ok (.iconst 3, 1) := by decide +kernel
theorem dX6_told_81 : decode cX6_told 81 = .ok (.isub, 1) := by decide +kernel
theorem dX6_told_82 : decode cX6_told 82 = .ok (.invokevirtual 61, 3) := by decide +kernel
theorem dX6_told_85 : decode cX6_told 85 = .ok (.ifCond .eq 17, 3) := by decide +kernel
theorem dX6_told_88 : decode cX6_told 88 = .ok (.aload_n 0, 1) := by decide +kernel
theorem dX6_told_89 : decode cX6_told 89 = .ok (.getfield 10, 3) := by decide +kernel
theorem dX6_told_92 : decode cX6_told 92 = .ok (.iload_n 1, 1) := by decide +kernel
theorem dX6_told_93 : decode cX6_told 93 = .ok (.iload_n 2, 1) := by decide +kernel
theorem dX6_told_94 : decode cX6_told 94 = .ok (.iconst 3, 1) := by decide +kernel
theorem dX6_told_95 : decode cX6_told 95 = .ok (.isub, 1) := by decide +kernel
theorem dX6_told_96 : decode cX6_told 96 = .ok (.invokevirtual 96, 3) := by decide +kernel
theorem dX6_told_99 : decode cX6_told 99 = .ok (.goto 5, 3) := by decide +kernel
theorem dX6_told_102 : decode cX6_told 102 = .ok (.ldc 56, 2) := by decide +kernel
theorem dX6_told_104 : decode cX6_told 104 = .ok (.ireturn, 1) := by decide +kernel
set_option maxRecDepth 20000 in
theorem ggX6_least_X6_isBit : GoodIn wsX6_least wsX6_isBit := goodIn_r _ [10] (by decide +kernel) (by decide +kernel)
set_option maxRecDepth 20000 in
theorem gX6_least_X6_isBit : GoodIn wsX6_least (va_wsS RX6 105 yX6_isBit wsX6_isBit) := goodIn_app (goodIn_of _ (by decide +kernel)) ggX6_least_X6_isBit
set_option maxRecDepth 20000 in
theorem ggX6_least_X6_inLowestTerms : GoodIn wsX6_least wsX6_inLowestTerms := goodIn_r _ [13, 14, 15, 9, 16, 17, 18, 19, 20] (by decide +kernel) (by decide +kernel)
set_option maxRecDepth 20000 in
theorem gX6_least_X6_inLowestTerms : GoodIn wsX6_least (va_wsS RX6 132 yX6_inLowestTerms wsX6_inLowestTerms) := goodIn_app (goodIn_of _ (by decide +kernel)) ggX6_least_X6_inLowestTerms
theorem dX6_least_0 : decode cX6_least 0 = .ok (.iload_n 1, 1) := by decide +kernel
theorem dX6_least_1 : decode cX6_least 1 = .ok (.invokestatic 105, 3) := by decide +kernel
theorem dX6_least_4 : decode cX6_least 4 = .ok (.ifCond .ne 7, 3) := by decide +kernel
theorem dX6_least_7 : decode cX6_least 7 = .ok (.ldc2_w 121, 3) := by decide +kernel
theorem dX6_least_10 : decode cX6_least 10 = .ok (.lreturn, 1) := by decide +kernel
theorem dX6_least_11 : decode cX6_least 11 = .ok (.aload_n 0, 1) := by decide +kernel
theorem dX6_least_12 : decode cX6_least 12 = .ok (.getfield 19, 3) := by decide +kernel
theorem dX6_least_15 : decode cX6_least 15 = .ok (.getfield 118, 3) := by decide +kernel
theorem dX6_least_18 : decode cX6_least 18 = .ok (.ifCond .eq 7, 3) := by decide +kernel
theorem dX6_least_21 : decode cX6_least 21 = .ok (.ldc2_w 123, 3) := by decide +kernel
theorem dX6_least_24 : decode cX6_least 24 = .ok (.lreturn, 1) := by decide +kernel
theorem dX6_least_25 : decode cX6_least 25 = .ok (.aload_n 0, 1) := by decide +kernel
theorem dX6_least_26 : decode cX6_least 26 = .ok (.getfield 19, 3) := by decide +kernel
theorem dX6_least_29 : decode cX6_least 29 = .ok (.getfield 125, 3) := by decide +kernel
theorem dX6_least_32 : decode cX6_least 32 = .ok (.aload_n 0, 1) := by decide +kernel
theorem dX6_least_33 : decode cX6_least 33 = .ok (.getfield 19, 3) := by decide +kernel
theorem dX6_least_36 : decode cX6_least 36 = .ok (.getfield 129, 3) := by decide +kernel
theorem dX6_least_39 : decode cX6_least 39 = .ok (.iload_n 1, 1) := by decide +kernel
theorem dX6_least_40 : decode cX6_least 40 = .ok (.invokestatic 132, 3) := by decide +kernel
theorem dX6_least_43 : decode cX6_least 43 = .ok (.lreturn, 1) := by decide +kernel
set_option maxRecDepth 20000 in
theorem ggX6_value_X2_hasColumn : GoodIn wsX6_value wsX2_hasColumn := goodIn_r _ [12, 13, 38, 39, 40, 41, 42, 43, 44, 45, 46, 47, 48] (by decide +kernel) (by decide +kernel)
set_option maxRecDepth 20000 in
theorem gX6_value_X2_hasColumn : GoodIn wsX6_value (wsV RX6 61 RX2 yX2_hasColumn wsX2_hasColumn) := goodIn_app (goodIn_of _ (by decide +kernel)) ggX6_value_X2_hasColumn
set_option maxRecDepth 20000 in
theorem ggX6_value_X6_isBit : GoodIn wsX6_value wsX6_isBit := goodIn_r _ [17] (by decide +kernel) (by decide +kernel)
set_option maxRecDepth 20000 in
theorem gX6_value_X6_isBit : GoodIn wsX6_value (va_wsS RX6 105 yX6_isBit wsX6_isBit) := goodIn_app (goodIn_of _ (by decide +kernel)) ggX6_value_X6_isBit
set_option maxRecDepth 20000 in
theorem ggX6_value_X6_inLowestTerms : GoodIn wsX6_value wsX6_inLowestTerms := goodIn_r _ [20, 21, 22, 16, 23, 24, 25, 26, 27] (by decide +kernel) (by decide +kernel)
set_option maxRecDepth 20000 in
theorem gX6_value_X6_inLowestTerms : GoodIn wsX6_value (va_wsS RX6 132 yX6_inLowestTerms wsX6_inLowestTerms) := goodIn_app (goodIn_of _ (by decide +kernel)) ggX6_value_X6_inLowestTerms
theorem dX6_value_0 : decode cX6_value 0 = .ok (.aload_n 0, 1) := by decide +kernel
theorem dX6_value_1 : decode cX6_value 1 = .ok (.getfield 10, 3) := by decide +kernel
theorem dX6_value_4 : decode cX6_value 4 = .ok (.iload_n 1, 1) := by decide +kernel
theorem dX6_value_5 : decode cX6_value 5 = .ok (.invokevirtual 61, 3) := by decide +kernel
theorem dX6_value_8 : decode cX6_value 8 = .ok (.ifCond .eq 10, 3) := by decide +kernel
theorem dX6_value_11 : decode cX6_value 11 = .ok (.iload_n 2, 1) := by decide +kernel
theorem dX6_value_12 : decode cX6_value 12 = .ok (.invokestatic 105, 3) := by decide +kernel
theorem dX6_value_15 : decode cX6_value 15 = .ok (.ifCond .ne 7, 3) := by decide +kernel
theorem dX6_value_18 : decode cX6_value 18 = .ok (.ldc2_w 121, 3) := by decide +kernel
theorem dX6_value_21 : decode cX6_value 21 = .ok (.lreturn, 1) := by decide +kernel
theorem dX6_value_22 : decode cX6_value 22 = .ok (.aload_n 0, 1) := by decide +kernel
theorem dX6_value_23 : decode cX6_value 23 = .ok (.getfield 19, 3) := by decide +kernel
theorem dX6_value_26 : decode cX6_value 26 = .ok (.getfield 118, 3) := by decide +kernel
theorem dX6_value_29 : decode cX6_value 29 = .ok (.ifCond .eq 7, 3) := by decide +kernel
theorem dX6_value_32 : decode cX6_value 32 = .ok (.ldc2_w 123, 3) := by decide +kernel
theorem dX6_value_35 : decode cX6_value 35 = .ok (.lreturn, 1) := by decide +kernel
theorem dX6_value_36 : decode cX6_value 36 = .ok (.aload_n 0, 1) := by decide +kernel
theorem dX6_value_37 : decode cX6_value 37 = .ok (.getfield 19, 3) := by decide +kernel
theorem dX6_value_40 : decode cX6_value 40 = .ok (.getfield 136, 3) := by decide +kernel
theorem dX6_value_43 : decode cX6_value 43 = .ok (.iload_n 1, 1) := by decide +kernel
theorem dX6_value_44 : decode cX6_value 44 = .ok (.laload, 1) := by decide +kernel
theorem dX6_value_45 : decode cX6_value 45 = .ok (.aload_n 0, 1) := by decide +kernel
theorem dX6_value_46 : decode cX6_value 46 = .ok (.getfield 19, 3) := by decide +kernel
theorem dX6_value_49 : decode cX6_value 49 = .ok (.getfield 129, 3) := by decide +kernel
theorem dX6_value_52 : decode cX6_value 52 = .ok (.iload_n 2, 1) := by decide +kernel
theorem dX6_value_53 : decode cX6_value 53 = .ok (.invokestatic 132, 3) := by decide +kernel
theorem dX6_value_56 : decode cX6_value 56 = .ok (.lreturn, 1) := by decide +kernel
set_option maxRecDepth 20000 in
theorem ggX6_quarrel_X3_smallest : GoodIn wsX6_quarrel wsX3_smallest := goodIn_r _ [7, 8, 9, 10, 11, 12, 13, 14, 15, 16, 17, 18, 6, 19, 20, 21, 22, 23, 24, 25, 26, 27, 28, 29, 30, 31, 32, 33, 34, 35, 36, 37, 38, 39, 40, 41, 42, 43, 44, 45, 46, 47, 48, 49, 50, 51, 52, 53, 54, 55, 56, 57, 58, 59, 60, 61, 62, 63, 64, 65, 66, 67, 68, 69, 70, 71, 72, 73, 74, 75, 76, 77, 78, 79, 80, 81, 82, 83, 84, 85, 86, 87, 88, 89, 90, 91, 92, 93, 94, 95, 96, 97, 98, 99, 100, 101, 102, 103, 104, 105, 106, 107, 108, 109, 110, 111, 112, 113, 114, 115, 116, 117, 118, 119, 120, 121, 128, 129, 130, 131, 132, 133, 134, 135, 136, 137, 138, 139, 140, 141, 142, 143, 144, 145, 146, 147, 148, 149, 150, 151] (by decide +kernel) (by decide +kernel)
set_option maxRecDepth 20000 in
theorem gX6_quarrel_X3_smallest : GoodIn wsX6_quarrel (wsV RX6 140 RX3 yX3_smallest wsX3_smallest) := goodIn_app (goodIn_of _ (by decide +kernel)) ggX6_quarrel_X3_smallest
theorem dX6_quarrel_0 : decode cX6_quarrel 0 = .ok (.aload_n 0, 1) := by decide +kernel
theorem dX6_quarrel_1 : decode cX6_quarrel 1 = .ok (.getfield 33, 3) := by decide +kernel
theorem dX6_quarrel_4 : decode cX6_quarrel 4 = .ok (.aload_n 0, 1) := by decide +kernel
theorem dX6_quarrel_5 : decode cX6_quarrel 5 = .ok (.getfield 10, 3) := by decide +kernel
theorem dX6_quarrel_8 : decode cX6_quarrel 8 = .ok (.invokevirtual 140, 3) := by decide +kernel
theorem dX6_quarrel_11 : decode cX6_quarrel 11 = .ok (.ireturn, 1) := by decide +kernel
set_option maxRecDepth 20000 in
theorem ggX6_put_X6_isWithin : GoodIn wsX6_put wsX6_isWithin := goodIn_r _ [8] (by decide +kernel) (by decide +kernel)
set_option maxRecDepth 20000 in
theorem gX6_put_X6_isWithin : GoodIn wsX6_put (va_wsS RX6 82 yX6_isWithin wsX6_isWithin) := goodIn_app (goodIn_of _ (by decide +kernel)) ggX6_put_X6_isWithin
theorem dX6_put_0 : decode cX6_put 0 = .ok (.iload_n 1, 1) := by decide +kernel
theorem dX6_put_1 : decode cX6_put 1 = .ok (.ifCond .lt 17, 3) := by decide +kernel
theorem dX6_put_4 : decode cX6_put 4 = .ok (.iload_n 1, 1) := by decide +kernel
theorem dX6_put_5 : decode cX6_put 5 = .ok (.iconst 5, 1) := by decide +kernel
theorem dX6_put_6 : decode cX6_put 6 = .ok (.if_icmp .ge 12, 3) := by decide +kernel
theorem dX6_put_9 : decode cX6_put 9 = .ok (.iload_n 2, 1) := by decide +kernel
theorem dX6_put_10 : decode cX6_put 10 = .ok (.ldc 144, 2) := by decide +kernel
theorem dX6_put_12 : decode cX6_put 12 = .ok (.invokestatic 82, 3) := by decide +kernel
theorem dX6_put_15 : decode cX6_put 15 = .ok (.ifCond .ne 6, 3) := by decide +kernel
theorem dX6_put_18 : decode cX6_put 18 = .ok (.ldc 56, 2) := by decide +kernel
theorem dX6_put_20 : decode cX6_put 20 = .ok (.ireturn, 1) := by decide +kernel
theorem dX6_put_21 : decode cX6_put 21 = .ok (.aload_n 0, 1) := by decide +kernel
theorem dX6_put_22 : decode cX6_put 22 = .ok (.getfield 40, 3) := by decide +kernel
theorem dX6_put_25 : decode cX6_put 25 = .ok (.getfield 145, 3) := by decide +kernel
theorem dX6_put_28 : decode cX6_put 28 = .ok (.iload_n 1, 1) := by decide +kernel
theorem dX6_put_29 : decode cX6_put 29 = .ok (.iload_n 2, 1) := by decide +kernel
theorem dX6_put_30 : decode cX6_put 30 = .ok (.i2l, 1) := by decide +kernel
theorem dX6_put_31 : decode cX6_put 31 = .ok (.lastore, 1) := by decide +kernel
theorem dX6_put_32 : decode cX6_put 32 = .ok (.iconst 0, 1) := by decide +kernel
theorem dX6_put_33 : decode cX6_put 33 = .ok (.ireturn, 1) := by decide +kernel
set_option maxRecDepth 20000 in
theorem ggX6_over_X6_isBelow : GoodIn wsX6_over wsX6_isBelow := goodIn_r _ [7, 8] (by decide +kernel) (by decide +kernel)
set_option maxRecDepth 20000 in
theorem gX6_over_X6_isBelow : GoodIn wsX6_over (va_wsS RX6 148 yX6_isBelow wsX6_isBelow) := goodIn_app (goodIn_of _ (by decide +kernel)) ggX6_over_X6_isBelow
theorem dX6_over_0 : decode cX6_over 0 = .ok (.iload_n 1, 1) := by decide +kernel
theorem dX6_over_1 : decode cX6_over 1 = .ok (.invokestatic 148, 3) := by decide +kernel
theorem dX6_over_4 : decode cX6_over 4 = .ok (.ifCond .ne 6, 3) := by decide +kernel
theorem dX6_over_7 : decode cX6_over 7 = .ok (.ldc 56, 2) := by decide +kernel
theorem dX6_over_9 : decode cX6_over 9 = .ok (.ireturn, 1) := by decide +kernel
theorem dX6_over_10 : decode cX6_over 10 = .ok (.aload_n 0, 1) := by decide +kernel
theorem dX6_over_11 : decode cX6_over 11 = .ok (.getfield 40, 3) := by decide +kernel
theorem dX6_over_14 : decode cX6_over 14 = .ok (.getfield 151, 3) := by decide +kernel
theorem dX6_over_17 : decode cX6_over 17 = .ok (.l2i, 1) := by decide +kernel
theorem dX6_over_18 : decode cX6_over 18 = .ok (.istore_n 2, 1) := by decide +kernel
theorem dX6_over_19 : decode cX6_over 19 = .ok (.aload_n 0, 1) := by decide +kernel
theorem dX6_over_20 : decode cX6_over 20 = .ok (.getfield 40, 3) := by decide +kernel
theorem dX6_over_23 : decode cX6_over 23 = .ok (.iload_n 1, 1) := by decide +kernel
theorem dX6_over_24 : decode cX6_over 24 = .ok (.i2l, 1) := by decide +kernel
theorem dX6_over_25 : decode cX6_over 25 = .ok (.putfield 151, 3) := by decide +kernel
theorem dX6_over_28 : decode cX6_over 28 = .ok (.iload_n 2, 1) := by decide +kernel
theorem dX6_over_29 : decode cX6_over 29 = .ok (.ireturn, 1) := by decide +kernel
set_option maxRecDepth 20000 in
theorem ggX6_take_X1_grasp : GoodIn wsX6_take wsX1_grasp := goodIn_r _ [10, 11, 12, 13, 14, 15, 16, 17, 18, 19, 20, 21, 28, 29, 30, 31, 32, 33, 34, 35] (by decide +kernel) (by decide +kernel)
set_option maxRecDepth 20000 in
theorem gX6_take_X1_grasp : GoodIn wsX6_take (wsV RX6 154 RX1 yX1_grasp wsX1_grasp) := goodIn_app (goodIn_of _ (by decide +kernel)) ggX6_take_X1_grasp
theorem dX6_take_0 : decode cX6_take 0 = .ok (.aload_n 0, 1) := by decide +kernel
theorem dX6_take_1 : decode cX6_take 1 = .ok (.getfield 19, 3) := by decide +kernel
theorem dX6_take_4 : decode cX6_take 4 = .ok (.getfield 118, 3) := by decide +kernel
theorem dX6_take_7 : decode cX6_take 7 = .ok (.ifCond .eq 7, 3) := by decide +kernel
theorem dX6_take_10 : decode cX6_take 10 = .ok (.ldc2_w 123, 3) := by decide +kernel
theorem dX6_take_13 : decode cX6_take 13 = .ok (.lreturn, 1) := by decide +kernel
theorem dX6_take_14 : decode cX6_take 14 = .ok (.aload_n 0, 1) := by decide +kernel
theorem dX6_take_15 : decode cX6_take 15 = .ok (.getfield 40, 3) := by decide +kernel
theorem dX6_take_18 : decode cX6_take 18 = .ok (.aload_n 0, 1) := by decide +kernel
theorem dX6_take_19 : decode cX6_take 19 = .ok (.getfield 19, 3) := by decide +kernel
theorem dX6_take_22 : decode cX6_take 22 = .ok (.invokevirtual 154, 3) := by decide +kernel
theorem dX6_take_25 : decode cX6_take 25 = .ok (.aload_n 0, 1) := by decide +kernel
theorem dX6_take_26 : decode cX6_take 26 = .ok (.getfield 40, 3) := by decide +kernel
theorem dX6_take_29 : decode cX6_take 29 = .ok (.getfield 151, 3) := by decide +kernel
theorem dX6_take_32 : decode cX6_take 32 = .ok (.lreturn, 1) := by decide +kernel
set_option maxRecDepth 20000 in
theorem ggX6_price_X6_isWithin : GoodIn wsX6_price wsX6_isWithin := goodIn_r _ [8] (by decide +kernel) (by decide +kernel)
set_option maxRecDepth 20000 in
theorem gX6_price_X6_isWithin : GoodIn wsX6_price (va_wsS RX6 82 yX6_isWithin wsX6_isWithin) := goodIn_app (goodIn_of _ (by decide +kernel)) ggX6_price_X6_isWithin
theorem dX6_price_0 : decode cX6_price 0 = .ok (.iload_n 1, 1) := by decide +kernel
theorem dX6_price_1 : decode cX6_price 1 = .ok (.ifCond .lt 18, 3) := by decide +kernel
theorem dX6_price_4 : decode cX6_price 4 = .ok (.iload_n 1, 1) := by decide +kernel
theorem dX6_price_5 : decode cX6_price 5 = .ok (.bipush 7, 2) := by decide +kernel
theorem dX6_price_7 : decode cX6_price 7 = .ok (.if_icmp .ge 12, 3) := by decide +kernel
theorem dX6_price_10 : decode cX6_price 10 = .ok (.iload_n 2, 1) := by decide +kernel
theorem dX6_price_11 : decode cX6_price 11 = .ok (.ldc 158, 2) := by decide +kernel
theorem dX6_price_13 : decode cX6_price 13 = .ok (.invokestatic 82, 3) := by decide +kernel
theorem dX6_price_16 : decode cX6_price 16 = .ok (.ifCond .ne 6, 3) := by decide +kernel
theorem dX6_price_19 : decode cX6_price 19 = .ok (.ldc 56, 2) := by decide +kernel
theorem dX6_price_21 : decode cX6_price 21 = .ok (.ireturn, 1) := by decide +kernel
theorem dX6_price_22 : decode cX6_price 22 = .ok (.aload_n 0, 1) := by decide +kernel
theorem dX6_price_23 : decode cX6_price 23 = .ok (.getfield 40, 3) := by decide +kernel
theorem dX6_price_26 : decode cX6_price 26 = .ok (.getfield 159, 3) := by decide +kernel
theorem dX6_price_29 : decode cX6_price 29 = .ok (.iload_n 1, 1) := by decide +kernel
theorem dX6_price_30 : decode cX6_price 30 = .ok (.iload_n 2, 1) := by decide +kernel
theorem dX6_price_31 : decode cX6_price 31 = .ok (.iastore, 1) := by decide +kernel
theorem dX6_price_32 : decode cX6_price 32 = .ok (.iconst 0, 1) := by decide +kernel
theorem dX6_price_33 : decode cX6_price 33 = .ok (.ireturn, 1) := by decide +kernel
set_option maxRecDepth 20000 in
theorem ggX6_pricesOver_X6_isBelow : GoodIn wsX6_pricesOver wsX6_isBelow := goodIn_r _ [7, 8] (by decide +kernel) (by decide +kernel)
set_option maxRecDepth 20000 in
theorem gX6_pricesOver_X6_isBelow : GoodIn wsX6_pricesOver (va_wsS RX6 148 yX6_isBelow wsX6_isBelow) := goodIn_app (goodIn_of _ (by decide +kernel)) ggX6_pricesOver_X6_isBelow
theorem dX6_pricesOver_0 : decode cX6_pricesOver 0 = .ok (.iload_n 1, 1) := by decide +kernel
theorem dX6_pricesOver_1 : decode cX6_pricesOver 1 = .ok (.invokestatic 148, 3) := by decide +kernel
theorem dX6_pricesOver_4 : decode cX6_pricesOver 4 = .ok (.ifCond .ne 6, 3) := by decide +kernel
theorem dX6_pricesOver_7 : decode cX6_pricesOver 7 = .ok (.ldc 56, 2) := by decide +kernel
theorem dX6_pricesOver_9 : decode cX6_pricesOver 9 = .ok (.ireturn, 1) := by decide +kernel
theorem dX6_pricesOver_10 : decode cX6_pricesOver 10 = .ok (.aload_n 0, 1) := by decide +kernel
theorem dX6_pricesOver_11 : decode cX6_pricesOver 11 = .ok (.getfield 40, 3) := by decide +kernel
theorem dX6_pricesOver_14 : decode cX6_pricesOver 14 = .ok (.getfield 162, 3) := by decide +kernel
theorem dX6_pricesOver_17 : decode cX6_pricesOver 17 = .ok (.istore_n 2, 1) := by decide +kernel
theorem dX6_pricesOver_18 : decode cX6_pricesOver 18 = .ok (.aload_n 0, 1) := by decide +kernel
theorem dX6_pricesOver_19 : decode cX6_pricesOver 19 = .ok (.getfield 40, 3) := by decide +kernel
theorem dX6_pricesOver_22 : decode cX6_pricesOver 22 = .ok (.iload_n 1, 1) := by decide +kernel
theorem dX6_pricesOver_23 : decode cX6_pricesOver 23 = .ok (.putfield 162, 3) := by decide +kernel
theorem dX6_pricesOver_26 : decode cX6_pricesOver 26 = .ok (.iload_n 2, 1) := by decide +kernel
theorem dX6_pricesOver_27 : decode cX6_pricesOver 27 = .ok (.ireturn, 1) := by decide +kernel
set_option maxRecDepth 20000 in
theorem ggX6_check_X1_firstWrong : GoodIn wsX6_check wsX1_firstWrong := goodIn_r _ [7, 8, 9, 10, 11, 6, 12, 13, 14, 15, 16, 17, 18, 19, 20, 21, 22, 23, 24, 25, 26, 27, 28, 29, 30, 31, 32, 33, 34, 35, 36, 37, 38, 39, 40, 41, 42, 43, 44, 45, 46, 47, 48, 49, 50, 51, 52, 53, 54, 55, 56, 57, 58, 59, 60, 61, 62, 69, 70, 71, 72, 73, 74, 75, 76, 77, 78, 79, 80, 81, 82, 83] (by decide +kernel) (by decide +kernel)
set_option maxRecDepth 20000 in
theorem gX6_check_X1_firstWrong : GoodIn wsX6_check (wsV RX6 165 RX1 yX1_firstWrong wsX1_firstWrong) := goodIn_app (goodIn_of _ (by decide +kernel)) ggX6_check_X1_firstWrong
theorem dX6_check_0 : decode cX6_check 0 = .ok (.aload_n 0, 1) := by decide +kernel
theorem dX6_check_1 : decode cX6_check 1 = .ok (.getfield 40, 3) := by decide +kernel
theorem dX6_check_4 : decode cX6_check 4 = .ok (.aload_n 0, 1) := by decide +kernel
theorem dX6_check_5 : decode cX6_check 5 = .ok (.getfield 10, 3) := by decide +kernel
theorem dX6_check_8 : decode cX6_check 8 = .ok (.invokevirtual 165, 3) := by decide +kernel
theorem dX6_check_11 : decode cX6_check 11 = .ok (.ireturn, 1) := by decide +kernel
set_option maxRecDepth 20000 in
theorem ggX6_shows_X1_firstDoubt : GoodIn wsX6_shows wsX1_firstDoubt := goodIn_r _ [7, 8, 9, 10, 6, 11, 12, 13, 14, 15, 16, 17, 18, 19, 20, 21, 22, 23, 24, 25, 26, 27, 28, 29, 30, 31, 32, 33, 34, 35, 36, 37, 38, 39, 40, 41, 42, 43, 44, 45, 46, 47, 48, 49, 50, 51, 52, 53, 54, 55, 56, 57, 58, 59, 60, 61, 62, 63, 64, 65, 66, 67, 68, 69, 70, 71, 72, 73, 74, 75, 76, 77, 78, 79, 86, 87, 88, 89, 90, 91, 92, 93, 94, 95, 96, 97, 98, 99, 100] (by decide +kernel) (by decide +kernel)
set_option maxRecDepth 20000 in
theorem gX6_shows_X1_firstDoubt : GoodIn wsX6_shows (wsV RX6 168 RX1 yX1_firstDoubt wsX1_firstDoubt) := goodIn_app (goodIn_of _ (by decide +kernel)) ggX6_shows_X1_firstDoubt
theorem dX6_shows_0 : decode cX6_shows 0 = .ok (.aload_n 0, 1) := by decide +kernel
theorem dX6_shows_1 : decode cX6_shows 1 = .ok (.getfield 40, 3) := by decide +kernel
theorem dX6_shows_4 : decode cX6_shows 4 = .ok (.aload_n 0, 1) := by decide +kernel
theorem dX6_shows_5 : decode cX6_shows 5 = .ok (.getfield 10, 3) := by decide +kernel
theorem dX6_shows_8 : decode cX6_shows 8 = .ok (.invokevirtual 168, 3) := by decide +kernel
theorem dX6_shows_11 : decode cX6_shows 11 = .ok (.ireturn, 1) := by decide +kernel
set_option maxRecDepth 20000 in
theorem ggX6_sum_X2_hasRow : GoodIn wsX6_sum wsX2_hasRow := goodIn_r _ [10, 11, 46, 47, 48, 49, 50, 51, 52, 53, 54, 55, 56] (by decide +kernel) (by decide +kernel)
set_option maxRecDepth 20000 in
theorem gX6_sum_X2_hasRow : GoodIn wsX6_sum (wsV RX6 93 RX2 yX2_hasRow wsX2_hasRow) := goodIn_app (goodIn_of _ (by decide +kernel)) ggX6_sum_X2_hasRow
set_option maxRecDepth 20000 in
theorem ggX6_sum_X6_isBit : GoodIn wsX6_sum wsX6_isBit := goodIn_r _ [15] (by decide +kernel) (by decide +kernel)
set_option maxRecDepth 20000 in
theorem gX6_sum_X6_isBit : GoodIn wsX6_sum (va_wsS RX6 105 yX6_isBit wsX6_isBit) := goodIn_app (goodIn_of _ (by decide +kernel)) ggX6_sum_X6_isBit
set_option maxRecDepth 20000 in
theorem ggX6_sum_X2_sumIn : GoodIn wsX6_sum wsX2_sumIn := goodIn_r _ [19, 20, 21, 22, 23, 9, 24, 25, 46, 47, 48, 49, 50, 51, 52, 53, 54, 55, 56] (by decide +kernel) (by decide +kernel)
set_option maxRecDepth 20000 in
theorem gX6_sum_X2_sumIn : GoodIn wsX6_sum (wsV RX6 171 RX2 yX2_sumIn wsX2_sumIn) := goodIn_app (goodIn_of _ (by decide +kernel)) ggX6_sum_X2_sumIn
set_option maxRecDepth 20000 in
theorem ggX6_sum_X6_inLowestTerms : GoodIn wsX6_sum wsX6_inLowestTerms := goodIn_r _ [28, 29, 30, 14, 31, 32, 33, 34, 35] (by decide +kernel) (by decide +kernel)
set_option maxRecDepth 20000 in
theorem gX6_sum_X6_inLowestTerms : GoodIn wsX6_sum (va_wsS RX6 132 yX6_inLowestTerms wsX6_inLowestTerms) := goodIn_app (goodIn_of _ (by decide +kernel)) ggX6_sum_X6_inLowestTerms
theorem dX6_sum_0 : decode cX6_sum 0 = .ok (.aload_n 0, 1) := by decide +kernel
theorem dX6_sum_1 : decode cX6_sum 1 = .ok (.getfield 10, 3) := by decide +kernel
theorem dX6_sum_4 : decode cX6_sum 4 = .ok (.iload_n 1, 1) := by decide +kernel
theorem dX6_sum_5 : decode cX6_sum 5 = .ok (.invokevirtual 93, 3) := by decide +kernel
theorem dX6_sum_8 : decode cX6_sum 8 = .ok (.ifCond .eq 10, 3) := by decide +kernel
theorem dX6_sum_11 : decode cX6_sum 11 = .ok (.iload_n 2, 1) := by decide +kernel
theorem dX6_sum_12 : decode cX6_sum 12 = .ok (.invokestatic 105, 3) := by decide +kernel
theorem dX6_sum_15 : decode cX6_sum 15 = .ok (.ifCond .ne 7, 3) := by decide +kernel
theorem dX6_sum_18 : decode cX6_sum 18 = .ok (.ldc2_w 121, 3) := by decide +kernel
theorem dX6_sum_21 : decode cX6_sum 21 = .ok (.lreturn, 1) := by decide +kernel
theorem dX6_sum_22 : decode cX6_sum 22 = .ok (.aload_n 0, 1) := by decide +kernel
theorem dX6_sum_23 : decode cX6_sum 23 = .ok (.getfield 10, 3) := by decide +kernel
theorem dX6_sum_26 : decode cX6_sum 26 = .ok (.iload_n 1, 1) := by decide +kernel
theorem dX6_sum_27 : decode cX6_sum 27 = .ok (.aload_n 0, 1) := by decide +kernel
theorem dX6_sum_28 : decode cX6_sum 28 = .ok (.getfield 40, 3) := by decide +kernel
theorem dX6_sum_31 : decode cX6_sum 31 = .ok (.getfield 145, 3) := by decide +kernel
theorem dX6_sum_34 : decode cX6_sum 34 = .ok (.invokevirtual 171, 3) := by decide +kernel
theorem dX6_sum_37 : decode cX6_sum 37 = .ok (.aload_n 0, 1) := by decide +kernel
theorem dX6_sum_38 : decode cX6_sum 38 = .ok (.getfield 40, 3) := by decide +kernel
theorem dX6_sum_41 : decode cX6_sum 41 = .ok (.getfield 151, 3) := by decide +kernel
theorem dX6_sum_44 : decode cX6_sum 44 = .ok (.iload_n 2, 1) := by decide +kernel
theorem dX6_sum_45 : decode cX6_sum 45 = .ok (.invokestatic 132, 3) := by decide +kernel
theorem dX6_sum_48 : decode cX6_sum 48 = .ok (.lreturn, 1) := by decide +kernel
set_option maxRecDepth 20000 in
theorem ggX6_count_X2_countingSet : GoodIn wsX6_count wsX2_countingSet := goodIn_r _ [10, 11, 12, 32, 33, 34, 35, 36, 37, 38, 39, 40, 41, 42] (by decide +kernel) (by decide +kernel)
set_option maxRecDepth 20000 in
theorem gX6_count_X2_countingSet : GoodIn wsX6_count (wsV RX6 181 RX2 yX2_countingSet wsX2_countingSet) := goodIn_app (goodIn_of _ (by decide +kernel)) ggX6_count_X2_countingSet
set_option maxRecDepth 20000 in
theorem ggX6_count_J6_bitCount_0f7a4 : GoodIn wsX6_count wsJ6_bitCount_0f7a4 := goodIn_r _ [16, 17, 18, 19] (by decide +kernel) (by decide +kernel)
set_option maxRecDepth 20000 in
theorem gX6_count_J6_bitCount_0f7a4 : GoodIn wsX6_count (va_wsS RX6 185 yJ6_bitCount_0f7a4 wsJ6_bitCount_0f7a4) := goodIn_app (goodIn_of _ (by decide +kernel)) ggX6_count_J6_bitCount_0f7a4
set_option maxRecDepth 20000 in
theorem ggX6_count_X2_columnsOf : GoodIn wsX6_count wsX2_columnsOf := goodIn_r _ [23, 24, 25, 32, 33, 34, 35, 36, 37, 38, 39, 40, 41, 42] (by decide +kernel) (by decide +kernel)
set_option maxRecDepth 20000 in
theorem gX6_count_X2_columnsOf : GoodIn wsX6_count (wsV RX6 191 RX2 yX2_columnsOf wsX2_columnsOf) := goodIn_app (goodIn_of _ (by decide +kernel)) ggX6_count_X2_columnsOf
theorem dX6_count_0 : decode cX6_count 0 = .ok (.iload_n 1, 1) := by decide +kernel
theorem dX6_count_1 : decode cX6_count 1 = .ok (.tableswitch 89 0 5 #[39, 47, 55, 66, 75, 84], 39) := by decide +kernel
theorem dX6_count_40 : decode cX6_count 40 = .ok (.aload_n 0, 1) := by decide +kernel
theorem dX6_count_41 : decode cX6_count 41 = .ok (.getfield 10, 3) := by decide +kernel
theorem dX6_count_44 : decode cX6_count 44 = .ok (.getfield 175, 3) := by decide +kernel
theorem dX6_count_47 : decode cX6_count 47 = .ok (.ireturn, 1) := by decide +kernel
theorem dX6_count_48 : decode cX6_count 48 = .ok (.aload_n 0, 1) := by decide +kernel
theorem dX6_count_49 : decode cX6_count 49 = .ok (.getfield 10, 3) := by decide +kernel
theorem dX6_count_52 : decode cX6_count 52 = .ok (.getfield 178, 3) := by decide +kernel
theorem dX6_count_55 : decode cX6_count 55 = .ok (.ireturn, 1) := by decide +kernel
theorem dX6_count_56 : decode cX6_count 56 = .ok (.aload_n 0, 1) := by decide +kernel
theorem dX6_count_57 : decode cX6_count 57 = .ok (.getfield 10, 3) := by decide +kernel
theorem dX6_count_60 : decode cX6_count 60 = .ok (.invokevirtual 181, 3) := by decide +kernel
theorem dX6_count_63 : decode cX6_count 63 = .ok (.invokestatic 185, 3) := by decide +kernel
theorem dX6_count_66 : decode cX6_count 66 = .ok (.ireturn, 1) := by decide +kernel
theorem dX6_count_67 : decode cX6_count 67 = .ok (.aload_n 0, 1) := by decide +kernel
theorem dX6_count_68 : decode cX6_count 68 = .ok (.getfield 10, 3) := by decide +kernel
theorem dX6_count_71 : decode cX6_count 71 = .ok (.iconst 1, 1) := by decide +kernel
theorem dX6_count_72 : decode cX6_count 72 = .ok (.invokevirtual 191, 3) := by decide +kernel
theorem dX6_count_75 : decode cX6_count 75 = .ok (.ireturn, 1) := by decide +kernel
theorem dX6_count_76 : decode cX6_count 76 = .ok (.aload_n 0, 1) := by decide +kernel
theorem dX6_count_77 : decode cX6_count 77 = .ok (.getfield 10, 3) := by decide +kernel
theorem dX6_count_80 : decode cX6_count 80 = .ok (.iconst 2, 1) := by decide +kernel
theorem dX6_count_81 : decode cX6_count 81 = .ok (.invokevirtual 191, 3) := by decide +kernel
theorem dX6_count_84 : decode cX6_count 84 = .ok (.ireturn, 1) := by decide +kernel
theorem dX6_count_85 : decode cX6_count 85 = .ok (.aload_n 0, 1) := by decide +kernel
theorem dX6_count_86 : decode cX6_count 86 = .ok (.getfield 44, 3) := by decide +kernel
theorem dX6_count_89 : decode cX6_count 89 = .ok (.ireturn, 1) := by decide +kernel
theorem dX6_count_90 : decode cX6_count 90 = .ok (.ldc 56, 2) := by decide +kernel
theorem dX6_count_92 : decode cX6_count 92 = .ok (.ireturn, 1) := by decide +kernel
