theorem dX2_init_0 : decode cX2_init 0 = .ok (.aload_n 0, 1) := by decide +kernel
theorem dX2_init_1 : decode cX2_init 1 = .ok (.invokespecial 3, 3) := by decide +kernel
theorem dX2_init_4 : decode cX2_init 4 = .ok (.aload_n 0, 1) := by decide +kernel
theorem dX2_init_5 : decode cX2_init 5 = .ok (.iconst 5, 1) := by decide +kernel
theorem dX2_init_6 : decode cX2_init 6 = .ok (.newarray .int, 2) := by decide +kernel
theorem dX2_init_8 : decode cX2_init 8 = .ok (.putfield 9, 3) := by decide +kernel
theorem dX2_init_11 : decode cX2_init 11 = .ok (.aload_n 0, 1) := by decide +kernel
theorem dX2_init_12 : decode cX2_init 12 = .ok (.iconst 5, 1) := by decide +kernel
theorem dX2_init_13 : decode cX2_init 13 = .ok (.newarray .int, 2) := by decide +kernel
theorem dX2_init_15 : decode cX2_init 15 = .ok (.putfield 15, 3) := by decide +kernel
theorem dX2_init_18 : decode cX2_init 18 = .ok (.aload_n 0, 1) := by decide +kernel
theorem dX2_init_19 : decode cX2_init 19 = .ok (.iconst 5, 1) := by decide +kernel
theorem dX2_init_20 : decode cX2_init 20 = .ok (.newarray .int, 2) := by decide +kernel
theorem dX2_init_22 : decode cX2_init 22 = .ok (.putfield 18, 3) := by decide +kernel
theorem dX2_init_25 : decode cX2_init 25 = .ok (.aload_n 0, 1) := by decide +kernel
theorem dX2_init_26 : decode cX2_init 26 = .ok (.iconst 5, 1) := by decide +kernel
theorem dX2_init_27 : decode cX2_init 27 = .ok (.newarray .int, 2) := by decide +kernel
theorem dX2_init_29 : decode cX2_init 29 = .ok (.putfield 21, 3) := by decide +kernel
theorem dX2_init_32 : decode cX2_init 32 = .ok (.aload_n 0, 1) := by decide +kernel
theorem dX2_init_33 : decode cX2_init 33 = .ok (.iconst 5, 1) := by decide +kernel
theorem dX2_init_34 : decode cX2_init 34 = .ok (.newarray .int, 2) := by decide +kernel
theorem dX2_init_36 : decode cX2_init 36 = .ok (.putfield 24, 3) := by decide +kernel
theorem dX2_init_39 : decode cX2_init 39 = .ok (.aload_n 0, 1) := by decide +kernel
theorem dX2_init_40 : decode cX2_init 40 = .ok (.bipush 7, 2) := by decide +kernel
theorem dX2_init_42 : decode cX2_init 42 = .ok (.newarray .int, 2) := by decide +kernel
theorem dX2_init_44 : decode cX2_init 44 = .ok (.putfield 27, 3) := by decide +kernel
theorem dX2_init_47 : decode cX2_init 47 = .ok (.aload_n 0, 1) := by decide +kernel
theorem dX2_init_48 : decode cX2_init 48 = .ok (.bipush 7, 2) := by decide +kernel
theorem dX2_init_50 : decode cX2_init 50 = .ok (.newarray .int, 2) := by decide +kernel
theorem dX2_init_52 : decode cX2_init 52 = .ok (.putfield 30, 3) := by decide +kernel
theorem dX2_init_55 : decode cX2_init 55 = .ok (.aload_n 0, 1) := by decide +kernel
theorem dX2_init_56 : decode cX2_init 56 = .ok (.bipush 7, 2) := by decide +kernel
theorem dX2_init_58 : decode cX2_init 58 = .ok (.newarray .int, 2) := by decide +kernel
theorem dX2_init_60 : decode cX2_init 60 = .ok (.putfield 33, 3) := by decide +kernel
theorem dX2_init_63 : decode cX2_init 63 = .ok (.aload_n 0, 1) := by decide +kernel
theorem dX2_init_64 : decode cX2_init 64 = .ok (.bipush 35, 2) := by decide +kernel
theorem dX2_init_66 : decode cX2_init 66 = .ok (.newarray .int, 2) := by decide +kernel
theorem dX2_init_68 : decode cX2_init 68 = .ok (.putfield 36, 3) := by decide +kernel
theorem dX2_init_71 : decode cX2_init 71 = .ok (.aload_n 0, 1) := by decide +kernel
theorem dX2_init_72 : decode cX2_init 72 = .ok (.iconst 0, 1) := by decide +kernel
theorem dX2_init_73 : decode cX2_init 73 = .ok (.putfield 39, 3) := by decide +kernel
theorem dX2_init_76 : decode cX2_init 76 = .ok (.aload_n 0, 1) := by decide +kernel
theorem dX2_init_77 : decode cX2_init 77 = .ok (.iconst 0, 1) := by decide +kernel
theorem dX2_init_78 : decode cX2_init 78 = .ok (.putfield 43, 3) := by decide +kernel
theorem dX2_init_81 : decode cX2_init 81 = .ok (.return_, 1) := by decide +kernel
set_option maxRecDepth 20000 in
theorem ggX2_fits_X6_isWithin : GoodIn wsX2_fits wsX6_isWithin := goodIn_r _ [4] (by decide +kernel) (by decide +kernel)
set_option maxRecDepth 20000 in
theorem gX2_fits_X6_isWithin_n46 : GoodIn wsX2_fits (wsX6_isWithin) := ggX2_fits_X6_isWithin
theorem dX2_fits_0 : decode cX2_fits 0 = .ok (.iload_n 0, 1) := by decide +kernel
theorem dX2_fits_1 : decode cX2_fits 1 = .ok (.iconst 2, 1) := by decide +kernel
theorem dX2_fits_2 : decode cX2_fits 2 = .ok (.if_icmp .ne 5, 3) := by decide +kernel
theorem dX2_fits_5 : decode cX2_fits 5 = .ok (.iconst 1, 1) := by decide +kernel
theorem dX2_fits_6 : decode cX2_fits 6 = .ok (.ireturn, 1) := by decide +kernel
theorem dX2_fits_7 : decode cX2_fits 7 = .ok (.iload_n 1, 1) := by decide +kernel
theorem dX2_fits_8 : decode cX2_fits 8 = .ok (.bipush 20, 2) := by decide +kernel
theorem dX2_fits_10 : decode cX2_fits 10 = .ok (.invokestatic 46, 3) := by decide +kernel
theorem dX2_fits_13 : decode cX2_fits 13 = .ok (.ifCond .ne 5, 3) := by decide +kernel
theorem dX2_fits_16 : decode cX2_fits 16 = .ok (.iconst 0, 1) := by decide +kernel
theorem dX2_fits_17 : decode cX2_fits 17 = .ok (.ireturn, 1) := by decide +kernel
theorem dX2_fits_18 : decode cX2_fits 18 = .ok (.iload_n 2, 1) := by decide +kernel
theorem dX2_fits_19 : decode cX2_fits 19 = .ok (.ldc 50, 2) := by decide +kernel
theorem dX2_fits_21 : decode cX2_fits 21 = .ok (.if_icmp .ne 13, 3) := by decide +kernel
theorem dX2_fits_24 : decode cX2_fits 24 = .ok (.iload_n 0, 1) := by decide +kernel
theorem dX2_fits_25 : decode cX2_fits 25 = .ok (.ifCond .ne 7, 3) := by decide +kernel
theorem dX2_fits_28 : decode cX2_fits 28 = .ok (.iconst 1, 1) := by decide +kernel
theorem dX2_fits_29 : decode cX2_fits 29 = .ok (.goto 4, 3) := by decide +kernel
theorem dX2_fits_32 : decode cX2_fits 32 = .ok (.iconst 0, 1) := by decide +kernel
theorem dX2_fits_33 : decode cX2_fits 33 = .ok (.ireturn, 1) := by decide +kernel
theorem dX2_fits_34 : decode cX2_fits 34 = .ok (.iload_n 2, 1) := by decide +kernel
theorem dX2_fits_35 : decode cX2_fits 35 = .ok (.iload_n 1, 1) := by decide +kernel
theorem dX2_fits_36 : decode cX2_fits 36 = .ok (.if_icmp .lt 9, 3) := by decide +kernel
theorem dX2_fits_39 : decode cX2_fits 39 = .ok (.iload_n 2, 1) := by decide +kernel
theorem dX2_fits_40 : decode cX2_fits 40 = .ok (.bipush 20, 2) := by decide +kernel
theorem dX2_fits_42 : decode cX2_fits 42 = .ok (.if_icmp .le 5, 3) := by decide +kernel
theorem dX2_fits_45 : decode cX2_fits 45 = .ok (.iconst 0, 1) := by decide +kernel
theorem dX2_fits_46 : decode cX2_fits 46 = .ok (.ireturn, 1) := by decide +kernel
theorem dX2_fits_47 : decode cX2_fits 47 = .ok (.iload_n 0, 1) := by decide +kernel
theorem dX2_fits_48 : decode cX2_fits 48 = .ok (.ifCond .eq 11, 3) := by decide +kernel
theorem dX2_fits_51 : decode cX2_fits 51 = .ok (.iload_n 2, 1) := by decide +kernel
theorem dX2_fits_52 : decode cX2_fits 52 = .ok (.iload_n 1, 1) := by decide +kernel
theorem dX2_fits_53 : decode cX2_fits 53 = .ok (.isub, 1) := by decide +kernel
theorem dX2_fits_54 : decode cX2_fits 54 = .ok (.bipush 9, 2) := by decide +kernel
theorem dX2_fits_56 : decode cX2_fits 56 = .ok (.if_icmp .gt 7, 3) := by decide +kernel
theorem dX2_fits_59 : decode cX2_fits 59 = .ok (.iconst 1, 1) := by decide +kernel
theorem dX2_fits_60 : decode cX2_fits 60 = .ok (.goto 4, 3) := by decide +kernel
theorem dX2_fits_63 : decode cX2_fits 63 = .ok (.iconst 0, 1) := by decide +kernel
theorem dX2_fits_64 : decode cX2_fits 64 = .ok (.ireturn, 1) := by decide +kernel
theorem dX2_addColumn_0 : decode cX2_addColumn 0 = .ok (.aload_n 0, 1) := by decide +kernel
theorem dX2_addColumn_1 : decode cX2_addColumn 1 = .ok (.getfield 39, 3) := by decide +kernel
theorem dX2_addColumn_4 : decode cX2_addColumn 4 = .ok (.istore 4, 2) := by decide +kernel
theorem dX2_addColumn_6 : decode cX2_addColumn 6 = .ok (.iload 4, 2) := by decide +kernel
theorem dX2_addColumn_8 : decode cX2_addColumn 8 = .ok (.ifCond .lt 9, 3) := by decide +kernel
theorem dX2_addColumn_11 : decode cX2_addColumn 11 = .ok (.iload 4, 2) := by decide +kernel
theorem dX2_addColumn_13 : decode cX2_addColumn 13 = .ok (.iconst 5, 1) := by decide +kernel
theorem dX2_addColumn_14 : decode cX2_addColumn 14 = .ok (.if_icmp .lt 6, 3) := by decide +kernel
theorem dX2_addColumn_17 : decode cX2_addColumn 17 = .ok (.ldc 51, 2) := by decide +kernel
theorem dX2_addColumn_19 : decode cX2_addColumn 19 = .ok (.ireturn, 1) := by decide +kernel
theorem dX2_addColumn_20 : decode cX2_addColumn 20 = .ok (.aload_n 0, 1) := by decide +kernel
theorem dX2_addColumn_21 : decode cX2_addColumn 21 = .ok (.getfield 9, 3) := by decide +kernel
theorem dX2_addColumn_24 : decode cX2_addColumn 24 = .ok (.iload 4, 2) := by decide +kernel
theorem dX2_addColumn_26 : decode cX2_addColumn 26 = .ok (.iload_n 1, 1) := by decide +kernel
theorem dX2_addColumn_27 : decode cX2_addColumn 27 = .ok (.iastore, 1) := by decide +kernel
theorem dX2_addColumn_28 : decode cX2_addColumn 28 = .ok (.aload_n 0, 1) := by decide +kernel
theorem dX2_addColumn_29 : decode cX2_addColumn 29 = .ok (.getfield 15, 3) := by decide +kernel
theorem dX2_addColumn_32 : decode cX2_addColumn 32 = .ok (.iload 4, 2) := by decide +kernel
theorem dX2_addColumn_34 : decode cX2_addColumn 34 = .ok (.iload_n 1, 1) := by decide +kernel
theorem dX2_addColumn_35 : decode cX2_addColumn 35 = .ok (.iconst 2, 1) := by decide +kernel
theorem dX2_addColumn_36 : decode cX2_addColumn 36 = .ok (.if_icmp .ne 7, 3) := by decide +kernel
theorem dX2_addColumn_39 : decode cX2_addColumn 39 = .ok (.iconst 0, 1) := by decide +kernel
theorem dX2_addColumn_40 : decode cX2_addColumn 40 = .ok (.goto 4, 3) := by decide +kernel
theorem dX2_addColumn_43 : decode cX2_addColumn 43 = .ok (.iload_n 2, 1) := by decide +kernel
theorem dX2_addColumn_44 : decode cX2_addColumn 44 = .ok (.iastore, 1) := by decide +kernel
theorem dX2_addColumn_45 : decode cX2_addColumn 45 = .ok (.aload_n 0, 1) := by decide +kernel
theorem dX2_addColumn_46 : decode cX2_addColumn 46 = .ok (.getfield 18, 3) := by decide +kernel
theorem dX2_addColumn_49 : decode cX2_addColumn 49 = .ok (.iload 4, 2) := by decide +kernel
theorem dX2_addColumn_51 : decode cX2_addColumn 51 = .ok (.iload_n 1, 1) := by decide +kernel
theorem dX2_addColumn_52 : decode cX2_addColumn 52 = .ok (.iconst 2, 1) := by decide +kernel
theorem dX2_addColumn_53 : decode cX2_addColumn 53 = .ok (.if_icmp .ne 7, 3) := by decide +kernel
theorem dX2_addColumn_56 : decode cX2_addColumn 56 = .ok (.iconst 1, 1) := by decide +kernel
theorem dX2_addColumn_57 : decode cX2_addColumn 57 = .ok (.goto 4, 3) := by decide +kernel
theorem dX2_addColumn_60 : decode cX2_addColumn 60 = .ok (.iload_n 3, 1) := by decide +kernel
theorem dX2_addColumn_61 : decode cX2_addColumn 61 = .ok (.iastore, 1) := by decide +kernel
theorem dX2_addColumn_62 : decode cX2_addColumn 62 = .ok (.aload_n 0, 1) := by decide +kernel
theorem dX2_addColumn_63 : decode cX2_addColumn 63 = .ok (.getfield 24, 3) := by decide +kernel
theorem dX2_addColumn_66 : decode cX2_addColumn 66 = .ok (.iload 4, 2) := by decide +kernel
theorem dX2_addColumn_68 : decode cX2_addColumn 68 = .ok (.ldc 50, 2) := by decide +kernel
theorem dX2_addColumn_70 : decode cX2_addColumn 70 = .ok (.iastore, 1) := by decide +kernel
theorem dX2_addColumn_71 : decode cX2_addColumn 71 = .ok (.aload_n 0, 1) := by decide +kernel
theorem dX2_addColumn_72 : decode cX2_addColumn 72 = .ok (.dup, 1) := by decide +kernel
theorem dX2_addColumn_73 : decode cX2_addColumn 73 = .ok (.getfield 39, 3) := by decide +kernel
theorem dX2_addColumn_76 : decode cX2_addColumn 76 = .ok (.iconst 1, 1) := by decide +kernel
theorem dX2_addColumn_77 : decode cX2_addColumn 77 = .ok (.iadd, 1) := by decide +kernel
theorem dX2_addColumn_78 : decode cX2_addColumn 78 = .ok (.putfield 39, 3) := by decide +kernel
theorem dX2_addColumn_81 : decode cX2_addColumn 81 = .ok (.iload 4, 2) := by decide +kernel
theorem dX2_addColumn_83 : decode cX2_addColumn 83 = .ok (.ireturn, 1) := by decide +kernel
theorem dX2_addRow_0 : decode cX2_addRow 0 = .ok (.aload_n 0, 1) := by decide +kernel
theorem dX2_addRow_1 : decode cX2_addRow 1 = .ok (.getfield 43, 3) := by decide +kernel
theorem dX2_addRow_4 : decode cX2_addRow 4 = .ok (.istore_n 3, 1) := by decide +kernel
theorem dX2_addRow_5 : decode cX2_addRow 5 = .ok (.iload_n 3, 1) := by decide +kernel
theorem dX2_addRow_6 : decode cX2_addRow 6 = .ok (.ifCond .lt 9, 3) := by decide +kernel
theorem dX2_addRow_9 : decode cX2_addRow 9 = .ok (.iload_n 3, 1) := by decide +kernel
theorem dX2_addRow_10 : decode cX2_addRow 10 = .ok (.bipush 7, 2) := by decide +kernel
theorem dX2_addRow_12 : decode cX2_addRow 12 = .ok (.if_icmp .lt 6, 3) := by decide +kernel
theorem dX2_addRow_15 : decode cX2_addRow 15 = .ok (.ldc 51, 2) := by decide +kernel
theorem dX2_addRow_17 : decode cX2_addRow 17 = .ok (.ireturn, 1) := by decide +kernel
theorem dX2_addRow_18 : decode cX2_addRow 18 = .ok (.aload_n 0, 1) := by decide +kernel
theorem dX2_addRow_19 : decode cX2_addRow 19 = .ok (.getfield 27, 3) := by decide +kernel
theorem dX2_addRow_22 : decode cX2_addRow 22 = .ok (.iload_n 3, 1) := by decide +kernel
theorem dX2_addRow_23 : decode cX2_addRow 23 = .ok (.iload_n 1, 1) := by decide +kernel
theorem dX2_addRow_24 : decode cX2_addRow 24 = .ok (.iastore, 1) := by decide +kernel
theorem dX2_addRow_25 : decode cX2_addRow 25 = .ok (.aload_n 0, 1) := by decide +kernel
theorem dX2_addRow_26 : decode cX2_addRow 26 = .ok (.getfield 30, 3) := by decide +kernel
theorem dX2_addRow_29 : decode cX2_addRow 29 = .ok (.iload_n 3, 1) := by decide +kernel
theorem dX2_addRow_30 : decode cX2_addRow 30 = .ok (.iload_n 2, 1) := by decide +kernel
theorem dX2_addRow_31 : decode cX2_addRow 31 = .ok (.iastore, 1) := by decide +kernel
theorem dX2_addRow_32 : decode cX2_addRow 32 = .ok (.aload_n 0, 1) := by decide +kernel
theorem dX2_addRow_33 : decode cX2_addRow 33 = .ok (.getfield 33, 3) := by decide +kernel
theorem dX2_addRow_36 : decode cX2_addRow 36 = .ok (.iload_n 3, 1) := by decide +kernel
theorem dX2_addRow_37 : decode cX2_addRow 37 = .ok (.iconst 1, 1) := by decide +kernel
theorem dX2_addRow_38 : decode cX2_addRow 38 = .ok (.iastore, 1) := by decide +kernel
theorem dX2_addRow_39 : decode cX2_addRow 39 = .ok (.aload_n 0, 1) := by decide +kernel
theorem dX2_addRow_40 : decode cX2_addRow 40 = .ok (.dup, 1) := by decide +kernel
theorem dX2_addRow_41 : decode cX2_addRow 41 = .ok (.getfield 43, 3) := by decide +kernel
theorem dX2_addRow_44 : decode cX2_addRow 44 = .ok (.iconst 1, 1) := by decide +kernel
theorem dX2_addRow_45 : decode cX2_addRow 45 = .ok (.iadd, 1) := by decide +kernel
theorem dX2_addRow_46 : decode cX2_addRow 46 = .ok (.putfield 43, 3) := by decide +kernel
theorem dX2_addRow_49 : decode cX2_addRow 49 = .ok (.iload_n 3, 1) := by decide +kernel
theorem dX2_addRow_50 : decode cX2_addRow 50 = .ok (.ireturn, 1) := by decide +kernel
theorem dX2_hasColumn_0 : decode cX2_hasColumn 0 = .ok (.iload_n 1, 1) := by decide +kernel
theorem dX2_hasColumn_1 : decode cX2_hasColumn 1 = .ok (.ifCond .lt 20, 3) := by decide +kernel
theorem dX2_hasColumn_4 : decode cX2_hasColumn 4 = .ok (.iload_n 1, 1) := by decide +kernel
theorem dX2_hasColumn_5 : decode cX2_hasColumn 5 = .ok (.aload_n 0, 1) := by decide +kernel
theorem dX2_hasColumn_6 : decode cX2_hasColumn 6 = .ok (.getfield 39, 3) := by decide +kernel
theorem dX2_hasColumn_9 : decode cX2_hasColumn 9 = .ok (.if_icmp .ge 12, 3) := by decide +kernel
theorem dX2_hasColumn_12 : decode cX2_hasColumn 12 = .ok (.iload_n 1, 1) := by decide +kernel
theorem dX2_hasColumn_13 : decode cX2_hasColumn 13 = .ok (.iconst 5, 1) := by decide +kernel
theorem dX2_hasColumn_14 : decode cX2_hasColumn 14 = .ok (.if_icmp .ge 7, 3) := by decide +kernel
theorem dX2_hasColumn_17 : decode cX2_hasColumn 17 = .ok (.iconst 1, 1) := by decide +kernel
theorem dX2_hasColumn_18 : decode cX2_hasColumn 18 = .ok (.goto 4, 3) := by decide +kernel
theorem dX2_hasColumn_21 : decode cX2_hasColumn 21 = .ok (.iconst 0, 1) := by decide +kernel
theorem dX2_hasColumn_22 : decode cX2_hasColumn 22 = .ok (.ireturn, 1) := by decide +kernel
theorem dX2_hasRow_0 : decode cX2_hasRow 0 = .ok (.iload_n 1, 1) := by decide +kernel
theorem dX2_hasRow_1 : decode cX2_hasRow 1 = .ok (.ifCond .lt 21, 3) := by decide +kernel
theorem dX2_hasRow_4 : decode cX2_hasRow 4 = .ok (.iload_n 1, 1) := by decide +kernel
theorem dX2_hasRow_5 : decode cX2_hasRow 5 = .ok (.aload_n 0, 1) := by decide +kernel
theorem dX2_hasRow_6 : decode cX2_hasRow 6 = .ok (.getfield 43, 3) := by decide +kernel
theorem dX2_hasRow_9 : decode cX2_hasRow 9 = .ok (.if_icmp .ge 13, 3) := by decide +kernel
theorem dX2_hasRow_12 : decode cX2_hasRow 12 = .ok (.iload_n 1, 1) := by decide +kernel
theorem dX2_hasRow_13 : decode cX2_hasRow 13 = .ok (.bipush 7, 2) := by decide +kernel
theorem dX2_hasRow_15 : decode cX2_hasRow 15 = .ok (.if_icmp .ge 7, 3) := by decide +kernel
theorem dX2_hasRow_18 : decode cX2_hasRow 18 = .ok (.iconst 1, 1) := by decide +kernel
theorem dX2_hasRow_19 : decode cX2_hasRow 19 = .ok (.goto 4, 3) := by decide +kernel
theorem dX2_hasRow_22 : decode cX2_hasRow 22 = .ok (.iconst 0, 1) := by decide +kernel
theorem dX2_hasRow_23 : decode cX2_hasRow 23 = .ok (.ireturn, 1) := by decide +kernel
theorem dX2_isWhole_0 : decode cX2_isWhole 0 = .ok (.aload_n 0, 1) := by decide +kernel
theorem dX2_isWhole_1 : decode cX2_isWhole 1 = .ok (.getfield 9, 3) := by decide +kernel
theorem dX2_isWhole_4 : decode cX2_isWhole 4 = .ok (.iload_n 1, 1) := by decide +kernel
theorem dX2_isWhole_5 : decode cX2_isWhole 5 = .ok (.iaload, 1) := by decide +kernel
theorem dX2_isWhole_6 : decode cX2_isWhole 6 = .ok (.iconst 1, 1) := by decide +kernel
theorem dX2_isWhole_7 : decode cX2_isWhole 7 = .ok (.if_icmp .lt 7, 3) := by decide +kernel
theorem dX2_isWhole_10 : decode cX2_isWhole 10 = .ok (.iconst 1, 1) := by decide +kernel
theorem dX2_isWhole_11 : decode cX2_isWhole 11 = .ok (.goto 4, 3) := by decide +kernel
theorem dX2_isWhole_14 : decode cX2_isWhole 14 = .ok (.iconst 0, 1) := by decide +kernel
theorem dX2_isWhole_15 : decode cX2_isWhole 15 = .ok (.ireturn, 1) := by decide +kernel
theorem dX2_isSwitch_0 : decode cX2_isSwitch 0 = .ok (.aload_n 0, 1) := by decide +kernel
theorem dX2_isSwitch_1 : decode cX2_isSwitch 1 = .ok (.getfield 9, 3) := by decide +kernel
theorem dX2_isSwitch_4 : decode cX2_isSwitch 4 = .ok (.iload_n 1, 1) := by decide +kernel
theorem dX2_isSwitch_5 : decode cX2_isSwitch 5 = .ok (.iaload, 1) := by decide +kernel
theorem dX2_isSwitch_6 : decode cX2_isSwitch 6 = .ok (.iconst 2, 1) := by decide +kernel
theorem dX2_isSwitch_7 : decode cX2_isSwitch 7 = .ok (.if_icmp .ne 7, 3) := by decide +kernel
theorem dX2_isSwitch_10 : decode cX2_isSwitch 10 = .ok (.iconst 1, 1) := by decide +kernel
theorem dX2_isSwitch_11 : decode cX2_isSwitch 11 = .ok (.goto 4, 3) := by decide +kernel
theorem dX2_isSwitch_14 : decode cX2_isSwitch 14 = .ok (.iconst 0, 1) := by decide +kernel
theorem dX2_isSwitch_15 : decode cX2_isSwitch 15 = .ok (.ireturn, 1) := by decide +kernel
theorem dX2_shareOf_0 : decode cX2_shareOf 0 = .ok (.aload_n 0, 1) := by decide +kernel
theorem dX2_shareOf_1 : decode cX2_shareOf 1 = .ok (.getfield 36, 3) := by decide +kernel
theorem dX2_shareOf_4 : decode cX2_shareOf 4 = .ok (.iload_n 1, 1) := by decide +kernel
theorem dX2_shareOf_5 : decode cX2_shareOf 5 = .ok (.iconst 5, 1) := by decide +kernel
theorem dX2_shareOf_6 : decode cX2_shareOf 6 = .ok (.imul, 1) := by decide +kernel
theorem dX2_shareOf_7 : decode cX2_shareOf 7 = .ok (.iload_n 2, 1) := by decide +kernel
theorem dX2_shareOf_8 : decode cX2_shareOf 8 = .ok (.iadd, 1) := by decide +kernel
theorem dX2_shareOf_9 : decode cX2_shareOf 9 = .ok (.iaload, 1) := by decide +kernel
theorem dX2_shareOf_10 : decode cX2_shareOf 10 = .ok (.ireturn, 1) := by decide +kernel
theorem dX2_columnsOf_0 : decode cX2_columnsOf 0 = .ok (.iconst 0, 1) := by decide +kernel
theorem dX2_columnsOf_1 : decode cX2_columnsOf 1 = .ok (.istore_n 2, 1) := by decide +kernel
theorem dX2_columnsOf_2 : decode cX2_columnsOf 2 = .ok (.iconst 0, 1) := by decide +kernel
theorem dX2_columnsOf_3 : decode cX2_columnsOf 3 = .ok (.istore_n 3, 1) := by decide +kernel
theorem dX2_columnsOf_4 : decode cX2_columnsOf 4 = .ok (.iload_n 3, 1) := by decide +kernel
theorem dX2_columnsOf_5 : decode cX2_columnsOf 5 = .ok (.aload_n 0, 1) := by decide +kernel
theorem dX2_columnsOf_6 : decode cX2_columnsOf 6 = .ok (.getfield 39, 3) := by decide +kernel
theorem dX2_columnsOf_9 : decode cX2_columnsOf 9 = .ok (.if_icmp .ge 22, 3) := by decide +kernel
theorem dX2_columnsOf_12 : decode cX2_columnsOf 12 = .ok (.aload_n 0, 1) := by decide +kernel
theorem dX2_columnsOf_13 : decode cX2_columnsOf 13 = .ok (.getfield 9, 3) := by decide +kernel
theorem dX2_columnsOf_16 : decode cX2_columnsOf 16 = .ok (.iload_n 3, 1) := by decide +kernel
theorem dX2_columnsOf_17 : decode cX2_columnsOf 17 = .ok (.iaload, 1) := by decide +kernel
theorem dX2_columnsOf_18 : decode cX2_columnsOf 18 = .ok (.iload_n 1, 1) := by decide +kernel
theorem dX2_columnsOf_19 : decode cX2_columnsOf 19 = .ok (.if_icmp .lt 6, 3) := by decide +kernel
theorem dX2_columnsOf_22 : decode cX2_columnsOf 22 = .ok (.iinc 2 1, 3) := by decide +kernel
theorem dX2_columnsOf_25 : decode cX2_columnsOf 25 = .ok (.iinc 3 1, 3) := by decide +kernel
theorem dX2_columnsOf_28 : decode cX2_columnsOf 28 = .ok (.goto (-24), 3) := by decide +kernel
theorem dX2_columnsOf_31 : decode cX2_columnsOf 31 = .ok (.iload_n 2, 1) := by decide +kernel
theorem dX2_columnsOf_32 : decode cX2_columnsOf 32 = .ok (.ireturn, 1) := by decide +kernel
theorem dX2_countingSet_0 : decode cX2_countingSet 0 = .ok (.iconst 0, 1) := by decide +kernel
theorem dX2_countingSet_1 : decode cX2_countingSet 1 = .ok (.istore_n 1, 1) := by decide +kernel
theorem dX2_countingSet_2 : decode cX2_countingSet 2 = .ok (.iconst 0, 1) := by decide +kernel
theorem dX2_countingSet_3 : decode cX2_countingSet 3 = .ok (.istore_n 2, 1) := by decide +kernel
theorem dX2_countingSet_4 : decode cX2_countingSet 4 = .ok (.iload_n 2, 1) := by decide +kernel
theorem dX2_countingSet_5 : decode cX2_countingSet 5 = .ok (.aload_n 0, 1) := by decide +kernel
theorem dX2_countingSet_6 : decode cX2_countingSet 6 = .ok (.getfield 43, 3) := by decide +kernel
theorem dX2_countingSet_9 : decode cX2_countingSet 9 = .ok (.if_icmp .ge 25, 3) := by decide +kernel
theorem dX2_countingSet_12 : decode cX2_countingSet 12 = .ok (.aload_n 0, 1) := by decide +kernel
theorem dX2_countingSet_13 : decode cX2_countingSet 13 = .ok (.getfield 33, 3) := by decide +kernel
theorem dX2_countingSet_16 : decode cX2_countingSet 16 = .ok (.iload_n 2, 1) := by decide +kernel
theorem dX2_countingSet_17 : decode cX2_countingSet 17 = .ok (.iaload, 1) := by decide +kernel
theorem dX2_countingSet_18 : decode cX2_countingSet 18 = .ok (.iconst 1, 1) := by decide +kernel
theorem dX2_countingSet_19 : decode cX2_countingSet 19 = .ok (.if_icmp .ne 9, 3) := by decide +kernel
theorem dX2_countingSet_22 : decode cX2_countingSet 22 = .ok (.iload_n 1, 1) := by decide +kernel
theorem dX2_countingSet_23 : decode cX2_countingSet 23 = .ok (.iconst 1, 1) := by decide +kernel
theorem dX2_countingSet_24 : decode cX2_countingSet 24 = .ok (.iload_n 2, 1) := by decide +kernel
theorem dX2_countingSet_25 : decode cX2_countingSet 25 = .ok (.ishl, 1) := by decide +kernel
theorem dX2_countingSet_26 : decode cX2_countingSet 26 = .ok (.ior, 1) := by decide +kernel
theorem dX2_countingSet_27 : decode cX2_countingSet 27 = .ok (.istore_n 1, 1) := by decide +kernel
theorem dX2_countingSet_28 : decode cX2_countingSet 28 = .ok (.iinc 2 1, 3) := by decide +kernel
theorem dX2_countingSet_31 : decode cX2_countingSet 31 = .ok (.goto (-27), 3) := by decide +kernel
theorem dX2_countingSet_34 : decode cX2_countingSet 34 = .ok (.iload_n 1, 1) := by decide +kernel
theorem dX2_countingSet_35 : decode cX2_countingSet 35 = .ok (.ireturn, 1) := by decide +kernel
set_option maxRecDepth 20000 in
theorem ggX2_sumIn_X2_shareOf : GoodIn wsX2_sumIn wsX2_shareOf := goodIn_r _ [6, 7, 8, 9, 10, 11, 12, 13, 14, 15, 16, 17, 18] (by decide +kernel) (by decide +kernel)
set_option maxRecDepth 20000 in
theorem gX2_sumIn_X2_shareOf : GoodIn wsX2_sumIn (wsV RX2 52 RX2 yX2_shareOf wsX2_shareOf) := goodIn_app (goodIn_of _ (by decide +kernel)) ggX2_sumIn_X2_shareOf
theorem dX2_sumIn_0 : decode cX2_sumIn 0 = .ok (.lconst 0, 1) := by decide +kernel
theorem dX2_sumIn_1 : decode cX2_sumIn 1 = .ok (.lstore_n 3, 1) := by decide +kernel
theorem dX2_sumIn_2 : decode cX2_sumIn 2 = .ok (.iconst 0, 1) := by decide +kernel
theorem dX2_sumIn_3 : decode cX2_sumIn 3 = .ok (.istore 5, 2) := by decide +kernel
theorem dX2_sumIn_5 : decode cX2_sumIn 5 = .ok (.iload 5, 2) := by decide +kernel
theorem dX2_sumIn_7 : decode cX2_sumIn 7 = .ok (.aload_n 0, 1) := by decide +kernel
theorem dX2_sumIn_8 : decode cX2_sumIn 8 = .ok (.getfield 39, 3) := by decide +kernel
theorem dX2_sumIn_11 : decode cX2_sumIn 11 = .ok (.if_icmp .ge 32, 3) := by decide +kernel
theorem dX2_sumIn_14 : decode cX2_sumIn 14 = .ok (.iload 5, 2) := by decide +kernel
theorem dX2_sumIn_16 : decode cX2_sumIn 16 = .ok (.aload_n 2, 1) := by decide +kernel
theorem dX2_sumIn_17 : decode cX2_sumIn 17 = .ok (.arraylength, 1) := by decide +kernel
theorem dX2_sumIn_18 : decode cX2_sumIn 18 = .ok (.if_icmp .ge 25, 3) := by decide +kernel
theorem dX2_sumIn_21 : decode cX2_sumIn 21 = .ok (.lload_n 3, 1) := by decide +kernel
theorem dX2_sumIn_22 : decode cX2_sumIn 22 = .ok (.aload_n 0, 1) := by decide +kernel
theorem dX2_sumIn_23 : decode cX2_sumIn 23 = .ok (.iload_n 1, 1) := by decide +kernel
theorem dX2_sumIn_24 : decode cX2_sumIn 24 = .ok (.iload 5, 2) := by decide +kernel
theorem dX2_sumIn_26 : decode cX2_sumIn 26 = .ok (.invokevirtual 52, 3) := by decide +kernel
theorem dX2_sumIn_29 : decode cX2_sumIn 29 = .ok (.i2l, 1) := by decide +kernel
theorem dX2_sumIn_30 : decode cX2_sumIn 30 = .ok (.aload_n 2, 1) := by decide +kernel
theorem dX2_sumIn_31 : decode cX2_sumIn 31 = .ok (.iload 5, 2) := by decide +kernel
theorem dX2_sumIn_33 : decode cX2_sumIn 33 = .ok (.laload, 1) := by decide +kernel
theorem dX2_sumIn_34 : decode cX2_sumIn 34 = .ok (.lmul, 1) := by decide +kernel
theorem dX2_sumIn_35 : decode cX2_sumIn 35 = .ok (.ladd, 1) := by decide +kernel
theorem dX2_sumIn_36 : decode cX2_sumIn 36 = .ok (.lstore_n 3, 1) := by decide +kernel
theorem dX2_sumIn_37 : decode cX2_sumIn 37 = .ok (.iinc 5 1, 3) := by decide +kernel
theorem dX2_sumIn_40 : decode cX2_sumIn 40 = .ok (.goto (-35), 3) := by decide +kernel
theorem dX2_sumIn_43 : decode cX2_sumIn 43 = .ok (.lload_n 3, 1) := by decide +kernel
theorem dX2_sumIn_44 : decode cX2_sumIn 44 = .ok (.lreturn, 1) := by decide +kernel
set_option maxRecDepth 20000 in
theorem ggX2_isKept_X2_sumIn : GoodIn wsX2_isKept wsX2_sumIn := goodIn_r _ [7, 8, 9, 10, 11, 6, 12, 13, 18, 19, 20, 21, 22, 23, 24, 25, 26, 27, 28] (by decide +kernel) (by decide +kernel)
set_option maxRecDepth 20000 in
theorem gX2_isKept_X2_sumIn : GoodIn wsX2_isKept (wsV RX2 56 RX2 yX2_sumIn wsX2_sumIn) := goodIn_app (goodIn_of _ (by decide +kernel)) ggX2_isKept_X2_sumIn
set_option maxRecDepth 20000 in
theorem ggX2_isKept_J13_compare_74951 : GoodIn wsX2_isKept wsJ13_compare_74951 := goodIn_r _ [17] (by decide +kernel) (by decide +kernel)
set_option maxRecDepth 20000 in
theorem gX2_isKept_J13_compare_74951 : GoodIn wsX2_isKept (va_wsS RX2 60 yJ13_compare_74951 wsJ13_compare_74951) := goodIn_app (goodIn_of _ (by decide +kernel)) ggX2_isKept_J13_compare_74951
theorem dX2_isKept_0 : decode cX2_isKept 0 = .ok (.aload_n 0, 1) := by decide +kernel
theorem dX2_isKept_1 : decode cX2_isKept 1 = .ok (.iload_n 1, 1) := by decide +kernel
theorem dX2_isKept_2 : decode cX2_isKept 2 = .ok (.aload_n 2, 1) := by decide +kernel
theorem dX2_isKept_3 : decode cX2_isKept 3 = .ok (.invokevirtual 56, 3) := by decide +kernel
theorem dX2_isKept_6 : decode cX2_isKept 6 = .ok (.aload_n 0, 1) := by decide +kernel
theorem dX2_isKept_7 : decode cX2_isKept 7 = .ok (.getfield 30, 3) := by decide +kernel
theorem dX2_isKept_10 : decode cX2_isKept 10 = .ok (.iload_n 1, 1) := by decide +kernel
theorem dX2_isKept_11 : decode cX2_isKept 11 = .ok (.iaload, 1) := by decide +kernel
theorem dX2_isKept_12 : decode cX2_isKept 12 = .ok (.i2l, 1) := by decide +kernel
theorem dX2_isKept_13 : decode cX2_isKept 13 = .ok (.lload_n 3, 1) := by decide +kernel
theorem dX2_isKept_14 : decode cX2_isKept 14 = .ok (.lmul, 1) := by decide +kernel
theorem dX2_isKept_15 : decode cX2_isKept 15 = .ok (.invokestatic 60, 3) := by decide +kernel
theorem dX2_isKept_18 : decode cX2_isKept 18 = .ok (.istore 5, 2) := by decide +kernel
theorem dX2_isKept_20 : decode cX2_isKept 20 = .ok (.iload 5, 2) := by decide +kernel
theorem dX2_isKept_22 : decode cX2_isKept 22 = .ok (.ifCond .eq 22, 3) := by decide +kernel
theorem dX2_isKept_25 : decode cX2_isKept 25 = .ok (.aload_n 0, 1) := by decide +kernel
theorem dX2_isKept_26 : decode cX2_isKept 26 = .ok (.getfield 27, 3) := by decide +kernel
theorem dX2_isKept_29 : decode cX2_isKept 29 = .ok (.iload_n 1, 1) := by decide +kernel
theorem dX2_isKept_30 : decode cX2_isKept 30 = .ok (.iaload, 1) := by decide +kernel
theorem dX2_isKept_31 : decode cX2_isKept 31 = .ok (.iload 5, 2) := by decide +kernel
theorem dX2_isKept_33 : decode cX2_isKept 33 = .ok (.ifCond .ge 7, 3) := by decide +kernel
theorem dX2_isKept_36 : decode cX2_isKept 36 = .ok (.iconst 0, 1) := by decide +kernel
theorem dX2_isKept_37 : decode cX2_isKept 37 = .ok (.goto 4, 3) := by decide +kernel
theorem dX2_isKept_40 : decode cX2_isKept 40 = .ok (.iconst 1, 1) := by decide +kernel
theorem dX2_isKept_41 : decode cX2_isKept 41 = .ok (.if_icmp .ne 7, 3) := by decide +kernel
theorem dX2_isKept_44 : decode cX2_isKept 44 = .ok (.iconst 1, 1) := by decide +kernel
theorem dX2_isKept_45 : decode cX2_isKept 45 = .ok (.goto 4, 3) := by decide +kernel
theorem dX2_isKept_48 : decode cX2_isKept 48 = .ok (.iconst 0, 1) := by decide +kernel
theorem dX2_isKept_49 : decode cX2_isKept 49 = .ok (.ireturn, 1) := by decide +kernel
set_option maxRecDepth 20000 in
theorem ggX2_divisorIn_X2_shareOf : GoodIn wsX2_divisorIn wsX2_shareOf := goodIn_r _ [6, 7, 20, 21, 22, 23, 24, 25, 26, 27, 28, 29, 30] (by decide +kernel) (by decide +kernel)
set_option maxRecDepth 20000 in
theorem gX2_divisorIn_X2_shareOf : GoodIn wsX2_divisorIn (wsV RX2 52 RX2 yX2_shareOf wsX2_shareOf) := goodIn_app (goodIn_of _ (by decide +kernel)) ggX2_divisorIn_X2_shareOf
set_option maxRecDepth 20000 in
theorem ggX2_divisorIn_X2_isWhole : GoodIn wsX2_divisorIn wsX2_isWhole := goodIn_r _ [11, 12, 20, 21, 22, 23, 24, 25, 26, 27, 28, 29, 30] (by decide +kernel) (by decide +kernel)
set_option maxRecDepth 20000 in
theorem gX2_divisorIn_X2_isWhole : GoodIn wsX2_divisorIn (wsV RX2 66 RX2 yX2_isWhole wsX2_isWhole) := goodIn_app (goodIn_of _ (by decide +kernel)) ggX2_divisorIn_X2_isWhole
set_option maxRecDepth 20000 in
theorem ggX2_divisorIn_X6_commonDivisor : GoodIn wsX2_divisorIn wsX6_commonDivisor := goodIn_r _ [15, 16, 17, 18, 19] (by decide +kernel) (by decide +kernel)
set_option maxRecDepth 20000 in
theorem gX2_divisorIn_X6_commonDivisor_n70 : GoodIn wsX2_divisorIn (wsX6_commonDivisor) := ggX2_divisorIn_X6_commonDivisor
theorem dX2_divisorIn_0 : decode cX2_divisorIn 0 = .ok (.lconst 0, 1) := by decide +kernel
theorem dX2_divisorIn_1 : decode cX2_divisorIn 1 = .ok (.lstore_n 2, 1) := by decide +kernel
theorem dX2_divisorIn_2 : decode cX2_divisorIn 2 = .ok (.iconst 0, 1) := by decide +kernel
theorem dX2_divisorIn_3 : decode cX2_divisorIn 3 = .ok (.istore 4, 2) := by decide +kernel
theorem dX2_divisorIn_5 : decode cX2_divisorIn 5 = .ok (.iload 4, 2) := by decide +kernel
theorem dX2_divisorIn_7 : decode cX2_divisorIn 7 = .ok (.aload_n 0, 1) := by decide +kernel
theorem dX2_divisorIn_8 : decode cX2_divisorIn 8 = .ok (.getfield 39, 3) := by decide +kernel
theorem dX2_divisorIn_11 : decode cX2_divisorIn 11 = .ok (.if_icmp .ge 42, 3) := by decide +kernel
theorem dX2_divisorIn_14 : decode cX2_divisorIn 14 = .ok (.aload_n 0, 1) := by decide +kernel
theorem dX2_divisorIn_15 : decode cX2_divisorIn 15 = .ok (.iload_n 1, 1) := by decide +kernel
theorem dX2_divisorIn_16 : decode cX2_divisorIn 16 = .ok (.iload 4, 2) := by decide +kernel
theorem dX2_divisorIn_18 : decode cX2_divisorIn 18 = .ok (.invokevirtual 52, 3) := by decide +kernel
theorem dX2_divisorIn_21 : decode cX2_divisorIn 21 = .ok (.istore 5, 2) := by decide +kernel
theorem dX2_divisorIn_23 : decode cX2_divisorIn 23 = .ok (.iload 5, 2) := by decide +kernel
theorem dX2_divisorIn_25 : decode cX2_divisorIn 25 = .ok (.ifCond .eq 14, 3) := by decide +kernel
theorem dX2_divisorIn_28 : decode cX2_divisorIn 28 = .ok (.aload_n 0, 1) := by decide +kernel
theorem dX2_divisorIn_29 : decode cX2_divisorIn 29 = .ok (.iload 4, 2) := by decide +kernel
theorem dX2_divisorIn_31 : decode cX2_divisorIn 31 = .ok (.invokevirtual 66, 3) := by decide +kernel
theorem dX2_divisorIn_34 : decode cX2_divisorIn 34 = .ok (.ifCond .ne 5, 3) := by decide +kernel
theorem dX2_divisorIn_37 : decode cX2_divisorIn 37 = .ok (.iconst 0, 1) := by decide +kernel
theorem dX2_divisorIn_38 : decode cX2_divisorIn 38 = .ok (.ireturn, 1) := by decide +kernel
theorem dX2_divisorIn_39 : decode cX2_divisorIn 39 = .ok (.lload_n 2, 1) := by decide +kernel
theorem dX2_divisorIn_40 : decode cX2_divisorIn 40 = .ok (.iload 5, 2) := by decide +kernel
theorem dX2_divisorIn_42 : decode cX2_divisorIn 42 = .ok (.i2l, 1) := by decide +kernel
theorem dX2_divisorIn_43 : decode cX2_divisorIn 43 = .ok (.invokestatic 70, 3) := by decide +kernel
theorem dX2_divisorIn_46 : decode cX2_divisorIn 46 = .ok (.lstore_n 2, 1) := by decide +kernel
theorem dX2_divisorIn_47 : decode cX2_divisorIn 47 = .ok (.iinc 4 1, 3) := by decide +kernel
theorem dX2_divisorIn_50 : decode cX2_divisorIn 50 = .ok (.goto (-45), 3) := by decide +kernel
theorem dX2_divisorIn_53 : decode cX2_divisorIn 53 = .ok (.lload_n 2, 1) := by decide +kernel
theorem dX2_divisorIn_54 : decode cX2_divisorIn 54 = .ok (.l2i, 1) := by decide +kernel
theorem dX2_divisorIn_55 : decode cX2_divisorIn 55 = .ok (.ireturn, 1) := by decide +kernel
theorem dX5_init_0 : decode cX5_init 0 = .ok (.aload_n 0, 1) := by decide +kernel
theorem dX5_init_1 : decode cX5_init 1 = .ok (.invokespecial 3, 3) := by decide +kernel
theorem dX5_init_4 : decode cX5_init 4 = .ok (.aload_n 0, 1) := by decide +kernel
theorem dX5_init_5 : decode cX5_init 5 = .ok (.bipush 108, 2) := by decide +kernel
theorem dX5_init_7 : decode cX5_init 7 = .ok (.newarray .long, 2) := by decide +kernel
theorem dX5_init_9 : decode cX5_init 9 = .ok (.putfield 11, 3) := by decide +kernel
theorem dX5_init_12 : decode cX5_init 12 = .ok (.aload_n 0, 1) := by decide +kernel
theorem dX5_init_13 : decode cX5_init 13 = .ok (.bipush 18, 2) := by decide +kernel
theorem dX5_init_15 : decode cX5_init 15 = .ok (.newarray .int, 2) := by decide +kernel
theorem dX5_init_17 : decode cX5_init 17 = .ok (.putfield 15, 3) := by decide +kernel
theorem dX5_init_20 : decode cX5_init 20 = .ok (.aload_n 0, 1) := by decide +kernel
theorem dX5_init_21 : decode cX5_init 21 = .ok (.iconst 5, 1) := by decide +kernel
theorem dX5_init_22 : decode cX5_init 22 = .ok (.newarray .int, 2) := by decide +kernel
theorem dX5_init_24 : decode cX5_init 24 = .ok (.putfield 19, 3) := by decide +kernel
theorem dX5_init_27 : decode cX5_init 27 = .ok (.aload_n 0, 1) := by decide +kernel
theorem dX5_init_28 : decode cX5_init 28 = .ok (.iconst 5, 1) := by decide +kernel
theorem dX5_init_29 : decode cX5_init 29 = .ok (.newarray .int, 2) := by decide +kernel
theorem dX5_init_31 : decode cX5_init 31 = .ok (.putfield 22, 3) := by decide +kernel
theorem dX5_init_34 : decode cX5_init 34 = .ok (.aload_n 0, 1) := by decide +kernel
theorem dX5_init_35 : decode cX5_init 35 = .ok (.iconst 5, 1) := by decide +kernel
theorem dX5_init_36 : decode cX5_init 36 = .ok (.newarray .int, 2) := by decide +kernel
theorem dX5_init_38 : decode cX5_init 38 = .ok (.putfield 25, 3) := by decide +kernel
theorem dX5_init_41 : decode cX5_init 41 = .ok (.aload_n 0, 1) := by decide +kernel
theorem dX5_init_42 : decode cX5_init 42 = .ok (.iconst 5, 1) := by decide +kernel
theorem dX5_init_43 : decode cX5_init 43 = .ok (.newarray .boolean, 2) := by decide +kernel
theorem dX5_init_45 : decode cX5_init 45 = .ok (.putfield 28, 3) := by decide +kernel
theorem dX5_init_48 : decode cX5_init 48 = .ok (.aload_n 0, 1) := by decide +kernel
theorem dX5_init_49 : decode cX5_init 49 = .ok (.iconst 0, 1) := by decide +kernel
theorem dX5_init_50 : decode cX5_init 50 = .ok (.putfield 32, 3) := by decide +kernel
theorem dX5_init_53 : decode cX5_init 53 = .ok (.aload_n 0, 1) := by decide +kernel
theorem dX5_init_54 : decode cX5_init 54 = .ok (.iconst 0, 1) := by decide +kernel
theorem dX5_init_55 : decode cX5_init 55 = .ok (.putfield 36, 3) := by decide +kernel
theorem dX5_init_58 : decode cX5_init 58 = .ok (.aload_n 0, 1) := by decide +kernel
theorem dX5_init_59 : decode cX5_init 59 = .ok (.lconst 1, 1) := by decide +kernel
theorem dX5_init_60 : decode cX5_init 60 = .ok (.putfield 39, 3) := by decide +kernel
theorem dX5_init_63 : decode cX5_init 63 = .ok (.aload_n 0, 1) := by decide +kernel
theorem dX5_init_64 : decode cX5_init 64 = .ok (.iconst (-1), 1) := by decide +kernel
theorem dX5_init_65 : decode cX5_init 65 = .ok (.putfield 43, 3) := by decide +kernel
theorem dX5_init_68 : decode cX5_init 68 = .ok (.return_, 1) := by decide +kernel
theorem dX5_copy_0 : decode cX5_copy 0 = .ok (.aload_n 1, 1) := by decide +kernel
theorem dX5_copy_1 : decode cX5_copy 1 = .ok (.getfield 11, 3) := by decide +kernel
theorem dX5_copy_4 : decode cX5_copy 4 = .ok (.iconst 0, 1) := by decide +kernel
theorem dX5_copy_5 : decode cX5_copy 5 = .ok (.aload_n 0, 1) := by decide +kernel
theorem dX5_copy_6 : decode cX5_copy 6 = .ok (.getfield 11, 3) := by decide +kernel
theorem dX5_copy_9 : decode cX5_copy 9 = .ok (.iconst 0, 1) := by decide +kernel
theorem dX5_copy_10 : decode cX5_copy 10 = .ok (.bipush 108, 2) := by decide +kernel
theorem dX5_copy_12 : decode cX5_copy 12 = .ok (.invokestatic 46, 3) := by decide +kernel
theorem dX5_copy_15 : decode cX5_copy 15 = .ok (.aload_n 1, 1) := by decide +kernel
theorem dX5_copy_16 : decode cX5_copy 16 = .ok (.getfield 15, 3) := by decide +kernel
theorem dX5_copy_19 : decode cX5_copy 19 = .ok (.iconst 0, 1) := by decide +kernel
theorem dX5_copy_20 : decode cX5_copy 20 = .ok (.aload_n 0, 1) := by decide +kernel
theorem dX5_copy_21 : decode cX5_copy 21 = .ok (.getfield 15, 3) := by decide +kernel
theorem dX5_copy_24 : decode cX5_copy 24 = .ok (.iconst 0, 1) := by decide +kernel
theorem dX5_copy_25 : decode cX5_copy 25 = .ok (.bipush 18, 2) := by decide +kernel
theorem dX5_copy_27 : decode cX5_copy 27 = .ok (.invokestatic 46, 3) := by decide +kernel
theorem dX5_copy_30 : decode cX5_copy 30 = .ok (.aload_n 1, 1) := by decide +kernel
theorem dX5_copy_31 : decode cX5_copy 31 = .ok (.getfield 19, 3) := by decide +kernel
theorem dX5_copy_34 : decode cX5_copy 34 = .ok (.iconst 0, 1) := by decide +kernel
theorem dX5_copy_35 : decode cX5_copy 35 = .ok (.aload_n 0, 1) := by decide +kernel
theorem dX5_copy_36 : decode cX5_copy 36 = .ok (.getfield 19, 3) := by decide +kernel
theorem dX5_copy_39 : decode cX5_copy 39 = .ok (.iconst 0, 1) := by decide +kernel
theorem dX5_copy_40 : decode cX5_copy 40 = .ok (.iconst 5, 1) := by decide +kernel
theorem dX5_copy_41 : decode cX5_copy 41 = .ok (.invokestatic 46, 3) := by decide +kernel
theorem dX5_copy_44 : decode cX5_copy 44 = .ok (.aload_n 1, 1) := by decide +kernel
theorem dX5_copy_45 : decode cX5_copy 45 = .ok (.getfield 22, 3) := by decide +kernel
theorem dX5_copy_48 : decode cX5_copy 48 = .ok (.iconst 0, 1) := by decide +kernel
theorem dX5_copy_49 : decode cX5_copy 49 = .ok (.aload_n 0, 1) := by decide +kernel
theorem dX5_copy_50 : decode cX5_copy 50 = .ok (.getfield 22, 3) := by decide +kernel
theorem dX5_copy_53 : decode cX5_copy 53 = .ok (.iconst 0, 1) := by decide +kernel
theorem dX5_copy_54 : decode cX5_copy 54 = .ok (.iconst 5, 1) := by decide +kernel
theorem dX5_copy_55 : decode cX5_copy 55 = .ok (.invokestatic 46, 3) := by decide +kernel
theorem dX5_copy_58 : decode cX5_copy 58 = .ok (.aload_n 1, 1) := by decide +kernel
theorem dX5_copy_59 : decode cX5_copy 59 = .ok (.getfield 25, 3) := by decide +kernel
theorem dX5_copy_62 : decode cX5_copy 62 = .ok (.iconst 0, 1) := by decide +kernel
theorem dX5_copy_63 : decode cX5_copy 63 = .ok (.aload_n 0, 1) := by decide +kernel
theorem dX5_copy_64 : decode cX5_copy 64 = .ok (.getfield 25, 3) := by decide +kernel
theorem dX5_copy_67 : decode cX5_copy 67 = .ok (.iconst 0, 1) := by decide +kernel
theorem dX5_copy_68 : decode cX5_copy 68 = .ok (.iconst 5, 1) := by decide +kernel
theorem dX5_copy_69 : decode cX5_copy 69 = .ok (.invokestatic 46, 3) := by decide +kernel
theorem dX5_copy_72 : decode cX5_copy 72 = .ok (.aload_n 1, 1) := by decide +kernel
theorem dX5_copy_73 : decode cX5_copy 73 = .ok (.getfield 28, 3) := by decide +kernel
theorem dX5_copy_76 : decode cX5_copy 76 = .ok (.iconst 0, 1) := by decide +kernel
theorem dX5_copy_77 : decode cX5_copy 77 = .ok (.aload_n 0, 1) := by decide +kernel
theorem dX5_copy_78 : decode cX5_copy 78 = .ok (.getfield 28, 3) := by decide +kernel
theorem dX5_copy_81 : decode cX5_copy 81 = .ok (.iconst 0, 1) := by decide +kernel
theorem dX5_copy_82 : decode cX5_copy 82 = .ok (.iconst 5, 1) := by decide +kernel
theorem dX5_copy_83 : decode cX5_copy 83 = .ok (.invokestatic 46, 3) := by decide +kernel
theorem dX5_copy_86 : decode cX5_copy 86 = .ok (.aload_n 0, 1) := by decide +kernel
theorem dX5_copy_87 : decode cX5_copy 87 = .ok (.aload_n 1, 1) := by decide +kernel
theorem dX5_copy_88 : decode cX5_copy 88 = .ok (.getfield 32, 3) := by decide +kernel
theorem dX5_copy_91 : decode cX5_copy 91 = .ok (.putfield 32, 3) := by decide +kernel
theorem dX5_copy_94 : decode cX5_copy 94 = .ok (.aload_n 0, 1) := by decide +kernel
theorem dX5_copy_95 : decode cX5_copy 95 = .ok (.aload_n 1, 1) := by decide +kernel
theorem dX5_copy_96 : decode cX5_copy 96 = .ok (.getfield 36, 3) := by decide +kernel
theorem dX5_copy_99 : decode cX5_copy 99 = .ok (.putfield 36, 3) := by decide +kernel
theorem dX5_copy_102 : decode cX5_copy 102 = .ok (.aload_n 0, 1) := by decide +kernel
theorem dX5_copy_103 : decode cX5_copy 103 = .ok (.aload_n 1, 1) := by decide +kernel
theorem dX5_copy_104 : decode cX5_copy 104 = .ok (.getfield 39, 3) := by decide +kernel
theorem dX5_copy_107 : decode cX5_copy 107 = .ok (.putfield 39, 3) := by decide +kernel
theorem dX5_copy_110 : decode cX5_copy 110 = .ok (.aload_n 0, 1) := by decide +kernel
theorem dX5_copy_111 : decode cX5_copy 111 = .ok (.aload_n 1, 1) := by decide +kernel
theorem dX5_copy_112 : decode cX5_copy 112 = .ok (.getfield 43, 3) := by decide +kernel
theorem dX5_copy_115 : decode cX5_copy 115 = .ok (.putfield 43, 3) := by decide +kernel
theorem dX5_copy_118 : decode cX5_copy 118 = .ok (.return_, 1) := by decide +kernel
set_option maxRecDepth 20000 in
theorem ggX5_begin_X5_addLine : GoodIn wsX5_begin wsX5_addLine := goodIn_r _ [11, 3, 12, 13, 36, 37, 38, 39, 40, 41, 42, 43, 44, 45] (by decide +kernel) (by decide +kernel)
set_option maxRecDepth 20000 in
theorem gX5_begin_X5_addLine : GoodIn wsX5_begin (wsV RX5 55 RX5 yX5_addLine wsX5_addLine) := goodIn_app (goodIn_of _ (by decide +kernel)) ggX5_begin_X5_addLine
set_option maxRecDepth 20000 in
theorem ggX5_begin_X5_beginColumn : GoodIn wsX5_begin wsX5_beginColumn := goodIn_r _ [17, 18, 19, 20, 21, 22, 23, 24, 12, 3, 7, 8, 9, 10, 11, 13, 25, 26, 27, 28, 29, 30, 31, 32, 33, 34, 35, 36, 37, 38, 39, 40, 41, 42, 43, 44, 45] (by decide +kernel) (by decide +kernel)
set_option maxRecDepth 20000 in
theorem gX5_begin_X5_beginColumn : GoodIn wsX5_begin (wsV RX5 62 RX5 yX5_beginColumn wsX5_beginColumn) := goodIn_app (goodIn_of _ (by decide +kernel)) ggX5_begin_X5_beginColumn
theorem dX5_begin_0 : decode cX5_begin 0 = .ok (.aload_n 0, 1) := by decide +kernel
theorem dX5_begin_1 : decode cX5_begin 1 = .ok (.aload_n 1, 1) := by decide +kernel
theorem dX5_begin_2 : decode cX5_begin 2 = .ok (.getfield 52, 3) := by decide +kernel
theorem dX5_begin_5 : decode cX5_begin 5 = .ok (.putfield 32, 3) := by decide +kernel
theorem dX5_begin_8 : decode cX5_begin 8 = .ok (.aload_n 0, 1) := by decide +kernel
theorem dX5_begin_9 : decode cX5_begin 9 = .ok (.iconst 0, 1) := by decide +kernel
theorem dX5_begin_10 : decode cX5_begin 10 = .ok (.putfield 36, 3) := by decide +kernel
theorem dX5_begin_13 : decode cX5_begin 13 = .ok (.aload_n 0, 1) := by decide +kernel
theorem dX5_begin_14 : decode cX5_begin 14 = .ok (.lconst 1, 1) := by decide +kernel
theorem dX5_begin_15 : decode cX5_begin 15 = .ok (.putfield 39, 3) := by decide +kernel
theorem dX5_begin_18 : decode cX5_begin 18 = .ok (.aload_n 0, 1) := by decide +kernel
theorem dX5_begin_19 : decode cX5_begin 19 = .ok (.iconst (-1), 1) := by decide +kernel
theorem dX5_begin_20 : decode cX5_begin 20 = .ok (.putfield 43, 3) := by decide +kernel
theorem dX5_begin_23 : decode cX5_begin 23 = .ok (.iconst 0, 1) := by decide +kernel
theorem dX5_begin_24 : decode cX5_begin 24 = .ok (.istore_n 3, 1) := by decide +kernel
theorem dX5_begin_25 : decode cX5_begin 25 = .ok (.iload_n 3, 1) := by decide +kernel
theorem dX5_begin_26 : decode cX5_begin 26 = .ok (.aload_n 0, 1) := by decide +kernel
theorem dX5_begin_27 : decode cX5_begin 27 = .ok (.getfield 32, 3) := by decide +kernel
theorem dX5_begin_30 : decode cX5_begin 30 = .ok (.if_icmp .gt 23, 3) := by decide +kernel
theorem dX5_begin_33 : decode cX5_begin 33 = .ok (.aload_n 0, 1) := by decide +kernel
theorem dX5_begin_34 : decode cX5_begin 34 = .ok (.iload_n 3, 1) := by decide +kernel
theorem dX5_begin_35 : decode cX5_begin 35 = .ok (.ifCond .ne 7, 3) := by decide +kernel
theorem dX5_begin_38 : decode cX5_begin 38 = .ok (.iconst 0, 1) := by decide +kernel
theorem dX5_begin_39 : decode cX5_begin 39 = .ok (.goto 4, 3) := by decide +kernel
theorem dX5_begin_42 : decode cX5_begin 42 = .ok (.iconst 1, 1) := by decide +kernel
theorem dX5_begin_43 : decode cX5_begin 43 = .ok (.invokevirtual 55, 3) := by decide +kernel
theorem dX5_begin_46 : decode cX5_begin 46 = .ok (.pop, 1) := by decide +kernel
theorem dX5_begin_47 : decode cX5_begin 47 = .ok (.iinc 3 1, 3) := by decide +kernel
theorem dX5_begin_50 : decode cX5_begin 50 = .ok (.goto (-25), 3) := by decide +kernel
theorem dX5_begin_53 : decode cX5_begin 53 = .ok (.iconst 0, 1) := by decide +kernel
theorem dX5_begin_54 : decode cX5_begin 54 = .ok (.istore_n 3, 1) := by decide +kernel
theorem dX5_begin_55 : decode cX5_begin 55 = .ok (.iload_n 3, 1) := by decide +kernel
theorem dX5_begin_56 : decode cX5_begin 56 = .ok (.aload_n 0, 1) := by decide +kernel
theorem dX5_begin_57 : decode cX5_begin 57 = .ok (.getfield 32, 3) := by decide +kernel
theorem dX5_begin_60 : decode cX5_begin 60 = .ok (.if_icmp .ge 29, 3) := by decide +kernel
theorem dX5_begin_63 : decode cX5_begin 63 = .ok (.aload_n 0, 1) := by decide +kernel
theorem dX5_begin_64 : decode cX5_begin 64 = .ok (.aload_n 1, 1) := by decide +kernel
theorem dX5_begin_65 : decode cX5_begin 65 = .ok (.iload_n 3, 1) := by decide +kernel
theorem dX5_begin_66 : decode cX5_begin 66 = .ok (.iload_n 2, 1) := by decide +kernel
theorem dX5_begin_67 : decode cX5_begin 67 = .ok (.ifCond .eq 12, 3) := by decide +kernel
theorem dX5_begin_70 : decode cX5_begin 70 = .ok (.aload_n 1, 1) := by decide +kernel
theorem dX5_begin_71 : decode cX5_begin 71 = .ok (.getfield 59, 3) := by decide +kernel
theorem dX5_begin_74 : decode cX5_begin 74 = .ok (.iload_n 3, 1) := by decide +kernel
theorem dX5_begin_75 : decode cX5_begin 75 = .ok (.iaload, 1) := by decide +kernel
theorem dX5_begin_76 : decode cX5_begin 76 = .ok (.goto 4, 3) := by decide +kernel
theorem dX5_begin_79 : decode cX5_begin 79 = .ok (.iconst 0, 1) := by decide +kernel
theorem dX5_begin_80 : decode cX5_begin 80 = .ok (.invokevirtual 62, 3) := by decide +kernel
theorem dX5_begin_83 : decode cX5_begin 83 = .ok (.iinc 3 1, 3) := by decide +kernel
theorem dX5_begin_86 : decode cX5_begin 86 = .ok (.goto (-31), 3) := by decide +kernel
theorem dX5_begin_89 : decode cX5_begin 89 = .ok (.return_, 1) := by decide +kernel
theorem dX5_addLine_0 : decode cX5_addLine 0 = .ok (.aload_n 0, 1) := by decide +kernel
theorem dX5_addLine_1 : decode cX5_addLine 1 = .ok (.getfield 36, 3) := by decide +kernel
theorem dX5_addLine_4 : decode cX5_addLine 4 = .ok (.bipush 6, 2) := by decide +kernel
theorem dX5_addLine_6 : decode cX5_addLine 6 = .ok (.imul, 1) := by decide +kernel
theorem dX5_addLine_7 : decode cX5_addLine 7 = .ok (.istore_n 2, 1) := by decide +kernel
theorem dX5_addLine_8 : decode cX5_addLine 8 = .ok (.aload_n 0, 1) := by decide +kernel
theorem dX5_addLine_9 : decode cX5_addLine 9 = .ok (.getfield 36, 3) := by decide +kernel
theorem dX5_addLine_12 : decode cX5_addLine 12 = .ok (.bipush 18, 2) := by decide +kernel
theorem dX5_addLine_14 : decode cX5_addLine 14 = .ok (.if_icmp .lt 5, 3) := by decide +kernel
theorem dX5_addLine_17 : decode cX5_addLine 17 = .ok (.iconst 0, 1) := by decide +kernel
theorem dX5_addLine_18 : decode cX5_addLine 18 = .ok (.ireturn, 1) := by decide +kernel
theorem dX5_addLine_19 : decode cX5_addLine 19 = .ok (.iconst 0, 1) := by decide +kernel
theorem dX5_addLine_20 : decode cX5_addLine 20 = .ok (.istore_n 3, 1) := by decide +kernel
theorem dX5_addLine_21 : decode cX5_addLine 21 = .ok (.iload_n 3, 1) := by decide +kernel
theorem dX5_addLine_22 : decode cX5_addLine 22 = .ok (.bipush 6, 2) := by decide +kernel
theorem dX5_addLine_24 : decode cX5_addLine 24 = .ok (.if_icmp .ge 18, 3) := by decide +kernel
theorem dX5_addLine_27 : decode cX5_addLine 27 = .ok (.aload_n 0, 1) := by decide +kernel
theorem dX5_addLine_28 : decode cX5_addLine 28 = .ok (.getfield 11, 3) := by decide +kernel
theorem dX5_addLine_31 : decode cX5_addLine 31 = .ok (.iload_n 2, 1) := by decide +kernel
theorem dX5_addLine_32 : decode cX5_addLine 32 = .ok (.iload_n 3, 1) := by decide +kernel
theorem dX5_addLine_33 : decode cX5_addLine 33 = .ok (.iadd, 1) := by decide +kernel
theorem dX5_addLine_34 : decode cX5_addLine 34 = .ok (.lconst 0, 1) := by decide +kernel
theorem dX5_addLine_35 : decode cX5_addLine 35 = .ok (.lastore, 1) := by decide +kernel
theorem dX5_addLine_36 : decode cX5_addLine 36 = .ok (.iinc 3 1, 3) := by decide +kernel
theorem dX5_addLine_39 : decode cX5_addLine 39 = .ok (.goto (-18), 3) := by decide +kernel
theorem dX5_addLine_42 : decode cX5_addLine 42 = .ok (.aload_n 0, 1) := by decide +kernel
theorem dX5_addLine_43 : decode cX5_addLine 43 = .ok (.getfield 15, 3) := by decide +kernel
theorem dX5_addLine_46 : decode cX5_addLine 46 = .ok (.aload_n 0, 1) := by decide +kernel
theorem dX5_addLine_47 : decode cX5_addLine 47 = .ok (.getfield 36, 3) := by decide +kernel
theorem dX5_addLine_50 : decode cX5_addLine 50 = .ok (.iload_n 1, 1) := by decide +kernel
theorem dX5_addLine_51 : decode cX5_addLine 51 = .ok (.iastore, 1) := by decide +kernel
theorem dX5_addLine_52 : decode cX5_addLine 52 = .ok (.aload_n 0, 1) := by decide +kernel
theorem dX5_addLine_53 : decode cX5_addLine 53 = .ok (.dup, 1) := by decide +kernel
theorem dX5_addLine_54 : decode cX5_addLine 54 = .ok (.getfield 36, 3) := by decide +kernel
theorem dX5_addLine_57 : decode cX5_addLine 57 = .ok (.iconst 1, 1) := by decide +kernel
theorem dX5_addLine_58 : decode cX5_addLine 58 = .ok (.iadd, 1) := by decide +kernel
theorem dX5_addLine_59 : decode cX5_addLine 59 = .ok (.putfield 36, 3) := by decide +kernel
theorem dX5_addLine_62 : decode cX5_addLine 62 = .ok (.iload_n 2, 1) := by decide +kernel
theorem dX5_addLine_63 : decode cX5_addLine 63 = .ok (.ireturn, 1) := by decide +kernel
set_option maxRecDepth 20000 in
theorem ggX5_beginColumn_X5_addLine : GoodIn wsX5_beginColumn wsX5_addLine := goodIn_r _ [14, 9, 8, 15, 27, 28, 29, 30, 31, 32, 33, 34, 35, 36] (by decide +kernel) (by decide +kernel)
set_option maxRecDepth 20000 in
theorem gX5_beginColumn_X5_addLine : GoodIn wsX5_beginColumn (wsV RX5 55 RX5 yX5_addLine wsX5_addLine) := goodIn_app (goodIn_of _ (by decide +kernel)) ggX5_beginColumn_X5_addLine
theorem dX5_beginColumn_0 : decode cX5_beginColumn 0 = .ok (.aload_n 1, 1) := by decide +kernel
theorem dX5_beginColumn_1 : decode cX5_beginColumn 1 = .ok (.getfield 66, 3) := by decide +kernel
theorem dX5_beginColumn_4 : decode cX5_beginColumn 4 = .ok (.iload_n 2, 1) := by decide +kernel
theorem dX5_beginColumn_5 : decode cX5_beginColumn 5 = .ok (.iaload, 1) := by decide +kernel
theorem dX5_beginColumn_6 : decode cX5_beginColumn 6 = .ok (.istore 4, 2) := by decide +kernel
theorem dX5_beginColumn_8 : decode cX5_beginColumn 8 = .ok (.aload_n 1, 1) := by decide +kernel
theorem dX5_beginColumn_9 : decode cX5_beginColumn 9 = .ok (.getfield 67, 3) := by decide +kernel
theorem dX5_beginColumn_12 : decode cX5_beginColumn 12 = .ok (.iload_n 2, 1) := by decide +kernel
theorem dX5_beginColumn_13 : decode cX5_beginColumn 13 = .ok (.iaload, 1) := by decide +kernel
theorem dX5_beginColumn_14 : decode cX5_beginColumn 14 = .ok (.istore 5, 2) := by decide +kernel
theorem dX5_beginColumn_16 : decode cX5_beginColumn 16 = .ok (.iload_n 3, 1) := by decide +kernel
theorem dX5_beginColumn_17 : decode cX5_beginColumn 17 = .ok (.ifCond .ge 14, 3) := by decide +kernel
theorem dX5_beginColumn_20 : decode cX5_beginColumn 20 = .ok (.iload 5, 2) := by decide +kernel
theorem dX5_beginColumn_22 : decode cX5_beginColumn 22 = .ok (.ldc 68, 2) := by decide +kernel
theorem dX5_beginColumn_24 : decode cX5_beginColumn 24 = .ok (.if_icmp .eq 7, 3) := by decide +kernel
theorem dX5_beginColumn_27 : decode cX5_beginColumn 27 = .ok (.iconst 1, 1) := by decide +kernel
theorem dX5_beginColumn_28 : decode cX5_beginColumn 28 = .ok (.goto 4, 3) := by decide +kernel
theorem dX5_beginColumn_31 : decode cX5_beginColumn 31 = .ok (.iconst 0, 1) := by decide +kernel
theorem dX5_beginColumn_32 : decode cX5_beginColumn 32 = .ok (.istore 6, 2) := by decide +kernel
theorem dX5_beginColumn_34 : decode cX5_beginColumn 34 = .ok (.iload 6, 2) := by decide +kernel
theorem dX5_beginColumn_36 : decode cX5_beginColumn 36 = .ok (.ifCond .eq 8, 3) := by decide +kernel
theorem dX5_beginColumn_39 : decode cX5_beginColumn 39 = .ok (.iload 5, 2) := by decide +kernel
theorem dX5_beginColumn_41 : decode cX5_beginColumn 41 = .ok (.goto 5, 3) := by decide +kernel
theorem dX5_beginColumn_44 : decode cX5_beginColumn 44 = .ok (.iload 4, 2) := by decide +kernel
theorem dX5_beginColumn_46 : decode cX5_beginColumn 46 = .ok (.istore 7, 2) := by decide +kernel
theorem dX5_beginColumn_48 : decode cX5_beginColumn 48 = .ok (.iload 6, 2) := by decide +kernel
theorem dX5_beginColumn_50 : decode cX5_beginColumn 50 = .ok (.ifCond .eq 7, 3) := by decide +kernel
theorem dX5_beginColumn_53 : decode cX5_beginColumn 53 = .ok (.iconst (-1), 1) := by decide +kernel
theorem dX5_beginColumn_54 : decode cX5_beginColumn 54 = .ok (.goto 4, 3) := by decide +kernel
theorem dX5_beginColumn_57 : decode cX5_beginColumn 57 = .ok (.iconst 1, 1) := by decide +kernel
theorem dX5_beginColumn_58 : decode cX5_beginColumn 58 = .ok (.istore 8, 2) := by decide +kernel
theorem dX5_beginColumn_60 : decode cX5_beginColumn 60 = .ok (.aload_n 0, 1) := by decide +kernel
theorem dX5_beginColumn_61 : decode cX5_beginColumn 61 = .ok (.getfield 19, 3) := by decide +kernel
theorem dX5_beginColumn_64 : decode cX5_beginColumn 64 = .ok (.iload_n 2, 1) := by decide +kernel
theorem dX5_beginColumn_65 : decode cX5_beginColumn 65 = .ok (.iload 4, 2) := by decide +kernel
theorem dX5_beginColumn_67 : decode cX5_beginColumn 67 = .ok (.iastore, 1) := by decide +kernel
theorem dX5_beginColumn_68 : decode cX5_beginColumn 68 = .ok (.aload_n 0, 1) := by decide +kernel
theorem dX5_beginColumn_69 : decode cX5_beginColumn 69 = .ok (.getfield 22, 3) := by decide +kernel
theorem dX5_beginColumn_72 : decode cX5_beginColumn 72 = .ok (.iload_n 2, 1) := by decide +kernel
theorem dX5_beginColumn_73 : decode cX5_beginColumn 73 = .ok (.iload 5, 2) := by decide +kernel
theorem dX5_beginColumn_75 : decode cX5_beginColumn 75 = .ok (.iastore, 1) := by decide +kernel
theorem dX5_beginColumn_76 : decode cX5_beginColumn 76 = .ok (.aload_n 0, 1) := by decide +kernel
theorem dX5_beginColumn_77 : decode cX5_beginColumn 77 = .ok (.getfield 25, 3) := by decide +kernel
theorem dX5_beginColumn_80 : decode cX5_beginColumn 80 = .ok (.iload_n 2, 1) := by decide +kernel
theorem dX5_beginColumn_81 : decode cX5_beginColumn 81 = .ok (.iconst (-1), 1) := by decide +kernel
theorem dX5_beginColumn_82 : decode cX5_beginColumn 82 = .ok (.iastore, 1) := by decide +kernel
theorem dX5_beginColumn_83 : decode cX5_beginColumn 83 = .ok (.aload_n 0, 1) := by decide +kernel
theorem dX5_beginColumn_84 : decode cX5_beginColumn 84 = .ok (.getfield 28, 3) := by decide +kernel
theorem dX5_beginColumn_87 : decode cX5_beginColumn 87 = .ok (.iload_n 2, 1) := by decide +kernel
theorem dX5_beginColumn_88 : decode cX5_beginColumn 88 = .ok (.iconst 0, 1) := by decide +kernel
theorem dX5_beginColumn_89 : decode cX5_beginColumn 89 = .ok (.bastore, 1) := by decide +kernel
theorem dX5_beginColumn_90 : decode cX5_beginColumn 90 = .ok (.aload_n 0, 1) := by decide +kernel
theorem dX5_beginColumn_91 : decode cX5_beginColumn 91 = .ok (.getfield 11, 3) := by decide +kernel
theorem dX5_beginColumn_94 : decode cX5_beginColumn 94 = .ok (.iload_n 2, 1) := by decide +kernel
theorem dX5_beginColumn_95 : decode cX5_beginColumn 95 = .ok (.iload_n 3, 1) := by decide +kernel
theorem dX5_beginColumn_96 : decode cX5_beginColumn 96 = .ok (.iload 8, 2) := by decide +kernel
theorem dX5_beginColumn_98 : decode cX5_beginColumn 98 = .ok (.imul, 1) := by decide +kernel
theorem dX5_beginColumn_99 : decode cX5_beginColumn 99 = .ok (.i2l, 1) := by decide +kernel
theorem dX5_beginColumn_100 : decode cX5_beginColumn 100 = .ok (.lastore, 1) := by decide +kernel
theorem dX5_beginColumn_101 : decode cX5_beginColumn 101 = .ok (.aload_n 0, 1) := by decide +kernel
theorem dX5_beginColumn_102 : decode cX5_beginColumn 102 = .ok (.getfield 11, 3) := by decide +kernel
theorem dX5_beginColumn_105 : decode cX5_beginColumn 105 = .ok (.iconst 5, 1) := by decide +kernel
theorem dX5_beginColumn_106 : decode cX5_beginColumn 106 = .ok (.dup2, 1) := by decide +kernel
theorem dX5_beginColumn_107 : decode cX5_beginColumn 107 = .ok (.laload, 1) := by decide +kernel
theorem dX5_beginColumn_108 : decode cX5_beginColumn 108 = .ok (.iload_n 3, 1) := by decide +kernel
theorem dX5_beginColumn_109 : decode cX5_beginColumn 109 = .ok (.iload 7, 2) := by decide +kernel
theorem dX5_beginColumn_111 : decode cX5_beginColumn 111 = .ok (.imul, 1) := by decide +kernel
theorem dX5_beginColumn_112 : decode cX5_beginColumn 112 = .ok (.i2l, 1) := by decide +kernel
theorem dX5_beginColumn_113 : decode cX5_beginColumn 113 = .ok (.ladd, 1) := by decide +kernel
theorem dX5_beginColumn_114 : decode cX5_beginColumn 114 = .ok (.lastore, 1) := by decide +kernel
theorem dX5_beginColumn_115 : decode cX5_beginColumn 115 = .ok (.aload_n 0, 1) := by decide +kernel
theorem dX5_beginColumn_116 : decode cX5_beginColumn 116 = .ok (.getfield 11, 3) := by decide +kernel
theorem dX5_beginColumn_119 : decode cX5_beginColumn 119 = .ok (.iconst 1, 1) := by decide +kernel
theorem dX5_beginColumn_120 : decode cX5_beginColumn 120 = .ok (.iload_n 2, 1) := by decide +kernel
theorem dX5_beginColumn_121 : decode cX5_beginColumn 121 = .ok (.iadd, 1) := by decide +kernel
theorem dX5_beginColumn_122 : decode cX5_beginColumn 122 = .ok (.bipush 6, 2) := by decide +kernel
theorem dX5_beginColumn_124 : decode cX5_beginColumn 124 = .ok (.imul, 1) := by decide +kernel
theorem dX5_beginColumn_125 : decode cX5_beginColumn 125 = .ok (.iload_n 2, 1) := by decide +kernel
theorem dX5_beginColumn_126 : decode cX5_beginColumn 126 = .ok (.iadd, 1) := by decide +kernel
theorem dX5_beginColumn_127 : decode cX5_beginColumn 127 = .ok (.iload 8, 2) := by decide +kernel
theorem dX5_beginColumn_129 : decode cX5_beginColumn 129 = .ok (.i2l, 1) := by decide +kernel
theorem dX5_beginColumn_130 : decode cX5_beginColumn 130 = .ok (.lastore, 1) := by decide +kernel
theorem dX5_beginColumn_131 : decode cX5_beginColumn 131 = .ok (.aload_n 0, 1) := by decide +kernel
theorem dX5_beginColumn_132 : decode cX5_beginColumn 132 = .ok (.getfield 11, 3) := by decide +kernel
theorem dX5_beginColumn_135 : decode cX5_beginColumn 135 = .ok (.iconst 1, 1) := by decide +kernel
theorem dX5_beginColumn_136 : decode cX5_beginColumn 136 = .ok (.iload_n 2, 1) := by decide +kernel
theorem dX5_beginColumn_137 : decode cX5_beginColumn 137 = .ok (.iadd, 1) := by decide +kernel
theorem dX5_beginColumn_138 : decode cX5_beginColumn 138 = .ok (.bipush 6, 2) := by decide +kernel
theorem dX5_beginColumn_140 : decode cX5_beginColumn 140 = .ok (.imul, 1) := by decide +kernel
theorem dX5_beginColumn_141 : decode cX5_beginColumn 141 = .ok (.iconst 5, 1) := by decide +kernel
theorem dX5_beginColumn_142 : decode cX5_beginColumn 142 = .ok (.iadd, 1) := by decide +kernel
theorem dX5_beginColumn_143 : decode cX5_beginColumn 143 = .ok (.iload 7, 2) := by decide +kernel
theorem dX5_beginColumn_145 : decode cX5_beginColumn 145 = .ok (.iload 4, 2) := by decide +kernel
theorem dX5_beginColumn_147 : decode cX5_beginColumn 147 = .ok (.isub, 1) := by decide +kernel
theorem dX5_beginColumn_148 : decode cX5_beginColumn 148 = .ok (.i2l, 1) := by decide +kernel
theorem dX5_beginColumn_149 : decode cX5_beginColumn 149 = .ok (.lastore, 1) := by decide +kernel
theorem dX5_beginColumn_150 : decode cX5_beginColumn 150 = .ok (.iload 5, 2) := by decide +kernel
theorem dX5_beginColumn_152 : decode cX5_beginColumn 152 = .ok (.ldc 68, 2) := by decide +kernel
theorem dX5_beginColumn_154 : decode cX5_beginColumn 154 = .ok (.if_icmp .eq 48, 3) := by decide +kernel
theorem dX5_beginColumn_157 : decode cX5_beginColumn 157 = .ok (.aload_n 0, 1) := by decide +kernel
theorem dX5_beginColumn_158 : decode cX5_beginColumn 158 = .ok (.getfield 25, 3) := by decide +kernel
theorem dX5_beginColumn_161 : decode cX5_beginColumn 161 = .ok (.iload_n 2, 1) := by decide +kernel
theorem dX5_beginColumn_162 : decode cX5_beginColumn 162 = .ok (.aload_n 0, 1) := by decide +kernel
theorem dX5_beginColumn_163 : decode cX5_beginColumn 163 = .ok (.getfield 36, 3) := by decide +kernel
theorem dX5_beginColumn_166 : decode cX5_beginColumn 166 = .ok (.iastore, 1) := by decide +kernel
theorem dX5_beginColumn_167 : decode cX5_beginColumn 167 = .ok (.aload_n 0, 1) := by decide +kernel
theorem dX5_beginColumn_168 : decode cX5_beginColumn 168 = .ok (.iconst 1, 1) := by decide +kernel
theorem dX5_beginColumn_169 : decode cX5_beginColumn 169 = .ok (.invokevirtual 55, 3) := by decide +kernel
theorem dX5_beginColumn_172 : decode cX5_beginColumn 172 = .ok (.istore 9, 2) := by decide +kernel
theorem dX5_beginColumn_174 : decode cX5_beginColumn 174 = .ok (.aload_n 0, 1) := by decide +kernel
theorem dX5_beginColumn_175 : decode cX5_beginColumn 175 = .ok (.getfield 11, 3) := by decide +kernel
theorem dX5_beginColumn_178 : decode cX5_beginColumn 178 = .ok (.iload 9, 2) := by decide +kernel
theorem dX5_beginColumn_180 : decode cX5_beginColumn 180 = .ok (.iload_n 2, 1) := by decide +kernel
theorem dX5_beginColumn_181 : decode cX5_beginColumn 181 = .ok (.iadd, 1) := by decide +kernel
theorem dX5_beginColumn_182 : decode cX5_beginColumn 182 = .ok (.iload 8, 2) := by decide +kernel
theorem dX5_beginColumn_184 : decode cX5_beginColumn 184 = .ok (.ineg, 1) := by decide +kernel
theorem dX5_beginColumn_185 : decode cX5_beginColumn 185 = .ok (.i2l, 1) := by decide +kernel
theorem dX5_beginColumn_186 : decode cX5_beginColumn 186 = .ok (.lastore, 1) := by decide +kernel
theorem dX5_beginColumn_187 : decode cX5_beginColumn 187 = .ok (.aload_n 0, 1) := by decide +kernel
theorem dX5_beginColumn_188 : decode cX5_beginColumn 188 = .ok (.getfield 11, 3) := by decide +kernel
theorem dX5_beginColumn_191 : decode cX5_beginColumn 191 = .ok (.iload 9, 2) := by decide +kernel
theorem dX5_beginColumn_193 : decode cX5_beginColumn 193 = .ok (.iconst 5, 1) := by decide +kernel
theorem dX5_beginColumn_194 : decode cX5_beginColumn 194 = .ok (.iadd, 1) := by decide +kernel
theorem dX5_beginColumn_195 : decode cX5_beginColumn 195 = .ok (.iload 5, 2) := by decide +kernel
theorem dX5_beginColumn_197 : decode cX5_beginColumn 197 = .ok (.iload 7, 2) := by decide +kernel
theorem dX5_beginColumn_199 : decode cX5_beginColumn 199 = .ok (.isub, 1) := by decide +kernel
theorem dX5_beginColumn_200 : decode cX5_beginColumn 200 = .ok (.i2l, 1) := by decide +kernel
theorem dX5_beginColumn_201 : decode cX5_beginColumn 201 = .ok (.lastore, 1) := by decide +kernel
theorem dX5_beginColumn_202 : decode cX5_beginColumn 202 = .ok (.return_, 1) := by decide +kernel
set_option maxRecDepth 20000 in
theorem ggX5_addRow_X5_addLine : GoodIn wsX5_addRow wsX5_addLine := goodIn_r _ [8, 9, 3, 10, 34, 35, 36, 37, 38, 39, 40, 41, 42, 43] (by decide +kernel) (by decide +kernel)
set_option maxRecDepth 20000 in
theorem gX5_addRow_X5_addLine : GoodIn wsX5_addRow (wsV RX5 55 RX5 yX5_addLine wsX5_addLine) := goodIn_app (goodIn_of _ (by decide +kernel)) ggX5_addRow_X5_addLine
set_option maxRecDepth 20000 in
theorem ggX5_addRow_X2_shareOf : GoodIn wsX5_addRow wsX2_shareOf := goodIn_r _ [15, 16, 23, 24, 25, 26, 27, 28, 29, 30, 31, 32, 33] (by decide +kernel) (by decide +kernel)
set_option maxRecDepth 20000 in
theorem gX5_addRow_X2_shareOf : GoodIn wsX5_addRow (wsV RX5 72 RX2 yX2_shareOf wsX2_shareOf) := goodIn_app (goodIn_of _ (by decide +kernel)) ggX5_addRow_X2_shareOf
set_option maxRecDepth 20000 in
theorem ggX5_addRow_X5_valueAbove : GoodIn wsX5_addRow wsX5_valueAbove := goodIn_r _ [20, 21, 22, 3, 34, 35, 36, 37, 38, 39, 40, 41, 42, 43] (by decide +kernel) (by decide +kernel)
set_option maxRecDepth 20000 in
theorem gX5_addRow_X5_valueAbove : GoodIn wsX5_addRow (wsV RX5 76 RX5 yX5_valueAbove wsX5_valueAbove) := goodIn_app (goodIn_of _ (by decide +kernel)) ggX5_addRow_X5_valueAbove
theorem dX5_addRow_0 : decode cX5_addRow 0 = .ok (.aload_n 1, 1) := by decide +kernel
theorem dX5_addRow_1 : decode cX5_addRow 1 = .ok (.getfield 69, 3) := by decide +kernel
theorem dX5_addRow_4 : decode cX5_addRow 4 = .ok (.iload_n 2, 1) := by decide +kernel
theorem dX5_addRow_5 : decode cX5_addRow 5 = .ok (.iaload, 1) := by decide +kernel
theorem dX5_addRow_6 : decode cX5_addRow 6 = .ok (.istore 4, 2) := by decide +kernel
theorem dX5_addRow_8 : decode cX5_addRow 8 = .ok (.iload 4, 2) := by decide +kernel
theorem dX5_addRow_10 : decode cX5_addRow 10 = .ok (.ifCond .ne 7, 3) := by decide +kernel
theorem dX5_addRow_13 : decode cX5_addRow 13 = .ok (.iconst (-1), 1) := by decide +kernel
theorem dX5_addRow_14 : decode cX5_addRow 14 = .ok (.goto 4, 3) := by decide +kernel
theorem dX5_addRow_17 : decode cX5_addRow 17 = .ok (.iconst 1, 1) := by decide +kernel
theorem dX5_addRow_18 : decode cX5_addRow 18 = .ok (.istore 5, 2) := by decide +kernel
theorem dX5_addRow_20 : decode cX5_addRow 20 = .ok (.aload_n 0, 1) := by decide +kernel
theorem dX5_addRow_21 : decode cX5_addRow 21 = .ok (.iload 4, 2) := by decide +kernel
theorem dX5_addRow_23 : decode cX5_addRow 23 = .ok (.iconst 2, 1) := by decide +kernel
theorem dX5_addRow_24 : decode cX5_addRow 24 = .ok (.if_icmp .ne 7, 3) := by decide +kernel
theorem dX5_addRow_27 : decode cX5_addRow 27 = .ok (.iconst 2, 1) := by decide +kernel
theorem dX5_addRow_28 : decode cX5_addRow 28 = .ok (.goto 4, 3) := by decide +kernel
theorem dX5_addRow_31 : decode cX5_addRow 31 = .ok (.iconst 1, 1) := by decide +kernel
theorem dX5_addRow_32 : decode cX5_addRow 32 = .ok (.invokevirtual 55, 3) := by decide +kernel
theorem dX5_addRow_35 : decode cX5_addRow 35 = .ok (.istore 6, 2) := by decide +kernel
theorem dX5_addRow_37 : decode cX5_addRow 37 = .ok (.iload_n 3, 1) := by decide +kernel
theorem dX5_addRow_38 : decode cX5_addRow 38 = .ok (.ineg, 1) := by decide +kernel
theorem dX5_addRow_39 : decode cX5_addRow 39 = .ok (.i2l, 1) := by decide +kernel
theorem dX5_addRow_40 : decode cX5_addRow 40 = .ok (.lstore 7, 2) := by decide +kernel
theorem dX5_addRow_42 : decode cX5_addRow 42 = .ok (.iconst 0, 1) := by decide +kernel
theorem dX5_addRow_43 : decode cX5_addRow 43 = .ok (.istore 9, 2) := by decide +kernel
theorem dX5_addRow_45 : decode cX5_addRow 45 = .ok (.iload 9, 2) := by decide +kernel
theorem dX5_addRow_47 : decode cX5_addRow 47 = .ok (.aload_n 0, 1) := by decide +kernel
theorem dX5_addRow_48 : decode cX5_addRow 48 = .ok (.getfield 32, 3) := by decide +kernel
theorem dX5_addRow_51 : decode cX5_addRow 51 = .ok (.if_icmp .ge 65, 3) := by decide +kernel
theorem dX5_addRow_54 : decode cX5_addRow 54 = .ok (.aload_n 1, 1) := by decide +kernel
theorem dX5_addRow_55 : decode cX5_addRow 55 = .ok (.iload_n 2, 1) := by decide +kernel
theorem dX5_addRow_56 : decode cX5_addRow 56 = .ok (.iload 9, 2) := by decide +kernel
theorem dX5_addRow_58 : decode cX5_addRow 58 = .ok (.invokevirtual 72, 3) := by decide +kernel
theorem dX5_addRow_61 : decode cX5_addRow 61 = .ok (.i2l, 1) := by decide +kernel
theorem dX5_addRow_62 : decode cX5_addRow 62 = .ok (.lstore 10, 2) := by decide +kernel
theorem dX5_addRow_64 : decode cX5_addRow 64 = .ok (.lload 7, 2) := by decide +kernel
theorem dX5_addRow_66 : decode cX5_addRow 66 = .ok (.lload 10, 2) := by decide +kernel
theorem dX5_addRow_68 : decode cX5_addRow 68 = .ok (.aload_n 0, 1) := by decide +kernel
theorem dX5_addRow_69 : decode cX5_addRow 69 = .ok (.iload 9, 2) := by decide +kernel
theorem dX5_addRow_71 : decode cX5_addRow 71 = .ok (.invokevirtual 76, 3) := by decide +kernel
theorem dX5_addRow_74 : decode cX5_addRow 74 = .ok (.lmul, 1) := by decide +kernel
theorem dX5_addRow_75 : decode cX5_addRow 75 = .ok (.ladd, 1) := by decide +kernel
theorem dX5_addRow_76 : decode cX5_addRow 76 = .ok (.lstore 7, 2) := by decide +kernel
theorem dX5_addRow_78 : decode cX5_addRow 78 = .ok (.aload_n 0, 1) := by decide +kernel
theorem dX5_addRow_79 : decode cX5_addRow 79 = .ok (.getfield 11, 3) := by decide +kernel
theorem dX5_addRow_82 : decode cX5_addRow 82 = .ok (.iload 6, 2) := by decide +kernel
theorem dX5_addRow_84 : decode cX5_addRow 84 = .ok (.iload 9, 2) := by decide +kernel
theorem dX5_addRow_86 : decode cX5_addRow 86 = .ok (.iadd, 1) := by decide +kernel
theorem dX5_addRow_87 : decode cX5_addRow 87 = .ok (.iload 5, 2) := by decide +kernel
theorem dX5_addRow_89 : decode cX5_addRow 89 = .ok (.i2l, 1) := by decide +kernel
theorem dX5_addRow_90 : decode cX5_addRow 90 = .ok (.lload 10, 2) := by decide +kernel
theorem dX5_addRow_92 : decode cX5_addRow 92 = .ok (.lmul, 1) := by decide +kernel
theorem dX5_addRow_93 : decode cX5_addRow 93 = .ok (.aload_n 0, 1) := by decide +kernel
theorem dX5_addRow_94 : decode cX5_addRow 94 = .ok (.getfield 11, 3) := by decide +kernel
theorem dX5_addRow_97 : decode cX5_addRow 97 = .ok (.iconst 1, 1) := by decide +kernel
theorem dX5_addRow_98 : decode cX5_addRow 98 = .ok (.iload 9, 2) := by decide +kernel
theorem dX5_addRow_100 : decode cX5_addRow 100 = .ok (.iadd, 1) := by decide +kernel
theorem dX5_addRow_101 : decode cX5_addRow 101 = .ok (.bipush 6, 2) := by decide +kernel
theorem dX5_addRow_103 : decode cX5_addRow 103 = .ok (.imul, 1) := by decide +kernel
theorem dX5_addRow_104 : decode cX5_addRow 104 = .ok (.iload 9, 2) := by decide +kernel
theorem dX5_addRow_106 : decode cX5_addRow 106 = .ok (.iadd, 1) := by decide +kernel
theorem dX5_addRow_107 : decode cX5_addRow 107 = .ok (.laload, 1) := by decide +kernel
theorem dX5_addRow_108 : decode cX5_addRow 108 = .ok (.lmul, 1) := by decide +kernel
theorem dX5_addRow_109 : decode cX5_addRow 109 = .ok (.lastore, 1) := by decide +kernel
theorem dX5_addRow_110 : decode cX5_addRow 110 = .ok (.iinc 9 1, 3) := by decide +kernel
theorem dX5_addRow_113 : decode cX5_addRow 113 = .ok (.goto (-68), 3) := by decide +kernel
theorem dX5_addRow_116 : decode cX5_addRow 116 = .ok (.aload_n 0, 1) := by decide +kernel
theorem dX5_addRow_117 : decode cX5_addRow 117 = .ok (.getfield 11, 3) := by decide +kernel
theorem dX5_addRow_120 : decode cX5_addRow 120 = .ok (.iload 6, 2) := by decide +kernel
theorem dX5_addRow_122 : decode cX5_addRow 122 = .ok (.iconst 5, 1) := by decide +kernel
theorem dX5_addRow_123 : decode cX5_addRow 123 = .ok (.iadd, 1) := by decide +kernel
theorem dX5_addRow_124 : decode cX5_addRow 124 = .ok (.iload 5, 2) := by decide +kernel
theorem dX5_addRow_126 : decode cX5_addRow 126 = .ok (.i2l, 1) := by decide +kernel
theorem dX5_addRow_127 : decode cX5_addRow 127 = .ok (.lload 7, 2) := by decide +kernel
theorem dX5_addRow_129 : decode cX5_addRow 129 = .ok (.lmul, 1) := by decide +kernel
theorem dX5_addRow_130 : decode cX5_addRow 130 = .ok (.lastore, 1) := by decide +kernel
theorem dX5_addRow_131 : decode cX5_addRow 131 = .ok (.return_, 1) := by decide +kernel
theorem dX5_reachFar_0 : decode cX5_reachFar 0 = .ok (.iconst 0, 1) := by decide +kernel
theorem dX5_reachFar_1 : decode cX5_reachFar 1 = .ok (.istore_n 1, 1) := by decide +kernel
theorem dX5_reachFar_2 : decode cX5_reachFar 2 = .ok (.iconst (-1), 1) := by decide +kernel
theorem dX5_reachFar_3 : decode cX5_reachFar 3 = .ok (.istore_n 2, 1) := by decide +kernel
theorem dX5_reachFar_4 : decode cX5_reachFar 4 = .ok (.iconst 0, 1) := by decide +kernel
theorem dX5_reachFar_5 : decode cX5_reachFar 5 = .ok (.istore_n 3, 1) := by decide +kernel
theorem dX5_reachFar_6 : decode cX5_reachFar 6 = .ok (.iload_n 3, 1) := by decide +kernel
theorem dX5_reachFar_7 : decode cX5_reachFar 7 = .ok (.aload_n 0, 1) := by decide +kernel
theorem dX5_reachFar_8 : decode cX5_reachFar 8 = .ok (.getfield 32, 3) := by decide +kernel
theorem dX5_reachFar_11 : decode cX5_reachFar 11 = .ok (.if_icmp .ge 52, 3) := by decide +kernel
theorem dX5_reachFar_14 : decode cX5_reachFar 14 = .ok (.aload_n 0, 1) := by decide +kernel
theorem dX5_reachFar_15 : decode cX5_reachFar 15 = .ok (.getfield 11, 3) := by decide +kernel
theorem dX5_reachFar_18 : decode cX5_reachFar 18 = .ok (.iload_n 3, 1) := by decide +kernel
theorem dX5_reachFar_19 : decode cX5_reachFar 19 = .ok (.laload, 1) := by decide +kernel
theorem dX5_reachFar_20 : decode cX5_reachFar 20 = .ok (.lconst 0, 1) := by decide +kernel
theorem dX5_reachFar_21 : decode cX5_reachFar 21 = .ok (.lcmp, 1) := by decide +kernel
theorem dX5_reachFar_22 : decode cX5_reachFar 22 = .ok (.ifCond .ge 35, 3) := by decide +kernel
theorem dX5_reachFar_25 : decode cX5_reachFar 25 = .ok (.iload_n 1, 1) := by decide +kernel
theorem dX5_reachFar_26 : decode cX5_reachFar 26 = .ok (.iconst 1, 1) := by decide +kernel
theorem dX5_reachFar_27 : decode cX5_reachFar 27 = .ok (.iload_n 3, 1) := by decide +kernel
theorem dX5_reachFar_28 : decode cX5_reachFar 28 = .ok (.ishl, 1) := by decide +kernel
theorem dX5_reachFar_29 : decode cX5_reachFar 29 = .ok (.ior, 1) := by decide +kernel
theorem dX5_reachFar_30 : decode cX5_reachFar 30 = .ok (.istore_n 1, 1) := by decide +kernel
theorem dX5_reachFar_31 : decode cX5_reachFar 31 = .ok (.iload_n 2, 1) := by decide +kernel
theorem dX5_reachFar_32 : decode cX5_reachFar 32 = .ok (.ifCond .lt 19, 3) := by decide +kernel
theorem dX5_reachFar_35 : decode cX5_reachFar 35 = .ok (.aload_n 0, 1) := by decide +kernel
theorem dX5_reachFar_36 : decode cX5_reachFar 36 = .ok (.getfield 11, 3) := by decide +kernel
theorem dX5_reachFar_39 : decode cX5_reachFar 39 = .ok (.iload_n 3, 1) := by decide +kernel
theorem dX5_reachFar_40 : decode cX5_reachFar 40 = .ok (.laload, 1) := by decide +kernel
theorem dX5_reachFar_41 : decode cX5_reachFar 41 = .ok (.aload_n 0, 1) := by decide +kernel
theorem dX5_reachFar_42 : decode cX5_reachFar 42 = .ok (.getfield 11, 3) := by decide +kernel
theorem dX5_reachFar_45 : decode cX5_reachFar 45 = .ok (.iload_n 2, 1) := by decide +kernel
theorem dX5_reachFar_46 : decode cX5_reachFar 46 = .ok (.laload, 1) := by decide +kernel
theorem dX5_reachFar_47 : decode cX5_reachFar 47 = .ok (.lcmp, 1) := by decide +kernel
theorem dX5_reachFar_48 : decode cX5_reachFar 48 = .ok (.ifCond .gt 7, 3) := by decide +kernel
theorem dX5_reachFar_51 : decode cX5_reachFar 51 = .ok (.iload_n 3, 1) := by decide +kernel
theorem dX5_reachFar_52 : decode cX5_reachFar 52 = .ok (.goto 4, 3) := by decide +kernel
theorem dX5_reachFar_55 : decode cX5_reachFar 55 = .ok (.iload_n 2, 1) := by decide +kernel
theorem dX5_reachFar_56 : decode cX5_reachFar 56 = .ok (.istore_n 2, 1) := by decide +kernel
theorem dX5_reachFar_57 : decode cX5_reachFar 57 = .ok (.iinc 3 1, 3) := by decide +kernel
theorem dX5_reachFar_60 : decode cX5_reachFar 60 = .ok (.goto (-54), 3) := by decide +kernel
theorem dX5_reachFar_63 : decode cX5_reachFar 63 = .ok (.iconst 0, 1) := by decide +kernel
theorem dX5_reachFar_64 : decode cX5_reachFar 64 = .ok (.istore_n 3, 1) := by decide +kernel
theorem dX5_reachFar_65 : decode cX5_reachFar 65 = .ok (.iload_n 3, 1) := by decide +kernel
theorem dX5_reachFar_66 : decode cX5_reachFar 66 = .ok (.aload_n 0, 1) := by decide +kernel
theorem dX5_reachFar_67 : decode cX5_reachFar 67 = .ok (.getfield 36, 3) := by decide +kernel
theorem dX5_reachFar_70 : decode cX5_reachFar 70 = .ok (.if_icmp .ge 85, 3) := by decide +kernel
theorem dX5_reachFar_73 : decode cX5_reachFar 73 = .ok (.iload_n 2, 1) := by decide +kernel
theorem dX5_reachFar_74 : decode cX5_reachFar 74 = .ok (.ifCond .lt 81, 3) := by decide +kernel
theorem dX5_reachFar_77 : decode cX5_reachFar 77 = .ok (.aload_n 0, 1) := by decide +kernel
theorem dX5_reachFar_78 : decode cX5_reachFar 78 = .ok (.getfield 11, 3) := by decide +kernel
theorem dX5_reachFar_81 : decode cX5_reachFar 81 = .ok (.iload_n 3, 1) := by decide +kernel
theorem dX5_reachFar_82 : decode cX5_reachFar 82 = .ok (.bipush 6, 2) := by decide +kernel
theorem dX5_reachFar_84 : decode cX5_reachFar 84 = .ok (.imul, 1) := by decide +kernel
theorem dX5_reachFar_85 : decode cX5_reachFar 85 = .ok (.iload_n 2, 1) := by decide +kernel
theorem dX5_reachFar_86 : decode cX5_reachFar 86 = .ok (.iadd, 1) := by decide +kernel
theorem dX5_reachFar_87 : decode cX5_reachFar 87 = .ok (.laload, 1) := by decide +kernel
theorem dX5_reachFar_88 : decode cX5_reachFar 88 = .ok (.lstore 4, 2) := by decide +kernel
theorem dX5_reachFar_90 : decode cX5_reachFar 90 = .ok (.iconst 0, 1) := by decide +kernel
theorem dX5_reachFar_91 : decode cX5_reachFar 91 = .ok (.istore 6, 2) := by decide +kernel
theorem dX5_reachFar_93 : decode cX5_reachFar 93 = .ok (.iload 6, 2) := by decide +kernel
theorem dX5_reachFar_95 : decode cX5_reachFar 95 = .ok (.aload_n 0, 1) := by decide +kernel
theorem dX5_reachFar_96 : decode cX5_reachFar 96 = .ok (.getfield 32, 3) := by decide +kernel
theorem dX5_reachFar_99 : decode cX5_reachFar 99 = .ok (.if_icmp .ge 36, 3) := by decide +kernel
theorem dX5_reachFar_102 : decode cX5_reachFar 102 = .ok (.iload_n 1, 1) := by decide +kernel
theorem dX5_reachFar_103 : decode cX5_reachFar 103 = .ok (.iload 6, 2) := by decide +kernel
theorem dX5_reachFar_105 : decode cX5_reachFar 105 = .ok (.ishr, 1) := by decide +kernel
theorem dX5_reachFar_106 : decode cX5_reachFar 106 = .ok (.iconst 1, 1) := by decide +kernel
theorem dX5_reachFar_107 : decode cX5_reachFar 107 = .ok (.iand, 1) := by decide +kernel
theorem dX5_reachFar_108 : decode cX5_reachFar 108 = .ok (.iconst 1, 1) := by decide +kernel
theorem dX5_reachFar_109 : decode cX5_reachFar 109 = .ok (.if_icmp .ne 20, 3) := by decide +kernel
theorem dX5_reachFar_112 : decode cX5_reachFar 112 = .ok (.aload_n 0, 1) := by decide +kernel
theorem dX5_reachFar_113 : decode cX5_reachFar 113 = .ok (.getfield 11, 3) := by decide +kernel
theorem dX5_reachFar_116 : decode cX5_reachFar 116 = .ok (.iload_n 3, 1) := by decide +kernel
theorem dX5_reachFar_117 : decode cX5_reachFar 117 = .ok (.bipush 6, 2) := by decide +kernel
theorem dX5_reachFar_119 : decode cX5_reachFar 119 = .ok (.imul, 1) := by decide +kernel
theorem dX5_reachFar_120 : decode cX5_reachFar 120 = .ok (.iload 6, 2) := by decide +kernel
theorem dX5_reachFar_122 : decode cX5_reachFar 122 = .ok (.iadd, 1) := by decide +kernel
theorem dX5_reachFar_123 : decode cX5_reachFar 123 = .ok (.dup2, 1) := by decide +kernel
theorem dX5_reachFar_124 : decode cX5_reachFar 124 = .ok (.laload, 1) := by decide +kernel
theorem dX5_reachFar_125 : decode cX5_reachFar 125 = .ok (.lload 4, 2) := by decide +kernel
theorem dX5_reachFar_127 : decode cX5_reachFar 127 = .ok (.lsub, 1) := by decide +kernel
theorem dX5_reachFar_128 : decode cX5_reachFar 128 = .ok (.lastore, 1) := by decide +kernel
theorem dX5_reachFar_129 : decode cX5_reachFar 129 = .ok (.iinc 6 1, 3) := by decide +kernel
theorem dX5_reachFar_132 : decode cX5_reachFar 132 = .ok (.goto (-39), 3) := by decide +kernel
theorem dX5_reachFar_135 : decode cX5_reachFar 135 = .ok (.aload_n 0, 1) := by decide +kernel
theorem dX5_reachFar_136 : decode cX5_reachFar 136 = .ok (.getfield 11, 3) := by decide +kernel
theorem dX5_reachFar_139 : decode cX5_reachFar 139 = .ok (.iload_n 3, 1) := by decide +kernel
theorem dX5_reachFar_140 : decode cX5_reachFar 140 = .ok (.bipush 6, 2) := by decide +kernel
theorem dX5_reachFar_142 : decode cX5_reachFar 142 = .ok (.imul, 1) := by decide +kernel
theorem dX5_reachFar_143 : decode cX5_reachFar 143 = .ok (.iload_n 2, 1) := by decide +kernel
theorem dX5_reachFar_144 : decode cX5_reachFar 144 = .ok (.iadd, 1) := by decide +kernel
theorem dX5_reachFar_145 : decode cX5_reachFar 145 = .ok (.lload 4, 2) := by decide +kernel
theorem dX5_reachFar_147 : decode cX5_reachFar 147 = .ok (.lneg, 1) := by decide +kernel
theorem dX5_reachFar_148 : decode cX5_reachFar 148 = .ok (.lastore, 1) := by decide +kernel
theorem dX5_reachFar_149 : decode cX5_reachFar 149 = .ok (.iinc 3 1, 3) := by decide +kernel
theorem dX5_reachFar_152 : decode cX5_reachFar 152 = .ok (.goto (-87), 3) := by decide +kernel
theorem dX5_reachFar_155 : decode cX5_reachFar 155 = .ok (.aload_n 0, 1) := by decide +kernel
theorem dX5_reachFar_156 : decode cX5_reachFar 156 = .ok (.iload_n 2, 1) := by decide +kernel
theorem dX5_reachFar_157 : decode cX5_reachFar 157 = .ok (.putfield 43, 3) := by decide +kernel
theorem dX5_reachFar_160 : decode cX5_reachFar 160 = .ok (.return_, 1) := by decide +kernel
set_option maxRecDepth 20000 in
theorem ggX5_descend_X5_brokenLine : GoodIn wsX5_descend wsX5_brokenLine := goodIn_r _ [6, 7, 8, 9, 10, 11, 5, 12, 13, 14, 15, 16, 17, 18, 38, 39, 40, 41, 42, 43, 44, 45, 46, 47] (by decide +kernel) (by decide +kernel)
set_option maxRecDepth 20000 in
theorem gX5_descend_X5_brokenLine : GoodIn wsX5_descend (wsV RX5 81 RX5 yX5_brokenLine wsX5_brokenLine) := goodIn_app (goodIn_of _ (by decide +kernel)) ggX5_descend_X5_brokenLine
set_option maxRecDepth 20000 in
theorem ggX5_descend_X5_cheapestWay : GoodIn wsX5_descend wsX5_cheapestWay := goodIn_r _ [22, 23, 24, 14, 9, 10, 11, 5, 12, 13, 15, 16, 17, 18, 25, 26, 27, 28, 29, 30, 31, 32, 38, 39, 40, 41, 42, 43, 44, 45, 46, 47] (by decide +kernel) (by decide +kernel)
set_option maxRecDepth 20000 in
theorem gX5_descend_X5_cheapestWay : GoodIn wsX5_descend (wsV RX5 85 RX5 yX5_cheapestWay wsX5_cheapestWay) := goodIn_app (goodIn_of _ (by decide +kernel)) ggX5_descend_X5_cheapestWay
set_option maxRecDepth 20000 in
theorem ggX5_descend_X5_turn : GoodIn wsX5_descend wsX5_turn := goodIn_r _ [36, 14, 37, 7, 23, 24, 8, 13, 38, 39, 40, 41, 42, 43, 44, 45, 46, 47] (by decide +kernel) (by decide +kernel)
set_option maxRecDepth 20000 in
theorem gX5_descend_X5_turn : GoodIn wsX5_descend (wsV RX5 88 RX5 yX5_turn wsX5_turn) := goodIn_app (goodIn_of _ (by decide +kernel)) ggX5_descend_X5_turn
theorem dX5_descend_0 : decode cX5_descend 0 = .ok (.iconst 0, 1) := by decide +kernel
theorem dX5_descend_1 : decode cX5_descend 1 = .ok (.istore_n 1, 1) := by decide +kernel
theorem dX5_descend_2 : decode cX5_descend 2 = .ok (.iload_n 1, 1) := by decide +kernel
theorem dX5_descend_3 : decode cX5_descend 3 = .ok (.ldc 80, 2) := by decide +kernel
theorem dX5_descend_5 : decode cX5_descend 5 = .ok (.if_icmp .ge 38, 3) := by decide +kernel
theorem dX5_descend_8 : decode cX5_descend 8 = .ok (.aload_n 0, 1) := by decide +kernel
theorem dX5_descend_9 : decode cX5_descend 9 = .ok (.invokevirtual 81, 3) := by decide +kernel
theorem dX5_descend_12 : decode cX5_descend 12 = .ok (.istore_n 2, 1) := by decide +kernel
theorem dX5_descend_13 : decode cX5_descend 13 = .ok (.iload_n 2, 1) := by decide +kernel
theorem dX5_descend_14 : decode cX5_descend 14 = .ok (.ifCond .ge 5, 3) := by decide +kernel
theorem dX5_descend_17 : decode cX5_descend 17 = .ok (.iconst 1, 1) := by decide +kernel
theorem dX5_descend_18 : decode cX5_descend 18 = .ok (.ireturn, 1) := by decide +kernel
theorem dX5_descend_19 : decode cX5_descend 19 = .ok (.aload_n 0, 1) := by decide +kernel
theorem dX5_descend_20 : decode cX5_descend 20 = .ok (.iload_n 2, 1) := by decide +kernel
theorem dX5_descend_21 : decode cX5_descend 21 = .ok (.invokevirtual 85, 3) := by decide +kernel
theorem dX5_descend_24 : decode cX5_descend 24 = .ok (.istore_n 3, 1) := by decide +kernel
theorem dX5_descend_25 : decode cX5_descend 25 = .ok (.iload_n 3, 1) := by decide +kernel
theorem dX5_descend_26 : decode cX5_descend 26 = .ok (.ifCond .ge 5, 3) := by decide +kernel
theorem dX5_descend_29 : decode cX5_descend 29 = .ok (.iconst 0, 1) := by decide +kernel
theorem dX5_descend_30 : decode cX5_descend 30 = .ok (.ireturn, 1) := by decide +kernel
theorem dX5_descend_31 : decode cX5_descend 31 = .ok (.aload_n 0, 1) := by decide +kernel
theorem dX5_descend_32 : decode cX5_descend 32 = .ok (.iload_n 2, 1) := by decide +kernel
theorem dX5_descend_33 : decode cX5_descend 33 = .ok (.iload_n 3, 1) := by decide +kernel
theorem dX5_descend_34 : decode cX5_descend 34 = .ok (.invokevirtual 88, 3) := by decide +kernel
theorem dX5_descend_37 : decode cX5_descend 37 = .ok (.iinc 1 1, 3) := by decide +kernel
theorem dX5_descend_40 : decode cX5_descend 40 = .ok (.goto (-38), 3) := by decide +kernel
theorem dX5_descend_43 : decode cX5_descend 43 = .ok (.iconst 0, 1) := by decide +kernel
theorem dX5_descend_44 : decode cX5_descend 44 = .ok (.ireturn, 1) := by decide +kernel
set_option maxRecDepth 20000 in
theorem ggX5_brokenLine_X5_sideOf : GoodIn wsX5_brokenLine wsX5_sideOf := goodIn_r _ [7, 8, 9, 10, 11, 12, 13, 14, 15, 16, 17, 18, 19, 20, 21, 22, 23] (by decide +kernel) (by decide +kernel)
set_option maxRecDepth 20000 in
theorem gX5_brokenLine_X5_sideOf : GoodIn wsX5_brokenLine (wsV RX5 92 RX5 yX5_sideOf wsX5_sideOf) := goodIn_app (goodIn_of _ (by decide +kernel)) ggX5_brokenLine_X5_sideOf
theorem dX5_brokenLine_0 : decode cX5_brokenLine 0 = .ok (.iconst 0, 1) := by decide +kernel
theorem dX5_brokenLine_1 : decode cX5_brokenLine 1 = .ok (.istore_n 1, 1) := by decide +kernel
theorem dX5_brokenLine_2 : decode cX5_brokenLine 2 = .ok (.iload_n 1, 1) := by decide +kernel
theorem dX5_brokenLine_3 : decode cX5_brokenLine 3 = .ok (.aload_n 0, 1) := by decide +kernel
theorem dX5_brokenLine_4 : decode cX5_brokenLine 4 = .ok (.getfield 36, 3) := by decide +kernel
theorem dX5_brokenLine_7 : decode cX5_brokenLine 7 = .ok (.if_icmp .ge 48, 3) := by decide +kernel
theorem dX5_brokenLine_10 : decode cX5_brokenLine 10 = .ok (.aload_n 0, 1) := by decide +kernel
theorem dX5_brokenLine_11 : decode cX5_brokenLine 11 = .ok (.getfield 15, 3) := by decide +kernel
theorem dX5_brokenLine_14 : decode cX5_brokenLine 14 = .ok (.iload_n 1, 1) := by decide +kernel
theorem dX5_brokenLine_15 : decode cX5_brokenLine 15 = .ok (.iaload, 1) := by decide +kernel
theorem dX5_brokenLine_16 : decode cX5_brokenLine 16 = .ok (.ifCond .ne 7, 3) := by decide +kernel
theorem dX5_brokenLine_19 : decode cX5_brokenLine 19 = .ok (.iconst 0, 1) := by decide +kernel
theorem dX5_brokenLine_20 : decode cX5_brokenLine 20 = .ok (.goto 8, 3) := by decide +kernel
theorem dX5_brokenLine_23 : decode cX5_brokenLine 23 = .ok (.aload_n 0, 1) := by decide +kernel
theorem dX5_brokenLine_24 : decode cX5_brokenLine 24 = .ok (.iload_n 1, 1) := by decide +kernel
theorem dX5_brokenLine_25 : decode cX5_brokenLine 25 = .ok (.invokevirtual 92, 3) := by decide +kernel
theorem dX5_brokenLine_28 : decode cX5_brokenLine 28 = .ok (.istore_n 2, 1) := by decide +kernel
theorem dX5_brokenLine_29 : decode cX5_brokenLine 29 = .ok (.iload_n 2, 1) := by decide +kernel
theorem dX5_brokenLine_30 : decode cX5_brokenLine 30 = .ok (.ifCond .lt 17, 3) := by decide +kernel
theorem dX5_brokenLine_33 : decode cX5_brokenLine 33 = .ok (.iload_n 2, 1) := by decide +kernel
theorem dX5_brokenLine_34 : decode cX5_brokenLine 34 = .ok (.ifCond .le 15, 3) := by decide +kernel
theorem dX5_brokenLine_37 : decode cX5_brokenLine 37 = .ok (.aload_n 0, 1) := by decide +kernel
theorem dX5_brokenLine_38 : decode cX5_brokenLine 38 = .ok (.getfield 15, 3) := by decide +kernel
theorem dX5_brokenLine_41 : decode cX5_brokenLine 41 = .ok (.iload_n 1, 1) := by decide +kernel
theorem dX5_brokenLine_42 : decode cX5_brokenLine 42 = .ok (.iaload, 1) := by decide +kernel
theorem dX5_brokenLine_43 : decode cX5_brokenLine 43 = .ok (.iconst 2, 1) := by decide +kernel
theorem dX5_brokenLine_44 : decode cX5_brokenLine 44 = .ok (.if_icmp .ne 5, 3) := by decide +kernel
theorem dX5_brokenLine_47 : decode cX5_brokenLine 47 = .ok (.iload_n 1, 1) := by decide +kernel
theorem dX5_brokenLine_48 : decode cX5_brokenLine 48 = .ok (.ireturn, 1) := by decide +kernel
theorem dX5_brokenLine_49 : decode cX5_brokenLine 49 = .ok (.iinc 1 1, 3) := by decide +kernel
theorem dX5_brokenLine_52 : decode cX5_brokenLine 52 = .ok (.goto (-50), 3) := by decide +kernel
theorem dX5_brokenLine_55 : decode cX5_brokenLine 55 = .ok (.iconst (-1), 1) := by decide +kernel
theorem dX5_brokenLine_56 : decode cX5_brokenLine 56 = .ok (.ireturn, 1) := by decide +kernel
set_option maxRecDepth 20000 in
theorem ggX5_sideOf_J13_compare_74951 : GoodIn wsX5_sideOf wsJ13_compare_74951 := goodIn_r _ [6] (by decide +kernel) (by decide +kernel)
set_option maxRecDepth 20000 in
theorem gX5_sideOf_J13_compare_74951 : GoodIn wsX5_sideOf (va_wsS RX5 95 yJ13_compare_74951 wsJ13_compare_74951) := goodIn_app (goodIn_of _ (by decide +kernel)) ggX5_sideOf_J13_compare_74951
theorem dX5_sideOf_0 : decode cX5_sideOf 0 = .ok (.aload_n 0, 1) := by decide +kernel
theorem dX5_sideOf_1 : decode cX5_sideOf 1 = .ok (.getfield 43, 3) := by decide +kernel
theorem dX5_sideOf_4 : decode cX5_sideOf 4 = .ok (.ifCond .ge 7, 3) := by decide +kernel
theorem dX5_sideOf_7 : decode cX5_sideOf 7 = .ok (.lconst 0, 1) := by decide +kernel
theorem dX5_sideOf_8 : decode cX5_sideOf 8 = .ok (.goto 17, 3) := by decide +kernel
theorem dX5_sideOf_11 : decode cX5_sideOf 11 = .ok (.aload_n 0, 1) := by decide +kernel
theorem dX5_sideOf_12 : decode cX5_sideOf 12 = .ok (.getfield 11, 3) := by decide +kernel
theorem dX5_sideOf_15 : decode cX5_sideOf 15 = .ok (.iload_n 1, 1) := by decide +kernel
theorem dX5_sideOf_16 : decode cX5_sideOf 16 = .ok (.bipush 6, 2) := by decide +kernel
theorem dX5_sideOf_18 : decode cX5_sideOf 18 = .ok (.imul, 1) := by decide +kernel
theorem dX5_sideOf_19 : decode cX5_sideOf 19 = .ok (.aload_n 0, 1) := by decide +kernel
theorem dX5_sideOf_20 : decode cX5_sideOf 20 = .ok (.getfield 43, 3) := by decide +kernel
theorem dX5_sideOf_23 : decode cX5_sideOf 23 = .ok (.iadd, 1) := by decide +kernel
theorem dX5_sideOf_24 : decode cX5_sideOf 24 = .ok (.laload, 1) := by decide +kernel
theorem dX5_sideOf_25 : decode cX5_sideOf 25 = .ok (.lstore_n 2, 1) := by decide +kernel
theorem dX5_sideOf_26 : decode cX5_sideOf 26 = .ok (.lload_n 2, 1) := by decide +kernel
theorem dX5_sideOf_27 : decode cX5_sideOf 27 = .ok (.lconst 0, 1) := by decide +kernel
theorem dX5_sideOf_28 : decode cX5_sideOf 28 = .ok (.lcmp, 1) := by decide +kernel
theorem dX5_sideOf_29 : decode cX5_sideOf 29 = .ok (.ifCond .eq 11, 3) := by decide +kernel
theorem dX5_sideOf_32 : decode cX5_sideOf 32 = .ok (.lconst 0, 1) := by decide +kernel
theorem dX5_sideOf_33 : decode cX5_sideOf 33 = .ok (.lload_n 2, 1) := by decide +kernel
theorem dX5_sideOf_34 : decode cX5_sideOf 34 = .ok (.invokestatic 95, 3) := by decide +kernel
theorem dX5_sideOf_37 : decode cX5_sideOf 37 = .ok (.goto 18, 3) := by decide +kernel
theorem dX5_sideOf_40 : decode cX5_sideOf 40 = .ok (.aload_n 0, 1) := by decide +kernel
theorem dX5_sideOf_41 : decode cX5_sideOf 41 = .ok (.getfield 11, 3) := by decide +kernel
theorem dX5_sideOf_44 : decode cX5_sideOf 44 = .ok (.iload_n 1, 1) := by decide +kernel
theorem dX5_sideOf_45 : decode cX5_sideOf 45 = .ok (.bipush 6, 2) := by decide +kernel
theorem dX5_sideOf_47 : decode cX5_sideOf 47 = .ok (.imul, 1) := by decide +kernel
theorem dX5_sideOf_48 : decode cX5_sideOf 48 = .ok (.iconst 5, 1) := by decide +kernel
theorem dX5_sideOf_49 : decode cX5_sideOf 49 = .ok (.iadd, 1) := by decide +kernel
theorem dX5_sideOf_50 : decode cX5_sideOf 50 = .ok (.laload, 1) := by decide +kernel
theorem dX5_sideOf_51 : decode cX5_sideOf 51 = .ok (.lconst 0, 1) := by decide +kernel
theorem dX5_sideOf_52 : decode cX5_sideOf 52 = .ok (.invokestatic 95, 3) := by decide +kernel
theorem dX5_sideOf_55 : decode cX5_sideOf 55 = .ok (.ireturn, 1) := by decide +kernel
set_option maxRecDepth 20000 in
theorem ggX5_cheapestWay_X5_sideOf : GoodIn wsX5_cheapestWay wsX5_sideOf := goodIn_r _ [8, 9, 3, 10, 11, 12, 13, 22, 23, 24, 25, 26, 27, 28, 29, 30, 31] (by decide +kernel) (by decide +kernel)
set_option maxRecDepth 20000 in
theorem gX5_cheapestWay_X5_sideOf : GoodIn wsX5_cheapestWay (wsV RX5 92 RX5 yX5_sideOf wsX5_sideOf) := goodIn_app (goodIn_of _ (by decide +kernel)) ggX5_cheapestWay_X5_sideOf
set_option maxRecDepth 20000 in
theorem ggX5_cheapestWay_X5_isCheaper : GoodIn wsX5_cheapestWay wsX5_isCheaper := goodIn_r _ [17, 3, 18, 19, 20, 21, 1, 10, 11, 12, 13, 22, 23, 24, 25, 26, 27, 28, 29, 30, 31] (by decide +kernel) (by decide +kernel)
set_option maxRecDepth 20000 in
theorem gX5_cheapestWay_X5_isCheaper : GoodIn wsX5_cheapestWay (wsV RX5 101 RX5 yX5_isCheaper wsX5_isCheaper) := goodIn_app (goodIn_of _ (by decide +kernel)) ggX5_cheapestWay_X5_isCheaper
theorem dX5_cheapestWay_0 : decode cX5_cheapestWay 0 = .ok (.aload_n 0, 1) := by decide +kernel
theorem dX5_cheapestWay_1 : decode cX5_cheapestWay 1 = .ok (.iload_n 1, 1) := by decide +kernel
theorem dX5_cheapestWay_2 : decode cX5_cheapestWay 2 = .ok (.invokevirtual 92, 3) := by decide +kernel
theorem dX5_cheapestWay_5 : decode cX5_cheapestWay 5 = .ok (.istore_n 2, 1) := by decide +kernel
theorem dX5_cheapestWay_6 : decode cX5_cheapestWay 6 = .ok (.iconst (-1), 1) := by decide +kernel
theorem dX5_cheapestWay_7 : decode cX5_cheapestWay 7 = .ok (.istore_n 3, 1) := by decide +kernel
theorem dX5_cheapestWay_8 : decode cX5_cheapestWay 8 = .ok (.iconst 0, 1) := by decide +kernel
theorem dX5_cheapestWay_9 : decode cX5_cheapestWay 9 = .ok (.istore 4, 2) := by decide +kernel
theorem dX5_cheapestWay_11 : decode cX5_cheapestWay 11 = .ok (.iload 4, 2) := by decide +kernel
theorem dX5_cheapestWay_13 : decode cX5_cheapestWay 13 = .ok (.aload_n 0, 1) := by decide +kernel
theorem dX5_cheapestWay_14 : decode cX5_cheapestWay 14 = .ok (.getfield 32, 3) := by decide +kernel
theorem dX5_cheapestWay_17 : decode cX5_cheapestWay 17 = .ok (.if_icmp .ge 57, 3) := by decide +kernel
theorem dX5_cheapestWay_20 : decode cX5_cheapestWay 20 = .ok (.aload_n 0, 1) := by decide +kernel
theorem dX5_cheapestWay_21 : decode cX5_cheapestWay 21 = .ok (.getfield 28, 3) := by decide +kernel
theorem dX5_cheapestWay_24 : decode cX5_cheapestWay 24 = .ok (.iload 4, 2) := by decide +kernel
theorem dX5_cheapestWay_26 : decode cX5_cheapestWay 26 = .ok (.baload, 1) := by decide +kernel
theorem dX5_cheapestWay_27 : decode cX5_cheapestWay 27 = .ok (.ifCond .ne 41, 3) := by decide +kernel
theorem dX5_cheapestWay_30 : decode cX5_cheapestWay 30 = .ok (.aload_n 0, 1) := by decide +kernel
theorem dX5_cheapestWay_31 : decode cX5_cheapestWay 31 = .ok (.getfield 11, 3) := by decide +kernel
theorem dX5_cheapestWay_34 : decode cX5_cheapestWay 34 = .ok (.iload_n 1, 1) := by decide +kernel
theorem dX5_cheapestWay_35 : decode cX5_cheapestWay 35 = .ok (.bipush 6, 2) := by decide +kernel
theorem dX5_cheapestWay_37 : decode cX5_cheapestWay 37 = .ok (.imul, 1) := by decide +kernel
theorem dX5_cheapestWay_38 : decode cX5_cheapestWay 38 = .ok (.iload 4, 2) := by decide +kernel
theorem dX5_cheapestWay_40 : decode cX5_cheapestWay 40 = .ok (.iadd, 1) := by decide +kernel
theorem dX5_cheapestWay_41 : decode cX5_cheapestWay 41 = .ok (.laload, 1) := by decide +kernel
theorem dX5_cheapestWay_42 : decode cX5_cheapestWay 42 = .ok (.iload_n 2, 1) := by decide +kernel
theorem dX5_cheapestWay_43 : decode cX5_cheapestWay 43 = .ok (.i2l, 1) := by decide +kernel
theorem dX5_cheapestWay_44 : decode cX5_cheapestWay 44 = .ok (.lmul, 1) := by decide +kernel
theorem dX5_cheapestWay_45 : decode cX5_cheapestWay 45 = .ok (.lconst 0, 1) := by decide +kernel
theorem dX5_cheapestWay_46 : decode cX5_cheapestWay 46 = .ok (.lcmp, 1) := by decide +kernel
theorem dX5_cheapestWay_47 : decode cX5_cheapestWay 47 = .ok (.ifCond .ge 21, 3) := by decide +kernel
theorem dX5_cheapestWay_50 : decode cX5_cheapestWay 50 = .ok (.iload_n 3, 1) := by decide +kernel
theorem dX5_cheapestWay_51 : decode cX5_cheapestWay 51 = .ok (.ifCond .lt 14, 3) := by decide +kernel
theorem dX5_cheapestWay_54 : decode cX5_cheapestWay 54 = .ok (.aload_n 0, 1) := by decide +kernel
theorem dX5_cheapestWay_55 : decode cX5_cheapestWay 55 = .ok (.iload_n 1, 1) := by decide +kernel
theorem dX5_cheapestWay_56 : decode cX5_cheapestWay 56 = .ok (.iload 4, 2) := by decide +kernel
theorem dX5_cheapestWay_58 : decode cX5_cheapestWay 58 = .ok (.iload_n 3, 1) := by decide +kernel
theorem dX5_cheapestWay_59 : decode cX5_cheapestWay 59 = .ok (.invokevirtual 101, 3) := by decide +kernel
theorem dX5_cheapestWay_62 : decode cX5_cheapestWay 62 = .ok (.ifCond .eq 6, 3) := by decide +kernel
theorem dX5_cheapestWay_65 : decode cX5_cheapestWay 65 = .ok (.iload 4, 2) := by decide +kernel
theorem dX5_cheapestWay_67 : decode cX5_cheapestWay 67 = .ok (.istore_n 3, 1) := by decide +kernel
theorem dX5_cheapestWay_68 : decode cX5_cheapestWay 68 = .ok (.iinc 4 1, 3) := by decide +kernel
theorem dX5_cheapestWay_71 : decode cX5_cheapestWay 71 = .ok (.goto (-60), 3) := by decide +kernel
theorem dX5_cheapestWay_74 : decode cX5_cheapestWay 74 = .ok (.iload_n 3, 1) := by decide +kernel
theorem dX5_cheapestWay_75 : decode cX5_cheapestWay 75 = .ok (.ireturn, 1) := by decide +kernel
set_option maxRecDepth 20000 in
theorem ggX5_isCheaper_J13_compare_74951 : GoodIn wsX5_isCheaper wsJ13_compare_74951 := goodIn_r _ [10] (by decide +kernel) (by decide +kernel)
set_option maxRecDepth 20000 in
theorem gX5_isCheaper_J13_compare_74951 : GoodIn wsX5_isCheaper (va_wsS RX5 95 yJ13_compare_74951 wsJ13_compare_74951) := goodIn_app (goodIn_of _ (by decide +kernel)) ggX5_isCheaper_J13_compare_74951
theorem dX5_isCheaper_0 : decode cX5_isCheaper 0 = .ok (.aload_n 0, 1) := by decide +kernel
theorem dX5_isCheaper_1 : decode cX5_isCheaper 1 = .ok (.getfield 11, 3) := by decide +kernel
theorem dX5_isCheaper_4 : decode cX5_isCheaper 4 = .ok (.iload_n 1, 1) := by decide +kernel
theorem dX5_isCheaper_5 : decode cX5_isCheaper 5 = .ok (.bipush 6, 2) := by decide +kernel
theorem dX5_isCheaper_7 : decode cX5_isCheaper 7 = .ok (.imul, 1) := by decide +kernel
theorem dX5_isCheaper_8 : decode cX5_isCheaper 8 = .ok (.iload_n 2, 1) := by decide +kernel
theorem dX5_isCheaper_9 : decode cX5_isCheaper 9 = .ok (.iadd, 1) := by decide +kernel
theorem dX5_isCheaper_10 : decode cX5_isCheaper 10 = .ok (.laload, 1) := by decide +kernel
theorem dX5_isCheaper_11 : decode cX5_isCheaper 11 = .ok (.invokestatic 105, 3) := by decide +kernel
theorem dX5_isCheaper_14 : decode cX5_isCheaper 14 = .ok (.lstore 4, 2) := by decide +kernel
theorem dX5_isCheaper_16 : decode cX5_isCheaper 16 = .ok (.aload_n 0, 1) := by decide +kernel
theorem dX5_isCheaper_17 : decode cX5_isCheaper 17 = .ok (.getfield 11, 3) := by decide +kernel
theorem dX5_isCheaper_20 : decode cX5_isCheaper 20 = .ok (.iload_n 1, 1) := by decide +kernel
theorem dX5_isCheaper_21 : decode cX5_isCheaper 21 = .ok (.bipush 6, 2) := by decide +kernel
theorem dX5_isCheaper_23 : decode cX5_isCheaper 23 = .ok (.imul, 1) := by decide +kernel
theorem dX5_isCheaper_24 : decode cX5_isCheaper 24 = .ok (.iload_n 3, 1) := by decide +kernel
theorem dX5_isCheaper_25 : decode cX5_isCheaper 25 = .ok (.iadd, 1) := by decide +kernel
theorem dX5_isCheaper_26 : decode cX5_isCheaper 26 = .ok (.laload, 1) := by decide +kernel
theorem dX5_isCheaper_27 : decode cX5_isCheaper 27 = .ok (.invokestatic 105, 3) := by decide +kernel
theorem dX5_isCheaper_30 : decode cX5_isCheaper 30 = .ok (.lstore 6, 2) := by decide +kernel
theorem dX5_isCheaper_32 : decode cX5_isCheaper 32 = .ok (.iconst 0, 1) := by decide +kernel
theorem dX5_isCheaper_33 : decode cX5_isCheaper 33 = .ok (.istore 8, 2) := by decide +kernel
theorem dX5_isCheaper_35 : decode cX5_isCheaper 35 = .ok (.iconst 0, 1) := by decide +kernel
theorem dX5_isCheaper_36 : decode cX5_isCheaper 36 = .ok (.istore 9, 2) := by decide +kernel
theorem dX5_isCheaper_38 : decode cX5_isCheaper 38 = .ok (.iload 9, 2) := by decide +kernel
theorem dX5_isCheaper_40 : decode cX5_isCheaper 40 = .ok (.aload_n 0, 1) := by decide +kernel
theorem dX5_isCheaper_41 : decode cX5_isCheaper 41 = .ok (.getfield 32, 3) := by decide +kernel
theorem dX5_isCheaper_44 : decode cX5_isCheaper 44 = .ok (.if_icmp .gt 49, 3) := by decide +kernel
theorem dX5_isCheaper_47 : decode cX5_isCheaper 47 = .ok (.iload 8, 2) := by decide +kernel
theorem dX5_isCheaper_49 : decode cX5_isCheaper 49 = .ok (.ifCond .ne 44, 3) := by decide +kernel
theorem dX5_isCheaper_52 : decode cX5_isCheaper 52 = .ok (.aload_n 0, 1) := by decide +kernel
theorem dX5_isCheaper_53 : decode cX5_isCheaper 53 = .ok (.getfield 11, 3) := by decide +kernel
theorem dX5_isCheaper_56 : decode cX5_isCheaper 56 = .ok (.iload 9, 2) := by decide +kernel
theorem dX5_isCheaper_58 : decode cX5_isCheaper 58 = .ok (.bipush 6, 2) := by decide +kernel
theorem dX5_isCheaper_60 : decode cX5_isCheaper 60 = .ok (.imul, 1) := by decide +kernel
theorem dX5_isCheaper_61 : decode cX5_isCheaper 61 = .ok (.iload_n 2, 1) := by decide +kernel
theorem dX5_isCheaper_62 : decode cX5_isCheaper 62 = .ok (.iadd, 1) := by decide +kernel
theorem dX5_isCheaper_63 : decode cX5_isCheaper 63 = .ok (.laload, 1) := by decide +kernel
theorem dX5_isCheaper_64 : decode cX5_isCheaper 64 = .ok (.lload 6, 2) := by decide +kernel
theorem dX5_isCheaper_66 : decode cX5_isCheaper 66 = .ok (.lmul, 1) := by decide +kernel
theorem dX5_isCheaper_67 : decode cX5_isCheaper 67 = .ok (.aload_n 0, 1) := by decide +kernel
theorem dX5_isCheaper_68 : decode cX5_isCheaper 68 = .ok (.getfield 11, 3) := by decide +kernel
theorem dX5_isCheaper_71 : decode cX5_isCheaper 71 = .ok (.iload 9, 2) := by decide +kernel
theorem dX5_isCheaper_73 : decode cX5_isCheaper 73 = .ok (.bipush 6, 2) := by decide +kernel
theorem dX5_isCheaper_75 : decode cX5_isCheaper 75 = .ok (.imul, 1) := by decide +kernel
theorem dX5_isCheaper_76 : decode cX5_isCheaper 76 = .ok (.iload_n 3, 1) := by decide +kernel
theorem dX5_isCheaper_77 : decode cX5_isCheaper 77 = .ok (.iadd, 1) := by decide +kernel
theorem dX5_isCheaper_78 : decode cX5_isCheaper 78 = .ok (.laload, 1) := by decide +kernel
theorem dX5_isCheaper_79 : decode cX5_isCheaper 79 = .ok (.lload 4, 2) := by decide +kernel
theorem dX5_isCheaper_81 : decode cX5_isCheaper 81 = .ok (.lmul, 1) := by decide +kernel
theorem dX5_isCheaper_82 : decode cX5_isCheaper 82 = .ok (.invokestatic 95, 3) := by decide +kernel
theorem dX5_isCheaper_85 : decode cX5_isCheaper 85 = .ok (.istore 8, 2) := by decide +kernel
theorem dX5_isCheaper_87 : decode cX5_isCheaper 87 = .ok (.iinc 9 1, 3) := by decide +kernel
theorem dX5_isCheaper_90 : decode cX5_isCheaper 90 = .ok (.goto (-52), 3) := by decide +kernel
theorem dX5_isCheaper_93 : decode cX5_isCheaper 93 = .ok (.iload 8, 2) := by decide +kernel
theorem dX5_isCheaper_95 : decode cX5_isCheaper 95 = .ok (.ifCond .ge 7, 3) := by decide +kernel
theorem dX5_isCheaper_98 : decode cX5_isCheaper 98 = .ok (.iconst 1, 1) := by decide +kernel
theorem dX5_isCheaper_99 : decode cX5_isCheaper 99 = .ok (.goto 4, 3) := by decide +kernel
theorem dX5_isCheaper_102 : decode cX5_isCheaper 102 = .ok (.iconst 0, 1) := by decide +kernel
theorem dX5_isCheaper_103 : decode cX5_isCheaper 103 = .ok (.ireturn, 1) := by decide +kernel
theorem dX5_turn_0 : decode cX5_turn 0 = .ok (.iload_n 1, 1) := by decide +kernel
theorem dX5_turn_1 : decode cX5_turn 1 = .ok (.bipush 6, 2) := by decide +kernel
theorem dX5_turn_3 : decode cX5_turn 3 = .ok (.imul, 1) := by decide +kernel
theorem dX5_turn_4 : decode cX5_turn 4 = .ok (.istore_n 3, 1) := by decide +kernel
theorem dX5_turn_5 : decode cX5_turn 5 = .ok (.aload_n 0, 1) := by decide +kernel
theorem dX5_turn_6 : decode cX5_turn 6 = .ok (.getfield 11, 3) := by decide +kernel
theorem dX5_turn_9 : decode cX5_turn 9 = .ok (.iload_n 3, 1) := by decide +kernel
theorem dX5_turn_10 : decode cX5_turn 10 = .ok (.iload_n 2, 1) := by decide +kernel
theorem dX5_turn_11 : decode cX5_turn 11 = .ok (.iadd, 1) := by decide +kernel
theorem dX5_turn_12 : decode cX5_turn 12 = .ok (.laload, 1) := by decide +kernel
theorem dX5_turn_13 : decode cX5_turn 13 = .ok (.lconst 0, 1) := by decide +kernel
theorem dX5_turn_14 : decode cX5_turn 14 = .ok (.lcmp, 1) := by decide +kernel
theorem dX5_turn_15 : decode cX5_turn 15 = .ok (.ifCond .ge 7, 3) := by decide +kernel
theorem dX5_turn_18 : decode cX5_turn 18 = .ok (.iconst (-1), 1) := by decide +kernel
theorem dX5_turn_19 : decode cX5_turn 19 = .ok (.goto 4, 3) := by decide +kernel
theorem dX5_turn_22 : decode cX5_turn 22 = .ok (.iconst 1, 1) := by decide +kernel
theorem dX5_turn_23 : decode cX5_turn 23 = .ok (.istore 4, 2) := by decide +kernel
theorem dX5_turn_25 : decode cX5_turn 25 = .ok (.iload 4, 2) := by decide +kernel
theorem dX5_turn_27 : decode cX5_turn 27 = .ok (.i2l, 1) := by decide +kernel
theorem dX5_turn_28 : decode cX5_turn 28 = .ok (.aload_n 0, 1) := by decide +kernel
theorem dX5_turn_29 : decode cX5_turn 29 = .ok (.getfield 11, 3) := by decide +kernel
theorem dX5_turn_32 : decode cX5_turn 32 = .ok (.iload_n 3, 1) := by decide +kernel
theorem dX5_turn_33 : decode cX5_turn 33 = .ok (.iload_n 2, 1) := by decide +kernel
theorem dX5_turn_34 : decode cX5_turn 34 = .ok (.iadd, 1) := by decide +kernel
theorem dX5_turn_35 : decode cX5_turn 35 = .ok (.laload, 1) := by decide +kernel
theorem dX5_turn_36 : decode cX5_turn 36 = .ok (.lmul, 1) := by decide +kernel
theorem dX5_turn_37 : decode cX5_turn 37 = .ok (.lstore 5, 2) := by decide +kernel
theorem dX5_turn_39 : decode cX5_turn 39 = .ok (.lload 5, 2) := by decide +kernel
theorem dX5_turn_41 : decode cX5_turn 41 = .ok (.lconst 0, 1) := by decide +kernel
theorem dX5_turn_42 : decode cX5_turn 42 = .ok (.lcmp, 1) := by decide +kernel
theorem dX5_turn_43 : decode cX5_turn 43 = .ok (.ifCond .eq 12, 3) := by decide +kernel
theorem dX5_turn_46 : decode cX5_turn 46 = .ok (.aload_n 0, 1) := by decide +kernel
theorem dX5_turn_47 : decode cX5_turn 47 = .ok (.getfield 39, 3) := by decide +kernel
theorem dX5_turn_50 : decode cX5_turn 50 = .ok (.lconst 0, 1) := by decide +kernel
theorem dX5_turn_51 : decode cX5_turn 51 = .ok (.lcmp, 1) := by decide +kernel
theorem dX5_turn_52 : decode cX5_turn 52 = .ok (.ifCond .ne 4, 3) := by decide +kernel
theorem dX5_turn_55 : decode cX5_turn 55 = .ok (.return_, 1) := by decide +kernel
theorem dX5_turn_56 : decode cX5_turn 56 = .ok (.iconst 0, 1) := by decide +kernel
theorem dX5_turn_57 : decode cX5_turn 57 = .ok (.istore 7, 2) := by decide +kernel
theorem dX5_turn_59 : decode cX5_turn 59 = .ok (.iload 7, 2) := by decide +kernel
theorem dX5_turn_61 : decode cX5_turn 61 = .ok (.aload_n 0, 1) := by decide +kernel
theorem dX5_turn_62 : decode cX5_turn 62 = .ok (.getfield 36, 3) := by decide +kernel
theorem dX5_turn_65 : decode cX5_turn 65 = .ok (.if_icmp .ge 136, 3) := by decide +kernel
theorem dX5_turn_68 : decode cX5_turn 68 = .ok (.iload 7, 2) := by decide +kernel
theorem dX5_turn_70 : decode cX5_turn 70 = .ok (.bipush 6, 2) := by decide +kernel
theorem dX5_turn_72 : decode cX5_turn 72 = .ok (.imul, 1) := by decide +kernel
theorem dX5_turn_73 : decode cX5_turn 73 = .ok (.istore 8, 2) := by decide +kernel
theorem dX5_turn_75 : decode cX5_turn 75 = .ok (.iload 4, 2) := by decide +kernel
theorem dX5_turn_77 : decode cX5_turn 77 = .ok (.i2l, 1) := by decide +kernel
theorem dX5_turn_78 : decode cX5_turn 78 = .ok (.aload_n 0, 1) := by decide +kernel
theorem dX5_turn_79 : decode cX5_turn 79 = .ok (.getfield 11, 3) := by decide +kernel
theorem dX5_turn_82 : decode cX5_turn 82 = .ok (.iload 8, 2) := by decide +kernel
theorem dX5_turn_84 : decode cX5_turn 84 = .ok (.iload_n 2, 1) := by decide +kernel
theorem dX5_turn_85 : decode cX5_turn 85 = .ok (.iadd, 1) := by decide +kernel
theorem dX5_turn_86 : decode cX5_turn 86 = .ok (.laload, 1) := by decide +kernel
theorem dX5_turn_87 : decode cX5_turn 87 = .ok (.lmul, 1) := by decide +kernel
theorem dX5_turn_88 : decode cX5_turn 88 = .ok (.lstore 9, 2) := by decide +kernel
theorem dX5_turn_90 : decode cX5_turn 90 = .ok (.iload 7, 2) := by decide +kernel
theorem dX5_turn_92 : decode cX5_turn 92 = .ok (.iload_n 1, 1) := by decide +kernel
theorem dX5_turn_93 : decode cX5_turn 93 = .ok (.if_icmp .eq 102, 3) := by decide +kernel
theorem dX5_turn_96 : decode cX5_turn 96 = .ok (.lload 9, 2) := by decide +kernel
theorem dX5_turn_98 : decode cX5_turn 98 = .ok (.lconst 0, 1) := by decide +kernel
theorem dX5_turn_99 : decode cX5_turn 99 = .ok (.lcmp, 1) := by decide +kernel
theorem dX5_turn_100 : decode cX5_turn 100 = .ok (.ifCond .ne 13, 3) := by decide +kernel
theorem dX5_turn_103 : decode cX5_turn 103 = .ok (.lload 5, 2) := by decide +kernel
theorem dX5_turn_105 : decode cX5_turn 105 = .ok (.aload_n 0, 1) := by decide +kernel
theorem dX5_turn_106 : decode cX5_turn 106 = .ok (.getfield 39, 3) := by decide +kernel
theorem dX5_turn_109 : decode cX5_turn 109 = .ok (.lcmp, 1) := by decide +kernel
theorem dX5_turn_110 : decode cX5_turn 110 = .ok (.ifCond .eq 85, 3) := by decide +kernel
theorem dX5_turn_113 : decode cX5_turn 113 = .ok (.iconst 0, 1) := by decide +kernel
theorem dX5_turn_114 : decode cX5_turn 114 = .ok (.istore 11, 2) := by decide +kernel
theorem dX5_turn_116 : decode cX5_turn 116 = .ok (.iload 11, 2) := by decide +kernel
theorem dX5_turn_118 : decode cX5_turn 118 = .ok (.bipush 6, 2) := by decide +kernel
theorem dX5_turn_120 : decode cX5_turn 120 = .ok (.if_icmp .ge 75, 3) := by decide +kernel
theorem dX5_turn_123 : decode cX5_turn 123 = .ok (.iload 11, 2) := by decide +kernel
theorem dX5_turn_125 : decode cX5_turn 125 = .ok (.iload_n 2, 1) := by decide +kernel
theorem dX5_turn_126 : decode cX5_turn 126 = .ok (.if_icmp .eq 63, 3) := by decide +kernel
theorem dX5_turn_129 : decode cX5_turn 129 = .ok (.iload 11, 2) := by decide +kernel
theorem dX5_turn_131 : decode cX5_turn 131 = .ok (.aload_n 0, 1) := by decide +kernel
theorem dX5_turn_132 : decode cX5_turn 132 = .ok (.getfield 32, 3) := by decide +kernel
theorem dX5_turn_135 : decode cX5_turn 135 = .ok (.if_icmp .ge 13, 3) := by decide +kernel
theorem dX5_turn_138 : decode cX5_turn 138 = .ok (.aload_n 0, 1) := by decide +kernel
theorem dX5_turn_139 : decode cX5_turn 139 = .ok (.getfield 28, 3) := by decide +kernel
theorem dX5_turn_142 : decode cX5_turn 142 = .ok (.iload 11, 2) := by decide +kernel
theorem dX5_turn_144 : decode cX5_turn 144 = .ok (.baload, 1) := by decide +kernel
theorem dX5_turn_145 : decode cX5_turn 145 = .ok (.ifCond .ne 44, 3) := by decide +kernel
theorem dX5_turn_148 : decode cX5_turn 148 = .ok (.aload_n 0, 1) := by decide +kernel
theorem dX5_turn_149 : decode cX5_turn 149 = .ok (.getfield 11, 3) := by decide +kernel
theorem dX5_turn_152 : decode cX5_turn 152 = .ok (.iload 8, 2) := by decide +kernel
theorem dX5_turn_154 : decode cX5_turn 154 = .ok (.iload 11, 2) := by decide +kernel
theorem dX5_turn_156 : decode cX5_turn 156 = .ok (.iadd, 1) := by decide +kernel
theorem dX5_turn_157 : decode cX5_turn 157 = .ok (.lload 5, 2) := by decide +kernel
theorem dX5_turn_159 : decode cX5_turn 159 = .ok (.aload_n 0, 1) := by decide +kernel
theorem dX5_turn_160 : decode cX5_turn 160 = .ok (.getfield 11, 3) := by decide +kernel
theorem dX5_turn_163 : decode cX5_turn 163 = .ok (.iload 8, 2) := by decide +kernel
theorem dX5_turn_165 : decode cX5_turn 165 = .ok (.iload 11, 2) := by decide +kernel
theorem dX5_turn_167 : decode cX5_turn 167 = .ok (.iadd, 1) := by decide +kernel
theorem dX5_turn_168 : decode cX5_turn 168 = .ok (.laload, 1) := by decide +kernel
theorem dX5_turn_169 : decode cX5_turn 169 = .ok (.lmul, 1) := by decide +kernel
theorem dX5_turn_170 : decode cX5_turn 170 = .ok (.lload 9, 2) := by decide +kernel
theorem dX5_turn_172 : decode cX5_turn 172 = .ok (.aload_n 0, 1) := by decide +kernel
theorem dX5_turn_173 : decode cX5_turn 173 = .ok (.getfield 11, 3) := by decide +kernel
theorem dX5_turn_176 : decode cX5_turn 176 = .ok (.iload_n 3, 1) := by decide +kernel
theorem dX5_turn_177 : decode cX5_turn 177 = .ok (.iload 11, 2) := by decide +kernel
theorem dX5_turn_179 : decode cX5_turn 179 = .ok (.iadd, 1) := by decide +kernel
theorem dX5_turn_180 : decode cX5_turn 180 = .ok (.laload, 1) := by decide +kernel
theorem dX5_turn_181 : decode cX5_turn 181 = .ok (.lmul, 1) := by decide +kernel
theorem dX5_turn_182 : decode cX5_turn 182 = .ok (.lsub, 1) := by decide +kernel
theorem dX5_turn_183 : decode cX5_turn 183 = .ok (.aload_n 0, 1) := by decide +kernel
theorem dX5_turn_184 : decode cX5_turn 184 = .ok (.getfield 39, 3) := by decide +kernel
theorem dX5_turn_187 : decode cX5_turn 187 = .ok (.ldiv, 1) := by decide +kernel
theorem dX5_turn_188 : decode cX5_turn 188 = .ok (.lastore, 1) := by decide +kernel
theorem dX5_turn_189 : decode cX5_turn 189 = .ok (.iinc 11 1, 3) := by decide +kernel
theorem dX5_turn_192 : decode cX5_turn 192 = .ok (.goto (-76), 3) := by decide +kernel
theorem dX5_turn_195 : decode cX5_turn 195 = .ok (.iinc 7 1, 3) := by decide +kernel
theorem dX5_turn_198 : decode cX5_turn 198 = .ok (.goto (-139), 3) := by decide +kernel
theorem dX5_turn_201 : decode cX5_turn 201 = .ok (.iconst 0, 1) := by decide +kernel
theorem dX5_turn_202 : decode cX5_turn 202 = .ok (.istore 7, 2) := by decide +kernel
theorem dX5_turn_204 : decode cX5_turn 204 = .ok (.iload 7, 2) := by decide +kernel
theorem dX5_turn_206 : decode cX5_turn 206 = .ok (.bipush 6, 2) := by decide +kernel
theorem dX5_turn_208 : decode cX5_turn 208 = .ok (.if_icmp .ge 19, 3) := by decide +kernel
theorem dX5_turn_211 : decode cX5_turn 211 = .ok (.aload_n 0, 1) := by decide +kernel
theorem dX5_turn_212 : decode cX5_turn 212 = .ok (.getfield 11, 3) := by decide +kernel
theorem dX5_turn_215 : decode cX5_turn 215 = .ok (.iload_n 3, 1) := by decide +kernel
theorem dX5_turn_216 : decode cX5_turn 216 = .ok (.iload 7, 2) := by decide +kernel
theorem dX5_turn_218 : decode cX5_turn 218 = .ok (.iadd, 1) := by decide +kernel
theorem dX5_turn_219 : decode cX5_turn 219 = .ok (.lconst 0, 1) := by decide +kernel
theorem dX5_turn_220 : decode cX5_turn 220 = .ok (.lastore, 1) := by decide +kernel
theorem dX5_turn_221 : decode cX5_turn 221 = .ok (.iinc 7 1, 3) := by decide +kernel
theorem dX5_turn_224 : decode cX5_turn 224 = .ok (.goto (-20), 3) := by decide +kernel
theorem dX5_turn_227 : decode cX5_turn 227 = .ok (.aload_n 0, 1) := by decide +kernel
theorem dX5_turn_228 : decode cX5_turn 228 = .ok (.getfield 11, 3) := by decide +kernel
theorem dX5_turn_231 : decode cX5_turn 231 = .ok (.iload_n 3, 1) := by decide +kernel
theorem dX5_turn_232 : decode cX5_turn 232 = .ok (.iload_n 2, 1) := by decide +kernel
theorem dX5_turn_233 : decode cX5_turn 233 = .ok (.iadd, 1) := by decide +kernel
theorem dX5_turn_234 : decode cX5_turn 234 = .ok (.lload 5, 2) := by decide +kernel
theorem dX5_turn_236 : decode cX5_turn 236 = .ok (.lastore, 1) := by decide +kernel
theorem dX5_turn_237 : decode cX5_turn 237 = .ok (.aload_n 0, 1) := by decide +kernel
theorem dX5_turn_238 : decode cX5_turn 238 = .ok (.lload 5, 2) := by decide +kernel
theorem dX5_turn_240 : decode cX5_turn 240 = .ok (.putfield 39, 3) := by decide +kernel
theorem dX5_turn_243 : decode cX5_turn 243 = .ok (.aload_n 0, 1) := by decide +kernel
theorem dX5_turn_244 : decode cX5_turn 244 = .ok (.getfield 28, 3) := by decide +kernel
theorem dX5_turn_247 : decode cX5_turn 247 = .ok (.iload_n 2, 1) := by decide +kernel
theorem dX5_turn_248 : decode cX5_turn 248 = .ok (.aload_n 0, 1) := by decide +kernel
theorem dX5_turn_249 : decode cX5_turn 249 = .ok (.getfield 15, 3) := by decide +kernel
theorem dX5_turn_252 : decode cX5_turn 252 = .ok (.iload_n 1, 1) := by decide +kernel
theorem dX5_turn_253 : decode cX5_turn 253 = .ok (.iaload, 1) := by decide +kernel
theorem dX5_turn_254 : decode cX5_turn 254 = .ok (.iconst 2, 1) := by decide +kernel
theorem dX5_turn_255 : decode cX5_turn 255 = .ok (.if_icmp .ne 7, 3) := by decide +kernel
theorem dX5_turn_258 : decode cX5_turn 258 = .ok (.iconst 1, 1) := by decide +kernel
theorem dX5_turn_259 : decode cX5_turn 259 = .ok (.goto 4, 3) := by decide +kernel
theorem dX5_turn_262 : decode cX5_turn 262 = .ok (.iconst 0, 1) := by decide +kernel
theorem dX5_turn_263 : decode cX5_turn 263 = .ok (.bastore, 1) := by decide +kernel
theorem dX5_turn_264 : decode cX5_turn 264 = .ok (.aload_n 0, 1) := by decide +kernel
theorem dX5_turn_265 : decode cX5_turn 265 = .ok (.aload_n 0, 1) := by decide +kernel
theorem dX5_turn_266 : decode cX5_turn 266 = .ok (.getfield 43, 3) := by decide +kernel
theorem dX5_turn_269 : decode cX5_turn 269 = .ok (.iload_n 2, 1) := by decide +kernel
theorem dX5_turn_270 : decode cX5_turn 270 = .ok (.if_icmp .ne 7, 3) := by decide +kernel
theorem dX5_turn_273 : decode cX5_turn 273 = .ok (.iconst (-1), 1) := by decide +kernel
theorem dX5_turn_274 : decode cX5_turn 274 = .ok (.goto 7, 3) := by decide +kernel
theorem dX5_turn_277 : decode cX5_turn 277 = .ok (.aload_n 0, 1) := by decide +kernel
theorem dX5_turn_278 : decode cX5_turn 278 = .ok (.getfield 43, 3) := by decide +kernel
theorem dX5_turn_281 : decode cX5_turn 281 = .ok (.putfield 43, 3) := by decide +kernel
theorem dX5_turn_284 : decode cX5_turn 284 = .ok (.return_, 1) := by decide +kernel
theorem dX5_isEndless_0 : decode cX5_isEndless 0 = .ok (.aload_n 0, 1) := by decide +kernel
theorem dX5_isEndless_1 : decode cX5_isEndless 1 = .ok (.getfield 43, 3) := by decide +kernel
theorem dX5_isEndless_4 : decode cX5_isEndless 4 = .ok (.ifCond .lt 7, 3) := by decide +kernel
theorem dX5_isEndless_7 : decode cX5_isEndless 7 = .ok (.iconst 1, 1) := by decide +kernel
theorem dX5_isEndless_8 : decode cX5_isEndless 8 = .ok (.goto 4, 3) := by decide +kernel
theorem dX5_isEndless_11 : decode cX5_isEndless 11 = .ok (.iconst 0, 1) := by decide +kernel
theorem dX5_isEndless_12 : decode cX5_isEndless 12 = .ok (.ireturn, 1) := by decide +kernel
theorem dX5_costAbove_0 : decode cX5_costAbove 0 = .ok (.aload_n 0, 1) := by decide +kernel
theorem dX5_costAbove_1 : decode cX5_costAbove 1 = .ok (.getfield 11, 3) := by decide +kernel
theorem dX5_costAbove_4 : decode cX5_costAbove 4 = .ok (.iconst 5, 1) := by decide +kernel
theorem dX5_costAbove_5 : decode cX5_costAbove 5 = .ok (.laload, 1) := by decide +kernel
theorem dX5_costAbove_6 : decode cX5_costAbove 6 = .ok (.lreturn, 1) := by decide +kernel
theorem dX5_valueAbove_0 : decode cX5_valueAbove 0 = .ok (.aload_n 0, 1) := by decide +kernel
theorem dX5_valueAbove_1 : decode cX5_valueAbove 1 = .ok (.getfield 19, 3) := by decide +kernel
theorem dX5_valueAbove_4 : decode cX5_valueAbove 4 = .ok (.iload_n 1, 1) := by decide +kernel
theorem dX5_valueAbove_5 : decode cX5_valueAbove 5 = .ok (.iaload, 1) := by decide +kernel
theorem dX5_valueAbove_6 : decode cX5_valueAbove 6 = .ok (.i2l, 1) := by decide +kernel
theorem dX5_valueAbove_7 : decode cX5_valueAbove 7 = .ok (.aload_n 0, 1) := by decide +kernel
theorem dX5_valueAbove_8 : decode cX5_valueAbove 8 = .ok (.getfield 39, 3) := by decide +kernel
theorem dX5_valueAbove_11 : decode cX5_valueAbove 11 = .ok (.lmul, 1) := by decide +kernel
theorem dX5_valueAbove_12 : decode cX5_valueAbove 12 = .ok (.aload_n 0, 1) := by decide +kernel
theorem dX5_valueAbove_13 : decode cX5_valueAbove 13 = .ok (.getfield 11, 3) := by decide +kernel
theorem dX5_valueAbove_16 : decode cX5_valueAbove 16 = .ok (.iconst 1, 1) := by decide +kernel
theorem dX5_valueAbove_17 : decode cX5_valueAbove 17 = .ok (.iload_n 1, 1) := by decide +kernel
theorem dX5_valueAbove_18 : decode cX5_valueAbove 18 = .ok (.iadd, 1) := by decide +kernel
theorem dX5_valueAbove_19 : decode cX5_valueAbove 19 = .ok (.bipush 6, 2) := by decide +kernel
theorem dX5_valueAbove_21 : decode cX5_valueAbove 21 = .ok (.imul, 1) := by decide +kernel
theorem dX5_valueAbove_22 : decode cX5_valueAbove 22 = .ok (.iconst 5, 1) := by decide +kernel
theorem dX5_valueAbove_23 : decode cX5_valueAbove 23 = .ok (.iadd, 1) := by decide +kernel
theorem dX5_valueAbove_24 : decode cX5_valueAbove 24 = .ok (.laload, 1) := by decide +kernel
theorem dX5_valueAbove_25 : decode cX5_valueAbove 25 = .ok (.ladd, 1) := by decide +kernel
theorem dX5_valueAbove_26 : decode cX5_valueAbove 26 = .ok (.lreturn, 1) := by decide +kernel
set_option maxRecDepth 20000 in
theorem ggX5_isNothing_X5_valueAbove : GoodIn wsX5_isNothing wsX5_valueAbove := goodIn_r _ [7, 8, 9, 2, 10, 11, 12, 13, 14, 15, 16, 17, 18, 19] (by decide +kernel) (by decide +kernel)
set_option maxRecDepth 20000 in
theorem gX5_isNothing_X5_valueAbove : GoodIn wsX5_isNothing (wsV RX5 76 RX5 yX5_valueAbove wsX5_valueAbove) := goodIn_app (goodIn_of _ (by decide +kernel)) ggX5_isNothing_X5_valueAbove
theorem dX5_isNothing_0 : decode cX5_isNothing 0 = .ok (.aload_n 0, 1) := by decide +kernel
theorem dX5_isNothing_1 : decode cX5_isNothing 1 = .ok (.iload_n 1, 1) := by decide +kernel
theorem dX5_isNothing_2 : decode cX5_isNothing 2 = .ok (.invokevirtual 76, 3) := by decide +kernel
theorem dX5_isNothing_5 : decode cX5_isNothing 5 = .ok (.lconst 0, 1) := by decide +kernel
theorem dX5_isNothing_6 : decode cX5_isNothing 6 = .ok (.lcmp, 1) := by decide +kernel
theorem dX5_isNothing_7 : decode cX5_isNothing 7 = .ok (.ifCond .ne 35, 3) := by decide +kernel
theorem dX5_isNothing_10 : decode cX5_isNothing 10 = .ok (.aload_n 0, 1) := by decide +kernel
theorem dX5_isNothing_11 : decode cX5_isNothing 11 = .ok (.getfield 43, 3) := by decide +kernel
theorem dX5_isNothing_14 : decode cX5_isNothing 14 = .ok (.ifCond .lt 24, 3) := by decide +kernel
theorem dX5_isNothing_17 : decode cX5_isNothing 17 = .ok (.aload_n 0, 1) := by decide +kernel
theorem dX5_isNothing_18 : decode cX5_isNothing 18 = .ok (.getfield 11, 3) := by decide +kernel
theorem dX5_isNothing_21 : decode cX5_isNothing 21 = .ok (.iconst 1, 1) := by decide +kernel
theorem dX5_isNothing_22 : decode cX5_isNothing 22 = .ok (.iload_n 1, 1) := by decide +kernel
theorem dX5_isNothing_23 : decode cX5_isNothing 23 = .ok (.iadd, 1) := by decide +kernel
theorem dX5_isNothing_24 : decode cX5_isNothing 24 = .ok (.bipush 6, 2) := by decide +kernel
theorem dX5_isNothing_26 : decode cX5_isNothing 26 = .ok (.imul, 1) := by decide +kernel
theorem dX5_isNothing_27 : decode cX5_isNothing 27 = .ok (.aload_n 0, 1) := by decide +kernel
theorem dX5_isNothing_28 : decode cX5_isNothing 28 = .ok (.getfield 43, 3) := by decide +kernel
theorem dX5_isNothing_31 : decode cX5_isNothing 31 = .ok (.iadd, 1) := by decide +kernel
theorem dX5_isNothing_32 : decode cX5_isNothing 32 = .ok (.laload, 1) := by decide +kernel
theorem dX5_isNothing_33 : decode cX5_isNothing 33 = .ok (.lconst 0, 1) := by decide +kernel
theorem dX5_isNothing_34 : decode cX5_isNothing 34 = .ok (.lcmp, 1) := by decide +kernel
theorem dX5_isNothing_35 : decode cX5_isNothing 35 = .ok (.ifCond .ne 7, 3) := by decide +kernel
theorem dX5_isNothing_38 : decode cX5_isNothing 38 = .ok (.iconst 1, 1) := by decide +kernel
theorem dX5_isNothing_39 : decode cX5_isNothing 39 = .ok (.goto 4, 3) := by decide +kernel
theorem dX5_isNothing_42 : decode cX5_isNothing 42 = .ok (.iconst 0, 1) := by decide +kernel
theorem dX5_isNothing_43 : decode cX5_isNothing 43 = .ok (.ireturn, 1) := by decide +kernel
set_option maxRecDepth 20000 in
theorem ggX5_wholePart_X5_valueAbove : GoodIn wsX5_wholePart wsX5_valueAbove := goodIn_r _ [6, 7, 1, 8, 13, 14, 15, 16, 17, 18, 19, 20, 21, 22] (by decide +kernel) (by decide +kernel)
set_option maxRecDepth 20000 in
theorem gX5_wholePart_X5_valueAbove : GoodIn wsX5_wholePart (wsV RX5 76 RX5 yX5_valueAbove wsX5_valueAbove) := goodIn_app (goodIn_of _ (by decide +kernel)) ggX5_wholePart_X5_valueAbove
set_option maxRecDepth 20000 in
theorem ggX5_wholePart_J9_floorDiv_f86c9 : GoodIn wsX5_wholePart wsJ9_floorDiv_f86c9 := goodIn_r _ [12] (by decide +kernel) (by decide +kernel)
set_option maxRecDepth 20000 in
theorem gX5_wholePart_J9_floorDiv_f86c9 : GoodIn wsX5_wholePart (va_wsS RX5 111 yJ9_floorDiv_f86c9 wsJ9_floorDiv_f86c9) := goodIn_app (goodIn_of _ (by decide +kernel)) ggX5_wholePart_J9_floorDiv_f86c9
theorem dX5_wholePart_0 : decode cX5_wholePart 0 = .ok (.aload_n 0, 1) := by decide +kernel
theorem dX5_wholePart_1 : decode cX5_wholePart 1 = .ok (.getfield 39, 3) := by decide +kernel
theorem dX5_wholePart_4 : decode cX5_wholePart 4 = .ok (.lconst 0, 1) := by decide +kernel
theorem dX5_wholePart_5 : decode cX5_wholePart 5 = .ok (.lcmp, 1) := by decide +kernel
theorem dX5_wholePart_6 : decode cX5_wholePart 6 = .ok (.ifCond .ne 7, 3) := by decide +kernel
theorem dX5_wholePart_9 : decode cX5_wholePart 9 = .ok (.iconst 0, 1) := by decide +kernel
theorem dX5_wholePart_10 : decode cX5_wholePart 10 = .ok (.goto 16, 3) := by decide +kernel
theorem dX5_wholePart_13 : decode cX5_wholePart 13 = .ok (.aload_n 0, 1) := by decide +kernel
theorem dX5_wholePart_14 : decode cX5_wholePart 14 = .ok (.iload_n 1, 1) := by decide +kernel
theorem dX5_wholePart_15 : decode cX5_wholePart 15 = .ok (.invokevirtual 76, 3) := by decide +kernel
theorem dX5_wholePart_18 : decode cX5_wholePart 18 = .ok (.aload_n 0, 1) := by decide +kernel
theorem dX5_wholePart_19 : decode cX5_wholePart 19 = .ok (.getfield 39, 3) := by decide +kernel
theorem dX5_wholePart_22 : decode cX5_wholePart 22 = .ok (.invokestatic 111, 3) := by decide +kernel
theorem dX5_wholePart_25 : decode cX5_wholePart 25 = .ok (.l2i, 1) := by decide +kernel
theorem dX5_wholePart_26 : decode cX5_wholePart 26 = .ok (.ireturn, 1) := by decide +kernel
set_option maxRecDepth 20000 in
theorem ggX5_isBroken_X5_valueAbove : GoodIn wsX5_isBroken wsX5_valueAbove := goodIn_r _ [6, 7, 1, 8, 17, 18, 19, 20, 21, 22, 23, 24, 25, 26] (by decide +kernel) (by decide +kernel)
set_option maxRecDepth 20000 in
theorem gX5_isBroken_X5_valueAbove : GoodIn wsX5_isBroken (wsV RX5 76 RX5 yX5_valueAbove wsX5_valueAbove) := goodIn_app (goodIn_of _ (by decide +kernel)) ggX5_isBroken_X5_valueAbove
set_option maxRecDepth 20000 in
theorem ggX5_isBroken_X5_wholePart : GoodIn wsX5_isBroken wsX5_wholePart := goodIn_r _ [12, 1, 2, 3, 4, 5, 6, 7, 8, 13, 14, 15, 16, 17, 18, 19, 20, 21, 22, 23, 24, 25, 26] (by decide +kernel) (by decide +kernel)
set_option maxRecDepth 20000 in
theorem gX5_isBroken_X5_wholePart : GoodIn wsX5_isBroken (wsV RX5 115 RX5 yX5_wholePart wsX5_wholePart) := goodIn_app (goodIn_of _ (by decide +kernel)) ggX5_isBroken_X5_wholePart
theorem dX5_isBroken_0 : decode cX5_isBroken 0 = .ok (.aload_n 0, 1) := by decide +kernel
theorem dX5_isBroken_1 : decode cX5_isBroken 1 = .ok (.iload_n 1, 1) := by decide +kernel
theorem dX5_isBroken_2 : decode cX5_isBroken 2 = .ok (.invokevirtual 76, 3) := by decide +kernel
theorem dX5_isBroken_5 : decode cX5_isBroken 5 = .ok (.aload_n 0, 1) := by decide +kernel
theorem dX5_isBroken_6 : decode cX5_isBroken 6 = .ok (.iload_n 1, 1) := by decide +kernel
theorem dX5_isBroken_7 : decode cX5_isBroken 7 = .ok (.invokevirtual 115, 3) := by decide +kernel
theorem dX5_isBroken_10 : decode cX5_isBroken 10 = .ok (.i2l, 1) := by decide +kernel
theorem dX5_isBroken_11 : decode cX5_isBroken 11 = .ok (.aload_n 0, 1) := by decide +kernel
theorem dX5_isBroken_12 : decode cX5_isBroken 12 = .ok (.getfield 39, 3) := by decide +kernel
theorem dX5_isBroken_15 : decode cX5_isBroken 15 = .ok (.lmul, 1) := by decide +kernel
theorem dX5_isBroken_16 : decode cX5_isBroken 16 = .ok (.lcmp, 1) := by decide +kernel
theorem dX5_isBroken_17 : decode cX5_isBroken 17 = .ok (.ifCond .eq 7, 3) := by decide +kernel
theorem dX5_isBroken_20 : decode cX5_isBroken 20 = .ok (.iconst 1, 1) := by decide +kernel
theorem dX5_isBroken_21 : decode cX5_isBroken 21 = .ok (.goto 4, 3) := by decide +kernel
theorem dX5_isBroken_24 : decode cX5_isBroken 24 = .ok (.iconst 0, 1) := by decide +kernel
theorem dX5_isBroken_25 : decode cX5_isBroken 25 = .ok (.ireturn, 1) := by decide +kernel
theorem dX5_raise_0 : decode cX5_raise 0 = .ok (.aload_n 0, 1) := by decide +kernel
theorem dX5_raise_1 : decode cX5_raise 1 = .ok (.getfield 11, 3) := by decide +kernel
theorem dX5_raise_4 : decode cX5_raise 4 = .ok (.iconst 1, 1) := by decide +kernel
theorem dX5_raise_5 : decode cX5_raise 5 = .ok (.iload_n 1, 1) := by decide +kernel
theorem dX5_raise_6 : decode cX5_raise 6 = .ok (.iadd, 1) := by decide +kernel
theorem dX5_raise_7 : decode cX5_raise 7 = .ok (.bipush 6, 2) := by decide +kernel
theorem dX5_raise_9 : decode cX5_raise 9 = .ok (.imul, 1) := by decide +kernel
theorem dX5_raise_10 : decode cX5_raise 10 = .ok (.iconst 5, 1) := by decide +kernel
theorem dX5_raise_11 : decode cX5_raise 11 = .ok (.iadd, 1) := by decide +kernel
theorem dX5_raise_12 : decode cX5_raise 12 = .ok (.dup2, 1) := by decide +kernel
theorem dX5_raise_13 : decode cX5_raise 13 = .ok (.laload, 1) := by decide +kernel
theorem dX5_raise_14 : decode cX5_raise 14 = .ok (.iload_n 2, 1) := by decide +kernel
theorem dX5_raise_15 : decode cX5_raise 15 = .ok (.aload_n 0, 1) := by decide +kernel
theorem dX5_raise_16 : decode cX5_raise 16 = .ok (.getfield 19, 3) := by decide +kernel
theorem dX5_raise_19 : decode cX5_raise 19 = .ok (.iload_n 1, 1) := by decide +kernel
theorem dX5_raise_20 : decode cX5_raise 20 = .ok (.iaload, 1) := by decide +kernel
theorem dX5_raise_21 : decode cX5_raise 21 = .ok (.isub, 1) := by decide +kernel
theorem dX5_raise_22 : decode cX5_raise 22 = .ok (.i2l, 1) := by decide +kernel
theorem dX5_raise_23 : decode cX5_raise 23 = .ok (.aload_n 0, 1) := by decide +kernel
theorem dX5_raise_24 : decode cX5_raise 24 = .ok (.getfield 39, 3) := by decide +kernel
theorem dX5_raise_27 : decode cX5_raise 27 = .ok (.lmul, 1) := by decide +kernel
theorem dX5_raise_28 : decode cX5_raise 28 = .ok (.lsub, 1) := by decide +kernel
theorem dX5_raise_29 : decode cX5_raise 29 = .ok (.lastore, 1) := by decide +kernel
theorem dX5_raise_30 : decode cX5_raise 30 = .ok (.aload_n 0, 1) := by decide +kernel
theorem dX5_raise_31 : decode cX5_raise 31 = .ok (.getfield 19, 3) := by decide +kernel
theorem dX5_raise_34 : decode cX5_raise 34 = .ok (.iload_n 1, 1) := by decide +kernel
theorem dX5_raise_35 : decode cX5_raise 35 = .ok (.iload_n 2, 1) := by decide +kernel
theorem dX5_raise_36 : decode cX5_raise 36 = .ok (.iastore, 1) := by decide +kernel
theorem dX5_raise_37 : decode cX5_raise 37 = .ok (.return_, 1) := by decide +kernel
theorem dX5_lower_0 : decode cX5_lower 0 = .ok (.aload_n 0, 1) := by decide +kernel
theorem dX5_lower_1 : decode cX5_lower 1 = .ok (.getfield 25, 3) := by decide +kernel
theorem dX5_lower_4 : decode cX5_lower 4 = .ok (.iload_n 1, 1) := by decide +kernel
theorem dX5_lower_5 : decode cX5_lower 5 = .ok (.iaload, 1) := by decide +kernel
theorem dX5_lower_6 : decode cX5_lower 6 = .ok (.istore_n 3, 1) := by decide +kernel
theorem dX5_lower_7 : decode cX5_lower 7 = .ok (.iload_n 3, 1) := by decide +kernel
theorem dX5_lower_8 : decode cX5_lower 8 = .ok (.ifCond .lt 46, 3) := by decide +kernel
theorem dX5_lower_11 : decode cX5_lower 11 = .ok (.iload_n 3, 1) := by decide +kernel
theorem dX5_lower_12 : decode cX5_lower 12 = .ok (.aload_n 0, 1) := by decide +kernel
theorem dX5_lower_13 : decode cX5_lower 13 = .ok (.getfield 36, 3) := by decide +kernel
theorem dX5_lower_16 : decode cX5_lower 16 = .ok (.if_icmp .ge 38, 3) := by decide +kernel
theorem dX5_lower_19 : decode cX5_lower 19 = .ok (.aload_n 0, 1) := by decide +kernel
theorem dX5_lower_20 : decode cX5_lower 20 = .ok (.getfield 11, 3) := by decide +kernel
theorem dX5_lower_23 : decode cX5_lower 23 = .ok (.iload_n 3, 1) := by decide +kernel
theorem dX5_lower_24 : decode cX5_lower 24 = .ok (.bipush 6, 2) := by decide +kernel
theorem dX5_lower_26 : decode cX5_lower 26 = .ok (.imul, 1) := by decide +kernel
theorem dX5_lower_27 : decode cX5_lower 27 = .ok (.iconst 5, 1) := by decide +kernel
theorem dX5_lower_28 : decode cX5_lower 28 = .ok (.iadd, 1) := by decide +kernel
theorem dX5_lower_29 : decode cX5_lower 29 = .ok (.dup2, 1) := by decide +kernel
theorem dX5_lower_30 : decode cX5_lower 30 = .ok (.laload, 1) := by decide +kernel
theorem dX5_lower_31 : decode cX5_lower 31 = .ok (.aload_n 0, 1) := by decide +kernel
theorem dX5_lower_32 : decode cX5_lower 32 = .ok (.getfield 22, 3) := by decide +kernel
theorem dX5_lower_35 : decode cX5_lower 35 = .ok (.iload_n 1, 1) := by decide +kernel
theorem dX5_lower_36 : decode cX5_lower 36 = .ok (.iaload, 1) := by decide +kernel
theorem dX5_lower_37 : decode cX5_lower 37 = .ok (.iload_n 2, 1) := by decide +kernel
theorem dX5_lower_38 : decode cX5_lower 38 = .ok (.isub, 1) := by decide +kernel
theorem dX5_lower_39 : decode cX5_lower 39 = .ok (.i2l, 1) := by decide +kernel
theorem dX5_lower_40 : decode cX5_lower 40 = .ok (.aload_n 0, 1) := by decide +kernel
theorem dX5_lower_41 : decode cX5_lower 41 = .ok (.getfield 39, 3) := by decide +kernel
theorem dX5_lower_44 : decode cX5_lower 44 = .ok (.lmul, 1) := by decide +kernel
theorem dX5_lower_45 : decode cX5_lower 45 = .ok (.lsub, 1) := by decide +kernel
theorem dX5_lower_46 : decode cX5_lower 46 = .ok (.lastore, 1) := by decide +kernel
theorem dX5_lower_47 : decode cX5_lower 47 = .ok (.aload_n 0, 1) := by decide +kernel
theorem dX5_lower_48 : decode cX5_lower 48 = .ok (.getfield 22, 3) := by decide +kernel
theorem dX5_lower_51 : decode cX5_lower 51 = .ok (.iload_n 1, 1) := by decide +kernel
theorem dX5_lower_52 : decode cX5_lower 52 = .ok (.iload_n 2, 1) := by decide +kernel
theorem dX5_lower_53 : decode cX5_lower 53 = .ok (.iastore, 1) := by decide +kernel
theorem dX5_lower_54 : decode cX5_lower 54 = .ok (.return_, 1) := by decide +kernel
set_option maxRecDepth 20000 in
theorem ggX5_holdAtNothing_X5_raise : GoodIn wsX5_holdAtNothing wsX5_raise := goodIn_r _ [7, 8, 1, 9, 10, 11, 12, 13, 14, 15, 16, 17, 18, 19] (by decide +kernel) (by decide +kernel)
set_option maxRecDepth 20000 in
theorem gX5_holdAtNothing_X5_raise : GoodIn wsX5_holdAtNothing (wsV RX5 118 RX5 yX5_raise wsX5_raise) := goodIn_app (goodIn_of _ (by decide +kernel)) ggX5_holdAtNothing_X5_raise
theorem dX5_holdAtNothing_0 : decode cX5_holdAtNothing 0 = .ok (.aload_n 0, 1) := by decide +kernel
theorem dX5_holdAtNothing_1 : decode cX5_holdAtNothing 1 = .ok (.getfield 19, 3) := by decide +kernel
theorem dX5_holdAtNothing_4 : decode cX5_holdAtNothing 4 = .ok (.iload_n 1, 1) := by decide +kernel
theorem dX5_holdAtNothing_5 : decode cX5_holdAtNothing 5 = .ok (.iaload, 1) := by decide +kernel
theorem dX5_holdAtNothing_6 : decode cX5_holdAtNothing 6 = .ok (.ifCond .le 5, 3) := by decide +kernel
theorem dX5_holdAtNothing_9 : decode cX5_holdAtNothing 9 = .ok (.iconst 0, 1) := by decide +kernel
theorem dX5_holdAtNothing_10 : decode cX5_holdAtNothing 10 = .ok (.ireturn, 1) := by decide +kernel
theorem dX5_holdAtNothing_11 : decode cX5_holdAtNothing 11 = .ok (.aload_n 0, 1) := by decide +kernel
theorem dX5_holdAtNothing_12 : decode cX5_holdAtNothing 12 = .ok (.iload_n 1, 1) := by decide +kernel
theorem dX5_holdAtNothing_13 : decode cX5_holdAtNothing 13 = .ok (.iconst 0, 1) := by decide +kernel
theorem dX5_holdAtNothing_14 : decode cX5_holdAtNothing 14 = .ok (.invokevirtual 118, 3) := by decide +kernel
theorem dX5_holdAtNothing_17 : decode cX5_holdAtNothing 17 = .ok (.aload_n 0, 1) := by decide +kernel
theorem dX5_holdAtNothing_18 : decode cX5_holdAtNothing 18 = .ok (.getfield 15, 3) := by decide +kernel
theorem dX5_holdAtNothing_21 : decode cX5_holdAtNothing 21 = .ok (.iconst 1, 1) := by decide +kernel
theorem dX5_holdAtNothing_22 : decode cX5_holdAtNothing 22 = .ok (.iload_n 1, 1) := by decide +kernel
theorem dX5_holdAtNothing_23 : decode cX5_holdAtNothing 23 = .ok (.iadd, 1) := by decide +kernel
theorem dX5_holdAtNothing_24 : decode cX5_holdAtNothing 24 = .ok (.iconst 2, 1) := by decide +kernel
theorem dX5_holdAtNothing_25 : decode cX5_holdAtNothing 25 = .ok (.iastore, 1) := by decide +kernel
theorem dX5_holdAtNothing_26 : decode cX5_holdAtNothing 26 = .ok (.iconst 1, 1) := by decide +kernel
theorem dX5_holdAtNothing_27 : decode cX5_holdAtNothing 27 = .ok (.ireturn, 1) := by decide +kernel
theorem dX6_isBit_0 : decode cX6_isBit 0 = .ok (.iload_n 0, 1) := by decide +kernel
theorem dX6_isBit_1 : decode cX6_isBit 1 = .ok (.ifCond .eq 8, 3) := by decide +kernel
theorem dX6_isBit_4 : decode cX6_isBit 4 = .ok (.iload_n 0, 1) := by decide +kernel
theorem dX6_isBit_5 : decode cX6_isBit 5 = .ok (.iconst 1, 1) := by decide +kernel
theorem dX6_isBit_6 : decode cX6_isBit 6 = .ok (.if_icmp .ne 7, 3) := by decide +kernel
theorem dX6_isBit_9 : decode cX6_isBit 9 = .ok (.iconst 1, 1) := by decide +kernel
theorem dX6_isBit_10 : decode cX6_isBit 10 = .ok (.goto 4, 3) := by decide +kernel
theorem dX6_isBit_13 : decode cX6_isBit 13 = .ok (.iconst 0, 1) := by decide +kernel
theorem dX6_isBit_14 : decode cX6_isBit 14 = .ok (.ireturn, 1) := by decide +kernel
theorem dX6_isKind_0 : decode cX6_isKind 0 = .ok (.iload_n 0, 1) := by decide +kernel
theorem dX6_isKind_1 : decode cX6_isKind 1 = .ok (.ifCond .lt 12, 3) := by decide +kernel
theorem dX6_isKind_4 : decode cX6_isKind 4 = .ok (.iload_n 0, 1) := by decide +kernel
theorem dX6_isKind_5 : decode cX6_isKind 5 = .ok (.iconst 2, 1) := by decide +kernel
theorem dX6_isKind_6 : decode cX6_isKind 6 = .ok (.if_icmp .gt 7, 3) := by decide +kernel
theorem dX6_isKind_9 : decode cX6_isKind 9 = .ok (.iconst 1, 1) := by decide +kernel
theorem dX6_isKind_10 : decode cX6_isKind 10 = .ok (.goto 4, 3) := by decide +kernel
theorem dX6_isKind_13 : decode cX6_isKind 13 = .ok (.iconst 0, 1) := by decide +kernel
theorem dX6_isKind_14 : decode cX6_isKind 14 = .ok (.ireturn, 1) := by decide +kernel
theorem dX6_isBelow_0 : decode cX6_isBelow 0 = .ok (.iload_n 0, 1) := by decide +kernel
theorem dX6_isBelow_1 : decode cX6_isBelow 1 = .ok (.iconst 1, 1) := by decide +kernel
theorem dX6_isBelow_2 : decode cX6_isBelow 2 = .ok (.if_icmp .lt 13, 3) := by decide +kernel
theorem dX6_isBelow_5 : decode cX6_isBelow 5 = .ok (.iload_n 0, 1) := by decide +kernel
theorem dX6_isBelow_6 : decode cX6_isBelow 6 = .ok (.ldc 158, 2) := by decide +kernel
theorem dX6_isBelow_8 : decode cX6_isBelow 8 = .ok (.if_icmp .gt 7, 3) := by decide +kernel
theorem dX6_isBelow_11 : decode cX6_isBelow 11 = .ok (.iconst 1, 1) := by decide +kernel
theorem dX6_isBelow_12 : decode cX6_isBelow 12 = .ok (.goto 4, 3) := by decide +kernel
theorem dX6_isBelow_15 : decode cX6_isBelow 15 = .ok (.iconst 0, 1) := by decide +kernel
theorem dX6_isBelow_16 : decode cX6_isBelow 16 = .ok (.ireturn, 1) := by decide +kernel
theorem dX6_isWithin_0 : decode cX6_isWithin 0 = .ok (.iload_n 0, 1) := by decide +kernel
theorem dX6_isWithin_1 : decode cX6_isWithin 1 = .ok (.iload_n 1, 1) := by decide +kernel
theorem dX6_isWithin_2 : decode cX6_isWithin 2 = .ok (.ineg, 1) := by decide +kernel
theorem dX6_isWithin_3 : decode cX6_isWithin 3 = .ok (.if_icmp .lt 12, 3) := by decide +kernel
theorem dX6_isWithin_6 : decode cX6_isWithin 6 = .ok (.iload_n 0, 1) := by decide +kernel
theorem dX6_isWithin_7 : decode cX6_isWithin 7 = .ok (.iload_n 1, 1) := by decide +kernel
theorem dX6_isWithin_8 : decode cX6_isWithin 8 = .ok (.if_icmp .gt 7, 3) := by decide +kernel
theorem dX6_isWithin_11 : decode cX6_isWithin 11 = .ok (.iconst 1, 1) := by decide +kernel
theorem dX6_isWithin_12 : decode cX6_isWithin 12 = .ok (.goto 4, 3) := by decide +kernel
theorem dX6_isWithin_15 : decode cX6_isWithin 15 = .ok (.iconst 0, 1) := by decide +kernel
theorem dX6_isWithin_16 : decode cX6_isWithin 16 = .ok (.ireturn, 1) := by decide +kernel
theorem dX6_commonDivisor_0 : decode cX6_commonDivisor 0 = .ok (.lload_n 0, 1) := by decide +kernel
theorem dX6_commonDivisor_1 : decode cX6_commonDivisor 1 = .ok (.invokestatic 194, 3) := by decide +kernel
theorem dX6_commonDivisor_4 : decode cX6_commonDivisor 4 = .ok (.lstore 4, 2) := by decide +kernel
theorem dX6_commonDivisor_6 : decode cX6_commonDivisor 6 = .ok (.lload_n 2, 1) := by decide +kernel
theorem dX6_commonDivisor_7 : decode cX6_commonDivisor 7 = .ok (.invokestatic 194, 3) := by decide +kernel
theorem dX6_commonDivisor_10 : decode cX6_commonDivisor 10 = .ok (.lstore 6, 2) := by decide +kernel
theorem dX6_commonDivisor_12 : decode cX6_commonDivisor 12 = .ok (.iconst 0, 1) := by decide +kernel
theorem dX6_commonDivisor_13 : decode cX6_commonDivisor 13 = .ok (.istore 8, 2) := by decide +kernel
theorem dX6_commonDivisor_15 : decode cX6_commonDivisor 15 = .ok (.iload 8, 2) := by decide +kernel
theorem dX6_commonDivisor_17 : decode cX6_commonDivisor 17 = .ok (.sipush 200, 3) := by decide +kernel
theorem dX6_commonDivisor_20 : decode cX6_commonDivisor 20 = .ok (.if_icmp .ge 31, 3) := by decide +kernel
theorem dX6_commonDivisor_23 : decode cX6_commonDivisor 23 = .ok (.lload 6, 2) := by decide +kernel
theorem dX6_commonDivisor_25 : decode cX6_commonDivisor 25 = .ok (.lconst 0, 1) := by decide +kernel
theorem dX6_commonDivisor_26 : decode cX6_commonDivisor 26 = .ok (.lcmp, 1) := by decide +kernel
theorem dX6_commonDivisor_27 : decode cX6_commonDivisor 27 = .ok (.ifCond .eq 24, 3) := by decide +kernel
theorem dX6_commonDivisor_30 : decode cX6_commonDivisor 30 = .ok (.lload 4, 2) := by decide +kernel
theorem dX6_commonDivisor_32 : decode cX6_commonDivisor 32 = .ok (.lload 6, 2) := by decide +kernel
theorem dX6_commonDivisor_34 : decode cX6_commonDivisor 34 = .ok (.lrem, 1) := by decide +kernel
theorem dX6_commonDivisor_35 : decode cX6_commonDivisor 35 = .ok (.lstore 9, 2) := by decide +kernel
theorem dX6_commonDivisor_37 : decode cX6_commonDivisor 37 = .ok (.lload 6, 2) := by decide +kernel
theorem dX6_commonDivisor_39 : decode cX6_commonDivisor 39 = .ok (.lstore 4, 2) := by decide +kernel
theorem dX6_commonDivisor_41 : decode cX6_commonDivisor 41 = .ok (.lload 9, 2) := by decide +kernel
theorem dX6_commonDivisor_43 : decode cX6_commonDivisor 43 = .ok (.lstore 6, 2) := by decide +kernel
theorem dX6_commonDivisor_45 : decode cX6_commonDivisor 45 = .ok (.iinc 8 1, 3) := by decide +kernel
theorem dX6_commonDivisor_48 : decode cX6_commonDivisor 48 = .ok (.goto (-33), 3) := by decide +kernel
theorem dX6_commonDivisor_51 : decode cX6_commonDivisor 51 = .ok (.lload 4, 2) := by decide +kernel
theorem dX6_commonDivisor_53 : decode cX6_commonDivisor 53 = .ok (.lreturn, 1) := by decide +kernel
set_option maxRecDepth 20000 in
theorem ggX6_inLowestTerms_X6_commonDivisor : GoodIn wsX6_inLowestTerms wsX6_commonDivisor := goodIn_r _ [4, 5, 6, 7, 8] (by decide +kernel) (by decide +kernel)
set_option maxRecDepth 20000 in
theorem gX6_inLowestTerms_X6_commonDivisor : GoodIn wsX6_inLowestTerms (va_wsS RX6 200 yX6_commonDivisor wsX6_commonDivisor) := goodIn_app (goodIn_of _ (by decide +kernel)) ggX6_inLowestTerms_X6_commonDivisor
theorem dX6_inLowestTerms_0 : decode cX6_inLowestTerms 0 = .ok (.lload_n 0, 1) := by decide +kernel
theorem dX6_inLowestTerms_1 : decode cX6_inLowestTerms 1 = .ok (.lload_n 2, 1) := by decide +kernel
theorem dX6_inLowestTerms_2 : decode cX6_inLowestTerms 2 = .ok (.invokestatic 200, 3) := by decide +kernel
theorem dX6_inLowestTerms_5 : decode cX6_inLowestTerms 5 = .ok (.lstore 5, 2) := by decide +kernel
theorem dX6_inLowestTerms_7 : decode cX6_inLowestTerms 7 = .ok (.lload 5, 2) := by decide +kernel
theorem dX6_inLowestTerms_9 : decode cX6_inLowestTerms 9 = .ok (.lconst 0, 1) := by decide +kernel
theorem dX6_inLowestTerms_10 : decode cX6_inLowestTerms 10 = .ok (.lcmp, 1) := by decide +kernel
theorem dX6_inLowestTerms_11 : decode cX6_inLowestTerms 11 = .ok (.ifCond .ne 7, 3) := by decide +kernel
theorem dX6_inLowestTerms_14 : decode cX6_inLowestTerms 14 = .ok (.iload 4, 2) := by decide +kernel
theorem dX6_inLowestTerms_16 : decode cX6_inLowestTerms 16 = .ok (.i2l, 1) := by decide +kernel
theorem dX6_inLowestTerms_17 : decode cX6_inLowestTerms 17 = .ok (.lreturn, 1) := by decide +kernel
theorem dX6_inLowestTerms_18 : decode cX6_inLowestTerms 18 = .ok (.iload 4, 2) := by decide +kernel
theorem dX6_inLowestTerms_20 : decode cX6_inLowestTerms 20 = .ok (.ifCond .ne 7, 3) := by decide +kernel
theorem dX6_inLowestTerms_23 : decode cX6_inLowestTerms 23 = .ok (.lload_n 0, 1) := by decide +kernel
theorem dX6_inLowestTerms_24 : decode cX6_inLowestTerms 24 = .ok (.goto 4, 3) := by decide +kernel
theorem dX6_inLowestTerms_27 : decode cX6_inLowestTerms 27 = .ok (.lload_n 2, 1) := by decide +kernel
theorem dX6_inLowestTerms_28 : decode cX6_inLowestTerms 28 = .ok (.lload 5, 2) := by decide +kernel
theorem dX6_inLowestTerms_30 : decode cX6_inLowestTerms 30 = .ok (.ldiv, 1) := by decide +kernel
theorem dX6_inLowestTerms_31 : decode cX6_inLowestTerms 31 = .ok (.lreturn, 1) := by decide +kernel
theorem dJ6_bitCount_0f7a4_0 : decode cJ6_bitCount_0f7a4 0 = .ok (.iload_n 0, 1) := by decide +kernel
theorem dJ6_bitCount_0f7a4_1 : decode cJ6_bitCount_0f7a4 1 = .ok (.iload_n 0, 1) := by decide +kernel
theorem dJ6_bitCount_0f7a4_2 : decode cJ6_bitCount_0f7a4 2 = .ok (.iconst 1, 1) := by decide +kernel
theorem dJ6_bitCount_0f7a4_3 : decode cJ6_bitCount_0f7a4 3 = .ok (.iushr, 1) := by decide +kernel
theorem dJ6_bitCount_0f7a4_4 : decode cJ6_bitCount_0f7a4 4 = .ok (.ldc_w 265, 3) := by decide +kernel
theorem dJ6_bitCount_0f7a4_7 : decode cJ6_bitCount_0f7a4 7 = .ok (.iand, 1) := by decide +kernel
theorem dJ6_bitCount_0f7a4_8 : decode cJ6_bitCount_0f7a4 8 = .ok (.isub, 1) := by decide +kernel
theorem dJ6_bitCount_0f7a4_9 : decode cJ6_bitCount_0f7a4 9 = .ok (.istore_n 0, 1) := by decide +kernel
theorem dJ6_bitCount_0f7a4_10 : decode cJ6_bitCount_0f7a4 10 = .ok (.iload_n 0, 1) := by decide +kernel
theorem dJ6_bitCount_0f7a4_11 : decode cJ6_bitCount_0f7a4 11 = .ok (.ldc_w 266, 3) := by decide +kernel
theorem dJ6_bitCount_0f7a4_14 : decode cJ6_bitCount_0f7a4 14 = .ok (.iand, 1) := by decide +kernel
theorem dJ6_bitCount_0f7a4_15 : decode cJ6_bitCount_0f7a4 15 = .ok (.iload_n 0, 1) := by decide +kernel
theorem dJ6_bitCount_0f7a4_16 : decode cJ6_bitCount_0f7a4 16 = .ok (.iconst 2, 1) := by decide +kernel
theorem dJ6_bitCount_0f7a4_17 : decode cJ6_bitCount_0f7a4 17 = .ok (.iushr, 1) := by decide +kernel
theorem dJ6_bitCount_0f7a4_18 : decode cJ6_bitCount_0f7a4 18 = .ok (.ldc_w 266, 3) := by decide +kernel
theorem dJ6_bitCount_0f7a4_21 : decode cJ6_bitCount_0f7a4 21 = .ok (.iand, 1) := by decide +kernel
theorem dJ6_bitCount_0f7a4_22 : decode cJ6_bitCount_0f7a4 22 = .ok (.iadd, 1) := by decide +kernel
theorem dJ6_bitCount_0f7a4_23 : decode cJ6_bitCount_0f7a4 23 = .ok (.istore_n 0, 1) := by decide +kernel
theorem dJ6_bitCount_0f7a4_24 : decode cJ6_bitCount_0f7a4 24 = .ok (.iload_n 0, 1) := by decide +kernel
theorem dJ6_bitCount_0f7a4_25 : decode cJ6_bitCount_0f7a4 25 = .ok (.iload_n 0, 1) := by decide +kernel
theorem dJ6_bitCount_0f7a4_26 : decode cJ6_bitCount_0f7a4 26 = .ok (.iconst 4, 1) := by decide +kernel
theorem dJ6_bitCount_0f7a4_27 : decode cJ6_bitCount_0f7a4 27 = .ok (.iushr, 1) := by decide +kernel
theorem dJ6_bitCount_0f7a4_28 : decode cJ6_bitCount_0f7a4 28 = .ok (.iadd, 1) := by decide +kernel
theorem dJ6_bitCount_0f7a4_29 : decode cJ6_bitCount_0f7a4 29 = .ok (.ldc_w 267, 3) := by decide +kernel
theorem dJ6_bitCount_0f7a4_32 : decode cJ6_bitCount_0f7a4 32 = .ok (.iand, 1) := by decide +kernel
theorem dJ6_bitCount_0f7a4_33 : decode cJ6_bitCount_0f7a4 33 = .ok (.istore_n 0, 1) := by decide +kernel
theorem dJ6_bitCount_0f7a4_34 : decode cJ6_bitCount_0f7a4 34 = .ok (.iload_n 0, 1) := by decide +kernel
theorem dJ6_bitCount_0f7a4_35 : decode cJ6_bitCount_0f7a4 35 = .ok (.iload_n 0, 1) := by decide +kernel
theorem dJ6_bitCount_0f7a4_36 : decode cJ6_bitCount_0f7a4 36 = .ok (.bipush 8, 2) := by decide +kernel
theorem dJ6_bitCount_0f7a4_38 : decode cJ6_bitCount_0f7a4 38 = .ok (.iushr, 1) := by decide +kernel
theorem dJ6_bitCount_0f7a4_39 : decode cJ6_bitCount_0f7a4 39 = .ok (.iadd, 1) := by decide +kernel
theorem dJ6_bitCount_0f7a4_40 : decode cJ6_bitCount_0f7a4 40 = .ok (.istore_n 0, 1) := by decide +kernel
theorem dJ6_bitCount_0f7a4_41 : decode cJ6_bitCount_0f7a4 41 = .ok (.iload_n 0, 1) := by decide +kernel
theorem dJ6_bitCount_0f7a4_42 : decode cJ6_bitCount_0f7a4 42 = .ok (.iload_n 0, 1) := by decide +kernel
theorem dJ6_bitCount_0f7a4_43 : decode cJ6_bitCount_0f7a4 43 = .ok (.bipush 16, 2) := by decide +kernel
theorem dJ6_bitCount_0f7a4_45 : decode cJ6_bitCount_0f7a4 45 = .ok (.iushr, 1) := by decide +kernel
theorem dJ6_bitCount_0f7a4_46 : decode cJ6_bitCount_0f7a4 46 = .ok (.iadd, 1) := by decide +kernel
theorem dJ6_bitCount_0f7a4_47 : decode cJ6_bitCount_0f7a4 47 = .ok (.istore_n 0, 1) := by decide +kernel
theorem dJ6_bitCount_0f7a4_48 : decode cJ6_bitCount_0f7a4 48 = .ok (.iload_n 0, 1) := by decide +kernel
theorem dJ6_bitCount_0f7a4_49 : decode cJ6_bitCount_0f7a4 49 = .ok (.bipush 63, 2) := by decide +kernel
theorem dJ6_bitCount_0f7a4_51 : decode cJ6_bitCount_0f7a4 51 = .ok (.iand, 1) := by decide +kernel
theorem dJ6_bitCount_0f7a4_52 : decode cJ6_bitCount_0f7a4 52 = .ok (.ireturn, 1) := by decide +kernel
theorem dJ13_compare_74951_0 : decode cJ13_compare_74951 0 = .ok (.lload_n 0, 1) := by decide +kernel
theorem dJ13_compare_74951_1 : decode cJ13_compare_74951 1 = .ok (.lload_n 2, 1) := by decide +kernel
theorem dJ13_compare_74951_2 : decode cJ13_compare_74951 2 = .ok (.lcmp, 1) := by decide +kernel
theorem dJ13_compare_74951_3 : decode cJ13_compare_74951 3 = .ok (.ifCond .ge 7, 3) := by decide +kernel
theorem dJ13_compare_74951_6 : decode cJ13_compare_74951 6 = .ok (.iconst (-1), 1) := by decide +kernel
theorem dJ13_compare_74951_7 : decode cJ13_compare_74951 7 = .ok (.goto 14, 3) := by decide +kernel
theorem dJ13_compare_74951_10 : decode cJ13_compare_74951 10 = .ok (.lload_n 0, 1) := by decide +kernel
theorem dJ13_compare_74951_11 : decode cJ13_compare_74951 11 = .ok (.lload_n 2, 1) := by decide +kernel
theorem dJ13_compare_74951_12 : decode cJ13_compare_74951 12 = .ok (.lcmp, 1) := by decide +kernel
theorem dJ13_compare_74951_13 : decode cJ13_compare_74951 13 = .ok (.ifCond .ne 7, 3) := by decide +kernel
theorem dJ13_compare_74951_16 : decode cJ13_compare_74951 16 = .ok (.iconst 0, 1) := by decide +kernel
theorem dJ13_compare_74951_17 : decode cJ13_compare_74951 17 = .ok (.goto 4, 3) := by decide +kernel
theorem dJ13_compare_74951_20 : decode cJ13_compare_74951 20 = .ok (.iconst 1, 1) := by decide +kernel
theorem dJ13_compare_74951_21 : decode cJ13_compare_74951 21 = .ok (.ireturn, 1) := by decide +kernel
theorem dJ9_floorDiv_7cf53_0 : decode cJ9_floorDiv_7cf53 0 = .ok (.iload_n 0, 1) := by decide +kernel
theorem dJ9_floorDiv_7cf53_1 : decode cJ9_floorDiv_7cf53 1 = .ok (.iload_n 1, 1) := by decide +kernel
theorem dJ9_floorDiv_7cf53_2 : decode cJ9_floorDiv_7cf53 2 = .ok (.idiv, 1) := by decide +kernel
theorem dJ9_floorDiv_7cf53_3 : decode cJ9_floorDiv_7cf53 3 = .ok (.istore_n 2, 1) := by decide +kernel
theorem dJ9_floorDiv_7cf53_4 : decode cJ9_floorDiv_7cf53 4 = .ok (.iload_n 0, 1) := by decide +kernel
theorem dJ9_floorDiv_7cf53_5 : decode cJ9_floorDiv_7cf53 5 = .ok (.iload_n 1, 1) := by decide +kernel
theorem dJ9_floorDiv_7cf53_6 : decode cJ9_floorDiv_7cf53 6 = .ok (.ixor, 1) := by decide +kernel
theorem dJ9_floorDiv_7cf53_7 : decode cJ9_floorDiv_7cf53 7 = .ok (.ifCond .ge 14, 3) := by decide +kernel
theorem dJ9_floorDiv_7cf53_10 : decode cJ9_floorDiv_7cf53 10 = .ok (.iload_n 2, 1) := by decide +kernel
theorem dJ9_floorDiv_7cf53_11 : decode cJ9_floorDiv_7cf53 11 = .ok (.iload_n 1, 1) := by decide +kernel
theorem dJ9_floorDiv_7cf53_12 : decode cJ9_floorDiv_7cf53 12 = .ok (.imul, 1) := by decide +kernel
theorem dJ9_floorDiv_7cf53_13 : decode cJ9_floorDiv_7cf53 13 = .ok (.iload_n 0, 1) := by decide +kernel
theorem dJ9_floorDiv_7cf53_14 : decode cJ9_floorDiv_7cf53 14 = .ok (.if_icmp .eq 7, 3) := by decide +kernel
theorem dJ9_floorDiv_7cf53_17 : decode cJ9_floorDiv_7cf53 17 = .ok (.iload_n 2, 1) := by decide +kernel
theorem dJ9_floorDiv_7cf53_18 : decode cJ9_floorDiv_7cf53 18 = .ok (.iconst 1, 1) := by decide +kernel
theorem dJ9_floorDiv_7cf53_19 : decode cJ9_floorDiv_7cf53 19 = .ok (.isub, 1) := by decide +kernel
theorem dJ9_floorDiv_7cf53_20 : decode cJ9_floorDiv_7cf53 20 = .ok (.ireturn, 1) := by decide +kernel
theorem dJ9_floorDiv_7cf53_21 : decode cJ9_floorDiv_7cf53 21 = .ok (.iload_n 2, 1) := by decide +kernel
theorem dJ9_floorDiv_7cf53_22 : decode cJ9_floorDiv_7cf53 22 = .ok (.ireturn, 1) := by decide +kernel
theorem dJ9_floorDiv_f86c9_0 : decode cJ9_floorDiv_f86c9 0 = .ok (.lload_n 0, 1) := by decide +kernel
theorem dJ9_floorDiv_f86c9_1 : decode cJ9_floorDiv_f86c9 1 = .ok (.lload_n 2, 1) := by decide +kernel
theorem dJ9_floorDiv_f86c9_2 : decode cJ9_floorDiv_f86c9 2 = .ok (.ldiv, 1) := by decide +kernel
theorem dJ9_floorDiv_f86c9_3 : decode cJ9_floorDiv_f86c9 3 = .ok (.lstore 4, 2) := by decide +kernel
theorem dJ9_floorDiv_f86c9_5 : decode cJ9_floorDiv_f86c9 5 = .ok (.lload_n 0, 1) := by decide +kernel
theorem dJ9_floorDiv_f86c9_6 : decode cJ9_floorDiv_f86c9 6 = .ok (.lload_n 2, 1) := by decide +kernel
theorem dJ9_floorDiv_f86c9_7 : decode cJ9_floorDiv_f86c9 7 = .ok (.lxor, 1) := by decide +kernel
theorem dJ9_floorDiv_f86c9_8 : decode cJ9_floorDiv_f86c9 8 = .ok (.lconst 0, 1) := by decide +kernel
theorem dJ9_floorDiv_f86c9_9 : decode cJ9_floorDiv_f86c9 9 = .ok (.lcmp, 1) := by decide +kernel
theorem dJ9_floorDiv_f86c9_10 : decode cJ9_floorDiv_f86c9 10 = .ok (.ifCond .ge 17, 3) := by decide +kernel
theorem dJ9_floorDiv_f86c9_13 : decode cJ9_floorDiv_f86c9 13 = .ok (.lload 4, 2) := by decide +kernel
theorem dJ9_floorDiv_f86c9_15 : decode cJ9_floorDiv_f86c9 15 = .ok (.lload_n 2, 1) := by decide +kernel
theorem dJ9_floorDiv_f86c9_16 : decode cJ9_floorDiv_f86c9 16 = .ok (.lmul, 1) := by decide +kernel
theorem dJ9_floorDiv_f86c9_17 : decode cJ9_floorDiv_f86c9 17 = .ok (.lload_n 0, 1) := by decide +kernel
theorem dJ9_floorDiv_f86c9_18 : decode cJ9_floorDiv_f86c9 18 = .ok (.lcmp, 1) := by decide +kernel
theorem dJ9_floorDiv_f86c9_19 : decode cJ9_floorDiv_f86c9 19 = .ok (.ifCond .eq 8, 3) := by decide +kernel
theorem dJ9_floorDiv_f86c9_22 : decode cJ9_floorDiv_f86c9 22 = .ok (.lload 4, 2) := by decide +kernel
theorem dJ9_floorDiv_f86c9_24 : decode cJ9_floorDiv_f86c9 24 = .ok (.lconst 1, 1) := by decide +kernel
theorem dJ9_floorDiv_f86c9_25 : decode cJ9_floorDiv_f86c9 25 = .ok (.lsub, 1) := by decide +kernel
theorem dJ9_floorDiv_f86c9_26 : decode cJ9_floorDiv_f86c9 26 = .ok (.lreturn, 1) := by decide +kernel
theorem dJ9_floorDiv_f86c9_27 : decode cJ9_floorDiv_f86c9 27 = .ok (.lload 4, 2) := by decide +kernel
theorem dJ9_floorDiv_f86c9_29 : decode cJ9_floorDiv_f86c9 29 = .ok (.lreturn, 1) := by decide +kernel
theorem dJ9_abs_067f4_0 : decode cJ9_abs_067f4 0 = .ok (.lload_n 0, 1) := by decide +kernel
theorem dJ9_abs_067f4_1 : decode cJ9_abs_067f4 1 = .ok (.lconst 0, 1) := by decide +kernel
theorem dJ9_abs_067f4_2 : decode cJ9_abs_067f4 2 = .ok (.lcmp, 1) := by decide +kernel
theorem dJ9_abs_067f4_3 : decode cJ9_abs_067f4 3 = .ok (.ifCond .ge 8, 3) := by decide +kernel
theorem dJ9_abs_067f4_6 : decode cJ9_abs_067f4 6 = .ok (.lload_n 0, 1) := by decide +kernel
theorem dJ9_abs_067f4_7 : decode cJ9_abs_067f4 7 = .ok (.lneg, 1) := by decide +kernel
theorem dJ9_abs_067f4_8 : decode cJ9_abs_067f4 8 = .ok (.goto 4, 3) := by decide +kernel
theorem dJ9_abs_067f4_11 : decode cJ9_abs_067f4 11 = .ok (.lload_n 0, 1) := by decide +kernel
theorem dJ9_abs_067f4_12 : decode cJ9_abs_067f4 12 = .ok (.lreturn, 1) := by decide +kernel
