theorem dX7_init_0 : decode cX7_init 0 = .ok (.aload_n 0, 1) := by decide +kernel
theorem dX7_init_1 : decode cX7_init 1 = .ok (.invokespecial 1, 3) := by decide +kernel
theorem dX7_init_4 : decode cX7_init 4 = .ok (.aload_n 0, 1) := by decide +kernel
theorem dX7_init_5 : decode cX7_init 5 = .ok (.iconst 5, 1) := by decide +kernel
theorem dX7_init_6 : decode cX7_init 6 = .ok (.newarray .int, 2) := by decide +kernel
theorem dX7_init_8 : decode cX7_init 8 = .ok (.putfield 7, 3) := by decide +kernel
theorem dX7_init_11 : decode cX7_init 11 = .ok (.aload_n 0, 1) := by decide +kernel
theorem dX7_init_12 : decode cX7_init 12 = .ok (.iconst 5, 1) := by decide +kernel
theorem dX7_init_13 : decode cX7_init 13 = .ok (.newarray .int, 2) := by decide +kernel
theorem dX7_init_15 : decode cX7_init 15 = .ok (.putfield 13, 3) := by decide +kernel
theorem dX7_init_18 : decode cX7_init 18 = .ok (.aload_n 0, 1) := by decide +kernel
theorem dX7_init_19 : decode cX7_init 19 = .ok (.iconst 5, 1) := by decide +kernel
theorem dX7_init_20 : decode cX7_init 20 = .ok (.newarray .int, 2) := by decide +kernel
theorem dX7_init_22 : decode cX7_init 22 = .ok (.putfield 16, 3) := by decide +kernel
theorem dX7_init_25 : decode cX7_init 25 = .ok (.aload_n 0, 1) := by decide +kernel
theorem dX7_init_26 : decode cX7_init 26 = .ok (.iconst 5, 1) := by decide +kernel
theorem dX7_init_27 : decode cX7_init 27 = .ok (.newarray .int, 2) := by decide +kernel
theorem dX7_init_29 : decode cX7_init 29 = .ok (.putfield 19, 3) := by decide +kernel
theorem dX7_init_32 : decode cX7_init 32 = .ok (.aload_n 0, 1) := by decide +kernel
theorem dX7_init_33 : decode cX7_init 33 = .ok (.iconst 5, 1) := by decide +kernel
theorem dX7_init_34 : decode cX7_init 34 = .ok (.newarray .int, 2) := by decide +kernel
theorem dX7_init_36 : decode cX7_init 36 = .ok (.putfield 22, 3) := by decide +kernel
theorem dX7_init_39 : decode cX7_init 39 = .ok (.aload_n 0, 1) := by decide +kernel
theorem dX7_init_40 : decode cX7_init 40 = .ok (.bipush 7, 2) := by decide +kernel
theorem dX7_init_42 : decode cX7_init 42 = .ok (.newarray .int, 2) := by decide +kernel
theorem dX7_init_44 : decode cX7_init 44 = .ok (.putfield 25, 3) := by decide +kernel
theorem dX7_init_47 : decode cX7_init 47 = .ok (.aload_n 0, 1) := by decide +kernel
theorem dX7_init_48 : decode cX7_init 48 = .ok (.bipush 7, 2) := by decide +kernel
theorem dX7_init_50 : decode cX7_init 50 = .ok (.newarray .int, 2) := by decide +kernel
theorem dX7_init_52 : decode cX7_init 52 = .ok (.putfield 28, 3) := by decide +kernel
theorem dX7_init_55 : decode cX7_init 55 = .ok (.aload_n 0, 1) := by decide +kernel
theorem dX7_init_56 : decode cX7_init 56 = .ok (.bipush 7, 2) := by decide +kernel
theorem dX7_init_58 : decode cX7_init 58 = .ok (.newarray .boolean, 2) := by decide +kernel
theorem dX7_init_60 : decode cX7_init 60 = .ok (.putfield 31, 3) := by decide +kernel
theorem dX7_init_63 : decode cX7_init 63 = .ok (.aload_n 0, 1) := by decide +kernel
theorem dX7_init_64 : decode cX7_init 64 = .ok (.bipush 35, 2) := by decide +kernel
theorem dX7_init_66 : decode cX7_init 66 = .ok (.newarray .int, 2) := by decide +kernel
theorem dX7_init_68 : decode cX7_init 68 = .ok (.putfield 35, 3) := by decide +kernel
theorem dX7_init_71 : decode cX7_init 71 = .ok (.aload_n 0, 1) := by decide +kernel
theorem dX7_init_72 : decode cX7_init 72 = .ok (.iconst (-1), 1) := by decide +kernel
theorem dX7_init_73 : decode cX7_init 73 = .ok (.putfield 38, 3) := by decide +kernel
theorem dX7_init_76 : decode cX7_init 76 = .ok (.aload_n 0, 1) := by decide +kernel
theorem dX7_init_77 : decode cX7_init 77 = .ok (.iconst 5, 1) := by decide +kernel
theorem dX7_init_78 : decode cX7_init 78 = .ok (.newarray .long, 2) := by decide +kernel
theorem dX7_init_80 : decode cX7_init 80 = .ok (.putfield 42, 3) := by decide +kernel
theorem dX7_init_83 : decode cX7_init 83 = .ok (.aload_n 0, 1) := by decide +kernel
theorem dX7_init_84 : decode cX7_init 84 = .ok (.lconst 1, 1) := by decide +kernel
theorem dX7_init_85 : decode cX7_init 85 = .ok (.putfield 46, 3) := by decide +kernel
theorem dX7_init_88 : decode cX7_init 88 = .ok (.aload_n 0, 1) := by decide +kernel
theorem dX7_init_89 : decode cX7_init 89 = .ok (.iconst 5, 1) := by decide +kernel
theorem dX7_init_90 : decode cX7_init 90 = .ok (.newarray .long, 2) := by decide +kernel
theorem dX7_init_92 : decode cX7_init 92 = .ok (.putfield 50, 3) := by decide +kernel
theorem dX7_init_95 : decode cX7_init 95 = .ok (.aload_n 0, 1) := by decide +kernel
theorem dX7_init_96 : decode cX7_init 96 = .ok (.lconst 1, 1) := by decide +kernel
theorem dX7_init_97 : decode cX7_init 97 = .ok (.putfield 53, 3) := by decide +kernel
theorem dX7_init_100 : decode cX7_init 100 = .ok (.aload_n 0, 1) := by decide +kernel
theorem dX7_init_101 : decode cX7_init 101 = .ok (.bipush 7, 2) := by decide +kernel
theorem dX7_init_103 : decode cX7_init 103 = .ok (.newarray .long, 2) := by decide +kernel
theorem dX7_init_105 : decode cX7_init 105 = .ok (.putfield 56, 3) := by decide +kernel
theorem dX7_init_108 : decode cX7_init 108 = .ok (.aload_n 0, 1) := by decide +kernel
theorem dX7_init_109 : decode cX7_init 109 = .ok (.lconst 1, 1) := by decide +kernel
theorem dX7_init_110 : decode cX7_init 110 = .ok (.putfield 59, 3) := by decide +kernel
theorem dX7_init_113 : decode cX7_init 113 = .ok (.aload_n 0, 1) := by decide +kernel
theorem dX7_init_114 : decode cX7_init 114 = .ok (.iconst 5, 1) := by decide +kernel
theorem dX7_init_115 : decode cX7_init 115 = .ok (.newarray .int, 2) := by decide +kernel
theorem dX7_init_117 : decode cX7_init 117 = .ok (.putfield 62, 3) := by decide +kernel
theorem dX7_init_120 : decode cX7_init 120 = .ok (.aload_n 0, 1) := by decide +kernel
theorem dX7_init_121 : decode cX7_init 121 = .ok (.bipush 100, 2) := by decide +kernel
theorem dX7_init_123 : decode cX7_init 123 = .ok (.newarray .int, 2) := by decide +kernel
theorem dX7_init_125 : decode cX7_init 125 = .ok (.putfield 65, 3) := by decide +kernel
theorem dX7_init_128 : decode cX7_init 128 = .ok (.aload_n 0, 1) := by decide +kernel
theorem dX7_init_129 : decode cX7_init 129 = .ok (.bipush 20, 2) := by decide +kernel
theorem dX7_init_131 : decode cX7_init 131 = .ok (.newarray .long, 2) := by decide +kernel
theorem dX7_init_133 : decode cX7_init 133 = .ok (.putfield 68, 3) := by decide +kernel
theorem dX7_init_136 : decode cX7_init 136 = .ok (.aload_n 0, 1) := by decide +kernel
theorem dX7_init_137 : decode cX7_init 137 = .ok (.bipush 20, 2) := by decide +kernel
theorem dX7_init_139 : decode cX7_init 139 = .ok (.newarray .int, 2) := by decide +kernel
theorem dX7_init_141 : decode cX7_init 141 = .ok (.putfield 71, 3) := by decide +kernel
theorem dX7_init_144 : decode cX7_init 144 = .ok (.aload_n 0, 1) := by decide +kernel
theorem dX7_init_145 : decode cX7_init 145 = .ok (.iconst 5, 1) := by decide +kernel
theorem dX7_init_146 : decode cX7_init 146 = .ok (.newarray .int, 2) := by decide +kernel
theorem dX7_init_148 : decode cX7_init 148 = .ok (.putfield 74, 3) := by decide +kernel
theorem dX7_init_151 : decode cX7_init 151 = .ok (.aload_n 0, 1) := by decide +kernel
theorem dX7_init_152 : decode cX7_init 152 = .ok (.bipush 30, 2) := by decide +kernel
theorem dX7_init_154 : decode cX7_init 154 = .ok (.newarray .long, 2) := by decide +kernel
theorem dX7_init_156 : decode cX7_init 156 = .ok (.putfield 77, 3) := by decide +kernel
theorem dX7_init_159 : decode cX7_init 159 = .ok (.aload_n 0, 1) := by decide +kernel
theorem dX7_init_160 : decode cX7_init 160 = .ok (.iconst 5, 1) := by decide +kernel
theorem dX7_init_161 : decode cX7_init 161 = .ok (.newarray .long, 2) := by decide +kernel
theorem dX7_init_163 : decode cX7_init 163 = .ok (.putfield 80, 3) := by decide +kernel
theorem dX7_init_166 : decode cX7_init 166 = .ok (.aload_n 0, 1) := by decide +kernel
theorem dX7_init_167 : decode cX7_init 167 = .ok (.iconst 5, 1) := by decide +kernel
theorem dX7_init_168 : decode cX7_init 168 = .ok (.newarray .boolean, 2) := by decide +kernel
theorem dX7_init_170 : decode cX7_init 170 = .ok (.putfield 83, 3) := by decide +kernel
theorem dX7_init_173 : decode cX7_init 173 = .ok (.aload_n 0, 1) := by decide +kernel
theorem dX7_init_174 : decode cX7_init 174 = .ok (.iconst 5, 1) := by decide +kernel
theorem dX7_init_175 : decode cX7_init 175 = .ok (.newarray .long, 2) := by decide +kernel
theorem dX7_init_177 : decode cX7_init 177 = .ok (.putfield 86, 3) := by decide +kernel
theorem dX7_init_180 : decode cX7_init 180 = .ok (.aload_n 0, 1) := by decide +kernel
theorem dX7_init_181 : decode cX7_init 181 = .ok (.bipush 7, 2) := by decide +kernel
theorem dX7_init_183 : decode cX7_init 183 = .ok (.newarray .int, 2) := by decide +kernel
theorem dX7_init_185 : decode cX7_init 185 = .ok (.putfield 89, 3) := by decide +kernel
theorem dX7_init_188 : decode cX7_init 188 = .ok (.aload_n 0, 1) := by decide +kernel
theorem dX7_init_189 : decode cX7_init 189 = .ok (.iconst 5, 1) := by decide +kernel
theorem dX7_init_190 : decode cX7_init 190 = .ok (.newarray .long, 2) := by decide +kernel
theorem dX7_init_192 : decode cX7_init 192 = .ok (.putfield 92, 3) := by decide +kernel
theorem dX7_init_195 : decode cX7_init 195 = .ok (.aload_n 0, 1) := by decide +kernel
theorem dX7_init_196 : decode cX7_init 196 = .ok (.bipush 32, 2) := by decide +kernel
theorem dX7_init_198 : decode cX7_init 198 = .ok (.newarray .int, 2) := by decide +kernel
theorem dX7_init_200 : decode cX7_init 200 = .ok (.putfield 95, 3) := by decide +kernel
theorem dX7_init_203 : decode cX7_init 203 = .ok (.aload_n 0, 1) := by decide +kernel
theorem dX7_init_204 : decode cX7_init 204 = .ok (.iconst 0, 1) := by decide +kernel
theorem dX7_init_205 : decode cX7_init 205 = .ok (.putfield 98, 3) := by decide +kernel
theorem dX7_init_208 : decode cX7_init 208 = .ok (.return_, 1) := by decide +kernel
theorem dX7_isIn_0 : decode cX7_isIn 0 = .ok (.iload_n 0, 1) := by decide +kernel
theorem dX7_isIn_1 : decode cX7_isIn 1 = .ok (.iload_n 1, 1) := by decide +kernel
theorem dX7_isIn_2 : decode cX7_isIn 2 = .ok (.if_icmp .lt 12, 3) := by decide +kernel
theorem dX7_isIn_5 : decode cX7_isIn 5 = .ok (.iload_n 0, 1) := by decide +kernel
theorem dX7_isIn_6 : decode cX7_isIn 6 = .ok (.iload_n 2, 1) := by decide +kernel
theorem dX7_isIn_7 : decode cX7_isIn 7 = .ok (.if_icmp .gt 7, 3) := by decide +kernel
theorem dX7_isIn_10 : decode cX7_isIn 10 = .ok (.iconst 1, 1) := by decide +kernel
theorem dX7_isIn_11 : decode cX7_isIn 11 = .ok (.goto 4, 3) := by decide +kernel
theorem dX7_isIn_14 : decode cX7_isIn 14 = .ok (.iconst 0, 1) := by decide +kernel
theorem dX7_isIn_15 : decode cX7_isIn 15 = .ok (.ireturn, 1) := by decide +kernel
set_option maxRecDepth 20000 in
theorem ggX7_isColumn_X7_isIn : GoodIn wsX7_isColumn wsX7_isIn := goodIn_r _ [5] (by decide +kernel) (by decide +kernel)
set_option maxRecDepth 20000 in
theorem gX7_isColumn_X7_isIn : GoodIn wsX7_isColumn (va_wsS RX7 101 yX7_isIn wsX7_isIn) := goodIn_app (goodIn_of _ (by decide +kernel)) ggX7_isColumn_X7_isIn
theorem dX7_isColumn_0 : decode cX7_isColumn 0 = .ok (.iload_n 1, 1) := by decide +kernel
theorem dX7_isColumn_1 : decode cX7_isColumn 1 = .ok (.iconst 0, 1) := by decide +kernel
theorem dX7_isColumn_2 : decode cX7_isColumn 2 = .ok (.aload_n 0, 1) := by decide +kernel
theorem dX7_isColumn_3 : decode cX7_isColumn 3 = .ok (.getfield 98, 3) := by decide +kernel
theorem dX7_isColumn_6 : decode cX7_isColumn 6 = .ok (.iconst 1, 1) := by decide +kernel
theorem dX7_isColumn_7 : decode cX7_isColumn 7 = .ok (.isub, 1) := by decide +kernel
theorem dX7_isColumn_8 : decode cX7_isColumn 8 = .ok (.invokestatic 101, 3) := by decide +kernel
theorem dX7_isColumn_11 : decode cX7_isColumn 11 = .ok (.ireturn, 1) := by decide +kernel
set_option maxRecDepth 20000 in
theorem ggX7_isRow_X7_isIn : GoodIn wsX7_isRow wsX7_isIn := goodIn_r _ [5] (by decide +kernel) (by decide +kernel)
set_option maxRecDepth 20000 in
theorem gX7_isRow_X7_isIn : GoodIn wsX7_isRow (va_wsS RX7 101 yX7_isIn wsX7_isIn) := goodIn_app (goodIn_of _ (by decide +kernel)) ggX7_isRow_X7_isIn
theorem dX7_isRow_0 : decode cX7_isRow 0 = .ok (.iload_n 1, 1) := by decide +kernel
theorem dX7_isRow_1 : decode cX7_isRow 1 = .ok (.iconst 0, 1) := by decide +kernel
theorem dX7_isRow_2 : decode cX7_isRow 2 = .ok (.aload_n 0, 1) := by decide +kernel
theorem dX7_isRow_3 : decode cX7_isRow 3 = .ok (.getfield 105, 3) := by decide +kernel
theorem dX7_isRow_6 : decode cX7_isRow 6 = .ok (.iconst 1, 1) := by decide +kernel
theorem dX7_isRow_7 : decode cX7_isRow 7 = .ok (.isub, 1) := by decide +kernel
theorem dX7_isRow_8 : decode cX7_isRow 8 = .ok (.invokestatic 101, 3) := by decide +kernel
theorem dX7_isRow_11 : decode cX7_isRow 11 = .ok (.ireturn, 1) := by decide +kernel
set_option maxRecDepth 20000 in
theorem ggX7_areBounds_X7_isIn : GoodIn wsX7_areBounds wsX7_isIn := goodIn_r _ [5] (by decide +kernel) (by decide +kernel)
set_option maxRecDepth 20000 in
theorem gX7_areBounds_X7_isIn : GoodIn wsX7_areBounds (va_wsS RX7 101 yX7_isIn wsX7_isIn) := goodIn_app (goodIn_of _ (by decide +kernel)) ggX7_areBounds_X7_isIn
theorem dX7_areBounds_0 : decode cX7_areBounds 0 = .ok (.iload_n 1, 1) := by decide +kernel
theorem dX7_areBounds_1 : decode cX7_areBounds 1 = .ok (.bipush (-20), 2) := by decide +kernel
theorem dX7_areBounds_3 : decode cX7_areBounds 3 = .ok (.bipush 20, 2) := by decide +kernel
theorem dX7_areBounds_5 : decode cX7_areBounds 5 = .ok (.invokestatic 101, 3) := by decide +kernel
theorem dX7_areBounds_8 : decode cX7_areBounds 8 = .ok (.ifCond .ne 5, 3) := by decide +kernel
theorem dX7_areBounds_11 : decode cX7_areBounds 11 = .ok (.iconst 0, 1) := by decide +kernel
theorem dX7_areBounds_12 : decode cX7_areBounds 12 = .ok (.ireturn, 1) := by decide +kernel
theorem dX7_areBounds_13 : decode cX7_areBounds 13 = .ok (.iload_n 2, 1) := by decide +kernel
theorem dX7_areBounds_14 : decode cX7_areBounds 14 = .ok (.ldc 108, 2) := by decide +kernel
theorem dX7_areBounds_16 : decode cX7_areBounds 16 = .ok (.if_icmp .ne 13, 3) := by decide +kernel
theorem dX7_areBounds_19 : decode cX7_areBounds 19 = .ok (.iload_n 0, 1) := by decide +kernel
theorem dX7_areBounds_20 : decode cX7_areBounds 20 = .ok (.ifCond .ne 7, 3) := by decide +kernel
theorem dX7_areBounds_23 : decode cX7_areBounds 23 = .ok (.iconst 1, 1) := by decide +kernel
theorem dX7_areBounds_24 : decode cX7_areBounds 24 = .ok (.goto 4, 3) := by decide +kernel
theorem dX7_areBounds_27 : decode cX7_areBounds 27 = .ok (.iconst 0, 1) := by decide +kernel
theorem dX7_areBounds_28 : decode cX7_areBounds 28 = .ok (.ireturn, 1) := by decide +kernel
theorem dX7_areBounds_29 : decode cX7_areBounds 29 = .ok (.iload_n 2, 1) := by decide +kernel
theorem dX7_areBounds_30 : decode cX7_areBounds 30 = .ok (.iload_n 1, 1) := by decide +kernel
theorem dX7_areBounds_31 : decode cX7_areBounds 31 = .ok (.bipush 20, 2) := by decide +kernel
theorem dX7_areBounds_33 : decode cX7_areBounds 33 = .ok (.invokestatic 101, 3) := by decide +kernel
theorem dX7_areBounds_36 : decode cX7_areBounds 36 = .ok (.ifCond .eq 19, 3) := by decide +kernel
theorem dX7_areBounds_39 : decode cX7_areBounds 39 = .ok (.iload_n 0, 1) := by decide +kernel
theorem dX7_areBounds_40 : decode cX7_areBounds 40 = .ok (.ifCond .eq 11, 3) := by decide +kernel
theorem dX7_areBounds_43 : decode cX7_areBounds 43 = .ok (.iload_n 2, 1) := by decide +kernel
theorem dX7_areBounds_44 : decode cX7_areBounds 44 = .ok (.iload_n 1, 1) := by decide +kernel
theorem dX7_areBounds_45 : decode cX7_areBounds 45 = .ok (.bipush 9, 2) := by decide +kernel
theorem dX7_areBounds_47 : decode cX7_areBounds 47 = .ok (.iadd, 1) := by decide +kernel
theorem dX7_areBounds_48 : decode cX7_areBounds 48 = .ok (.if_icmp .gt 7, 3) := by decide +kernel
theorem dX7_areBounds_51 : decode cX7_areBounds 51 = .ok (.iconst 1, 1) := by decide +kernel
theorem dX7_areBounds_52 : decode cX7_areBounds 52 = .ok (.goto 4, 3) := by decide +kernel
theorem dX7_areBounds_55 : decode cX7_areBounds 55 = .ok (.iconst 0, 1) := by decide +kernel
theorem dX7_areBounds_56 : decode cX7_areBounds 56 = .ok (.ireturn, 1) := by decide +kernel
set_option maxRecDepth 20000 in
theorem ggX7_column_X7_isIn : GoodIn wsX7_column wsX7_isIn := goodIn_r _ [14] (by decide +kernel) (by decide +kernel)
set_option maxRecDepth 20000 in
theorem gX7_column_X7_isIn : GoodIn wsX7_column (va_wsS RX7 101 yX7_isIn wsX7_isIn) := goodIn_app (goodIn_of _ (by decide +kernel)) ggX7_column_X7_isIn
set_option maxRecDepth 20000 in
theorem ggX7_column_X7_areBounds : GoodIn wsX7_column wsX7_areBounds := goodIn_r _ [17, 9, 11, 12, 13, 14] (by decide +kernel) (by decide +kernel)
set_option maxRecDepth 20000 in
theorem gX7_column_X7_areBounds : GoodIn wsX7_column (va_wsS RX7 109 yX7_areBounds wsX7_areBounds) := goodIn_app (goodIn_of _ (by decide +kernel)) ggX7_column_X7_areBounds
theorem dX7_column_0 : decode cX7_column 0 = .ok (.iload_n 1, 1) := by decide +kernel
theorem dX7_column_1 : decode cX7_column 1 = .ok (.iconst 0, 1) := by decide +kernel
theorem dX7_column_2 : decode cX7_column 2 = .ok (.iconst 2, 1) := by decide +kernel
theorem dX7_column_3 : decode cX7_column 3 = .ok (.invokestatic 101, 3) := by decide +kernel
theorem dX7_column_6 : decode cX7_column 6 = .ok (.ifCond .eq 17, 3) := by decide +kernel
theorem dX7_column_9 : decode cX7_column 9 = .ok (.iload_n 1, 1) := by decide +kernel
theorem dX7_column_10 : decode cX7_column 10 = .ok (.iconst 2, 1) := by decide +kernel
theorem dX7_column_11 : decode cX7_column 11 = .ok (.if_icmp .ge 15, 3) := by decide +kernel
theorem dX7_column_14 : decode cX7_column 14 = .ok (.iload_n 1, 1) := by decide +kernel
theorem dX7_column_15 : decode cX7_column 15 = .ok (.iload_n 2, 1) := by decide +kernel
theorem dX7_column_16 : decode cX7_column 16 = .ok (.iload_n 3, 1) := by decide +kernel
theorem dX7_column_17 : decode cX7_column 17 = .ok (.invokestatic 109, 3) := by decide +kernel
theorem dX7_column_20 : decode cX7_column 20 = .ok (.ifCond .ne 6, 3) := by decide +kernel
theorem dX7_column_23 : decode cX7_column 23 = .ok (.ldc 112, 2) := by decide +kernel
theorem dX7_column_25 : decode cX7_column 25 = .ok (.ireturn, 1) := by decide +kernel
theorem dX7_column_26 : decode cX7_column 26 = .ok (.aload_n 0, 1) := by decide +kernel
theorem dX7_column_27 : decode cX7_column 27 = .ok (.getfield 98, 3) := by decide +kernel
theorem dX7_column_30 : decode cX7_column 30 = .ok (.iconst 5, 1) := by decide +kernel
theorem dX7_column_31 : decode cX7_column 31 = .ok (.if_icmp .ne 6, 3) := by decide +kernel
theorem dX7_column_34 : decode cX7_column 34 = .ok (.ldc 113, 2) := by decide +kernel
theorem dX7_column_36 : decode cX7_column 36 = .ok (.ireturn, 1) := by decide +kernel
theorem dX7_column_37 : decode cX7_column 37 = .ok (.aload_n 0, 1) := by decide +kernel
theorem dX7_column_38 : decode cX7_column 38 = .ok (.getfield 98, 3) := by decide +kernel
theorem dX7_column_41 : decode cX7_column 41 = .ok (.istore 4, 2) := by decide +kernel
theorem dX7_column_43 : decode cX7_column 43 = .ok (.aload_n 0, 1) := by decide +kernel
theorem dX7_column_44 : decode cX7_column 44 = .ok (.dup, 1) := by decide +kernel
theorem dX7_column_45 : decode cX7_column 45 = .ok (.getfield 98, 3) := by decide +kernel
theorem dX7_column_48 : decode cX7_column 48 = .ok (.iconst 1, 1) := by decide +kernel
theorem dX7_column_49 : decode cX7_column 49 = .ok (.iadd, 1) := by decide +kernel
theorem dX7_column_50 : decode cX7_column 50 = .ok (.putfield 98, 3) := by decide +kernel
theorem dX7_column_53 : decode cX7_column 53 = .ok (.aload_n 0, 1) := by decide +kernel
theorem dX7_column_54 : decode cX7_column 54 = .ok (.getfield 7, 3) := by decide +kernel
theorem dX7_column_57 : decode cX7_column 57 = .ok (.iload 4, 2) := by decide +kernel
theorem dX7_column_59 : decode cX7_column 59 = .ok (.iload_n 1, 1) := by decide +kernel
theorem dX7_column_60 : decode cX7_column 60 = .ok (.iastore, 1) := by decide +kernel
theorem dX7_column_61 : decode cX7_column 61 = .ok (.aload_n 0, 1) := by decide +kernel
theorem dX7_column_62 : decode cX7_column 62 = .ok (.getfield 13, 3) := by decide +kernel
theorem dX7_column_65 : decode cX7_column 65 = .ok (.iload 4, 2) := by decide +kernel
theorem dX7_column_67 : decode cX7_column 67 = .ok (.iload_n 1, 1) := by decide +kernel
theorem dX7_column_68 : decode cX7_column 68 = .ok (.iconst 2, 1) := by decide +kernel
theorem dX7_column_69 : decode cX7_column 69 = .ok (.if_icmp .ne 7, 3) := by decide +kernel
theorem dX7_column_72 : decode cX7_column 72 = .ok (.iconst 0, 1) := by decide +kernel
theorem dX7_column_73 : decode cX7_column 73 = .ok (.goto 4, 3) := by decide +kernel
theorem dX7_column_76 : decode cX7_column 76 = .ok (.iload_n 2, 1) := by decide +kernel
theorem dX7_column_77 : decode cX7_column 77 = .ok (.iastore, 1) := by decide +kernel
theorem dX7_column_78 : decode cX7_column 78 = .ok (.aload_n 0, 1) := by decide +kernel
theorem dX7_column_79 : decode cX7_column 79 = .ok (.getfield 16, 3) := by decide +kernel
theorem dX7_column_82 : decode cX7_column 82 = .ok (.iload 4, 2) := by decide +kernel
theorem dX7_column_84 : decode cX7_column 84 = .ok (.iload_n 1, 1) := by decide +kernel
theorem dX7_column_85 : decode cX7_column 85 = .ok (.iconst 2, 1) := by decide +kernel
theorem dX7_column_86 : decode cX7_column 86 = .ok (.if_icmp .ne 7, 3) := by decide +kernel
theorem dX7_column_89 : decode cX7_column 89 = .ok (.iconst 1, 1) := by decide +kernel
theorem dX7_column_90 : decode cX7_column 90 = .ok (.goto 4, 3) := by decide +kernel
theorem dX7_column_93 : decode cX7_column 93 = .ok (.iload_n 3, 1) := by decide +kernel
theorem dX7_column_94 : decode cX7_column 94 = .ok (.iastore, 1) := by decide +kernel
theorem dX7_column_95 : decode cX7_column 95 = .ok (.aload_n 0, 1) := by decide +kernel
theorem dX7_column_96 : decode cX7_column 96 = .ok (.getfield 19, 3) := by decide +kernel
theorem dX7_column_99 : decode cX7_column 99 = .ok (.iload 4, 2) := by decide +kernel
theorem dX7_column_101 : decode cX7_column 101 = .ok (.iconst 0, 1) := by decide +kernel
theorem dX7_column_102 : decode cX7_column 102 = .ok (.iastore, 1) := by decide +kernel
theorem dX7_column_103 : decode cX7_column 103 = .ok (.aload_n 0, 1) := by decide +kernel
theorem dX7_column_104 : decode cX7_column 104 = .ok (.getfield 22, 3) := by decide +kernel
theorem dX7_column_107 : decode cX7_column 107 = .ok (.iload 4, 2) := by decide +kernel
theorem dX7_column_109 : decode cX7_column 109 = .ok (.ldc 108, 2) := by decide +kernel
theorem dX7_column_111 : decode cX7_column 111 = .ok (.iastore, 1) := by decide +kernel
theorem dX7_column_112 : decode cX7_column 112 = .ok (.iconst 0, 1) := by decide +kernel
theorem dX7_column_113 : decode cX7_column 113 = .ok (.istore 5, 2) := by decide +kernel
theorem dX7_column_115 : decode cX7_column 115 = .ok (.iload 5, 2) := by decide +kernel
theorem dX7_column_117 : decode cX7_column 117 = .ok (.bipush 7, 2) := by decide +kernel
theorem dX7_column_119 : decode cX7_column 119 = .ok (.if_icmp .ge 22, 3) := by decide +kernel
theorem dX7_column_122 : decode cX7_column 122 = .ok (.aload_n 0, 1) := by decide +kernel
theorem dX7_column_123 : decode cX7_column 123 = .ok (.getfield 35, 3) := by decide +kernel
theorem dX7_column_126 : decode cX7_column 126 = .ok (.iconst 5, 1) := by decide +kernel
theorem dX7_column_127 : decode cX7_column 127 = .ok (.iload 5, 2) := by decide +kernel
theorem dX7_column_129 : decode cX7_column 129 = .ok (.imul, 1) := by decide +kernel
theorem dX7_column_130 : decode cX7_column 130 = .ok (.iload 4, 2) := by decide +kernel
theorem dX7_column_132 : decode cX7_column 132 = .ok (.iadd, 1) := by decide +kernel
theorem dX7_column_133 : decode cX7_column 133 = .ok (.iconst 0, 1) := by decide +kernel
theorem dX7_column_134 : decode cX7_column 134 = .ok (.iastore, 1) := by decide +kernel
theorem dX7_column_135 : decode cX7_column 135 = .ok (.iinc 5 1, 3) := by decide +kernel
theorem dX7_column_138 : decode cX7_column 138 = .ok (.goto (-23), 3) := by decide +kernel
theorem dX7_column_141 : decode cX7_column 141 = .ok (.iload 4, 2) := by decide +kernel
theorem dX7_column_143 : decode cX7_column 143 = .ok (.ireturn, 1) := by decide +kernel
set_option maxRecDepth 20000 in
theorem ggX7_bound_X7_isColumn : GoodIn wsX7_bound wsX7_isColumn := goodIn_r _ [10, 11, 12, 13, 9, 14, 19, 20, 21, 22, 23, 24, 25, 26, 27, 28, 29, 30, 31, 32, 33, 34, 35, 36, 37, 38, 39, 40, 41, 42, 43, 44, 45, 46, 47, 48, 49, 50, 51, 52, 53, 54, 55, 56] (by decide +kernel) (by decide +kernel)
set_option maxRecDepth 20000 in
theorem gX7_bound_X7_isColumn : GoodIn wsX7_bound (wsV RX7 114 RX7 yX7_isColumn wsX7_isColumn) := goodIn_app (goodIn_of _ (by decide +kernel)) ggX7_bound_X7_isColumn
set_option maxRecDepth 20000 in
theorem ggX7_bound_X7_areBounds : GoodIn wsX7_bound wsX7_areBounds := goodIn_r _ [17, 18, 12, 13, 9, 14] (by decide +kernel) (by decide +kernel)
set_option maxRecDepth 20000 in
theorem gX7_bound_X7_areBounds : GoodIn wsX7_bound (va_wsS RX7 109 yX7_areBounds wsX7_areBounds) := goodIn_app (goodIn_of _ (by decide +kernel)) ggX7_bound_X7_areBounds
theorem dX7_bound_0 : decode cX7_bound 0 = .ok (.aload_n 0, 1) := by decide +kernel
theorem dX7_bound_1 : decode cX7_bound 1 = .ok (.iload_n 1, 1) := by decide +kernel
theorem dX7_bound_2 : decode cX7_bound 2 = .ok (.invokevirtual 114, 3) := by decide +kernel
theorem dX7_bound_5 : decode cX7_bound 5 = .ok (.ifCond .ne 6, 3) := by decide +kernel
theorem dX7_bound_8 : decode cX7_bound 8 = .ok (.ldc 112, 2) := by decide +kernel
theorem dX7_bound_10 : decode cX7_bound 10 = .ok (.ireturn, 1) := by decide +kernel
theorem dX7_bound_11 : decode cX7_bound 11 = .ok (.aload_n 0, 1) := by decide +kernel
theorem dX7_bound_12 : decode cX7_bound 12 = .ok (.getfield 7, 3) := by decide +kernel
theorem dX7_bound_15 : decode cX7_bound 15 = .ok (.iload_n 1, 1) := by decide +kernel
theorem dX7_bound_16 : decode cX7_bound 16 = .ok (.iaload, 1) := by decide +kernel
theorem dX7_bound_17 : decode cX7_bound 17 = .ok (.iconst 2, 1) := by decide +kernel
theorem dX7_bound_18 : decode cX7_bound 18 = .ok (.if_icmp .ne 6, 3) := by decide +kernel
theorem dX7_bound_21 : decode cX7_bound 21 = .ok (.ldc 118, 2) := by decide +kernel
theorem dX7_bound_23 : decode cX7_bound 23 = .ok (.ireturn, 1) := by decide +kernel
theorem dX7_bound_24 : decode cX7_bound 24 = .ok (.aload_n 0, 1) := by decide +kernel
theorem dX7_bound_25 : decode cX7_bound 25 = .ok (.getfield 7, 3) := by decide +kernel
theorem dX7_bound_28 : decode cX7_bound 28 = .ok (.iload_n 1, 1) := by decide +kernel
theorem dX7_bound_29 : decode cX7_bound 29 = .ok (.iaload, 1) := by decide +kernel
theorem dX7_bound_30 : decode cX7_bound 30 = .ok (.iload_n 2, 1) := by decide +kernel
theorem dX7_bound_31 : decode cX7_bound 31 = .ok (.iload_n 3, 1) := by decide +kernel
theorem dX7_bound_32 : decode cX7_bound 32 = .ok (.invokestatic 109, 3) := by decide +kernel
theorem dX7_bound_35 : decode cX7_bound 35 = .ok (.ifCond .ne 6, 3) := by decide +kernel
theorem dX7_bound_38 : decode cX7_bound 38 = .ok (.ldc 112, 2) := by decide +kernel
theorem dX7_bound_40 : decode cX7_bound 40 = .ok (.ireturn, 1) := by decide +kernel
theorem dX7_bound_41 : decode cX7_bound 41 = .ok (.aload_n 0, 1) := by decide +kernel
theorem dX7_bound_42 : decode cX7_bound 42 = .ok (.getfield 13, 3) := by decide +kernel
theorem dX7_bound_45 : decode cX7_bound 45 = .ok (.iload_n 1, 1) := by decide +kernel
theorem dX7_bound_46 : decode cX7_bound 46 = .ok (.iload_n 2, 1) := by decide +kernel
theorem dX7_bound_47 : decode cX7_bound 47 = .ok (.iastore, 1) := by decide +kernel
theorem dX7_bound_48 : decode cX7_bound 48 = .ok (.aload_n 0, 1) := by decide +kernel
theorem dX7_bound_49 : decode cX7_bound 49 = .ok (.getfield 16, 3) := by decide +kernel
theorem dX7_bound_52 : decode cX7_bound 52 = .ok (.iload_n 1, 1) := by decide +kernel
theorem dX7_bound_53 : decode cX7_bound 53 = .ok (.iload_n 3, 1) := by decide +kernel
theorem dX7_bound_54 : decode cX7_bound 54 = .ok (.iastore, 1) := by decide +kernel
theorem dX7_bound_55 : decode cX7_bound 55 = .ok (.iconst 0, 1) := by decide +kernel
theorem dX7_bound_56 : decode cX7_bound 56 = .ok (.ireturn, 1) := by decide +kernel
set_option maxRecDepth 20000 in
theorem ggX7_partner_X7_isColumn : GoodIn wsX7_partner wsX7_isColumn := goodIn_r _ [10, 11, 12, 13, 9, 14, 15, 16, 17, 18, 19, 20, 21, 22, 23, 24, 25, 26, 27, 28, 29, 30, 31, 32, 33, 34, 35, 36, 37, 38, 39, 40, 41, 42, 43, 44, 45, 46, 47, 48, 49, 50, 51, 52] (by decide +kernel) (by decide +kernel)
set_option maxRecDepth 20000 in
theorem gX7_partner_X7_isColumn : GoodIn wsX7_partner (wsV RX7 114 RX7 yX7_isColumn wsX7_isColumn) := goodIn_app (goodIn_of _ (by decide +kernel)) ggX7_partner_X7_isColumn
theorem dX7_partner_0 : decode cX7_partner 0 = .ok (.aload_n 0, 1) := by decide +kernel
theorem dX7_partner_1 : decode cX7_partner 1 = .ok (.iload_n 1, 1) := by decide +kernel
theorem dX7_partner_2 : decode cX7_partner 2 = .ok (.invokevirtual 114, 3) := by decide +kernel
theorem dX7_partner_5 : decode cX7_partner 5 = .ok (.ifCond .eq 22, 3) := by decide +kernel
theorem dX7_partner_8 : decode cX7_partner 8 = .ok (.iload_n 2, 1) := by decide +kernel
theorem dX7_partner_9 : decode cX7_partner 9 = .ok (.ldc 108, 2) := by decide +kernel
theorem dX7_partner_11 : decode cX7_partner 11 = .ok (.if_icmp .eq 11, 3) := by decide +kernel
theorem dX7_partner_14 : decode cX7_partner 14 = .ok (.aload_n 0, 1) := by decide +kernel
theorem dX7_partner_15 : decode cX7_partner 15 = .ok (.iload_n 2, 1) := by decide +kernel
theorem dX7_partner_16 : decode cX7_partner 16 = .ok (.invokevirtual 114, 3) := by decide +kernel
theorem dX7_partner_19 : decode cX7_partner 19 = .ok (.ifCond .eq 8, 3) := by decide +kernel
theorem dX7_partner_22 : decode cX7_partner 22 = .ok (.iload_n 2, 1) := by decide +kernel
theorem dX7_partner_23 : decode cX7_partner 23 = .ok (.iload_n 1, 1) := by decide +kernel
theorem dX7_partner_24 : decode cX7_partner 24 = .ok (.if_icmp .ne 6, 3) := by decide +kernel
theorem dX7_partner_27 : decode cX7_partner 27 = .ok (.ldc 112, 2) := by decide +kernel
theorem dX7_partner_29 : decode cX7_partner 29 = .ok (.ireturn, 1) := by decide +kernel
theorem dX7_partner_30 : decode cX7_partner 30 = .ok (.aload_n 0, 1) := by decide +kernel
theorem dX7_partner_31 : decode cX7_partner 31 = .ok (.getfield 7, 3) := by decide +kernel
theorem dX7_partner_34 : decode cX7_partner 34 = .ok (.iload_n 1, 1) := by decide +kernel
theorem dX7_partner_35 : decode cX7_partner 35 = .ok (.iaload, 1) := by decide +kernel
theorem dX7_partner_36 : decode cX7_partner 36 = .ok (.iconst 2, 1) := by decide +kernel
theorem dX7_partner_37 : decode cX7_partner 37 = .ok (.if_icmp .eq 6, 3) := by decide +kernel
theorem dX7_partner_40 : decode cX7_partner 40 = .ok (.ldc 118, 2) := by decide +kernel
theorem dX7_partner_42 : decode cX7_partner 42 = .ok (.ireturn, 1) := by decide +kernel
theorem dX7_partner_43 : decode cX7_partner 43 = .ok (.aload_n 0, 1) := by decide +kernel
theorem dX7_partner_44 : decode cX7_partner 44 = .ok (.getfield 22, 3) := by decide +kernel
theorem dX7_partner_47 : decode cX7_partner 47 = .ok (.iload_n 1, 1) := by decide +kernel
theorem dX7_partner_48 : decode cX7_partner 48 = .ok (.iaload, 1) := by decide +kernel
theorem dX7_partner_49 : decode cX7_partner 49 = .ok (.istore_n 3, 1) := by decide +kernel
theorem dX7_partner_50 : decode cX7_partner 50 = .ok (.aload_n 0, 1) := by decide +kernel
theorem dX7_partner_51 : decode cX7_partner 51 = .ok (.getfield 22, 3) := by decide +kernel
theorem dX7_partner_54 : decode cX7_partner 54 = .ok (.iload_n 1, 1) := by decide +kernel
theorem dX7_partner_55 : decode cX7_partner 55 = .ok (.iload_n 2, 1) := by decide +kernel
theorem dX7_partner_56 : decode cX7_partner 56 = .ok (.iastore, 1) := by decide +kernel
theorem dX7_partner_57 : decode cX7_partner 57 = .ok (.iload_n 3, 1) := by decide +kernel
theorem dX7_partner_58 : decode cX7_partner 58 = .ok (.ireturn, 1) := by decide +kernel
set_option maxRecDepth 20000 in
theorem ggX7_cost_X7_isColumn : GoodIn wsX7_cost wsX7_isColumn := goodIn_r _ [7, 8, 9, 10, 6, 11, 12, 13, 14, 15, 16, 17, 18, 19, 20, 21, 22, 23, 24, 25, 26, 27, 28, 29, 30, 31, 32, 33, 34, 35, 36, 37, 38, 39, 40, 41, 42, 43, 44, 45, 46, 47, 48, 49] (by decide +kernel) (by decide +kernel)
set_option maxRecDepth 20000 in
theorem gX7_cost_X7_isColumn : GoodIn wsX7_cost (wsV RX7 114 RX7 yX7_isColumn wsX7_isColumn) := goodIn_app (goodIn_of _ (by decide +kernel)) ggX7_cost_X7_isColumn
set_option maxRecDepth 20000 in
theorem ggX7_cost_X7_isIn : GoodIn wsX7_cost wsX7_isIn := goodIn_r _ [11] (by decide +kernel) (by decide +kernel)
set_option maxRecDepth 20000 in
theorem gX7_cost_X7_isIn : GoodIn wsX7_cost (va_wsS RX7 101 yX7_isIn wsX7_isIn) := goodIn_app (goodIn_of _ (by decide +kernel)) ggX7_cost_X7_isIn
theorem dX7_cost_0 : decode cX7_cost 0 = .ok (.aload_n 0, 1) := by decide +kernel
theorem dX7_cost_1 : decode cX7_cost 1 = .ok (.iload_n 1, 1) := by decide +kernel
theorem dX7_cost_2 : decode cX7_cost 2 = .ok (.invokevirtual 114, 3) := by decide +kernel
theorem dX7_cost_5 : decode cX7_cost 5 = .ok (.ifCond .eq 14, 3) := by decide +kernel
theorem dX7_cost_8 : decode cX7_cost 8 = .ok (.iload_n 2, 1) := by decide +kernel
theorem dX7_cost_9 : decode cX7_cost 9 = .ok (.bipush (-9), 2) := by decide +kernel
theorem dX7_cost_11 : decode cX7_cost 11 = .ok (.bipush 9, 2) := by decide +kernel
theorem dX7_cost_13 : decode cX7_cost 13 = .ok (.invokestatic 101, 3) := by decide +kernel
theorem dX7_cost_16 : decode cX7_cost 16 = .ok (.ifCond .ne 6, 3) := by decide +kernel
theorem dX7_cost_19 : decode cX7_cost 19 = .ok (.ldc 112, 2) := by decide +kernel
theorem dX7_cost_21 : decode cX7_cost 21 = .ok (.ireturn, 1) := by decide +kernel
theorem dX7_cost_22 : decode cX7_cost 22 = .ok (.aload_n 0, 1) := by decide +kernel
theorem dX7_cost_23 : decode cX7_cost 23 = .ok (.getfield 19, 3) := by decide +kernel
theorem dX7_cost_26 : decode cX7_cost 26 = .ok (.iload_n 1, 1) := by decide +kernel
theorem dX7_cost_27 : decode cX7_cost 27 = .ok (.iaload, 1) := by decide +kernel
theorem dX7_cost_28 : decode cX7_cost 28 = .ok (.istore_n 3, 1) := by decide +kernel
theorem dX7_cost_29 : decode cX7_cost 29 = .ok (.aload_n 0, 1) := by decide +kernel
theorem dX7_cost_30 : decode cX7_cost 30 = .ok (.getfield 19, 3) := by decide +kernel
theorem dX7_cost_33 : decode cX7_cost 33 = .ok (.iload_n 1, 1) := by decide +kernel
theorem dX7_cost_34 : decode cX7_cost 34 = .ok (.iload_n 2, 1) := by decide +kernel
theorem dX7_cost_35 : decode cX7_cost 35 = .ok (.iastore, 1) := by decide +kernel
theorem dX7_cost_36 : decode cX7_cost 36 = .ok (.iload_n 3, 1) := by decide +kernel
theorem dX7_cost_37 : decode cX7_cost 37 = .ok (.ireturn, 1) := by decide +kernel
set_option maxRecDepth 20000 in
theorem ggX7_row_X7_isIn : GoodIn wsX7_row wsX7_isIn := goodIn_r _ [11] (by decide +kernel) (by decide +kernel)
set_option maxRecDepth 20000 in
theorem gX7_row_X7_isIn : GoodIn wsX7_row (va_wsS RX7 101 yX7_isIn wsX7_isIn) := goodIn_app (goodIn_of _ (by decide +kernel)) ggX7_row_X7_isIn
theorem dX7_row_0 : decode cX7_row 0 = .ok (.iload_n 1, 1) := by decide +kernel
theorem dX7_row_1 : decode cX7_row 1 = .ok (.iconst 0, 1) := by decide +kernel
theorem dX7_row_2 : decode cX7_row 2 = .ok (.iconst 2, 1) := by decide +kernel
theorem dX7_row_3 : decode cX7_row 3 = .ok (.invokestatic 101, 3) := by decide +kernel
theorem dX7_row_6 : decode cX7_row 6 = .ok (.ifCond .eq 14, 3) := by decide +kernel
theorem dX7_row_9 : decode cX7_row 9 = .ok (.iload_n 2, 1) := by decide +kernel
theorem dX7_row_10 : decode cX7_row 10 = .ok (.bipush (-99), 2) := by decide +kernel
theorem dX7_row_12 : decode cX7_row 12 = .ok (.bipush 99, 2) := by decide +kernel
theorem dX7_row_14 : decode cX7_row 14 = .ok (.invokestatic 101, 3) := by decide +kernel
theorem dX7_row_17 : decode cX7_row 17 = .ok (.ifCond .ne 6, 3) := by decide +kernel
theorem dX7_row_20 : decode cX7_row 20 = .ok (.ldc 112, 2) := by decide +kernel
theorem dX7_row_22 : decode cX7_row 22 = .ok (.ireturn, 1) := by decide +kernel
theorem dX7_row_23 : decode cX7_row 23 = .ok (.aload_n 0, 1) := by decide +kernel
theorem dX7_row_24 : decode cX7_row 24 = .ok (.getfield 105, 3) := by decide +kernel
theorem dX7_row_27 : decode cX7_row 27 = .ok (.bipush 7, 2) := by decide +kernel
theorem dX7_row_29 : decode cX7_row 29 = .ok (.if_icmp .ne 6, 3) := by decide +kernel
theorem dX7_row_32 : decode cX7_row 32 = .ok (.ldc 113, 2) := by decide +kernel
theorem dX7_row_34 : decode cX7_row 34 = .ok (.ireturn, 1) := by decide +kernel
theorem dX7_row_35 : decode cX7_row 35 = .ok (.aload_n 0, 1) := by decide +kernel
theorem dX7_row_36 : decode cX7_row 36 = .ok (.getfield 25, 3) := by decide +kernel
theorem dX7_row_39 : decode cX7_row 39 = .ok (.aload_n 0, 1) := by decide +kernel
theorem dX7_row_40 : decode cX7_row 40 = .ok (.getfield 105, 3) := by decide +kernel
theorem dX7_row_43 : decode cX7_row 43 = .ok (.iload_n 1, 1) := by decide +kernel
theorem dX7_row_44 : decode cX7_row 44 = .ok (.iastore, 1) := by decide +kernel
theorem dX7_row_45 : decode cX7_row 45 = .ok (.aload_n 0, 1) := by decide +kernel
theorem dX7_row_46 : decode cX7_row 46 = .ok (.getfield 28, 3) := by decide +kernel
theorem dX7_row_49 : decode cX7_row 49 = .ok (.aload_n 0, 1) := by decide +kernel
theorem dX7_row_50 : decode cX7_row 50 = .ok (.getfield 105, 3) := by decide +kernel
theorem dX7_row_53 : decode cX7_row 53 = .ok (.iload_n 2, 1) := by decide +kernel
theorem dX7_row_54 : decode cX7_row 54 = .ok (.iastore, 1) := by decide +kernel
theorem dX7_row_55 : decode cX7_row 55 = .ok (.aload_n 0, 1) := by decide +kernel
theorem dX7_row_56 : decode cX7_row 56 = .ok (.getfield 31, 3) := by decide +kernel
theorem dX7_row_59 : decode cX7_row 59 = .ok (.aload_n 0, 1) := by decide +kernel
theorem dX7_row_60 : decode cX7_row 60 = .ok (.getfield 105, 3) := by decide +kernel
theorem dX7_row_63 : decode cX7_row 63 = .ok (.iconst 1, 1) := by decide +kernel
theorem dX7_row_64 : decode cX7_row 64 = .ok (.bastore, 1) := by decide +kernel
theorem dX7_row_65 : decode cX7_row 65 = .ok (.iconst 0, 1) := by decide +kernel
theorem dX7_row_66 : decode cX7_row 66 = .ok (.istore_n 3, 1) := by decide +kernel
theorem dX7_row_67 : decode cX7_row 67 = .ok (.iload_n 3, 1) := by decide +kernel
theorem dX7_row_68 : decode cX7_row 68 = .ok (.iconst 5, 1) := by decide +kernel
theorem dX7_row_69 : decode cX7_row 69 = .ok (.if_icmp .ge 23, 3) := by decide +kernel
theorem dX7_row_72 : decode cX7_row 72 = .ok (.aload_n 0, 1) := by decide +kernel
theorem dX7_row_73 : decode cX7_row 73 = .ok (.getfield 35, 3) := by decide +kernel
theorem dX7_row_76 : decode cX7_row 76 = .ok (.iconst 5, 1) := by decide +kernel
theorem dX7_row_77 : decode cX7_row 77 = .ok (.aload_n 0, 1) := by decide +kernel
theorem dX7_row_78 : decode cX7_row 78 = .ok (.getfield 105, 3) := by decide +kernel
theorem dX7_row_81 : decode cX7_row 81 = .ok (.imul, 1) := by decide +kernel
theorem dX7_row_82 : decode cX7_row 82 = .ok (.iload_n 3, 1) := by decide +kernel
theorem dX7_row_83 : decode cX7_row 83 = .ok (.iadd, 1) := by decide +kernel
theorem dX7_row_84 : decode cX7_row 84 = .ok (.iconst 0, 1) := by decide +kernel
theorem dX7_row_85 : decode cX7_row 85 = .ok (.iastore, 1) := by decide +kernel
theorem dX7_row_86 : decode cX7_row 86 = .ok (.iinc 3 1, 3) := by decide +kernel
theorem dX7_row_89 : decode cX7_row 89 = .ok (.goto (-22), 3) := by decide +kernel
theorem dX7_row_92 : decode cX7_row 92 = .ok (.aload_n 0, 1) := by decide +kernel
theorem dX7_row_93 : decode cX7_row 93 = .ok (.dup, 1) := by decide +kernel
theorem dX7_row_94 : decode cX7_row 94 = .ok (.getfield 105, 3) := by decide +kernel
theorem dX7_row_97 : decode cX7_row 97 = .ok (.iconst 1, 1) := by decide +kernel
theorem dX7_row_98 : decode cX7_row 98 = .ok (.iadd, 1) := by decide +kernel
theorem dX7_row_99 : decode cX7_row 99 = .ok (.putfield 105, 3) := by decide +kernel
theorem dX7_row_102 : decode cX7_row 102 = .ok (.aload_n 0, 1) := by decide +kernel
theorem dX7_row_103 : decode cX7_row 103 = .ok (.getfield 105, 3) := by decide +kernel
theorem dX7_row_106 : decode cX7_row 106 = .ok (.iconst 1, 1) := by decide +kernel
theorem dX7_row_107 : decode cX7_row 107 = .ok (.isub, 1) := by decide +kernel
theorem dX7_row_108 : decode cX7_row 108 = .ok (.ireturn, 1) := by decide +kernel
set_option maxRecDepth 20000 in
theorem ggX7_share_X7_isRow : GoodIn wsX7_share wsX7_isRow := goodIn_r _ [7, 8, 9, 10, 6, 11, 17, 18, 19, 20, 21, 22, 23, 24, 25, 26, 27, 28, 29, 30, 31, 32, 33, 34, 35, 36, 37, 38, 39, 40, 41, 42, 43, 44, 45, 46, 47, 48, 49, 50, 51, 52, 53, 54] (by decide +kernel) (by decide +kernel)
set_option maxRecDepth 20000 in
theorem gX7_share_X7_isRow : GoodIn wsX7_share (wsV RX7 119 RX7 yX7_isRow wsX7_isRow) := goodIn_app (goodIn_of _ (by decide +kernel)) ggX7_share_X7_isRow
set_option maxRecDepth 20000 in
theorem ggX7_share_X7_isColumn : GoodIn wsX7_share wsX7_isColumn := goodIn_r _ [15, 16, 9, 10, 6, 11, 17, 18, 19, 20, 21, 22, 23, 24, 25, 26, 27, 28, 29, 30, 31, 32, 33, 34, 35, 36, 37, 38, 39, 40, 41, 42, 43, 44, 45, 46, 47, 48, 49, 50, 51, 52, 53, 54] (by decide +kernel) (by decide +kernel)
set_option maxRecDepth 20000 in
theorem gX7_share_X7_isColumn : GoodIn wsX7_share (wsV RX7 114 RX7 yX7_isColumn wsX7_isColumn) := goodIn_app (goodIn_of _ (by decide +kernel)) ggX7_share_X7_isColumn
set_option maxRecDepth 20000 in
theorem ggX7_share_X7_isIn : GoodIn wsX7_share wsX7_isIn := goodIn_r _ [11] (by decide +kernel) (by decide +kernel)
set_option maxRecDepth 20000 in
theorem gX7_share_X7_isIn : GoodIn wsX7_share (va_wsS RX7 101 yX7_isIn wsX7_isIn) := goodIn_app (goodIn_of _ (by decide +kernel)) ggX7_share_X7_isIn
theorem dX7_share_0 : decode cX7_share 0 = .ok (.aload_n 0, 1) := by decide +kernel
theorem dX7_share_1 : decode cX7_share 1 = .ok (.iload_n 1, 1) := by decide +kernel
theorem dX7_share_2 : decode cX7_share 2 = .ok (.invokevirtual 119, 3) := by decide +kernel
theorem dX7_share_5 : decode cX7_share 5 = .ok (.ifCond .eq 22, 3) := by decide +kernel
theorem dX7_share_8 : decode cX7_share 8 = .ok (.aload_n 0, 1) := by decide +kernel
theorem dX7_share_9 : decode cX7_share 9 = .ok (.iload_n 2, 1) := by decide +kernel
theorem dX7_share_10 : decode cX7_share 10 = .ok (.invokevirtual 114, 3) := by decide +kernel
theorem dX7_share_13 : decode cX7_share 13 = .ok (.ifCond .eq 14, 3) := by decide +kernel
theorem dX7_share_16 : decode cX7_share 16 = .ok (.iload_n 3, 1) := by decide +kernel
theorem dX7_share_17 : decode cX7_share 17 = .ok (.bipush (-9), 2) := by decide +kernel
theorem dX7_share_19 : decode cX7_share 19 = .ok (.bipush 9, 2) := by decide +kernel
theorem dX7_share_21 : decode cX7_share 21 = .ok (.invokestatic 101, 3) := by decide +kernel
theorem dX7_share_24 : decode cX7_share 24 = .ok (.ifCond .ne 6, 3) := by decide +kernel
theorem dX7_share_27 : decode cX7_share 27 = .ok (.ldc 112, 2) := by decide +kernel
theorem dX7_share_29 : decode cX7_share 29 = .ok (.ireturn, 1) := by decide +kernel
theorem dX7_share_30 : decode cX7_share 30 = .ok (.aload_n 0, 1) := by decide +kernel
theorem dX7_share_31 : decode cX7_share 31 = .ok (.getfield 35, 3) := by decide +kernel
theorem dX7_share_34 : decode cX7_share 34 = .ok (.iconst 5, 1) := by decide +kernel
theorem dX7_share_35 : decode cX7_share 35 = .ok (.iload_n 1, 1) := by decide +kernel
theorem dX7_share_36 : decode cX7_share 36 = .ok (.imul, 1) := by decide +kernel
theorem dX7_share_37 : decode cX7_share 37 = .ok (.iload_n 2, 1) := by decide +kernel
theorem dX7_share_38 : decode cX7_share 38 = .ok (.iadd, 1) := by decide +kernel
theorem dX7_share_39 : decode cX7_share 39 = .ok (.iaload, 1) := by decide +kernel
theorem dX7_share_40 : decode cX7_share 40 = .ok (.istore 4, 2) := by decide +kernel
theorem dX7_share_42 : decode cX7_share 42 = .ok (.aload_n 0, 1) := by decide +kernel
theorem dX7_share_43 : decode cX7_share 43 = .ok (.getfield 35, 3) := by decide +kernel
theorem dX7_share_46 : decode cX7_share 46 = .ok (.iconst 5, 1) := by decide +kernel
theorem dX7_share_47 : decode cX7_share 47 = .ok (.iload_n 1, 1) := by decide +kernel
theorem dX7_share_48 : decode cX7_share 48 = .ok (.imul, 1) := by decide +kernel
theorem dX7_share_49 : decode cX7_share 49 = .ok (.iload_n 2, 1) := by decide +kernel
theorem dX7_share_50 : decode cX7_share 50 = .ok (.iadd, 1) := by decide +kernel
theorem dX7_share_51 : decode cX7_share 51 = .ok (.iload_n 3, 1) := by decide +kernel
theorem dX7_share_52 : decode cX7_share 52 = .ok (.iastore, 1) := by decide +kernel
theorem dX7_share_53 : decode cX7_share 53 = .ok (.iload 4, 2) := by decide +kernel
theorem dX7_share_55 : decode cX7_share 55 = .ok (.ireturn, 1) := by decide +kernel
set_option maxRecDepth 20000 in
theorem ggX7_number_X7_isRow : GoodIn wsX7_number wsX7_isRow := goodIn_r _ [7, 8, 9, 10, 6, 11, 12, 13, 14, 15, 16, 17, 18, 19, 20, 21, 22, 23, 24, 25, 26, 27, 28, 29, 30, 31, 32, 33, 34, 35, 36, 37, 38, 39, 40, 41, 42, 43, 44, 45, 46, 47, 48, 49] (by decide +kernel) (by decide +kernel)
set_option maxRecDepth 20000 in
theorem gX7_number_X7_isRow : GoodIn wsX7_number (wsV RX7 119 RX7 yX7_isRow wsX7_isRow) := goodIn_app (goodIn_of _ (by decide +kernel)) ggX7_number_X7_isRow
set_option maxRecDepth 20000 in
theorem ggX7_number_X7_isIn : GoodIn wsX7_number wsX7_isIn := goodIn_r _ [11] (by decide +kernel) (by decide +kernel)
set_option maxRecDepth 20000 in
theorem gX7_number_X7_isIn : GoodIn wsX7_number (va_wsS RX7 101 yX7_isIn wsX7_isIn) := goodIn_app (goodIn_of _ (by decide +kernel)) ggX7_number_X7_isIn
theorem dX7_number_0 : decode cX7_number 0 = .ok (.aload_n 0, 1) := by decide +kernel
theorem dX7_number_1 : decode cX7_number 1 = .ok (.iload_n 1, 1) := by decide +kernel
theorem dX7_number_2 : decode cX7_number 2 = .ok (.invokevirtual 119, 3) := by decide +kernel
theorem dX7_number_5 : decode cX7_number 5 = .ok (.ifCond .eq 14, 3) := by decide +kernel
theorem dX7_number_8 : decode cX7_number 8 = .ok (.iload_n 2, 1) := by decide +kernel
theorem dX7_number_9 : decode cX7_number 9 = .ok (.bipush (-99), 2) := by decide +kernel
theorem dX7_number_11 : decode cX7_number 11 = .ok (.bipush 99, 2) := by decide +kernel
theorem dX7_number_13 : decode cX7_number 13 = .ok (.invokestatic 101, 3) := by decide +kernel
theorem dX7_number_16 : decode cX7_number 16 = .ok (.ifCond .ne 6, 3) := by decide +kernel
theorem dX7_number_19 : decode cX7_number 19 = .ok (.ldc 112, 2) := by decide +kernel
theorem dX7_number_21 : decode cX7_number 21 = .ok (.ireturn, 1) := by decide +kernel
theorem dX7_number_22 : decode cX7_number 22 = .ok (.aload_n 0, 1) := by decide +kernel
theorem dX7_number_23 : decode cX7_number 23 = .ok (.getfield 28, 3) := by decide +kernel
theorem dX7_number_26 : decode cX7_number 26 = .ok (.iload_n 1, 1) := by decide +kernel
theorem dX7_number_27 : decode cX7_number 27 = .ok (.iaload, 1) := by decide +kernel
theorem dX7_number_28 : decode cX7_number 28 = .ok (.istore_n 3, 1) := by decide +kernel
theorem dX7_number_29 : decode cX7_number 29 = .ok (.aload_n 0, 1) := by decide +kernel
theorem dX7_number_30 : decode cX7_number 30 = .ok (.getfield 28, 3) := by decide +kernel
theorem dX7_number_33 : decode cX7_number 33 = .ok (.iload_n 1, 1) := by decide +kernel
theorem dX7_number_34 : decode cX7_number 34 = .ok (.iload_n 2, 1) := by decide +kernel
theorem dX7_number_35 : decode cX7_number 35 = .ok (.iastore, 1) := by decide +kernel
theorem dX7_number_36 : decode cX7_number 36 = .ok (.iload_n 3, 1) := by decide +kernel
theorem dX7_number_37 : decode cX7_number 37 = .ok (.ireturn, 1) := by decide +kernel
set_option maxRecDepth 20000 in
theorem ggX7_counts_X7_isRow : GoodIn wsX7_counts wsX7_isRow := goodIn_r _ [7, 8, 9, 10, 6, 11, 12, 13, 14, 15, 16, 17, 18, 19, 20, 21, 22, 23, 24, 25, 26, 27, 28, 29, 30, 31, 32, 33, 34, 35, 36, 37, 38, 39, 40, 41, 42, 43, 44, 45, 46, 47, 48, 49] (by decide +kernel) (by decide +kernel)
set_option maxRecDepth 20000 in
theorem gX7_counts_X7_isRow : GoodIn wsX7_counts (wsV RX7 119 RX7 yX7_isRow wsX7_isRow) := goodIn_app (goodIn_of _ (by decide +kernel)) ggX7_counts_X7_isRow
set_option maxRecDepth 20000 in
theorem ggX7_counts_X7_isIn : GoodIn wsX7_counts wsX7_isIn := goodIn_r _ [11] (by decide +kernel) (by decide +kernel)
set_option maxRecDepth 20000 in
theorem gX7_counts_X7_isIn : GoodIn wsX7_counts (va_wsS RX7 101 yX7_isIn wsX7_isIn) := goodIn_app (goodIn_of _ (by decide +kernel)) ggX7_counts_X7_isIn
theorem dX7_counts_0 : decode cX7_counts 0 = .ok (.aload_n 0, 1) := by decide +kernel
theorem dX7_counts_1 : decode cX7_counts 1 = .ok (.iload_n 1, 1) := by decide +kernel
theorem dX7_counts_2 : decode cX7_counts 2 = .ok (.invokevirtual 119, 3) := by decide +kernel
theorem dX7_counts_5 : decode cX7_counts 5 = .ok (.ifCond .eq 12, 3) := by decide +kernel
theorem dX7_counts_8 : decode cX7_counts 8 = .ok (.iload_n 2, 1) := by decide +kernel
theorem dX7_counts_9 : decode cX7_counts 9 = .ok (.iconst 0, 1) := by decide +kernel
theorem dX7_counts_10 : decode cX7_counts 10 = .ok (.iconst 1, 1) := by decide +kernel
theorem dX7_counts_11 : decode cX7_counts 11 = .ok (.invokestatic 101, 3) := by decide +kernel
theorem dX7_counts_14 : decode cX7_counts 14 = .ok (.ifCond .ne 6, 3) := by decide +kernel
theorem dX7_counts_17 : decode cX7_counts 17 = .ok (.ldc 112, 2) := by decide +kernel
theorem dX7_counts_19 : decode cX7_counts 19 = .ok (.ireturn, 1) := by decide +kernel
theorem dX7_counts_20 : decode cX7_counts 20 = .ok (.aload_n 0, 1) := by decide +kernel
theorem dX7_counts_21 : decode cX7_counts 21 = .ok (.getfield 31, 3) := by decide +kernel
theorem dX7_counts_24 : decode cX7_counts 24 = .ok (.iload_n 1, 1) := by decide +kernel
theorem dX7_counts_25 : decode cX7_counts 25 = .ok (.baload, 1) := by decide +kernel
theorem dX7_counts_26 : decode cX7_counts 26 = .ok (.ifCond .eq 7, 3) := by decide +kernel
theorem dX7_counts_29 : decode cX7_counts 29 = .ok (.iconst 1, 1) := by decide +kernel
theorem dX7_counts_30 : decode cX7_counts 30 = .ok (.goto 4, 3) := by decide +kernel
theorem dX7_counts_33 : decode cX7_counts 33 = .ok (.iconst 0, 1) := by decide +kernel
theorem dX7_counts_34 : decode cX7_counts 34 = .ok (.istore_n 3, 1) := by decide +kernel
theorem dX7_counts_35 : decode cX7_counts 35 = .ok (.aload_n 0, 1) := by decide +kernel
theorem dX7_counts_36 : decode cX7_counts 36 = .ok (.getfield 31, 3) := by decide +kernel
theorem dX7_counts_39 : decode cX7_counts 39 = .ok (.iload_n 1, 1) := by decide +kernel
theorem dX7_counts_40 : decode cX7_counts 40 = .ok (.iload_n 2, 1) := by decide +kernel
theorem dX7_counts_41 : decode cX7_counts 41 = .ok (.iconst 1, 1) := by decide +kernel
theorem dX7_counts_42 : decode cX7_counts 42 = .ok (.if_icmp .ne 7, 3) := by decide +kernel
theorem dX7_counts_45 : decode cX7_counts 45 = .ok (.iconst 1, 1) := by decide +kernel
theorem dX7_counts_46 : decode cX7_counts 46 = .ok (.goto 4, 3) := by decide +kernel
theorem dX7_counts_49 : decode cX7_counts 49 = .ok (.iconst 0, 1) := by decide +kernel
theorem dX7_counts_50 : decode cX7_counts 50 = .ok (.bastore, 1) := by decide +kernel
theorem dX7_counts_51 : decode cX7_counts 51 = .ok (.iload_n 3, 1) := by decide +kernel
theorem dX7_counts_52 : decode cX7_counts 52 = .ok (.ireturn, 1) := by decide +kernel
set_option maxRecDepth 20000 in
theorem ggX7_isOf_X7_isColumn : GoodIn wsX7_isOf wsX7_isColumn := goodIn_r _ [7, 8, 9, 10, 6, 11, 12, 13, 14, 15, 16, 17, 18, 19, 20, 21, 22, 23, 24, 25, 26, 27, 28, 29, 30, 31, 32, 33, 34, 35, 36, 37, 38, 39, 40, 41, 42, 43, 44, 45, 46, 47, 48, 49] (by decide +kernel) (by decide +kernel)
set_option maxRecDepth 20000 in
theorem gX7_isOf_X7_isColumn : GoodIn wsX7_isOf (wsV RX7 114 RX7 yX7_isColumn wsX7_isColumn) := goodIn_app (goodIn_of _ (by decide +kernel)) ggX7_isOf_X7_isColumn
set_option maxRecDepth 20000 in
theorem ggX7_isOf_X7_isIn : GoodIn wsX7_isOf wsX7_isIn := goodIn_r _ [11] (by decide +kernel) (by decide +kernel)
set_option maxRecDepth 20000 in
theorem gX7_isOf_X7_isIn : GoodIn wsX7_isOf (va_wsS RX7 101 yX7_isIn wsX7_isIn) := goodIn_app (goodIn_of _ (by decide +kernel)) ggX7_isOf_X7_isIn
theorem dX7_isOf_0 : decode cX7_isOf 0 = .ok (.aload_n 0, 1) := by decide +kernel
theorem dX7_isOf_1 : decode cX7_isOf 1 = .ok (.iload_n 1, 1) := by decide +kernel
theorem dX7_isOf_2 : decode cX7_isOf 2 = .ok (.invokevirtual 114, 3) := by decide +kernel
theorem dX7_isOf_5 : decode cX7_isOf 5 = .ok (.ifCond .eq 12, 3) := by decide +kernel
theorem dX7_isOf_8 : decode cX7_isOf 8 = .ok (.iload_n 2, 1) := by decide +kernel
theorem dX7_isOf_9 : decode cX7_isOf 9 = .ok (.iconst 0, 1) := by decide +kernel
theorem dX7_isOf_10 : decode cX7_isOf 10 = .ok (.iconst 2, 1) := by decide +kernel
theorem dX7_isOf_11 : decode cX7_isOf 11 = .ok (.invokestatic 101, 3) := by decide +kernel
theorem dX7_isOf_14 : decode cX7_isOf 14 = .ok (.ifCond .ne 6, 3) := by decide +kernel
theorem dX7_isOf_17 : decode cX7_isOf 17 = .ok (.ldc 112, 2) := by decide +kernel
theorem dX7_isOf_19 : decode cX7_isOf 19 = .ok (.ireturn, 1) := by decide +kernel
theorem dX7_isOf_20 : decode cX7_isOf 20 = .ok (.aload_n 0, 1) := by decide +kernel
theorem dX7_isOf_21 : decode cX7_isOf 21 = .ok (.getfield 7, 3) := by decide +kernel
theorem dX7_isOf_24 : decode cX7_isOf 24 = .ok (.iload_n 1, 1) := by decide +kernel
theorem dX7_isOf_25 : decode cX7_isOf 25 = .ok (.iaload, 1) := by decide +kernel
theorem dX7_isOf_26 : decode cX7_isOf 26 = .ok (.iload_n 2, 1) := by decide +kernel
theorem dX7_isOf_27 : decode cX7_isOf 27 = .ok (.if_icmp .lt 7, 3) := by decide +kernel
theorem dX7_isOf_30 : decode cX7_isOf 30 = .ok (.iconst 1, 1) := by decide +kernel
theorem dX7_isOf_31 : decode cX7_isOf 31 = .ok (.goto 4, 3) := by decide +kernel
theorem dX7_isOf_34 : decode cX7_isOf 34 = .ok (.iconst 0, 1) := by decide +kernel
theorem dX7_isOf_35 : decode cX7_isOf 35 = .ok (.ireturn, 1) := by decide +kernel
set_option maxRecDepth 20000 in
theorem ggX7_about_X7_isColumn : GoodIn wsX7_about wsX7_isColumn := goodIn_r _ [10, 11, 12, 13, 9, 14, 15, 16, 17, 18, 19, 20, 21, 22, 23, 24, 25, 26, 27, 28, 29, 30, 31, 32, 33, 34, 35, 36, 37, 38, 39, 40, 41, 42, 43, 44, 45, 46, 47, 48, 49, 50, 51, 52] (by decide +kernel) (by decide +kernel)
set_option maxRecDepth 20000 in
theorem gX7_about_X7_isColumn : GoodIn wsX7_about (wsV RX7 114 RX7 yX7_isColumn wsX7_isColumn) := goodIn_app (goodIn_of _ (by decide +kernel)) ggX7_about_X7_isColumn
set_option maxRecDepth 20000 in
theorem ggX7_about_X7_isIn : GoodIn wsX7_about wsX7_isIn := goodIn_r _ [14] (by decide +kernel) (by decide +kernel)
set_option maxRecDepth 20000 in
theorem gX7_about_X7_isIn : GoodIn wsX7_about (va_wsS RX7 101 yX7_isIn wsX7_isIn) := goodIn_app (goodIn_of _ (by decide +kernel)) ggX7_about_X7_isIn
theorem dX7_about_0 : decode cX7_about 0 = .ok (.aload_n 0, 1) := by decide +kernel
theorem dX7_about_1 : decode cX7_about 1 = .ok (.iload_n 1, 1) := by decide +kernel
theorem dX7_about_2 : decode cX7_about 2 = .ok (.invokevirtual 114, 3) := by decide +kernel
theorem dX7_about_5 : decode cX7_about 5 = .ok (.ifCond .eq 12, 3) := by decide +kernel
theorem dX7_about_8 : decode cX7_about 8 = .ok (.iload_n 2, 1) := by decide +kernel
theorem dX7_about_9 : decode cX7_about 9 = .ok (.iconst 0, 1) := by decide +kernel
theorem dX7_about_10 : decode cX7_about 10 = .ok (.iconst 3, 1) := by decide +kernel
theorem dX7_about_11 : decode cX7_about 11 = .ok (.invokestatic 101, 3) := by decide +kernel
theorem dX7_about_14 : decode cX7_about 14 = .ok (.ifCond .ne 6, 3) := by decide +kernel
theorem dX7_about_17 : decode cX7_about 17 = .ok (.ldc 112, 2) := by decide +kernel
theorem dX7_about_19 : decode cX7_about 19 = .ok (.ireturn, 1) := by decide +kernel
theorem dX7_about_20 : decode cX7_about 20 = .ok (.iload_n 2, 1) := by decide +kernel
theorem dX7_about_21 : decode cX7_about 21 = .ok (.ifCond .ne 12, 3) := by decide +kernel
theorem dX7_about_24 : decode cX7_about 24 = .ok (.aload_n 0, 1) := by decide +kernel
theorem dX7_about_25 : decode cX7_about 25 = .ok (.getfield 13, 3) := by decide +kernel
theorem dX7_about_28 : decode cX7_about 28 = .ok (.iload_n 1, 1) := by decide +kernel
theorem dX7_about_29 : decode cX7_about 29 = .ok (.iaload, 1) := by decide +kernel
theorem dX7_about_30 : decode cX7_about 30 = .ok (.goto 37, 3) := by decide +kernel
theorem dX7_about_33 : decode cX7_about 33 = .ok (.iload_n 2, 1) := by decide +kernel
theorem dX7_about_34 : decode cX7_about 34 = .ok (.iconst 1, 1) := by decide +kernel
theorem dX7_about_35 : decode cX7_about 35 = .ok (.if_icmp .ne 12, 3) := by decide +kernel
theorem dX7_about_38 : decode cX7_about 38 = .ok (.aload_n 0, 1) := by decide +kernel
theorem dX7_about_39 : decode cX7_about 39 = .ok (.getfield 16, 3) := by decide +kernel
theorem dX7_about_42 : decode cX7_about 42 = .ok (.iload_n 1, 1) := by decide +kernel
theorem dX7_about_43 : decode cX7_about 43 = .ok (.iaload, 1) := by decide +kernel
theorem dX7_about_44 : decode cX7_about 44 = .ok (.goto 23, 3) := by decide +kernel
theorem dX7_about_47 : decode cX7_about 47 = .ok (.iload_n 2, 1) := by decide +kernel
theorem dX7_about_48 : decode cX7_about 48 = .ok (.iconst 2, 1) := by decide +kernel
theorem dX7_about_49 : decode cX7_about 49 = .ok (.if_icmp .ne 12, 3) := by decide +kernel
theorem dX7_about_52 : decode cX7_about 52 = .ok (.aload_n 0, 1) := by decide +kernel
theorem dX7_about_53 : decode cX7_about 53 = .ok (.getfield 19, 3) := by decide +kernel
theorem dX7_about_56 : decode cX7_about 56 = .ok (.iload_n 1, 1) := by decide +kernel
theorem dX7_about_57 : decode cX7_about 57 = .ok (.iaload, 1) := by decide +kernel
theorem dX7_about_58 : decode cX7_about 58 = .ok (.goto 9, 3) := by decide +kernel
theorem dX7_about_61 : decode cX7_about 61 = .ok (.aload_n 0, 1) := by decide +kernel
theorem dX7_about_62 : decode cX7_about 62 = .ok (.getfield 22, 3) := by decide +kernel
theorem dX7_about_65 : decode cX7_about 65 = .ok (.iload_n 1, 1) := by decide +kernel
theorem dX7_about_66 : decode cX7_about 66 = .ok (.iaload, 1) := by decide +kernel
theorem dX7_about_67 : decode cX7_about 67 = .ok (.ireturn, 1) := by decide +kernel
set_option maxRecDepth 20000 in
theorem ggX7_told_X7_isRow : GoodIn wsX7_told wsX7_isRow := goodIn_r _ [11, 12, 13, 14, 10, 15, 16, 17, 18, 19, 20, 21, 22, 23, 24, 25, 26, 27, 28, 29, 30, 31, 32, 33, 34, 35, 36, 37, 38, 39, 40, 41, 42, 43, 44, 45, 46, 47, 48, 49, 50, 51, 52, 53] (by decide +kernel) (by decide +kernel)
set_option maxRecDepth 20000 in
theorem gX7_told_X7_isRow : GoodIn wsX7_told (wsV RX7 119 RX7 yX7_isRow wsX7_isRow) := goodIn_app (goodIn_of _ (by decide +kernel)) ggX7_told_X7_isRow
set_option maxRecDepth 20000 in
theorem ggX7_told_X7_isIn : GoodIn wsX7_told wsX7_isIn := goodIn_r _ [15] (by decide +kernel) (by decide +kernel)
set_option maxRecDepth 20000 in
theorem gX7_told_X7_isIn : GoodIn wsX7_told (va_wsS RX7 101 yX7_isIn wsX7_isIn) := goodIn_app (goodIn_of _ (by decide +kernel)) ggX7_told_X7_isIn
theorem dX7_told_0 : decode cX7_told 0 = .ok (.aload_n 0, 1) := by decide +kernel
theorem dX7_told_1 : decode cX7_told 1 = .ok (.iload_n 1, 1) := by decide +kernel
theorem dX7_told_2 : decode cX7_told 2 = .ok (.invokevirtual 119, 3) := by decide +kernel
theorem dX7_told_5 : decode cX7_told 5 = .ok (.ifCond .eq 17, 3) := by decide +kernel
theorem dX7_told_8 : decode cX7_told 8 = .ok (.iload_n 2, 1) := by decide +kernel
theorem dX7_told_9 : decode cX7_told 9 = .ok (.iconst 0, 1) := by decide +kernel
theorem dX7_told_10 : decode cX7_told 10 = .ok (.iconst 2, 1) := by decide +kernel
theorem dX7_told_11 : decode cX7_told 11 = .ok (.aload_n 0, 1) := by decide +kernel
theorem dX7_told_12 : decode cX7_told 12 = .ok (.getfield 98, 3) := by decide +kernel
theorem dX7_told_15 : decode cX7_told 15 = .ok (.iadd, 1) := by decide +kernel
theorem dX7_told_16 : decode cX7_told 16 = .ok (.invokestatic 101, 3) := by decide +kernel
theorem dX7_told_19 : decode cX7_told 19 = .ok (.ifCond .ne 6, 3) := by decide +kernel
theorem dX7_told_22 : decode cX7_told 22 = .ok (.ldc 112, 2) := by decide +kernel
theorem dX7_told_24 : decode cX7_told 24 = .ok (.ireturn, 1) := by decide +kernel
theorem dX7_told_25 : decode cX7_told 25 = .ok (.iload_n 2, 1) := by decide +kernel
theorem dX7_told_26 : decode cX7_told 26 = .ok (.ifCond .ne 12, 3) := by decide +kernel
theorem dX7_told_29 : decode cX7_told 29 = .ok (.aload_n 0, 1) := by decide +kernel
theorem dX7_told_30 : decode cX7_told 30 = .ok (.getfield 25, 3) := by decide +kernel
theorem dX7_told_33 : decode cX7_told 33 = .ok (.iload_n 1, 1) := by decide +kernel
theorem dX7_told_34 : decode cX7_told 34 = .ok (.iaload, 1) := by decide +kernel
theorem dX7_told_35 : decode cX7_told 35 = .ok (.goto 51, 3) := by decide +kernel
theorem dX7_told_38 : decode cX7_told 38 = .ok (.iload_n 2, 1) := by decide +kernel
theorem dX7_told_39 : decode cX7_told 39 = .ok (.iconst 1, 1) := by decide +kernel
theorem dX7_told_40 : decode cX7_told 40 = .ok (.if_icmp .ne 12, 3) := by decide +kernel
theorem dX7_told_43 : decode cX7_told 43 = .ok (.aload_n 0, 1) := by decide +kernel
theorem dX7_told_44 : decode cX7_told 44 = .ok (.getfield 28, 3) := by decide +kernel
theorem dX7_told_47 : decode cX7_told 47 = .ok (.iload_n 1, 1) := by decide +kernel
theorem dX7_told_48 : decode cX7_told 48 = .ok (.iaload, 1) := by decide +kernel
theorem dX7_told_49 : decode cX7_told 49 = .ok (.goto 37, 3) := by decide +kernel
theorem dX7_told_52 : decode cX7_told 52 = .ok (.iload_n 2, 1) := by decide +kernel
theorem dX7_told_53 : decode cX7_told 53 = .ok (.iconst 2, 1) := by decide +kernel
theorem dX7_told_54 : decode cX7_told 54 = .ok (.if_icmp .ne 20, 3) := by decide +kernel
theorem dX7_told_57 : decode cX7_told 57 = .ok (.aload_n 0, 1) := by decide +kernel
theorem dX7_told_58 : decode cX7_told 58 = .ok (.getfield 31, 3) := by decide +kernel
theorem dX7_told_61 : decode cX7_told 61 = .ok (.iload_n 1, 1) := by decide +kernel
theorem dX7_told_62 : decode cX7_told 62 = .ok (.baload, 1) := by decide +kernel
theorem dX7_told_63 : decode cX7_told 63 = .ok (.ifCond .eq 7, 3) := by decide +kernel
theorem dX7_told_66 : decode cX7_told 66 = .ok (.iconst 1, 1) := by decide +kernel
theorem dX7_told_67 : decode cX7_told 67 = .ok (.goto 19, 3) := by decide +kernel
theorem dX7_told_70 : decode cX7_told 70 = .ok (.iconst 0, 1) := by decide +kernel
theorem dX7_told_71 : decode cX7_told 71 = .ok (.goto 15, 3) := by decide +kernel
theorem dX7_told_74 : decode cX7_told 74 = .ok (.aload_n 0, 1) := by decide +kernel
theorem dX7_told_75 : decode cX7_told 75 = .ok (.getfield 35, 3) := by decide +kernel
theorem dX7_told_78 : decode cX7_told 78 = .ok (.iconst 5, 1) := by decide +kernel
theorem dX7_told_79 : decode cX7_told 79 = .ok (.iload_n 1, 1) := by decide +kernel
theorem dX7_told_80 : decode cX7_told 80 = .ok (.imul, 1) := by decide +kernel
theorem dX7_told_81 : decode cX7_told 81 = .ok (.iload_n 2, 1) := by decide +kernel
theorem dX7_told_82 : decode cX7_told 82 = .ok (.iadd, 1) := by decide +kernel
theorem dX7_told_83 : decode cX7_told 83 = .ok (.iconst 3, 1) := by decide +kernel
theorem dX7_told_84 : decode cX7_told 84 = .ok (.isub, 1) := by decide +kernel
theorem dX7_told_85 : decode cX7_told 85 = .ok (.iaload, 1) := by decide +kernel
theorem dX7_told_86 : decode cX7_told 86 = .ok (.ireturn, 1) := by decide +kernel
theorem dX7_condition_0 : decode cX7_condition 0 = .ok (.iconst 0, 1) := by decide +kernel
theorem dX7_condition_1 : decode cX7_condition 1 = .ok (.istore 4, 2) := by decide +kernel
theorem dX7_condition_3 : decode cX7_condition 3 = .ok (.iload 4, 2) := by decide +kernel
theorem dX7_condition_5 : decode cX7_condition 5 = .ok (.iconst 5, 1) := by decide +kernel
theorem dX7_condition_6 : decode cX7_condition 6 = .ok (.if_icmp .ge 24, 3) := by decide +kernel
theorem dX7_condition_9 : decode cX7_condition 9 = .ok (.aload_n 0, 1) := by decide +kernel
theorem dX7_condition_10 : decode cX7_condition 10 = .ok (.getfield 65, 3) := by decide +kernel
theorem dX7_condition_13 : decode cX7_condition 13 = .ok (.iconst 5, 1) := by decide +kernel
theorem dX7_condition_14 : decode cX7_condition 14 = .ok (.aload_n 0, 1) := by decide +kernel
theorem dX7_condition_15 : decode cX7_condition 15 = .ok (.getfield 122, 3) := by decide +kernel
theorem dX7_condition_18 : decode cX7_condition 18 = .ok (.imul, 1) := by decide +kernel
theorem dX7_condition_19 : decode cX7_condition 19 = .ok (.iload 4, 2) := by decide +kernel
theorem dX7_condition_21 : decode cX7_condition 21 = .ok (.iadd, 1) := by decide +kernel
theorem dX7_condition_22 : decode cX7_condition 22 = .ok (.iconst 0, 1) := by decide +kernel
theorem dX7_condition_23 : decode cX7_condition 23 = .ok (.iastore, 1) := by decide +kernel
theorem dX7_condition_24 : decode cX7_condition 24 = .ok (.iinc 4 1, 3) := by decide +kernel
theorem dX7_condition_27 : decode cX7_condition 27 = .ok (.goto (-24), 3) := by decide +kernel
theorem dX7_condition_30 : decode cX7_condition 30 = .ok (.aload_n 0, 1) := by decide +kernel
theorem dX7_condition_31 : decode cX7_condition 31 = .ok (.getfield 68, 3) := by decide +kernel
theorem dX7_condition_34 : decode cX7_condition 34 = .ok (.aload_n 0, 1) := by decide +kernel
theorem dX7_condition_35 : decode cX7_condition 35 = .ok (.getfield 122, 3) := by decide +kernel
theorem dX7_condition_38 : decode cX7_condition 38 = .ok (.lload_n 2, 1) := by decide +kernel
theorem dX7_condition_39 : decode cX7_condition 39 = .ok (.lastore, 1) := by decide +kernel
theorem dX7_condition_40 : decode cX7_condition 40 = .ok (.aload_n 0, 1) := by decide +kernel
theorem dX7_condition_41 : decode cX7_condition 41 = .ok (.getfield 71, 3) := by decide +kernel
theorem dX7_condition_44 : decode cX7_condition 44 = .ok (.aload_n 0, 1) := by decide +kernel
theorem dX7_condition_45 : decode cX7_condition 45 = .ok (.getfield 122, 3) := by decide +kernel
theorem dX7_condition_48 : decode cX7_condition 48 = .ok (.iload_n 1, 1) := by decide +kernel
theorem dX7_condition_49 : decode cX7_condition 49 = .ok (.iastore, 1) := by decide +kernel
theorem dX7_condition_50 : decode cX7_condition 50 = .ok (.aload_n 0, 1) := by decide +kernel
theorem dX7_condition_51 : decode cX7_condition 51 = .ok (.dup, 1) := by decide +kernel
theorem dX7_condition_52 : decode cX7_condition 52 = .ok (.getfield 122, 3) := by decide +kernel
theorem dX7_condition_55 : decode cX7_condition 55 = .ok (.iconst 1, 1) := by decide +kernel
theorem dX7_condition_56 : decode cX7_condition 56 = .ok (.iadd, 1) := by decide +kernel
theorem dX7_condition_57 : decode cX7_condition 57 = .ok (.putfield 122, 3) := by decide +kernel
theorem dX7_condition_60 : decode cX7_condition 60 = .ok (.aload_n 0, 1) := by decide +kernel
theorem dX7_condition_61 : decode cX7_condition 61 = .ok (.getfield 122, 3) := by decide +kernel
theorem dX7_condition_64 : decode cX7_condition 64 = .ok (.iconst 1, 1) := by decide +kernel
theorem dX7_condition_65 : decode cX7_condition 65 = .ok (.isub, 1) := by decide +kernel
theorem dX7_condition_66 : decode cX7_condition 66 = .ok (.ireturn, 1) := by decide +kernel
set_option maxRecDepth 20000 in
theorem ggX7_meets_X7_swap : GoodIn wsX7_meets wsX7_swap := goodIn_r _ [12, 2, 17, 18, 19, 20, 21, 22, 23, 24, 25, 26, 27, 28, 29, 30, 31, 32, 33, 34, 35, 36, 37, 38, 39, 40, 41, 42, 43, 44, 45, 46, 47, 48, 49, 50, 51, 52, 53, 54] (by decide +kernel) (by decide +kernel)
set_option maxRecDepth 20000 in
theorem gX7_meets_X7_swap : GoodIn wsX7_meets (wsV RX7 128 RX7 yX7_swap wsX7_swap) := goodIn_app (goodIn_of _ (by decide +kernel)) ggX7_meets_X7_swap
set_option maxRecDepth 20000 in
theorem ggX7_meets_X7_clear : GoodIn wsX7_meets wsX7_clear := goodIn_r _ [16, 2, 17, 18, 19, 20, 21, 22, 23, 24, 25, 26, 27, 28, 29, 30, 31, 32, 33, 34, 35, 36, 37, 38, 39, 40, 41, 42, 43, 44, 45, 46, 47, 48, 49, 50, 51, 52, 53, 54] (by decide +kernel) (by decide +kernel)
set_option maxRecDepth 20000 in
theorem gX7_meets_X7_clear : GoodIn wsX7_meets (wsV RX7 132 RX7 yX7_clear wsX7_clear) := goodIn_app (goodIn_of _ (by decide +kernel)) ggX7_meets_X7_clear
theorem dX7_meets_0 : decode cX7_meets 0 = .ok (.aload_n 0, 1) := by decide +kernel
theorem dX7_meets_1 : decode cX7_meets 1 = .ok (.getfield 125, 3) := by decide +kernel
theorem dX7_meets_4 : decode cX7_meets 4 = .ok (.iconst 1, 1) := by decide +kernel
theorem dX7_meets_5 : decode cX7_meets 5 = .ok (.iadd, 1) := by decide +kernel
theorem dX7_meets_6 : decode cX7_meets 6 = .ok (.istore_n 1, 1) := by decide +kernel
theorem dX7_meets_7 : decode cX7_meets 7 = .ok (.iconst 0, 1) := by decide +kernel
theorem dX7_meets_8 : decode cX7_meets 8 = .ok (.istore_n 2, 1) := by decide +kernel
theorem dX7_meets_9 : decode cX7_meets 9 = .ok (.iload_n 2, 1) := by decide +kernel
theorem dX7_meets_10 : decode cX7_meets 10 = .ok (.aload_n 0, 1) := by decide +kernel
theorem dX7_meets_11 : decode cX7_meets 11 = .ok (.getfield 125, 3) := by decide +kernel
theorem dX7_meets_14 : decode cX7_meets 14 = .ok (.if_icmp .ge 75, 3) := by decide +kernel
theorem dX7_meets_17 : decode cX7_meets 17 = .ok (.iconst 0, 1) := by decide +kernel
theorem dX7_meets_18 : decode cX7_meets 18 = .ok (.istore_n 3, 1) := by decide +kernel
theorem dX7_meets_19 : decode cX7_meets 19 = .ok (.iload_n 3, 1) := by decide +kernel
theorem dX7_meets_20 : decode cX7_meets 20 = .ok (.aload_n 0, 1) := by decide +kernel
theorem dX7_meets_21 : decode cX7_meets 21 = .ok (.getfield 125, 3) := by decide +kernel
theorem dX7_meets_24 : decode cX7_meets 24 = .ok (.if_icmp .ge 35, 3) := by decide +kernel
theorem dX7_meets_27 : decode cX7_meets 27 = .ok (.aload_n 0, 1) := by decide +kernel
theorem dX7_meets_28 : decode cX7_meets 28 = .ok (.getfield 77, 3) := by decide +kernel
theorem dX7_meets_31 : decode cX7_meets 31 = .ok (.iload_n 1, 1) := by decide +kernel
theorem dX7_meets_32 : decode cX7_meets 32 = .ok (.iload_n 2, 1) := by decide +kernel
theorem dX7_meets_33 : decode cX7_meets 33 = .ok (.imul, 1) := by decide +kernel
theorem dX7_meets_34 : decode cX7_meets 34 = .ok (.iload_n 3, 1) := by decide +kernel
theorem dX7_meets_35 : decode cX7_meets 35 = .ok (.iadd, 1) := by decide +kernel
theorem dX7_meets_36 : decode cX7_meets 36 = .ok (.aload_n 0, 1) := by decide +kernel
theorem dX7_meets_37 : decode cX7_meets 37 = .ok (.getfield 65, 3) := by decide +kernel
theorem dX7_meets_40 : decode cX7_meets 40 = .ok (.iconst 5, 1) := by decide +kernel
theorem dX7_meets_41 : decode cX7_meets 41 = .ok (.aload_n 0, 1) := by decide +kernel
theorem dX7_meets_42 : decode cX7_meets 42 = .ok (.getfield 74, 3) := by decide +kernel
theorem dX7_meets_45 : decode cX7_meets 45 = .ok (.iload_n 2, 1) := by decide +kernel
theorem dX7_meets_46 : decode cX7_meets 46 = .ok (.iaload, 1) := by decide +kernel
theorem dX7_meets_47 : decode cX7_meets 47 = .ok (.imul, 1) := by decide +kernel
theorem dX7_meets_48 : decode cX7_meets 48 = .ok (.iload_n 3, 1) := by decide +kernel
theorem dX7_meets_49 : decode cX7_meets 49 = .ok (.iadd, 1) := by decide +kernel
theorem dX7_meets_50 : decode cX7_meets 50 = .ok (.iaload, 1) := by decide +kernel
theorem dX7_meets_51 : decode cX7_meets 51 = .ok (.i2l, 1) := by decide +kernel
theorem dX7_meets_52 : decode cX7_meets 52 = .ok (.lastore, 1) := by decide +kernel
theorem dX7_meets_53 : decode cX7_meets 53 = .ok (.iinc 3 1, 3) := by decide +kernel
theorem dX7_meets_56 : decode cX7_meets 56 = .ok (.goto (-37), 3) := by decide +kernel
theorem dX7_meets_59 : decode cX7_meets 59 = .ok (.aload_n 0, 1) := by decide +kernel
theorem dX7_meets_60 : decode cX7_meets 60 = .ok (.getfield 77, 3) := by decide +kernel
theorem dX7_meets_63 : decode cX7_meets 63 = .ok (.iload_n 1, 1) := by decide +kernel
theorem dX7_meets_64 : decode cX7_meets 64 = .ok (.iload_n 2, 1) := by decide +kernel
theorem dX7_meets_65 : decode cX7_meets 65 = .ok (.imul, 1) := by decide +kernel
theorem dX7_meets_66 : decode cX7_meets 66 = .ok (.aload_n 0, 1) := by decide +kernel
theorem dX7_meets_67 : decode cX7_meets 67 = .ok (.getfield 125, 3) := by decide +kernel
theorem dX7_meets_70 : decode cX7_meets 70 = .ok (.iadd, 1) := by decide +kernel
theorem dX7_meets_71 : decode cX7_meets 71 = .ok (.aload_n 0, 1) := by decide +kernel
theorem dX7_meets_72 : decode cX7_meets 72 = .ok (.getfield 68, 3) := by decide +kernel
theorem dX7_meets_75 : decode cX7_meets 75 = .ok (.aload_n 0, 1) := by decide +kernel
theorem dX7_meets_76 : decode cX7_meets 76 = .ok (.getfield 74, 3) := by decide +kernel
theorem dX7_meets_79 : decode cX7_meets 79 = .ok (.iload_n 2, 1) := by decide +kernel
theorem dX7_meets_80 : decode cX7_meets 80 = .ok (.iaload, 1) := by decide +kernel
theorem dX7_meets_81 : decode cX7_meets 81 = .ok (.laload, 1) := by decide +kernel
theorem dX7_meets_82 : decode cX7_meets 82 = .ok (.lastore, 1) := by decide +kernel
theorem dX7_meets_83 : decode cX7_meets 83 = .ok (.iinc 2 1, 3) := by decide +kernel
