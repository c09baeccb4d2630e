theorem dX7_corners_12 : decode cX7_corners 12 = .ok (.ifCond .eq 7, 3) := by decide +kernel
theorem dX7_corners_15 : decode cX7_corners 15 = .ok (.iload_n 2, 1) := by decide +kernel
theorem dX7_corners_16 : decode cX7_corners 16 = .ok (.ifCond .ne 35, 3) := by decide +kernel
theorem dX7_corners_19 : decode cX7_corners 19 = .ok (.aload_n 0, 1) := by decide +kernel
theorem dX7_corners_20 : decode cX7_corners 20 = .ok (.invokevirtual 161, 3) := by decide +kernel
theorem dX7_corners_23 : decode cX7_corners 23 = .ok (.ifCond .eq 20, 3) := by decide +kernel
theorem dX7_corners_26 : decode cX7_corners 26 = .ok (.aload_n 0, 1) := by decide +kernel
theorem dX7_corners_27 : decode cX7_corners 27 = .ok (.invokevirtual 164, 3) := by decide +kernel
theorem dX7_corners_30 : decode cX7_corners 30 = .ok (.ifCond .eq 13, 3) := by decide +kernel
theorem dX7_corners_33 : decode cX7_corners 33 = .ok (.iconst 1, 1) := by decide +kernel
theorem dX7_corners_34 : decode cX7_corners 34 = .ok (.istore_n 2, 1) := by decide +kernel
theorem dX7_corners_35 : decode cX7_corners 35 = .ok (.iload_n 1, 1) := by decide +kernel
theorem dX7_corners_36 : decode cX7_corners 36 = .ok (.ifCond .ne 7, 3) := by decide +kernel
theorem dX7_corners_39 : decode cX7_corners 39 = .ok (.aload_n 0, 1) := by decide +kernel
theorem dX7_corners_40 : decode cX7_corners 40 = .ok (.invokevirtual 167, 3) := by decide +kernel
theorem dX7_corners_43 : decode cX7_corners 43 = .ok (.aload_n 0, 1) := by decide +kernel
theorem dX7_corners_44 : decode cX7_corners 44 = .ok (.invokevirtual 170, 3) := by decide +kernel
theorem dX7_corners_47 : decode cX7_corners 47 = .ok (.istore_n 3, 1) := by decide +kernel
theorem dX7_corners_48 : decode cX7_corners 48 = .ok (.goto (-41), 3) := by decide +kernel
theorem dX7_corners_51 : decode cX7_corners 51 = .ok (.iload_n 2, 1) := by decide +kernel
theorem dX7_corners_52 : decode cX7_corners 52 = .ok (.ireturn, 1) := by decide +kernel
set_option maxRecDepth 20000 in
theorem ggX7_isWay_X7_condition : GoodIn wsX7_isWay wsX7_condition := goodIn_r _ [16, 5, 4, 17, 18, 46, 47, 48, 49, 50, 51, 52, 53, 54, 55, 56, 57, 58, 59, 60, 61, 62, 63, 64, 65, 66, 67, 68, 69, 70, 71, 72, 73, 74, 75, 76, 77, 78, 79, 80, 81, 82, 83] (by decide +kernel) (by decide +kernel)
set_option maxRecDepth 20000 in
theorem gX7_isWay_X7_condition : GoodIn wsX7_isWay (wsV RX7 142 RX7 yX7_condition wsX7_condition) := goodIn_app (goodIn_of _ (by decide +kernel)) ggX7_isWay_X7_condition
set_option maxRecDepth 20000 in
theorem ggX7_isWay_X7_first : GoodIn wsX7_isWay wsX7_first := goodIn_r _ [22, 1, 23, 4, 46, 47, 48, 49, 50, 51, 52, 53, 54, 55, 56, 57, 58, 59, 60, 61, 62, 63, 64, 65, 66, 67, 68, 69, 70, 71, 72, 73, 74, 75, 76, 77, 78, 79, 80, 81, 82, 83] (by decide +kernel) (by decide +kernel)
set_option maxRecDepth 20000 in
theorem gX7_isWay_X7_first : GoodIn wsX7_isWay (wsV RX7 157 RX7 yX7_first wsX7_first) := goodIn_app (goodIn_of _ (by decide +kernel)) ggX7_isWay_X7_first
set_option maxRecDepth 20000 in
theorem ggX7_isWay_X7_meets : GoodIn wsX7_isWay wsX7_meets := goodIn_r _ [27, 1, 28, 5, 23, 17, 29, 11, 30, 31, 32, 15, 33, 34, 35, 36, 37, 46, 47, 48, 49, 50, 51, 52, 53, 54, 55, 56, 57, 58, 59, 60, 61, 62, 63, 64, 65, 66, 67, 68, 69, 70, 71, 72, 73, 74, 75, 76, 77, 78, 79, 80, 81, 82, 83] (by decide +kernel) (by decide +kernel)
set_option maxRecDepth 20000 in
theorem gX7_isWay_X7_meets : GoodIn wsX7_isWay (wsV RX7 161 RX7 yX7_meets wsX7_meets) := goodIn_app (goodIn_of _ (by decide +kernel)) ggX7_isWay_X7_meets
set_option maxRecDepth 20000 in
theorem ggX7_isWay_X7_keepsAll : GoodIn wsX7_isWay wsX7_keepsAll := goodIn_r _ [41, 4, 1, 5, 11, 17, 29, 18, 46, 47, 48, 49, 50, 51, 52, 53, 54, 55, 56, 57, 58, 59, 60, 61, 62, 63, 64, 65, 66, 67, 68, 69, 70, 71, 72, 73, 74, 75, 76, 77, 78, 79, 80, 81, 82, 83] (by decide +kernel) (by decide +kernel)
set_option maxRecDepth 20000 in
theorem gX7_isWay_X7_keepsAll : GoodIn wsX7_isWay (wsV RX7 164 RX7 yX7_keepsAll wsX7_keepsAll) := goodIn_app (goodIn_of _ (by decide +kernel)) ggX7_isWay_X7_keepsAll
set_option maxRecDepth 20000 in
theorem ggX7_isWay_X7_another : GoodIn wsX7_isWay wsX7_another := goodIn_r _ [45, 1, 23, 4, 46, 47, 48, 49, 50, 51, 52, 53, 54, 55, 56, 57, 58, 59, 60, 61, 62, 63, 64, 65, 66, 67, 68, 69, 70, 71, 72, 73, 74, 75, 76, 77, 78, 79, 80, 81, 82, 83] (by decide +kernel) (by decide +kernel)
set_option maxRecDepth 20000 in
theorem gX7_isWay_X7_another : GoodIn wsX7_isWay (wsV RX7 170 RX7 yX7_another wsX7_another) := goodIn_app (goodIn_of _ (by decide +kernel)) ggX7_isWay_X7_another
theorem dX7_isWay_0 : decode cX7_isWay 0 = .ok (.aload_n 0, 1) := by decide +kernel
theorem dX7_isWay_1 : decode cX7_isWay 1 = .ok (.iconst 0, 1) := by decide +kernel
theorem dX7_isWay_2 : decode cX7_isWay 2 = .ok (.putfield 125, 3) := by decide +kernel
theorem dX7_isWay_5 : decode cX7_isWay 5 = .ok (.iconst 0, 1) := by decide +kernel
theorem dX7_isWay_6 : decode cX7_isWay 6 = .ok (.istore_n 2, 1) := by decide +kernel
theorem dX7_isWay_7 : decode cX7_isWay 7 = .ok (.iload_n 2, 1) := by decide +kernel
theorem dX7_isWay_8 : decode cX7_isWay 8 = .ok (.aload_n 0, 1) := by decide +kernel
theorem dX7_isWay_9 : decode cX7_isWay 9 = .ok (.getfield 98, 3) := by decide +kernel
theorem dX7_isWay_12 : decode cX7_isWay 12 = .ok (.if_icmp .ge 38, 3) := by decide +kernel
theorem dX7_isWay_15 : decode cX7_isWay 15 = .ok (.iload_n 1, 1) := by decide +kernel
theorem dX7_isWay_16 : decode cX7_isWay 16 = .ok (.iload_n 2, 1) := by decide +kernel
theorem dX7_isWay_17 : decode cX7_isWay 17 = .ok (.ishr, 1) := by decide +kernel
theorem dX7_isWay_18 : decode cX7_isWay 18 = .ok (.iconst 1, 1) := by decide +kernel
theorem dX7_isWay_19 : decode cX7_isWay 19 = .ok (.iand, 1) := by decide +kernel
theorem dX7_isWay_20 : decode cX7_isWay 20 = .ok (.iconst 1, 1) := by decide +kernel
theorem dX7_isWay_21 : decode cX7_isWay 21 = .ok (.if_icmp .ne 23, 3) := by decide +kernel
theorem dX7_isWay_24 : decode cX7_isWay 24 = .ok (.aload_n 0, 1) := by decide +kernel
theorem dX7_isWay_25 : decode cX7_isWay 25 = .ok (.getfield 62, 3) := by decide +kernel
theorem dX7_isWay_28 : decode cX7_isWay 28 = .ok (.aload_n 0, 1) := by decide +kernel
theorem dX7_isWay_29 : decode cX7_isWay 29 = .ok (.getfield 125, 3) := by decide +kernel
theorem dX7_isWay_32 : decode cX7_isWay 32 = .ok (.iload_n 2, 1) := by decide +kernel
theorem dX7_isWay_33 : decode cX7_isWay 33 = .ok (.iastore, 1) := by decide +kernel
theorem dX7_isWay_34 : decode cX7_isWay 34 = .ok (.aload_n 0, 1) := by decide +kernel
theorem dX7_isWay_35 : decode cX7_isWay 35 = .ok (.dup, 1) := by decide +kernel
theorem dX7_isWay_36 : decode cX7_isWay 36 = .ok (.getfield 125, 3) := by decide +kernel
theorem dX7_isWay_39 : decode cX7_isWay 39 = .ok (.iconst 1, 1) := by decide +kernel
theorem dX7_isWay_40 : decode cX7_isWay 40 = .ok (.iadd, 1) := by decide +kernel
theorem dX7_isWay_41 : decode cX7_isWay 41 = .ok (.putfield 125, 3) := by decide +kernel
theorem dX7_isWay_44 : decode cX7_isWay 44 = .ok (.iinc 2 1, 3) := by decide +kernel
theorem dX7_isWay_47 : decode cX7_isWay 47 = .ok (.goto (-40), 3) := by decide +kernel
theorem dX7_isWay_50 : decode cX7_isWay 50 = .ok (.aload_n 0, 1) := by decide +kernel
theorem dX7_isWay_51 : decode cX7_isWay 51 = .ok (.iconst 0, 1) := by decide +kernel
theorem dX7_isWay_52 : decode cX7_isWay 52 = .ok (.putfield 122, 3) := by decide +kernel
theorem dX7_isWay_55 : decode cX7_isWay 55 = .ok (.aload_n 0, 1) := by decide +kernel
theorem dX7_isWay_56 : decode cX7_isWay 56 = .ok (.iconst 2, 1) := by decide +kernel
theorem dX7_isWay_57 : decode cX7_isWay 57 = .ok (.lconst 1, 1) := by decide +kernel
theorem dX7_isWay_58 : decode cX7_isWay 58 = .ok (.invokevirtual 142, 3) := by decide +kernel
theorem dX7_isWay_61 : decode cX7_isWay 61 = .ok (.istore_n 2, 1) := by decide +kernel
theorem dX7_isWay_62 : decode cX7_isWay 62 = .ok (.iconst 0, 1) := by decide +kernel
theorem dX7_isWay_63 : decode cX7_isWay 63 = .ok (.istore_n 3, 1) := by decide +kernel
theorem dX7_isWay_64 : decode cX7_isWay 64 = .ok (.iload_n 3, 1) := by decide +kernel
theorem dX7_isWay_65 : decode cX7_isWay 65 = .ok (.aload_n 0, 1) := by decide +kernel
theorem dX7_isWay_66 : decode cX7_isWay 66 = .ok (.getfield 125, 3) := by decide +kernel
theorem dX7_isWay_69 : decode cX7_isWay 69 = .ok (.if_icmp .ge 20, 3) := by decide +kernel
theorem dX7_isWay_72 : decode cX7_isWay 72 = .ok (.aload_n 0, 1) := by decide +kernel
theorem dX7_isWay_73 : decode cX7_isWay 73 = .ok (.getfield 65, 3) := by decide +kernel
theorem dX7_isWay_76 : decode cX7_isWay 76 = .ok (.iconst 5, 1) := by decide +kernel
theorem dX7_isWay_77 : decode cX7_isWay 77 = .ok (.iload_n 2, 1) := by decide +kernel
theorem dX7_isWay_78 : decode cX7_isWay 78 = .ok (.imul, 1) := by decide +kernel
theorem dX7_isWay_79 : decode cX7_isWay 79 = .ok (.iload_n 3, 1) := by decide +kernel
theorem dX7_isWay_80 : decode cX7_isWay 80 = .ok (.iadd, 1) := by decide +kernel
theorem dX7_isWay_81 : decode cX7_isWay 81 = .ok (.iconst 1, 1) := by decide +kernel
theorem dX7_isWay_82 : decode cX7_isWay 82 = .ok (.iastore, 1) := by decide +kernel
theorem dX7_isWay_83 : decode cX7_isWay 83 = .ok (.iinc 3 1, 3) := by decide +kernel
theorem dX7_isWay_86 : decode cX7_isWay 86 = .ok (.goto (-22), 3) := by decide +kernel
theorem dX7_isWay_89 : decode cX7_isWay 89 = .ok (.iconst 0, 1) := by decide +kernel
theorem dX7_isWay_90 : decode cX7_isWay 90 = .ok (.istore_n 3, 1) := by decide +kernel
theorem dX7_isWay_91 : decode cX7_isWay 91 = .ok (.iload_n 3, 1) := by decide +kernel
theorem dX7_isWay_92 : decode cX7_isWay 92 = .ok (.aload_n 0, 1) := by decide +kernel
theorem dX7_isWay_93 : decode cX7_isWay 93 = .ok (.getfield 105, 3) := by decide +kernel
theorem dX7_isWay_96 : decode cX7_isWay 96 = .ok (.if_icmp .ge 77, 3) := by decide +kernel
theorem dX7_isWay_99 : decode cX7_isWay 99 = .ok (.aload_n 0, 1) := by decide +kernel
theorem dX7_isWay_100 : decode cX7_isWay 100 = .ok (.getfield 31, 3) := by decide +kernel
theorem dX7_isWay_103 : decode cX7_isWay 103 = .ok (.iload_n 3, 1) := by decide +kernel
theorem dX7_isWay_104 : decode cX7_isWay 104 = .ok (.baload, 1) := by decide +kernel
theorem dX7_isWay_105 : decode cX7_isWay 105 = .ok (.ifCond .eq 62, 3) := by decide +kernel
theorem dX7_isWay_108 : decode cX7_isWay 108 = .ok (.aload_n 0, 1) := by decide +kernel
theorem dX7_isWay_109 : decode cX7_isWay 109 = .ok (.aload_n 0, 1) := by decide +kernel
theorem dX7_isWay_110 : decode cX7_isWay 110 = .ok (.getfield 25, 3) := by decide +kernel
theorem dX7_isWay_113 : decode cX7_isWay 113 = .ok (.iload_n 3, 1) := by decide +kernel
theorem dX7_isWay_114 : decode cX7_isWay 114 = .ok (.iaload, 1) := by decide +kernel
theorem dX7_isWay_115 : decode cX7_isWay 115 = .ok (.lconst 0, 1) := by decide +kernel
theorem dX7_isWay_116 : decode cX7_isWay 116 = .ok (.invokevirtual 142, 3) := by decide +kernel
theorem dX7_isWay_119 : decode cX7_isWay 119 = .ok (.istore 4, 2) := by decide +kernel
theorem dX7_isWay_121 : decode cX7_isWay 121 = .ok (.iconst 0, 1) := by decide +kernel
theorem dX7_isWay_122 : decode cX7_isWay 122 = .ok (.istore 5, 2) := by decide +kernel
theorem dX7_isWay_124 : decode cX7_isWay 124 = .ok (.iload 5, 2) := by decide +kernel
theorem dX7_isWay_126 : decode cX7_isWay 126 = .ok (.aload_n 0, 1) := by decide +kernel
theorem dX7_isWay_127 : decode cX7_isWay 127 = .ok (.getfield 125, 3) := by decide +kernel
theorem dX7_isWay_130 : decode cX7_isWay 130 = .ok (.if_icmp .ge 37, 3) := by decide +kernel
theorem dX7_isWay_133 : decode cX7_isWay 133 = .ok (.aload_n 0, 1) := by decide +kernel
theorem dX7_isWay_134 : decode cX7_isWay 134 = .ok (.getfield 65, 3) := by decide +kernel
theorem dX7_isWay_137 : decode cX7_isWay 137 = .ok (.iconst 5, 1) := by decide +kernel
theorem dX7_isWay_138 : decode cX7_isWay 138 = .ok (.iload 4, 2) := by decide +kernel
theorem dX7_isWay_140 : decode cX7_isWay 140 = .ok (.imul, 1) := by decide +kernel
theorem dX7_isWay_141 : decode cX7_isWay 141 = .ok (.iload 5, 2) := by decide +kernel
theorem dX7_isWay_143 : decode cX7_isWay 143 = .ok (.iadd, 1) := by decide +kernel
theorem dX7_isWay_144 : decode cX7_isWay 144 = .ok (.aload_n 0, 1) := by decide +kernel
theorem dX7_isWay_145 : decode cX7_isWay 145 = .ok (.getfield 35, 3) := by decide +kernel
theorem dX7_isWay_148 : decode cX7_isWay 148 = .ok (.iconst 5, 1) := by decide +kernel
theorem dX7_isWay_149 : decode cX7_isWay 149 = .ok (.iload_n 3, 1) := by decide +kernel
theorem dX7_isWay_150 : decode cX7_isWay 150 = .ok (.imul, 1) := by decide +kernel
theorem dX7_isWay_151 : decode cX7_isWay 151 = .ok (.aload_n 0, 1) := by decide +kernel
theorem dX7_isWay_152 : decode cX7_isWay 152 = .ok (.getfield 62, 3) := by decide +kernel
theorem dX7_isWay_155 : decode cX7_isWay 155 = .ok (.iload 5, 2) := by decide +kernel
theorem dX7_isWay_157 : decode cX7_isWay 157 = .ok (.iaload, 1) := by decide +kernel
theorem dX7_isWay_158 : decode cX7_isWay 158 = .ok (.iadd, 1) := by decide +kernel
theorem dX7_isWay_159 : decode cX7_isWay 159 = .ok (.iaload, 1) := by decide +kernel
theorem dX7_isWay_160 : decode cX7_isWay 160 = .ok (.iastore, 1) := by decide +kernel
theorem dX7_isWay_161 : decode cX7_isWay 161 = .ok (.iinc 5 1, 3) := by decide +kernel
theorem dX7_isWay_164 : decode cX7_isWay 164 = .ok (.goto (-40), 3) := by decide +kernel
theorem dX7_isWay_167 : decode cX7_isWay 167 = .ok (.iinc 3 1, 3) := by decide +kernel
theorem dX7_isWay_170 : decode cX7_isWay 170 = .ok (.goto (-79), 3) := by decide +kernel
theorem dX7_isWay_173 : decode cX7_isWay 173 = .ok (.iconst 0, 1) := by decide +kernel
theorem dX7_isWay_174 : decode cX7_isWay 174 = .ok (.istore_n 3, 1) := by decide +kernel
theorem dX7_isWay_175 : decode cX7_isWay 175 = .ok (.iload_n 3, 1) := by decide +kernel
theorem dX7_isWay_176 : decode cX7_isWay 176 = .ok (.aload_n 0, 1) := by decide +kernel
theorem dX7_isWay_177 : decode cX7_isWay 177 = .ok (.getfield 125, 3) := by decide +kernel
theorem dX7_isWay_180 : decode cX7_isWay 180 = .ok (.if_icmp .ge 25, 3) := by decide +kernel
theorem dX7_isWay_183 : decode cX7_isWay 183 = .ok (.aload_n 0, 1) := by decide +kernel
theorem dX7_isWay_184 : decode cX7_isWay 184 = .ok (.getfield 65, 3) := by decide +kernel
theorem dX7_isWay_187 : decode cX7_isWay 187 = .ok (.iconst 5, 1) := by decide +kernel
theorem dX7_isWay_188 : decode cX7_isWay 188 = .ok (.aload_n 0, 1) := by decide +kernel
theorem dX7_isWay_189 : decode cX7_isWay 189 = .ok (.iconst 1, 1) := by decide +kernel
theorem dX7_isWay_190 : decode cX7_isWay 190 = .ok (.lconst 0, 1) := by decide +kernel
theorem dX7_isWay_191 : decode cX7_isWay 191 = .ok (.invokevirtual 142, 3) := by decide +kernel
theorem dX7_isWay_194 : decode cX7_isWay 194 = .ok (.imul, 1) := by decide +kernel
theorem dX7_isWay_195 : decode cX7_isWay 195 = .ok (.iload_n 3, 1) := by decide +kernel
theorem dX7_isWay_196 : decode cX7_isWay 196 = .ok (.iadd, 1) := by decide +kernel
theorem dX7_isWay_197 : decode cX7_isWay 197 = .ok (.iconst 1, 1) := by decide +kernel
theorem dX7_isWay_198 : decode cX7_isWay 198 = .ok (.iastore, 1) := by decide +kernel
theorem dX7_isWay_199 : decode cX7_isWay 199 = .ok (.iinc 3 1, 3) := by decide +kernel
theorem dX7_isWay_202 : decode cX7_isWay 202 = .ok (.goto (-27), 3) := by decide +kernel
theorem dX7_isWay_205 : decode cX7_isWay 205 = .ok (.iconst 0, 1) := by decide +kernel
theorem dX7_isWay_206 : decode cX7_isWay 206 = .ok (.istore_n 3, 1) := by decide +kernel
theorem dX7_isWay_207 : decode cX7_isWay 207 = .ok (.aload_n 0, 1) := by decide +kernel
theorem dX7_isWay_208 : decode cX7_isWay 208 = .ok (.getfield 125, 3) := by decide +kernel
theorem dX7_isWay_211 : decode cX7_isWay 211 = .ok (.ifCond .le 14, 3) := by decide +kernel
theorem dX7_isWay_214 : decode cX7_isWay 214 = .ok (.aload_n 0, 1) := by decide +kernel
theorem dX7_isWay_215 : decode cX7_isWay 215 = .ok (.invokevirtual 157, 3) := by decide +kernel
theorem dX7_isWay_218 : decode cX7_isWay 218 = .ok (.ifCond .eq 7, 3) := by decide +kernel
theorem dX7_isWay_221 : decode cX7_isWay 221 = .ok (.iconst 1, 1) := by decide +kernel
theorem dX7_isWay_222 : decode cX7_isWay 222 = .ok (.goto 4, 3) := by decide +kernel
theorem dX7_isWay_225 : decode cX7_isWay 225 = .ok (.iconst 0, 1) := by decide +kernel
theorem dX7_isWay_226 : decode cX7_isWay 226 = .ok (.istore 4, 2) := by decide +kernel
theorem dX7_isWay_228 : decode cX7_isWay 228 = .ok (.iload 4, 2) := by decide +kernel
theorem dX7_isWay_230 : decode cX7_isWay 230 = .ok (.ifCond .eq 90, 3) := by decide +kernel
theorem dX7_isWay_233 : decode cX7_isWay 233 = .ok (.iload_n 3, 1) := by decide +kernel
theorem dX7_isWay_234 : decode cX7_isWay 234 = .ok (.ifCond .ne 86, 3) := by decide +kernel
theorem dX7_isWay_237 : decode cX7_isWay 237 = .ok (.aload_n 0, 1) := by decide +kernel
theorem dX7_isWay_238 : decode cX7_isWay 238 = .ok (.invokevirtual 161, 3) := by decide +kernel
theorem dX7_isWay_241 : decode cX7_isWay 241 = .ok (.ifCond .eq 70, 3) := by decide +kernel
theorem dX7_isWay_244 : decode cX7_isWay 244 = .ok (.aload_n 0, 1) := by decide +kernel
theorem dX7_isWay_245 : decode cX7_isWay 245 = .ok (.invokevirtual 164, 3) := by decide +kernel
theorem dX7_isWay_248 : decode cX7_isWay 248 = .ok (.ifCond .eq 63, 3) := by decide +kernel
theorem dX7_isWay_251 : decode cX7_isWay 251 = .ok (.lconst 0, 1) := by decide +kernel
theorem dX7_isWay_252 : decode cX7_isWay 252 = .ok (.lstore 5, 2) := by decide +kernel
theorem dX7_isWay_254 : decode cX7_isWay 254 = .ok (.iconst 0, 1) := by decide +kernel
theorem dX7_isWay_255 : decode cX7_isWay 255 = .ok (.istore 7, 2) := by decide +kernel
theorem dX7_isWay_257 : decode cX7_isWay 257 = .ok (.iload 7, 2) := by decide +kernel
theorem dX7_isWay_259 : decode cX7_isWay 259 = .ok (.aload_n 0, 1) := by decide +kernel
theorem dX7_isWay_260 : decode cX7_isWay 260 = .ok (.getfield 125, 3) := by decide +kernel
theorem dX7_isWay_263 : decode cX7_isWay 263 = .ok (.if_icmp .ge 35, 3) := by decide +kernel
theorem dX7_isWay_266 : decode cX7_isWay 266 = .ok (.lload 5, 2) := by decide +kernel
theorem dX7_isWay_268 : decode cX7_isWay 268 = .ok (.aload_n 0, 1) := by decide +kernel
theorem dX7_isWay_269 : decode cX7_isWay 269 = .ok (.getfield 19, 3) := by decide +kernel
theorem dX7_isWay_272 : decode cX7_isWay 272 = .ok (.aload_n 0, 1) := by decide +kernel
theorem dX7_isWay_273 : decode cX7_isWay 273 = .ok (.getfield 62, 3) := by decide +kernel
theorem dX7_isWay_276 : decode cX7_isWay 276 = .ok (.iload 7, 2) := by decide +kernel
theorem dX7_isWay_278 : decode cX7_isWay 278 = .ok (.iaload, 1) := by decide +kernel
theorem dX7_isWay_279 : decode cX7_isWay 279 = .ok (.iaload, 1) := by decide +kernel
theorem dX7_isWay_280 : decode cX7_isWay 280 = .ok (.i2l, 1) := by decide +kernel
theorem dX7_isWay_281 : decode cX7_isWay 281 = .ok (.aload_n 0, 1) := by decide +kernel
theorem dX7_isWay_282 : decode cX7_isWay 282 = .ok (.getfield 80, 3) := by decide +kernel
theorem dX7_isWay_285 : decode cX7_isWay 285 = .ok (.iload 7, 2) := by decide +kernel
theorem dX7_isWay_287 : decode cX7_isWay 287 = .ok (.laload, 1) := by decide +kernel
theorem dX7_isWay_288 : decode cX7_isWay 288 = .ok (.lmul, 1) := by decide +kernel
theorem dX7_isWay_289 : decode cX7_isWay 289 = .ok (.ladd, 1) := by decide +kernel
theorem dX7_isWay_290 : decode cX7_isWay 290 = .ok (.lstore 5, 2) := by decide +kernel
theorem dX7_isWay_292 : decode cX7_isWay 292 = .ok (.iinc 7 1, 3) := by decide +kernel
theorem dX7_isWay_295 : decode cX7_isWay 295 = .ok (.goto (-38), 3) := by decide +kernel
theorem dX7_isWay_298 : decode cX7_isWay 298 = .ok (.lload 5, 2) := by decide +kernel
theorem dX7_isWay_300 : decode cX7_isWay 300 = .ok (.lconst 0, 1) := by decide +kernel
theorem dX7_isWay_301 : decode cX7_isWay 301 = .ok (.lcmp, 1) := by decide +kernel
theorem dX7_isWay_302 : decode cX7_isWay 302 = .ok (.ifCond .ge 7, 3) := by decide +kernel
theorem dX7_isWay_305 : decode cX7_isWay 305 = .ok (.iconst 1, 1) := by decide +kernel
theorem dX7_isWay_306 : decode cX7_isWay 306 = .ok (.goto 4, 3) := by decide +kernel
theorem dX7_isWay_309 : decode cX7_isWay 309 = .ok (.iconst 0, 1) := by decide +kernel
theorem dX7_isWay_310 : decode cX7_isWay 310 = .ok (.istore_n 3, 1) := by decide +kernel
theorem dX7_isWay_311 : decode cX7_isWay 311 = .ok (.aload_n 0, 1) := by decide +kernel
theorem dX7_isWay_312 : decode cX7_isWay 312 = .ok (.invokevirtual 170, 3) := by decide +kernel
theorem dX7_isWay_315 : decode cX7_isWay 315 = .ok (.istore 4, 2) := by decide +kernel
theorem dX7_isWay_317 : decode cX7_isWay 317 = .ok (.goto (-89), 3) := by decide +kernel
theorem dX7_isWay_320 : decode cX7_isWay 320 = .ok (.iload_n 3, 1) := by decide +kernel
theorem dX7_isWay_321 : decode cX7_isWay 321 = .ok (.ireturn, 1) := by decide +kernel
theorem dX7_isEndless_0 : decode cX7_isEndless 0 = .ok (.iconst 0, 1) := by decide +kernel
theorem dX7_isEndless_1 : decode cX7_isEndless 1 = .ok (.istore_n 1, 1) := by decide +kernel
theorem dX7_isEndless_2 : decode cX7_isEndless 2 = .ok (.iconst 0, 1) := by decide +kernel
theorem dX7_isEndless_3 : decode cX7_isEndless 3 = .ok (.istore_n 2, 1) := by decide +kernel
theorem dX7_isEndless_4 : decode cX7_isEndless 4 = .ok (.iload_n 2, 1) := by decide +kernel
theorem dX7_isEndless_5 : decode cX7_isEndless 5 = .ok (.aload_n 0, 1) := by decide +kernel
theorem dX7_isEndless_6 : decode cX7_isEndless 6 = .ok (.getfield 98, 3) := by decide +kernel
theorem dX7_isEndless_9 : decode cX7_isEndless 9 = .ok (.if_icmp .ge 39, 3) := by decide +kernel
theorem dX7_isEndless_12 : decode cX7_isEndless 12 = .ok (.iload_n 1, 1) := by decide +kernel
theorem dX7_isEndless_13 : decode cX7_isEndless 13 = .ok (.aload_n 0, 1) := by decide +kernel
theorem dX7_isEndless_14 : decode cX7_isEndless 14 = .ok (.getfield 83, 3) := by decide +kernel
theorem dX7_isEndless_17 : decode cX7_isEndless 17 = .ok (.iload_n 2, 1) := by decide +kernel
theorem dX7_isEndless_18 : decode cX7_isEndless 18 = .ok (.baload, 1) := by decide +kernel
theorem dX7_isEndless_19 : decode cX7_isEndless 19 = .ok (.ifCond .ne 20, 3) := by decide +kernel
theorem dX7_isEndless_22 : decode cX7_isEndless 22 = .ok (.aload_n 0, 1) := by decide +kernel
theorem dX7_isEndless_23 : decode cX7_isEndless 23 = .ok (.getfield 16, 3) := by decide +kernel
theorem dX7_isEndless_26 : decode cX7_isEndless 26 = .ok (.iload_n 2, 1) := by decide +kernel
theorem dX7_isEndless_27 : decode cX7_isEndless 27 = .ok (.iaload, 1) := by decide +kernel
theorem dX7_isEndless_28 : decode cX7_isEndless 28 = .ok (.ldc 108, 2) := by decide +kernel
theorem dX7_isEndless_30 : decode cX7_isEndless 30 = .ok (.if_icmp .ne 9, 3) := by decide +kernel
theorem dX7_isEndless_33 : decode cX7_isEndless 33 = .ok (.iconst 1, 1) := by decide +kernel
theorem dX7_isEndless_34 : decode cX7_isEndless 34 = .ok (.iload_n 2, 1) := by decide +kernel
theorem dX7_isEndless_35 : decode cX7_isEndless 35 = .ok (.ishl, 1) := by decide +kernel
theorem dX7_isEndless_36 : decode cX7_isEndless 36 = .ok (.goto 4, 3) := by decide +kernel
theorem dX7_isEndless_39 : decode cX7_isEndless 39 = .ok (.iconst 0, 1) := by decide +kernel
theorem dX7_isEndless_40 : decode cX7_isEndless 40 = .ok (.ior, 1) := by decide +kernel
theorem dX7_isEndless_41 : decode cX7_isEndless 41 = .ok (.istore_n 1, 1) := by decide +kernel
theorem dX7_isEndless_42 : decode cX7_isEndless 42 = .ok (.iinc 2 1, 3) := by decide +kernel
theorem dX7_isEndless_45 : decode cX7_isEndless 45 = .ok (.goto (-41), 3) := by decide +kernel
theorem dX7_isEndless_48 : decode cX7_isEndless 48 = .ok (.aload_n 0, 1) := by decide +kernel
theorem dX7_isEndless_49 : decode cX7_isEndless 49 = .ok (.getfield 95, 3) := by decide +kernel
theorem dX7_isEndless_52 : decode cX7_isEndless 52 = .ok (.iload_n 1, 1) := by decide +kernel
theorem dX7_isEndless_53 : decode cX7_isEndless 53 = .ok (.iaload, 1) := by decide +kernel
theorem dX7_isEndless_54 : decode cX7_isEndless 54 = .ok (.ifCond .ne 22, 3) := by decide +kernel
theorem dX7_isEndless_57 : decode cX7_isEndless 57 = .ok (.aload_n 0, 1) := by decide +kernel
theorem dX7_isEndless_58 : decode cX7_isEndless 58 = .ok (.getfield 95, 3) := by decide +kernel
theorem dX7_isEndless_61 : decode cX7_isEndless 61 = .ok (.iload_n 1, 1) := by decide +kernel
theorem dX7_isEndless_62 : decode cX7_isEndless 62 = .ok (.aload_n 0, 1) := by decide +kernel
theorem dX7_isEndless_63 : decode cX7_isEndless 63 = .ok (.iload_n 1, 1) := by decide +kernel
theorem dX7_isEndless_64 : decode cX7_isEndless 64 = .ok (.invokevirtual 173, 3) := by decide +kernel
theorem dX7_isEndless_67 : decode cX7_isEndless 67 = .ok (.ifCond .eq 7, 3) := by decide +kernel
theorem dX7_isEndless_70 : decode cX7_isEndless 70 = .ok (.iconst 2, 1) := by decide +kernel
theorem dX7_isEndless_71 : decode cX7_isEndless 71 = .ok (.goto 4, 3) := by decide +kernel
theorem dX7_isEndless_74 : decode cX7_isEndless 74 = .ok (.iconst 1, 1) := by decide +kernel
theorem dX7_isEndless_75 : decode cX7_isEndless 75 = .ok (.iastore, 1) := by decide +kernel
theorem dX7_isEndless_76 : decode cX7_isEndless 76 = .ok (.aload_n 0, 1) := by decide +kernel
theorem dX7_isEndless_77 : decode cX7_isEndless 77 = .ok (.getfield 95, 3) := by decide +kernel
theorem dX7_isEndless_80 : decode cX7_isEndless 80 = .ok (.iload_n 1, 1) := by decide +kernel
theorem dX7_isEndless_81 : decode cX7_isEndless 81 = .ok (.iaload, 1) := by decide +kernel
theorem dX7_isEndless_82 : decode cX7_isEndless 82 = .ok (.iconst 2, 1) := by decide +kernel
theorem dX7_isEndless_83 : decode cX7_isEndless 83 = .ok (.if_icmp .ne 7, 3) := by decide +kernel
theorem dX7_isEndless_86 : decode cX7_isEndless 86 = .ok (.iconst 1, 1) := by decide +kernel
theorem dX7_isEndless_87 : decode cX7_isEndless 87 = .ok (.goto 4, 3) := by decide +kernel
theorem dX7_isEndless_90 : decode cX7_isEndless 90 = .ok (.iconst 0, 1) := by decide +kernel
theorem dX7_isEndless_91 : decode cX7_isEndless 91 = .ok (.ireturn, 1) := by decide +kernel
set_option maxRecDepth 20000 in
theorem ggX7_tryFixed_X7_counting : GoodIn wsX7_tryFixed wsX7_counting := goodIn_r _ [7, 8, 9, 91, 92, 93, 94, 95, 96, 97, 98, 99, 100, 101, 102, 103, 104, 105, 106, 107, 108, 109, 110, 111, 112, 113, 114, 115, 116, 117, 118, 119, 120, 121, 122, 123, 124, 125, 126, 127, 128] (by decide +kernel) (by decide +kernel)
set_option maxRecDepth 20000 in
theorem gX7_tryFixed_X7_counting : GoodIn wsX7_tryFixed (wsV RX7 176 RX7 yX7_counting wsX7_counting) := goodIn_app (goodIn_of _ (by decide +kernel)) ggX7_tryFixed_X7_counting
theorem dX7_tryFixed_0 : decode cX7_tryFixed 0 = .ok (.aload_n 0, 1) := by decide +kernel
theorem dX7_tryFixed_1 : decode cX7_tryFixed 1 = .ok (.aload_n 0, 1) := by decide +kernel
theorem dX7_tryFixed_2 : decode cX7_tryFixed 2 = .ok (.invokevirtual 176, 3) := by decide +kernel
theorem dX7_tryFixed_5 : decode cX7_tryFixed 5 = .ok (.invokevirtual 180, 3) := by decide +kernel
theorem dX7_tryFixed_8 : decode cX7_tryFixed 8 = .ok (.aload_n 0, 1) := by decide +kernel
theorem dX7_tryFixed_9 : decode cX7_tryFixed 9 = .ok (.iconst 0, 1) := by decide +kernel
theorem dX7_tryFixed_10 : decode cX7_tryFixed 10 = .ok (.invokevirtual 184, 3) := by decide +kernel
theorem dX7_tryFixed_13 : decode cX7_tryFixed 13 = .ok (.ifCond .eq 31, 3) := by decide +kernel
theorem dX7_tryFixed_16 : decode cX7_tryFixed 16 = .ok (.aload_n 0, 1) := by decide +kernel
theorem dX7_tryFixed_17 : decode cX7_tryFixed 17 = .ok (.iconst 1, 1) := by decide +kernel
theorem dX7_tryFixed_18 : decode cX7_tryFixed 18 = .ok (.putfield 188, 3) := by decide +kernel
theorem dX7_tryFixed_21 : decode cX7_tryFixed 21 = .ok (.aload_n 0, 1) := by decide +kernel
theorem dX7_tryFixed_22 : decode cX7_tryFixed 22 = .ok (.aload_n 0, 1) := by decide +kernel
theorem dX7_tryFixed_23 : decode cX7_tryFixed 23 = .ok (.getfield 191, 3) := by decide +kernel
theorem dX7_tryFixed_26 : decode cX7_tryFixed 26 = .ok (.ifCond .ne 10, 3) := by decide +kernel
theorem dX7_tryFixed_29 : decode cX7_tryFixed 29 = .ok (.aload_n 0, 1) := by decide +kernel
theorem dX7_tryFixed_30 : decode cX7_tryFixed 30 = .ok (.invokevirtual 194, 3) := by decide +kernel
theorem dX7_tryFixed_33 : decode cX7_tryFixed 33 = .ok (.ifCond .eq 7, 3) := by decide +kernel
theorem dX7_tryFixed_36 : decode cX7_tryFixed 36 = .ok (.iconst 1, 1) := by decide +kernel
theorem dX7_tryFixed_37 : decode cX7_tryFixed 37 = .ok (.goto 4, 3) := by decide +kernel
theorem dX7_tryFixed_40 : decode cX7_tryFixed 40 = .ok (.iconst 0, 1) := by decide +kernel
theorem dX7_tryFixed_41 : decode cX7_tryFixed 41 = .ok (.putfield 191, 3) := by decide +kernel
theorem dX7_tryFixed_44 : decode cX7_tryFixed 44 = .ok (.return_, 1) := by decide +kernel
theorem dX7_fixPartners_0 : decode cX7_fixPartners 0 = .ok (.iconst 0, 1) := by decide +kernel
theorem dX7_fixPartners_1 : decode cX7_fixPartners 1 = .ok (.istore_n 1, 1) := by decide +kernel
theorem dX7_fixPartners_2 : decode cX7_fixPartners 2 = .ok (.iload_n 1, 1) := by decide +kernel
theorem dX7_fixPartners_3 : decode cX7_fixPartners 3 = .ok (.aload_n 0, 1) := by decide +kernel
theorem dX7_fixPartners_4 : decode cX7_fixPartners 4 = .ok (.getfield 98, 3) := by decide +kernel
theorem dX7_fixPartners_7 : decode cX7_fixPartners 7 = .ok (.if_icmp .ge 110, 3) := by decide +kernel
theorem dX7_fixPartners_10 : decode cX7_fixPartners 10 = .ok (.aload_n 0, 1) := by decide +kernel
theorem dX7_fixPartners_11 : decode cX7_fixPartners 11 = .ok (.getfield 22, 3) := by decide +kernel
theorem dX7_fixPartners_14 : decode cX7_fixPartners 14 = .ok (.iload_n 1, 1) := by decide +kernel
theorem dX7_fixPartners_15 : decode cX7_fixPartners 15 = .ok (.iaload, 1) := by decide +kernel
theorem dX7_fixPartners_16 : decode cX7_fixPartners 16 = .ok (.istore_n 2, 1) := by decide +kernel
theorem dX7_fixPartners_17 : decode cX7_fixPartners 17 = .ok (.aload_n 0, 1) := by decide +kernel
theorem dX7_fixPartners_18 : decode cX7_fixPartners 18 = .ok (.getfield 7, 3) := by decide +kernel
theorem dX7_fixPartners_21 : decode cX7_fixPartners 21 = .ok (.iload_n 1, 1) := by decide +kernel
theorem dX7_fixPartners_22 : decode cX7_fixPartners 22 = .ok (.iaload, 1) := by decide +kernel
theorem dX7_fixPartners_23 : decode cX7_fixPartners 23 = .ok (.iconst 2, 1) := by decide +kernel
theorem dX7_fixPartners_24 : decode cX7_fixPartners 24 = .ok (.if_icmp .ne 87, 3) := by decide +kernel
theorem dX7_fixPartners_27 : decode cX7_fixPartners 27 = .ok (.iload_n 2, 1) := by decide +kernel
theorem dX7_fixPartners_28 : decode cX7_fixPartners 28 = .ok (.ldc 108, 2) := by decide +kernel
theorem dX7_fixPartners_30 : decode cX7_fixPartners 30 = .ok (.if_icmp .eq 81, 3) := by decide +kernel
theorem dX7_fixPartners_33 : decode cX7_fixPartners 33 = .ok (.aload_n 0, 1) := by decide +kernel
theorem dX7_fixPartners_34 : decode cX7_fixPartners 34 = .ok (.getfield 86, 3) := by decide +kernel
theorem dX7_fixPartners_37 : decode cX7_fixPartners 37 = .ok (.iload_n 1, 1) := by decide +kernel
theorem dX7_fixPartners_38 : decode cX7_fixPartners 38 = .ok (.laload, 1) := by decide +kernel
theorem dX7_fixPartners_39 : decode cX7_fixPartners 39 = .ok (.lconst 0, 1) := by decide +kernel
theorem dX7_fixPartners_40 : decode cX7_fixPartners 40 = .ok (.lcmp, 1) := by decide +kernel
theorem dX7_fixPartners_41 : decode cX7_fixPartners 41 = .ok (.ifCond .ne 70, 3) := by decide +kernel
theorem dX7_fixPartners_44 : decode cX7_fixPartners 44 = .ok (.aload_n 0, 1) := by decide +kernel
theorem dX7_fixPartners_45 : decode cX7_fixPartners 45 = .ok (.getfield 7, 3) := by decide +kernel
theorem dX7_fixPartners_48 : decode cX7_fixPartners 48 = .ok (.iload_n 2, 1) := by decide +kernel
theorem dX7_fixPartners_49 : decode cX7_fixPartners 49 = .ok (.iaload, 1) := by decide +kernel
theorem dX7_fixPartners_50 : decode cX7_fixPartners 50 = .ok (.ifCond .le 16, 3) := by decide +kernel
theorem dX7_fixPartners_53 : decode cX7_fixPartners 53 = .ok (.aload_n 0, 1) := by decide +kernel
theorem dX7_fixPartners_54 : decode cX7_fixPartners 54 = .ok (.getfield 86, 3) := by decide +kernel
theorem dX7_fixPartners_57 : decode cX7_fixPartners 57 = .ok (.iload_n 2, 1) := by decide +kernel
theorem dX7_fixPartners_58 : decode cX7_fixPartners 58 = .ok (.laload, 1) := by decide +kernel
theorem dX7_fixPartners_59 : decode cX7_fixPartners 59 = .ok (.lconst 0, 1) := by decide +kernel
theorem dX7_fixPartners_60 : decode cX7_fixPartners 60 = .ok (.lcmp, 1) := by decide +kernel
theorem dX7_fixPartners_61 : decode cX7_fixPartners 61 = .ok (.ifCond .eq 50, 3) := by decide +kernel
theorem dX7_fixPartners_64 : decode cX7_fixPartners 64 = .ok (.iconst 0, 1) := by decide +kernel
theorem dX7_fixPartners_65 : decode cX7_fixPartners 65 = .ok (.ireturn, 1) := by decide +kernel
theorem dX7_fixPartners_66 : decode cX7_fixPartners 66 = .ok (.aload_n 0, 1) := by decide +kernel
theorem dX7_fixPartners_67 : decode cX7_fixPartners 67 = .ok (.getfield 13, 3) := by decide +kernel
theorem dX7_fixPartners_70 : decode cX7_fixPartners 70 = .ok (.iload_n 2, 1) := by decide +kernel
theorem dX7_fixPartners_71 : decode cX7_fixPartners 71 = .ok (.iaload, 1) := by decide +kernel
theorem dX7_fixPartners_72 : decode cX7_fixPartners 72 = .ok (.ifCond .gt 23, 3) := by decide +kernel
theorem dX7_fixPartners_75 : decode cX7_fixPartners 75 = .ok (.aload_n 0, 1) := by decide +kernel
theorem dX7_fixPartners_76 : decode cX7_fixPartners 76 = .ok (.getfield 16, 3) := by decide +kernel
theorem dX7_fixPartners_79 : decode cX7_fixPartners 79 = .ok (.iload_n 2, 1) := by decide +kernel
theorem dX7_fixPartners_80 : decode cX7_fixPartners 80 = .ok (.iaload, 1) := by decide +kernel
theorem dX7_fixPartners_81 : decode cX7_fixPartners 81 = .ok (.ldc 108, 2) := by decide +kernel
theorem dX7_fixPartners_83 : decode cX7_fixPartners 83 = .ok (.if_icmp .eq 14, 3) := by decide +kernel
theorem dX7_fixPartners_86 : decode cX7_fixPartners 86 = .ok (.aload_n 0, 1) := by decide +kernel
theorem dX7_fixPartners_87 : decode cX7_fixPartners 87 = .ok (.getfield 16, 3) := by decide +kernel
theorem dX7_fixPartners_90 : decode cX7_fixPartners 90 = .ok (.iload_n 2, 1) := by decide +kernel
theorem dX7_fixPartners_91 : decode cX7_fixPartners 91 = .ok (.iaload, 1) := by decide +kernel
theorem dX7_fixPartners_92 : decode cX7_fixPartners 92 = .ok (.ifCond .ge 5, 3) := by decide +kernel
theorem dX7_fixPartners_95 : decode cX7_fixPartners 95 = .ok (.iconst 0, 1) := by decide +kernel
theorem dX7_fixPartners_96 : decode cX7_fixPartners 96 = .ok (.ireturn, 1) := by decide +kernel
theorem dX7_fixPartners_97 : decode cX7_fixPartners 97 = .ok (.aload_n 0, 1) := by decide +kernel
theorem dX7_fixPartners_98 : decode cX7_fixPartners 98 = .ok (.getfield 83, 3) := by decide +kernel
theorem dX7_fixPartners_101 : decode cX7_fixPartners 101 = .ok (.iload_n 2, 1) := by decide +kernel
theorem dX7_fixPartners_102 : decode cX7_fixPartners 102 = .ok (.iconst 1, 1) := by decide +kernel
theorem dX7_fixPartners_103 : decode cX7_fixPartners 103 = .ok (.bastore, 1) := by decide +kernel
theorem dX7_fixPartners_104 : decode cX7_fixPartners 104 = .ok (.aload_n 0, 1) := by decide +kernel
theorem dX7_fixPartners_105 : decode cX7_fixPartners 105 = .ok (.getfield 86, 3) := by decide +kernel
theorem dX7_fixPartners_108 : decode cX7_fixPartners 108 = .ok (.iload_n 2, 1) := by decide +kernel
theorem dX7_fixPartners_109 : decode cX7_fixPartners 109 = .ok (.lconst 0, 1) := by decide +kernel
theorem dX7_fixPartners_110 : decode cX7_fixPartners 110 = .ok (.lastore, 1) := by decide +kernel
theorem dX7_fixPartners_111 : decode cX7_fixPartners 111 = .ok (.iinc 1 1, 3) := by decide +kernel
theorem dX7_fixPartners_114 : decode cX7_fixPartners 114 = .ok (.goto (-112), 3) := by decide +kernel
theorem dX7_fixPartners_117 : decode cX7_fixPartners 117 = .ok (.iconst 1, 1) := by decide +kernel
theorem dX7_fixPartners_118 : decode cX7_fixPartners 118 = .ok (.ireturn, 1) := by decide +kernel
theorem dX7_nextWhole_0 : decode cX7_nextWhole 0 = .ok (.iconst 0, 1) := by decide +kernel
theorem dX7_nextWhole_1 : decode cX7_nextWhole 1 = .ok (.istore_n 1, 1) := by decide +kernel
theorem dX7_nextWhole_2 : decode cX7_nextWhole 2 = .ok (.iload_n 1, 1) := by decide +kernel
theorem dX7_nextWhole_3 : decode cX7_nextWhole 3 = .ok (.aload_n 0, 1) := by decide +kernel
theorem dX7_nextWhole_4 : decode cX7_nextWhole 4 = .ok (.getfield 98, 3) := by decide +kernel
theorem dX7_nextWhole_7 : decode cX7_nextWhole 7 = .ok (.if_icmp .ge 60, 3) := by decide +kernel
theorem dX7_nextWhole_10 : decode cX7_nextWhole 10 = .ok (.aload_n 0, 1) := by decide +kernel
theorem dX7_nextWhole_11 : decode cX7_nextWhole 11 = .ok (.getfield 7, 3) := by decide +kernel
theorem dX7_nextWhole_14 : decode cX7_nextWhole 14 = .ok (.iload_n 1, 1) := by decide +kernel
theorem dX7_nextWhole_15 : decode cX7_nextWhole 15 = .ok (.iaload, 1) := by decide +kernel
theorem dX7_nextWhole_16 : decode cX7_nextWhole 16 = .ok (.ifCond .le 45, 3) := by decide +kernel
theorem dX7_nextWhole_19 : decode cX7_nextWhole 19 = .ok (.aload_n 0, 1) := by decide +kernel
theorem dX7_nextWhole_20 : decode cX7_nextWhole 20 = .ok (.getfield 86, 3) := by decide +kernel
theorem dX7_nextWhole_23 : decode cX7_nextWhole 23 = .ok (.iload_n 1, 1) := by decide +kernel
theorem dX7_nextWhole_24 : decode cX7_nextWhole 24 = .ok (.dup2, 1) := by decide +kernel
theorem dX7_nextWhole_25 : decode cX7_nextWhole 25 = .ok (.laload, 1) := by decide +kernel
theorem dX7_nextWhole_26 : decode cX7_nextWhole 26 = .ok (.lconst 1, 1) := by decide +kernel
theorem dX7_nextWhole_27 : decode cX7_nextWhole 27 = .ok (.ladd, 1) := by decide +kernel
theorem dX7_nextWhole_28 : decode cX7_nextWhole 28 = .ok (.lastore, 1) := by decide +kernel
theorem dX7_nextWhole_29 : decode cX7_nextWhole 29 = .ok (.aload_n 0, 1) := by decide +kernel
theorem dX7_nextWhole_30 : decode cX7_nextWhole 30 = .ok (.getfield 86, 3) := by decide +kernel
theorem dX7_nextWhole_33 : decode cX7_nextWhole 33 = .ok (.iload_n 1, 1) := by decide +kernel
theorem dX7_nextWhole_34 : decode cX7_nextWhole 34 = .ok (.laload, 1) := by decide +kernel
theorem dX7_nextWhole_35 : decode cX7_nextWhole 35 = .ok (.aload_n 0, 1) := by decide +kernel
theorem dX7_nextWhole_36 : decode cX7_nextWhole 36 = .ok (.getfield 16, 3) := by decide +kernel
theorem dX7_nextWhole_39 : decode cX7_nextWhole 39 = .ok (.iload_n 1, 1) := by decide +kernel
theorem dX7_nextWhole_40 : decode cX7_nextWhole 40 = .ok (.iaload, 1) := by decide +kernel
theorem dX7_nextWhole_41 : decode cX7_nextWhole 41 = .ok (.i2l, 1) := by decide +kernel
theorem dX7_nextWhole_42 : decode cX7_nextWhole 42 = .ok (.lcmp, 1) := by decide +kernel
theorem dX7_nextWhole_43 : decode cX7_nextWhole 43 = .ok (.ifCond .gt 5, 3) := by decide +kernel
theorem dX7_nextWhole_46 : decode cX7_nextWhole 46 = .ok (.iconst 1, 1) := by decide +kernel
theorem dX7_nextWhole_47 : decode cX7_nextWhole 47 = .ok (.ireturn, 1) := by decide +kernel
theorem dX7_nextWhole_48 : decode cX7_nextWhole 48 = .ok (.aload_n 0, 1) := by decide +kernel
theorem dX7_nextWhole_49 : decode cX7_nextWhole 49 = .ok (.getfield 86, 3) := by decide +kernel
theorem dX7_nextWhole_52 : decode cX7_nextWhole 52 = .ok (.iload_n 1, 1) := by decide +kernel
theorem dX7_nextWhole_53 : decode cX7_nextWhole 53 = .ok (.aload_n 0, 1) := by decide +kernel
theorem dX7_nextWhole_54 : decode cX7_nextWhole 54 = .ok (.getfield 13, 3) := by decide +kernel
theorem dX7_nextWhole_57 : decode cX7_nextWhole 57 = .ok (.iload_n 1, 1) := by decide +kernel
theorem dX7_nextWhole_58 : decode cX7_nextWhole 58 = .ok (.iaload, 1) := by decide +kernel
theorem dX7_nextWhole_59 : decode cX7_nextWhole 59 = .ok (.i2l, 1) := by decide +kernel
theorem dX7_nextWhole_60 : decode cX7_nextWhole 60 = .ok (.lastore, 1) := by decide +kernel
theorem dX7_nextWhole_61 : decode cX7_nextWhole 61 = .ok (.iinc 1 1, 3) := by decide +kernel
theorem dX7_nextWhole_64 : decode cX7_nextWhole 64 = .ok (.goto (-62), 3) := by decide +kernel
theorem dX7_nextWhole_67 : decode cX7_nextWhole 67 = .ok (.iconst 0, 1) := by decide +kernel
theorem dX7_nextWhole_68 : decode cX7_nextWhole 68 = .ok (.ireturn, 1) := by decide +kernel
theorem dX7_fixWhole_0 : decode cX7_fixWhole 0 = .ok (.iconst 0, 1) := by decide +kernel
theorem dX7_fixWhole_1 : decode cX7_fixWhole 1 = .ok (.istore_n 2, 1) := by decide +kernel
theorem dX7_fixWhole_2 : decode cX7_fixWhole 2 = .ok (.iload_n 2, 1) := by decide +kernel
theorem dX7_fixWhole_3 : decode cX7_fixWhole 3 = .ok (.aload_n 0, 1) := by decide +kernel
theorem dX7_fixWhole_4 : decode cX7_fixWhole 4 = .ok (.getfield 98, 3) := by decide +kernel
theorem dX7_fixWhole_7 : decode cX7_fixWhole 7 = .ok (.if_icmp .ge 33, 3) := by decide +kernel
theorem dX7_fixWhole_10 : decode cX7_fixWhole 10 = .ok (.aload_n 0, 1) := by decide +kernel
theorem dX7_fixWhole_11 : decode cX7_fixWhole 11 = .ok (.getfield 83, 3) := by decide +kernel
theorem dX7_fixWhole_14 : decode cX7_fixWhole 14 = .ok (.iload_n 2, 1) := by decide +kernel
theorem dX7_fixWhole_15 : decode cX7_fixWhole 15 = .ok (.iload_n 1, 1) := by decide +kernel
theorem dX7_fixWhole_16 : decode cX7_fixWhole 16 = .ok (.ifCond .eq 16, 3) := by decide +kernel
theorem dX7_fixWhole_19 : decode cX7_fixWhole 19 = .ok (.aload_n 0, 1) := by decide +kernel
theorem dX7_fixWhole_20 : decode cX7_fixWhole 20 = .ok (.getfield 7, 3) := by decide +kernel
theorem dX7_fixWhole_23 : decode cX7_fixWhole 23 = .ok (.iload_n 2, 1) := by decide +kernel
theorem dX7_fixWhole_24 : decode cX7_fixWhole 24 = .ok (.iaload, 1) := by decide +kernel
theorem dX7_fixWhole_25 : decode cX7_fixWhole 25 = .ok (.ifCond .le 7, 3) := by decide +kernel
theorem dX7_fixWhole_28 : decode cX7_fixWhole 28 = .ok (.iconst 1, 1) := by decide +kernel
theorem dX7_fixWhole_29 : decode cX7_fixWhole 29 = .ok (.goto 4, 3) := by decide +kernel
theorem dX7_fixWhole_32 : decode cX7_fixWhole 32 = .ok (.iconst 0, 1) := by decide +kernel
theorem dX7_fixWhole_33 : decode cX7_fixWhole 33 = .ok (.bastore, 1) := by decide +kernel
theorem dX7_fixWhole_34 : decode cX7_fixWhole 34 = .ok (.iinc 2 1, 3) := by decide +kernel
theorem dX7_fixWhole_37 : decode cX7_fixWhole 37 = .ok (.goto (-35), 3) := by decide +kernel
theorem dX7_fixWhole_40 : decode cX7_fixWhole 40 = .ok (.return_, 1) := by decide +kernel
set_option maxRecDepth 20000 in
theorem ggX7_search_X7_fixWhole : GoodIn wsX7_search wsX7_fixWhole := goodIn_r _ [17, 7, 18, 19, 111, 112, 113, 114, 115, 116, 117, 118, 119, 120, 121, 122, 123, 124, 125, 126, 127, 128, 129, 130, 131, 132, 133, 134, 135, 136, 137, 138, 139, 140, 141, 142, 143, 144, 145, 146, 147, 148] (by decide +kernel) (by decide +kernel)
set_option maxRecDepth 20000 in
theorem gX7_search_X7_fixWhole : GoodIn wsX7_search (wsV RX7 197 RX7 yX7_fixWhole wsX7_fixWhole) := goodIn_app (goodIn_of _ (by decide +kernel)) ggX7_search_X7_fixWhole
set_option maxRecDepth 20000 in
theorem ggX7_search_X7_fixPartners : GoodIn wsX7_search wsX7_fixPartners := goodIn_r _ [23, 7, 24, 19, 25, 6, 8, 26, 18, 111, 112, 113, 114, 115, 116, 117, 118, 119, 120, 121, 122, 123, 124, 125, 126, 127, 128, 129, 130, 131, 132, 133, 134, 135, 136, 137, 138, 139, 140, 141, 142, 143, 144, 145, 146, 147, 148] (by decide +kernel) (by decide +kernel)
set_option maxRecDepth 20000 in
theorem gX7_search_X7_fixPartners : GoodIn wsX7_search (wsV RX7 201 RX7 yX7_fixPartners wsX7_fixPartners) := goodIn_app (goodIn_of _ (by decide +kernel)) ggX7_search_X7_fixPartners
set_option maxRecDepth 20000 in
theorem ggX7_search_X7_nextWhole : GoodIn wsX7_search wsX7_nextWhole := goodIn_r _ [110, 7, 19, 6, 26, 8, 111, 112, 113, 114, 115, 116, 117, 118, 119, 120, 121, 122, 123, 124, 125, 126, 127, 128, 129, 130, 131, 132, 133, 134, 135, 136, 137, 138, 139, 140, 141, 142, 143, 144, 145, 146, 147, 148] (by decide +kernel) (by decide +kernel)
set_option maxRecDepth 20000 in
theorem gX7_search_X7_nextWhole : GoodIn wsX7_search (wsV RX7 207 RX7 yX7_nextWhole wsX7_nextWhole) := goodIn_app (goodIn_of _ (by decide +kernel)) ggX7_search_X7_nextWhole
theorem dX7_search_0 : decode cX7_search 0 = .ok (.aload_n 0, 1) := by decide +kernel
theorem dX7_search_1 : decode cX7_search 1 = .ok (.iconst 0, 1) := by decide +kernel
theorem dX7_search_2 : decode cX7_search 2 = .ok (.putfield 146, 3) := by decide +kernel
theorem dX7_search_5 : decode cX7_search 5 = .ok (.aload_n 0, 1) := by decide +kernel
theorem dX7_search_6 : decode cX7_search 6 = .ok (.iconst 0, 1) := by decide +kernel
theorem dX7_search_7 : decode cX7_search 7 = .ok (.putfield 188, 3) := by decide +kernel
theorem dX7_search_10 : decode cX7_search 10 = .ok (.aload_n 0, 1) := by decide +kernel
theorem dX7_search_11 : decode cX7_search 11 = .ok (.iconst 0, 1) := by decide +kernel
theorem dX7_search_12 : decode cX7_search 12 = .ok (.putfield 191, 3) := by decide +kernel
theorem dX7_search_15 : decode cX7_search 15 = .ok (.iconst 0, 1) := by decide +kernel
theorem dX7_search_16 : decode cX7_search 16 = .ok (.istore_n 2, 1) := by decide +kernel
theorem dX7_search_17 : decode cX7_search 17 = .ok (.iload_n 2, 1) := by decide +kernel
theorem dX7_search_18 : decode cX7_search 18 = .ok (.bipush 32, 2) := by decide +kernel
theorem dX7_search_20 : decode cX7_search 20 = .ok (.if_icmp .ge 16, 3) := by decide +kernel
theorem dX7_search_23 : decode cX7_search 23 = .ok (.aload_n 0, 1) := by decide +kernel
theorem dX7_search_24 : decode cX7_search 24 = .ok (.getfield 95, 3) := by decide +kernel
theorem dX7_search_27 : decode cX7_search 27 = .ok (.iload_n 2, 1) := by decide +kernel
theorem dX7_search_28 : decode cX7_search 28 = .ok (.iconst 0, 1) := by decide +kernel
theorem dX7_search_29 : decode cX7_search 29 = .ok (.iastore, 1) := by decide +kernel
theorem dX7_search_30 : decode cX7_search 30 = .ok (.iinc 2 1, 3) := by decide +kernel
theorem dX7_search_33 : decode cX7_search 33 = .ok (.goto (-16), 3) := by decide +kernel
theorem dX7_search_36 : decode cX7_search 36 = .ok (.iconst 0, 1) := by decide +kernel
theorem dX7_search_37 : decode cX7_search 37 = .ok (.istore_n 2, 1) := by decide +kernel
theorem dX7_search_38 : decode cX7_search 38 = .ok (.iload_n 2, 1) := by decide +kernel
theorem dX7_search_39 : decode cX7_search 39 = .ok (.iconst 5, 1) := by decide +kernel
theorem dX7_search_40 : decode cX7_search 40 = .ok (.if_icmp .ge 41, 3) := by decide +kernel
theorem dX7_search_43 : decode cX7_search 43 = .ok (.aload_n 0, 1) := by decide +kernel
theorem dX7_search_44 : decode cX7_search 44 = .ok (.getfield 42, 3) := by decide +kernel
theorem dX7_search_47 : decode cX7_search 47 = .ok (.iload_n 2, 1) := by decide +kernel
theorem dX7_search_48 : decode cX7_search 48 = .ok (.lconst 0, 1) := by decide +kernel
theorem dX7_search_49 : decode cX7_search 49 = .ok (.lastore, 1) := by decide +kernel
theorem dX7_search_50 : decode cX7_search 50 = .ok (.aload_n 0, 1) := by decide +kernel
theorem dX7_search_51 : decode cX7_search 51 = .ok (.getfield 86, 3) := by decide +kernel
theorem dX7_search_54 : decode cX7_search 54 = .ok (.iload_n 2, 1) := by decide +kernel
theorem dX7_search_55 : decode cX7_search 55 = .ok (.iload_n 2, 1) := by decide +kernel
theorem dX7_search_56 : decode cX7_search 56 = .ok (.aload_n 0, 1) := by decide +kernel
theorem dX7_search_57 : decode cX7_search 57 = .ok (.getfield 98, 3) := by decide +kernel
theorem dX7_search_60 : decode cX7_search 60 = .ok (.if_icmp .ge 13, 3) := by decide +kernel
theorem dX7_search_63 : decode cX7_search 63 = .ok (.aload_n 0, 1) := by decide +kernel
theorem dX7_search_64 : decode cX7_search 64 = .ok (.getfield 13, 3) := by decide +kernel
theorem dX7_search_67 : decode cX7_search 67 = .ok (.iload_n 2, 1) := by decide +kernel
theorem dX7_search_68 : decode cX7_search 68 = .ok (.iaload, 1) := by decide +kernel
theorem dX7_search_69 : decode cX7_search 69 = .ok (.i2l, 1) := by decide +kernel
theorem dX7_search_70 : decode cX7_search 70 = .ok (.goto 4, 3) := by decide +kernel
theorem dX7_search_73 : decode cX7_search 73 = .ok (.lconst 0, 1) := by decide +kernel
theorem dX7_search_74 : decode cX7_search 74 = .ok (.lastore, 1) := by decide +kernel
theorem dX7_search_75 : decode cX7_search 75 = .ok (.iinc 2 1, 3) := by decide +kernel
theorem dX7_search_78 : decode cX7_search 78 = .ok (.goto (-40), 3) := by decide +kernel
theorem dX7_search_81 : decode cX7_search 81 = .ok (.aload_n 0, 1) := by decide +kernel
theorem dX7_search_82 : decode cX7_search 82 = .ok (.lconst 1, 1) := by decide +kernel
theorem dX7_search_83 : decode cX7_search 83 = .ok (.putfield 46, 3) := by decide +kernel
theorem dX7_search_86 : decode cX7_search 86 = .ok (.aload_n 0, 1) := by decide +kernel
theorem dX7_search_87 : decode cX7_search 87 = .ok (.lconst 0, 1) := by decide +kernel
theorem dX7_search_88 : decode cX7_search 88 = .ok (.putfield 150, 3) := by decide +kernel
theorem dX7_search_91 : decode cX7_search 91 = .ok (.iconst 1, 1) := by decide +kernel
theorem dX7_search_92 : decode cX7_search 92 = .ok (.istore_n 2, 1) := by decide +kernel
theorem dX7_search_93 : decode cX7_search 93 = .ok (.iload_n 2, 1) := by decide +kernel
theorem dX7_search_94 : decode cX7_search 94 = .ok (.ifCond .eq 43, 3) := by decide +kernel
theorem dX7_search_97 : decode cX7_search 97 = .ok (.aload_n 0, 1) := by decide +kernel
theorem dX7_search_98 : decode cX7_search 98 = .ok (.iload_n 1, 1) := by decide +kernel
theorem dX7_search_99 : decode cX7_search 99 = .ok (.invokevirtual 197, 3) := by decide +kernel
theorem dX7_search_102 : decode cX7_search 102 = .ok (.iload_n 1, 1) := by decide +kernel
theorem dX7_search_103 : decode cX7_search 103 = .ok (.ifCond .eq 10, 3) := by decide +kernel
theorem dX7_search_106 : decode cX7_search 106 = .ok (.aload_n 0, 1) := by decide +kernel
theorem dX7_search_107 : decode cX7_search 107 = .ok (.invokevirtual 201, 3) := by decide +kernel
theorem dX7_search_110 : decode cX7_search 110 = .ok (.ifCond .eq 7, 3) := by decide +kernel
theorem dX7_search_113 : decode cX7_search 113 = .ok (.aload_n 0, 1) := by decide +kernel
theorem dX7_search_114 : decode cX7_search 114 = .ok (.invokevirtual 204, 3) := by decide +kernel
theorem dX7_search_117 : decode cX7_search 117 = .ok (.iload_n 1, 1) := by decide +kernel
theorem dX7_search_118 : decode cX7_search 118 = .ok (.ifCond .eq 14, 3) := by decide +kernel
theorem dX7_search_121 : decode cX7_search 121 = .ok (.aload_n 0, 1) := by decide +kernel
theorem dX7_search_122 : decode cX7_search 122 = .ok (.invokevirtual 207, 3) := by decide +kernel
theorem dX7_search_125 : decode cX7_search 125 = .ok (.ifCond .eq 7, 3) := by decide +kernel
theorem dX7_search_128 : decode cX7_search 128 = .ok (.iconst 1, 1) := by decide +kernel
theorem dX7_search_129 : decode cX7_search 129 = .ok (.goto 4, 3) := by decide +kernel
theorem dX7_search_132 : decode cX7_search 132 = .ok (.iconst 0, 1) := by decide +kernel
theorem dX7_search_133 : decode cX7_search 133 = .ok (.istore_n 2, 1) := by decide +kernel
theorem dX7_search_134 : decode cX7_search 134 = .ok (.goto (-41), 3) := by decide +kernel
theorem dX7_search_137 : decode cX7_search 137 = .ok (.aload_n 0, 1) := by decide +kernel
theorem dX7_search_138 : decode cX7_search 138 = .ok (.dup, 1) := by decide +kernel
theorem dX7_search_139 : decode cX7_search 139 = .ok (.getfield 210, 3) := by decide +kernel
theorem dX7_search_142 : decode cX7_search 142 = .ok (.iconst 1, 1) := by decide +kernel
theorem dX7_search_143 : decode cX7_search 143 = .ok (.iadd, 1) := by decide +kernel
theorem dX7_search_144 : decode cX7_search 144 = .ok (.putfield 210, 3) := by decide +kernel
theorem dX7_search_147 : decode cX7_search 147 = .ok (.aload_n 0, 1) := by decide +kernel
theorem dX7_search_148 : decode cX7_search 148 = .ok (.aload_n 0, 1) := by decide +kernel
theorem dX7_search_149 : decode cX7_search 149 = .ok (.getfield 188, 3) := by decide +kernel
theorem dX7_search_152 : decode cX7_search 152 = .ok (.ifCond .ne 7, 3) := by decide +kernel
theorem dX7_search_155 : decode cX7_search 155 = .ok (.iconst 1, 1) := by decide +kernel
theorem dX7_search_156 : decode cX7_search 156 = .ok (.goto 15, 3) := by decide +kernel
theorem dX7_search_159 : decode cX7_search 159 = .ok (.aload_n 0, 1) := by decide +kernel
theorem dX7_search_160 : decode cX7_search 160 = .ok (.getfield 191, 3) := by decide +kernel
theorem dX7_search_163 : decode cX7_search 163 = .ok (.ifCond .eq 7, 3) := by decide +kernel
theorem dX7_search_166 : decode cX7_search 166 = .ok (.iconst 2, 1) := by decide +kernel
theorem dX7_search_167 : decode cX7_search 167 = .ok (.goto 4, 3) := by decide +kernel
theorem dX7_search_170 : decode cX7_search 170 = .ok (.iconst 0, 1) := by decide +kernel
theorem dX7_search_171 : decode cX7_search 171 = .ok (.putfield 38, 3) := by decide +kernel
theorem dX7_search_174 : decode cX7_search 174 = .ok (.aload_n 0, 1) := by decide +kernel
theorem dX7_search_175 : decode cX7_search 175 = .ok (.getfield 38, 3) := by decide +kernel
theorem dX7_search_178 : decode cX7_search 178 = .ok (.ireturn, 1) := by decide +kernel
theorem dX7_takeNumbers_0 : decode cX7_takeNumbers 0 = .ok (.iconst 0, 1) := by decide +kernel
theorem dX7_takeNumbers_1 : decode cX7_takeNumbers 1 = .ok (.istore_n 1, 1) := by decide +kernel
theorem dX7_takeNumbers_2 : decode cX7_takeNumbers 2 = .ok (.iload_n 1, 1) := by decide +kernel
theorem dX7_takeNumbers_3 : decode cX7_takeNumbers 3 = .ok (.aload_n 0, 1) := by decide +kernel
theorem dX7_takeNumbers_4 : decode cX7_takeNumbers 4 = .ok (.getfield 105, 3) := by decide +kernel
theorem dX7_takeNumbers_7 : decode cX7_takeNumbers 7 = .ok (.if_icmp .ge 21, 3) := by decide +kernel
theorem dX7_takeNumbers_10 : decode cX7_takeNumbers 10 = .ok (.aload_n 0, 1) := by decide +kernel
theorem dX7_takeNumbers_11 : decode cX7_takeNumbers 11 = .ok (.getfield 89, 3) := by decide +kernel
theorem dX7_takeNumbers_14 : decode cX7_takeNumbers 14 = .ok (.iload_n 1, 1) := by decide +kernel
theorem dX7_takeNumbers_15 : decode cX7_takeNumbers 15 = .ok (.aload_n 0, 1) := by decide +kernel
theorem dX7_takeNumbers_16 : decode cX7_takeNumbers 16 = .ok (.getfield 28, 3) := by decide +kernel
theorem dX7_takeNumbers_19 : decode cX7_takeNumbers 19 = .ok (.iload_n 1, 1) := by decide +kernel
theorem dX7_takeNumbers_20 : decode cX7_takeNumbers 20 = .ok (.iaload, 1) := by decide +kernel
theorem dX7_takeNumbers_21 : decode cX7_takeNumbers 21 = .ok (.iastore, 1) := by decide +kernel
theorem dX7_takeNumbers_22 : decode cX7_takeNumbers 22 = .ok (.iinc 1 1, 3) := by decide +kernel
theorem dX7_takeNumbers_25 : decode cX7_takeNumbers 25 = .ok (.goto (-23), 3) := by decide +kernel
theorem dX7_takeNumbers_28 : decode cX7_takeNumbers 28 = .ok (.return_, 1) := by decide +kernel
set_option maxRecDepth 20000 in
theorem ggX7_solve_X7_isIn : GoodIn wsX7_solve wsX7_isIn := goodIn_r _ [5] (by decide +kernel) (by decide +kernel)
set_option maxRecDepth 20000 in
theorem gX7_solve_X7_isIn : GoodIn wsX7_solve (va_wsS RX7 101 yX7_isIn wsX7_isIn) := goodIn_app (goodIn_of _ (by decide +kernel)) ggX7_solve_X7_isIn
set_option maxRecDepth 20000 in
theorem ggX7_solve_X7_takeNumbers : GoodIn wsX7_solve wsX7_takeNumbers := goodIn_r _ [9, 10, 11, 12, 124, 125, 126, 127, 128, 129, 130, 131, 132, 133, 134, 135, 136, 137, 138, 139, 140, 141, 142, 143, 144, 145, 146, 147, 148, 149, 150, 151, 152, 153, 154, 155, 156, 157, 158, 159, 160, 161] (by decide +kernel) (by decide +kernel)
set_option maxRecDepth 20000 in
theorem gX7_solve_X7_takeNumbers : GoodIn wsX7_solve (wsV RX7 213 RX7 yX7_takeNumbers wsX7_takeNumbers) := goodIn_app (goodIn_of _ (by decide +kernel)) ggX7_solve_X7_takeNumbers
theorem dX7_solve_0 : decode cX7_solve 0 = .ok (.iload_n 1, 1) := by decide +kernel
theorem dX7_solve_1 : decode cX7_solve 1 = .ok (.iconst 0, 1) := by decide +kernel
theorem dX7_solve_2 : decode cX7_solve 2 = .ok (.iconst 1, 1) := by decide +kernel
theorem dX7_solve_3 : decode cX7_solve 3 = .ok (.invokestatic 101, 3) := by decide +kernel
theorem dX7_solve_6 : decode cX7_solve 6 = .ok (.ifCond .ne 6, 3) := by decide +kernel
theorem dX7_solve_9 : decode cX7_solve 9 = .ok (.ldc 112, 2) := by decide +kernel
theorem dX7_solve_11 : decode cX7_solve 11 = .ok (.ireturn, 1) := by decide +kernel
theorem dX7_solve_12 : decode cX7_solve 12 = .ok (.aload_n 0, 1) := by decide +kernel
theorem dX7_solve_13 : decode cX7_solve 13 = .ok (.invokevirtual 213, 3) := by decide +kernel
theorem dX7_solve_16 : decode cX7_solve 16 = .ok (.aload_n 0, 1) := by decide +kernel
theorem dX7_solve_17 : decode cX7_solve 17 = .ok (.iload_n 1, 1) := by decide +kernel
theorem dX7_solve_18 : decode cX7_solve 18 = .ok (.ifCond .ne 7, 3) := by decide +kernel
theorem dX7_solve_21 : decode cX7_solve 21 = .ok (.iconst 1, 1) := by decide +kernel
theorem dX7_solve_22 : decode cX7_solve 22 = .ok (.goto 4, 3) := by decide +kernel
theorem dX7_solve_25 : decode cX7_solve 25 = .ok (.iconst 0, 1) := by decide +kernel
theorem dX7_solve_26 : decode cX7_solve 26 = .ok (.invokevirtual 216, 3) := by decide +kernel
theorem dX7_solve_29 : decode cX7_solve 29 = .ok (.ireturn, 1) := by decide +kernel
set_option maxRecDepth 20000 in
theorem ggX7_worth_X7_isRow : GoodIn wsX7_worth wsX7_isRow := goodIn_r _ [7, 8, 9, 10, 6, 11, 128, 129, 130, 131, 132, 133, 134, 135, 136, 137, 138, 139, 140, 141, 142, 143, 144, 145, 146, 147, 148, 149, 150, 151, 152, 153, 154, 155, 156, 157, 158, 159, 160, 161, 162, 163, 164, 165] (by decide +kernel) (by decide +kernel)
set_option maxRecDepth 20000 in
theorem gX7_worth_X7_isRow : GoodIn wsX7_worth (wsV RX7 119 RX7 yX7_isRow wsX7_isRow) := goodIn_app (goodIn_of _ (by decide +kernel)) ggX7_worth_X7_isRow
set_option maxRecDepth 20000 in
theorem ggX7_worth_X7_isIn : GoodIn wsX7_worth wsX7_isIn := goodIn_r _ [11] (by decide +kernel) (by decide +kernel)
set_option maxRecDepth 20000 in
theorem gX7_worth_X7_isIn : GoodIn wsX7_worth (va_wsS RX7 101 yX7_isIn wsX7_isIn) := goodIn_app (goodIn_of _ (by decide +kernel)) ggX7_worth_X7_isIn
set_option maxRecDepth 20000 in
theorem ggX7_worth_X7_takeNumbers : GoodIn wsX7_worth wsX7_takeNumbers := goodIn_r _ [15, 8, 2, 16, 128, 129, 130, 131, 132, 133, 134, 135, 136, 137, 138, 139, 140, 141, 142, 143, 144, 145, 146, 147, 148, 149, 150, 151, 152, 153, 154, 155, 156, 157, 158, 159, 160, 161, 162, 163, 164, 165] (by decide +kernel) (by decide +kernel)
set_option maxRecDepth 20000 in
theorem gX7_worth_X7_takeNumbers : GoodIn wsX7_worth (wsV RX7 213 RX7 yX7_takeNumbers wsX7_takeNumbers) := goodIn_app (goodIn_of _ (by decide +kernel)) ggX7_worth_X7_takeNumbers
theorem dX7_worth_0 : decode cX7_worth 0 = .ok (.aload_n 0, 1) := by decide +kernel
theorem dX7_worth_1 : decode cX7_worth 1 = .ok (.iload_n 1, 1) := by decide +kernel
theorem dX7_worth_2 : decode cX7_worth 2 = .ok (.invokevirtual 119, 3) := by decide +kernel
theorem dX7_worth_5 : decode cX7_worth 5 = .ok (.ifCond .eq 23, 3) := by decide +kernel
theorem dX7_worth_8 : decode cX7_worth 8 = .ok (.iload_n 2, 1) := by decide +kernel
theorem dX7_worth_9 : decode cX7_worth 9 = .ok (.bipush (-99), 2) := by decide +kernel
theorem dX7_worth_11 : decode cX7_worth 11 = .ok (.bipush 99, 2) := by decide +kernel
theorem dX7_worth_13 : decode cX7_worth 13 = .ok (.invokestatic 101, 3) := by decide +kernel
theorem dX7_worth_16 : decode cX7_worth 16 = .ok (.ifCond .eq 12, 3) := by decide +kernel
theorem dX7_worth_19 : decode cX7_worth 19 = .ok (.iload_n 3, 1) := by decide +kernel
theorem dX7_worth_20 : decode cX7_worth 20 = .ok (.iconst 0, 1) := by decide +kernel
theorem dX7_worth_21 : decode cX7_worth 21 = .ok (.iconst 1, 1) := by decide +kernel
theorem dX7_worth_22 : decode cX7_worth 22 = .ok (.invokestatic 101, 3) := by decide +kernel
theorem dX7_worth_25 : decode cX7_worth 25 = .ok (.ifCond .ne 6, 3) := by decide +kernel
theorem dX7_worth_28 : decode cX7_worth 28 = .ok (.ldc 112, 2) := by decide +kernel
theorem dX7_worth_30 : decode cX7_worth 30 = .ok (.ireturn, 1) := by decide +kernel
theorem dX7_worth_31 : decode cX7_worth 31 = .ok (.aload_n 0, 1) := by decide +kernel
theorem dX7_worth_32 : decode cX7_worth 32 = .ok (.invokevirtual 213, 3) := by decide +kernel
theorem dX7_worth_35 : decode cX7_worth 35 = .ok (.aload_n 0, 1) := by decide +kernel
theorem dX7_worth_36 : decode cX7_worth 36 = .ok (.getfield 89, 3) := by decide +kernel
theorem dX7_worth_39 : decode cX7_worth 39 = .ok (.iload_n 1, 1) := by decide +kernel
theorem dX7_worth_40 : decode cX7_worth 40 = .ok (.dup2, 1) := by decide +kernel
theorem dX7_worth_41 : decode cX7_worth 41 = .ok (.iaload, 1) := by decide +kernel
theorem dX7_worth_42 : decode cX7_worth 42 = .ok (.iload_n 2, 1) := by decide +kernel
theorem dX7_worth_43 : decode cX7_worth 43 = .ok (.iadd, 1) := by decide +kernel
theorem dX7_worth_44 : decode cX7_worth 44 = .ok (.iastore, 1) := by decide +kernel
theorem dX7_worth_45 : decode cX7_worth 45 = .ok (.aload_n 0, 1) := by decide +kernel
theorem dX7_worth_46 : decode cX7_worth 46 = .ok (.iload_n 3, 1) := by decide +kernel
theorem dX7_worth_47 : decode cX7_worth 47 = .ok (.ifCond .ne 7, 3) := by decide +kernel
theorem dX7_worth_50 : decode cX7_worth 50 = .ok (.iconst 1, 1) := by decide +kernel
theorem dX7_worth_51 : decode cX7_worth 51 = .ok (.goto 4, 3) := by decide +kernel
theorem dX7_worth_54 : decode cX7_worth 54 = .ok (.iconst 0, 1) := by decide +kernel
theorem dX7_worth_55 : decode cX7_worth 55 = .ok (.invokevirtual 216, 3) := by decide +kernel
theorem dX7_worth_58 : decode cX7_worth 58 = .ok (.ireturn, 1) := by decide +kernel
theorem dX7_common_0 : decode cX7_common 0 = .ok (.lload_n 0, 1) := by decide +kernel
theorem dX7_common_1 : decode cX7_common 1 = .ok (.lconst 0, 1) := by decide +kernel
theorem dX7_common_2 : decode cX7_common 2 = .ok (.lcmp, 1) := by decide +kernel
theorem dX7_common_3 : decode cX7_common 3 = .ok (.ifCond .ge 8, 3) := by decide +kernel
theorem dX7_common_6 : decode cX7_common 6 = .ok (.lload_n 0, 1) := by decide +kernel
theorem dX7_common_7 : decode cX7_common 7 = .ok (.lneg, 1) := by decide +kernel
theorem dX7_common_8 : decode cX7_common 8 = .ok (.goto 4, 3) := by decide +kernel
theorem dX7_common_11 : decode cX7_common 11 = .ok (.lload_n 0, 1) := by decide +kernel
theorem dX7_common_12 : decode cX7_common 12 = .ok (.lstore 4, 2) := by decide +kernel
theorem dX7_common_14 : decode cX7_common 14 = .ok (.lload_n 2, 1) := by decide +kernel
theorem dX7_common_15 : decode cX7_common 15 = .ok (.lstore 6, 2) := by decide +kernel
theorem dX7_common_17 : decode cX7_common 17 = .ok (.lload 6, 2) := by decide +kernel
theorem dX7_common_19 : decode cX7_common 19 = .ok (.lconst 0, 1) := by decide +kernel
theorem dX7_common_20 : decode cX7_common 20 = .ok (.lcmp, 1) := by decide +kernel
theorem dX7_common_21 : decode cX7_common 21 = .ok (.ifCond .eq 21, 3) := by decide +kernel
theorem dX7_common_24 : decode cX7_common 24 = .ok (.lload 4, 2) := by decide +kernel
theorem dX7_common_26 : decode cX7_common 26 = .ok (.lload 6, 2) := by decide +kernel
theorem dX7_common_28 : decode cX7_common 28 = .ok (.lrem, 1) := by decide +kernel
theorem dX7_common_29 : decode cX7_common 29 = .ok (.lstore 8, 2) := by decide +kernel
theorem dX7_common_31 : decode cX7_common 31 = .ok (.lload 6, 2) := by decide +kernel
theorem dX7_common_33 : decode cX7_common 33 = .ok (.lstore 4, 2) := by decide +kernel
theorem dX7_common_35 : decode cX7_common 35 = .ok (.lload 8, 2) := by decide +kernel
theorem dX7_common_37 : decode cX7_common 37 = .ok (.lstore 6, 2) := by decide +kernel
theorem dX7_common_39 : decode cX7_common 39 = .ok (.goto (-22), 3) := by decide +kernel
theorem dX7_common_42 : decode cX7_common 42 = .ok (.lload 4, 2) := by decide +kernel
theorem dX7_common_44 : decode cX7_common 44 = .ok (.lreturn, 1) := by decide +kernel
set_option maxRecDepth 20000 in
theorem ggX7_part_X7_common : GoodIn wsX7_part wsX7_common := goodIn_r _ [4] (by decide +kernel) (by decide +kernel)
set_option maxRecDepth 20000 in
theorem gX7_part_X7_common : GoodIn wsX7_part (va_wsS RX7 220 yX7_common wsX7_common) := goodIn_app (goodIn_of _ (by decide +kernel)) ggX7_part_X7_common
theorem dX7_part_0 : decode cX7_part 0 = .ok (.lload_n 0, 1) := by decide +kernel
theorem dX7_part_1 : decode cX7_part 1 = .ok (.lload_n 2, 1) := by decide +kernel
theorem dX7_part_2 : decode cX7_part 2 = .ok (.invokestatic 220, 3) := by decide +kernel
theorem dX7_part_5 : decode cX7_part 5 = .ok (.lstore 5, 2) := by decide +kernel
theorem dX7_part_7 : decode cX7_part 7 = .ok (.iload 4, 2) := by decide +kernel
theorem dX7_part_9 : decode cX7_part 9 = .ok (.ifCond .ne 7, 3) := by decide +kernel
theorem dX7_part_12 : decode cX7_part 12 = .ok (.lload_n 0, 1) := by decide +kernel
theorem dX7_part_13 : decode cX7_part 13 = .ok (.goto 4, 3) := by decide +kernel
theorem dX7_part_16 : decode cX7_part 16 = .ok (.lload_n 2, 1) := by decide +kernel
theorem dX7_part_17 : decode cX7_part 17 = .ok (.lload 5, 2) := by decide +kernel
theorem dX7_part_19 : decode cX7_part 19 = .ok (.ldiv, 1) := by decide +kernel
theorem dX7_part_20 : decode cX7_part 20 = .ok (.lreturn, 1) := by decide +kernel
set_option maxRecDepth 20000 in
theorem ggX7_least_X7_isIn : GoodIn wsX7_least wsX7_isIn := goodIn_r _ [9] (by decide +kernel) (by decide +kernel)
set_option maxRecDepth 20000 in
theorem gX7_least_X7_isIn : GoodIn wsX7_least (va_wsS RX7 101 yX7_isIn wsX7_isIn) := goodIn_app (goodIn_of _ (by decide +kernel)) ggX7_least_X7_isIn
set_option maxRecDepth 20000 in
theorem ggX7_least_X7_part : GoodIn wsX7_least wsX7_part := goodIn_r _ [12, 13, 14, 8, 15] (by decide +kernel) (by decide +kernel)
set_option maxRecDepth 20000 in
theorem gX7_least_X7_part : GoodIn wsX7_least (va_wsS RX7 228 yX7_part wsX7_part) := goodIn_app (goodIn_of _ (by decide +kernel)) ggX7_least_X7_part
theorem dX7_least_0 : decode cX7_least 0 = .ok (.iload_n 1, 1) := by decide +kernel
theorem dX7_least_1 : decode cX7_least 1 = .ok (.iconst 0, 1) := by decide +kernel
theorem dX7_least_2 : decode cX7_least 2 = .ok (.iconst 1, 1) := by decide +kernel
theorem dX7_least_3 : decode cX7_least 3 = .ok (.invokestatic 101, 3) := by decide +kernel
theorem dX7_least_6 : decode cX7_least 6 = .ok (.ifCond .ne 7, 3) := by decide +kernel
theorem dX7_least_9 : decode cX7_least 9 = .ok (.ldc2_w 224, 3) := by decide +kernel
theorem dX7_least_12 : decode cX7_least 12 = .ok (.lreturn, 1) := by decide +kernel
theorem dX7_least_13 : decode cX7_least 13 = .ok (.aload_n 0, 1) := by decide +kernel
theorem dX7_least_14 : decode cX7_least 14 = .ok (.getfield 38, 3) := by decide +kernel
theorem dX7_least_17 : decode cX7_least 17 = .ok (.ifCond .eq 9, 3) := by decide +kernel
theorem dX7_least_20 : decode cX7_least 20 = .ok (.ldc2_w 226, 3) := by decide +kernel
theorem dX7_least_23 : decode cX7_least 23 = .ok (.goto 15, 3) := by decide +kernel
theorem dX7_least_26 : decode cX7_least 26 = .ok (.aload_n 0, 1) := by decide +kernel
theorem dX7_least_27 : decode cX7_least 27 = .ok (.getfield 150, 3) := by decide +kernel
theorem dX7_least_30 : decode cX7_least 30 = .ok (.aload_n 0, 1) := by decide +kernel
theorem dX7_least_31 : decode cX7_least 31 = .ok (.getfield 46, 3) := by decide +kernel
theorem dX7_least_34 : decode cX7_least 34 = .ok (.iload_n 1, 1) := by decide +kernel
theorem dX7_least_35 : decode cX7_least 35 = .ok (.invokestatic 228, 3) := by decide +kernel
theorem dX7_least_38 : decode cX7_least 38 = .ok (.lreturn, 1) := by decide +kernel
set_option maxRecDepth 20000 in
theorem ggX7_value_X7_isColumn : GoodIn wsX7_value wsX7_isColumn := goodIn_r _ [10, 11, 12, 13, 9, 14, 21, 22, 23, 24, 25, 26, 27, 28, 29, 30, 31, 32, 33, 34, 35, 36, 37, 38, 39, 40, 41, 42, 43, 44, 45, 46, 47, 48, 49, 50, 51, 52, 53, 54, 55, 56, 57, 58] (by decide +kernel) (by decide +kernel)
set_option maxRecDepth 20000 in
theorem gX7_value_X7_isColumn : GoodIn wsX7_value (wsV RX7 114 RX7 yX7_isColumn wsX7_isColumn) := goodIn_app (goodIn_of _ (by decide +kernel)) ggX7_value_X7_isColumn
set_option maxRecDepth 20000 in
theorem ggX7_value_X7_isIn : GoodIn wsX7_value wsX7_isIn := goodIn_r _ [14] (by decide +kernel) (by decide +kernel)
set_option maxRecDepth 20000 in
theorem gX7_value_X7_isIn : GoodIn wsX7_value (va_wsS RX7 101 yX7_isIn wsX7_isIn) := goodIn_app (goodIn_of _ (by decide +kernel)) ggX7_value_X7_isIn
set_option maxRecDepth 20000 in
theorem ggX7_value_X7_part : GoodIn wsX7_value wsX7_part := goodIn_r _ [17, 18, 19, 9, 20] (by decide +kernel) (by decide +kernel)
set_option maxRecDepth 20000 in
theorem gX7_value_X7_part : GoodIn wsX7_value (va_wsS RX7 228 yX7_part wsX7_part) := goodIn_app (goodIn_of _ (by decide +kernel)) ggX7_value_X7_part
theorem dX7_value_0 : decode cX7_value 0 = .ok (.aload_n 0, 1) := by decide +kernel
theorem dX7_value_1 : decode cX7_value 1 = .ok (.iload_n 1, 1) := by decide +kernel
theorem dX7_value_2 : decode cX7_value 2 = .ok (.invokevirtual 114, 3) := by decide +kernel
theorem dX7_value_5 : decode cX7_value 5 = .ok (.ifCond .eq 12, 3) := by decide +kernel
theorem dX7_value_8 : decode cX7_value 8 = .ok (.iload_n 2, 1) := by decide +kernel
theorem dX7_value_9 : decode cX7_value 9 = .ok (.iconst 0, 1) := by decide +kernel
theorem dX7_value_10 : decode cX7_value 10 = .ok (.iconst 1, 1) := by decide +kernel
theorem dX7_value_11 : decode cX7_value 11 = .ok (.invokestatic 101, 3) := by decide +kernel
theorem dX7_value_14 : decode cX7_value 14 = .ok (.ifCond .ne 7, 3) := by decide +kernel
theorem dX7_value_17 : decode cX7_value 17 = .ok (.ldc2_w 224, 3) := by decide +kernel
theorem dX7_value_20 : decode cX7_value 20 = .ok (.lreturn, 1) := by decide +kernel
theorem dX7_value_21 : decode cX7_value 21 = .ok (.aload_n 0, 1) := by decide +kernel
theorem dX7_value_22 : decode cX7_value 22 = .ok (.getfield 38, 3) := by decide +kernel
theorem dX7_value_25 : decode cX7_value 25 = .ok (.ifCond .eq 9, 3) := by decide +kernel
theorem dX7_value_28 : decode cX7_value 28 = .ok (.ldc2_w 226, 3) := by decide +kernel
theorem dX7_value_31 : decode cX7_value 31 = .ok (.goto 17, 3) := by decide +kernel
theorem dX7_value_34 : decode cX7_value 34 = .ok (.aload_n 0, 1) := by decide +kernel
theorem dX7_value_35 : decode cX7_value 35 = .ok (.getfield 42, 3) := by decide +kernel
theorem dX7_value_38 : decode cX7_value 38 = .ok (.iload_n 1, 1) := by decide +kernel
theorem dX7_value_39 : decode cX7_value 39 = .ok (.laload, 1) := by decide +kernel
theorem dX7_value_40 : decode cX7_value 40 = .ok (.aload_n 0, 1) := by decide +kernel
theorem dX7_value_41 : decode cX7_value 41 = .ok (.getfield 46, 3) := by decide +kernel
theorem dX7_value_44 : decode cX7_value 44 = .ok (.iload_n 2, 1) := by decide +kernel
theorem dX7_value_45 : decode cX7_value 45 = .ok (.invokestatic 228, 3) := by decide +kernel
theorem dX7_value_48 : decode cX7_value 48 = .ok (.lreturn, 1) := by decide +kernel
set_option maxRecDepth 20000 in
theorem ggX7_quarrels_X7_fixWhole : GoodIn wsX7_quarrels wsX7_fixWhole := goodIn_r _ [5, 6, 7, 8, 80, 81, 82, 83, 84, 85, 86, 87, 88, 89, 90, 91, 92, 93, 94, 95, 96, 97, 98, 99, 100, 101, 102, 103, 104, 105, 106, 107, 108, 109, 110, 111, 112, 113, 114, 115, 116, 117] (by decide +kernel) (by decide +kernel)
set_option maxRecDepth 20000 in
theorem gX7_quarrels_X7_fixWhole : GoodIn wsX7_quarrels (wsV RX7 197 RX7 yX7_fixWhole wsX7_fixWhole) := goodIn_app (goodIn_of _ (by decide +kernel)) ggX7_quarrels_X7_fixWhole
theorem dX7_quarrels_0 : decode cX7_quarrels 0 = .ok (.aload_n 0, 1) := by decide +kernel
theorem dX7_quarrels_1 : decode cX7_quarrels 1 = .ok (.iconst 0, 1) := by decide +kernel
theorem dX7_quarrels_2 : decode cX7_quarrels 2 = .ok (.invokevirtual 197, 3) := by decide +kernel
theorem dX7_quarrels_5 : decode cX7_quarrels 5 = .ok (.aload_n 0, 1) := by decide +kernel
theorem dX7_quarrels_6 : decode cX7_quarrels 6 = .ok (.iload_n 1, 1) := by decide +kernel
theorem dX7_quarrels_7 : decode cX7_quarrels 7 = .ok (.invokevirtual 180, 3) := by decide +kernel
theorem dX7_quarrels_10 : decode cX7_quarrels 10 = .ok (.aload_n 0, 1) := by decide +kernel
theorem dX7_quarrels_11 : decode cX7_quarrels 11 = .ok (.iconst 1, 1) := by decide +kernel
theorem dX7_quarrels_12 : decode cX7_quarrels 12 = .ok (.invokevirtual 184, 3) := by decide +kernel
theorem dX7_quarrels_15 : decode cX7_quarrels 15 = .ok (.ifCond .ne 7, 3) := by decide +kernel
theorem dX7_quarrels_18 : decode cX7_quarrels 18 = .ok (.iconst 1, 1) := by decide +kernel
theorem dX7_quarrels_19 : decode cX7_quarrels 19 = .ok (.goto 4, 3) := by decide +kernel
theorem dX7_quarrels_22 : decode cX7_quarrels 22 = .ok (.iconst 0, 1) := by decide +kernel
theorem dX7_quarrels_23 : decode cX7_quarrels 23 = .ok (.ireturn, 1) := by decide +kernel
theorem dX7_manyOf_0 : decode cX7_manyOf 0 = .ok (.iconst 0, 1) := by decide +kernel
theorem dX7_manyOf_1 : decode cX7_manyOf 1 = .ok (.istore_n 1, 1) := by decide +kernel
theorem dX7_manyOf_2 : decode cX7_manyOf 2 = .ok (.iconst 0, 1) := by decide +kernel
theorem dX7_manyOf_3 : decode cX7_manyOf 3 = .ok (.istore_n 2, 1) := by decide +kernel
theorem dX7_manyOf_4 : decode cX7_manyOf 4 = .ok (.iload_n 2, 1) := by decide +kernel
theorem dX7_manyOf_5 : decode cX7_manyOf 5 = .ok (.bipush 7, 2) := by decide +kernel
theorem dX7_manyOf_7 : decode cX7_manyOf 7 = .ok (.if_icmp .ge 17, 3) := by decide +kernel
theorem dX7_manyOf_10 : decode cX7_manyOf 10 = .ok (.iload_n 1, 1) := by decide +kernel
theorem dX7_manyOf_11 : decode cX7_manyOf 11 = .ok (.iload_n 0, 1) := by decide +kernel
theorem dX7_manyOf_12 : decode cX7_manyOf 12 = .ok (.iload_n 2, 1) := by decide +kernel
theorem dX7_manyOf_13 : decode cX7_manyOf 13 = .ok (.ishr, 1) := by decide +kernel
theorem dX7_manyOf_14 : decode cX7_manyOf 14 = .ok (.iconst 1, 1) := by decide +kernel
theorem dX7_manyOf_15 : decode cX7_manyOf 15 = .ok (.iand, 1) := by decide +kernel
theorem dX7_manyOf_16 : decode cX7_manyOf 16 = .ok (.iadd, 1) := by decide +kernel
theorem dX7_manyOf_17 : decode cX7_manyOf 17 = .ok (.istore_n 1, 1) := by decide +kernel
theorem dX7_manyOf_18 : decode cX7_manyOf 18 = .ok (.iinc 2 1, 3) := by decide +kernel
