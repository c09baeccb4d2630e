set_option maxRecDepth 20000 in
theorem ggX6_worth_X2_hasRow : GoodIn wsX6_worth wsX2_hasRow := goodIn_r _ [11, 12, 250, 251, 252, 253, 254, 255, 256, 257, 258, 259, 260] (by decide +kernel) (by decide +kernel)
set_option maxRecDepth 20000 in
theorem gX6_worth_X2_hasRow : GoodIn wsX6_worth (wsV RX6 93 RX2 yX2_hasRow wsX2_hasRow) := goodIn_app (goodIn_of _ (by decide +kernel)) ggX6_worth_X2_hasRow
set_option maxRecDepth 20000 in
theorem ggX6_worth_X6_isWithin : GoodIn wsX6_worth wsX6_isWithin := goodIn_r _ [16] (by decide +kernel) (by decide +kernel)
set_option maxRecDepth 20000 in
theorem gX6_worth_X6_isWithin : GoodIn wsX6_worth (va_wsS RX6 82 yX6_isWithin wsX6_isWithin) := goodIn_app (goodIn_of _ (by decide +kernel)) ggX6_worth_X6_isWithin
set_option maxRecDepth 20000 in
theorem ggX6_worth_X6_isBit : GoodIn wsX6_worth wsX6_isBit := goodIn_r _ [19] (by decide +kernel) (by decide +kernel)
set_option maxRecDepth 20000 in
theorem gX6_worth_X6_isBit : GoodIn wsX6_worth (va_wsS RX6 105 yX6_isBit wsX6_isBit) := goodIn_app (goodIn_of _ (by decide +kernel)) ggX6_worth_X6_isBit
set_option maxRecDepth 20000 in
theorem giX6_worth_wsX00 : GoodIn wsX6_worth wsX00 := goodIn_sub (by decide +kernel) (by decide +kernel)
set_option maxRecDepth 20000 in
theorem giX6_worth_wsX20 : GoodIn wsX6_worth wsX20 := goodIn_sub (by decide +kernel) (by decide +kernel)
set_option maxRecDepth 20000 in
theorem giX6_worth_wsX40 : GoodIn wsX6_worth wsX40 := goodIn_sub (by decide +kernel) (by decide +kernel)
set_option maxRecDepth 20000 in
theorem giX6_worth_wsX50 : GoodIn wsX6_worth wsX50 := goodIn_sub (by decide +kernel) (by decide +kernel)
set_option maxRecDepth 20000 in
theorem ghX6_worth_X4_run_1 : GoodIn wsX6_worth wsX4_run_r1 := goodIn_c 25 rfl rfl (goodIn_c 26 rfl rfl (goodIn_c 27 rfl rfl (goodIn_c 28 rfl rfl (goodIn_c 29 rfl rfl (goodIn_c 30 rfl rfl (goodIn_c 31 rfl rfl (goodIn_c 32 rfl rfl (goodIn_c 23 rfl rfl (goodIn_c 33 rfl rfl (goodIn_c 34 rfl rfl (goodIn_c 35 rfl rfl (goodIn_c 36 rfl rfl (goodIn_c 37 rfl rfl (goodIn_c 38 rfl rfl (goodIn_c 39 rfl rfl (goodIn_c 40 rfl rfl (goodIn_c 41 rfl rfl (goodIn_c 42 rfl rfl (goodIn_c 43 rfl rfl (goodIn_c 44 rfl rfl (goodIn_c 45 rfl rfl (goodIn_c 46 rfl rfl (goodIn_c 47 rfl rfl (goodIn_nil))))))))))))))))))))))))
set_option maxRecDepth 20000 in
theorem ghX6_worth_X4_run_2 : GoodIn wsX6_worth wsX4_run_r2 := goodIn_c 48 rfl rfl (goodIn_c 49 rfl rfl (goodIn_c 50 rfl rfl (goodIn_c 51 rfl rfl (goodIn_c 52 rfl rfl (goodIn_c 53 rfl rfl (goodIn_c 54 rfl rfl (goodIn_c 55 rfl rfl (goodIn_c 56 rfl rfl (goodIn_c 57 rfl rfl (goodIn_c 58 rfl rfl (goodIn_c 59 rfl rfl (goodIn_c 60 rfl rfl (goodIn_c 61 rfl rfl (goodIn_c 62 rfl rfl (goodIn_c 63 rfl rfl (goodIn_c 64 rfl rfl (goodIn_c 65 rfl rfl (goodIn_c 66 rfl rfl (goodIn_c 67 rfl rfl (goodIn_c 68 rfl rfl (goodIn_c 69 rfl rfl (goodIn_c 70 rfl rfl (goodIn_c 71 rfl rfl (goodIn_nil))))))))))))))))))))))))
set_option maxRecDepth 20000 in
theorem ghX6_worth_X4_run_3 : GoodIn wsX6_worth wsX4_run_r3 := goodIn_c 72 rfl rfl (goodIn_c 73 rfl rfl (goodIn_c 74 rfl rfl (goodIn_c 75 rfl rfl (goodIn_c 10 rfl rfl (goodIn_c 76 rfl rfl (goodIn_c 77 rfl rfl (goodIn_c 78 rfl rfl (goodIn_c 79 rfl rfl (goodIn_c 80 rfl rfl (goodIn_c 81 rfl rfl (goodIn_c 82 rfl rfl (goodIn_c 83 rfl rfl (goodIn_c 84 rfl rfl (goodIn_c 85 rfl rfl (goodIn_c 86 rfl rfl (goodIn_c 87 rfl rfl (goodIn_c 88 rfl rfl (goodIn_c 15 rfl rfl (goodIn_c 89 rfl rfl (goodIn_c 90 rfl rfl (goodIn_c 91 rfl rfl (goodIn_c 92 rfl rfl (goodIn_c 93 rfl rfl (goodIn_nil))))))))))))))))))))))))
set_option maxRecDepth 20000 in
theorem ghX6_worth_X4_run_4 : GoodIn wsX6_worth wsX4_run_r4 := goodIn_c 94 rfl rfl (goodIn_c 95 rfl rfl (goodIn_c 96 rfl rfl (goodIn_c 97 rfl rfl (goodIn_c 98 rfl rfl (goodIn_c 99 rfl rfl (goodIn_c 100 rfl rfl (goodIn_c 101 rfl rfl (goodIn_c 102 rfl rfl (goodIn_c 103 rfl rfl (goodIn_c 104 rfl rfl (goodIn_c 105 rfl rfl (goodIn_c 106 rfl rfl (goodIn_c 107 rfl rfl (goodIn_c 108 rfl rfl (goodIn_c 109 rfl rfl (goodIn_c 110 rfl rfl (goodIn_c 111 rfl rfl (goodIn_c 112 rfl rfl (goodIn_c 113 rfl rfl (goodIn_c 114 rfl rfl (goodIn_c 115 rfl rfl (goodIn_c 116 rfl rfl (goodIn_c 117 rfl rfl (goodIn_nil))))))))))))))))))))))))
set_option maxRecDepth 20000 in
theorem ghX6_worth_X4_run_5 : GoodIn wsX6_worth wsX4_run_r5 := goodIn_c 118 rfl rfl (goodIn_c 119 rfl rfl (goodIn_c 120 rfl rfl (goodIn_c 121 rfl rfl (goodIn_c 122 rfl rfl (goodIn_c 123 rfl rfl (goodIn_c 124 rfl rfl (goodIn_c 125 rfl rfl (goodIn_c 126 rfl rfl (goodIn_c 127 rfl rfl (goodIn_c 128 rfl rfl (goodIn_c 129 rfl rfl (goodIn_c 130 rfl rfl (goodIn_c 131 rfl rfl (goodIn_c 132 rfl rfl (goodIn_c 133 rfl rfl (goodIn_c 134 rfl rfl (goodIn_c 135 rfl rfl (goodIn_c 136 rfl rfl (goodIn_c 137 rfl rfl (goodIn_c 138 rfl rfl (goodIn_c 139 rfl rfl (goodIn_c 140 rfl rfl (goodIn_c 141 rfl rfl (goodIn_nil))))))))))))))))))))))))
set_option maxRecDepth 20000 in
theorem ghX6_worth_X4_run_6 : GoodIn wsX6_worth wsX4_run_r6 := goodIn_c 142 rfl rfl (goodIn_c 143 rfl rfl (goodIn_c 144 rfl rfl (goodIn_c 145 rfl rfl (goodIn_c 146 rfl rfl (goodIn_c 147 rfl rfl (goodIn_c 148 rfl rfl (goodIn_c 149 rfl rfl (goodIn_c 150 rfl rfl (goodIn_c 151 rfl rfl (goodIn_c 152 rfl rfl (goodIn_c 153 rfl rfl (goodIn_c 154 rfl rfl (goodIn_c 155 rfl rfl (goodIn_c 156 rfl rfl (goodIn_c 157 rfl rfl (goodIn_c 158 rfl rfl (goodIn_c 159 rfl rfl (goodIn_c 160 rfl rfl (goodIn_c 161 rfl rfl (goodIn_c 162 rfl rfl (goodIn_c 163 rfl rfl (goodIn_c 164 rfl rfl (goodIn_c 165 rfl rfl (goodIn_nil))))))))))))))))))))))))
set_option maxRecDepth 20000 in
theorem ghX6_worth_X4_run_7 : GoodIn wsX6_worth wsX4_run_r7 := goodIn_c 166 rfl rfl (goodIn_c 167 rfl rfl (goodIn_c 168 rfl rfl (goodIn_c 169 rfl rfl (goodIn_c 170 rfl rfl (goodIn_c 171 rfl rfl (goodIn_c 172 rfl rfl (goodIn_c 173 rfl rfl (goodIn_c 174 rfl rfl (goodIn_c 175 rfl rfl (goodIn_c 176 rfl rfl (goodIn_c 177 rfl rfl (goodIn_c 178 rfl rfl (goodIn_c 179 rfl rfl (goodIn_c 180 rfl rfl (goodIn_c 181 rfl rfl (goodIn_c 182 rfl rfl (goodIn_c 183 rfl rfl (goodIn_c 184 rfl rfl (goodIn_c 185 rfl rfl (goodIn_c 186 rfl rfl (goodIn_c 187 rfl rfl (goodIn_c 188 rfl rfl (goodIn_c 189 rfl rfl (goodIn_nil))))))))))))))))))))))))
set_option maxRecDepth 20000 in
theorem ghX6_worth_X4_run_8 : GoodIn wsX6_worth wsX4_run_r8 := goodIn_c 190 rfl rfl (goodIn_c 191 rfl rfl (goodIn_c 192 rfl rfl (goodIn_c 193 rfl rfl (goodIn_c 194 rfl rfl (goodIn_c 195 rfl rfl (goodIn_c 196 rfl rfl (goodIn_c 197 rfl rfl (goodIn_c 198 rfl rfl (goodIn_c 199 rfl rfl (goodIn_c 200 rfl rfl (goodIn_c 201 rfl rfl (goodIn_c 202 rfl rfl (goodIn_c 203 rfl rfl (goodIn_c 204 rfl rfl (goodIn_c 205 rfl rfl (goodIn_c 206 rfl rfl (goodIn_c 207 rfl rfl (goodIn_c 208 rfl rfl (goodIn_c 209 rfl rfl (goodIn_c 210 rfl rfl (goodIn_c 211 rfl rfl (goodIn_c 212 rfl rfl (goodIn_c 213 rfl rfl (goodIn_nil))))))))))))))))))))))))
set_option maxRecDepth 20000 in
theorem ghX6_worth_X4_run_9 : GoodIn wsX6_worth wsX4_run_r9 := goodIn_c 214 rfl rfl (goodIn_c 215 rfl rfl (goodIn_c 216 rfl rfl (goodIn_c 217 rfl rfl (goodIn_c 218 rfl rfl (goodIn_c 219 rfl rfl (goodIn_c 220 rfl rfl (goodIn_c 221 rfl rfl (goodIn_c 222 rfl rfl (goodIn_c 223 rfl rfl (goodIn_c 224 rfl rfl (goodIn_c 225 rfl rfl (goodIn_c 226 rfl rfl (goodIn_c 227 rfl rfl (goodIn_c 228 rfl rfl (goodIn_c 229 rfl rfl (goodIn_c 230 rfl rfl (goodIn_c 231 rfl rfl (goodIn_c 232 rfl rfl (goodIn_c 233 rfl rfl (goodIn_c 234 rfl rfl (goodIn_c 235 rfl rfl (goodIn_c 236 rfl rfl (goodIn_c 237 rfl rfl (goodIn_nil))))))))))))))))))))))))
set_option maxRecDepth 20000 in
theorem ghX6_worth_X4_run_10 : GoodIn wsX6_worth wsX4_run_r10 := goodIn_c 238 rfl rfl (goodIn_c 239 rfl rfl (goodIn_nil))
set_option maxRecDepth 20000 in
theorem ggX6_worth_X4_run : GoodIn wsX6_worth wsX4_run := goodIn_c 24 rfl rfl (goodIn_app (goodIn_app (goodIn_app (goodIn_app (goodIn_app (ghX6_worth_X4_run_1) (goodIn_app (ghX6_worth_X4_run_2) (goodIn_app (ghX6_worth_X4_run_3) (goodIn_app (ghX6_worth_X4_run_4) (goodIn_app (ghX6_worth_X4_run_5) (goodIn_app (ghX6_worth_X4_run_6) (goodIn_app (ghX6_worth_X4_run_7) (goodIn_app (ghX6_worth_X4_run_8) (goodIn_app (ghX6_worth_X4_run_9) (ghX6_worth_X4_run_10)))))))))) (giX6_worth_wsX00)) (giX6_worth_wsX20)) (giX6_worth_wsX40)) (giX6_worth_wsX50))
set_option maxRecDepth 20000 in
theorem gX6_worth_X4_run : GoodIn wsX6_worth (wsV RX6 114 RX4 yX4_run wsX4_run) := goodIn_app (goodIn_of _ (by decide +kernel)) ggX6_worth_X4_run
theorem dX6_worth_0 : decode cX6_worth 0 = .ok (.aload_n 0, 1) := by decide +kernel
theorem dX6_worth_1 : decode cX6_worth 1 = .ok (.getfield 10, 3) := by decide +kernel
theorem dX6_worth_4 : decode cX6_worth 4 = .ok (.iload_n 1, 1) := by decide +kernel
theorem dX6_worth_5 : decode cX6_worth 5 = .ok (.invokevirtual 93, 3) := by decide +kernel
theorem dX6_worth_8 : decode cX6_worth 8 = .ok (.ifCond .eq 19, 3) := by decide +kernel
theorem dX6_worth_11 : decode cX6_worth 11 = .ok (.iload_n 2, 1) := by decide +kernel
theorem dX6_worth_12 : decode cX6_worth 12 = .ok (.bipush 99, 2) := by decide +kernel
theorem dX6_worth_14 : decode cX6_worth 14 = .ok (.invokestatic 82, 3) := by decide +kernel
theorem dX6_worth_17 : decode cX6_worth 17 = .ok (.ifCond .eq 10, 3) := by decide +kernel
theorem dX6_worth_20 : decode cX6_worth 20 = .ok (.iload_n 3, 1) := by decide +kernel
theorem dX6_worth_21 : decode cX6_worth 21 = .ok (.invokestatic 105, 3) := by decide +kernel
theorem dX6_worth_24 : decode cX6_worth 24 = .ok (.ifCond .ne 6, 3) := by decide +kernel
theorem dX6_worth_27 : decode cX6_worth 27 = .ok (.ldc 56, 2) := by decide +kernel
theorem dX6_worth_29 : decode cX6_worth 29 = .ok (.ireturn, 1) := by decide +kernel
theorem dX6_worth_30 : decode cX6_worth 30 = .ok (.aload_n 0, 1) := by decide +kernel
theorem dX6_worth_31 : decode cX6_worth 31 = .ok (.dup, 1) := by decide +kernel
theorem dX6_worth_32 : decode cX6_worth 32 = .ok (.getfield 44, 3) := by decide +kernel
theorem dX6_worth_35 : decode cX6_worth 35 = .ok (.iconst 1, 1) := by decide +kernel
theorem dX6_worth_36 : decode cX6_worth 36 = .ok (.iadd, 1) := by decide +kernel
theorem dX6_worth_37 : decode cX6_worth 37 = .ok (.putfield 44, 3) := by decide +kernel
theorem dX6_worth_40 : decode cX6_worth 40 = .ok (.aload_n 0, 1) := by decide +kernel
theorem dX6_worth_41 : decode cX6_worth 41 = .ok (.getfield 26, 3) := by decide +kernel
theorem dX6_worth_44 : decode cX6_worth 44 = .ok (.aload_n 0, 1) := by decide +kernel
theorem dX6_worth_45 : decode cX6_worth 45 = .ok (.getfield 10, 3) := by decide +kernel
theorem dX6_worth_48 : decode cX6_worth 48 = .ok (.aload_n 0, 1) := by decide +kernel
theorem dX6_worth_49 : decode cX6_worth 49 = .ok (.getfield 19, 3) := by decide +kernel
theorem dX6_worth_52 : decode cX6_worth 52 = .ok (.iload_n 1, 1) := by decide +kernel
theorem dX6_worth_53 : decode cX6_worth 53 = .ok (.iload_n 2, 1) := by decide +kernel
theorem dX6_worth_54 : decode cX6_worth 54 = .ok (.iload_n 3, 1) := by decide +kernel
theorem dX6_worth_55 : decode cX6_worth 55 = .ok (.ifCond .ne 7, 3) := by decide +kernel
theorem dX6_worth_58 : decode cX6_worth 58 = .ok (.iconst 1, 1) := by decide +kernel
theorem dX6_worth_59 : decode cX6_worth 59 = .ok (.goto 4, 3) := by decide +kernel
theorem dX6_worth_62 : decode cX6_worth 62 = .ok (.iconst 0, 1) := by decide +kernel
theorem dX6_worth_63 : decode cX6_worth 63 = .ok (.invokevirtual 114, 3) := by decide +kernel
theorem dX6_worth_66 : decode cX6_worth 66 = .ok (.aload_n 0, 1) := by decide +kernel
theorem dX6_worth_67 : decode cX6_worth 67 = .ok (.getfield 19, 3) := by decide +kernel
theorem dX6_worth_70 : decode cX6_worth 70 = .ok (.getfield 118, 3) := by decide +kernel
theorem dX6_worth_73 : decode cX6_worth 73 = .ok (.ireturn, 1) := by decide +kernel
