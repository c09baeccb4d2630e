theorem dX7_meets_86 : decode cX7_meets 86 = .ok (.goto (-77), 3) := by decide +kernel
theorem dX7_meets_89 : decode cX7_meets 89 = .ok (.lconst 1, 1) := by decide +kernel
theorem dX7_meets_90 : decode cX7_meets 90 = .ok (.lstore_n 2, 1) := by decide +kernel
theorem dX7_meets_91 : decode cX7_meets 91 = .ok (.iconst 0, 1) := by decide +kernel
theorem dX7_meets_92 : decode cX7_meets 92 = .ok (.istore 4, 2) := by decide +kernel
theorem dX7_meets_94 : decode cX7_meets 94 = .ok (.iload 4, 2) := by decide +kernel
theorem dX7_meets_96 : decode cX7_meets 96 = .ok (.aload_n 0, 1) := by decide +kernel
theorem dX7_meets_97 : decode cX7_meets 97 = .ok (.getfield 125, 3) := by decide +kernel
theorem dX7_meets_100 : decode cX7_meets 100 = .ok (.if_icmp .ge 112, 3) := by decide +kernel
theorem dX7_meets_103 : decode cX7_meets 103 = .ok (.iload 4, 2) := by decide +kernel
theorem dX7_meets_105 : decode cX7_meets 105 = .ok (.istore 5, 2) := by decide +kernel
theorem dX7_meets_107 : decode cX7_meets 107 = .ok (.iload 5, 2) := by decide +kernel
theorem dX7_meets_109 : decode cX7_meets 109 = .ok (.aload_n 0, 1) := by decide +kernel
theorem dX7_meets_110 : decode cX7_meets 110 = .ok (.getfield 125, 3) := by decide +kernel
theorem dX7_meets_113 : decode cX7_meets 113 = .ok (.if_icmp .ge 26, 3) := by decide +kernel
theorem dX7_meets_116 : decode cX7_meets 116 = .ok (.aload_n 0, 1) := by decide +kernel
theorem dX7_meets_117 : decode cX7_meets 117 = .ok (.getfield 77, 3) := by decide +kernel
theorem dX7_meets_120 : decode cX7_meets 120 = .ok (.iload_n 1, 1) := by decide +kernel
theorem dX7_meets_121 : decode cX7_meets 121 = .ok (.iload 5, 2) := by decide +kernel
theorem dX7_meets_123 : decode cX7_meets 123 = .ok (.imul, 1) := by decide +kernel
theorem dX7_meets_124 : decode cX7_meets 124 = .ok (.iload 4, 2) := by decide +kernel
theorem dX7_meets_126 : decode cX7_meets 126 = .ok (.iadd, 1) := by decide +kernel
theorem dX7_meets_127 : decode cX7_meets 127 = .ok (.laload, 1) := by decide +kernel
theorem dX7_meets_128 : decode cX7_meets 128 = .ok (.lconst 0, 1) := by decide +kernel
theorem dX7_meets_129 : decode cX7_meets 129 = .ok (.lcmp, 1) := by decide +kernel
theorem dX7_meets_130 : decode cX7_meets 130 = .ok (.ifCond .ne 9, 3) := by decide +kernel
theorem dX7_meets_133 : decode cX7_meets 133 = .ok (.iinc 5 1, 3) := by decide +kernel
theorem dX7_meets_136 : decode cX7_meets 136 = .ok (.goto (-29), 3) := by decide +kernel
theorem dX7_meets_139 : decode cX7_meets 139 = .ok (.iload 5, 2) := by decide +kernel
theorem dX7_meets_141 : decode cX7_meets 141 = .ok (.aload_n 0, 1) := by decide +kernel
theorem dX7_meets_142 : decode cX7_meets 142 = .ok (.getfield 125, 3) := by decide +kernel
theorem dX7_meets_145 : decode cX7_meets 145 = .ok (.if_icmp .ne 5, 3) := by decide +kernel
theorem dX7_meets_148 : decode cX7_meets 148 = .ok (.iconst 0, 1) := by decide +kernel
theorem dX7_meets_149 : decode cX7_meets 149 = .ok (.ireturn, 1) := by decide +kernel
theorem dX7_meets_150 : decode cX7_meets 150 = .ok (.aload_n 0, 1) := by decide +kernel
theorem dX7_meets_151 : decode cX7_meets 151 = .ok (.iload 5, 2) := by decide +kernel
theorem dX7_meets_153 : decode cX7_meets 153 = .ok (.iload 4, 2) := by decide +kernel
theorem dX7_meets_155 : decode cX7_meets 155 = .ok (.iload_n 1, 1) := by decide +kernel
theorem dX7_meets_156 : decode cX7_meets 156 = .ok (.invokevirtual 128, 3) := by decide +kernel
theorem dX7_meets_159 : decode cX7_meets 159 = .ok (.aload_n 0, 1) := by decide +kernel
theorem dX7_meets_160 : decode cX7_meets 160 = .ok (.getfield 77, 3) := by decide +kernel
theorem dX7_meets_163 : decode cX7_meets 163 = .ok (.iload_n 1, 1) := by decide +kernel
theorem dX7_meets_164 : decode cX7_meets 164 = .ok (.iload 4, 2) := by decide +kernel
theorem dX7_meets_166 : decode cX7_meets 166 = .ok (.imul, 1) := by decide +kernel
theorem dX7_meets_167 : decode cX7_meets 167 = .ok (.iload 4, 2) := by decide +kernel
theorem dX7_meets_169 : decode cX7_meets 169 = .ok (.iadd, 1) := by decide +kernel
theorem dX7_meets_170 : decode cX7_meets 170 = .ok (.laload, 1) := by decide +kernel
theorem dX7_meets_171 : decode cX7_meets 171 = .ok (.lstore 6, 2) := by decide +kernel
theorem dX7_meets_173 : decode cX7_meets 173 = .ok (.iconst 0, 1) := by decide +kernel
theorem dX7_meets_174 : decode cX7_meets 174 = .ok (.istore 8, 2) := by decide +kernel
theorem dX7_meets_176 : decode cX7_meets 176 = .ok (.iload 8, 2) := by decide +kernel
theorem dX7_meets_178 : decode cX7_meets 178 = .ok (.aload_n 0, 1) := by decide +kernel
theorem dX7_meets_179 : decode cX7_meets 179 = .ok (.getfield 125, 3) := by decide +kernel
theorem dX7_meets_182 : decode cX7_meets 182 = .ok (.if_icmp .ge 21, 3) := by decide +kernel
theorem dX7_meets_185 : decode cX7_meets 185 = .ok (.aload_n 0, 1) := by decide +kernel
theorem dX7_meets_186 : decode cX7_meets 186 = .ok (.iload 8, 2) := by decide +kernel
theorem dX7_meets_188 : decode cX7_meets 188 = .ok (.iload 4, 2) := by decide +kernel
theorem dX7_meets_190 : decode cX7_meets 190 = .ok (.iload_n 1, 1) := by decide +kernel
theorem dX7_meets_191 : decode cX7_meets 191 = .ok (.lload 6, 2) := by decide +kernel
theorem dX7_meets_193 : decode cX7_meets 193 = .ok (.lload_n 2, 1) := by decide +kernel
theorem dX7_meets_194 : decode cX7_meets 194 = .ok (.invokevirtual 132, 3) := by decide +kernel
theorem dX7_meets_197 : decode cX7_meets 197 = .ok (.iinc 8 1, 3) := by decide +kernel
theorem dX7_meets_200 : decode cX7_meets 200 = .ok (.goto (-24), 3) := by decide +kernel
theorem dX7_meets_203 : decode cX7_meets 203 = .ok (.lload 6, 2) := by decide +kernel
theorem dX7_meets_205 : decode cX7_meets 205 = .ok (.lstore_n 2, 1) := by decide +kernel
theorem dX7_meets_206 : decode cX7_meets 206 = .ok (.iinc 4 1, 3) := by decide +kernel
theorem dX7_meets_209 : decode cX7_meets 209 = .ok (.goto (-115), 3) := by decide +kernel
theorem dX7_meets_212 : decode cX7_meets 212 = .ok (.aload_n 0, 1) := by decide +kernel
theorem dX7_meets_213 : decode cX7_meets 213 = .ok (.lload_n 2, 1) := by decide +kernel
theorem dX7_meets_214 : decode cX7_meets 214 = .ok (.putfield 136, 3) := by decide +kernel
theorem dX7_meets_217 : decode cX7_meets 217 = .ok (.iconst 0, 1) := by decide +kernel
theorem dX7_meets_218 : decode cX7_meets 218 = .ok (.istore 4, 2) := by decide +kernel
theorem dX7_meets_220 : decode cX7_meets 220 = .ok (.iload 4, 2) := by decide +kernel
theorem dX7_meets_222 : decode cX7_meets 222 = .ok (.aload_n 0, 1) := by decide +kernel
theorem dX7_meets_223 : decode cX7_meets 223 = .ok (.getfield 125, 3) := by decide +kernel
theorem dX7_meets_226 : decode cX7_meets 226 = .ok (.if_icmp .ge 30, 3) := by decide +kernel
theorem dX7_meets_229 : decode cX7_meets 229 = .ok (.aload_n 0, 1) := by decide +kernel
theorem dX7_meets_230 : decode cX7_meets 230 = .ok (.getfield 80, 3) := by decide +kernel
theorem dX7_meets_233 : decode cX7_meets 233 = .ok (.iload 4, 2) := by decide +kernel
theorem dX7_meets_235 : decode cX7_meets 235 = .ok (.aload_n 0, 1) := by decide +kernel
theorem dX7_meets_236 : decode cX7_meets 236 = .ok (.getfield 77, 3) := by decide +kernel
theorem dX7_meets_239 : decode cX7_meets 239 = .ok (.iload_n 1, 1) := by decide +kernel
theorem dX7_meets_240 : decode cX7_meets 240 = .ok (.iload 4, 2) := by decide +kernel
theorem dX7_meets_242 : decode cX7_meets 242 = .ok (.imul, 1) := by decide +kernel
theorem dX7_meets_243 : decode cX7_meets 243 = .ok (.aload_n 0, 1) := by decide +kernel
theorem dX7_meets_244 : decode cX7_meets 244 = .ok (.getfield 125, 3) := by decide +kernel
theorem dX7_meets_247 : decode cX7_meets 247 = .ok (.iadd, 1) := by decide +kernel
theorem dX7_meets_248 : decode cX7_meets 248 = .ok (.laload, 1) := by decide +kernel
theorem dX7_meets_249 : decode cX7_meets 249 = .ok (.lastore, 1) := by decide +kernel
theorem dX7_meets_250 : decode cX7_meets 250 = .ok (.iinc 4 1, 3) := by decide +kernel
theorem dX7_meets_253 : decode cX7_meets 253 = .ok (.goto (-33), 3) := by decide +kernel
theorem dX7_meets_256 : decode cX7_meets 256 = .ok (.aload_n 0, 1) := by decide +kernel
theorem dX7_meets_257 : decode cX7_meets 257 = .ok (.getfield 136, 3) := by decide +kernel
theorem dX7_meets_260 : decode cX7_meets 260 = .ok (.lconst 0, 1) := by decide +kernel
theorem dX7_meets_261 : decode cX7_meets 261 = .ok (.lcmp, 1) := by decide +kernel
theorem dX7_meets_262 : decode cX7_meets 262 = .ok (.ifCond .ge 45, 3) := by decide +kernel
theorem dX7_meets_265 : decode cX7_meets 265 = .ok (.aload_n 0, 1) := by decide +kernel
theorem dX7_meets_266 : decode cX7_meets 266 = .ok (.aload_n 0, 1) := by decide +kernel
theorem dX7_meets_267 : decode cX7_meets 267 = .ok (.getfield 136, 3) := by decide +kernel
theorem dX7_meets_270 : decode cX7_meets 270 = .ok (.lneg, 1) := by decide +kernel
theorem dX7_meets_271 : decode cX7_meets 271 = .ok (.putfield 136, 3) := by decide +kernel
theorem dX7_meets_274 : decode cX7_meets 274 = .ok (.iconst 0, 1) := by decide +kernel
theorem dX7_meets_275 : decode cX7_meets 275 = .ok (.istore 4, 2) := by decide +kernel
theorem dX7_meets_277 : decode cX7_meets 277 = .ok (.iload 4, 2) := by decide +kernel
theorem dX7_meets_279 : decode cX7_meets 279 = .ok (.aload_n 0, 1) := by decide +kernel
theorem dX7_meets_280 : decode cX7_meets 280 = .ok (.getfield 125, 3) := by decide +kernel
theorem dX7_meets_283 : decode cX7_meets 283 = .ok (.if_icmp .ge 24, 3) := by decide +kernel
theorem dX7_meets_286 : decode cX7_meets 286 = .ok (.aload_n 0, 1) := by decide +kernel
theorem dX7_meets_287 : decode cX7_meets 287 = .ok (.getfield 80, 3) := by decide +kernel
theorem dX7_meets_290 : decode cX7_meets 290 = .ok (.iload 4, 2) := by decide +kernel
theorem dX7_meets_292 : decode cX7_meets 292 = .ok (.aload_n 0, 1) := by decide +kernel
theorem dX7_meets_293 : decode cX7_meets 293 = .ok (.getfield 80, 3) := by decide +kernel
theorem dX7_meets_296 : decode cX7_meets 296 = .ok (.iload 4, 2) := by decide +kernel
theorem dX7_meets_298 : decode cX7_meets 298 = .ok (.laload, 1) := by decide +kernel
theorem dX7_meets_299 : decode cX7_meets 299 = .ok (.lneg, 1) := by decide +kernel
theorem dX7_meets_300 : decode cX7_meets 300 = .ok (.lastore, 1) := by decide +kernel
theorem dX7_meets_301 : decode cX7_meets 301 = .ok (.iinc 4 1, 3) := by decide +kernel
theorem dX7_meets_304 : decode cX7_meets 304 = .ok (.goto (-27), 3) := by decide +kernel
theorem dX7_meets_307 : decode cX7_meets 307 = .ok (.iconst 1, 1) := by decide +kernel
theorem dX7_meets_308 : decode cX7_meets 308 = .ok (.ireturn, 1) := by decide +kernel
theorem dX7_swap_0 : decode cX7_swap 0 = .ok (.iconst 0, 1) := by decide +kernel
theorem dX7_swap_1 : decode cX7_swap 1 = .ok (.istore 4, 2) := by decide +kernel
theorem dX7_swap_3 : decode cX7_swap 3 = .ok (.iload 4, 2) := by decide +kernel
theorem dX7_swap_5 : decode cX7_swap 5 = .ok (.iload_n 3, 1) := by decide +kernel
theorem dX7_swap_6 : decode cX7_swap 6 = .ok (.if_icmp .ge 63, 3) := by decide +kernel
theorem dX7_swap_9 : decode cX7_swap 9 = .ok (.iload_n 1, 1) := by decide +kernel
theorem dX7_swap_10 : decode cX7_swap 10 = .ok (.iload_n 2, 1) := by decide +kernel
theorem dX7_swap_11 : decode cX7_swap 11 = .ok (.if_icmp .eq 58, 3) := by decide +kernel
theorem dX7_swap_14 : decode cX7_swap 14 = .ok (.aload_n 0, 1) := by decide +kernel
theorem dX7_swap_15 : decode cX7_swap 15 = .ok (.getfield 77, 3) := by decide +kernel
theorem dX7_swap_18 : decode cX7_swap 18 = .ok (.iload_n 3, 1) := by decide +kernel
theorem dX7_swap_19 : decode cX7_swap 19 = .ok (.iload_n 1, 1) := by decide +kernel
theorem dX7_swap_20 : decode cX7_swap 20 = .ok (.imul, 1) := by decide +kernel
theorem dX7_swap_21 : decode cX7_swap 21 = .ok (.iload 4, 2) := by decide +kernel
theorem dX7_swap_23 : decode cX7_swap 23 = .ok (.iadd, 1) := by decide +kernel
theorem dX7_swap_24 : decode cX7_swap 24 = .ok (.laload, 1) := by decide +kernel
theorem dX7_swap_25 : decode cX7_swap 25 = .ok (.lstore 5, 2) := by decide +kernel
theorem dX7_swap_27 : decode cX7_swap 27 = .ok (.aload_n 0, 1) := by decide +kernel
theorem dX7_swap_28 : decode cX7_swap 28 = .ok (.getfield 77, 3) := by decide +kernel
theorem dX7_swap_31 : decode cX7_swap 31 = .ok (.iload_n 3, 1) := by decide +kernel
theorem dX7_swap_32 : decode cX7_swap 32 = .ok (.iload_n 1, 1) := by decide +kernel
theorem dX7_swap_33 : decode cX7_swap 33 = .ok (.imul, 1) := by decide +kernel
theorem dX7_swap_34 : decode cX7_swap 34 = .ok (.iload 4, 2) := by decide +kernel
theorem dX7_swap_36 : decode cX7_swap 36 = .ok (.iadd, 1) := by decide +kernel
theorem dX7_swap_37 : decode cX7_swap 37 = .ok (.aload_n 0, 1) := by decide +kernel
theorem dX7_swap_38 : decode cX7_swap 38 = .ok (.getfield 77, 3) := by decide +kernel
theorem dX7_swap_41 : decode cX7_swap 41 = .ok (.iload_n 3, 1) := by decide +kernel
theorem dX7_swap_42 : decode cX7_swap 42 = .ok (.iload_n 2, 1) := by decide +kernel
theorem dX7_swap_43 : decode cX7_swap 43 = .ok (.imul, 1) := by decide +kernel
theorem dX7_swap_44 : decode cX7_swap 44 = .ok (.iload 4, 2) := by decide +kernel
theorem dX7_swap_46 : decode cX7_swap 46 = .ok (.iadd, 1) := by decide +kernel
theorem dX7_swap_47 : decode cX7_swap 47 = .ok (.laload, 1) := by decide +kernel
theorem dX7_swap_48 : decode cX7_swap 48 = .ok (.lneg, 1) := by decide +kernel
theorem dX7_swap_49 : decode cX7_swap 49 = .ok (.lastore, 1) := by decide +kernel
theorem dX7_swap_50 : decode cX7_swap 50 = .ok (.aload_n 0, 1) := by decide +kernel
theorem dX7_swap_51 : decode cX7_swap 51 = .ok (.getfield 77, 3) := by decide +kernel
theorem dX7_swap_54 : decode cX7_swap 54 = .ok (.iload_n 3, 1) := by decide +kernel
theorem dX7_swap_55 : decode cX7_swap 55 = .ok (.iload_n 2, 1) := by decide +kernel
theorem dX7_swap_56 : decode cX7_swap 56 = .ok (.imul, 1) := by decide +kernel
theorem dX7_swap_57 : decode cX7_swap 57 = .ok (.iload 4, 2) := by decide +kernel
theorem dX7_swap_59 : decode cX7_swap 59 = .ok (.iadd, 1) := by decide +kernel
theorem dX7_swap_60 : decode cX7_swap 60 = .ok (.lload 5, 2) := by decide +kernel
theorem dX7_swap_62 : decode cX7_swap 62 = .ok (.lastore, 1) := by decide +kernel
theorem dX7_swap_63 : decode cX7_swap 63 = .ok (.iinc 4 1, 3) := by decide +kernel
theorem dX7_swap_66 : decode cX7_swap 66 = .ok (.goto (-63), 3) := by decide +kernel
theorem dX7_swap_69 : decode cX7_swap 69 = .ok (.return_, 1) := by decide +kernel
theorem dX7_clear_0 : decode cX7_clear 0 = .ok (.iload_n 1, 1) := by decide +kernel
theorem dX7_clear_1 : decode cX7_clear 1 = .ok (.iload_n 2, 1) := by decide +kernel
theorem dX7_clear_2 : decode cX7_clear 2 = .ok (.if_icmp .ne 4, 3) := by decide +kernel
theorem dX7_clear_5 : decode cX7_clear 5 = .ok (.return_, 1) := by decide +kernel
theorem dX7_clear_6 : decode cX7_clear 6 = .ok (.aload_n 0, 1) := by decide +kernel
theorem dX7_clear_7 : decode cX7_clear 7 = .ok (.getfield 77, 3) := by decide +kernel
theorem dX7_clear_10 : decode cX7_clear 10 = .ok (.iload_n 3, 1) := by decide +kernel
theorem dX7_clear_11 : decode cX7_clear 11 = .ok (.iload_n 1, 1) := by decide +kernel
theorem dX7_clear_12 : decode cX7_clear 12 = .ok (.imul, 1) := by decide +kernel
theorem dX7_clear_13 : decode cX7_clear 13 = .ok (.iload_n 2, 1) := by decide +kernel
theorem dX7_clear_14 : decode cX7_clear 14 = .ok (.iadd, 1) := by decide +kernel
theorem dX7_clear_15 : decode cX7_clear 15 = .ok (.laload, 1) := by decide +kernel
theorem dX7_clear_16 : decode cX7_clear 16 = .ok (.lstore 8, 2) := by decide +kernel
theorem dX7_clear_18 : decode cX7_clear 18 = .ok (.iconst 0, 1) := by decide +kernel
theorem dX7_clear_19 : decode cX7_clear 19 = .ok (.istore 10, 2) := by decide +kernel
theorem dX7_clear_21 : decode cX7_clear 21 = .ok (.iload 10, 2) := by decide +kernel
theorem dX7_clear_23 : decode cX7_clear 23 = .ok (.iload_n 3, 1) := by decide +kernel
theorem dX7_clear_24 : decode cX7_clear 24 = .ok (.if_icmp .ge 52, 3) := by decide +kernel
theorem dX7_clear_27 : decode cX7_clear 27 = .ok (.aload_n 0, 1) := by decide +kernel
theorem dX7_clear_28 : decode cX7_clear 28 = .ok (.getfield 77, 3) := by decide +kernel
theorem dX7_clear_31 : decode cX7_clear 31 = .ok (.iload_n 3, 1) := by decide +kernel
theorem dX7_clear_32 : decode cX7_clear 32 = .ok (.iload_n 1, 1) := by decide +kernel
theorem dX7_clear_33 : decode cX7_clear 33 = .ok (.imul, 1) := by decide +kernel
theorem dX7_clear_34 : decode cX7_clear 34 = .ok (.iload 10, 2) := by decide +kernel
theorem dX7_clear_36 : decode cX7_clear 36 = .ok (.iadd, 1) := by decide +kernel
theorem dX7_clear_37 : decode cX7_clear 37 = .ok (.aload_n 0, 1) := by decide +kernel
theorem dX7_clear_38 : decode cX7_clear 38 = .ok (.getfield 77, 3) := by decide +kernel
theorem dX7_clear_41 : decode cX7_clear 41 = .ok (.iload_n 3, 1) := by decide +kernel
theorem dX7_clear_42 : decode cX7_clear 42 = .ok (.iload_n 1, 1) := by decide +kernel
theorem dX7_clear_43 : decode cX7_clear 43 = .ok (.imul, 1) := by decide +kernel
theorem dX7_clear_44 : decode cX7_clear 44 = .ok (.iload 10, 2) := by decide +kernel
theorem dX7_clear_46 : decode cX7_clear 46 = .ok (.iadd, 1) := by decide +kernel
theorem dX7_clear_47 : decode cX7_clear 47 = .ok (.laload, 1) := by decide +kernel
theorem dX7_clear_48 : decode cX7_clear 48 = .ok (.lload 4, 2) := by decide +kernel
theorem dX7_clear_50 : decode cX7_clear 50 = .ok (.lmul, 1) := by decide +kernel
theorem dX7_clear_51 : decode cX7_clear 51 = .ok (.lload 8, 2) := by decide +kernel
theorem dX7_clear_53 : decode cX7_clear 53 = .ok (.aload_n 0, 1) := by decide +kernel
theorem dX7_clear_54 : decode cX7_clear 54 = .ok (.getfield 77, 3) := by decide +kernel
theorem dX7_clear_57 : decode cX7_clear 57 = .ok (.iload_n 3, 1) := by decide +kernel
theorem dX7_clear_58 : decode cX7_clear 58 = .ok (.iload_n 2, 1) := by decide +kernel
theorem dX7_clear_59 : decode cX7_clear 59 = .ok (.imul, 1) := by decide +kernel
theorem dX7_clear_60 : decode cX7_clear 60 = .ok (.iload 10, 2) := by decide +kernel
theorem dX7_clear_62 : decode cX7_clear 62 = .ok (.iadd, 1) := by decide +kernel
theorem dX7_clear_63 : decode cX7_clear 63 = .ok (.laload, 1) := by decide +kernel
theorem dX7_clear_64 : decode cX7_clear 64 = .ok (.lmul, 1) := by decide +kernel
theorem dX7_clear_65 : decode cX7_clear 65 = .ok (.lsub, 1) := by decide +kernel
theorem dX7_clear_66 : decode cX7_clear 66 = .ok (.lload 6, 2) := by decide +kernel
theorem dX7_clear_68 : decode cX7_clear 68 = .ok (.ldiv, 1) := by decide +kernel
theorem dX7_clear_69 : decode cX7_clear 69 = .ok (.lastore, 1) := by decide +kernel
theorem dX7_clear_70 : decode cX7_clear 70 = .ok (.iinc 10 1, 3) := by decide +kernel
theorem dX7_clear_73 : decode cX7_clear 73 = .ok (.goto (-52), 3) := by decide +kernel
theorem dX7_clear_76 : decode cX7_clear 76 = .ok (.return_, 1) := by decide +kernel
theorem dX7_keepsAll_0 : decode cX7_keepsAll 0 = .ok (.iconst 0, 1) := by decide +kernel
theorem dX7_keepsAll_1 : decode cX7_keepsAll 1 = .ok (.istore_n 1, 1) := by decide +kernel
theorem dX7_keepsAll_2 : decode cX7_keepsAll 2 = .ok (.iload_n 1, 1) := by decide +kernel
theorem dX7_keepsAll_3 : decode cX7_keepsAll 3 = .ok (.aload_n 0, 1) := by decide +kernel
theorem dX7_keepsAll_4 : decode cX7_keepsAll 4 = .ok (.getfield 122, 3) := by decide +kernel
theorem dX7_keepsAll_7 : decode cX7_keepsAll 7 = .ok (.if_icmp .ge 135, 3) := by decide +kernel
theorem dX7_keepsAll_10 : decode cX7_keepsAll 10 = .ok (.lconst 0, 1) := by decide +kernel
theorem dX7_keepsAll_11 : decode cX7_keepsAll 11 = .ok (.lstore_n 2, 1) := by decide +kernel
theorem dX7_keepsAll_12 : decode cX7_keepsAll 12 = .ok (.iconst 0, 1) := by decide +kernel
theorem dX7_keepsAll_13 : decode cX7_keepsAll 13 = .ok (.istore 4, 2) := by decide +kernel
theorem dX7_keepsAll_15 : decode cX7_keepsAll 15 = .ok (.iload 4, 2) := by decide +kernel
theorem dX7_keepsAll_17 : decode cX7_keepsAll 17 = .ok (.aload_n 0, 1) := by decide +kernel
theorem dX7_keepsAll_18 : decode cX7_keepsAll 18 = .ok (.getfield 125, 3) := by decide +kernel
theorem dX7_keepsAll_21 : decode cX7_keepsAll 21 = .ok (.if_icmp .ge 32, 3) := by decide +kernel
theorem dX7_keepsAll_24 : decode cX7_keepsAll 24 = .ok (.lload_n 2, 1) := by decide +kernel
theorem dX7_keepsAll_25 : decode cX7_keepsAll 25 = .ok (.aload_n 0, 1) := by decide +kernel
theorem dX7_keepsAll_26 : decode cX7_keepsAll 26 = .ok (.getfield 65, 3) := by decide +kernel
theorem dX7_keepsAll_29 : decode cX7_keepsAll 29 = .ok (.iconst 5, 1) := by decide +kernel
theorem dX7_keepsAll_30 : decode cX7_keepsAll 30 = .ok (.iload_n 1, 1) := by decide +kernel
theorem dX7_keepsAll_31 : decode cX7_keepsAll 31 = .ok (.imul, 1) := by decide +kernel
theorem dX7_keepsAll_32 : decode cX7_keepsAll 32 = .ok (.iload 4, 2) := by decide +kernel
theorem dX7_keepsAll_34 : decode cX7_keepsAll 34 = .ok (.iadd, 1) := by decide +kernel
theorem dX7_keepsAll_35 : decode cX7_keepsAll 35 = .ok (.iaload, 1) := by decide +kernel
theorem dX7_keepsAll_36 : decode cX7_keepsAll 36 = .ok (.i2l, 1) := by decide +kernel
theorem dX7_keepsAll_37 : decode cX7_keepsAll 37 = .ok (.aload_n 0, 1) := by decide +kernel
theorem dX7_keepsAll_38 : decode cX7_keepsAll 38 = .ok (.getfield 80, 3) := by decide +kernel
theorem dX7_keepsAll_41 : decode cX7_keepsAll 41 = .ok (.iload 4, 2) := by decide +kernel
theorem dX7_keepsAll_43 : decode cX7_keepsAll 43 = .ok (.laload, 1) := by decide +kernel
theorem dX7_keepsAll_44 : decode cX7_keepsAll 44 = .ok (.lmul, 1) := by decide +kernel
theorem dX7_keepsAll_45 : decode cX7_keepsAll 45 = .ok (.ladd, 1) := by decide +kernel
theorem dX7_keepsAll_46 : decode cX7_keepsAll 46 = .ok (.lstore_n 2, 1) := by decide +kernel
theorem dX7_keepsAll_47 : decode cX7_keepsAll 47 = .ok (.iinc 4 1, 3) := by decide +kernel
theorem dX7_keepsAll_50 : decode cX7_keepsAll 50 = .ok (.goto (-35), 3) := by decide +kernel
theorem dX7_keepsAll_53 : decode cX7_keepsAll 53 = .ok (.aload_n 0, 1) := by decide +kernel
theorem dX7_keepsAll_54 : decode cX7_keepsAll 54 = .ok (.getfield 68, 3) := by decide +kernel
theorem dX7_keepsAll_57 : decode cX7_keepsAll 57 = .ok (.iload_n 1, 1) := by decide +kernel
theorem dX7_keepsAll_58 : decode cX7_keepsAll 58 = .ok (.laload, 1) := by decide +kernel
theorem dX7_keepsAll_59 : decode cX7_keepsAll 59 = .ok (.aload_n 0, 1) := by decide +kernel
theorem dX7_keepsAll_60 : decode cX7_keepsAll 60 = .ok (.getfield 136, 3) := by decide +kernel
theorem dX7_keepsAll_63 : decode cX7_keepsAll 63 = .ok (.lmul, 1) := by decide +kernel
theorem dX7_keepsAll_64 : decode cX7_keepsAll 64 = .ok (.lstore 4, 2) := by decide +kernel
theorem dX7_keepsAll_66 : decode cX7_keepsAll 66 = .ok (.aload_n 0, 1) := by decide +kernel
theorem dX7_keepsAll_67 : decode cX7_keepsAll 67 = .ok (.getfield 71, 3) := by decide +kernel
theorem dX7_keepsAll_70 : decode cX7_keepsAll 70 = .ok (.iload_n 1, 1) := by decide +kernel
theorem dX7_keepsAll_71 : decode cX7_keepsAll 71 = .ok (.iaload, 1) := by decide +kernel
theorem dX7_keepsAll_72 : decode cX7_keepsAll 72 = .ok (.ifCond .ne 18, 3) := by decide +kernel
theorem dX7_keepsAll_75 : decode cX7_keepsAll 75 = .ok (.lload_n 2, 1) := by decide +kernel
theorem dX7_keepsAll_76 : decode cX7_keepsAll 76 = .ok (.lload 4, 2) := by decide +kernel
theorem dX7_keepsAll_78 : decode cX7_keepsAll 78 = .ok (.lcmp, 1) := by decide +kernel
theorem dX7_keepsAll_79 : decode cX7_keepsAll 79 = .ok (.ifCond .gt 7, 3) := by decide +kernel
theorem dX7_keepsAll_82 : decode cX7_keepsAll 82 = .ok (.iconst 1, 1) := by decide +kernel
theorem dX7_keepsAll_83 : decode cX7_keepsAll 83 = .ok (.goto 44, 3) := by decide +kernel
theorem dX7_keepsAll_86 : decode cX7_keepsAll 86 = .ok (.iconst 0, 1) := by decide +kernel
theorem dX7_keepsAll_87 : decode cX7_keepsAll 87 = .ok (.goto 40, 3) := by decide +kernel
theorem dX7_keepsAll_90 : decode cX7_keepsAll 90 = .ok (.aload_n 0, 1) := by decide +kernel
theorem dX7_keepsAll_91 : decode cX7_keepsAll 91 = .ok (.getfield 71, 3) := by decide +kernel
theorem dX7_keepsAll_94 : decode cX7_keepsAll 94 = .ok (.iload_n 1, 1) := by decide +kernel
theorem dX7_keepsAll_95 : decode cX7_keepsAll 95 = .ok (.iaload, 1) := by decide +kernel
theorem dX7_keepsAll_96 : decode cX7_keepsAll 96 = .ok (.iconst 1, 1) := by decide +kernel
theorem dX7_keepsAll_97 : decode cX7_keepsAll 97 = .ok (.if_icmp .ne 18, 3) := by decide +kernel
theorem dX7_keepsAll_100 : decode cX7_keepsAll 100 = .ok (.lload_n 2, 1) := by decide +kernel
theorem dX7_keepsAll_101 : decode cX7_keepsAll 101 = .ok (.lload 4, 2) := by decide +kernel
theorem dX7_keepsAll_103 : decode cX7_keepsAll 103 = .ok (.lcmp, 1) := by decide +kernel
theorem dX7_keepsAll_104 : decode cX7_keepsAll 104 = .ok (.ifCond .lt 7, 3) := by decide +kernel
theorem dX7_keepsAll_107 : decode cX7_keepsAll 107 = .ok (.iconst 1, 1) := by decide +kernel
theorem dX7_keepsAll_108 : decode cX7_keepsAll 108 = .ok (.goto 19, 3) := by decide +kernel
theorem dX7_keepsAll_111 : decode cX7_keepsAll 111 = .ok (.iconst 0, 1) := by decide +kernel
theorem dX7_keepsAll_112 : decode cX7_keepsAll 112 = .ok (.goto 15, 3) := by decide +kernel
theorem dX7_keepsAll_115 : decode cX7_keepsAll 115 = .ok (.lload_n 2, 1) := by decide +kernel
theorem dX7_keepsAll_116 : decode cX7_keepsAll 116 = .ok (.lload 4, 2) := by decide +kernel
theorem dX7_keepsAll_118 : decode cX7_keepsAll 118 = .ok (.lcmp, 1) := by decide +kernel
theorem dX7_keepsAll_119 : decode cX7_keepsAll 119 = .ok (.ifCond .ne 7, 3) := by decide +kernel
theorem dX7_keepsAll_122 : decode cX7_keepsAll 122 = .ok (.iconst 1, 1) := by decide +kernel
theorem dX7_keepsAll_123 : decode cX7_keepsAll 123 = .ok (.goto 4, 3) := by decide +kernel
theorem dX7_keepsAll_126 : decode cX7_keepsAll 126 = .ok (.iconst 0, 1) := by decide +kernel
theorem dX7_keepsAll_127 : decode cX7_keepsAll 127 = .ok (.istore 6, 2) := by decide +kernel
theorem dX7_keepsAll_129 : decode cX7_keepsAll 129 = .ok (.iload 6, 2) := by decide +kernel
theorem dX7_keepsAll_131 : decode cX7_keepsAll 131 = .ok (.ifCond .ne 5, 3) := by decide +kernel
theorem dX7_keepsAll_134 : decode cX7_keepsAll 134 = .ok (.iconst 0, 1) := by decide +kernel
theorem dX7_keepsAll_135 : decode cX7_keepsAll 135 = .ok (.ireturn, 1) := by decide +kernel
theorem dX7_keepsAll_136 : decode cX7_keepsAll 136 = .ok (.iinc 1 1, 3) := by decide +kernel
theorem dX7_keepsAll_139 : decode cX7_keepsAll 139 = .ok (.goto (-137), 3) := by decide +kernel
theorem dX7_keepsAll_142 : decode cX7_keepsAll 142 = .ok (.iconst 1, 1) := by decide +kernel
theorem dX7_keepsAll_143 : decode cX7_keepsAll 143 = .ok (.ireturn, 1) := by decide +kernel
theorem dX7_first_0 : decode cX7_first 0 = .ok (.iconst 0, 1) := by decide +kernel
theorem dX7_first_1 : decode cX7_first 1 = .ok (.istore_n 1, 1) := by decide +kernel
theorem dX7_first_2 : decode cX7_first 2 = .ok (.iload_n 1, 1) := by decide +kernel
theorem dX7_first_3 : decode cX7_first 3 = .ok (.aload_n 0, 1) := by decide +kernel
theorem dX7_first_4 : decode cX7_first 4 = .ok (.getfield 125, 3) := by decide +kernel
theorem dX7_first_7 : decode cX7_first 7 = .ok (.if_icmp .ge 16, 3) := by decide +kernel
theorem dX7_first_10 : decode cX7_first 10 = .ok (.aload_n 0, 1) := by decide +kernel
theorem dX7_first_11 : decode cX7_first 11 = .ok (.getfield 74, 3) := by decide +kernel
theorem dX7_first_14 : decode cX7_first 14 = .ok (.iload_n 1, 1) := by decide +kernel
theorem dX7_first_15 : decode cX7_first 15 = .ok (.iload_n 1, 1) := by decide +kernel
theorem dX7_first_16 : decode cX7_first 16 = .ok (.iastore, 1) := by decide +kernel
theorem dX7_first_17 : decode cX7_first 17 = .ok (.iinc 1 1, 3) := by decide +kernel
theorem dX7_first_20 : decode cX7_first 20 = .ok (.goto (-18), 3) := by decide +kernel
theorem dX7_first_23 : decode cX7_first 23 = .ok (.aload_n 0, 1) := by decide +kernel
theorem dX7_first_24 : decode cX7_first 24 = .ok (.getfield 125, 3) := by decide +kernel
theorem dX7_first_27 : decode cX7_first 27 = .ok (.aload_n 0, 1) := by decide +kernel
theorem dX7_first_28 : decode cX7_first 28 = .ok (.getfield 122, 3) := by decide +kernel
theorem dX7_first_31 : decode cX7_first 31 = .ok (.if_icmp .gt 7, 3) := by decide +kernel
theorem dX7_first_34 : decode cX7_first 34 = .ok (.iconst 1, 1) := by decide +kernel
theorem dX7_first_35 : decode cX7_first 35 = .ok (.goto 4, 3) := by decide +kernel
theorem dX7_first_38 : decode cX7_first 38 = .ok (.iconst 0, 1) := by decide +kernel
theorem dX7_first_39 : decode cX7_first 39 = .ok (.ireturn, 1) := by decide +kernel
theorem dX7_another_0 : decode cX7_another 0 = .ok (.aload_n 0, 1) := by decide +kernel
theorem dX7_another_1 : decode cX7_another 1 = .ok (.getfield 125, 3) := by decide +kernel
theorem dX7_another_4 : decode cX7_another 4 = .ok (.iconst 1, 1) := by decide +kernel
theorem dX7_another_5 : decode cX7_another 5 = .ok (.isub, 1) := by decide +kernel
theorem dX7_another_6 : decode cX7_another 6 = .ok (.istore_n 1, 1) := by decide +kernel
theorem dX7_another_7 : decode cX7_another 7 = .ok (.iload_n 1, 1) := by decide +kernel
theorem dX7_another_8 : decode cX7_another 8 = .ok (.ifCond .lt 29, 3) := by decide +kernel
theorem dX7_another_11 : decode cX7_another 11 = .ok (.aload_n 0, 1) := by decide +kernel
theorem dX7_another_12 : decode cX7_another 12 = .ok (.getfield 74, 3) := by decide +kernel
theorem dX7_another_15 : decode cX7_another 15 = .ok (.iload_n 1, 1) := by decide +kernel
theorem dX7_another_16 : decode cX7_another 16 = .ok (.iaload, 1) := by decide +kernel
theorem dX7_another_17 : decode cX7_another 17 = .ok (.aload_n 0, 1) := by decide +kernel
theorem dX7_another_18 : decode cX7_another 18 = .ok (.getfield 122, 3) := by decide +kernel
theorem dX7_another_21 : decode cX7_another 21 = .ok (.aload_n 0, 1) := by decide +kernel
theorem dX7_another_22 : decode cX7_another 22 = .ok (.getfield 125, 3) := by decide +kernel
theorem dX7_another_25 : decode cX7_another 25 = .ok (.isub, 1) := by decide +kernel
theorem dX7_another_26 : decode cX7_another 26 = .ok (.iload_n 1, 1) := by decide +kernel
theorem dX7_another_27 : decode cX7_another 27 = .ok (.iadd, 1) := by decide +kernel
theorem dX7_another_28 : decode cX7_another 28 = .ok (.if_icmp .ne 9, 3) := by decide +kernel
theorem dX7_another_31 : decode cX7_another 31 = .ok (.iinc 1 (-1), 3) := by decide +kernel
theorem dX7_another_34 : decode cX7_another 34 = .ok (.goto (-27), 3) := by decide +kernel
theorem dX7_another_37 : decode cX7_another 37 = .ok (.iload_n 1, 1) := by decide +kernel
theorem dX7_another_38 : decode cX7_another 38 = .ok (.ifCond .ge 5, 3) := by decide +kernel
theorem dX7_another_41 : decode cX7_another 41 = .ok (.iconst 0, 1) := by decide +kernel
theorem dX7_another_42 : decode cX7_another 42 = .ok (.ireturn, 1) := by decide +kernel
theorem dX7_another_43 : decode cX7_another 43 = .ok (.aload_n 0, 1) := by decide +kernel
theorem dX7_another_44 : decode cX7_another 44 = .ok (.getfield 74, 3) := by decide +kernel
theorem dX7_another_47 : decode cX7_another 47 = .ok (.iload_n 1, 1) := by decide +kernel
theorem dX7_another_48 : decode cX7_another 48 = .ok (.dup2, 1) := by decide +kernel
theorem dX7_another_49 : decode cX7_another 49 = .ok (.iaload, 1) := by decide +kernel
theorem dX7_another_50 : decode cX7_another 50 = .ok (.iconst 1, 1) := by decide +kernel
theorem dX7_another_51 : decode cX7_another 51 = .ok (.iadd, 1) := by decide +kernel
theorem dX7_another_52 : decode cX7_another 52 = .ok (.iastore, 1) := by decide +kernel
theorem dX7_another_53 : decode cX7_another 53 = .ok (.iload_n 1, 1) := by decide +kernel
theorem dX7_another_54 : decode cX7_another 54 = .ok (.iconst 1, 1) := by decide +kernel
theorem dX7_another_55 : decode cX7_another 55 = .ok (.iadd, 1) := by decide +kernel
theorem dX7_another_56 : decode cX7_another 56 = .ok (.istore_n 2, 1) := by decide +kernel
theorem dX7_another_57 : decode cX7_another 57 = .ok (.iload_n 2, 1) := by decide +kernel
theorem dX7_another_58 : decode cX7_another 58 = .ok (.aload_n 0, 1) := by decide +kernel
theorem dX7_another_59 : decode cX7_another 59 = .ok (.getfield 125, 3) := by decide +kernel
theorem dX7_another_62 : decode cX7_another 62 = .ok (.if_icmp .ge 25, 3) := by decide +kernel
theorem dX7_another_65 : decode cX7_another 65 = .ok (.aload_n 0, 1) := by decide +kernel
theorem dX7_another_66 : decode cX7_another 66 = .ok (.getfield 74, 3) := by decide +kernel
theorem dX7_another_69 : decode cX7_another 69 = .ok (.iload_n 2, 1) := by decide +kernel
theorem dX7_another_70 : decode cX7_another 70 = .ok (.aload_n 0, 1) := by decide +kernel
theorem dX7_another_71 : decode cX7_another 71 = .ok (.getfield 74, 3) := by decide +kernel
theorem dX7_another_74 : decode cX7_another 74 = .ok (.iload_n 2, 1) := by decide +kernel
theorem dX7_another_75 : decode cX7_another 75 = .ok (.iconst 1, 1) := by decide +kernel
theorem dX7_another_76 : decode cX7_another 76 = .ok (.isub, 1) := by decide +kernel
theorem dX7_another_77 : decode cX7_another 77 = .ok (.iaload, 1) := by decide +kernel
theorem dX7_another_78 : decode cX7_another 78 = .ok (.iconst 1, 1) := by decide +kernel
theorem dX7_another_79 : decode cX7_another 79 = .ok (.iadd, 1) := by decide +kernel
theorem dX7_another_80 : decode cX7_another 80 = .ok (.iastore, 1) := by decide +kernel
theorem dX7_another_81 : decode cX7_another 81 = .ok (.iinc 2 1, 3) := by decide +kernel
theorem dX7_another_84 : decode cX7_another 84 = .ok (.goto (-27), 3) := by decide +kernel
theorem dX7_another_87 : decode cX7_another 87 = .ok (.iconst 1, 1) := by decide +kernel
theorem dX7_another_88 : decode cX7_another 88 = .ok (.ireturn, 1) := by decide +kernel
theorem dX7_gatherFree_0 : decode cX7_gatherFree 0 = .ok (.aload_n 0, 1) := by decide +kernel
theorem dX7_gatherFree_1 : decode cX7_gatherFree 1 = .ok (.iconst 0, 1) := by decide +kernel
theorem dX7_gatherFree_2 : decode cX7_gatherFree 2 = .ok (.putfield 125, 3) := by decide +kernel
theorem dX7_gatherFree_5 : decode cX7_gatherFree 5 = .ok (.iconst 0, 1) := by decide +kernel
theorem dX7_gatherFree_6 : decode cX7_gatherFree 6 = .ok (.istore_n 1, 1) := by decide +kernel
theorem dX7_gatherFree_7 : decode cX7_gatherFree 7 = .ok (.iload_n 1, 1) := by decide +kernel
theorem dX7_gatherFree_8 : decode cX7_gatherFree 8 = .ok (.aload_n 0, 1) := by decide +kernel
theorem dX7_gatherFree_9 : decode cX7_gatherFree 9 = .ok (.getfield 98, 3) := by decide +kernel
theorem dX7_gatherFree_12 : decode cX7_gatherFree 12 = .ok (.if_icmp .ge 38, 3) := by decide +kernel
theorem dX7_gatherFree_15 : decode cX7_gatherFree 15 = .ok (.aload_n 0, 1) := by decide +kernel
theorem dX7_gatherFree_16 : decode cX7_gatherFree 16 = .ok (.getfield 83, 3) := by decide +kernel
theorem dX7_gatherFree_19 : decode cX7_gatherFree 19 = .ok (.iload_n 1, 1) := by decide +kernel
theorem dX7_gatherFree_20 : decode cX7_gatherFree 20 = .ok (.baload, 1) := by decide +kernel
theorem dX7_gatherFree_21 : decode cX7_gatherFree 21 = .ok (.ifCond .ne 23, 3) := by decide +kernel
theorem dX7_gatherFree_24 : decode cX7_gatherFree 24 = .ok (.aload_n 0, 1) := by decide +kernel
theorem dX7_gatherFree_25 : decode cX7_gatherFree 25 = .ok (.getfield 62, 3) := by decide +kernel
theorem dX7_gatherFree_28 : decode cX7_gatherFree 28 = .ok (.aload_n 0, 1) := by decide +kernel
theorem dX7_gatherFree_29 : decode cX7_gatherFree 29 = .ok (.getfield 125, 3) := by decide +kernel
theorem dX7_gatherFree_32 : decode cX7_gatherFree 32 = .ok (.iload_n 1, 1) := by decide +kernel
theorem dX7_gatherFree_33 : decode cX7_gatherFree 33 = .ok (.iastore, 1) := by decide +kernel
theorem dX7_gatherFree_34 : decode cX7_gatherFree 34 = .ok (.aload_n 0, 1) := by decide +kernel
theorem dX7_gatherFree_35 : decode cX7_gatherFree 35 = .ok (.dup, 1) := by decide +kernel
theorem dX7_gatherFree_36 : decode cX7_gatherFree 36 = .ok (.getfield 125, 3) := by decide +kernel
theorem dX7_gatherFree_39 : decode cX7_gatherFree 39 = .ok (.iconst 1, 1) := by decide +kernel
theorem dX7_gatherFree_40 : decode cX7_gatherFree 40 = .ok (.iadd, 1) := by decide +kernel
theorem dX7_gatherFree_41 : decode cX7_gatherFree 41 = .ok (.putfield 125, 3) := by decide +kernel
theorem dX7_gatherFree_44 : decode cX7_gatherFree 44 = .ok (.iinc 1 1, 3) := by decide +kernel
theorem dX7_gatherFree_47 : decode cX7_gatherFree 47 = .ok (.goto (-40), 3) := by decide +kernel
theorem dX7_gatherFree_50 : decode cX7_gatherFree 50 = .ok (.return_, 1) := by decide +kernel
set_option maxRecDepth 20000 in
theorem ggX7_lay_X7_gatherFree : GoodIn wsX7_lay wsX7_gatherFree := goodIn_r _ [19, 9, 4, 5, 11, 26, 27, 28, 29, 30, 31, 32, 33, 34, 35, 36, 37, 38, 39, 40, 41, 42, 43, 44, 45, 46, 47, 48, 49, 50, 51, 52, 53, 54, 55, 56, 57, 58, 59, 60, 61, 62, 63] (by decide +kernel) (by decide +kernel)
set_option maxRecDepth 20000 in
theorem gX7_lay_X7_gatherFree : GoodIn wsX7_lay (wsV RX7 139 RX7 yX7_gatherFree wsX7_gatherFree) := goodIn_app (goodIn_of _ (by decide +kernel)) ggX7_lay_X7_gatherFree
set_option maxRecDepth 20000 in
theorem ggX7_lay_X7_condition : GoodIn wsX7_lay wsX7_condition := goodIn_r _ [23, 10, 1, 24, 25, 26, 27, 28, 29, 30, 31, 32, 33, 34, 35, 36, 37, 38, 39, 40, 41, 42, 43, 44, 45, 46, 47, 48, 49, 50, 51, 52, 53, 54, 55, 56, 57, 58, 59, 60, 61, 62, 63] (by decide +kernel) (by decide +kernel)
set_option maxRecDepth 20000 in
theorem gX7_lay_X7_condition : GoodIn wsX7_lay (wsV RX7 142 RX7 yX7_condition wsX7_condition) := goodIn_app (goodIn_of _ (by decide +kernel)) ggX7_lay_X7_condition
theorem dX7_lay_0 : decode cX7_lay 0 = .ok (.aload_n 0, 1) := by decide +kernel
theorem dX7_lay_1 : decode cX7_lay 1 = .ok (.invokevirtual 139, 3) := by decide +kernel
theorem dX7_lay_4 : decode cX7_lay 4 = .ok (.aload_n 0, 1) := by decide +kernel
theorem dX7_lay_5 : decode cX7_lay 5 = .ok (.iconst 0, 1) := by decide +kernel
theorem dX7_lay_6 : decode cX7_lay 6 = .ok (.putfield 122, 3) := by decide +kernel
theorem dX7_lay_9 : decode cX7_lay 9 = .ok (.iconst 0, 1) := by decide +kernel
theorem dX7_lay_10 : decode cX7_lay 10 = .ok (.istore_n 2, 1) := by decide +kernel
theorem dX7_lay_11 : decode cX7_lay 11 = .ok (.iload_n 2, 1) := by decide +kernel
theorem dX7_lay_12 : decode cX7_lay 12 = .ok (.aload_n 0, 1) := by decide +kernel
theorem dX7_lay_13 : decode cX7_lay 13 = .ok (.getfield 105, 3) := by decide +kernel
theorem dX7_lay_16 : decode cX7_lay 16 = .ok (.if_icmp .ge 140, 3) := by decide +kernel
theorem dX7_lay_19 : decode cX7_lay 19 = .ok (.iload_n 1, 1) := by decide +kernel
theorem dX7_lay_20 : decode cX7_lay 20 = .ok (.iload_n 2, 1) := by decide +kernel
theorem dX7_lay_21 : decode cX7_lay 21 = .ok (.ishr, 1) := by decide +kernel
theorem dX7_lay_22 : decode cX7_lay 22 = .ok (.iconst 1, 1) := by decide +kernel
theorem dX7_lay_23 : decode cX7_lay 23 = .ok (.iand, 1) := by decide +kernel
theorem dX7_lay_24 : decode cX7_lay 24 = .ok (.iconst 1, 1) := by decide +kernel
theorem dX7_lay_25 : decode cX7_lay 25 = .ok (.if_icmp .ne 125, 3) := by decide +kernel
theorem dX7_lay_28 : decode cX7_lay 28 = .ok (.aload_n 0, 1) := by decide +kernel
theorem dX7_lay_29 : decode cX7_lay 29 = .ok (.getfield 89, 3) := by decide +kernel
theorem dX7_lay_32 : decode cX7_lay 32 = .ok (.iload_n 2, 1) := by decide +kernel
theorem dX7_lay_33 : decode cX7_lay 33 = .ok (.iaload, 1) := by decide +kernel
theorem dX7_lay_34 : decode cX7_lay 34 = .ok (.i2l, 1) := by decide +kernel
theorem dX7_lay_35 : decode cX7_lay 35 = .ok (.lstore_n 3, 1) := by decide +kernel
theorem dX7_lay_36 : decode cX7_lay 36 = .ok (.iconst 0, 1) := by decide +kernel
theorem dX7_lay_37 : decode cX7_lay 37 = .ok (.istore 5, 2) := by decide +kernel
theorem dX7_lay_39 : decode cX7_lay 39 = .ok (.iload 5, 2) := by decide +kernel
theorem dX7_lay_41 : decode cX7_lay 41 = .ok (.aload_n 0, 1) := by decide +kernel
theorem dX7_lay_42 : decode cX7_lay 42 = .ok (.getfield 98, 3) := by decide +kernel
theorem dX7_lay_45 : decode cX7_lay 45 = .ok (.if_icmp .ge 46, 3) := by decide +kernel
theorem dX7_lay_48 : decode cX7_lay 48 = .ok (.lload_n 3, 1) := by decide +kernel
theorem dX7_lay_49 : decode cX7_lay 49 = .ok (.aload_n 0, 1) := by decide +kernel
theorem dX7_lay_50 : decode cX7_lay 50 = .ok (.getfield 83, 3) := by decide +kernel
theorem dX7_lay_53 : decode cX7_lay 53 = .ok (.iload 5, 2) := by decide +kernel
theorem dX7_lay_55 : decode cX7_lay 55 = .ok (.baload, 1) := by decide +kernel
theorem dX7_lay_56 : decode cX7_lay 56 = .ok (.ifCond .eq 26, 3) := by decide +kernel
theorem dX7_lay_59 : decode cX7_lay 59 = .ok (.aload_n 0, 1) := by decide +kernel
theorem dX7_lay_60 : decode cX7_lay 60 = .ok (.getfield 35, 3) := by decide +kernel
theorem dX7_lay_63 : decode cX7_lay 63 = .ok (.iconst 5, 1) := by decide +kernel
theorem dX7_lay_64 : decode cX7_lay 64 = .ok (.iload_n 2, 1) := by decide +kernel
theorem dX7_lay_65 : decode cX7_lay 65 = .ok (.imul, 1) := by decide +kernel
theorem dX7_lay_66 : decode cX7_lay 66 = .ok (.iload 5, 2) := by decide +kernel
theorem dX7_lay_68 : decode cX7_lay 68 = .ok (.iadd, 1) := by decide +kernel
theorem dX7_lay_69 : decode cX7_lay 69 = .ok (.iaload, 1) := by decide +kernel
theorem dX7_lay_70 : decode cX7_lay 70 = .ok (.i2l, 1) := by decide +kernel
theorem dX7_lay_71 : decode cX7_lay 71 = .ok (.aload_n 0, 1) := by decide +kernel
theorem dX7_lay_72 : decode cX7_lay 72 = .ok (.getfield 86, 3) := by decide +kernel
theorem dX7_lay_75 : decode cX7_lay 75 = .ok (.iload 5, 2) := by decide +kernel
theorem dX7_lay_77 : decode cX7_lay 77 = .ok (.laload, 1) := by decide +kernel
theorem dX7_lay_78 : decode cX7_lay 78 = .ok (.lmul, 1) := by decide +kernel
theorem dX7_lay_79 : decode cX7_lay 79 = .ok (.goto 4, 3) := by decide +kernel
theorem dX7_lay_82 : decode cX7_lay 82 = .ok (.lconst 0, 1) := by decide +kernel
theorem dX7_lay_83 : decode cX7_lay 83 = .ok (.lsub, 1) := by decide +kernel
theorem dX7_lay_84 : decode cX7_lay 84 = .ok (.lstore_n 3, 1) := by decide +kernel
theorem dX7_lay_85 : decode cX7_lay 85 = .ok (.iinc 5 1, 3) := by decide +kernel
theorem dX7_lay_88 : decode cX7_lay 88 = .ok (.goto (-49), 3) := by decide +kernel
theorem dX7_lay_91 : decode cX7_lay 91 = .ok (.aload_n 0, 1) := by decide +kernel
theorem dX7_lay_92 : decode cX7_lay 92 = .ok (.aload_n 0, 1) := by decide +kernel
theorem dX7_lay_93 : decode cX7_lay 93 = .ok (.getfield 25, 3) := by decide +kernel
theorem dX7_lay_96 : decode cX7_lay 96 = .ok (.iload_n 2, 1) := by decide +kernel
theorem dX7_lay_97 : decode cX7_lay 97 = .ok (.iaload, 1) := by decide +kernel
theorem dX7_lay_98 : decode cX7_lay 98 = .ok (.lload_n 3, 1) := by decide +kernel
theorem dX7_lay_99 : decode cX7_lay 99 = .ok (.invokevirtual 142, 3) := by decide +kernel
theorem dX7_lay_102 : decode cX7_lay 102 = .ok (.istore 5, 2) := by decide +kernel
theorem dX7_lay_104 : decode cX7_lay 104 = .ok (.iconst 0, 1) := by decide +kernel
theorem dX7_lay_105 : decode cX7_lay 105 = .ok (.istore 6, 2) := by decide +kernel
theorem dX7_lay_107 : decode cX7_lay 107 = .ok (.iload 6, 2) := by decide +kernel
theorem dX7_lay_109 : decode cX7_lay 109 = .ok (.aload_n 0, 1) := by decide +kernel
theorem dX7_lay_110 : decode cX7_lay 110 = .ok (.getfield 125, 3) := by decide +kernel
theorem dX7_lay_113 : decode cX7_lay 113 = .ok (.if_icmp .ge 37, 3) := by decide +kernel
theorem dX7_lay_116 : decode cX7_lay 116 = .ok (.aload_n 0, 1) := by decide +kernel
theorem dX7_lay_117 : decode cX7_lay 117 = .ok (.getfield 65, 3) := by decide +kernel
theorem dX7_lay_120 : decode cX7_lay 120 = .ok (.iconst 5, 1) := by decide +kernel
theorem dX7_lay_121 : decode cX7_lay 121 = .ok (.iload 5, 2) := by decide +kernel
theorem dX7_lay_123 : decode cX7_lay 123 = .ok (.imul, 1) := by decide +kernel
theorem dX7_lay_124 : decode cX7_lay 124 = .ok (.iload 6, 2) := by decide +kernel
theorem dX7_lay_126 : decode cX7_lay 126 = .ok (.iadd, 1) := by decide +kernel
theorem dX7_lay_127 : decode cX7_lay 127 = .ok (.aload_n 0, 1) := by decide +kernel
theorem dX7_lay_128 : decode cX7_lay 128 = .ok (.getfield 35, 3) := by decide +kernel
theorem dX7_lay_131 : decode cX7_lay 131 = .ok (.iconst 5, 1) := by decide +kernel
theorem dX7_lay_132 : decode cX7_lay 132 = .ok (.iload_n 2, 1) := by decide +kernel
theorem dX7_lay_133 : decode cX7_lay 133 = .ok (.imul, 1) := by decide +kernel
theorem dX7_lay_134 : decode cX7_lay 134 = .ok (.aload_n 0, 1) := by decide +kernel
theorem dX7_lay_135 : decode cX7_lay 135 = .ok (.getfield 62, 3) := by decide +kernel
theorem dX7_lay_138 : decode cX7_lay 138 = .ok (.iload 6, 2) := by decide +kernel
theorem dX7_lay_140 : decode cX7_lay 140 = .ok (.iaload, 1) := by decide +kernel
theorem dX7_lay_141 : decode cX7_lay 141 = .ok (.iadd, 1) := by decide +kernel
theorem dX7_lay_142 : decode cX7_lay 142 = .ok (.iaload, 1) := by decide +kernel
theorem dX7_lay_143 : decode cX7_lay 143 = .ok (.iastore, 1) := by decide +kernel
theorem dX7_lay_144 : decode cX7_lay 144 = .ok (.iinc 6 1, 3) := by decide +kernel
theorem dX7_lay_147 : decode cX7_lay 147 = .ok (.goto (-40), 3) := by decide +kernel
theorem dX7_lay_150 : decode cX7_lay 150 = .ok (.iinc 2 1, 3) := by decide +kernel
theorem dX7_lay_153 : decode cX7_lay 153 = .ok (.goto (-142), 3) := by decide +kernel
theorem dX7_lay_156 : decode cX7_lay 156 = .ok (.iconst 0, 1) := by decide +kernel
theorem dX7_lay_157 : decode cX7_lay 157 = .ok (.istore_n 2, 1) := by decide +kernel
theorem dX7_lay_158 : decode cX7_lay 158 = .ok (.iload_n 2, 1) := by decide +kernel
theorem dX7_lay_159 : decode cX7_lay 159 = .ok (.aload_n 0, 1) := by decide +kernel
theorem dX7_lay_160 : decode cX7_lay 160 = .ok (.getfield 125, 3) := by decide +kernel
theorem dX7_lay_163 : decode cX7_lay 163 = .ok (.if_icmp .ge 79, 3) := by decide +kernel
theorem dX7_lay_166 : decode cX7_lay 166 = .ok (.aload_n 0, 1) := by decide +kernel
theorem dX7_lay_167 : decode cX7_lay 167 = .ok (.getfield 65, 3) := by decide +kernel
theorem dX7_lay_170 : decode cX7_lay 170 = .ok (.iconst 5, 1) := by decide +kernel
theorem dX7_lay_171 : decode cX7_lay 171 = .ok (.aload_n 0, 1) := by decide +kernel
theorem dX7_lay_172 : decode cX7_lay 172 = .ok (.iconst 1, 1) := by decide +kernel
theorem dX7_lay_173 : decode cX7_lay 173 = .ok (.aload_n 0, 1) := by decide +kernel
theorem dX7_lay_174 : decode cX7_lay 174 = .ok (.getfield 13, 3) := by decide +kernel
theorem dX7_lay_177 : decode cX7_lay 177 = .ok (.aload_n 0, 1) := by decide +kernel
theorem dX7_lay_178 : decode cX7_lay 178 = .ok (.getfield 62, 3) := by decide +kernel
theorem dX7_lay_181 : decode cX7_lay 181 = .ok (.iload_n 2, 1) := by decide +kernel
theorem dX7_lay_182 : decode cX7_lay 182 = .ok (.iaload, 1) := by decide +kernel
theorem dX7_lay_183 : decode cX7_lay 183 = .ok (.iaload, 1) := by decide +kernel
theorem dX7_lay_184 : decode cX7_lay 184 = .ok (.i2l, 1) := by decide +kernel
theorem dX7_lay_185 : decode cX7_lay 185 = .ok (.invokevirtual 142, 3) := by decide +kernel
theorem dX7_lay_188 : decode cX7_lay 188 = .ok (.imul, 1) := by decide +kernel
theorem dX7_lay_189 : decode cX7_lay 189 = .ok (.iload_n 2, 1) := by decide +kernel
theorem dX7_lay_190 : decode cX7_lay 190 = .ok (.iadd, 1) := by decide +kernel
theorem dX7_lay_191 : decode cX7_lay 191 = .ok (.iconst 1, 1) := by decide +kernel
theorem dX7_lay_192 : decode cX7_lay 192 = .ok (.iastore, 1) := by decide +kernel
theorem dX7_lay_193 : decode cX7_lay 193 = .ok (.aload_n 0, 1) := by decide +kernel
theorem dX7_lay_194 : decode cX7_lay 194 = .ok (.getfield 16, 3) := by decide +kernel
theorem dX7_lay_197 : decode cX7_lay 197 = .ok (.aload_n 0, 1) := by decide +kernel
theorem dX7_lay_198 : decode cX7_lay 198 = .ok (.getfield 62, 3) := by decide +kernel
theorem dX7_lay_201 : decode cX7_lay 201 = .ok (.iload_n 2, 1) := by decide +kernel
theorem dX7_lay_202 : decode cX7_lay 202 = .ok (.iaload, 1) := by decide +kernel
theorem dX7_lay_203 : decode cX7_lay 203 = .ok (.iaload, 1) := by decide +kernel
theorem dX7_lay_204 : decode cX7_lay 204 = .ok (.ldc 108, 2) := by decide +kernel
theorem dX7_lay_206 : decode cX7_lay 206 = .ok (.if_icmp .eq 30, 3) := by decide +kernel
theorem dX7_lay_209 : decode cX7_lay 209 = .ok (.aload_n 0, 1) := by decide +kernel
theorem dX7_lay_210 : decode cX7_lay 210 = .ok (.getfield 65, 3) := by decide +kernel
theorem dX7_lay_213 : decode cX7_lay 213 = .ok (.iconst 5, 1) := by decide +kernel
theorem dX7_lay_214 : decode cX7_lay 214 = .ok (.aload_n 0, 1) := by decide +kernel
theorem dX7_lay_215 : decode cX7_lay 215 = .ok (.iconst 0, 1) := by decide +kernel
theorem dX7_lay_216 : decode cX7_lay 216 = .ok (.aload_n 0, 1) := by decide +kernel
theorem dX7_lay_217 : decode cX7_lay 217 = .ok (.getfield 16, 3) := by decide +kernel
theorem dX7_lay_220 : decode cX7_lay 220 = .ok (.aload_n 0, 1) := by decide +kernel
theorem dX7_lay_221 : decode cX7_lay 221 = .ok (.getfield 62, 3) := by decide +kernel
theorem dX7_lay_224 : decode cX7_lay 224 = .ok (.iload_n 2, 1) := by decide +kernel
theorem dX7_lay_225 : decode cX7_lay 225 = .ok (.iaload, 1) := by decide +kernel
theorem dX7_lay_226 : decode cX7_lay 226 = .ok (.iaload, 1) := by decide +kernel
theorem dX7_lay_227 : decode cX7_lay 227 = .ok (.i2l, 1) := by decide +kernel
theorem dX7_lay_228 : decode cX7_lay 228 = .ok (.invokevirtual 142, 3) := by decide +kernel
theorem dX7_lay_231 : decode cX7_lay 231 = .ok (.imul, 1) := by decide +kernel
theorem dX7_lay_232 : decode cX7_lay 232 = .ok (.iload_n 2, 1) := by decide +kernel
theorem dX7_lay_233 : decode cX7_lay 233 = .ok (.iadd, 1) := by decide +kernel
theorem dX7_lay_234 : decode cX7_lay 234 = .ok (.iconst 1, 1) := by decide +kernel
theorem dX7_lay_235 : decode cX7_lay 235 = .ok (.iastore, 1) := by decide +kernel
theorem dX7_lay_236 : decode cX7_lay 236 = .ok (.iinc 2 1, 3) := by decide +kernel
theorem dX7_lay_239 : decode cX7_lay 239 = .ok (.goto (-81), 3) := by decide +kernel
theorem dX7_lay_242 : decode cX7_lay 242 = .ok (.return_, 1) := by decide +kernel
theorem dX7_counting_0 : decode cX7_counting 0 = .ok (.iconst 0, 1) := by decide +kernel
theorem dX7_counting_1 : decode cX7_counting 1 = .ok (.istore_n 1, 1) := by decide +kernel
theorem dX7_counting_2 : decode cX7_counting 2 = .ok (.iconst 0, 1) := by decide +kernel
theorem dX7_counting_3 : decode cX7_counting 3 = .ok (.istore_n 2, 1) := by decide +kernel
theorem dX7_counting_4 : decode cX7_counting 4 = .ok (.iload_n 2, 1) := by decide +kernel
theorem dX7_counting_5 : decode cX7_counting 5 = .ok (.aload_n 0, 1) := by decide +kernel
theorem dX7_counting_6 : decode cX7_counting 6 = .ok (.getfield 105, 3) := by decide +kernel
theorem dX7_counting_9 : decode cX7_counting 9 = .ok (.if_icmp .ge 28, 3) := by decide +kernel
theorem dX7_counting_12 : decode cX7_counting 12 = .ok (.iload_n 1, 1) := by decide +kernel
theorem dX7_counting_13 : decode cX7_counting 13 = .ok (.aload_n 0, 1) := by decide +kernel
theorem dX7_counting_14 : decode cX7_counting 14 = .ok (.getfield 31, 3) := by decide +kernel
theorem dX7_counting_17 : decode cX7_counting 17 = .ok (.iload_n 2, 1) := by decide +kernel
theorem dX7_counting_18 : decode cX7_counting 18 = .ok (.baload, 1) := by decide +kernel
theorem dX7_counting_19 : decode cX7_counting 19 = .ok (.ifCond .eq 9, 3) := by decide +kernel
theorem dX7_counting_22 : decode cX7_counting 22 = .ok (.iconst 1, 1) := by decide +kernel
theorem dX7_counting_23 : decode cX7_counting 23 = .ok (.iload_n 2, 1) := by decide +kernel
theorem dX7_counting_24 : decode cX7_counting 24 = .ok (.ishl, 1) := by decide +kernel
theorem dX7_counting_25 : decode cX7_counting 25 = .ok (.goto 4, 3) := by decide +kernel
theorem dX7_counting_28 : decode cX7_counting 28 = .ok (.iconst 0, 1) := by decide +kernel
theorem dX7_counting_29 : decode cX7_counting 29 = .ok (.ior, 1) := by decide +kernel
theorem dX7_counting_30 : decode cX7_counting 30 = .ok (.istore_n 1, 1) := by decide +kernel
theorem dX7_counting_31 : decode cX7_counting 31 = .ok (.iinc 2 1, 3) := by decide +kernel
theorem dX7_counting_34 : decode cX7_counting 34 = .ok (.goto (-30), 3) := by decide +kernel
theorem dX7_counting_37 : decode cX7_counting 37 = .ok (.iload_n 1, 1) := by decide +kernel
theorem dX7_counting_38 : decode cX7_counting 38 = .ok (.ireturn, 1) := by decide +kernel
theorem dX7_compared_0 : decode cX7_compared 0 = .ok (.lload_n 0, 1) := by decide +kernel
theorem dX7_compared_1 : decode cX7_compared 1 = .ok (.lload 6, 2) := by decide +kernel
theorem dX7_compared_3 : decode cX7_compared 3 = .ok (.lmul, 1) := by decide +kernel
theorem dX7_compared_4 : decode cX7_compared 4 = .ok (.lstore 8, 2) := by decide +kernel
theorem dX7_compared_6 : decode cX7_compared 6 = .ok (.lload 4, 2) := by decide +kernel
theorem dX7_compared_8 : decode cX7_compared 8 = .ok (.lload_n 2, 1) := by decide +kernel
theorem dX7_compared_9 : decode cX7_compared 9 = .ok (.lmul, 1) := by decide +kernel
theorem dX7_compared_10 : decode cX7_compared 10 = .ok (.lstore 10, 2) := by decide +kernel
theorem dX7_compared_12 : decode cX7_compared 12 = .ok (.lload 8, 2) := by decide +kernel
theorem dX7_compared_14 : decode cX7_compared 14 = .ok (.lload 10, 2) := by decide +kernel
theorem dX7_compared_16 : decode cX7_compared 16 = .ok (.lcmp, 1) := by decide +kernel
theorem dX7_compared_17 : decode cX7_compared 17 = .ok (.ifCond .ge 7, 3) := by decide +kernel
theorem dX7_compared_20 : decode cX7_compared 20 = .ok (.iconst (-1), 1) := by decide +kernel
theorem dX7_compared_21 : decode cX7_compared 21 = .ok (.goto 16, 3) := by decide +kernel
theorem dX7_compared_24 : decode cX7_compared 24 = .ok (.lload 8, 2) := by decide +kernel
theorem dX7_compared_26 : decode cX7_compared 26 = .ok (.lload 10, 2) := by decide +kernel
theorem dX7_compared_28 : decode cX7_compared 28 = .ok (.lcmp, 1) := by decide +kernel
theorem dX7_compared_29 : decode cX7_compared 29 = .ok (.ifCond .le 7, 3) := by decide +kernel
theorem dX7_compared_32 : decode cX7_compared 32 = .ok (.iconst 1, 1) := by decide +kernel
theorem dX7_compared_33 : decode cX7_compared 33 = .ok (.goto 4, 3) := by decide +kernel
theorem dX7_compared_36 : decode cX7_compared 36 = .ok (.iconst 0, 1) := by decide +kernel
theorem dX7_compared_37 : decode cX7_compared 37 = .ok (.ireturn, 1) := by decide +kernel
set_option maxRecDepth 20000 in
theorem ggX7_offer_X7_compared : GoodIn wsX7_offer wsX7_compared := goodIn_r _ [17] (by decide +kernel) (by decide +kernel)
set_option maxRecDepth 20000 in
theorem gX7_offer_X7_compared : GoodIn wsX7_offer (va_wsS RX7 153 yX7_compared wsX7_compared) := goodIn_app (goodIn_of _ (by decide +kernel)) ggX7_offer_X7_compared
theorem dX7_offer_0 : decode cX7_offer 0 = .ok (.lconst 0, 1) := by decide +kernel
theorem dX7_offer_1 : decode cX7_offer 1 = .ok (.lstore_n 1, 1) := by decide +kernel
theorem dX7_offer_2 : decode cX7_offer 2 = .ok (.iconst 0, 1) := by decide +kernel
theorem dX7_offer_3 : decode cX7_offer 3 = .ok (.istore_n 3, 1) := by decide +kernel
theorem dX7_offer_4 : decode cX7_offer 4 = .ok (.iload_n 3, 1) := by decide +kernel
theorem dX7_offer_5 : decode cX7_offer 5 = .ok (.aload_n 0, 1) := by decide +kernel
theorem dX7_offer_6 : decode cX7_offer 6 = .ok (.getfield 98, 3) := by decide +kernel
theorem dX7_offer_9 : decode cX7_offer 9 = .ok (.if_icmp .ge 39, 3) := by decide +kernel
theorem dX7_offer_12 : decode cX7_offer 12 = .ok (.aload_n 0, 1) := by decide +kernel
theorem dX7_offer_13 : decode cX7_offer 13 = .ok (.getfield 92, 3) := by decide +kernel
theorem dX7_offer_16 : decode cX7_offer 16 = .ok (.iload_n 3, 1) := by decide +kernel
theorem dX7_offer_17 : decode cX7_offer 17 = .ok (.aload_n 0, 1) := by decide +kernel
theorem dX7_offer_18 : decode cX7_offer 18 = .ok (.getfield 83, 3) := by decide +kernel
theorem dX7_offer_21 : decode cX7_offer 21 = .ok (.iload_n 3, 1) := by decide +kernel
theorem dX7_offer_22 : decode cX7_offer 22 = .ok (.baload, 1) := by decide +kernel
theorem dX7_offer_23 : decode cX7_offer 23 = .ok (.ifCond .eq 17, 3) := by decide +kernel
theorem dX7_offer_26 : decode cX7_offer 26 = .ok (.aload_n 0, 1) := by decide +kernel
theorem dX7_offer_27 : decode cX7_offer 27 = .ok (.getfield 86, 3) := by decide +kernel
theorem dX7_offer_30 : decode cX7_offer 30 = .ok (.iload_n 3, 1) := by decide +kernel
theorem dX7_offer_31 : decode cX7_offer 31 = .ok (.laload, 1) := by decide +kernel
theorem dX7_offer_32 : decode cX7_offer 32 = .ok (.aload_n 0, 1) := by decide +kernel
theorem dX7_offer_33 : decode cX7_offer 33 = .ok (.getfield 136, 3) := by decide +kernel
theorem dX7_offer_36 : decode cX7_offer 36 = .ok (.lmul, 1) := by decide +kernel
theorem dX7_offer_37 : decode cX7_offer 37 = .ok (.goto 4, 3) := by decide +kernel
theorem dX7_offer_40 : decode cX7_offer 40 = .ok (.lconst 0, 1) := by decide +kernel
theorem dX7_offer_41 : decode cX7_offer 41 = .ok (.lastore, 1) := by decide +kernel
theorem dX7_offer_42 : decode cX7_offer 42 = .ok (.iinc 3 1, 3) := by decide +kernel
theorem dX7_offer_45 : decode cX7_offer 45 = .ok (.goto (-41), 3) := by decide +kernel
theorem dX7_offer_48 : decode cX7_offer 48 = .ok (.iconst 0, 1) := by decide +kernel
theorem dX7_offer_49 : decode cX7_offer 49 = .ok (.istore_n 3, 1) := by decide +kernel
theorem dX7_offer_50 : decode cX7_offer 50 = .ok (.iload_n 3, 1) := by decide +kernel
theorem dX7_offer_51 : decode cX7_offer 51 = .ok (.aload_n 0, 1) := by decide +kernel
theorem dX7_offer_52 : decode cX7_offer 52 = .ok (.getfield 125, 3) := by decide +kernel
theorem dX7_offer_55 : decode cX7_offer 55 = .ok (.if_icmp .ge 26, 3) := by decide +kernel
theorem dX7_offer_58 : decode cX7_offer 58 = .ok (.aload_n 0, 1) := by decide +kernel
theorem dX7_offer_59 : decode cX7_offer 59 = .ok (.getfield 92, 3) := by decide +kernel
theorem dX7_offer_62 : decode cX7_offer 62 = .ok (.aload_n 0, 1) := by decide +kernel
theorem dX7_offer_63 : decode cX7_offer 63 = .ok (.getfield 62, 3) := by decide +kernel
theorem dX7_offer_66 : decode cX7_offer 66 = .ok (.iload_n 3, 1) := by decide +kernel
theorem dX7_offer_67 : decode cX7_offer 67 = .ok (.iaload, 1) := by decide +kernel
theorem dX7_offer_68 : decode cX7_offer 68 = .ok (.aload_n 0, 1) := by decide +kernel
theorem dX7_offer_69 : decode cX7_offer 69 = .ok (.getfield 80, 3) := by decide +kernel
theorem dX7_offer_72 : decode cX7_offer 72 = .ok (.iload_n 3, 1) := by decide +kernel
theorem dX7_offer_73 : decode cX7_offer 73 = .ok (.laload, 1) := by decide +kernel
theorem dX7_offer_74 : decode cX7_offer 74 = .ok (.lastore, 1) := by decide +kernel
theorem dX7_offer_75 : decode cX7_offer 75 = .ok (.iinc 3 1, 3) := by decide +kernel
theorem dX7_offer_78 : decode cX7_offer 78 = .ok (.goto (-28), 3) := by decide +kernel
theorem dX7_offer_81 : decode cX7_offer 81 = .ok (.iconst 0, 1) := by decide +kernel
theorem dX7_offer_82 : decode cX7_offer 82 = .ok (.istore_n 3, 1) := by decide +kernel
theorem dX7_offer_83 : decode cX7_offer 83 = .ok (.iload_n 3, 1) := by decide +kernel
theorem dX7_offer_84 : decode cX7_offer 84 = .ok (.aload_n 0, 1) := by decide +kernel
theorem dX7_offer_85 : decode cX7_offer 85 = .ok (.getfield 98, 3) := by decide +kernel
theorem dX7_offer_88 : decode cX7_offer 88 = .ok (.if_icmp .ge 26, 3) := by decide +kernel
theorem dX7_offer_91 : decode cX7_offer 91 = .ok (.lload_n 1, 1) := by decide +kernel
theorem dX7_offer_92 : decode cX7_offer 92 = .ok (.aload_n 0, 1) := by decide +kernel
theorem dX7_offer_93 : decode cX7_offer 93 = .ok (.getfield 19, 3) := by decide +kernel
theorem dX7_offer_96 : decode cX7_offer 96 = .ok (.iload_n 3, 1) := by decide +kernel
theorem dX7_offer_97 : decode cX7_offer 97 = .ok (.iaload, 1) := by decide +kernel
theorem dX7_offer_98 : decode cX7_offer 98 = .ok (.i2l, 1) := by decide +kernel
theorem dX7_offer_99 : decode cX7_offer 99 = .ok (.aload_n 0, 1) := by decide +kernel
theorem dX7_offer_100 : decode cX7_offer 100 = .ok (.getfield 92, 3) := by decide +kernel
theorem dX7_offer_103 : decode cX7_offer 103 = .ok (.iload_n 3, 1) := by decide +kernel
theorem dX7_offer_104 : decode cX7_offer 104 = .ok (.laload, 1) := by decide +kernel
theorem dX7_offer_105 : decode cX7_offer 105 = .ok (.lmul, 1) := by decide +kernel
theorem dX7_offer_106 : decode cX7_offer 106 = .ok (.ladd, 1) := by decide +kernel
theorem dX7_offer_107 : decode cX7_offer 107 = .ok (.lstore_n 1, 1) := by decide +kernel
theorem dX7_offer_108 : decode cX7_offer 108 = .ok (.iinc 3 1, 3) := by decide +kernel
theorem dX7_offer_111 : decode cX7_offer 111 = .ok (.goto (-28), 3) := by decide +kernel
theorem dX7_offer_114 : decode cX7_offer 114 = .ok (.aload_n 0, 1) := by decide +kernel
theorem dX7_offer_115 : decode cX7_offer 115 = .ok (.getfield 146, 3) := by decide +kernel
theorem dX7_offer_118 : decode cX7_offer 118 = .ok (.ifCond .eq 22, 3) := by decide +kernel
theorem dX7_offer_121 : decode cX7_offer 121 = .ok (.lload_n 1, 1) := by decide +kernel
theorem dX7_offer_122 : decode cX7_offer 122 = .ok (.aload_n 0, 1) := by decide +kernel
theorem dX7_offer_123 : decode cX7_offer 123 = .ok (.getfield 136, 3) := by decide +kernel
theorem dX7_offer_126 : decode cX7_offer 126 = .ok (.aload_n 0, 1) := by decide +kernel
theorem dX7_offer_127 : decode cX7_offer 127 = .ok (.getfield 150, 3) := by decide +kernel
theorem dX7_offer_130 : decode cX7_offer 130 = .ok (.aload_n 0, 1) := by decide +kernel
theorem dX7_offer_131 : decode cX7_offer 131 = .ok (.getfield 46, 3) := by decide +kernel
theorem dX7_offer_134 : decode cX7_offer 134 = .ok (.invokestatic 153, 3) := by decide +kernel
theorem dX7_offer_137 : decode cX7_offer 137 = .ok (.goto 4, 3) := by decide +kernel
theorem dX7_offer_140 : decode cX7_offer 140 = .ok (.iconst (-1), 1) := by decide +kernel
theorem dX7_offer_141 : decode cX7_offer 141 = .ok (.istore_n 3, 1) := by decide +kernel
theorem dX7_offer_142 : decode cX7_offer 142 = .ok (.iconst 0, 1) := by decide +kernel
theorem dX7_offer_143 : decode cX7_offer 143 = .ok (.istore 4, 2) := by decide +kernel
theorem dX7_offer_145 : decode cX7_offer 145 = .ok (.iload 4, 2) := by decide +kernel
theorem dX7_offer_147 : decode cX7_offer 147 = .ok (.aload_n 0, 1) := by decide +kernel
theorem dX7_offer_148 : decode cX7_offer 148 = .ok (.getfield 98, 3) := by decide +kernel
theorem dX7_offer_151 : decode cX7_offer 151 = .ok (.if_icmp .ge 39, 3) := by decide +kernel
theorem dX7_offer_154 : decode cX7_offer 154 = .ok (.iload_n 3, 1) := by decide +kernel
theorem dX7_offer_155 : decode cX7_offer 155 = .ok (.ifCond .ne 35, 3) := by decide +kernel
theorem dX7_offer_158 : decode cX7_offer 158 = .ok (.aload_n 0, 1) := by decide +kernel
theorem dX7_offer_159 : decode cX7_offer 159 = .ok (.getfield 92, 3) := by decide +kernel
theorem dX7_offer_162 : decode cX7_offer 162 = .ok (.iload 4, 2) := by decide +kernel
theorem dX7_offer_164 : decode cX7_offer 164 = .ok (.laload, 1) := by decide +kernel
theorem dX7_offer_165 : decode cX7_offer 165 = .ok (.aload_n 0, 1) := by decide +kernel
theorem dX7_offer_166 : decode cX7_offer 166 = .ok (.getfield 136, 3) := by decide +kernel
theorem dX7_offer_169 : decode cX7_offer 169 = .ok (.aload_n 0, 1) := by decide +kernel
theorem dX7_offer_170 : decode cX7_offer 170 = .ok (.getfield 42, 3) := by decide +kernel
theorem dX7_offer_173 : decode cX7_offer 173 = .ok (.iload 4, 2) := by decide +kernel
theorem dX7_offer_175 : decode cX7_offer 175 = .ok (.laload, 1) := by decide +kernel
theorem dX7_offer_176 : decode cX7_offer 176 = .ok (.aload_n 0, 1) := by decide +kernel
theorem dX7_offer_177 : decode cX7_offer 177 = .ok (.getfield 46, 3) := by decide +kernel
theorem dX7_offer_180 : decode cX7_offer 180 = .ok (.invokestatic 153, 3) := by decide +kernel
theorem dX7_offer_183 : decode cX7_offer 183 = .ok (.istore_n 3, 1) := by decide +kernel
theorem dX7_offer_184 : decode cX7_offer 184 = .ok (.iinc 4 1, 3) := by decide +kernel
theorem dX7_offer_187 : decode cX7_offer 187 = .ok (.goto (-42), 3) := by decide +kernel
theorem dX7_offer_190 : decode cX7_offer 190 = .ok (.iload_n 3, 1) := by decide +kernel
theorem dX7_offer_191 : decode cX7_offer 191 = .ok (.ifCond .ge 53, 3) := by decide +kernel
theorem dX7_offer_194 : decode cX7_offer 194 = .ok (.aload_n 0, 1) := by decide +kernel
theorem dX7_offer_195 : decode cX7_offer 195 = .ok (.iconst 1, 1) := by decide +kernel
theorem dX7_offer_196 : decode cX7_offer 196 = .ok (.putfield 146, 3) := by decide +kernel
theorem dX7_offer_199 : decode cX7_offer 199 = .ok (.aload_n 0, 1) := by decide +kernel
theorem dX7_offer_200 : decode cX7_offer 200 = .ok (.lload_n 1, 1) := by decide +kernel
theorem dX7_offer_201 : decode cX7_offer 201 = .ok (.putfield 150, 3) := by decide +kernel
theorem dX7_offer_204 : decode cX7_offer 204 = .ok (.aload_n 0, 1) := by decide +kernel
theorem dX7_offer_205 : decode cX7_offer 205 = .ok (.aload_n 0, 1) := by decide +kernel
theorem dX7_offer_206 : decode cX7_offer 206 = .ok (.getfield 136, 3) := by decide +kernel
theorem dX7_offer_209 : decode cX7_offer 209 = .ok (.putfield 46, 3) := by decide +kernel
theorem dX7_offer_212 : decode cX7_offer 212 = .ok (.iconst 0, 1) := by decide +kernel
theorem dX7_offer_213 : decode cX7_offer 213 = .ok (.istore 4, 2) := by decide +kernel
theorem dX7_offer_215 : decode cX7_offer 215 = .ok (.iload 4, 2) := by decide +kernel
theorem dX7_offer_217 : decode cX7_offer 217 = .ok (.aload_n 0, 1) := by decide +kernel
theorem dX7_offer_218 : decode cX7_offer 218 = .ok (.getfield 98, 3) := by decide +kernel
theorem dX7_offer_221 : decode cX7_offer 221 = .ok (.if_icmp .ge 23, 3) := by decide +kernel
theorem dX7_offer_224 : decode cX7_offer 224 = .ok (.aload_n 0, 1) := by decide +kernel
theorem dX7_offer_225 : decode cX7_offer 225 = .ok (.getfield 42, 3) := by decide +kernel
theorem dX7_offer_228 : decode cX7_offer 228 = .ok (.iload 4, 2) := by decide +kernel
theorem dX7_offer_230 : decode cX7_offer 230 = .ok (.aload_n 0, 1) := by decide +kernel
theorem dX7_offer_231 : decode cX7_offer 231 = .ok (.getfield 92, 3) := by decide +kernel
theorem dX7_offer_234 : decode cX7_offer 234 = .ok (.iload 4, 2) := by decide +kernel
theorem dX7_offer_236 : decode cX7_offer 236 = .ok (.laload, 1) := by decide +kernel
theorem dX7_offer_237 : decode cX7_offer 237 = .ok (.lastore, 1) := by decide +kernel
theorem dX7_offer_238 : decode cX7_offer 238 = .ok (.iinc 4 1, 3) := by decide +kernel
theorem dX7_offer_241 : decode cX7_offer 241 = .ok (.goto (-26), 3) := by decide +kernel
theorem dX7_offer_244 : decode cX7_offer 244 = .ok (.return_, 1) := by decide +kernel
set_option maxRecDepth 20000 in
theorem ggX7_corners_X7_first : GoodIn wsX7_corners wsX7_first := goodIn_r _ [5, 6, 7, 8, 52, 53, 54, 55, 56, 57, 58, 59, 60, 61, 62, 63, 64, 65, 66, 67, 68, 69, 70, 71, 72, 73, 74, 75, 76, 77, 78, 79, 80, 81, 82, 83, 84, 85, 86, 87, 88, 89] (by decide +kernel) (by decide +kernel)
set_option maxRecDepth 20000 in
theorem gX7_corners_X7_first : GoodIn wsX7_corners (wsV RX7 157 RX7 yX7_first wsX7_first) := goodIn_app (goodIn_of _ (by decide +kernel)) ggX7_corners_X7_first
set_option maxRecDepth 20000 in
theorem ggX7_corners_X7_meets : GoodIn wsX7_corners wsX7_meets := goodIn_r _ [12, 6, 13, 14, 7, 15, 16, 17, 18, 19, 20, 4, 21, 22, 23, 24, 25, 52, 53, 54, 55, 56, 57, 58, 59, 60, 61, 62, 63, 64, 65, 66, 67, 68, 69, 70, 71, 72, 73, 74, 75, 76, 77, 78, 79, 80, 81, 82, 83, 84, 85, 86, 87, 88, 89] (by decide +kernel) (by decide +kernel)
set_option maxRecDepth 20000 in
theorem gX7_corners_X7_meets : GoodIn wsX7_corners (wsV RX7 161 RX7 yX7_meets wsX7_meets) := goodIn_app (goodIn_of _ (by decide +kernel)) ggX7_corners_X7_meets
set_option maxRecDepth 20000 in
theorem ggX7_corners_X7_keepsAll : GoodIn wsX7_corners wsX7_keepsAll := goodIn_r _ [29, 8, 6, 14, 17, 15, 16, 30, 52, 53, 54, 55, 56, 57, 58, 59, 60, 61, 62, 63, 64, 65, 66, 67, 68, 69, 70, 71, 72, 73, 74, 75, 76, 77, 78, 79, 80, 81, 82, 83, 84, 85, 86, 87, 88, 89] (by decide +kernel) (by decide +kernel)
set_option maxRecDepth 20000 in
theorem gX7_corners_X7_keepsAll : GoodIn wsX7_corners (wsV RX7 164 RX7 yX7_keepsAll wsX7_keepsAll) := goodIn_app (goodIn_of _ (by decide +kernel)) ggX7_corners_X7_keepsAll
set_option maxRecDepth 20000 in
theorem ggX7_corners_X7_offer : GoodIn wsX7_corners wsX7_offer := goodIn_r _ [34, 35, 36, 37, 38, 16, 6, 39, 17, 40, 41, 42, 43, 44, 45, 46, 4, 47, 52, 53, 54, 55, 56, 57, 58, 59, 60, 61, 62, 63, 64, 65, 66, 67, 68, 69, 70, 71, 72, 73, 74, 75, 76, 77, 78, 79, 80, 81, 82, 83, 84, 85, 86, 87, 88, 89] (by decide +kernel) (by decide +kernel)
set_option maxRecDepth 20000 in
theorem gX7_corners_X7_offer : GoodIn wsX7_corners (wsV RX7 167 RX7 yX7_offer wsX7_offer) := goodIn_app (goodIn_of _ (by decide +kernel)) ggX7_corners_X7_offer
set_option maxRecDepth 20000 in
theorem ggX7_corners_X7_another : GoodIn wsX7_corners wsX7_another := goodIn_r _ [51, 6, 7, 8, 52, 53, 54, 55, 56, 57, 58, 59, 60, 61, 62, 63, 64, 65, 66, 67, 68, 69, 70, 71, 72, 73, 74, 75, 76, 77, 78, 79, 80, 81, 82, 83, 84, 85, 86, 87, 88, 89] (by decide +kernel) (by decide +kernel)
set_option maxRecDepth 20000 in
theorem gX7_corners_X7_another : GoodIn wsX7_corners (wsV RX7 170 RX7 yX7_another wsX7_another) := goodIn_app (goodIn_of _ (by decide +kernel)) ggX7_corners_X7_another
theorem dX7_corners_0 : decode cX7_corners 0 = .ok (.iconst 0, 1) := by decide +kernel
theorem dX7_corners_1 : decode cX7_corners 1 = .ok (.istore_n 2, 1) := by decide +kernel
theorem dX7_corners_2 : decode cX7_corners 2 = .ok (.aload_n 0, 1) := by decide +kernel
theorem dX7_corners_3 : decode cX7_corners 3 = .ok (.invokevirtual 157, 3) := by decide +kernel
theorem dX7_corners_6 : decode cX7_corners 6 = .ok (.istore_n 3, 1) := by decide +kernel
theorem dX7_corners_7 : decode cX7_corners 7 = .ok (.iload_n 3, 1) := by decide +kernel
theorem dX7_corners_8 : decode cX7_corners 8 = .ok (.ifCond .eq 43, 3) := by decide +kernel
theorem dX7_corners_11 : decode cX7_corners 11 = .ok (.iload_n 1, 1) := by decide +kernel
