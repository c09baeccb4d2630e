set_option maxRecDepth 20000 in
theorem ggX6_worth_X2_hasRow : GoodIn wsX6_worth wsX2_hasRow := goodIn_r _ [11, 12, 250, 251, 252, 253, 254, 255, 256, 257, 258, 259, 260] (by decide +kernel) (by decide +kernel)
set_option maxRecDepth 20000 in
theorem gX6_worth_X2_hasRow : GoodIn wsX6_worth (wsV RX6 93 RX2 yX2_hasRow wsX2_hasRow) := goodIn_app (goodIn_of _ (by decide +kernel)) ggX6_worth_X2_hasRow
set_option maxRecDepth 20000 in
theorem ggX6_worth_X6_isWithin : GoodIn wsX6_worth wsX6_isWithin := goodIn_r _ [16] (by decide +kernel) (by decide +kernel)
set_option maxRecDepth 20000 in
theorem gX6_worth_X6_isWithin : GoodIn wsX6_worth (va_wsS RX6 82 yX6_isWithin wsX6_isWithin) := goodIn_app (goodIn_of _ (by decide +kernel)) ggX6_worth_X6_isWithin
set_option maxRecDepth 20000 in
theorem ggX6_worth_X6_isBit : GoodIn wsX6_worth wsX6_isBit := goodIn_r _ [19] (by decide +kernel) (by decide +kernel)
set_option maxRecDepth 20000 in
theorem gX6_worth_X6_isBit : GoodIn wsX6_worth (va_wsS RX6 105 yX6_isBit wsX6_isBit) := goodIn_app (goodIn_of _ (by decide +kernel)) ggX6_worth_X6_isBit
set_option maxRecDepth 20000 in
theorem ggX6_worth_X4_run : GoodIn wsX6_worth wsX4_run := goodIn_r _ [24, 25, 26, 27, 28, 29, 30, 31, 32, 23, 33, 34, 35, 36, 37, 38, 39, 40, 41, 42, 43, 44, 45, 46, 47, 48, 49, 50, 51, 52, 53, 54, 55, 56, 57, 58, 59, 60, 61, 62, 63, 64, 65, 66, 67, 68, 69, 70, 71, 72, 73, 74, 75, 10, 76, 77, 78, 79, 80, 81, 82, 83, 84, 85, 86, 87, 88, 15, 89, 90, 91, 92, 93, 94, 95, 96, 97, 98, 99, 100, 101, 102, 103, 104, 105, 106, 107, 108, 109, 110, 111, 112, 113, 114, 115, 116, 117, 118, 119, 120, 121, 122, 123, 124, 125, 126, 127, 128, 129, 130, 131, 132, 133, 134, 135, 136, 137, 138, 139, 140, 141, 142, 143, 144, 145, 146, 147, 148, 149, 150, 151, 152, 153, 154, 155, 156, 157, 158, 159, 160, 161, 162, 163, 164, 165, 166, 167, 168, 169, 170, 171, 172, 173, 174, 175, 176, 177, 178, 179, 180, 181, 182, 183, 184, 185, 186, 187, 188, 189, 190, 191, 192, 193, 194, 195, 196, 197, 198, 199, 200, 201, 202, 203, 204, 205, 206, 207, 208, 209, 210, 211, 212, 213, 214, 215, 216, 217, 218, 219, 220, 221, 222, 223, 224, 225, 226, 227, 228, 229, 230, 231, 232, 233, 234, 235, 236, 237, 238, 239, 246, 247, 248, 249, 250, 251, 252, 253, 254, 255, 256, 257, 258, 259, 260, 261, 262, 263, 264, 265, 266, 267, 268, 269, 270, 271, 272, 273] (by decide +kernel) (by decide +kernel)
set_option maxRecDepth 20000 in
theorem gX6_worth_X4_run : GoodIn wsX6_worth (wsV RX6 114 RX4 yX4_run wsX4_run) := goodIn_app (goodIn_of _ (by decide +kernel)) ggX6_worth_X4_run
theorem dX6_worth_0 : decode cX6_worth 0 = .ok (.aload_n 0, 1) := by decide +kernel
theorem dX6_worth_1 : decode cX6_worth 1 = .ok (.getfield 10, 3) := by decide +kernel
theorem dX6_worth_4 : decode cX6_worth 4 = .ok (.iload_n 1, 1) := by decide +kernel
theorem dX6_worth_5 : decode cX6_worth 5 = .ok (.invokevirtual 93, 3) := by decide +kernel
theorem dX6_worth_8 : decode cX6_worth 8 = .ok (.ifCond .eq 19, 3) := by decide +kernel
theorem dX6_worth_11 : decode cX6_worth 11 = .ok (.iload_n 2, 1) := by decide +kernel
theorem dX6_worth_12 : decode cX6_worth 12 = .ok (.bipush 99, 2) := by decide +kernel
theorem dX6_worth_14 : decode cX6_worth 14 = .ok (.invokestatic 82, 3) := by decide +kernel
theorem dX6_worth_17 : decode cX6_worth 17 = .ok (.ifCond .eq 10, 3) := by decide +kernel
theorem dX6_worth_20 : decode cX6_worth 20 = .ok (.iload_n 3, 1) := by decide +kernel
theorem dX6_worth_21 : decode cX6_worth 21 = .ok (.invokestatic 105, 3) := by decide +kernel
theorem dX6_worth_24 : decode cX6_worth 24 = .ok (.ifCond .ne 6, 3) := by decide +kernel
theorem dX6_worth_27 : decode cX6_worth 27 = .ok (.ldc 56, 2) := by decide +kernel
theorem dX6_worth_29 : decode cX6_worth 29 = .ok (.ireturn, 1) := by decide +kernel
theorem dX6_worth_30 : decode cX6_worth 30 = .ok (.aload_n 0, 1) := by decide +kernel
theorem dX6_worth_31 : decode cX6_worth 31 = .ok (.dup, 1) := by decide +kernel
theorem dX6_worth_32 : decode cX6_worth 32 = .ok (.getfield 44, 3) := by decide +kernel
theorem dX6_worth_35 : decode cX6_worth 35 = .ok (.iconst 1, 1) := by decide +kernel
theorem dX6_worth_36 : decode cX6_worth 36 = .ok (.iadd, 1) := by decide +kernel
theorem dX6_worth_37 : decode cX6_worth 37 = .ok (.putfield 44, 3) := by decide +kernel
theorem dX6_worth_40 : decode cX6_worth 40 = .ok (.aload_n 0, 1) := by decide +kernel
theorem dX6_worth_41 : decode cX6_worth 41 = .ok (.getfield 26, 3) := by decide +kernel
theorem dX6_worth_44 : decode cX6_worth 44 = .ok (.aload_n 0, 1) := by decide +kernel
theorem dX6_worth_45 : decode cX6_worth 45 = .ok (.getfield 10, 3) := by decide +kernel
theorem dX6_worth_48 : decode cX6_worth 48 = .ok (.aload_n 0, 1) := by decide +kernel
theorem dX6_worth_49 : decode cX6_worth 49 = .ok (.getfield 19, 3) := by decide +kernel
theorem dX6_worth_52 : decode cX6_worth 52 = .ok (.iload_n 1, 1) := by decide +kernel
theorem dX6_worth_53 : decode cX6_worth 53 = .ok (.iload_n 2, 1) := by decide +kernel
theorem dX6_worth_54 : decode cX6_worth 54 = .ok (.iload_n 3, 1) := by decide +kernel
theorem dX6_worth_55 : decode cX6_worth 55 = .ok (.ifCond .ne 7, 3) := by decide +kernel
theorem dX6_worth_58 : decode cX6_worth 58 = .ok (.iconst 1, 1) := by decide +kernel
theorem dX6_worth_59 : decode cX6_worth 59 = .ok (.goto 4, 3) := by decide +kernel
theorem dX6_worth_62 : decode cX6_worth 62 = .ok (.iconst 0, 1) := by decide +kernel
theorem dX6_worth_63 : decode cX6_worth 63 = .ok (.invokevirtual 114, 3) := by decide +kernel
theorem dX6_worth_66 : decode cX6_worth 66 = .ok (.aload_n 0, 1) := by decide +kernel
theorem dX6_worth_67 : decode cX6_worth 67 = .ok (.getfield 19, 3) := by decide +kernel
theorem dX6_worth_70 : decode cX6_worth 70 = .ok (.getfield 118, 3) := by decide +kernel
theorem dX6_worth_73 : decode cX6_worth 73 = .ok (.ireturn, 1) := by decide +kernel
