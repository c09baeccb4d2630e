set_option maxRecDepth 20000 in
theorem ggX6_solve_X6_isBit : GoodIn wsX6_solve wsX6_isBit := goodIn_r _ [11] (by decide +kernel) (by decide +kernel)
set_option maxRecDepth 20000 in
theorem gX6_solve_X6_isBit : GoodIn wsX6_solve (va_wsS RX6 105 yX6_isBit wsX6_isBit) := goodIn_app (goodIn_of _ (by decide +kernel)) ggX6_solve_X6_isBit
set_option maxRecDepth 20000 in
theorem ggX6_solve_X4_run : GoodIn wsX6_solve wsX4_run := goodIn_r _ [16, 17, 18, 19, 20, 21, 22, 23, 24, 15, 25, 26, 27, 28, 29, 30, 31, 32, 33, 34, 35, 36, 37, 38, 39, 40, 41, 42, 43, 44, 45, 46, 47, 48, 49, 50, 51, 52, 53, 54, 55, 56, 57, 58, 59, 60, 61, 62, 63, 64, 65, 66, 67, 68, 69, 70, 71, 72, 73, 74, 75, 76, 77, 78, 79, 80, 81, 10, 82, 83, 84, 85, 86, 87, 88, 89, 90, 91, 92, 93, 94, 95, 96, 97, 98, 99, 100, 101, 102, 103, 104, 105, 106, 107, 108, 109, 110, 111, 112, 113, 114, 115, 116, 117, 118, 119, 120, 121, 122, 123, 124, 125, 126, 127, 128, 129, 130, 131, 132, 133, 134, 135, 136, 137, 138, 139, 140, 141, 142, 143, 144, 145, 146, 147, 148, 149, 150, 151, 152, 153, 154, 155, 156, 157, 158, 159, 160, 161, 162, 163, 164, 165, 166, 167, 168, 169, 170, 171, 172, 173, 174, 175, 176, 177, 178, 179, 180, 181, 182, 183, 184, 185, 186, 187, 188, 189, 190, 191, 192, 193, 194, 195, 196, 197, 198, 199, 200, 201, 202, 203, 204, 205, 206, 207, 208, 209, 210, 211, 212, 213, 214, 215, 216, 217, 218, 219, 220, 221, 222, 223, 224, 225, 226, 227, 228, 229, 230, 231, 232, 239, 240, 241, 242, 243, 244, 245, 246, 247, 248, 249, 250, 251, 252, 253, 254, 255, 256, 257, 258, 259, 260, 261, 262, 263, 264, 265, 266] (by decide +kernel) (by decide +kernel)
set_option maxRecDepth 20000 in
theorem gX6_solve_X4_run : GoodIn wsX6_solve (wsV RX6 114 RX4 yX4_run wsX4_run) := goodIn_app (goodIn_of _ (by decide +kernel)) ggX6_solve_X4_run
theorem dX6_solve_0 : decode cX6_solve 0 = .ok (.iload_n 1, 1) := by decide +kernel
theorem dX6_solve_1 : decode cX6_solve 1 = .ok (.invokestatic 105, 3) := by decide +kernel
theorem dX6_solve_4 : decode cX6_solve 4 = .ok (.ifCond .ne 6, 3) := by decide +kernel
theorem dX6_solve_7 : decode cX6_solve 7 = .ok (.ldc 56, 2) := by decide +kernel
theorem dX6_solve_9 : decode cX6_solve 9 = .ok (.ireturn, 1) := by decide +kernel
theorem dX6_solve_10 : decode cX6_solve 10 = .ok (.aload_n 0, 1) := by decide +kernel
theorem dX6_solve_11 : decode cX6_solve 11 = .ok (.dup, 1) := by decide +kernel
theorem dX6_solve_12 : decode cX6_solve 12 = .ok (.getfield 44, 3) := by decide +kernel
theorem dX6_solve_15 : decode cX6_solve 15 = .ok (.iconst 1, 1) := by decide +kernel
theorem dX6_solve_16 : decode cX6_solve 16 = .ok (.iadd, 1) := by decide +kernel
theorem dX6_solve_17 : decode cX6_solve 17 = .ok (.putfield 44, 3) := by decide +kernel
theorem dX6_solve_20 : decode cX6_solve 20 = .ok (.aload_n 0, 1) := by decide +kernel
theorem dX6_solve_21 : decode cX6_solve 21 = .ok (.getfield 26, 3) := by decide +kernel
theorem dX6_solve_24 : decode cX6_solve 24 = .ok (.aload_n 0, 1) := by decide +kernel
theorem dX6_solve_25 : decode cX6_solve 25 = .ok (.getfield 10, 3) := by decide +kernel
theorem dX6_solve_28 : decode cX6_solve 28 = .ok (.aload_n 0, 1) := by decide +kernel
theorem dX6_solve_29 : decode cX6_solve 29 = .ok (.getfield 19, 3) := by decide +kernel
theorem dX6_solve_32 : decode cX6_solve 32 = .ok (.ldc 78, 2) := by decide +kernel
theorem dX6_solve_34 : decode cX6_solve 34 = .ok (.iconst 0, 1) := by decide +kernel
theorem dX6_solve_35 : decode cX6_solve 35 = .ok (.iload_n 1, 1) := by decide +kernel
theorem dX6_solve_36 : decode cX6_solve 36 = .ok (.ifCond .ne 7, 3) := by decide +kernel
theorem dX6_solve_39 : decode cX6_solve 39 = .ok (.iconst 1, 1) := by decide +kernel
theorem dX6_solve_40 : decode cX6_solve 40 = .ok (.goto 4, 3) := by decide +kernel
theorem dX6_solve_43 : decode cX6_solve 43 = .ok (.iconst 0, 1) := by decide +kernel
theorem dX6_solve_44 : decode cX6_solve 44 = .ok (.invokevirtual 114, 3) := by decide +kernel
theorem dX6_solve_47 : decode cX6_solve 47 = .ok (.aload_n 0, 1) := by decide +kernel
theorem dX6_solve_48 : decode cX6_solve 48 = .ok (.getfield 19, 3) := by decide +kernel
theorem dX6_solve_51 : decode cX6_solve 51 = .ok (.getfield 118, 3) := by decide +kernel
theorem dX6_solve_54 : decode cX6_solve 54 = .ok (.ireturn, 1) := by decide +kernel

