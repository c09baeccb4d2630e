set_option maxRecDepth 20000 in
theorem ggX7_tryFixed_X7_corners : GoodIn wsX7_tryFixed wsX7_corners := goodIn_r _ [40, 41, 42, 43, 6, 44, 21, 45, 14, 46, 47, 48, 49, 50, 22, 35, 51, 52, 53, 54, 55, 56, 57, 58, 59, 60, 61, 62, 63, 64, 36, 65, 66, 67, 68, 16, 69, 17, 19, 23, 70, 71, 72, 73, 74, 75, 76, 77, 78, 79, 80, 81, 91, 92, 93, 94, 95, 96, 97, 98, 99, 100, 101, 102, 103, 104, 105, 106, 107, 108, 109, 110, 111, 112, 113, 114, 115, 116, 117, 118, 119, 120, 121, 122, 123, 124, 125, 126, 127, 128] (by decide +kernel) (by decide +kernel)
set_option maxRecDepth 20000 in
theorem gX7_tryFixed_X7_corners : GoodIn wsX7_tryFixed (wsV RX7 184 RX7 yX7_corners wsX7_corners) := goodIn_app (goodIn_of _ (by decide +kernel)) ggX7_tryFixed_X7_corners
set_option maxRecDepth 20000 in
theorem ggX7_tryFixed_X7_isEndless : GoodIn wsX7_tryFixed wsX7_isEndless := goodIn_r _ [85, 16, 17, 25, 26, 86, 87, 88, 89, 6, 90, 21, 23, 14, 22, 8, 9, 20, 18, 70, 52, 31, 32, 33, 34, 35, 36, 41, 42, 43, 44, 45, 46, 47, 48, 49, 50, 51, 53, 54, 55, 56, 57, 58, 59, 60, 61, 62, 63, 64, 78, 79, 80, 81, 91, 92, 93, 94, 95, 96, 97, 98, 99, 100, 101, 102, 103, 104, 105, 106, 107, 108, 109, 110, 111, 112, 113, 114, 115, 116, 117, 118, 119, 120, 121, 122, 123, 124, 125, 126, 127, 128] (by decide +kernel) (by decide +kernel)
set_option maxRecDepth 20000 in
theorem gX7_tryFixed_X7_isEndless : GoodIn wsX7_tryFixed (wsV RX7 194 RX7 yX7_isEndless wsX7_isEndless) := goodIn_app (goodIn_of _ (by decide +kernel)) ggX7_tryFixed_X7_isEndless
