set_option maxRecDepth 20000 in
theorem ggX7_isEndless_X7_isWay : GoodIn wsX7_isEndless wsX7_isWay := goodIn_r _ [10, 11, 1, 12, 13, 14, 15, 16, 17, 18, 19, 20, 21, 22, 23, 9, 24, 25, 26, 27, 28, 29, 30, 31, 32, 33, 34, 35, 36, 37, 38, 39, 40, 41, 42, 43, 44, 45, 46, 47, 48, 49, 50, 51, 52, 53, 54, 55, 56, 57, 58, 59, 60, 61, 62, 63, 64, 65, 66, 67, 68, 69, 70, 71, 72, 73, 74, 75, 76, 77, 78, 79, 80, 81, 82, 83, 84, 85, 86, 87, 88, 89, 90, 91] (by decide +kernel) (by decide +kernel)
set_option maxRecDepth 20000 in
theorem gX7_isEndless_X7_isWay : GoodIn wsX7_isEndless (wsV RX7 173 RX7 yX7_isWay wsX7_isWay) := goodIn_app (goodIn_of _ (by decide +kernel)) ggX7_isEndless_X7_isWay
set_option maxRecDepth 20000 in
theorem ggX7_tryFixed_X7_lay : GoodIn wsX7_tryFixed wsX7_lay := goodIn_r _ [13, 14, 8, 15, 16, 17, 18, 19, 20, 21, 22, 23, 24, 25, 26, 27, 28, 29, 6, 30, 31, 32, 33, 34, 35, 36, 91, 92, 93, 94, 95, 96, 97, 98, 99, 100, 101, 102, 103, 104, 105, 106, 107, 108, 109, 110, 111, 112, 113, 114, 115, 116, 117, 118, 119, 120, 121, 122, 123, 124, 125, 126, 127, 128] (by decide +kernel) (by decide +kernel)
set_option maxRecDepth 20000 in
theorem gX7_tryFixed_X7_lay : GoodIn wsX7_tryFixed (wsV RX7 180 RX7 yX7_lay wsX7_lay) := goodIn_app (goodIn_of _ (by decide +kernel)) ggX7_tryFixed_X7_lay
set_option maxRecDepth 20000 in
theorem ggX7_quarrels_X7_lay : GoodIn wsX7_quarrels wsX7_lay := goodIn_r _ [12, 13, 14, 15, 6, 7, 16, 17, 18, 19, 20, 21, 22, 23, 24, 25, 26, 27, 4, 28, 29, 30, 31, 32, 33, 34, 80, 81, 82, 83, 84, 85, 86, 87, 88, 89, 90, 91, 92, 93, 94, 95, 96, 97, 98, 99, 100, 101, 102, 103, 104, 105, 106, 107, 108, 109, 110, 111, 112, 113, 114, 115, 116, 117] (by decide +kernel) (by decide +kernel)
set_option maxRecDepth 20000 in
theorem gX7_quarrels_X7_lay : GoodIn wsX7_quarrels (wsV RX7 180 RX7 yX7_lay wsX7_lay) := goodIn_app (goodIn_of _ (by decide +kernel)) ggX7_quarrels_X7_lay
set_option maxRecDepth 20000 in
theorem ggX7_quarrels_X7_corners : GoodIn wsX7_quarrels wsX7_corners := goodIn_r _ [38, 39, 40, 41, 4, 42, 19, 43, 13, 44, 45, 46, 47, 48, 20, 33, 49, 50, 51, 52, 53, 54, 55, 56, 57, 58, 59, 60, 61, 62, 34, 63, 64, 65, 66, 6, 67, 7, 17, 21, 68, 69, 70, 71, 72, 73, 74, 75, 76, 77, 78, 79, 80, 81, 82, 83, 84, 85, 86, 87, 88, 89, 90, 91, 92, 93, 94, 95, 96, 97, 98, 99, 100, 101, 102, 103, 104, 105, 106, 107, 108, 109, 110, 111, 112, 113, 114, 115, 116, 117] (by decide +kernel) (by decide +kernel)
set_option maxRecDepth 20000 in
theorem gX7_quarrels_X7_corners : GoodIn wsX7_quarrels (wsV RX7 184 RX7 yX7_corners wsX7_corners) := goodIn_app (goodIn_of _ (by decide +kernel)) ggX7_quarrels_X7_corners
