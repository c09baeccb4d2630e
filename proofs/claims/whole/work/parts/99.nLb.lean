set_option maxRecDepth 20000 in
theorem ghL_X6_init_1 : GoodIn wsL_law wsX6_init_r1 := goodIn_c 9 rfl rfl (goodIn_c 10 rfl rfl (goodIn_c 11 rfl rfl (goodIn_c 12 rfl rfl (goodIn_c 13 rfl rfl (goodIn_c 14 rfl rfl (goodIn_c 15 rfl rfl (goodIn_c 16 rfl rfl (goodIn_c 17 rfl rfl (goodIn_c 18 rfl rfl (goodIn_c 19 rfl rfl (goodIn_c 20 rfl rfl (goodIn_c 21 rfl rfl (goodIn_c 22 rfl rfl (goodIn_c 23 rfl rfl (goodIn_c 24 rfl rfl (goodIn_c 25 rfl rfl (goodIn_c 26 rfl rfl (goodIn_c 27 rfl rfl (goodIn_c 28 rfl rfl (goodIn_c 29 rfl rfl (goodIn_c 30 rfl rfl (goodIn_c 31 rfl rfl (goodIn_c 32 rfl rfl (goodIn_nil))))))))))))))))))))))))
set_option maxRecDepth 20000 in
theorem ghL_X6_init_2 : GoodIn wsL_law wsX6_init_r2 := goodIn_c 33 rfl rfl (goodIn_c 34 rfl rfl (goodIn_c 35 rfl rfl (goodIn_c 36 rfl rfl (goodIn_c 37 rfl rfl (goodIn_c 38 rfl rfl (goodIn_c 39 rfl rfl (goodIn_c 40 rfl rfl (goodIn_c 41 rfl rfl (goodIn_c 42 rfl rfl (goodIn_c 43 rfl rfl (goodIn_c 44 rfl rfl (goodIn_c 45 rfl rfl (goodIn_c 46 rfl rfl (goodIn_c 47 rfl rfl (goodIn_c 48 rfl rfl (goodIn_c 49 rfl rfl (goodIn_c 50 rfl rfl (goodIn_c 51 rfl rfl (goodIn_c 52 rfl rfl (goodIn_c 53 rfl rfl (goodIn_c 54 rfl rfl (goodIn_c 55 rfl rfl (goodIn_c 56 rfl rfl (goodIn_nil))))))))))))))))))))))))
set_option maxRecDepth 20000 in
theorem ghL_X6_init_3 : GoodIn wsL_law wsX6_init_r3 := goodIn_c 57 rfl rfl (goodIn_c 58 rfl rfl (goodIn_c 59 rfl rfl (goodIn_c 60 rfl rfl (goodIn_c 61 rfl rfl (goodIn_c 62 rfl rfl (goodIn_c 63 rfl rfl (goodIn_c 64 rfl rfl (goodIn_c 65 rfl rfl (goodIn_c 66 rfl rfl (goodIn_c 67 rfl rfl (goodIn_c 68 rfl rfl (goodIn_c 69 rfl rfl (goodIn_c 70 rfl rfl (goodIn_c 71 rfl rfl (goodIn_c 72 rfl rfl (goodIn_c 73 rfl rfl (goodIn_c 74 rfl rfl (goodIn_c 75 rfl rfl (goodIn_c 76 rfl rfl (goodIn_c 77 rfl rfl (goodIn_c 78 rfl rfl (goodIn_c 79 rfl rfl (goodIn_c 80 rfl rfl (goodIn_nil))))))))))))))))))))))))
set_option maxRecDepth 20000 in
theorem ghL_X6_init_4 : GoodIn wsL_law wsX6_init_r4 := goodIn_c 81 rfl rfl (goodIn_c 82 rfl rfl (goodIn_c 83 rfl rfl (goodIn_c 84 rfl rfl (goodIn_c 85 rfl rfl (goodIn_c 86 rfl rfl (goodIn_c 87 rfl rfl (goodIn_c 88 rfl rfl (goodIn_c 89 rfl rfl (goodIn_c 90 rfl rfl (goodIn_c 91 rfl rfl (goodIn_c 92 rfl rfl (goodIn_nil))))))))))))
set_option maxRecDepth 20000 in
theorem ggL_law_X6_init : GoodIn wsL_law wsX6_init := goodIn_c 8 rfl rfl (goodIn_app (goodIn_app (goodIn_app (goodIn_app (goodIn_app (goodIn_app (goodIn_app (goodIn_app (ghL_X6_init_1) (goodIn_app (ghL_X6_init_2) (goodIn_app (ghL_X6_init_3) (ghL_X6_init_4)))) (inL_wsX20)) (inL_wsX60)) (inL_wsX00)) (inL_wsX40)) (inL_wsX30)) (inL_wsX10)) (inL_wsX50))
set_option maxRecDepth 20000 in
theorem ghL_X7_init_1 : GoodIn wsL_law wsX7_init_r1 := goodIn_c 96 rfl rfl (goodIn_c 10 rfl rfl (goodIn_c 11 rfl rfl (goodIn_c 36 rfl rfl (goodIn_c 97 rfl rfl (goodIn_c 98 rfl rfl (goodIn_c 99 rfl rfl (goodIn_c 100 rfl rfl (goodIn_c 101 rfl rfl (goodIn_c 102 rfl rfl (goodIn_c 103 rfl rfl (goodIn_c 71 rfl rfl (goodIn_c 104 rfl rfl (goodIn_c 105 rfl rfl (goodIn_c 106 rfl rfl (goodIn_c 51 rfl rfl (goodIn_c 107 rfl rfl (goodIn_c 108 rfl rfl (goodIn_c 109 rfl rfl (goodIn_c 110 rfl rfl (goodIn_c 111 rfl rfl (goodIn_c 112 rfl rfl (goodIn_c 113 rfl rfl (goodIn_c 114 rfl rfl (goodIn_nil))))))))))))))))))))))))
set_option maxRecDepth 20000 in
theorem ghL_X7_init_2 : GoodIn wsL_law wsX7_init_r2 := goodIn_c 115 rfl rfl (goodIn_c 116 rfl rfl (goodIn_c 117 rfl rfl (goodIn_c 118 rfl rfl (goodIn_c 119 rfl rfl (goodIn_c 120 rfl rfl (goodIn_c 121 rfl rfl (goodIn_c 122 rfl rfl (goodIn_c 123 rfl rfl (goodIn_c 124 rfl rfl (goodIn_c 125 rfl rfl (goodIn_nil)))))))))))
set_option maxRecDepth 20000 in
theorem ggL_law_X7_init : GoodIn wsL_law wsX7_init := goodIn_c 95 rfl rfl (goodIn_app (goodIn_app (ghL_X7_init_1) (ghL_X7_init_2)) (inL_wsX70))
set_option maxRecDepth 20000 in
theorem ggL_law_X6_column : GoodIn wsL_law wsX6_column := goodIn_c 129 rfl rfl (goodIn_app (goodIn_app (goodIn_c 130 rfl rfl (goodIn_c 15 rfl rfl (goodIn_c 131 rfl rfl (goodIn_c 132 rfl rfl (goodIn_c 2 rfl rfl (goodIn_c 133 rfl rfl (goodIn_c 134 rfl rfl (goodIn_c 135 rfl rfl (goodIn_c 14 rfl rfl (goodIn_c 136 rfl rfl (goodIn_c 137 rfl rfl (goodIn_c 138 rfl rfl (goodIn_c 139 rfl rfl (goodIn_c 140 rfl rfl (goodIn_c 141 rfl rfl (goodIn_c 142 rfl rfl (goodIn_c 143 rfl rfl (goodIn_c 46 rfl rfl (goodIn_c 144 rfl rfl (goodIn_c 37 rfl rfl (goodIn_c 38 rfl rfl (goodIn_c 39 rfl rfl (goodIn_c 41 rfl rfl (goodIn_nil)))))))))))))))))))))))) (inL_wsX60)) (inL_wsX20))
set_option maxRecDepth 20000 in
theorem ggL_law_X7_column : GoodIn wsL_law wsX7_column := goodIn_c 148 rfl rfl (goodIn_app (goodIn_c 149 rfl rfl (goodIn_c 125 rfl rfl (goodIn_c 150 rfl rfl (goodIn_c 97 rfl rfl (goodIn_c 98 rfl rfl (goodIn_c 99 rfl rfl (goodIn_c 100 rfl rfl (goodIn_c 101 rfl rfl (goodIn_c 151 rfl rfl (goodIn_c 105 rfl rfl (goodIn_c 152 rfl rfl (goodIn_c 153 rfl rfl (goodIn_c 5 rfl rfl (goodIn_c 154 rfl rfl (goodIn_c 155 rfl rfl (goodIn_c 156 rfl rfl (goodIn_c 157 rfl rfl (goodIn_nil)))))))))))))))))) (inL_wsX70))
set_option maxRecDepth 20000 in
theorem ggL_law_X6_bound : GoodIn wsL_law wsX6_bound := goodIn_c 161 rfl rfl (goodIn_app (goodIn_app (goodIn_c 15 rfl rfl (goodIn_c 130 rfl rfl (goodIn_c 162 rfl rfl (goodIn_c 163 rfl rfl (goodIn_c 164 rfl rfl (goodIn_c 165 rfl rfl (goodIn_c 166 rfl rfl (goodIn_c 167 rfl rfl (goodIn_c 168 rfl rfl (goodIn_c 14 rfl rfl (goodIn_c 169 rfl rfl (goodIn_c 46 rfl rfl (goodIn_c 170 rfl rfl (goodIn_c 171 rfl rfl (goodIn_c 172 rfl rfl (goodIn_c 173 rfl rfl (goodIn_c 37 rfl rfl (goodIn_c 134 rfl rfl (goodIn_c 135 rfl rfl (goodIn_c 136 rfl rfl (goodIn_c 137 rfl rfl (goodIn_c 138 rfl rfl (goodIn_c 2 rfl rfl (goodIn_c 139 rfl rfl (goodIn_nil))))))))))))))))))))))))) (inL_wsX60)) (inL_wsX20))
set_option maxRecDepth 20000 in
theorem ggL_law_X7_bound : GoodIn wsL_law wsX7_bound := goodIn_c 177 rfl rfl (goodIn_app (goodIn_c 149 rfl rfl (goodIn_c 97 rfl rfl (goodIn_c 178 rfl rfl (goodIn_c 98 rfl rfl (goodIn_c 99 rfl rfl (goodIn_c 179 rfl rfl (goodIn_c 180 rfl rfl (goodIn_c 181 rfl rfl (goodIn_c 5 rfl rfl (goodIn_c 182 rfl rfl (goodIn_c 125 rfl rfl (goodIn_c 152 rfl rfl (goodIn_c 153 rfl rfl (goodIn_c 154 rfl rfl (goodIn_c 155 rfl rfl (goodIn_c 156 rfl rfl (goodIn_c 157 rfl rfl (goodIn_c 151 rfl rfl (goodIn_nil))))))))))))))))))) (inL_wsX70))
set_option maxRecDepth 20000 in
theorem ggL_law_X6_partner : GoodIn wsL_law wsX6_partner := goodIn_c 186 rfl rfl (goodIn_app (goodIn_app (goodIn_c 15 rfl rfl (goodIn_c 130 rfl rfl (goodIn_c 187 rfl rfl (goodIn_c 162 rfl rfl (goodIn_c 188 rfl rfl (goodIn_c 166 rfl rfl (goodIn_c 167 rfl rfl (goodIn_c 168 rfl rfl (goodIn_c 14 rfl rfl (goodIn_c 169 rfl rfl (goodIn_c 46 rfl rfl (goodIn_c 170 rfl rfl (goodIn_c 171 rfl rfl (goodIn_c 172 rfl rfl (goodIn_c 173 rfl rfl (goodIn_c 37 rfl rfl (goodIn_nil))))))))))))))))) (inL_wsX60)) (inL_wsX20))
set_option maxRecDepth 20000 in
theorem ggL_law_X7_partner : GoodIn wsL_law wsX7_partner := goodIn_c 192 rfl rfl (goodIn_app (goodIn_c 151 rfl rfl (goodIn_c 149 rfl rfl (goodIn_c 97 rfl rfl (goodIn_c 178 rfl rfl (goodIn_c 101 rfl rfl (goodIn_c 179 rfl rfl (goodIn_c 180 rfl rfl (goodIn_c 181 rfl rfl (goodIn_c 5 rfl rfl (goodIn_c 182 rfl rfl (goodIn_c 125 rfl rfl (goodIn_c 152 rfl rfl (goodIn_c 153 rfl rfl (goodIn_c 154 rfl rfl (goodIn_nil))))))))))))))) (inL_wsX70))
set_option maxRecDepth 20000 in
theorem ggL_law_X6_cost : GoodIn wsL_law wsX6_cost := goodIn_c 196 rfl rfl (goodIn_app (goodIn_app (goodIn_c 15 rfl rfl (goodIn_c 130 rfl rfl (goodIn_c 197 rfl rfl (goodIn_c 166 rfl rfl (goodIn_c 167 rfl rfl (goodIn_c 168 rfl rfl (goodIn_c 14 rfl rfl (goodIn_c 169 rfl rfl (goodIn_c 46 rfl rfl (goodIn_c 198 rfl rfl (goodIn_c 138 rfl rfl (goodIn_c 2 rfl rfl (goodIn_c 139 rfl rfl (goodIn_nil)))))))))))))) (inL_wsX60)) (inL_wsX20))
set_option maxRecDepth 20000 in
theorem ggL_law_X7_cost : GoodIn wsL_law wsX7_cost := goodIn_c 202 rfl rfl (goodIn_app (goodIn_c 149 rfl rfl (goodIn_c 100 rfl rfl (goodIn_c 179 rfl rfl (goodIn_c 180 rfl rfl (goodIn_c 181 rfl rfl (goodIn_c 5 rfl rfl (goodIn_c 182 rfl rfl (goodIn_c 125 rfl rfl (goodIn_c 152 rfl rfl (goodIn_c 153 rfl rfl (goodIn_c 154 rfl rfl (goodIn_nil)))))))))))) (inL_wsX70))
set_option maxRecDepth 20000 in
theorem ggL_law_X6_row : GoodIn wsL_law wsX6_row := goodIn_c 206 rfl rfl (goodIn_app (goodIn_app (goodIn_c 130 rfl rfl (goodIn_c 15 rfl rfl (goodIn_c 198 rfl rfl (goodIn_c 138 rfl rfl (goodIn_c 2 rfl rfl (goodIn_c 139 rfl rfl (goodIn_c 207 rfl rfl (goodIn_c 208 rfl rfl (goodIn_c 209 rfl rfl (goodIn_c 14 rfl rfl (goodIn_c 210 rfl rfl (goodIn_c 47 rfl rfl (goodIn_c 144 rfl rfl (goodIn_c 42 rfl rfl (goodIn_c 43 rfl rfl (goodIn_c 44 rfl rfl (goodIn_nil))))))))))))))))) (inL_wsX60)) (inL_wsX20))
set_option maxRecDepth 20000 in
theorem ggL_law_X7_row : GoodIn wsL_law wsX7_row := goodIn_c 214 rfl rfl (goodIn_app (goodIn_c 149 rfl rfl (goodIn_c 215 rfl rfl (goodIn_c 150 rfl rfl (goodIn_c 102 rfl rfl (goodIn_c 103 rfl rfl (goodIn_c 104 rfl rfl (goodIn_c 105 rfl rfl (goodIn_c 152 rfl rfl (goodIn_c 153 rfl rfl (goodIn_c 5 rfl rfl (goodIn_c 154 rfl rfl (goodIn_nil)))))))))))) (inL_wsX70))
set_option maxRecDepth 20000 in
theorem ggL_law_X6_share : GoodIn wsL_law wsX6_share := goodIn_c 219 rfl rfl (goodIn_app (goodIn_app (goodIn_c 15 rfl rfl (goodIn_c 130 rfl rfl (goodIn_c 220 rfl rfl (goodIn_c 221 rfl rfl (goodIn_c 222 rfl rfl (goodIn_c 223 rfl rfl (goodIn_c 14 rfl rfl (goodIn_c 224 rfl rfl (goodIn_c 47 rfl rfl (goodIn_c 166 rfl rfl (goodIn_c 167 rfl rfl (goodIn_c 168 rfl rfl (goodIn_c 169 rfl rfl (goodIn_c 46 rfl rfl (goodIn_c 198 rfl rfl (goodIn_c 138 rfl rfl (goodIn_c 2 rfl rfl (goodIn_c 139 rfl rfl (goodIn_c 225 rfl rfl (goodIn_c 226 rfl rfl (goodIn_c 227 rfl rfl (goodIn_c 228 rfl rfl (goodIn_c 45 rfl rfl (goodIn_nil)))))))))))))))))))))))) (inL_wsX60)) (inL_wsX20))
set_option maxRecDepth 20000 in
theorem ggL_law_X7_share : GoodIn wsL_law wsX7_share := goodIn_c 232 rfl rfl (goodIn_app (goodIn_c 149 rfl rfl (goodIn_c 105 rfl rfl (goodIn_c 233 rfl rfl (goodIn_c 234 rfl rfl (goodIn_c 235 rfl rfl (goodIn_c 5 rfl rfl (goodIn_c 236 rfl rfl (goodIn_c 215 rfl rfl (goodIn_c 152 rfl rfl (goodIn_c 153 rfl rfl (goodIn_c 154 rfl rfl (goodIn_c 179 rfl rfl (goodIn_c 180 rfl rfl (goodIn_c 181 rfl rfl (goodIn_c 182 rfl rfl (goodIn_c 125 rfl rfl (goodIn_nil))))))))))))))))) (inL_wsX70))
set_option maxRecDepth 20000 in
theorem ggL_law_X6_number : GoodIn wsL_law wsX6_number := goodIn_c 240 rfl rfl (goodIn_app (goodIn_app (goodIn_c 15 rfl rfl (goodIn_c 130 rfl rfl (goodIn_c 241 rfl rfl (goodIn_c 221 rfl rfl (goodIn_c 222 rfl rfl (goodIn_c 223 rfl rfl (goodIn_c 14 rfl rfl (goodIn_c 224 rfl rfl (goodIn_c 47 rfl rfl (goodIn_c 198 rfl rfl (goodIn_c 138 rfl rfl (goodIn_c 2 rfl rfl (goodIn_c 139 rfl rfl (goodIn_nil)))))))))))))) (inL_wsX60)) (inL_wsX20))
set_option maxRecDepth 20000 in
theorem ggL_law_X7_number : GoodIn wsL_law wsX7_number := goodIn_c 245 rfl rfl (goodIn_app (goodIn_c 149 rfl rfl (goodIn_c 103 rfl rfl (goodIn_c 233 rfl rfl (goodIn_c 234 rfl rfl (goodIn_c 235 rfl rfl (goodIn_c 5 rfl rfl (goodIn_c 236 rfl rfl (goodIn_c 215 rfl rfl (goodIn_c 152 rfl rfl (goodIn_c 153 rfl rfl (goodIn_c 154 rfl rfl (goodIn_nil)))))))))))) (inL_wsX70))
set_option maxRecDepth 20000 in
theorem ggL_law_X6_counts : GoodIn wsL_law wsX6_counts := goodIn_c 249 rfl rfl (goodIn_app (goodIn_app (goodIn_c 15 rfl rfl (goodIn_c 130 rfl rfl (goodIn_c 250 rfl rfl (goodIn_c 221 rfl rfl (goodIn_c 222 rfl rfl (goodIn_c 223 rfl rfl (goodIn_c 14 rfl rfl (goodIn_c 224 rfl rfl (goodIn_c 47 rfl rfl (goodIn_c 251 rfl rfl (goodIn_c 252 rfl rfl (goodIn_c 2 rfl rfl (goodIn_c 253 rfl rfl (goodIn_nil)))))))))))))) (inL_wsX60)) (inL_wsX20))
set_option maxRecDepth 20000 in
theorem gL_law_X6_init : GoodIn wsL_law (wsX6_init) := ggL_law_X6_init
set_option maxRecDepth 20000 in
theorem gL_law_X7_init : GoodIn wsL_law (wsX7_init) := ggL_law_X7_init
set_option maxRecDepth 20000 in
theorem gL_law_X6_column : GoodIn wsL_law (wsV RL 13 RX6 yX6_column wsX6_column) := goodIn_app (goodIn_of _ (by decide +kernel)) ggL_law_X6_column
set_option maxRecDepth 20000 in
theorem gL_law_X7_column : GoodIn wsL_law (wsV RL 17 RX7 yX7_column wsX7_column) := goodIn_app (goodIn_of _ (by decide +kernel)) ggL_law_X7_column
set_option maxRecDepth 20000 in
theorem gL_law_X6_bound : GoodIn wsL_law (wsV RL 18 RX6 yX6_bound wsX6_bound) := goodIn_app (goodIn_of _ (by decide +kernel)) ggL_law_X6_bound
set_option maxRecDepth 20000 in
theorem gL_law_X7_bound : GoodIn wsL_law (wsV RL 21 RX7 yX7_bound wsX7_bound) := goodIn_app (goodIn_of _ (by decide +kernel)) ggL_law_X7_bound
set_option maxRecDepth 20000 in
theorem gL_law_X6_partner : GoodIn wsL_law (wsV RL 22 RX6 yX6_partner wsX6_partner) := goodIn_app (goodIn_of _ (by decide +kernel)) ggL_law_X6_partner
set_option maxRecDepth 20000 in
theorem gL_law_X7_partner : GoodIn wsL_law (wsV RL 26 RX7 yX7_partner wsX7_partner) := goodIn_app (goodIn_of _ (by decide +kernel)) ggL_law_X7_partner
set_option maxRecDepth 20000 in
theorem gL_law_X6_cost : GoodIn wsL_law (wsV RL 27 RX6 yX6_cost wsX6_cost) := goodIn_app (goodIn_of _ (by decide +kernel)) ggL_law_X6_cost
set_option maxRecDepth 20000 in
theorem gL_law_X7_cost : GoodIn wsL_law (wsV RL 30 RX7 yX7_cost wsX7_cost) := goodIn_app (goodIn_of _ (by decide +kernel)) ggL_law_X7_cost
set_option maxRecDepth 20000 in
theorem gL_law_X6_row : GoodIn wsL_law (wsV RL 31 RX6 yX6_row wsX6_row) := goodIn_app (goodIn_of _ (by decide +kernel)) ggL_law_X6_row
set_option maxRecDepth 20000 in
theorem gL_law_X7_row : GoodIn wsL_law (wsV RL 34 RX7 yX7_row wsX7_row) := goodIn_app (goodIn_of _ (by decide +kernel)) ggL_law_X7_row
set_option maxRecDepth 20000 in
theorem gL_law_X6_share : GoodIn wsL_law (wsV RL 35 RX6 yX6_share wsX6_share) := goodIn_app (goodIn_of _ (by decide +kernel)) ggL_law_X6_share
set_option maxRecDepth 20000 in
theorem gL_law_X7_share : GoodIn wsL_law (wsV RL 38 RX7 yX7_share wsX7_share) := goodIn_app (goodIn_of _ (by decide +kernel)) ggL_law_X7_share
set_option maxRecDepth 20000 in
theorem gL_law_X6_number : GoodIn wsL_law (wsV RL 39 RX6 yX6_number wsX6_number) := goodIn_app (goodIn_of _ (by decide +kernel)) ggL_law_X6_number
set_option maxRecDepth 20000 in
theorem gL_law_X7_number : GoodIn wsL_law (wsV RL 42 RX7 yX7_number wsX7_number) := goodIn_app (goodIn_of _ (by decide +kernel)) ggL_law_X7_number
set_option maxRecDepth 20000 in
theorem gL_law_X6_counts : GoodIn wsL_law (wsV RL 43 RX6 yX6_counts wsX6_counts) := goodIn_app (goodIn_of _ (by decide +kernel)) ggL_law_X6_counts
