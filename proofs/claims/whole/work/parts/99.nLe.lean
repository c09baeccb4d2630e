set_option maxRecDepth 20000 in
theorem gt_wsL_law_r1 : GoodIn lw_tbl wsL_law_r1 := goodIn_p wsL_law_r1 [49, 52] rfl (by decide +kernel)
set_option maxRecDepth 20000 in
theorem gt_wsL_law_r2 : GoodIn lw_tbl wsL_law_r2 := goodIn_p wsL_law_r2 [57] rfl (by decide +kernel)
set_option maxRecDepth 20000 in
theorem gt_wsL_law_r3 : GoodIn lw_tbl wsL_law_r3 := goodIn_p wsL_law_r3 [132, 159, 177] rfl (by decide +kernel)
set_option maxRecDepth 20000 in
theorem gt_wsL_law_r4 : GoodIn lw_tbl wsL_law_r4 := goodIn_p wsL_law_r4 [183, 234, 689] rfl (by decide +kernel)
set_option maxRecDepth 20000 in
theorem gt_wsL_law_r5 : GoodIn lw_tbl wsL_law_r5 := goodIn_p wsL_law_r5 [] rfl (by decide +kernel)
set_option maxRecDepth 20000 in
theorem gt_wsL_law_r6 : GoodIn lw_tbl wsL_law_r6 := goodIn_p wsL_law_r6 [275, 278, 281, 284, 290] rfl (by decide +kernel)
set_option maxRecDepth 20000 in
theorem gt_wsL_law_r7 : GoodIn lw_tbl wsL_law_r7 := goodIn_p wsL_law_r7 [809, 812, 815, 295] rfl (by decide +kernel)
set_option maxRecDepth 20000 in
theorem gt_wsL_law_r8 : GoodIn lw_tbl wsL_law_r8 := goodIn_p wsL_law_r8 [299, 303, 822, 826, 308] rfl (by decide +kernel)
set_option maxRecDepth 20000 in
theorem gt_wsL_law_r9 : GoodIn lw_tbl wsL_law_r9 := goodIn_p wsL_law_r9 [831, 313, 835, 318, 322, 839] rfl (by decide +kernel)
set_option maxRecDepth 20000 in
theorem gt_wsL_law_r10 : GoodIn lw_tbl wsL_law_r10 := goodIn_p wsL_law_r10 [326, 330, 334, 843, 847] rfl (by decide +kernel)
set_option maxRecDepth 20000 in
theorem gt_wsL_law_r11 : GoodIn lw_tbl wsL_law_r11 := goodIn_p wsL_law_r11 [338, 851, 342, 345, 855, 349] rfl (by decide +kernel)
set_option maxRecDepth 20000 in
theorem gt_wsL_law_r12 : GoodIn lw_tbl wsL_law_r12 := goodIn_p wsL_law_r12 [859, 353, 863, 357, 867, 361] rfl (by decide +kernel)
set_option maxRecDepth 20000 in
theorem gt_wsL_law_r13 : GoodIn lw_tbl wsL_law_r13 := goodIn_p wsL_law_r13 [365, 369, 374, 378] rfl (by decide +kernel)
set_option maxRecDepth 20000 in
theorem gt_wsL_law_r14 : GoodIn lw_tbl wsL_law_r14 := goodIn_p wsL_law_r14 [382, 387, 392, 395, 398, 401] rfl (by decide +kernel)
