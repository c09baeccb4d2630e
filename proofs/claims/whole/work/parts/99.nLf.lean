set_option maxRecDepth 20000 in
theorem gt_wsL_law_r15 : GoodIn lw_tbl wsL_law_r15 := goodIn_p wsL_law_r15 [404, 407, 411, 416, 420] rfl (by decide +kernel)
set_option maxRecDepth 20000 in
theorem gt_wsL_law_r16 : GoodIn lw_tbl wsL_law_r16 := goodIn_p wsL_law_r16 [424, 429, 433, 436, 440, 444] rfl (by decide +kernel)
set_option maxRecDepth 20000 in
theorem gt_wsL_law_r17 : GoodIn lw_tbl wsL_law_r17 := goodIn_p wsL_law_r17 [449, 453, 458, 462, 466] rfl (by decide +kernel)
set_option maxRecDepth 20000 in
theorem gt_wsL_law_r18 : GoodIn lw_tbl wsL_law_r18 := goodIn_p wsL_law_r18 [472, 477, 481, 484, 490] rfl (by decide +kernel)
set_option maxRecDepth 20000 in
theorem gt_wsL_law_r19 : GoodIn lw_tbl wsL_law_r19 := goodIn_p wsL_law_r19 [494, 498, 502, 509] rfl (by decide +kernel)
set_option maxRecDepth 20000 in
theorem gt_wsL_law_r20 : GoodIn lw_tbl wsL_law_r20 := goodIn_p wsL_law_r20 [514, 518, 522, 871, 875, 879] rfl (by decide +kernel)
set_option maxRecDepth 20000 in
theorem gt_wsL_law_r21 : GoodIn lw_tbl wsL_law_r21 := goodIn_p wsL_law_r21 [883, 887, 891, 895, 899] rfl (by decide +kernel)
set_option maxRecDepth 20000 in
theorem gt_wsL_law_r22 : GoodIn lw_tbl wsL_law_r22 := goodIn_p wsL_law_r22 [903, 907, 911, 915, 919] rfl (by decide +kernel)
set_option maxRecDepth 20000 in
theorem gt_wsL_law_r23 : GoodIn lw_tbl wsL_law_r23 := goodIn_p wsL_law_r23 [923, 927, 931, 935, 938, 942] rfl (by decide +kernel)
set_option maxRecDepth 20000 in
theorem gt_wsL_law_r24 : GoodIn lw_tbl wsL_law_r24 := goodIn_p wsL_law_r24 [946, 950, 954, 527, 958, 531] rfl (by decide +kernel)
set_option maxRecDepth 20000 in
theorem gt_wsL_law_r25 : GoodIn lw_tbl wsL_law_r25 := goodIn_p wsL_law_r25 [536, 962, 967, 970, 541] rfl (by decide +kernel)
set_option maxRecDepth 20000 in
theorem gt_wsL_law_r26 : GoodIn lw_tbl wsL_law_r26 := goodIn_p wsL_law_r26 [974, 545, 549, 553, 557] rfl (by decide +kernel)
set_option maxRecDepth 20000 in
theorem gt_wsL_law_r27 : GoodIn lw_tbl wsL_law_r27 := goodIn_p wsL_law_r27 [565, 569, 573, 978] rfl (by decide +kernel)
set_option maxRecDepth 20000 in
theorem gt_wsL_law_r28 : GoodIn lw_tbl wsL_law_r28 := goodIn_p wsL_law_r28 [982, 985, 580, 989, 585] rfl (by decide +kernel)
