set_option maxRecDepth 20000 in
theorem gt_wsL_law_r29 : GoodIn lw_tbl wsL_law_r29 := goodIn_p wsL_law_r29 [588, 995, 593, 597, 1000] rfl (by decide +kernel)
set_option maxRecDepth 20000 in
theorem gt_wsL_law_r30 : GoodIn lw_tbl wsL_law_r30 := goodIn_p wsL_law_r30 [602, 1004, 606, 1009, 610, 614] rfl (by decide +kernel)
set_option maxRecDepth 20000 in
theorem gt_wsL_law_r31 : GoodIn lw_tbl wsL_law_r31 := goodIn_p wsL_law_r31 [618, 622, 630] rfl (by decide +kernel)
set_option maxRecDepth 20000 in
theorem gt_wsL_law_r32 : GoodIn lw_tbl wsL_law_r32 := goodIn_p wsL_law_r32 [1013, 1017, 1021, 1025, 635, 639] rfl (by decide +kernel)
set_option maxRecDepth 20000 in
theorem gt_wsL_law_r33 : GoodIn lw_tbl wsL_law_r33 := goodIn_p wsL_law_r33 [643, 647, 651, 655, 660] rfl (by decide +kernel)
set_option maxRecDepth 20000 in
theorem gt_wsL_law_r34 : GoodIn lw_tbl wsL_law_r34 := goodIn_p wsL_law_r34 [664, 668, 1029, 1033, 1037, 1041] rfl (by decide +kernel)
set_option maxRecDepth 20000 in
theorem gt_wsL_law_r35 : GoodIn lw_tbl wsL_law_r35 := goodIn_p wsL_law_r35 [1045, 1049, 673, 1053, 678] rfl (by decide +kernel)
set_option maxRecDepth 20000 in
theorem gt_wsL_law_r36 : GoodIn lw_tbl wsL_law_r36 := goodIn_p wsL_law_r36 [684, 1057, 1061] rfl (by decide +kernel)
set_option maxRecDepth 20000 in
theorem gt_wsX60 : GoodIn lw_tbl wsX60 := goodIn_sub (by decide +kernel) (by decide +kernel)
set_option maxRecDepth 20000 in
theorem gt_wsX70 : GoodIn lw_tbl wsX70 := goodIn_sub (by decide +kernel) (by decide +kernel)
set_option maxRecDepth 20000 in
theorem gt_wsX20 : GoodIn lw_tbl wsX20 := goodIn_sub (by decide +kernel) (by decide +kernel)
set_option maxRecDepth 20000 in
theorem gt_wsX00 : GoodIn lw_tbl wsX00 := goodIn_sub (by decide +kernel) (by decide +kernel)
set_option maxRecDepth 20000 in
theorem gt_wsX40 : GoodIn lw_tbl wsX40 := goodIn_sub (by decide +kernel) (by decide +kernel)
set_option maxRecDepth 20000 in
theorem gt_wsX30 : GoodIn lw_tbl wsX30 := goodIn_sub (by decide +kernel) (by decide +kernel)
set_option maxRecDepth 20000 in
theorem gt_wsX10 : GoodIn lw_tbl wsX10 := goodIn_sub (by decide +kernel) (by decide +kernel)
set_option maxRecDepth 20000 in
theorem gt_wsX50 : GoodIn lw_tbl wsX50 := goodIn_sub (by decide +kernel) (by decide +kernel)
theorem gt_all : GoodIn lw_tbl wsL_law := goodIn_app (goodIn_app (goodIn_app (goodIn_app (goodIn_app (goodIn_app (goodIn_app (goodIn_app (goodIn_app (goodIn_app (gt_wsL_law_r1) (goodIn_app (gt_wsL_law_r2) (goodIn_app (gt_wsL_law_r3) (goodIn_app (gt_wsL_law_r4) (goodIn_app (gt_wsL_law_r5) (goodIn_app (gt_wsL_law_r6) (goodIn_app (gt_wsL_law_r7) (goodIn_app (gt_wsL_law_r8) (goodIn_app (gt_wsL_law_r9) (goodIn_app (gt_wsL_law_r10) (goodIn_app (gt_wsL_law_r11) (goodIn_app (gt_wsL_law_r12) (goodIn_app (gt_wsL_law_r13) (goodIn_app (gt_wsL_law_r14) (goodIn_app (gt_wsL_law_r15) (goodIn_app (gt_wsL_law_r16) (goodIn_app (gt_wsL_law_r17) (goodIn_app (gt_wsL_law_r18) (goodIn_app (gt_wsL_law_r19) (goodIn_app (gt_wsL_law_r20) (goodIn_app (gt_wsL_law_r21) (goodIn_app (gt_wsL_law_r22) (goodIn_app (gt_wsL_law_r23) (goodIn_app (gt_wsL_law_r24) (goodIn_app (gt_wsL_law_r25) (goodIn_app (gt_wsL_law_r26) (goodIn_app (gt_wsL_law_r27) (goodIn_app (gt_wsL_law_r28) (goodIn_app (gt_wsL_law_r29) (goodIn_app (gt_wsL_law_r30) (goodIn_app (gt_wsL_law_r31) (goodIn_app (gt_wsL_law_r32) (goodIn_app (gt_wsL_law_r33) (goodIn_app (gt_wsL_law_r34) (goodIn_app (gt_wsL_law_r35) (gt_wsL_law_r36)))))))))))))))))))))))))))))))))))) (gt_wsX60)) (gt_wsX70)) (gt_wsX20)) (gt_wsX00)) (gt_wsX40)) (gt_wsX30)) (gt_wsX10)) (gt_wsX50)) (goodIn_nil)
theorem wsL_law_in : ∀ w ∈ wsL_law, w ∈ lw_tbl := fun w h => (gt_all w h).1
theorem inX0 : ∀ w ∈ wsX00, w ∈ lw_tbl := fun w h => wsL_law_in w (inlX0 w h)
theorem inX1 : ∀ w ∈ wsX10, w ∈ lw_tbl := fun w h => wsL_law_in w (inlX1 w h)
theorem inX2 : ∀ w ∈ wsX20, w ∈ lw_tbl := fun w h => wsL_law_in w (inlX2 w h)
theorem inX3 : ∀ w ∈ wsX30, w ∈ lw_tbl := fun w h => wsL_law_in w (inlX3 w h)
theorem inX4 : ∀ w ∈ wsX40, w ∈ lw_tbl := fun w h => wsL_law_in w (inlX4 w h)
theorem inX5 : ∀ w ∈ wsX50, w ∈ lw_tbl := fun w h => wsL_law_in w (inlX5 w h)
theorem inX6 : ∀ w ∈ wsX60, w ∈ lw_tbl := fun w h => wsL_law_in w (inlX6 w h)
theorem inX7 : ∀ w ∈ wsX70, w ∈ lw_tbl := fun w h => wsL_law_in w (inlX7 w h)
