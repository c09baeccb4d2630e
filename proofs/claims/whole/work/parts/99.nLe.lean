set_option maxRecDepth 20000 in
theorem wsL_law_in : ∀ w ∈ wsL_law, w ∈ lw_tbl := fun w h => (goodIn_p wsL_law [49, 52, 57, 132, 159, 177, 183, 234, 689, 275, 278, 281, 284, 290, 809, 812, 815, 295, 299, 303, 822, 826, 308, 831, 313, 835, 318, 322, 839, 326, 330, 334, 843, 847, 338, 851, 342, 345, 855, 349, 859, 353, 863, 357, 867, 361, 365, 369, 374, 378, 382, 387, 392, 395, 398, 401, 404, 407, 411, 416, 420, 424, 429, 433, 436, 440, 444, 449, 453, 458, 462, 466, 472, 477, 481, 484, 490, 494, 498, 502, 509, 514, 518, 522, 871, 875, 879, 883, 887, 891, 895, 899, 903, 907, 911, 915, 919, 923, 927, 931, 935, 938, 942, 946, 950, 954, 527, 958, 531, 536, 962, 967, 970, 541, 974, 545, 549, 553, 557, 565, 569, 573, 978, 982, 985, 580, 989, 585, 588, 995, 593, 597, 1000, 602, 1004, 606, 1009, 610, 614, 618, 622, 630, 1013, 1017, 1021, 1025, 635, 639, 643, 647, 651, 655, 660, 664, 668, 1029, 1033, 1037, 1041, 1045, 1049, 673, 1053, 678, 684, 1057, 1061] (by decide +kernel) (by decide +kernel) w h).1
theorem inX0 : ∀ w ∈ wsX00, w ∈ lw_tbl := fun w h => wsL_law_in w (inlX0 w h)
theorem inX1 : ∀ w ∈ wsX10, w ∈ lw_tbl := fun w h => wsL_law_in w (inlX1 w h)
theorem inX2 : ∀ w ∈ wsX20, w ∈ lw_tbl := fun w h => wsL_law_in w (inlX2 w h)
theorem inX3 : ∀ w ∈ wsX30, w ∈ lw_tbl := fun w h => wsL_law_in w (inlX3 w h)
theorem inX4 : ∀ w ∈ wsX40, w ∈ lw_tbl := fun w h => wsL_law_in w (inlX4 w h)
theorem inX5 : ∀ w ∈ wsX50, w ∈ lw_tbl := fun w h => wsL_law_in w (inlX5 w h)
theorem inX6 : ∀ w ∈ wsX60, w ∈ lw_tbl := fun w h => wsL_law_in w (inlX6 w h)
theorem inX7 : ∀ w ∈ wsX70, w ∈ lw_tbl := fun w h => wsL_law_in w (inlX7 w h)
