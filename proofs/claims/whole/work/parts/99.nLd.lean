set_option maxRecDepth 20000 in
theorem ggL_law_X6_put : GoodIn wsL_law wsX6_put := goodIn_c 656 rfl rfl (goodIn_app (goodIn_app (goodIn_c 657 rfl rfl (goodIn_c 130 rfl rfl (goodIn_c 31 rfl rfl (goodIn_c 658 rfl rfl (goodIn_c 198 rfl rfl (goodIn_c 138 rfl rfl (goodIn_c 2 rfl rfl (goodIn_c 139 rfl rfl (goodIn_nil))))))))) (inL_wsX60)) (inL_wsX10))
set_option maxRecDepth 20000 in
theorem ggL_law_X7_put : GoodIn wsL_law wsX7_put := goodIn_c 662 rfl rfl (goodIn_app (goodIn_c 663 rfl rfl (goodIn_c 664 rfl rfl (goodIn_c 149 rfl rfl (goodIn_c 109 rfl rfl (goodIn_c 152 rfl rfl (goodIn_c 153 rfl rfl (goodIn_c 5 rfl rfl (goodIn_c 154 rfl rfl (goodIn_nil))))))))) (inL_wsX70))
set_option maxRecDepth 20000 in
theorem ggL_law_X6_over : GoodIn wsL_law wsX6_over := goodIn_c 668 rfl rfl (goodIn_app (goodIn_app (goodIn_c 130 rfl rfl (goodIn_c 31 rfl rfl (goodIn_c 669 rfl rfl (goodIn_c 670 rfl rfl (goodIn_c 671 rfl rfl (goodIn_c 2 rfl rfl (goodIn_c 672 rfl rfl (goodIn_c 673 rfl rfl (goodIn_nil))))))))) (inL_wsX60)) (inL_wsX10))
set_option maxRecDepth 20000 in
theorem ggL_law_X7_over : GoodIn wsL_law wsX7_over := goodIn_c 677 rfl rfl (goodIn_app (goodIn_c 678 rfl rfl (goodIn_c 149 rfl rfl (goodIn_c 110 rfl rfl (goodIn_c 152 rfl rfl (goodIn_c 153 rfl rfl (goodIn_c 5 rfl rfl (goodIn_c 154 rfl rfl (goodIn_nil)))))))) (inL_wsX70))
set_option maxRecDepth 20000 in
theorem ggL_law_X6_take : GoodIn wsL_law wsX6_take := goodIn_c 682 rfl rfl (goodIn_app (goodIn_app (goodIn_app (goodIn_c 19 rfl rfl (goodIn_c 287 rfl rfl (goodIn_c 574 rfl rfl (goodIn_c 31 rfl rfl (goodIn_c 669 rfl rfl (goodIn_c 683 rfl rfl (goodIn_c 684 rfl rfl (goodIn_c 685 rfl rfl (goodIn_c 30 rfl rfl (goodIn_c 686 rfl rfl (goodIn_c 687 rfl rfl (goodIn_c 688 rfl rfl (goodIn_c 89 rfl rfl (goodIn_c 91 rfl rfl (goodIn_c 327 rfl rfl (goodIn_c 2 rfl rfl (goodIn_c 328 rfl rfl (goodIn_c 329 rfl rfl (goodIn_c 330 rfl rfl (goodIn_c 331 rfl rfl (goodIn_c 332 rfl rfl (goodIn_nil)))))))))))))))))))))) (inL_wsX60)) (inL_wsX00)) (inL_wsX10))
set_option maxRecDepth 20000 in
theorem ggL_law_X7_take : GoodIn wsL_law wsX7_take := goodIn_c 692 rfl rfl (goodIn_app (goodIn_c 106 rfl rfl (goodIn_c 586 rfl rfl (goodIn_c 107 rfl rfl (goodIn_c 108 rfl rfl (goodIn_c 109 rfl rfl (goodIn_c 110 rfl rfl (goodIn_c 587 rfl rfl (goodIn_c 588 rfl rfl (goodIn_c 5 rfl rfl (goodIn_c 589 rfl rfl (goodIn_c 590 rfl rfl (goodIn_c 591 rfl rfl (goodIn_c 592 rfl rfl (goodIn_nil)))))))))))))) (inL_wsX70))
set_option maxRecDepth 20000 in
theorem ggL_law_X6_price : GoodIn wsL_law wsX6_price := goodIn_c 696 rfl rfl (goodIn_app (goodIn_app (goodIn_c 673 rfl rfl (goodIn_c 130 rfl rfl (goodIn_c 31 rfl rfl (goodIn_c 697 rfl rfl (goodIn_c 198 rfl rfl (goodIn_c 138 rfl rfl (goodIn_c 2 rfl rfl (goodIn_c 139 rfl rfl (goodIn_nil))))))))) (inL_wsX60)) (inL_wsX10))
set_option maxRecDepth 20000 in
theorem ggL_law_X7_price : GoodIn wsL_law wsX7_price := goodIn_c 701 rfl rfl (goodIn_app (goodIn_c 702 rfl rfl (goodIn_c 678 rfl rfl (goodIn_c 149 rfl rfl (goodIn_c 111 rfl rfl (goodIn_c 152 rfl rfl (goodIn_c 153 rfl rfl (goodIn_c 5 rfl rfl (goodIn_c 154 rfl rfl (goodIn_nil))))))))) (inL_wsX70))
set_option maxRecDepth 20000 in
theorem ggL_law_X6_pricesOver : GoodIn wsL_law wsX6_pricesOver := goodIn_c 706 rfl rfl (goodIn_app (goodIn_app (goodIn_c 130 rfl rfl (goodIn_c 31 rfl rfl (goodIn_c 707 rfl rfl (goodIn_c 670 rfl rfl (goodIn_c 671 rfl rfl (goodIn_c 2 rfl rfl (goodIn_c 672 rfl rfl (goodIn_c 673 rfl rfl (goodIn_nil))))))))) (inL_wsX60)) (inL_wsX10))
set_option maxRecDepth 20000 in
theorem ggL_law_X7_pricesOver : GoodIn wsL_law wsX7_pricesOver := goodIn_c 711 rfl rfl (goodIn_app (goodIn_c 678 rfl rfl (goodIn_c 149 rfl rfl (goodIn_c 112 rfl rfl (goodIn_c 152 rfl rfl (goodIn_c 153 rfl rfl (goodIn_c 5 rfl rfl (goodIn_c 154 rfl rfl (goodIn_nil)))))))) (inL_wsX70))
set_option maxRecDepth 20000 in
theorem ghL_X6_check_1 : GoodIn wsL_law wsX6_check_r1 := goodIn_c 31 rfl rfl (goodIn_c 15 rfl rfl (goodIn_c 716 rfl rfl (goodIn_c 717 rfl rfl (goodIn_c 718 rfl rfl (goodIn_c 30 rfl rfl (goodIn_c 719 rfl rfl (goodIn_c 720 rfl rfl (goodIn_c 721 rfl rfl (goodIn_c 722 rfl rfl (goodIn_c 723 rfl rfl (goodIn_c 724 rfl rfl (goodIn_c 91 rfl rfl (goodIn_c 89 rfl rfl (goodIn_c 725 rfl rfl (goodIn_c 726 rfl rfl (goodIn_c 727 rfl rfl (goodIn_c 728 rfl rfl (goodIn_c 729 rfl rfl (goodIn_c 730 rfl rfl (goodIn_c 731 rfl rfl (goodIn_c 732 rfl rfl (goodIn_c 733 rfl rfl (goodIn_c 324 rfl rfl (goodIn_nil))))))))))))))))))))))))
set_option maxRecDepth 20000 in
theorem ghL_X6_check_2 : GoodIn wsL_law wsX6_check_r2 := goodIn_c 325 rfl rfl (goodIn_c 14 rfl rfl (goodIn_c 326 rfl rfl (goodIn_c 37 rfl rfl (goodIn_c 734 rfl rfl (goodIn_c 171 rfl rfl (goodIn_c 172 rfl rfl (goodIn_c 173 rfl rfl (goodIn_c 735 rfl rfl (goodIn_c 167 rfl rfl (goodIn_c 168 rfl rfl (goodIn_c 169 rfl rfl (goodIn_c 46 rfl rfl (goodIn_c 736 rfl rfl (goodIn_c 737 rfl rfl (goodIn_c 738 rfl rfl (goodIn_c 739 rfl rfl (goodIn_c 740 rfl rfl (goodIn_c 741 rfl rfl (goodIn_c 742 rfl rfl (goodIn_c 627 rfl rfl (goodIn_c 628 rfl rfl (goodIn_c 629 rfl rfl (goodIn_c 43 rfl rfl (goodIn_nil))))))))))))))))))))))))
set_option maxRecDepth 20000 in
theorem ghL_X6_check_3 : GoodIn wsL_law wsX6_check_r3 := goodIn_c 42 rfl rfl (goodIn_c 630 rfl rfl (goodIn_c 631 rfl rfl (goodIn_c 632 rfl rfl (goodIn_c 633 rfl rfl (goodIn_c 322 rfl rfl (goodIn_c 226 rfl rfl (goodIn_c 227 rfl rfl (goodIn_c 228 rfl rfl (goodIn_c 45 rfl rfl (goodIn_c 634 rfl rfl (goodIn_c 371 rfl rfl (goodIn_c 372 rfl rfl (goodIn_c 373 rfl rfl (goodIn_nil))))))))))))))
set_option maxRecDepth 20000 in
theorem ggL_law_X6_check : GoodIn wsL_law wsX6_check := goodIn_c 715 rfl rfl (goodIn_app (goodIn_app (goodIn_app (goodIn_app (ghL_X6_check_1) (goodIn_app (ghL_X6_check_2) (ghL_X6_check_3))) (inL_wsX60)) (inL_wsX20)) (inL_wsX10))
set_option maxRecDepth 20000 in
theorem ghL_X7_check_1 : GoodIn wsL_law wsX7_check_r1 := goodIn_c 125 rfl rfl (goodIn_c 97 rfl rfl (goodIn_c 109 rfl rfl (goodIn_c 110 rfl rfl (goodIn_c 101 rfl rfl (goodIn_c 151 rfl rfl (goodIn_c 215 rfl rfl (goodIn_c 747 rfl rfl (goodIn_c 748 rfl rfl (goodIn_c 749 rfl rfl (goodIn_c 5 rfl rfl (goodIn_c 750 rfl rfl (goodIn_c 98 rfl rfl (goodIn_c 99 rfl rfl (goodIn_c 751 rfl rfl (goodIn_c 752 rfl rfl (goodIn_c 753 rfl rfl (goodIn_c 754 rfl rfl (goodIn_c 103 rfl rfl (goodIn_c 104 rfl rfl (goodIn_c 102 rfl rfl (goodIn_c 755 rfl rfl (goodIn_c 756 rfl rfl (goodIn_c 757 rfl rfl (goodIn_nil))))))))))))))))))))))))
set_option maxRecDepth 20000 in
theorem ghL_X7_check_2 : GoodIn wsL_law wsX7_check_r2 := goodIn_c 758 rfl rfl (goodIn_c 105 rfl rfl (goodIn_nil))
set_option maxRecDepth 20000 in
theorem ggL_law_X7_check : GoodIn wsL_law wsX7_check := goodIn_c 746 rfl rfl (goodIn_app (goodIn_app (ghL_X7_check_1) (ghL_X7_check_2)) (inL_wsX70))
set_option maxRecDepth 20000 in
theorem ghL_X6_shows_1 : GoodIn wsL_law wsX6_shows_r1 := goodIn_c 31 rfl rfl (goodIn_c 15 rfl rfl (goodIn_c 763 rfl rfl (goodIn_c 764 rfl rfl (goodIn_c 765 rfl rfl (goodIn_c 30 rfl rfl (goodIn_c 766 rfl rfl (goodIn_c 767 rfl rfl (goodIn_c 768 rfl rfl (goodIn_c 769 rfl rfl (goodIn_c 770 rfl rfl (goodIn_c 720 rfl rfl (goodIn_c 726 rfl rfl (goodIn_c 727 rfl rfl (goodIn_c 728 rfl rfl (goodIn_c 729 rfl rfl (goodIn_c 730 rfl rfl (goodIn_c 731 rfl rfl (goodIn_c 89 rfl rfl (goodIn_c 91 rfl rfl (goodIn_c 732 rfl rfl (goodIn_c 736 rfl rfl (goodIn_c 737 rfl rfl (goodIn_c 738 rfl rfl (goodIn_nil))))))))))))))))))))))))
set_option maxRecDepth 20000 in
theorem ghL_X6_shows_2 : GoodIn wsL_law wsX6_shows_r2 := goodIn_c 739 rfl rfl (goodIn_c 740 rfl rfl (goodIn_c 741 rfl rfl (goodIn_c 742 rfl rfl (goodIn_c 627 rfl rfl (goodIn_c 628 rfl rfl (goodIn_c 14 rfl rfl (goodIn_c 629 rfl rfl (goodIn_c 43 rfl rfl (goodIn_c 42 rfl rfl (goodIn_c 630 rfl rfl (goodIn_c 631 rfl rfl (goodIn_c 632 rfl rfl (goodIn_c 633 rfl rfl (goodIn_c 46 rfl rfl (goodIn_c 322 rfl rfl (goodIn_c 226 rfl rfl (goodIn_c 227 rfl rfl (goodIn_c 228 rfl rfl (goodIn_c 45 rfl rfl (goodIn_c 634 rfl rfl (goodIn_c 371 rfl rfl (goodIn_c 372 rfl rfl (goodIn_c 373 rfl rfl (goodIn_nil))))))))))))))))))))))))
set_option maxRecDepth 20000 in
theorem ghL_X6_shows_3 : GoodIn wsL_law wsX6_shows_r3 := goodIn_c 771 rfl rfl (goodIn_c 772 rfl rfl (goodIn_c 773 rfl rfl (goodIn_c 774 rfl rfl (goodIn_c 775 rfl rfl (goodIn_c 90 rfl rfl (goodIn_c 776 rfl rfl (goodIn_c 777 rfl rfl (goodIn_c 778 rfl rfl (goodIn_c 779 rfl rfl (goodIn_c 780 rfl rfl (goodIn_c 781 rfl rfl (goodIn_c 782 rfl rfl (goodIn_c 783 rfl rfl (goodIn_c 784 rfl rfl (goodIn_c 92 rfl rfl (goodIn_c 785 rfl rfl (goodIn_c 786 rfl rfl (goodIn_c 787 rfl rfl (goodIn_c 788 rfl rfl (goodIn_c 789 rfl rfl (goodIn_c 790 rfl rfl (goodIn_c 791 rfl rfl (goodIn_c 792 rfl rfl (goodIn_nil))))))))))))))))))))))))
set_option maxRecDepth 20000 in
theorem ghL_X6_shows_4 : GoodIn wsL_law wsX6_shows_r4 := goodIn_c 793 rfl rfl (goodIn_c 794 rfl rfl (goodIn_c 795 rfl rfl (goodIn_c 796 rfl rfl (goodIn_c 797 rfl rfl (goodIn_c 798 rfl rfl (goodIn_c 799 rfl rfl (goodIn_nil)))))))
set_option maxRecDepth 20000 in
theorem ggL_law_X6_shows : GoodIn wsL_law wsX6_shows := goodIn_c 762 rfl rfl (goodIn_app (goodIn_app (goodIn_app (goodIn_app (ghL_X6_shows_1) (goodIn_app (ghL_X6_shows_2) (goodIn_app (ghL_X6_shows_3) (ghL_X6_shows_4)))) (inL_wsX60)) (inL_wsX20)) (inL_wsX10))
set_option maxRecDepth 20000 in
theorem ghL_X7_shows_1 : GoodIn wsL_law wsX7_shows_r1 := goodIn_c 125 rfl rfl (goodIn_c 215 rfl rfl (goodIn_c 104 rfl rfl (goodIn_c 111 rfl rfl (goodIn_c 103 rfl rfl (goodIn_c 110 rfl rfl (goodIn_c 804 rfl rfl (goodIn_c 805 rfl rfl (goodIn_c 806 rfl rfl (goodIn_c 5 rfl rfl (goodIn_c 807 rfl rfl (goodIn_c 747 rfl rfl (goodIn_c 748 rfl rfl (goodIn_c 749 rfl rfl (goodIn_c 750 rfl rfl (goodIn_c 109 rfl rfl (goodIn_c 98 rfl rfl (goodIn_c 99 rfl rfl (goodIn_c 151 rfl rfl (goodIn_c 751 rfl rfl (goodIn_c 752 rfl rfl (goodIn_c 753 rfl rfl (goodIn_c 754 rfl rfl (goodIn_c 102 rfl rfl (goodIn_nil))))))))))))))))))))))))
set_option maxRecDepth 20000 in
theorem ghL_X7_shows_2 : GoodIn wsL_law wsX7_shows_r2 := goodIn_c 755 rfl rfl (goodIn_c 756 rfl rfl (goodIn_c 757 rfl rfl (goodIn_c 758 rfl rfl (goodIn_c 105 rfl rfl (goodIn_c 808 rfl rfl (goodIn_c 809 rfl rfl (goodIn_c 810 rfl rfl (goodIn_c 811 rfl rfl (goodIn_c 812 rfl rfl (goodIn_c 813 rfl rfl (goodIn_c 814 rfl rfl (goodIn_c 815 rfl rfl (goodIn_c 100 rfl rfl (goodIn_c 112 rfl rfl (goodIn_c 816 rfl rfl (goodIn_c 817 rfl rfl (goodIn_c 818 rfl rfl (goodIn_c 819 rfl rfl (goodIn_c 820 rfl rfl (goodIn_c 821 rfl rfl (goodIn_c 822 rfl rfl (goodIn_c 823 rfl rfl (goodIn_nil)))))))))))))))))))))))
set_option maxRecDepth 20000 in
theorem ggL_law_X7_shows : GoodIn wsL_law wsX7_shows := goodIn_c 803 rfl rfl (goodIn_app (goodIn_app (ghL_X7_shows_1) (ghL_X7_shows_2)) (inL_wsX70))
set_option maxRecDepth 20000 in
theorem ghL_X6_sum_1 : GoodIn wsL_law wsX6_sum_r1 := goodIn_c 15 rfl rfl (goodIn_c 573 rfl rfl (goodIn_c 31 rfl rfl (goodIn_c 658 rfl rfl (goodIn_c 669 rfl rfl (goodIn_c 221 rfl rfl (goodIn_c 222 rfl rfl (goodIn_c 223 rfl rfl (goodIn_c 14 rfl rfl (goodIn_c 224 rfl rfl (goodIn_c 47 rfl rfl (goodIn_c 251 rfl rfl (goodIn_c 252 rfl rfl (goodIn_c 2 rfl rfl (goodIn_c 253 rfl rfl (goodIn_c 828 rfl rfl (goodIn_c 631 rfl rfl (goodIn_c 632 rfl rfl (goodIn_c 633 rfl rfl (goodIn_c 46 rfl rfl (goodIn_c 322 rfl rfl (goodIn_c 226 rfl rfl (goodIn_c 227 rfl rfl (goodIn_c 228 rfl rfl (goodIn_nil))))))))))))))))))))))))
set_option maxRecDepth 20000 in
theorem ghL_X6_sum_2 : GoodIn wsL_law wsX6_sum_r2 := goodIn_c 45 rfl rfl (goodIn_c 577 rfl rfl (goodIn_c 578 rfl rfl (goodIn_c 579 rfl rfl (goodIn_c 580 rfl rfl (goodIn_c 327 rfl rfl (goodIn_c 328 rfl rfl (goodIn_c 329 rfl rfl (goodIn_c 330 rfl rfl (goodIn_c 331 rfl rfl (goodIn_c 332 rfl rfl (goodIn_nil)))))))))))
set_option maxRecDepth 20000 in
theorem ggL_law_X6_sum : GoodIn wsL_law wsX6_sum := goodIn_c 827 rfl rfl (goodIn_app (goodIn_app (goodIn_app (goodIn_app (ghL_X6_sum_1) (ghL_X6_sum_2)) (inL_wsX60)) (inL_wsX10)) (inL_wsX20))
set_option maxRecDepth 20000 in
theorem ggL_law_X7_sum : GoodIn wsL_law wsX7_sum := goodIn_c 832 rfl rfl (goodIn_app (goodIn_c 585 rfl rfl (goodIn_c 110 rfl rfl (goodIn_c 233 rfl rfl (goodIn_c 234 rfl rfl (goodIn_c 235 rfl rfl (goodIn_c 5 rfl rfl (goodIn_c 236 rfl rfl (goodIn_c 215 rfl rfl (goodIn_c 152 rfl rfl (goodIn_c 153 rfl rfl (goodIn_c 154 rfl rfl (goodIn_c 755 rfl rfl (goodIn_c 756 rfl rfl (goodIn_c 757 rfl rfl (goodIn_c 758 rfl rfl (goodIn_c 125 rfl rfl (goodIn_c 105 rfl rfl (goodIn_c 109 rfl rfl (goodIn_c 587 rfl rfl (goodIn_c 588 rfl rfl (goodIn_c 589 rfl rfl (goodIn_c 590 rfl rfl (goodIn_c 591 rfl rfl (goodIn_c 592 rfl rfl (goodIn_nil))))))))))))))))))))))))) (inL_wsX70))
set_option maxRecDepth 20000 in
theorem ghL_X6_count_1 : GoodIn wsL_law wsX6_count_r1 := goodIn_c 15 rfl rfl (goodIn_c 837 rfl rfl (goodIn_c 838 rfl rfl (goodIn_c 32 rfl rfl (goodIn_c 130 rfl rfl (goodIn_c 839 rfl rfl (goodIn_c 611 rfl rfl (goodIn_c 612 rfl rfl (goodIn_c 14 rfl rfl (goodIn_c 613 rfl rfl (goodIn_c 47 rfl rfl (goodIn_c 44 rfl rfl (goodIn_c 840 rfl rfl (goodIn_c 636 rfl rfl (goodIn_c 637 rfl rfl (goodIn_c 638 rfl rfl (goodIn_c 639 rfl rfl (goodIn_c 640 rfl rfl (goodIn_c 641 rfl rfl (goodIn_c 841 rfl rfl (goodIn_c 842 rfl rfl (goodIn_c 843 rfl rfl (goodIn_c 844 rfl rfl (goodIn_c 46 rfl rfl (goodIn_nil))))))))))))))))))))))))
set_option maxRecDepth 20000 in
theorem ghL_X6_count_2 : GoodIn wsL_law wsX6_count_r2 := goodIn_c 37 rfl rfl (goodIn_nil)
set_option maxRecDepth 20000 in
theorem ggL_law_X6_count : GoodIn wsL_law wsX6_count := goodIn_c 836 rfl rfl (goodIn_app (goodIn_app (goodIn_app (ghL_X6_count_1) (ghL_X6_count_2)) (inL_wsX60)) (inL_wsX20))
set_option maxRecDepth 20000 in
theorem ggL_law_X7_count : GoodIn wsL_law wsX7_count := goodIn_c 848 rfl rfl (goodIn_app (goodIn_c 125 rfl rfl (goodIn_c 215 rfl rfl (goodIn_c 482 rfl rfl (goodIn_c 149 rfl rfl (goodIn_c 495 rfl rfl (goodIn_c 496 rfl rfl (goodIn_c 497 rfl rfl (goodIn_c 5 rfl rfl (goodIn_c 498 rfl rfl (goodIn_c 104 rfl rfl (goodIn_c 650 rfl rfl (goodIn_c 651 rfl rfl (goodIn_c 652 rfl rfl (goodIn_c 849 rfl rfl (goodIn_c 850 rfl rfl (goodIn_c 851 rfl rfl (goodIn_c 852 rfl rfl (goodIn_c 97 rfl rfl (goodIn_nil))))))))))))))))))) (inL_wsX70))
set_option maxRecDepth 20000 in
theorem gL_law_X6_put : GoodIn wsL_law (wsV RL 83 RX6 yX6_put wsX6_put) := goodIn_app (goodIn_of _ (by decide +kernel)) ggL_law_X6_put
set_option maxRecDepth 20000 in
theorem gL_law_X7_put : GoodIn wsL_law (wsV RL 86 RX7 yX7_put wsX7_put) := goodIn_app (goodIn_of _ (by decide +kernel)) ggL_law_X7_put
set_option maxRecDepth 20000 in
theorem gL_law_X6_over : GoodIn wsL_law (wsV RL 87 RX6 yX6_over wsX6_over) := goodIn_app (goodIn_of _ (by decide +kernel)) ggL_law_X6_over
set_option maxRecDepth 20000 in
theorem gL_law_X7_over : GoodIn wsL_law (wsV RL 90 RX7 yX7_over wsX7_over) := goodIn_app (goodIn_of _ (by decide +kernel)) ggL_law_X7_over
set_option maxRecDepth 20000 in
theorem gL_law_X6_take : GoodIn wsL_law (wsV RL 91 RX6 yX6_take wsX6_take) := goodIn_app (goodIn_of _ (by decide +kernel)) ggL_law_X6_take
set_option maxRecDepth 20000 in
theorem gL_law_X7_take : GoodIn wsL_law (wsV RL 95 RX7 yX7_take wsX7_take) := goodIn_app (goodIn_of _ (by decide +kernel)) ggL_law_X7_take
set_option maxRecDepth 20000 in
theorem gL_law_X6_price : GoodIn wsL_law (wsV RL 96 RX6 yX6_price wsX6_price) := goodIn_app (goodIn_of _ (by decide +kernel)) ggL_law_X6_price
set_option maxRecDepth 20000 in
theorem gL_law_X7_price : GoodIn wsL_law (wsV RL 99 RX7 yX7_price wsX7_price) := goodIn_app (goodIn_of _ (by decide +kernel)) ggL_law_X7_price
set_option maxRecDepth 20000 in
theorem gL_law_X6_pricesOver : GoodIn wsL_law (wsV RL 100 RX6 yX6_pricesOver wsX6_pricesOver) := goodIn_app (goodIn_of _ (by decide +kernel)) ggL_law_X6_pricesOver
set_option maxRecDepth 20000 in
theorem gL_law_X7_pricesOver : GoodIn wsL_law (wsV RL 103 RX7 yX7_pricesOver wsX7_pricesOver) := goodIn_app (goodIn_of _ (by decide +kernel)) ggL_law_X7_pricesOver
set_option maxRecDepth 20000 in
theorem gL_law_X6_check : GoodIn wsL_law (wsV RL 104 RX6 yX6_check wsX6_check) := goodIn_app (goodIn_of _ (by decide +kernel)) ggL_law_X6_check
set_option maxRecDepth 20000 in
theorem gL_law_X7_check : GoodIn wsL_law (wsV RL 107 RX7 yX7_check wsX7_check) := goodIn_app (goodIn_of _ (by decide +kernel)) ggL_law_X7_check
set_option maxRecDepth 20000 in
theorem gL_law_X6_shows : GoodIn wsL_law (wsV RL 108 RX6 yX6_shows wsX6_shows) := goodIn_app (goodIn_of _ (by decide +kernel)) ggL_law_X6_shows
set_option maxRecDepth 20000 in
theorem gL_law_X7_shows : GoodIn wsL_law (wsV RL 111 RX7 yX7_shows wsX7_shows) := goodIn_app (goodIn_of _ (by decide +kernel)) ggL_law_X7_shows
set_option maxRecDepth 20000 in
theorem gL_law_X6_sum : GoodIn wsL_law (wsV RL 112 RX6 yX6_sum wsX6_sum) := goodIn_app (goodIn_of _ (by decide +kernel)) ggL_law_X6_sum
set_option maxRecDepth 20000 in
theorem gL_law_X7_sum : GoodIn wsL_law (wsV RL 115 RX7 yX7_sum wsX7_sum) := goodIn_app (goodIn_of _ (by decide +kernel)) ggL_law_X7_sum
set_option maxRecDepth 20000 in
theorem gL_law_X6_count : GoodIn wsL_law (wsV RL 116 RX6 yX6_count wsX6_count) := goodIn_app (goodIn_of _ (by decide +kernel)) ggL_law_X6_count
set_option maxRecDepth 20000 in
theorem gL_law_X7_count : GoodIn wsL_law (wsV RL 119 RX7 yX7_count wsX7_count) := goodIn_app (goodIn_of _ (by decide +kernel)) ggL_law_X7_count
