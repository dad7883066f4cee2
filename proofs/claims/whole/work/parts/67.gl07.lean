set_option maxRecDepth 20000 in
theorem ggL_law_X5_goBack : GoodIn wsL_law wsX5_goBack := goodIn_r _ [758, 361, 31, 645, 15, 32, 27, 33, 739, 740, 2, 741, 759, 760, 761, 30, 762, 82, 763, 764, 765, 766, 80, 767, 688, 689, 14, 690, 38, 515, 516, 517, 518, 40, 768, 769, 770, 771, 81, 747, 748, 749, 26, 750, 76, 776, 777, 778, 779, 780, 781, 782, 828, 829, 830, 800, 801, 802, 825, 826, 827] (by decide +kernel) (by decide +kernel)
set_option maxRecDepth 20000 in
theorem gL_law_X5_goBack : GoodIn wsL_law (wsV RL 97 RX5 yX5_goBack wsX5_goBack) := goodIn_app (goodIn_of _ (by decide +kernel)) ggL_law_X5_goBack
set_option maxRecDepth 20000 in
theorem ggL_law_X6_goBack : GoodIn wsL_law wsX6_goBack := goodIn_r _ [775, 369, 95, 650, 97, 670, 87, 96, 290, 309, 310, 5, 311, 783, 784, 785, 786, 787, 788, 789, 790, 791, 792, 793, 794, 795, 796, 797, 798, 799] (by decide +kernel) (by decide +kernel)
set_option maxRecDepth 20000 in
theorem gL_law_X6_goBack : GoodIn wsL_law (wsV RL 100 RX6 yX6_goBack wsX6_goBack) := goodIn_app (goodIn_of _ (by decide +kernel)) ggL_law_X6_goBack
