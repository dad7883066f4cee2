set_option maxRecDepth 20000 in
theorem ggL_law_X5_small : GoodIn wsL_law wsX5_small := goodIn_r _ [718, 102, 114, 115, 116, 2, 117, 33, 19, 15, 118, 119, 120, 18, 121, 45, 57, 58, 59, 122, 123, 124, 22, 125, 70, 63, 64, 126, 127, 128, 129, 14, 130, 38, 131, 132, 133, 134, 135, 136, 137, 138, 67, 65, 66, 68, 69, 139, 140, 141, 142, 40, 143, 144, 145, 146, 147, 148, 149, 150, 151, 152, 153, 154, 155, 156, 157, 158, 159, 160, 161, 162, 163, 164, 165, 166, 167, 168, 169, 170, 171, 172, 173, 174, 175, 176, 177, 178, 179, 180, 181, 182, 183, 184, 185, 186, 187, 188, 189, 46, 47, 48, 49, 190, 50, 191, 52, 192, 193, 194, 195, 196, 197, 198, 199, 200, 201, 202, 203, 204, 205, 206, 207, 208, 209, 210, 211, 212, 107, 108, 109, 110, 111, 112, 113, 213, 214, 215, 216, 53, 54, 55, 719, 720, 721, 722, 228, 229, 230, 231, 279, 280, 281, 282, 776, 777, 778, 779, 780, 781, 782, 803, 804, 805, 806, 807, 808, 809, 810, 811, 812, 813, 814, 815, 816, 817, 818, 819, 820, 821, 822, 823, 824, 800, 801, 802] (by decide +kernel) (by decide +kernel)
set_option maxRecDepth 20000 in
theorem gL_law_X5_small : GoodIn wsL_law (wsV RL 85 RX5 yX5_small wsX5_small) := goodIn_app (goodIn_of _ (by decide +kernel)) ggL_law_X5_small
set_option maxRecDepth 20000 in
theorem ggL_law_X6_small : GoodIn wsL_law wsX6_small := goodIn_r _ [726, 291, 87, 287, 309, 310, 5, 311, 292, 293, 294, 295, 289, 288, 89, 91, 92, 93, 296, 297, 298, 299, 300, 301, 302, 303, 304, 305, 90, 306, 307, 308, 349, 350, 351, 352, 353, 354, 355, 356, 783, 784, 785, 786, 787, 788, 789, 790, 791, 792, 793, 794, 795, 796, 797, 798, 799] (by decide +kernel) (by decide +kernel)
set_option maxRecDepth 20000 in
theorem gL_law_X6_small : GoodIn wsL_law (wsV RL 88 RX6 yX6_small wsX6_small) := goodIn_app (goodIn_of _ (by decide +kernel)) ggL_law_X6_small
set_option maxRecDepth 20000 in
theorem ggL_law_X5_seed : GoodIn wsL_law wsX5_seed := goodIn_r _ [730, 102, 32, 776, 777, 778, 779, 780, 781, 782] (by decide +kernel) (by decide +kernel)
set_option maxRecDepth 20000 in
theorem gL_law_X5_seed : GoodIn wsL_law (wsV RL 89 RX5 yX5_seed wsX5_seed) := goodIn_app (goodIn_of _ (by decide +kernel)) ggL_law_X5_seed
set_option maxRecDepth 20000 in
theorem ggL_law_X6_seed : GoodIn wsL_law wsX6_seed := goodIn_r _ [734, 291, 670, 783, 784, 785, 786, 787, 788, 789, 790, 791, 792, 793, 794, 795, 796, 797, 798, 799] (by decide +kernel) (by decide +kernel)
set_option maxRecDepth 20000 in
theorem gL_law_X6_seed : GoodIn wsL_law (wsV RL 92 RX6 yX6_seed wsX6_seed) := goodIn_app (goodIn_of _ (by decide +kernel)) ggL_law_X6_seed
set_option maxRecDepth 20000 in
theorem ggL_law_X5_keep : GoodIn wsL_law wsX5_keep := goodIn_r _ [738, 361, 31, 15, 32, 27, 739, 740, 2, 741, 742, 743, 744, 30, 745, 80, 81, 82, 746, 512, 513, 14, 514, 38, 515, 516, 517, 518, 40, 747, 748, 749, 26, 750, 76, 776, 777, 778, 779, 780, 781, 782, 828, 829, 830, 800, 801, 802, 825, 826, 827] (by decide +kernel) (by decide +kernel)
set_option maxRecDepth 20000 in
theorem gL_law_X5_keep : GoodIn wsL_law (wsV RL 93 RX5 yX5_keep wsX5_keep) := goodIn_app (goodIn_of _ (by decide +kernel)) ggL_law_X5_keep
set_option maxRecDepth 20000 in
theorem ggL_law_X6_keep : GoodIn wsL_law wsX6_keep := goodIn_r _ [754, 369, 95, 97, 670, 96, 87, 290, 309, 310, 5, 311, 783, 784, 785, 786, 787, 788, 789, 790, 791, 792, 793, 794, 795, 796, 797, 798, 799] (by decide +kernel) (by decide +kernel)
set_option maxRecDepth 20000 in
theorem gL_law_X6_keep : GoodIn wsL_law (wsV RL 96 RX6 yX6_keep wsX6_keep) := goodIn_app (goodIn_of _ (by decide +kernel)) ggL_law_X6_keep
