set_option maxRecDepth 20000 in
theorem ggL_law_X5_drift : GoodIn wsL_law wsX5_drift := goodIn_r _ [654, 102, 15, 655, 656, 657, 2, 658, 32, 659, 660, 661, 502, 503, 504, 505, 27, 33, 506, 507, 508, 26, 509, 74, 75, 76, 510, 172, 169, 173, 511, 512, 513, 14, 514, 38, 515, 516, 517, 518, 40, 393, 394, 395, 396, 212, 128, 129, 130, 397, 398, 399, 400, 401, 103, 104, 105, 106, 107, 108, 109, 110, 111, 112, 113, 776, 777, 778, 779, 780, 781, 782, 825, 826, 827, 800, 801, 802] (by decide +kernel) (by decide +kernel)
set_option maxRecDepth 20000 in
theorem gL_law_X5_drift : GoodIn wsL_law (wsV RL 73 RX5 yX5_drift wsX5_drift) := goodIn_app (goodIn_of _ (by decide +kernel)) ggL_law_X5_drift
set_option maxRecDepth 20000 in
theorem ggL_law_X6_drift : GoodIn wsL_law wsX6_drift := goodIn_r _ [665, 291, 87, 309, 310, 5, 311, 666, 667, 668, 669, 670, 671, 672, 673, 674, 538, 539, 540, 541, 525, 526, 527, 528, 94, 529, 290, 312, 313, 314, 315, 316, 317, 318, 783, 784, 785, 786, 787, 788, 789, 790, 791, 792, 793, 794, 795, 796, 797, 798, 799] (by decide +kernel) (by decide +kernel)
set_option maxRecDepth 20000 in
theorem gL_law_X6_drift : GoodIn wsL_law (wsV RL 76 RX6 yX6_drift wsX6_drift) := goodIn_app (goodIn_of _ (by decide +kernel)) ggL_law_X6_drift
set_option maxRecDepth 20000 in
theorem ggL_law_X5_undo : GoodIn wsL_law wsX5_undo := goodIn_r _ [678, 102, 27, 645, 15, 33, 679, 680, 681, 26, 682, 75, 76, 74, 683, 684, 685, 686, 687, 688, 689, 14, 690, 38, 515, 516, 517, 518, 40, 103, 104, 105, 106, 107, 108, 109, 110, 111, 112, 113, 776, 777, 778, 779, 780, 781, 782, 825, 826, 827, 800, 801, 802] (by decide +kernel) (by decide +kernel)
set_option maxRecDepth 20000 in
theorem gL_law_X5_undo : GoodIn wsL_law (wsV RL 77 RX5 yX5_undo wsX5_undo) := goodIn_app (goodIn_of _ (by decide +kernel)) ggL_law_X5_undo
set_option maxRecDepth 20000 in
theorem ggL_law_X6_undo : GoodIn wsL_law wsX6_undo := goodIn_r _ [694, 291, 290, 650, 529, 87, 94, 309, 310, 5, 311, 312, 313, 314, 315, 316, 317, 318, 783, 784, 785, 786, 787, 788, 789, 790, 791, 792, 793, 794, 795, 796, 797, 798, 799] (by decide +kernel) (by decide +kernel)
set_option maxRecDepth 20000 in
theorem gL_law_X6_undo : GoodIn wsL_law (wsV RL 80 RX6 yX6_undo wsX6_undo) := goodIn_app (goodIn_of _ (by decide +kernel)) ggL_law_X6_undo
set_option maxRecDepth 20000 in
theorem ggL_law_X5_alike : GoodIn wsL_law wsX5_alike := goodIn_r _ [698, 361, 114, 115, 116, 2, 117, 33, 19, 15, 118, 119, 120, 18, 121, 45, 57, 58, 59, 122, 123, 124, 22, 125, 70, 63, 64, 126, 127, 128, 129, 14, 130, 38, 131, 132, 133, 134, 135, 136, 137, 138, 67, 65, 66, 68, 69, 139, 140, 141, 142, 40, 143, 144, 145, 146, 147, 148, 149, 150, 151, 152, 153, 154, 155, 156, 157, 158, 159, 160, 161, 162, 163, 164, 165, 166, 167, 168, 169, 170, 171, 172, 173, 174, 175, 176, 177, 178, 179, 180, 181, 182, 183, 184, 185, 186, 187, 188, 189, 46, 47, 48, 49, 190, 50, 191, 52, 192, 193, 194, 195, 196, 197, 198, 199, 200, 201, 202, 203, 204, 205, 206, 207, 208, 209, 210, 211, 212, 107, 108, 109, 110, 111, 112, 113, 213, 214, 215, 216, 53, 54, 55, 426, 427, 428, 429, 430, 229, 230, 231, 699, 700, 701, 702, 279, 280, 281, 282, 703, 704, 705, 706, 707, 708, 709, 710, 776, 777, 778, 779, 780, 781, 782, 803, 804, 805, 806, 807, 808, 809, 810, 811, 812, 813, 814, 815, 816, 817, 818, 819, 820, 821, 822, 823, 824, 800, 801, 802] (by decide +kernel) (by decide +kernel)
set_option maxRecDepth 20000 in
theorem gL_law_X5_alike : GoodIn wsL_law (wsV RL 81 RX5 yX5_alike wsX5_alike) := goodIn_app (goodIn_of _ (by decide +kernel)) ggL_law_X5_alike
set_option maxRecDepth 20000 in
theorem ggL_law_X6_alike : GoodIn wsL_law wsX6_alike := goodIn_r _ [714, 87, 287, 369, 91, 292, 293, 294, 5, 295, 289, 288, 89, 92, 93, 296, 297, 298, 299, 300, 301, 302, 303, 304, 305, 90, 306, 307, 308, 309, 310, 311, 349, 350, 351, 352, 353, 354, 355, 356, 783, 784, 785, 786, 787, 788, 789, 790, 791, 792, 793, 794, 795, 796, 797, 798, 799] (by decide +kernel) (by decide +kernel)
set_option maxRecDepth 20000 in
theorem gL_law_X6_alike : GoodIn wsL_law (wsV RL 84 RX6 yX6_alike wsX6_alike) := goodIn_app (goodIn_of _ (by decide +kernel)) ggL_law_X6_alike
