set_option maxRecDepth 20000 in
theorem ggL_law_X5_move : GoodIn wsL_law wsX5_move := goodIn_r _ [617, 102, 15, 502, 503, 504, 2, 505, 27, 33, 506, 507, 508, 26, 509, 74, 75, 76, 510, 172, 169, 173, 511, 512, 513, 14, 514, 38, 515, 516, 517, 518, 40, 618, 619, 620, 621, 39, 212, 128, 129, 130, 622, 623, 624, 401, 583, 584, 585, 586, 103, 104, 105, 106, 107, 108, 109, 110, 111, 112, 113, 776, 777, 778, 779, 780, 781, 782, 825, 826, 827, 800, 801, 802] (by decide +kernel) (by decide +kernel)
set_option maxRecDepth 20000 in
theorem gL_law_X5_move : GoodIn wsL_law (wsV RL 61 RX5 yX5_move wsX5_move) := goodIn_app (goodIn_of _ (by decide +kernel)) ggL_law_X5_move
set_option maxRecDepth 20000 in
theorem ggL_law_X6_move : GoodIn wsL_law wsX6_move := goodIn_r _ [628, 291, 87, 88, 524, 309, 310, 5, 311, 525, 526, 527, 528, 94, 529, 290, 415, 416, 417, 312, 313, 314, 315, 316, 317, 318, 783, 784, 785, 786, 787, 788, 789, 790, 791, 792, 793, 794, 795, 796, 797, 798, 799] (by decide +kernel) (by decide +kernel)
set_option maxRecDepth 20000 in
theorem gL_law_X6_move : GoodIn wsL_law (wsV RL 64 RX6 yX6_move wsX6_move) := goodIn_app (goodIn_of _ (by decide +kernel)) ggL_law_X6_move
set_option maxRecDepth 20000 in
theorem ggL_law_X5_over : GoodIn wsL_law wsX5_over := goodIn_r _ [632, 15, 502, 503, 504, 2, 505, 27, 33, 506, 507, 508, 26, 509, 74, 75, 76, 510, 172, 169, 173, 511, 512, 513, 14, 514, 38, 515, 516, 517, 518, 40, 633, 634, 635, 636, 401, 103, 104, 105, 106, 107, 108, 109, 110, 111, 112, 113, 776, 777, 778, 779, 780, 781, 782, 825, 826, 827, 800, 801, 802] (by decide +kernel) (by decide +kernel)
set_option maxRecDepth 20000 in
theorem gL_law_X5_over : GoodIn wsL_law (wsV RL 65 RX5 yX5_over wsX5_over) := goodIn_app (goodIn_of _ (by decide +kernel)) ggL_law_X5_over
set_option maxRecDepth 20000 in
theorem ggL_law_X6_over : GoodIn wsL_law wsX6_over := goodIn_r _ [640, 87, 524, 525, 526, 527, 5, 528, 94, 529, 290, 312, 313, 314, 315, 316, 317, 318, 783, 784, 785, 786, 787, 788, 789, 790, 791, 792, 793, 794, 795, 796, 797, 798, 799] (by decide +kernel) (by decide +kernel)
set_option maxRecDepth 20000 in
theorem gL_law_X6_over : GoodIn wsL_law (wsV RL 68 RX6 yX6_over wsX6_over) := goodIn_app (goodIn_of _ (by decide +kernel)) ggL_law_X6_over
set_option maxRecDepth 20000 in
theorem ggL_law_X5_mode : GoodIn wsL_law wsX5_mode := goodIn_r _ [644, 102, 15, 645, 502, 503, 504, 2, 505, 27, 33, 506, 507, 508, 26, 509, 74, 75, 76, 510, 172, 169, 173, 511, 512, 513, 14, 514, 38, 515, 516, 517, 518, 40, 114, 115, 116, 117, 19, 118, 119, 120, 18, 121, 45, 57, 58, 59, 122, 123, 124, 22, 125, 70, 63, 64, 126, 127, 128, 129, 130, 131, 132, 133, 134, 135, 136, 137, 138, 67, 65, 66, 68, 69, 139, 140, 141, 142, 143, 144, 145, 146, 147, 148, 149, 150, 151, 152, 153, 154, 155, 156, 157, 158, 159, 160, 161, 162, 163, 164, 165, 166, 167, 168, 170, 171, 174, 175, 176, 177, 178, 179, 180, 181, 182, 183, 184, 185, 186, 187, 188, 189, 46, 47, 48, 49, 190, 50, 191, 52, 192, 193, 194, 195, 196, 197, 198, 199, 200, 201, 202, 203, 204, 205, 206, 207, 208, 209, 210, 211, 212, 107, 108, 109, 110, 111, 112, 113, 213, 214, 215, 216, 53, 54, 55, 776, 777, 778, 779, 780, 781, 782, 800, 801, 802, 803, 804, 805, 806, 807, 808, 809, 810, 811, 812, 813, 814, 815, 816, 825, 826, 827, 817, 818, 819, 820, 821, 822, 823, 824] (by decide +kernel) (by decide +kernel)
set_option maxRecDepth 20000 in
theorem gL_law_X5_mode : GoodIn wsL_law (wsV RL 69 RX5 yX5_mode wsX5_mode) := goodIn_app (goodIn_of _ (by decide +kernel)) ggL_law_X5_mode
set_option maxRecDepth 20000 in
theorem ggL_law_X6_mode : GoodIn wsL_law wsX6_mode := goodIn_r _ [649, 291, 87, 650, 525, 526, 527, 5, 528, 94, 529, 290, 418, 419, 420, 421, 287, 292, 293, 294, 295, 289, 288, 89, 91, 92, 93, 296, 297, 298, 299, 300, 301, 302, 303, 304, 305, 90, 306, 307, 308, 309, 310, 311, 783, 784, 785, 786, 787, 788, 789, 790, 791, 792, 793, 794, 795, 796, 797, 798, 799] (by decide +kernel) (by decide +kernel)
set_option maxRecDepth 20000 in
theorem gL_law_X6_mode : GoodIn wsL_law (wsV RL 72 RX6 yX6_mode wsX6_mode) := goodIn_app (goodIn_of _ (by decide +kernel)) ggL_law_X6_mode
