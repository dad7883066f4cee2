set_option maxRecDepth 20000 in
theorem ggL_law_X5_fill : GoodIn wsL_law wsX5_fill := goodIn_r _ [566, 361, 114, 115, 116, 2, 117, 33, 19, 15, 118, 119, 120, 18, 121, 45, 57, 58, 59, 122, 123, 124, 22, 125, 70, 63, 64, 126, 127, 128, 129, 14, 130, 38, 131, 132, 133, 134, 135, 136, 137, 138, 67, 65, 66, 68, 69, 139, 140, 141, 142, 40, 143, 144, 145, 146, 147, 148, 149, 150, 151, 152, 153, 154, 155, 156, 157, 158, 159, 160, 161, 162, 163, 164, 165, 166, 167, 168, 169, 170, 171, 172, 173, 174, 175, 176, 177, 178, 179, 180, 181, 182, 183, 184, 185, 186, 187, 188, 189, 46, 47, 48, 49, 190, 50, 191, 52, 192, 193, 194, 195, 196, 197, 198, 199, 200, 201, 202, 203, 204, 205, 206, 207, 208, 209, 210, 211, 212, 107, 108, 109, 110, 111, 112, 113, 213, 214, 215, 216, 53, 54, 55, 479, 480, 481, 482, 483, 268, 269, 270, 546, 547, 548, 549, 502, 503, 504, 505, 27, 506, 507, 508, 26, 509, 74, 75, 76, 510, 511, 512, 513, 514, 515, 516, 517, 518, 550, 551, 552, 553, 554, 394, 395, 396, 397, 398, 399, 400, 401, 431, 280, 281, 282, 776, 777, 778, 779, 780, 781, 782, 803, 804, 805, 806, 807, 808, 809, 810, 811, 812, 813, 814, 815, 816, 817, 818, 819, 820, 821, 822, 823, 824, 800, 801, 802, 825, 826, 827] (by decide +kernel) (by decide +kernel)
set_option maxRecDepth 20000 in
theorem gL_law_X5_fill : GoodIn wsL_law (wsV RL 48 RX5 yX5_fill wsX5_fill) := goodIn_app (goodIn_of _ (by decide +kernel)) ggL_law_X5_fill
set_option maxRecDepth 20000 in
theorem ggL_law_X6_fill : GoodIn wsL_law wsX6_fill := goodIn_r _ [570, 87, 288, 369, 292, 293, 294, 5, 295, 287, 289, 89, 91, 92, 93, 296, 297, 298, 299, 300, 301, 302, 303, 304, 305, 90, 306, 307, 308, 309, 310, 311, 341, 342, 343, 344, 559, 560, 561, 562, 88, 525, 526, 527, 528, 94, 529, 290, 415, 416, 417, 353, 354, 355, 356, 783, 784, 785, 786, 787, 788, 789, 790, 791, 792, 793, 794, 795, 796, 797, 798, 799] (by decide +kernel) (by decide +kernel)
set_option maxRecDepth 20000 in
theorem gL_law_X6_fill : GoodIn wsL_law (wsV RL 51 RX6 yX6_fill wsX6_fill) := goodIn_app (goodIn_of _ (by decide +kernel)) ggL_law_X6_fill
set_option maxRecDepth 20000 in
theorem ggL_law_X5_grow : GoodIn wsL_law wsX5_grow := goodIn_r _ [574, 15, 502, 503, 504, 2, 505, 27, 33, 506, 507, 508, 26, 509, 74, 75, 76, 510, 172, 169, 173, 511, 512, 513, 14, 514, 38, 515, 516, 517, 518, 40, 103, 104, 105, 106, 107, 108, 109, 110, 111, 112, 113, 575, 576, 577, 578, 39, 212, 128, 129, 130, 579, 140, 141, 142, 580, 581, 582, 401, 583, 584, 585, 586, 776, 777, 778, 779, 780, 781, 782, 825, 826, 827, 800, 801, 802] (by decide +kernel) (by decide +kernel)
set_option maxRecDepth 20000 in
theorem gL_law_X5_grow : GoodIn wsL_law (wsV RL 52 RX5 yX5_grow wsX5_grow) := goodIn_app (goodIn_of _ (by decide +kernel)) ggL_law_X5_grow
set_option maxRecDepth 20000 in
theorem ggL_law_X6_grow : GoodIn wsL_law wsX6_grow := goodIn_r _ [590, 591, 592, 593, 5, 594, 87, 88, 525, 526, 527, 528, 94, 529, 290, 415, 416, 417, 296, 297, 298, 299, 300, 301, 595, 596, 597, 598, 306, 307, 308, 309, 310, 311, 783, 784, 785, 786, 787, 788, 789, 790, 791, 792, 793, 794, 795, 796, 797, 798, 799] (by decide +kernel) (by decide +kernel)
set_option maxRecDepth 20000 in
theorem gL_law_X6_grow : GoodIn wsL_law (wsV RL 56 RX6 yX6_grow wsX6_grow) := goodIn_app (goodIn_of _ (by decide +kernel)) ggL_law_X6_grow
set_option maxRecDepth 20000 in
theorem ggL_law_X5_shrink : GoodIn wsL_law wsX5_shrink := goodIn_r _ [602, 15, 502, 503, 504, 2, 505, 27, 33, 506, 507, 508, 26, 509, 74, 75, 76, 510, 172, 169, 173, 511, 512, 513, 14, 514, 38, 515, 516, 517, 518, 40, 103, 104, 105, 106, 107, 108, 109, 110, 111, 112, 113, 603, 604, 605, 606, 39, 212, 128, 129, 130, 579, 140, 141, 142, 607, 608, 609, 583, 584, 585, 586, 776, 777, 778, 779, 780, 781, 782, 825, 826, 827, 800, 801, 802] (by decide +kernel) (by decide +kernel)
set_option maxRecDepth 20000 in
theorem gL_law_X5_shrink : GoodIn wsL_law (wsV RL 57 RX5 yX5_shrink wsX5_shrink) := goodIn_app (goodIn_of _ (by decide +kernel)) ggL_law_X5_shrink
set_option maxRecDepth 20000 in
theorem ggL_law_X6_shrink : GoodIn wsL_law wsX6_shrink := goodIn_r _ [613, 591, 592, 593, 5, 594, 87, 88, 525, 526, 527, 528, 94, 529, 290, 415, 416, 417, 296, 297, 298, 299, 300, 301, 595, 596, 597, 598, 306, 307, 308, 309, 310, 311, 783, 784, 785, 786, 787, 788, 789, 790, 791, 792, 793, 794, 795, 796, 797, 798, 799] (by decide +kernel) (by decide +kernel)
set_option maxRecDepth 20000 in
theorem gL_law_X6_shrink : GoodIn wsL_law (wsV RL 60 RX6 yX6_shrink wsX6_shrink) := goodIn_app (goodIn_of _ (by decide +kernel)) ggL_law_X6_shrink
