set_option maxRecDepth 20000 in
theorem inL_wsL_law_r15 : ∀ w ∈ wsL_law_r15, w ∈ lw_tbl := in_ps _ [790, 791, 793, 25, 794, 795, 797, 26, 798, 799, 801, 27, 802, 803, 805, 28, 806, 807, 809, 29, 810, 406, 407, 408] (by decide +kernel)
set_option maxRecDepth 20000 in
theorem inL_wsL_law_r16 : ∀ w ∈ wsL_law_r16, w ∈ lw_tbl := in_ps _ [409, 411, 410, 412, 413, 812, 813, 814, 815, 816, 414, 415, 416, 417, 418, 419, 420, 421, 422, 423, 424, 425, 426, 427] (by decide +kernel)
set_option maxRecDepth 20000 in
theorem inL_wsL_law_r17 : ∀ w ∈ wsL_law_r17, w ∈ lw_tbl := in_ps _ [428, 429, 431, 12, 432, 433, 435, 13, 436, 437, 438, 439, 440, 441, 442, 443, 444, 445, 446, 447, 448, 449, 450, 817] (by decide +kernel)
set_option maxRecDepth 20000 in
theorem inL_wsL_law_r18 : ∀ w ∈ wsL_law_r18, w ∈ lw_tbl := in_ps _ [818, 819, 820, 821, 823, 30, 824, 825, 826, 827, 828, 830, 31, 831, 451, 452, 453, 454, 455, 456, 457, 458, 459, 460] (by decide +kernel)
set_option maxRecDepth 20000 in
theorem inL_wsL_law_r19 : ∀ w ∈ wsL_law_r19, w ∈ lw_tbl := in_ps _ [461, 462, 463, 464, 465, 466, 467, 468, 469, 470, 471, 472, 473, 474, 475, 476, 477, 478, 479, 480, 481, 482, 483, 484] (by decide +kernel)
set_option maxRecDepth 20000 in
theorem inL_wsL_law_r20 : ∀ w ∈ wsL_law_r20, w ∈ lw_tbl := in_ps _ [485, 486, 487, 832, 833, 834, 835, 836, 838, 32, 839, 840, 842, 33, 843, 844, 846, 34, 847, 488, 489, 490, 491, 492] (by decide +kernel)
set_option maxRecDepth 20000 in
theorem inL_wsL_law_r21 : ∀ w ∈ wsL_law_r21, w ∈ lw_tbl := in_ps _ [493, 494, 495, 496, 497, 498, 499, 500, 501, 848, 849, 850, 851, 852, 854, 35, 855, 502, 503, 504, 505, 506, 507, 509] (by decide +kernel)
