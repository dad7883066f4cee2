set_option maxRecDepth 20000 in
theorem inL_wsL_law_r8 : ∀ w ∈ wsL_law_r8, w ∈ lw_tbl := in_ps _ [293, 51, 294, 295, 296, 297, 288, 290, 6, 291, 298, 300, 7, 301, 302, 303, 304, 305, 306, 308, 8, 309, 331, 332] (by decide +kernel)
set_option maxRecDepth 20000 in
theorem inL_wsL_law_r9 : ∀ w ∈ wsL_law_r9, w ∈ lw_tbl := in_ps _ [310, 311, 312, 313, 314, 315, 316, 317, 319, 9, 320, 321, 322, 323, 324, 325, 326, 327, 328, 329, 330, 333, 335, 10] (by decide +kernel)
set_option maxRecDepth 20000 in
theorem inL_wsL_law_r10 : ∀ w ∈ wsL_law_r10, w ∈ lw_tbl := in_ps _ [336, 337, 338, 339, 340, 342, 343, 344, 345, 346, 347, 348, 349, 350, 351, 352, 353, 354, 355, 356, 357, 358, 359, 360] (by decide +kernel)
set_option maxRecDepth 20000 in
theorem inL_wsL_law_r11 : ∀ w ∈ wsL_law_r11, w ∈ lw_tbl := in_ps _ [361, 362, 363, 364, 365, 366, 367, 368, 369, 370, 371, 372, 373, 375, 11, 376, 378, 379, 380, 381, 382, 383, 384, 385] (by decide +kernel)
set_option maxRecDepth 20000 in
theorem inL_wsL_law_r12 : ∀ w ∈ wsL_law_r12, w ∈ lw_tbl := in_ps _ [386, 387, 388, 389, 390, 391, 392, 393, 394, 395, 396, 397, 398, 399, 400, 401, 402, 403, 404, 742, 743, 744, 745, 695] (by decide +kernel)
set_option maxRecDepth 20000 in
theorem inL_wsL_law_r13 : ∀ w ∈ wsL_law_r13, w ∈ lw_tbl := in_ps _ [697, 696, 701, 811, 746, 748, 19, 749, 750, 751, 752, 753, 754, 755, 756, 758, 20, 759, 760, 761, 762, 763, 764, 765] (by decide +kernel)
set_option maxRecDepth 20000 in
theorem inL_wsL_law_r14 : ∀ w ∈ wsL_law_r14, w ∈ lw_tbl := in_ps _ [766, 768, 21, 769, 770, 771, 772, 773, 774, 775, 776, 778, 22, 779, 780, 781, 782, 783, 785, 23, 786, 787, 789, 24] (by decide +kernel)
