set_option maxRecDepth 20000 in
theorem inL_wsL_law_r29 : ∀ w ∈ wsL_law_r29, w ∈ lw_tbl := in_ps _ [923, 924, 925, 607, 608, 609, 610, 611, 612, 613, 614, 615, 616, 51, 617, 618, 619, 620, 621, 926, 927, 928, 929, 622] (by decide +kernel)
set_option maxRecDepth 20000 in
theorem inL_wsL_law_r30 : ∀ w ∈ wsL_law_r30, w ∈ lw_tbl := in_ps _ [623, 624, 625, 626, 627, 628, 629, 630, 631, 632, 633, 634, 636, 18, 637, 930, 931, 932, 933, 638, 639, 640, 641, 642] (by decide +kernel)
set_option maxRecDepth 20000 in
theorem inL_wsL_law_r31 : ∀ w ∈ wsL_law_r31, w ∈ lw_tbl := in_ps _ [643, 644, 645, 934, 935, 936, 937, 646, 647, 648, 649, 938, 939, 940, 941, 650, 651, 652, 653, 654, 655, 656, 657, 658] (by decide +kernel)
set_option maxRecDepth 20000 in
theorem inL_wsL_law_r32 : ∀ w ∈ wsL_law_r32, w ∈ lw_tbl := in_ps _ [659, 660, 662, 663, 664, 665, 666, 942, 943, 944, 945, 667, 668, 669, 670, 671, 672, 673, 674, 675, 676, 677, 678, 679] (by decide +kernel)
set_option maxRecDepth 20000 in
theorem inL_wsL_law_r33 : ∀ w ∈ wsL_law_r33, w ∈ lw_tbl := in_ps _ [680, 681, 682, 683, 946, 947, 948, 949] (by decide +kernel)
set_option maxRecDepth 20000 in
theorem inL_wsX00 : ∀ w ∈ wsX00, w ∈ lw_tbl := in_ps _ [192, 194, 196] (by decide +kernel)
set_option maxRecDepth 20000 in
theorem inL_wsX10 : ∀ w ∈ wsX10, w ∈ lw_tbl := in_ps _ [135, 137, 139, 141, 143, 145, 147, 149, 151, 153, 155, 157, 159, 161] (by decide +kernel)
