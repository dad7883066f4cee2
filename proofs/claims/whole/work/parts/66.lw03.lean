set_option maxRecDepth 20000 in
theorem inL_wsL_law_r22 : ∀ w ∈ wsL_law_r22, w ∈ lw_tbl := in_ps _ [14, 510, 511, 512, 513, 514, 522, 515, 516, 517, 518, 519, 521, 520, 52, 523, 856, 857, 858, 859, 860, 861, 863, 36] (by decide +kernel)
set_option maxRecDepth 20000 in
theorem inL_wsL_law_r23 : ∀ w ∈ wsL_law_r23, w ∈ lw_tbl := in_ps _ [864, 702, 524, 525, 526, 527, 865, 866, 867, 868, 869, 871, 37, 872, 528, 529, 530, 531, 532, 534, 15, 535, 536, 537] (by decide +kernel)
set_option maxRecDepth 20000 in
theorem inL_wsL_law_r24 : ∀ w ∈ wsL_law_r24, w ∈ lw_tbl := in_ps _ [538, 539, 540, 873, 874, 875, 876, 877, 879, 38, 880, 541, 542, 543, 544, 881, 882, 883, 884, 545, 546, 547, 548, 549] (by decide +kernel)
set_option maxRecDepth 20000 in
theorem inL_wsL_law_r25 : ∀ w ∈ wsL_law_r25, w ∈ lw_tbl := in_ps _ [550, 551, 552, 553, 554, 555, 556, 557, 559, 16, 560, 885, 886, 887, 888, 889, 891, 39, 892, 893, 895, 40, 896, 561] (by decide +kernel)
set_option maxRecDepth 20000 in
theorem inL_wsL_law_r26 : ∀ w ∈ wsL_law_r26, w ∈ lw_tbl := in_ps _ [562, 563, 564, 565, 566, 567, 568, 569, 570, 571, 897, 898, 899, 900, 572, 573, 574, 575, 576, 577, 578, 579, 580, 581] (by decide +kernel)
set_option maxRecDepth 20000 in
theorem inL_wsL_law_r27 : ∀ w ∈ wsL_law_r27, w ∈ lw_tbl := in_ps _ [582, 901, 902, 903, 904, 583, 584, 585, 586, 587, 588, 589, 590, 905, 906, 907, 908, 591, 592, 593, 594, 595, 909, 910] (by decide +kernel)
set_option maxRecDepth 20000 in
theorem inL_wsL_law_r28 : ∀ w ∈ wsL_law_r28, w ∈ lw_tbl := in_ps _ [911, 912, 913, 596, 597, 598, 599, 600, 602, 17, 603, 604, 605, 606, 914, 915, 916, 917, 918, 920, 41, 921, 692, 922] (by decide +kernel)
