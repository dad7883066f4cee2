theorem dX4_cut_5 : decode cX4_cut 5 = .ok (.iload 4, 2) := by decide +kernel
theorem dX4_cut_7 : decode cX4_cut 7 = .ok (.bipush 16, 2) := by decide +kernel
theorem dX4_cut_9 : decode cX4_cut 9 = .ok (.if_icmp .gt 57, 3) := by decide +kernel
theorem dX4_cut_12 : decode cX4_cut 12 = .ok (.iload 4, 2) := by decide +kernel
theorem dX4_cut_14 : decode cX4_cut 14 = .ok (.bipush 16, 2) := by decide +kernel
theorem dX4_cut_16 : decode cX4_cut 16 = .ok (.if_icmp .eq 17, 3) := by decide +kernel
theorem dX4_cut_19 : decode cX4_cut 19 = .ok (.iload_n 2, 1) := by decide +kernel
theorem dX4_cut_20 : decode cX4_cut 20 = .ok (.iload 4, 2) := by decide +kernel
theorem dX4_cut_22 : decode cX4_cut 22 = .ok (.ishr, 1) := by decide +kernel
theorem dX4_cut_23 : decode cX4_cut 23 = .ok (.iconst 1, 1) := by decide +kernel
theorem dX4_cut_24 : decode cX4_cut 24 = .ok (.iand, 1) := by decide +kernel
theorem dX4_cut_25 : decode cX4_cut 25 = .ok (.iload_n 2, 1) := by decide +kernel
theorem dX4_cut_26 : decode cX4_cut 26 = .ok (.iload_n 3, 1) := by decide +kernel
theorem dX4_cut_27 : decode cX4_cut 27 = .ok (.ishr, 1) := by decide +kernel
theorem dX4_cut_28 : decode cX4_cut 28 = .ok (.iconst 1, 1) := by decide +kernel
theorem dX4_cut_29 : decode cX4_cut 29 = .ok (.iand, 1) := by decide +kernel
theorem dX4_cut_30 : decode cX4_cut 30 = .ok (.if_icmp .eq 30, 3) := by decide +kernel
theorem dX4_cut_33 : decode cX4_cut 33 = .ok (.aload_n 0, 1) := by decide +kernel
theorem dX4_cut_34 : decode cX4_cut 34 = .ok (.iload_n 1, 1) := by decide +kernel
theorem dX4_cut_35 : decode cX4_cut 35 = .ok (.iload_n 3, 1) := by decide +kernel
theorem dX4_cut_36 : decode cX4_cut 36 = .ok (.iload 4, 2) := by decide +kernel
theorem dX4_cut_38 : decode cX4_cut 38 = .ok (.iconst 1, 1) := by decide +kernel
theorem dX4_cut_39 : decode cX4_cut 39 = .ok (.isub, 1) := by decide +kernel
theorem dX4_cut_40 : decode cX4_cut 40 = .ok (.iload_n 2, 1) := by decide +kernel
theorem dX4_cut_41 : decode cX4_cut 41 = .ok (.iload_n 3, 1) := by decide +kernel
theorem dX4_cut_42 : decode cX4_cut 42 = .ok (.ishr, 1) := by decide +kernel
theorem dX4_cut_43 : decode cX4_cut 43 = .ok (.iconst 1, 1) := by decide +kernel
theorem dX4_cut_44 : decode cX4_cut 44 = .ok (.iand, 1) := by decide +kernel
theorem dX4_cut_45 : decode cX4_cut 45 = .ok (.iconst 1, 1) := by decide +kernel
theorem dX4_cut_46 : decode cX4_cut 46 = .ok (.if_icmp .ne 7, 3) := by decide +kernel
theorem dX4_cut_49 : decode cX4_cut 49 = .ok (.iconst 1, 1) := by decide +kernel
theorem dX4_cut_50 : decode cX4_cut 50 = .ok (.goto 4, 3) := by decide +kernel
theorem dX4_cut_53 : decode cX4_cut 53 = .ok (.iconst 0, 1) := by decide +kernel
theorem dX4_cut_54 : decode cX4_cut 54 = .ok (.invokevirtual 71, 3) := by decide +kernel
theorem dX4_cut_57 : decode cX4_cut 57 = .ok (.iload 4, 2) := by decide +kernel
theorem dX4_cut_59 : decode cX4_cut 59 = .ok (.istore_n 3, 1) := by decide +kernel
theorem dX4_cut_60 : decode cX4_cut 60 = .ok (.iinc 4 1, 3) := by decide +kernel
theorem dX4_cut_63 : decode cX4_cut 63 = .ok (.goto (-58), 3) := by decide +kernel
theorem dX4_cut_66 : decode cX4_cut 66 = .ok (.return_, 1) := by decide +kernel
theorem dX4_add_0 : decode cX4_add 0 = .ok (.aload_n 0, 1) := by decide +kernel
theorem dX4_add_1 : decode cX4_add 1 = .ok (.getfield 34, 3) := by decide +kernel
theorem dX4_add_4 : decode cX4_add 4 = .ok (.sipush 255, 3) := by decide +kernel
theorem dX4_add_7 : decode cX4_add 7 = .ok (.iand, 1) := by decide +kernel
theorem dX4_add_8 : decode cX4_add 8 = .ok (.istore 5, 2) := by decide +kernel
theorem dX4_add_10 : decode cX4_add 10 = .ok (.aload_n 0, 1) := by decide +kernel
theorem dX4_add_11 : decode cX4_add 11 = .ok (.getfield 24, 3) := by decide +kernel
theorem dX4_add_14 : decode cX4_add 14 = .ok (.iload 5, 2) := by decide +kernel
theorem dX4_add_16 : decode cX4_add 16 = .ok (.iload_n 1, 1) := by decide +kernel
theorem dX4_add_17 : decode cX4_add 17 = .ok (.iastore, 1) := by decide +kernel
theorem dX4_add_18 : decode cX4_add 18 = .ok (.aload_n 0, 1) := by decide +kernel
theorem dX4_add_19 : decode cX4_add 19 = .ok (.getfield 18, 3) := by decide +kernel
theorem dX4_add_22 : decode cX4_add 22 = .ok (.iload 5, 2) := by decide +kernel
theorem dX4_add_24 : decode cX4_add 24 = .ok (.iload_n 2, 1) := by decide +kernel
theorem dX4_add_25 : decode cX4_add 25 = .ok (.iastore, 1) := by decide +kernel
theorem dX4_add_26 : decode cX4_add 26 = .ok (.aload_n 0, 1) := by decide +kernel
theorem dX4_add_27 : decode cX4_add 27 = .ok (.getfield 21, 3) := by decide +kernel
theorem dX4_add_30 : decode cX4_add 30 = .ok (.iload 5, 2) := by decide +kernel
theorem dX4_add_32 : decode cX4_add 32 = .ok (.iload_n 3, 1) := by decide +kernel
theorem dX4_add_33 : decode cX4_add 33 = .ok (.iastore, 1) := by decide +kernel
theorem dX4_add_34 : decode cX4_add 34 = .ok (.aload_n 0, 1) := by decide +kernel
theorem dX4_add_35 : decode cX4_add 35 = .ok (.getfield 27, 3) := by decide +kernel
theorem dX4_add_38 : decode cX4_add 38 = .ok (.iload 5, 2) := by decide +kernel
theorem dX4_add_40 : decode cX4_add 40 = .ok (.iload 4, 2) := by decide +kernel
theorem dX4_add_42 : decode cX4_add 42 = .ok (.bastore, 1) := by decide +kernel
theorem dX4_add_43 : decode cX4_add 43 = .ok (.aload_n 0, 1) := by decide +kernel
theorem dX4_add_44 : decode cX4_add 44 = .ok (.getfield 31, 3) := by decide +kernel
theorem dX4_add_47 : decode cX4_add 47 = .ok (.iload 5, 2) := by decide +kernel
theorem dX4_add_49 : decode cX4_add 49 = .ok (.iload 5, 2) := by decide +kernel
theorem dX4_add_51 : decode cX4_add 51 = .ok (.iastore, 1) := by decide +kernel
theorem dX4_add_52 : decode cX4_add 52 = .ok (.aload_n 0, 1) := by decide +kernel
theorem dX4_add_53 : decode cX4_add 53 = .ok (.dup, 1) := by decide +kernel
theorem dX4_add_54 : decode cX4_add 54 = .ok (.getfield 34, 3) := by decide +kernel
theorem dX4_add_57 : decode cX4_add 57 = .ok (.iconst 1, 1) := by decide +kernel
theorem dX4_add_58 : decode cX4_add 58 = .ok (.iadd, 1) := by decide +kernel
theorem dX4_add_59 : decode cX4_add 59 = .ok (.putfield 34, 3) := by decide +kernel
theorem dX4_add_62 : decode cX4_add 62 = .ok (.return_, 1) := by decide +kernel
set_option maxRecDepth 20000 in
theorem ggX4_joinToRowAbove_X4_firstOfColour : GoodIn wsX4_joinToRowAbove wsX4_firstOfColour := goodIn_r _ [6, 1, 7, 8, 9, 5, 10, 11, 38, 39, 40, 41, 42, 43, 44, 45] (by decide +kernel) (by decide +kernel)
set_option maxRecDepth 20000 in
theorem gX4_joinToRowAbove_X4_firstOfColour : GoodIn wsX4_joinToRowAbove (wsV RX4 75 RX4 yX4_firstOfColour wsX4_firstOfColour) := goodIn_app (goodIn_of _ (by decide +kernel)) ggX4_joinToRowAbove_X4_firstOfColour
set_option maxRecDepth 20000 in
theorem ggX4_joinToRowAbove_X4_start : GoodIn wsX4_joinToRowAbove wsX4_start := goodIn_r _ [15, 16, 38, 39, 40, 41, 42, 43, 44, 45] (by decide +kernel) (by decide +kernel)
set_option maxRecDepth 20000 in
theorem gX4_joinToRowAbove_X4_start : GoodIn wsX4_joinToRowAbove (wsV RX4 63 RX4 yX4_start wsX4_start) := goodIn_app (goodIn_of _ (by decide +kernel)) ggX4_joinToRowAbove_X4_start
set_option maxRecDepth 20000 in
theorem ggX4_joinToRowAbove_X4_end : GoodIn wsX4_joinToRowAbove wsX4_end := goodIn_r _ [20, 21, 38, 39, 40, 41, 42, 43, 44, 45] (by decide +kernel) (by decide +kernel)
set_option maxRecDepth 20000 in
theorem gX4_joinToRowAbove_X4_end : GoodIn wsX4_joinToRowAbove (wsV RX4 60 RX4 yX4_end wsX4_end) := goodIn_app (goodIn_of _ (by decide +kernel)) ggX4_joinToRowAbove_X4_end
set_option maxRecDepth 20000 in
theorem ggX4_joinToRowAbove_X4_join : GoodIn wsX4_joinToRowAbove wsX4_join := goodIn_r _ [25, 26, 27, 28, 29, 30, 31, 32, 33, 34, 35, 36, 5, 37, 38, 39, 40, 41, 42, 43, 44, 45] (by decide +kernel) (by decide +kernel)
set_option maxRecDepth 20000 in
theorem gX4_joinToRowAbove_X4_join : GoodIn wsX4_joinToRowAbove (wsV RX4 79 RX4 yX4_join wsX4_join) := goodIn_app (goodIn_of _ (by decide +kernel)) ggX4_joinToRowAbove_X4_join
theorem dX4_joinToRowAbove_0 : decode cX4_joinToRowAbove 0 = .ok (.aload_n 0, 1) := by decide +kernel
theorem dX4_joinToRowAbove_1 : decode cX4_joinToRowAbove 1 = .ok (.iload_n 1, 1) := by decide +kernel
theorem dX4_joinToRowAbove_2 : decode cX4_joinToRowAbove 2 = .ok (.iconst 1, 1) := by decide +kernel
theorem dX4_joinToRowAbove_3 : decode cX4_joinToRowAbove 3 = .ok (.isub, 1) := by decide +kernel
theorem dX4_joinToRowAbove_4 : decode cX4_joinToRowAbove 4 = .ok (.iload_n 2, 1) := by decide +kernel
theorem dX4_joinToRowAbove_5 : decode cX4_joinToRowAbove 5 = .ok (.invokevirtual 75, 3) := by decide +kernel
theorem dX4_joinToRowAbove_8 : decode cX4_joinToRowAbove 8 = .ok (.istore 4, 2) := by decide +kernel
theorem dX4_joinToRowAbove_10 : decode cX4_joinToRowAbove 10 = .ok (.aload_n 0, 1) := by decide +kernel
theorem dX4_joinToRowAbove_11 : decode cX4_joinToRowAbove 11 = .ok (.iload_n 1, 1) := by decide +kernel
theorem dX4_joinToRowAbove_12 : decode cX4_joinToRowAbove 12 = .ok (.iload_n 2, 1) := by decide +kernel
theorem dX4_joinToRowAbove_13 : decode cX4_joinToRowAbove 13 = .ok (.invokevirtual 75, 3) := by decide +kernel
theorem dX4_joinToRowAbove_16 : decode cX4_joinToRowAbove 16 = .ok (.istore 5, 2) := by decide +kernel
theorem dX4_joinToRowAbove_18 : decode cX4_joinToRowAbove 18 = .ok (.aload_n 0, 1) := by decide +kernel
theorem dX4_joinToRowAbove_19 : decode cX4_joinToRowAbove 19 = .ok (.getfield 9, 3) := by decide +kernel
theorem dX4_joinToRowAbove_22 : decode cX4_joinToRowAbove 22 = .ok (.iload_n 1, 1) := by decide +kernel
theorem dX4_joinToRowAbove_23 : decode cX4_joinToRowAbove 23 = .ok (.bipush 15, 2) := by decide +kernel
theorem dX4_joinToRowAbove_25 : decode cX4_joinToRowAbove 25 = .ok (.iand, 1) := by decide +kernel
theorem dX4_joinToRowAbove_26 : decode cX4_joinToRowAbove 26 = .ok (.iaload, 1) := by decide +kernel
theorem dX4_joinToRowAbove_27 : decode cX4_joinToRowAbove 27 = .ok (.istore 6, 2) := by decide +kernel
theorem dX4_joinToRowAbove_29 : decode cX4_joinToRowAbove 29 = .ok (.aload_n 0, 1) := by decide +kernel
theorem dX4_joinToRowAbove_30 : decode cX4_joinToRowAbove 30 = .ok (.getfield 9, 3) := by decide +kernel
theorem dX4_joinToRowAbove_33 : decode cX4_joinToRowAbove 33 = .ok (.iload_n 1, 1) := by decide +kernel
theorem dX4_joinToRowAbove_34 : decode cX4_joinToRowAbove 34 = .ok (.bipush 15, 2) := by decide +kernel
theorem dX4_joinToRowAbove_36 : decode cX4_joinToRowAbove 36 = .ok (.iand, 1) := by decide +kernel
theorem dX4_joinToRowAbove_37 : decode cX4_joinToRowAbove 37 = .ok (.iconst 1, 1) := by decide +kernel
theorem dX4_joinToRowAbove_38 : decode cX4_joinToRowAbove 38 = .ok (.iadd, 1) := by decide +kernel
theorem dX4_joinToRowAbove_39 : decode cX4_joinToRowAbove 39 = .ok (.iaload, 1) := by decide +kernel
theorem dX4_joinToRowAbove_40 : decode cX4_joinToRowAbove 40 = .ok (.istore 7, 2) := by decide +kernel
theorem dX4_joinToRowAbove_42 : decode cX4_joinToRowAbove 42 = .ok (.iload 4, 2) := by decide +kernel
theorem dX4_joinToRowAbove_44 : decode cX4_joinToRowAbove 44 = .ok (.iload 6, 2) := by decide +kernel
theorem dX4_joinToRowAbove_46 : decode cX4_joinToRowAbove 46 = .ok (.if_icmp .ge 79, 3) := by decide +kernel
theorem dX4_joinToRowAbove_49 : decode cX4_joinToRowAbove 49 = .ok (.iload 5, 2) := by decide +kernel
theorem dX4_joinToRowAbove_51 : decode cX4_joinToRowAbove 51 = .ok (.iload 7, 2) := by decide +kernel
theorem dX4_joinToRowAbove_53 : decode cX4_joinToRowAbove 53 = .ok (.if_icmp .ge 72, 3) := by decide +kernel
theorem dX4_joinToRowAbove_56 : decode cX4_joinToRowAbove 56 = .ok (.aload_n 0, 1) := by decide +kernel
theorem dX4_joinToRowAbove_57 : decode cX4_joinToRowAbove 57 = .ok (.iload 4, 2) := by decide +kernel
theorem dX4_joinToRowAbove_59 : decode cX4_joinToRowAbove 59 = .ok (.invokevirtual 63, 3) := by decide +kernel
theorem dX4_joinToRowAbove_62 : decode cX4_joinToRowAbove 62 = .ok (.aload_n 0, 1) := by decide +kernel
theorem dX4_joinToRowAbove_63 : decode cX4_joinToRowAbove 63 = .ok (.iload 5, 2) := by decide +kernel
theorem dX4_joinToRowAbove_65 : decode cX4_joinToRowAbove 65 = .ok (.invokevirtual 60, 3) := by decide +kernel
theorem dX4_joinToRowAbove_68 : decode cX4_joinToRowAbove 68 = .ok (.iload_n 3, 1) := by decide +kernel
theorem dX4_joinToRowAbove_69 : decode cX4_joinToRowAbove 69 = .ok (.iadd, 1) := by decide +kernel
theorem dX4_joinToRowAbove_70 : decode cX4_joinToRowAbove 70 = .ok (.if_icmp .gt 28, 3) := by decide +kernel
theorem dX4_joinToRowAbove_73 : decode cX4_joinToRowAbove 73 = .ok (.aload_n 0, 1) := by decide +kernel
theorem dX4_joinToRowAbove_74 : decode cX4_joinToRowAbove 74 = .ok (.iload 5, 2) := by decide +kernel
theorem dX4_joinToRowAbove_76 : decode cX4_joinToRowAbove 76 = .ok (.invokevirtual 63, 3) := by decide +kernel
theorem dX4_joinToRowAbove_79 : decode cX4_joinToRowAbove 79 = .ok (.aload_n 0, 1) := by decide +kernel
theorem dX4_joinToRowAbove_80 : decode cX4_joinToRowAbove 80 = .ok (.iload 4, 2) := by decide +kernel
theorem dX4_joinToRowAbove_82 : decode cX4_joinToRowAbove 82 = .ok (.invokevirtual 60, 3) := by decide +kernel
theorem dX4_joinToRowAbove_85 : decode cX4_joinToRowAbove 85 = .ok (.iload_n 3, 1) := by decide +kernel
theorem dX4_joinToRowAbove_86 : decode cX4_joinToRowAbove 86 = .ok (.iadd, 1) := by decide +kernel
theorem dX4_joinToRowAbove_87 : decode cX4_joinToRowAbove 87 = .ok (.if_icmp .gt 11, 3) := by decide +kernel
theorem dX4_joinToRowAbove_90 : decode cX4_joinToRowAbove 90 = .ok (.aload_n 0, 1) := by decide +kernel
theorem dX4_joinToRowAbove_91 : decode cX4_joinToRowAbove 91 = .ok (.iload 4, 2) := by decide +kernel
theorem dX4_joinToRowAbove_93 : decode cX4_joinToRowAbove 93 = .ok (.iload 5, 2) := by decide +kernel
theorem dX4_joinToRowAbove_95 : decode cX4_joinToRowAbove 95 = .ok (.invokevirtual 79, 3) := by decide +kernel
theorem dX4_joinToRowAbove_98 : decode cX4_joinToRowAbove 98 = .ok (.aload_n 0, 1) := by decide +kernel
theorem dX4_joinToRowAbove_99 : decode cX4_joinToRowAbove 99 = .ok (.iload 4, 2) := by decide +kernel
theorem dX4_joinToRowAbove_101 : decode cX4_joinToRowAbove 101 = .ok (.invokevirtual 60, 3) := by decide +kernel
theorem dX4_joinToRowAbove_104 : decode cX4_joinToRowAbove 104 = .ok (.aload_n 0, 1) := by decide +kernel
theorem dX4_joinToRowAbove_105 : decode cX4_joinToRowAbove 105 = .ok (.iload 5, 2) := by decide +kernel
theorem dX4_joinToRowAbove_107 : decode cX4_joinToRowAbove 107 = .ok (.invokevirtual 60, 3) := by decide +kernel
theorem dX4_joinToRowAbove_110 : decode cX4_joinToRowAbove 110 = .ok (.if_icmp .ge 9, 3) := by decide +kernel
theorem dX4_joinToRowAbove_113 : decode cX4_joinToRowAbove 113 = .ok (.iinc 4 2, 3) := by decide +kernel
theorem dX4_joinToRowAbove_116 : decode cX4_joinToRowAbove 116 = .ok (.goto (-74), 3) := by decide +kernel
theorem dX4_joinToRowAbove_119 : decode cX4_joinToRowAbove 119 = .ok (.iinc 5 2, 3) := by decide +kernel
theorem dX4_joinToRowAbove_122 : decode cX4_joinToRowAbove 122 = .ok (.goto (-80), 3) := by decide +kernel
theorem dX4_joinToRowAbove_125 : decode cX4_joinToRowAbove 125 = .ok (.return_, 1) := by decide +kernel
set_option maxRecDepth 20000 in
theorem ggX4_firstOfColour_X4_isDark : GoodIn wsX4_firstOfColour wsX4_isDark := goodIn_r _ [6, 7, 8, 9, 10, 11, 12, 13, 14, 15] (by decide +kernel) (by decide +kernel)
set_option maxRecDepth 20000 in
theorem gX4_firstOfColour_X4_isDark : GoodIn wsX4_firstOfColour (wsV RX4 82 RX4 yX4_isDark wsX4_isDark) := goodIn_app (goodIn_of _ (by decide +kernel)) ggX4_firstOfColour_X4_isDark
theorem dX4_firstOfColour_0 : decode cX4_firstOfColour 0 = .ok (.aload_n 0, 1) := by decide +kernel
theorem dX4_firstOfColour_1 : decode cX4_firstOfColour 1 = .ok (.getfield 9, 3) := by decide +kernel
theorem dX4_firstOfColour_4 : decode cX4_firstOfColour 4 = .ok (.iload_n 1, 1) := by decide +kernel
theorem dX4_firstOfColour_5 : decode cX4_firstOfColour 5 = .ok (.bipush 15, 2) := by decide +kernel
theorem dX4_firstOfColour_7 : decode cX4_firstOfColour 7 = .ok (.iand, 1) := by decide +kernel
theorem dX4_firstOfColour_8 : decode cX4_firstOfColour 8 = .ok (.iaload, 1) := by decide +kernel
theorem dX4_firstOfColour_9 : decode cX4_firstOfColour 9 = .ok (.istore_n 3, 1) := by decide +kernel
theorem dX4_firstOfColour_10 : decode cX4_firstOfColour 10 = .ok (.aload_n 0, 1) := by decide +kernel
theorem dX4_firstOfColour_11 : decode cX4_firstOfColour 11 = .ok (.iload_n 3, 1) := by decide +kernel
theorem dX4_firstOfColour_12 : decode cX4_firstOfColour 12 = .ok (.invokevirtual 82, 3) := by decide +kernel
theorem dX4_firstOfColour_15 : decode cX4_firstOfColour 15 = .ok (.iload_n 2, 1) := by decide +kernel
theorem dX4_firstOfColour_16 : decode cX4_firstOfColour 16 = .ok (.if_icmp .ne 7, 3) := by decide +kernel
theorem dX4_firstOfColour_19 : decode cX4_firstOfColour 19 = .ok (.iload_n 3, 1) := by decide +kernel
theorem dX4_firstOfColour_20 : decode cX4_firstOfColour 20 = .ok (.goto 6, 3) := by decide +kernel
theorem dX4_firstOfColour_23 : decode cX4_firstOfColour 23 = .ok (.iload_n 3, 1) := by decide +kernel
theorem dX4_firstOfColour_24 : decode cX4_firstOfColour 24 = .ok (.iconst 1, 1) := by decide +kernel
theorem dX4_firstOfColour_25 : decode cX4_firstOfColour 25 = .ok (.iadd, 1) := by decide +kernel
theorem dX4_firstOfColour_26 : decode cX4_firstOfColour 26 = .ok (.ireturn, 1) := by decide +kernel
set_option maxRecDepth 20000 in
theorem ggX4_join_X4_leastKnown : GoodIn wsX4_join wsX4_leastKnown := goodIn_r _ [13, 1, 14, 15, 16, 17, 18, 19, 20, 21] (by decide +kernel) (by decide +kernel)
set_option maxRecDepth 20000 in
theorem gX4_join_X4_leastKnown : GoodIn wsX4_join (wsV RX4 86 RX4 yX4_leastKnown wsX4_leastKnown) := goodIn_app (goodIn_of _ (by decide +kernel)) ggX4_join_X4_leastKnown
theorem dX4_join_0 : decode cX4_join 0 = .ok (.aload_n 0, 1) := by decide +kernel
theorem dX4_join_1 : decode cX4_join 1 = .ok (.iload_n 1, 1) := by decide +kernel
theorem dX4_join_2 : decode cX4_join 2 = .ok (.invokevirtual 86, 3) := by decide +kernel
theorem dX4_join_5 : decode cX4_join 5 = .ok (.istore_n 3, 1) := by decide +kernel
theorem dX4_join_6 : decode cX4_join 6 = .ok (.aload_n 0, 1) := by decide +kernel
theorem dX4_join_7 : decode cX4_join 7 = .ok (.iload_n 2, 1) := by decide +kernel
theorem dX4_join_8 : decode cX4_join 8 = .ok (.invokevirtual 86, 3) := by decide +kernel
theorem dX4_join_11 : decode cX4_join 11 = .ok (.istore 4, 2) := by decide +kernel
theorem dX4_join_13 : decode cX4_join 13 = .ok (.aload_n 0, 1) := by decide +kernel
theorem dX4_join_14 : decode cX4_join 14 = .ok (.getfield 31, 3) := by decide +kernel
theorem dX4_join_17 : decode cX4_join 17 = .ok (.iload_n 3, 1) := by decide +kernel
theorem dX4_join_18 : decode cX4_join 18 = .ok (.iload 4, 2) := by decide +kernel
theorem dX4_join_20 : decode cX4_join 20 = .ok (.invokestatic 89, 3) := by decide +kernel
theorem dX4_join_23 : decode cX4_join 23 = .ok (.sipush 255, 3) := by decide +kernel
theorem dX4_join_26 : decode cX4_join 26 = .ok (.iand, 1) := by decide +kernel
theorem dX4_join_27 : decode cX4_join 27 = .ok (.iload_n 3, 1) := by decide +kernel
theorem dX4_join_28 : decode cX4_join 28 = .ok (.iload 4, 2) := by decide +kernel
theorem dX4_join_30 : decode cX4_join 30 = .ok (.invokestatic 95, 3) := by decide +kernel
theorem dX4_join_33 : decode cX4_join 33 = .ok (.iastore, 1) := by decide +kernel
theorem dX4_join_34 : decode cX4_join 34 = .ok (.return_, 1) := by decide +kernel
theorem dX4_leastKnown_0 : decode cX4_leastKnown 0 = .ok (.iload_n 1, 1) := by decide +kernel
theorem dX4_leastKnown_1 : decode cX4_leastKnown 1 = .ok (.istore_n 2, 1) := by decide +kernel
theorem dX4_leastKnown_2 : decode cX4_leastKnown 2 = .ok (.iconst 0, 1) := by decide +kernel
theorem dX4_leastKnown_3 : decode cX4_leastKnown 3 = .ok (.istore_n 3, 1) := by decide +kernel
theorem dX4_leastKnown_4 : decode cX4_leastKnown 4 = .ok (.iload_n 3, 1) := by decide +kernel
theorem dX4_leastKnown_5 : decode cX4_leastKnown 5 = .ok (.sipush 256, 3) := by decide +kernel
theorem dX4_leastKnown_8 : decode cX4_leastKnown 8 = .ok (.if_icmp .ge 34, 3) := by decide +kernel
theorem dX4_leastKnown_11 : decode cX4_leastKnown 11 = .ok (.aload_n 0, 1) := by decide +kernel
theorem dX4_leastKnown_12 : decode cX4_leastKnown 12 = .ok (.getfield 31, 3) := by decide +kernel
theorem dX4_leastKnown_15 : decode cX4_leastKnown 15 = .ok (.iload_n 2, 1) := by decide +kernel
theorem dX4_leastKnown_16 : decode cX4_leastKnown 16 = .ok (.sipush 255, 3) := by decide +kernel
theorem dX4_leastKnown_19 : decode cX4_leastKnown 19 = .ok (.iand, 1) := by decide +kernel
theorem dX4_leastKnown_20 : decode cX4_leastKnown 20 = .ok (.iaload, 1) := by decide +kernel
theorem dX4_leastKnown_21 : decode cX4_leastKnown 21 = .ok (.iload_n 2, 1) := by decide +kernel
theorem dX4_leastKnown_22 : decode cX4_leastKnown 22 = .ok (.if_icmp .ge 20, 3) := by decide +kernel
theorem dX4_leastKnown_25 : decode cX4_leastKnown 25 = .ok (.aload_n 0, 1) := by decide +kernel
theorem dX4_leastKnown_26 : decode cX4_leastKnown 26 = .ok (.getfield 31, 3) := by decide +kernel
theorem dX4_leastKnown_29 : decode cX4_leastKnown 29 = .ok (.iload_n 2, 1) := by decide +kernel
theorem dX4_leastKnown_30 : decode cX4_leastKnown 30 = .ok (.sipush 255, 3) := by decide +kernel
theorem dX4_leastKnown_33 : decode cX4_leastKnown 33 = .ok (.iand, 1) := by decide +kernel
theorem dX4_leastKnown_34 : decode cX4_leastKnown 34 = .ok (.iaload, 1) := by decide +kernel
theorem dX4_leastKnown_35 : decode cX4_leastKnown 35 = .ok (.istore_n 2, 1) := by decide +kernel
theorem dX4_leastKnown_36 : decode cX4_leastKnown 36 = .ok (.iinc 3 1, 3) := by decide +kernel
theorem dX4_leastKnown_39 : decode cX4_leastKnown 39 = .ok (.goto (-35), 3) := by decide +kernel
theorem dX4_leastKnown_42 : decode cX4_leastKnown 42 = .ok (.iload_n 2, 1) := by decide +kernel
theorem dX4_leastKnown_43 : decode cX4_leastKnown 43 = .ok (.ireturn, 1) := by decide +kernel
set_option maxRecDepth 20000 in
theorem ggX4_settle_X4_groupOf : GoodIn wsX4_settle wsX4_groupOf := goodIn_r _ [7, 2, 8, 9, 10, 11, 12, 13, 14, 15] (by decide +kernel) (by decide +kernel)
set_option maxRecDepth 20000 in
theorem gX4_settle_X4_groupOf : GoodIn wsX4_settle (wsV RX4 98 RX4 yX4_groupOf wsX4_groupOf) := goodIn_app (goodIn_of _ (by decide +kernel)) ggX4_settle_X4_groupOf
theorem dX4_settle_0 : decode cX4_settle 0 = .ok (.iconst 0, 1) := by decide +kernel
theorem dX4_settle_1 : decode cX4_settle 1 = .ok (.istore_n 1, 1) := by decide +kernel
theorem dX4_settle_2 : decode cX4_settle 2 = .ok (.iload_n 1, 1) := by decide +kernel
theorem dX4_settle_3 : decode cX4_settle 3 = .ok (.aload_n 0, 1) := by decide +kernel
theorem dX4_settle_4 : decode cX4_settle 4 = .ok (.getfield 34, 3) := by decide +kernel
theorem dX4_settle_7 : decode cX4_settle 7 = .ok (.if_icmp .ge 32, 3) := by decide +kernel
theorem dX4_settle_10 : decode cX4_settle 10 = .ok (.iload_n 1, 1) := by decide +kernel
theorem dX4_settle_11 : decode cX4_settle 11 = .ok (.sipush 256, 3) := by decide +kernel
theorem dX4_settle_14 : decode cX4_settle 14 = .ok (.if_icmp .ge 25, 3) := by decide +kernel
theorem dX4_settle_17 : decode cX4_settle 17 = .ok (.aload_n 0, 1) := by decide +kernel
theorem dX4_settle_18 : decode cX4_settle 18 = .ok (.getfield 31, 3) := by decide +kernel
theorem dX4_settle_21 : decode cX4_settle 21 = .ok (.iload_n 1, 1) := by decide +kernel
theorem dX4_settle_22 : decode cX4_settle 22 = .ok (.aload_n 0, 1) := by decide +kernel
theorem dX4_settle_23 : decode cX4_settle 23 = .ok (.aload_n 0, 1) := by decide +kernel
theorem dX4_settle_24 : decode cX4_settle 24 = .ok (.getfield 31, 3) := by decide +kernel
theorem dX4_settle_27 : decode cX4_settle 27 = .ok (.iload_n 1, 1) := by decide +kernel
theorem dX4_settle_28 : decode cX4_settle 28 = .ok (.iaload, 1) := by decide +kernel
theorem dX4_settle_29 : decode cX4_settle 29 = .ok (.invokevirtual 98, 3) := by decide +kernel
theorem dX4_settle_32 : decode cX4_settle 32 = .ok (.iastore, 1) := by decide +kernel
theorem dX4_settle_33 : decode cX4_settle 33 = .ok (.iinc 1 1, 3) := by decide +kernel
theorem dX4_settle_36 : decode cX4_settle 36 = .ok (.goto (-34), 3) := by decide +kernel
theorem dX4_settle_39 : decode cX4_settle 39 = .ok (.return_, 1) := by decide +kernel
set_option maxRecDepth 20000 in
theorem ggX5_init_X3_init : GoodIn wsX5_init wsX3_init := goodIn_r _ [27, 28, 2, 3, 29, 30, 31, 32, 75, 76, 77] (by decide +kernel) (by decide +kernel)
set_option maxRecDepth 20000 in
theorem gX5_init_X3_init_n11 : GoodIn wsX5_init (wsX3_init) := ggX5_init_X3_init
set_option maxRecDepth 20000 in
theorem ggX5_init_X1_init : GoodIn wsX5_init wsX1_init := goodIn_r _ [34, 35, 2, 3, 36, 13, 14, 37, 29, 38, 39, 40, 41, 42, 43, 44, 45, 46, 47, 48, 49, 50, 51, 52, 53, 54, 55, 56, 57, 58, 59, 60, 61, 62, 99, 100, 101, 102, 103, 104, 105, 106, 85, 86, 87, 88, 89, 90, 91, 92, 93, 94, 95, 96, 97, 98] (by decide +kernel) (by decide +kernel)
set_option maxRecDepth 20000 in
theorem gX5_init_X1_init_n18 : GoodIn wsX5_init (wsX1_init) := ggX5_init_X1_init
set_option maxRecDepth 20000 in
theorem ggX5_init_X4_init : GoodIn wsX5_init wsX4_init := goodIn_r _ [53, 54, 2, 3, 29, 55, 56, 57, 58, 59, 43, 60, 61, 62, 99, 100, 101, 102, 103, 104, 105, 106] (by decide +kernel) (by decide +kernel)
set_option maxRecDepth 20000 in
theorem gX5_init_X4_init_n25 : GoodIn wsX5_init (wsX4_init) := ggX5_init_X4_init
set_option maxRecDepth 20000 in
theorem ggX5_init_X2_init : GoodIn wsX5_init wsX2_init := goodIn_r _ [64, 65, 2, 3, 29, 66, 67, 68, 107, 108, 109] (by decide +kernel) (by decide +kernel)
set_option maxRecDepth 20000 in
theorem gX5_init_X2_init_n32 : GoodIn wsX5_init (wsX2_init) := ggX5_init_X2_init
set_option maxRecDepth 20000 in
theorem ggX5_init_X0_init : GoodIn wsX5_init wsX0_init := goodIn_r _ [70, 71, 2, 3, 29, 72, 73, 43, 74, 110, 111, 112] (by decide +kernel) (by decide +kernel)
set_option maxRecDepth 20000 in
theorem gX5_init_X0_init_n39 : GoodIn wsX5_init (wsX0_init) := ggX5_init_X0_init
theorem dX5_init_0 : decode cX5_init 0 = .ok (.aload_n 0, 1) := by decide +kernel
theorem dX5_init_1 : decode cX5_init 1 = .ok (.invokespecial 3, 3) := by decide +kernel
theorem dX5_init_4 : decode cX5_init 4 = .ok (.aload_n 0, 1) := by decide +kernel
theorem dX5_init_5 : decode cX5_init 5 = .ok (.new 9, 3) := by decide +kernel
theorem dX5_init_8 : decode cX5_init 8 = .ok (.dup, 1) := by decide +kernel
theorem dX5_init_9 : decode cX5_init 9 = .ok (.invokespecial 11, 3) := by decide +kernel
theorem dX5_init_12 : decode cX5_init 12 = .ok (.putfield 12, 3) := by decide +kernel
theorem dX5_init_15 : decode cX5_init 15 = .ok (.aload_n 0, 1) := by decide +kernel
theorem dX5_init_16 : decode cX5_init 16 = .ok (.new 16, 3) := by decide +kernel
theorem dX5_init_19 : decode cX5_init 19 = .ok (.dup, 1) := by decide +kernel
theorem dX5_init_20 : decode cX5_init 20 = .ok (.invokespecial 18, 3) := by decide +kernel
theorem dX5_init_23 : decode cX5_init 23 = .ok (.putfield 19, 3) := by decide +kernel
theorem dX5_init_26 : decode cX5_init 26 = .ok (.aload_n 0, 1) := by decide +kernel
theorem dX5_init_27 : decode cX5_init 27 = .ok (.new 23, 3) := by decide +kernel
theorem dX5_init_30 : decode cX5_init 30 = .ok (.dup, 1) := by decide +kernel
theorem dX5_init_31 : decode cX5_init 31 = .ok (.invokespecial 25, 3) := by decide +kernel
theorem dX5_init_34 : decode cX5_init 34 = .ok (.putfield 26, 3) := by decide +kernel
theorem dX5_init_37 : decode cX5_init 37 = .ok (.aload_n 0, 1) := by decide +kernel
theorem dX5_init_38 : decode cX5_init 38 = .ok (.new 30, 3) := by decide +kernel
theorem dX5_init_41 : decode cX5_init 41 = .ok (.dup, 1) := by decide +kernel
theorem dX5_init_42 : decode cX5_init 42 = .ok (.invokespecial 32, 3) := by decide +kernel
theorem dX5_init_45 : decode cX5_init 45 = .ok (.putfield 33, 3) := by decide +kernel
theorem dX5_init_48 : decode cX5_init 48 = .ok (.aload_n 0, 1) := by decide +kernel
theorem dX5_init_49 : decode cX5_init 49 = .ok (.new 37, 3) := by decide +kernel
theorem dX5_init_52 : decode cX5_init 52 = .ok (.dup, 1) := by decide +kernel
theorem dX5_init_53 : decode cX5_init 53 = .ok (.invokespecial 39, 3) := by decide +kernel
theorem dX5_init_56 : decode cX5_init 56 = .ok (.putfield 40, 3) := by decide +kernel
theorem dX5_init_59 : decode cX5_init 59 = .ok (.aload_n 0, 1) := by decide +kernel
theorem dX5_init_60 : decode cX5_init 60 = .ok (.iconst 0, 1) := by decide +kernel
theorem dX5_init_61 : decode cX5_init 61 = .ok (.putfield 44, 3) := by decide +kernel
theorem dX5_init_64 : decode cX5_init 64 = .ok (.aload_n 0, 1) := by decide +kernel
theorem dX5_init_65 : decode cX5_init 65 = .ok (.iconst 1, 1) := by decide +kernel
theorem dX5_init_66 : decode cX5_init 66 = .ok (.putfield 48, 3) := by decide +kernel
theorem dX5_init_69 : decode cX5_init 69 = .ok (.return_, 1) := by decide +kernel
set_option maxRecDepth 20000 in
theorem ggX5_told_X3_darkDots : GoodIn wsX5_told wsX3_darkDots := goodIn_r _ [8, 9, 10, 11, 12, 13, 14, 15, 16, 220, 221, 222] (by decide +kernel) (by decide +kernel)
set_option maxRecDepth 20000 in
theorem gX5_told_X3_darkDots : GoodIn wsX5_told (wsV RX5 55 RX3 yX3_darkDots wsX3_darkDots) := goodIn_app (goodIn_of _ (by decide +kernel)) ggX5_told_X3_darkDots
set_option maxRecDepth 20000 in
theorem ggX5_told_X5_parted : GoodIn wsX5_told wsX5_parted := goodIn_r _ [21, 22, 23, 1, 24, 25, 26, 27, 28, 29, 30, 31, 32, 33, 34, 35, 36, 37, 38, 39, 40, 41, 42, 43, 44, 7, 45, 9, 46, 47, 48, 49, 50, 51, 52, 53, 54, 55, 56, 57, 58, 59, 60, 61, 62, 63, 64, 65, 66, 67, 68, 69, 70, 71, 72, 73, 74, 75, 76, 77, 78, 79, 80, 81, 82, 83, 84, 85, 86, 87, 88, 89, 90, 91, 92, 93, 94, 95, 96, 97, 98, 99, 100, 101, 102, 103, 104, 105, 106, 107, 108, 109, 110, 111, 112, 113, 114, 115, 116, 117, 118, 119, 120, 121, 122, 123, 124, 125, 126, 127, 128, 129, 130, 131, 132, 133, 134, 135, 136, 137, 138, 139, 10, 11, 12, 13, 14, 15, 16, 140, 141, 142, 143, 144, 145, 146, 213, 214, 215, 216, 217, 218, 219, 223, 224, 225, 226, 227, 228, 229, 230, 231, 232, 233, 234, 235, 236, 240, 241, 242, 243, 244, 245, 246, 247, 220, 221, 222] (by decide +kernel) (by decide +kernel)
set_option maxRecDepth 20000 in
theorem gX5_told_X5_parted : GoodIn wsX5_told (wsV RX5 59 RX5 yX5_parted wsX5_parted) := goodIn_app (goodIn_of _ (by decide +kernel)) ggX5_told_X5_parted
set_option maxRecDepth 20000 in
theorem ggX5_told_X3_allRuns : GoodIn wsX5_told wsX3_allRuns := goodIn_r _ [150, 9, 151, 20, 152, 153, 11, 12, 13, 14, 15, 16, 220, 221, 222] (by decide +kernel) (by decide +kernel)
set_option maxRecDepth 20000 in
theorem gX5_told_X3_allRuns : GoodIn wsX5_told (wsV RX5 72 RX3 yX3_allRuns wsX3_allRuns) := goodIn_app (goodIn_of _ (by decide +kernel)) ggX5_told_X3_allRuns
set_option maxRecDepth 20000 in
theorem ggX5_told_X1_allRims : GoodIn wsX5_told wsX1_allRims := goodIn_r _ [157, 30, 158, 159, 160, 27, 161, 145, 162, 163, 164, 165, 112, 223, 224, 225, 226, 227, 228, 229, 230, 231, 232, 233, 234, 235, 236] (by decide +kernel) (by decide +kernel)
set_option maxRecDepth 20000 in
theorem gX5_told_X1_allRims : GoodIn wsX5_told (wsV RX5 75 RX1 yX1_allRims wsX1_allRims) := goodIn_app (goodIn_of _ (by decide +kernel)) ggX5_told_X1_allRims
set_option maxRecDepth 20000 in
theorem ggX5_told_X1_deepest : GoodIn wsX5_told wsX1_deepest := goodIn_r _ [169, 30, 117, 89, 90, 91, 170, 171, 172, 27, 173, 174, 175, 176, 177, 29, 158, 159, 160, 161, 145, 119, 120, 121, 36, 122, 54, 123, 77, 78, 79, 55, 178, 179, 180, 181, 182, 183, 184, 185, 144, 186, 20, 187, 188, 189, 190, 191, 39, 40, 192, 11, 12, 13, 14, 15, 16, 130, 73, 74, 75, 57, 125, 104, 105, 106, 58, 193, 194, 195, 196, 197, 198, 199, 200, 146, 201, 202, 203, 204, 223, 224, 225, 226, 227, 228, 229, 230, 231, 232, 233, 234, 235, 236, 240, 241, 242, 243, 244, 245, 246, 247] (by decide +kernel) (by decide +kernel)
set_option maxRecDepth 20000 in
theorem gX5_told_X1_deepest : GoodIn wsX5_told (wsV RX5 78 RX1 yX1_deepest wsX1_deepest) := goodIn_app (goodIn_of _ (by decide +kernel)) ggX5_told_X1_deepest
set_option maxRecDepth 20000 in
theorem ggX5_told_X1_largest : GoodIn wsX5_told wsX1_largest := goodIn_r _ [208, 30, 158, 159, 160, 27, 161, 145, 209, 210, 211, 212, 111, 223, 224, 225, 226, 227, 228, 229, 230, 231, 232, 233, 234, 235, 236] (by decide +kernel) (by decide +kernel)
set_option maxRecDepth 20000 in
theorem gX5_told_X1_largest : GoodIn wsX5_told (wsV RX5 81 RX1 yX1_largest wsX1_largest) := goodIn_app (goodIn_of _ (by decide +kernel)) ggX5_told_X1_largest
theorem dX5_told_0 : decode cX5_told 0 = .ok (.iload_n 1, 1) := by decide +kernel
theorem dX5_told_1 : decode cX5_told 1 = .ok (.tableswitch 159 0 10 #[59, 67, 75, 83, 91, 99, 119, 127, 135, 143, 151], 59) := by decide +kernel
theorem dX5_told_60 : decode cX5_told 60 = .ok (.aload_n 0, 1) := by decide +kernel
theorem dX5_told_61 : decode cX5_told 61 = .ok (.getfield 12, 3) := by decide +kernel
theorem dX5_told_64 : decode cX5_told 64 = .ok (.getfield 52, 3) := by decide +kernel
theorem dX5_told_67 : decode cX5_told 67 = .ok (.ireturn, 1) := by decide +kernel
theorem dX5_told_68 : decode cX5_told 68 = .ok (.aload_n 0, 1) := by decide +kernel
theorem dX5_told_69 : decode cX5_told 69 = .ok (.getfield 12, 3) := by decide +kernel
theorem dX5_told_72 : decode cX5_told 72 = .ok (.invokevirtual 55, 3) := by decide +kernel
theorem dX5_told_75 : decode cX5_told 75 = .ok (.ireturn, 1) := by decide +kernel
theorem dX5_told_76 : decode cX5_told 76 = .ok (.aload_n 0, 1) := by decide +kernel
theorem dX5_told_77 : decode cX5_told 77 = .ok (.invokevirtual 59, 3) := by decide +kernel
theorem dX5_told_80 : decode cX5_told 80 = .ok (.getfield 63, 3) := by decide +kernel
theorem dX5_told_83 : decode cX5_told 83 = .ok (.ireturn, 1) := by decide +kernel
theorem dX5_told_84 : decode cX5_told 84 = .ok (.aload_n 0, 1) := by decide +kernel
theorem dX5_told_85 : decode cX5_told 85 = .ok (.invokevirtual 59, 3) := by decide +kernel
theorem dX5_told_88 : decode cX5_told 88 = .ok (.getfield 66, 3) := by decide +kernel
theorem dX5_told_91 : decode cX5_told 91 = .ok (.ireturn, 1) := by decide +kernel
theorem dX5_told_92 : decode cX5_told 92 = .ok (.aload_n 0, 1) := by decide +kernel
theorem dX5_told_93 : decode cX5_told 93 = .ok (.invokevirtual 59, 3) := by decide +kernel
theorem dX5_told_96 : decode cX5_told 96 = .ok (.getfield 69, 3) := by decide +kernel
theorem dX5_told_99 : decode cX5_told 99 = .ok (.ireturn, 1) := by decide +kernel
theorem dX5_told_100 : decode cX5_told 100 = .ok (.aload_n 0, 1) := by decide +kernel
theorem dX5_told_101 : decode cX5_told 101 = .ok (.invokevirtual 59, 3) := by decide +kernel
theorem dX5_told_104 : decode cX5_told 104 = .ok (.getfield 63, 3) := by decide +kernel
theorem dX5_told_107 : decode cX5_told 107 = .ok (.aload_n 0, 1) := by decide +kernel
theorem dX5_told_108 : decode cX5_told 108 = .ok (.invokevirtual 59, 3) := by decide +kernel
theorem dX5_told_111 : decode cX5_told 111 = .ok (.getfield 66, 3) := by decide +kernel
theorem dX5_told_114 : decode cX5_told 114 = .ok (.isub, 1) := by decide +kernel
theorem dX5_told_115 : decode cX5_told 115 = .ok (.sipush 1000, 3) := by decide +kernel
theorem dX5_told_118 : decode cX5_told 118 = .ok (.iadd, 1) := by decide +kernel
theorem dX5_told_119 : decode cX5_told 119 = .ok (.ireturn, 1) := by decide +kernel
theorem dX5_told_120 : decode cX5_told 120 = .ok (.aload_n 0, 1) := by decide +kernel
theorem dX5_told_121 : decode cX5_told 121 = .ok (.getfield 12, 3) := by decide +kernel
theorem dX5_told_124 : decode cX5_told 124 = .ok (.invokevirtual 72, 3) := by decide +kernel
theorem dX5_told_127 : decode cX5_told 127 = .ok (.ireturn, 1) := by decide +kernel
theorem dX5_told_128 : decode cX5_told 128 = .ok (.aload_n 0, 1) := by decide +kernel
theorem dX5_told_129 : decode cX5_told 129 = .ok (.invokevirtual 59, 3) := by decide +kernel
theorem dX5_told_132 : decode cX5_told 132 = .ok (.invokevirtual 75, 3) := by decide +kernel
theorem dX5_told_135 : decode cX5_told 135 = .ok (.ireturn, 1) := by decide +kernel
theorem dX5_told_136 : decode cX5_told 136 = .ok (.aload_n 0, 1) := by decide +kernel
theorem dX5_told_137 : decode cX5_told 137 = .ok (.invokevirtual 59, 3) := by decide +kernel
theorem dX5_told_140 : decode cX5_told 140 = .ok (.invokevirtual 78, 3) := by decide +kernel
theorem dX5_told_143 : decode cX5_told 143 = .ok (.ireturn, 1) := by decide +kernel
theorem dX5_told_144 : decode cX5_told 144 = .ok (.aload_n 0, 1) := by decide +kernel
theorem dX5_told_145 : decode cX5_told 145 = .ok (.invokevirtual 59, 3) := by decide +kernel
theorem dX5_told_148 : decode cX5_told 148 = .ok (.invokevirtual 81, 3) := by decide +kernel
theorem dX5_told_151 : decode cX5_told 151 = .ok (.ireturn, 1) := by decide +kernel
theorem dX5_told_152 : decode cX5_told 152 = .ok (.aload_n 0, 1) := by decide +kernel
theorem dX5_told_153 : decode cX5_told 153 = .ok (.getfield 33, 3) := by decide +kernel
theorem dX5_told_156 : decode cX5_told 156 = .ok (.getfield 84, 3) := by decide +kernel
theorem dX5_told_159 : decode cX5_told 159 = .ok (.ireturn, 1) := by decide +kernel
theorem dX5_told_160 : decode cX5_told 160 = .ok (.ldc 87, 2) := by decide +kernel
theorem dX5_told_162 : decode cX5_told 162 = .ok (.ireturn, 1) := by decide +kernel
set_option maxRecDepth 20000 in
theorem ggX5_rowAt_X5_isLine : GoodIn wsX5_rowAt wsX5_isLine := goodIn_r _ [7] (by decide +kernel) (by decide +kernel)
set_option maxRecDepth 20000 in
theorem gX5_rowAt_X5_isLine : GoodIn wsX5_rowAt (va_wsS RX5 88 yX5_isLine wsX5_isLine) := goodIn_app (goodIn_of _ (by decide +kernel)) ggX5_rowAt_X5_isLine
set_option maxRecDepth 20000 in
theorem ggX5_rowAt_X3_line : GoodIn wsX5_rowAt wsX3_line := goodIn_r _ [12, 13, 31, 32, 33] (by decide +kernel) (by decide +kernel)
set_option maxRecDepth 20000 in
theorem gX5_rowAt_X3_line : GoodIn wsX5_rowAt (wsV RX5 93 RX3 yX3_line wsX3_line) := goodIn_app (goodIn_of _ (by decide +kernel)) ggX5_rowAt_X3_line
set_option maxRecDepth 20000 in
theorem ggX5_rowAt_X5_runsOf : GoodIn wsX5_rowAt wsX5_runsOf := goodIn_r _ [16, 17, 18, 19, 20, 21, 22, 23] (by decide +kernel) (by decide +kernel)
set_option maxRecDepth 20000 in
theorem gX5_rowAt_X5_runsOf : GoodIn wsX5_rowAt (va_wsS RX5 97 yX5_runsOf wsX5_runsOf) := goodIn_app (goodIn_of _ (by decide +kernel)) ggX5_rowAt_X5_runsOf
theorem dX5_rowAt_0 : decode cX5_rowAt 0 = .ok (.iload_n 1, 1) := by decide +kernel
theorem dX5_rowAt_1 : decode cX5_rowAt 1 = .ok (.invokestatic 88, 3) := by decide +kernel
theorem dX5_rowAt_4 : decode cX5_rowAt 4 = .ok (.ifCond .ne 6, 3) := by decide +kernel
theorem dX5_rowAt_7 : decode cX5_rowAt 7 = .ok (.ldc 92, 2) := by decide +kernel
theorem dX5_rowAt_9 : decode cX5_rowAt 9 = .ok (.ireturn, 1) := by decide +kernel
theorem dX5_rowAt_10 : decode cX5_rowAt 10 = .ok (.iload_n 2, 1) := by decide +kernel
theorem dX5_rowAt_11 : decode cX5_rowAt 11 = .ok (.lookupswitch 46 #[(0, 25), (1, 34)], 25) := by decide +kernel
theorem dX5_rowAt_36 : decode cX5_rowAt 36 = .ok (.aload_n 0, 1) := by decide +kernel
theorem dX5_rowAt_37 : decode cX5_rowAt 37 = .ok (.getfield 12, 3) := by decide +kernel
theorem dX5_rowAt_40 : decode cX5_rowAt 40 = .ok (.iload_n 1, 1) := by decide +kernel
theorem dX5_rowAt_41 : decode cX5_rowAt 41 = .ok (.invokevirtual 93, 3) := by decide +kernel
theorem dX5_rowAt_44 : decode cX5_rowAt 44 = .ok (.ireturn, 1) := by decide +kernel
theorem dX5_rowAt_45 : decode cX5_rowAt 45 = .ok (.aload_n 0, 1) := by decide +kernel
theorem dX5_rowAt_46 : decode cX5_rowAt 46 = .ok (.getfield 12, 3) := by decide +kernel
theorem dX5_rowAt_49 : decode cX5_rowAt 49 = .ok (.iload_n 1, 1) := by decide +kernel
theorem dX5_rowAt_50 : decode cX5_rowAt 50 = .ok (.invokevirtual 93, 3) := by decide +kernel
theorem dX5_rowAt_53 : decode cX5_rowAt 53 = .ok (.invokestatic 97, 3) := by decide +kernel
theorem dX5_rowAt_56 : decode cX5_rowAt 56 = .ok (.ireturn, 1) := by decide +kernel
theorem dX5_rowAt_57 : decode cX5_rowAt 57 = .ok (.ldc 87, 2) := by decide +kernel
theorem dX5_rowAt_59 : decode cX5_rowAt 59 = .ok (.ireturn, 1) := by decide +kernel
set_option maxRecDepth 20000 in
theorem ggX5_dot_X5_isLine : GoodIn wsX5_dot wsX5_isLine := goodIn_r _ [7] (by decide +kernel) (by decide +kernel)
set_option maxRecDepth 20000 in
theorem gX5_dot_X5_isLine : GoodIn wsX5_dot (va_wsS RX5 88 yX5_isLine wsX5_isLine) := goodIn_app (goodIn_of _ (by decide +kernel)) ggX5_dot_X5_isLine
set_option maxRecDepth 20000 in
theorem ggX5_dot_X3_isDark : GoodIn wsX5_dot wsX3_isDark := goodIn_r _ [12, 13, 14, 15, 11, 16, 17, 218, 219, 220] (by decide +kernel) (by decide +kernel)
set_option maxRecDepth 20000 in
theorem gX5_dot_X3_isDark : GoodIn wsX5_dot (wsV RX5 100 RX3 yX3_isDark wsX3_isDark) := goodIn_app (goodIn_of _ (by decide +kernel)) ggX5_dot_X3_isDark
set_option maxRecDepth 20000 in
theorem ggX5_dot_X5_parted : GoodIn wsX5_dot wsX5_parted := goodIn_r _ [21, 22, 23, 2, 24, 25, 26, 27, 28, 29, 30, 31, 32, 33, 34, 35, 36, 37, 38, 39, 40, 41, 42, 14, 15, 11, 16, 17, 43, 44, 45, 46, 47, 48, 49, 50, 51, 52, 53, 54, 55, 56, 57, 58, 59, 60, 61, 62, 63, 64, 65, 66, 67, 68, 69, 70, 71, 72, 73, 74, 75, 76, 77, 78, 79, 80, 81, 82, 83, 84, 85, 86, 87, 88, 89, 90, 91, 92, 93, 94, 95, 96, 97, 98, 99, 100, 101, 102, 103, 104, 105, 106, 107, 108, 109, 110, 111, 112, 113, 114, 115, 116, 117, 118, 119, 120, 121, 122, 123, 124, 125, 126, 127, 128, 129, 130, 131, 132, 133, 134, 135, 13, 136, 137, 138, 139, 140, 141, 142, 143, 144, 145, 146, 147, 148, 149, 197, 198, 199, 200, 201, 202, 203, 204, 205, 206, 207, 208, 209, 210, 211, 212, 213, 214, 215, 216, 217, 221, 222, 223, 224, 225, 226, 227, 228, 218, 219, 220] (by decide +kernel) (by decide +kernel)
set_option maxRecDepth 20000 in
theorem gX5_dot_X5_parted : GoodIn wsX5_dot (wsV RX5 59 RX5 yX5_parted wsX5_parted) := goodIn_app (goodIn_of _ (by decide +kernel)) ggX5_dot_X5_parted
set_option maxRecDepth 20000 in
theorem ggX5_dot_X1_partAt : GoodIn wsX5_dot wsX1_partAt := goodIn_r _ [153, 154, 155, 156, 27, 157, 29, 147, 5, 6, 7, 158, 159, 160, 36, 161, 39, 40, 162, 137, 138, 139, 140, 141, 142, 127, 70, 71, 72, 54, 122, 101, 102, 103, 55, 204, 205, 206, 207, 208, 209, 210, 211, 212, 213, 214, 215, 216, 217, 221, 222, 223, 224, 225, 226, 227, 228] (by decide +kernel) (by decide +kernel)
set_option maxRecDepth 20000 in
theorem gX5_dot_X1_partAt : GoodIn wsX5_dot (wsV RX5 104 RX1 yX1_partAt wsX1_partAt) := goodIn_app (goodIn_of _ (by decide +kernel)) ggX5_dot_X1_partAt
set_option maxRecDepth 20000 in
theorem ggX5_dot_X1_holeAt : GoodIn wsX5_dot wsX1_holeAt := goodIn_r _ [166, 154, 155, 156, 27, 157, 29, 147, 5, 6, 7, 158, 159, 160, 36, 161, 39, 40, 162, 137, 138, 139, 140, 141, 142, 127, 70, 71, 72, 54, 122, 101, 102, 103, 55, 204, 205, 206, 207, 208, 209, 210, 211, 212, 213, 214, 215, 216, 217, 221, 222, 223, 224, 225, 226, 227, 228] (by decide +kernel) (by decide +kernel)
set_option maxRecDepth 20000 in
theorem gX5_dot_X1_holeAt : GoodIn wsX5_dot (wsV RX5 108 RX1 yX1_holeAt wsX1_holeAt) := goodIn_app (goodIn_of _ (by decide +kernel)) ggX5_dot_X1_holeAt
set_option maxRecDepth 20000 in
theorem ggX5_dot_X3_cornersJoin : GoodIn wsX5_dot wsX3_cornersJoin := goodIn_r _ [59, 60, 218, 219, 220] (by decide +kernel) (by decide +kernel)
set_option maxRecDepth 20000 in
theorem gX5_dot_X3_cornersJoin : GoodIn wsX5_dot (wsV RX5 111 RX3 yX3_cornersJoin wsX3_cornersJoin) := goodIn_app (goodIn_of _ (by decide +kernel)) ggX5_dot_X3_cornersJoin
set_option maxRecDepth 20000 in
theorem ggX5_dot_X1_joinsAt : GoodIn wsX5_dot wsX1_joinsAt := goodIn_r _ [171, 172, 173, 151, 152, 27, 153, 154, 155, 156, 157, 29, 147, 5, 6, 7, 158, 159, 160, 36, 161, 39, 40, 162, 137, 138, 139, 140, 141, 142, 127, 70, 71, 72, 54, 122, 101, 102, 103, 55, 174, 175, 176, 177, 204, 205, 206, 207, 208, 209, 210, 211, 212, 213, 214, 215, 216, 217, 221, 222, 223, 224, 225, 226, 227, 228] (by decide +kernel) (by decide +kernel)
set_option maxRecDepth 20000 in
theorem gX5_dot_X1_joinsAt : GoodIn wsX5_dot (wsV RX5 115 RX1 yX1_joinsAt wsX1_joinsAt) := goodIn_app (goodIn_of _ (by decide +kernel)) ggX5_dot_X1_joinsAt
set_option maxRecDepth 20000 in
theorem ggX5_dot_X5_splitsAt : GoodIn wsX5_dot wsX5_splitsAt := goodIn_r _ [181, 2, 182, 183, 184, 185, 11, 186, 13, 14, 15, 16, 17, 187, 188, 189, 190, 191, 192, 34, 35, 36, 37, 38, 39, 40, 41, 42, 43, 44, 45, 46, 47, 48, 49, 50, 51, 52, 53, 54, 55, 56, 57, 58, 59, 60, 61, 62, 63, 64, 65, 66, 67, 68, 69, 70, 71, 72, 73, 74, 75, 76, 77, 78, 79, 80, 81, 82, 83, 84, 85, 86, 87, 88, 89, 90, 91, 92, 93, 94, 95, 96, 97, 98, 99, 100, 101, 102, 103, 193, 194, 195, 196, 197, 198, 199, 200, 201, 202, 203, 218, 219, 220, 221, 222, 223, 224, 225, 226, 227, 228] (by decide +kernel) (by decide +kernel)
set_option maxRecDepth 20000 in
theorem gX5_dot_X5_splitsAt : GoodIn wsX5_dot (wsV RX5 119 RX5 yX5_splitsAt wsX5_splitsAt) := goodIn_app (goodIn_of _ (by decide +kernel)) ggX5_dot_X5_splitsAt
theorem dX5_dot_0 : decode cX5_dot 0 = .ok (.iload_n 1, 1) := by decide +kernel
theorem dX5_dot_1 : decode cX5_dot 1 = .ok (.invokestatic 88, 3) := by decide +kernel
theorem dX5_dot_4 : decode cX5_dot 4 = .ok (.ifCond .eq 10, 3) := by decide +kernel
theorem dX5_dot_7 : decode cX5_dot 7 = .ok (.iload_n 2, 1) := by decide +kernel
theorem dX5_dot_8 : decode cX5_dot 8 = .ok (.invokestatic 88, 3) := by decide +kernel
theorem dX5_dot_11 : decode cX5_dot 11 = .ok (.ifCond .ne 6, 3) := by decide +kernel
theorem dX5_dot_14 : decode cX5_dot 14 = .ok (.ldc 92, 2) := by decide +kernel
theorem dX5_dot_16 : decode cX5_dot 16 = .ok (.ireturn, 1) := by decide +kernel
theorem dX5_dot_17 : decode cX5_dot 17 = .ok (.aload_n 0, 1) := by decide +kernel
theorem dX5_dot_18 : decode cX5_dot 18 = .ok (.getfield 12, 3) := by decide +kernel
theorem dX5_dot_21 : decode cX5_dot 21 = .ok (.iload_n 1, 1) := by decide +kernel
theorem dX5_dot_22 : decode cX5_dot 22 = .ok (.iload_n 2, 1) := by decide +kernel
theorem dX5_dot_23 : decode cX5_dot 23 = .ok (.invokevirtual 100, 3) := by decide +kernel
theorem dX5_dot_26 : decode cX5_dot 26 = .ok (.istore 4, 2) := by decide +kernel
theorem dX5_dot_28 : decode cX5_dot 28 = .ok (.iload_n 3, 1) := by decide +kernel
theorem dX5_dot_29 : decode cX5_dot 29 = .ok (.tableswitch 115 0 4 #[35, 46, 56, 66, 92], 35) := by decide +kernel
theorem dX5_dot_64 : decode cX5_dot 64 = .ok (.iload 4, 2) := by decide +kernel
theorem dX5_dot_66 : decode cX5_dot 66 = .ok (.ifCond .eq 7, 3) := by decide +kernel
theorem dX5_dot_69 : decode cX5_dot 69 = .ok (.iconst 1, 1) := by decide +kernel
theorem dX5_dot_70 : decode cX5_dot 70 = .ok (.goto 4, 3) := by decide +kernel
theorem dX5_dot_73 : decode cX5_dot 73 = .ok (.iconst 0, 1) := by decide +kernel
theorem dX5_dot_74 : decode cX5_dot 74 = .ok (.ireturn, 1) := by decide +kernel
theorem dX5_dot_75 : decode cX5_dot 75 = .ok (.aload_n 0, 1) := by decide +kernel
theorem dX5_dot_76 : decode cX5_dot 76 = .ok (.invokevirtual 59, 3) := by decide +kernel
theorem dX5_dot_79 : decode cX5_dot 79 = .ok (.iload_n 1, 1) := by decide +kernel
theorem dX5_dot_80 : decode cX5_dot 80 = .ok (.iload_n 2, 1) := by decide +kernel
theorem dX5_dot_81 : decode cX5_dot 81 = .ok (.invokevirtual 104, 3) := by decide +kernel
theorem dX5_dot_84 : decode cX5_dot 84 = .ok (.ireturn, 1) := by decide +kernel
theorem dX5_dot_85 : decode cX5_dot 85 = .ok (.aload_n 0, 1) := by decide +kernel
theorem dX5_dot_86 : decode cX5_dot 86 = .ok (.invokevirtual 59, 3) := by decide +kernel
theorem dX5_dot_89 : decode cX5_dot 89 = .ok (.iload_n 1, 1) := by decide +kernel
theorem dX5_dot_90 : decode cX5_dot 90 = .ok (.iload_n 2, 1) := by decide +kernel
theorem dX5_dot_91 : decode cX5_dot 91 = .ok (.invokevirtual 108, 3) := by decide +kernel
theorem dX5_dot_94 : decode cX5_dot 94 = .ok (.ireturn, 1) := by decide +kernel
theorem dX5_dot_95 : decode cX5_dot 95 = .ok (.iload 4, 2) := by decide +kernel
theorem dX5_dot_97 : decode cX5_dot 97 = .ok (.ifCond .eq 7, 3) := by decide +kernel
theorem dX5_dot_100 : decode cX5_dot 100 = .ok (.iconst (-1), 1) := by decide +kernel
theorem dX5_dot_101 : decode cX5_dot 101 = .ok (.goto 19, 3) := by decide +kernel
theorem dX5_dot_104 : decode cX5_dot 104 = .ok (.aload_n 0, 1) := by decide +kernel
theorem dX5_dot_105 : decode cX5_dot 105 = .ok (.invokevirtual 59, 3) := by decide +kernel
theorem dX5_dot_108 : decode cX5_dot 108 = .ok (.iload_n 1, 1) := by decide +kernel
theorem dX5_dot_109 : decode cX5_dot 109 = .ok (.iload_n 2, 1) := by decide +kernel
theorem dX5_dot_110 : decode cX5_dot 110 = .ok (.aload_n 0, 1) := by decide +kernel
theorem dX5_dot_111 : decode cX5_dot 111 = .ok (.getfield 12, 3) := by decide +kernel
theorem dX5_dot_114 : decode cX5_dot 114 = .ok (.invokevirtual 111, 3) := by decide +kernel
theorem dX5_dot_117 : decode cX5_dot 117 = .ok (.invokevirtual 115, 3) := by decide +kernel
theorem dX5_dot_120 : decode cX5_dot 120 = .ok (.ireturn, 1) := by decide +kernel
theorem dX5_dot_121 : decode cX5_dot 121 = .ok (.iload 4, 2) := by decide +kernel
theorem dX5_dot_123 : decode cX5_dot 123 = .ok (.ifCond .eq 19, 3) := by decide +kernel
theorem dX5_dot_126 : decode cX5_dot 126 = .ok (.aload_n 0, 1) := by decide +kernel
theorem dX5_dot_127 : decode cX5_dot 127 = .ok (.iload_n 1, 1) := by decide +kernel
theorem dX5_dot_128 : decode cX5_dot 128 = .ok (.iload_n 2, 1) := by decide +kernel
theorem dX5_dot_129 : decode cX5_dot 129 = .ok (.aload_n 0, 1) := by decide +kernel
theorem dX5_dot_130 : decode cX5_dot 130 = .ok (.invokevirtual 59, 3) := by decide +kernel
theorem dX5_dot_133 : decode cX5_dot 133 = .ok (.getfield 63, 3) := by decide +kernel
theorem dX5_dot_136 : decode cX5_dot 136 = .ok (.invokevirtual 119, 3) := by decide +kernel
theorem dX5_dot_139 : decode cX5_dot 139 = .ok (.goto 4, 3) := by decide +kernel
theorem dX5_dot_142 : decode cX5_dot 142 = .ok (.iconst (-1), 1) := by decide +kernel
theorem dX5_dot_143 : decode cX5_dot 143 = .ok (.ireturn, 1) := by decide +kernel
theorem dX5_dot_144 : decode cX5_dot 144 = .ok (.ldc 87, 2) := by decide +kernel
theorem dX5_dot_146 : decode cX5_dot 146 = .ok (.ireturn, 1) := by decide +kernel
set_option maxRecDepth 20000 in
theorem ggX5_part_X5_parted : GoodIn wsX5_part wsX5_parted := goodIn_r _ [7, 8, 9, 10, 11, 12, 13, 14, 15, 16, 17, 18, 19, 20, 21, 22, 23, 24, 25, 26, 27, 28, 29, 30, 31, 32, 33, 34, 35, 36, 37, 38, 39, 40, 41, 42, 43, 44, 45, 46, 47, 48, 49, 50, 51, 52, 53, 54, 55, 56, 57, 58, 59, 60, 61, 62, 63, 64, 65, 66, 67, 68, 69, 70, 71, 72, 73, 74, 75, 76, 77, 78, 79, 80, 81, 82, 83, 84, 85, 86, 87, 88, 89, 90, 91, 92, 93, 94, 95, 96, 97, 98, 99, 100, 101, 102, 103, 104, 105, 106, 107, 108, 109, 110, 111, 112, 113, 114, 115, 116, 117, 118, 119, 120, 121, 122, 123, 124, 125, 126, 127, 128, 129, 130, 131, 132, 133, 134, 135, 136, 137, 138, 139, 140, 141, 142, 220, 221, 222, 223, 224, 225, 226, 227, 228, 229, 230, 231, 232, 233, 234, 235, 236, 237, 238, 239, 240, 241, 242, 243, 244, 245, 246, 247, 248, 249, 250, 251] (by decide +kernel) (by decide +kernel)
set_option maxRecDepth 20000 in
theorem gX5_part_X5_parted : GoodIn wsX5_part (wsV RX5 59 RX5 yX5_parted wsX5_parted) := goodIn_app (goodIn_of _ (by decide +kernel)) ggX5_part_X5_parted
set_option maxRecDepth 20000 in
theorem ggX5_part_X1_hasPart : GoodIn wsX5_part wsX1_hasPart := goodIn_r _ [146, 17, 227, 228, 229, 230, 231, 232, 233, 234, 235, 236, 237, 238, 239, 240] (by decide +kernel) (by decide +kernel)
set_option maxRecDepth 20000 in
theorem gX5_part_X1_hasPart : GoodIn wsX5_part (wsV RX5 123 RX1 yX1_hasPart wsX1_hasPart) := goodIn_app (goodIn_of _ (by decide +kernel)) ggX5_part_X1_hasPart
set_option maxRecDepth 20000 in
theorem ggX5_part_X1_groupOfPart : GoodIn wsX5_part wsX1_groupOfPart := goodIn_r _ [150, 141, 227, 228, 229, 230, 231, 232, 233, 234, 235, 236, 237, 238, 239, 240] (by decide +kernel) (by decide +kernel)
set_option maxRecDepth 20000 in
theorem gX5_part_X1_groupOfPart : GoodIn wsX5_part (wsV RX5 126 RX1 yX1_groupOfPart wsX1_groupOfPart) := goodIn_app (goodIn_of _ (by decide +kernel)) ggX5_part_X1_groupOfPart
set_option maxRecDepth 20000 in
theorem ggX5_part_X1_sizeOf : GoodIn wsX5_part wsX1_sizeOf := goodIn_r _ [154, 100, 227, 228, 229, 230, 231, 232, 233, 234, 235, 236, 237, 238, 239, 240] (by decide +kernel) (by decide +kernel)
set_option maxRecDepth 20000 in
theorem gX5_part_X1_sizeOf : GoodIn wsX5_part (wsV RX5 129 RX1 yX1_sizeOf wsX1_sizeOf) := goodIn_app (goodIn_of _ (by decide +kernel)) ggX5_part_X1_sizeOf
set_option maxRecDepth 20000 in
theorem ggX5_part_X1_rimOf : GoodIn wsX5_part wsX1_rimOf := goodIn_r _ [158, 101, 227, 228, 229, 230, 231, 232, 233, 234, 235, 236, 237, 238, 239, 240] (by decide +kernel) (by decide +kernel)
set_option maxRecDepth 20000 in
theorem gX5_part_X1_rimOf : GoodIn wsX5_part (wsV RX5 132 RX1 yX1_rimOf wsX1_rimOf) := goodIn_app (goodIn_of _ (by decide +kernel)) ggX5_part_X1_rimOf
set_option maxRecDepth 20000 in
theorem ggX5_part_X1_topOf : GoodIn wsX5_part wsX1_topOf := goodIn_r _ [162, 16, 108, 109, 110, 23, 111, 43, 227, 228, 229, 230, 231, 232, 233, 234, 235, 236, 237, 238, 239, 240, 241, 242, 243, 244, 245, 246, 247, 248] (by decide +kernel) (by decide +kernel)
set_option maxRecDepth 20000 in
theorem gX5_part_X1_topOf : GoodIn wsX5_part (wsV RX5 135 RX1 yX1_topOf wsX1_topOf) := goodIn_app (goodIn_of _ (by decide +kernel)) ggX5_part_X1_topOf
set_option maxRecDepth 20000 in
theorem ggX5_part_X1_bottomOf : GoodIn wsX5_part wsX1_bottomOf := goodIn_r _ [166, 102, 227, 228, 229, 230, 231, 232, 233, 234, 235, 236, 237, 238, 239, 240] (by decide +kernel) (by decide +kernel)
set_option maxRecDepth 20000 in
theorem gX5_part_X1_bottomOf : GoodIn wsX5_part (wsV RX5 138 RX1 yX1_bottomOf wsX1_bottomOf) := goodIn_app (goodIn_of _ (by decide +kernel)) ggX5_part_X1_bottomOf
set_option maxRecDepth 20000 in
theorem ggX5_part_X1_leftOf : GoodIn wsX5_part wsX1_leftOf := goodIn_r _ [170, 103, 227, 228, 229, 230, 231, 232, 233, 234, 235, 236, 237, 238, 239, 240] (by decide +kernel) (by decide +kernel)
set_option maxRecDepth 20000 in
theorem gX5_part_X1_leftOf : GoodIn wsX5_part (wsV RX5 141 RX1 yX1_leftOf wsX1_leftOf) := goodIn_app (goodIn_of _ (by decide +kernel)) ggX5_part_X1_leftOf
set_option maxRecDepth 20000 in
theorem ggX5_part_X1_rightOf : GoodIn wsX5_part wsX1_rightOf := goodIn_r _ [174, 105, 227, 228, 229, 230, 231, 232, 233, 234, 235, 236, 237, 238, 239, 240] (by decide +kernel) (by decide +kernel)
set_option maxRecDepth 20000 in
theorem gX5_part_X1_rightOf : GoodIn wsX5_part (wsV RX5 144 RX1 yX1_rightOf wsX1_rightOf) := goodIn_app (goodIn_of _ (by decide +kernel)) ggX5_part_X1_rightOf
set_option maxRecDepth 20000 in
theorem ggX5_part_X1_holesOfPart : GoodIn wsX5_part wsX1_holesOfPart := goodIn_r _ [178, 18, 179, 180, 181, 14, 182, 16, 183, 184, 185, 186, 142, 108, 109, 110, 23, 111, 43, 112, 66, 67, 68, 44, 187, 188, 189, 190, 191, 192, 193, 194, 140, 195, 6, 196, 197, 198, 199, 200, 26, 27, 201, 130, 131, 132, 133, 134, 135, 119, 62, 63, 64, 46, 114, 93, 94, 95, 47, 227, 228, 229, 230, 231, 232, 233, 234, 235, 236, 237, 238, 239, 240, 241, 242, 243, 244, 245, 246, 247, 248] (by decide +kernel) (by decide +kernel)
set_option maxRecDepth 20000 in
theorem gX5_part_X1_holesOfPart : GoodIn wsX5_part (wsV RX5 147 RX1 yX1_holesOfPart wsX1_holesOfPart) := goodIn_app (goodIn_of _ (by decide +kernel)) ggX5_part_X1_holesOfPart
set_option maxRecDepth 20000 in
theorem ggX5_part_X1_holeAround : GoodIn wsX5_part wsX1_holeAround := goodIn_r _ [205, 16, 206, 148, 149, 14, 150, 141, 108, 109, 110, 23, 111, 43, 112, 66, 67, 68, 44, 207, 208, 209, 210, 191, 192, 193, 194, 140, 195, 6, 196, 197, 198, 199, 200, 26, 27, 201, 130, 131, 132, 133, 134, 135, 119, 62, 63, 64, 46, 114, 93, 94, 95, 47, 227, 228, 229, 230, 231, 232, 233, 234, 235, 236, 237, 238, 239, 240, 241, 242, 243, 244, 245, 246, 247, 248] (by decide +kernel) (by decide +kernel)
set_option maxRecDepth 20000 in
theorem gX5_part_X1_holeAround : GoodIn wsX5_part (wsV RX5 150 RX1 yX1_holeAround wsX1_holeAround) := goodIn_app (goodIn_of _ (by decide +kernel)) ggX5_part_X1_holeAround
set_option maxRecDepth 20000 in
theorem ggX5_part_X1_depthOf : GoodIn wsX5_part wsX1_depthOf := goodIn_r _ [214, 215, 203, 204, 14, 205, 16, 206, 148, 149, 150, 141, 108, 109, 110, 23, 111, 43, 112, 66, 67, 68, 44, 207, 208, 209, 210, 191, 192, 193, 194, 140, 195, 6, 196, 197, 198, 199, 200, 26, 27, 201, 130, 131, 132, 133, 134, 135, 119, 62, 63, 64, 46, 114, 93, 94, 95, 47, 179, 180, 181, 182, 183, 184, 185, 186, 142, 187, 188, 189, 190, 227, 228, 229, 230, 231, 232, 233, 234, 235, 236, 237, 238, 239, 240, 241, 242, 243, 244, 245, 246, 247, 248] (by decide +kernel) (by decide +kernel)
set_option maxRecDepth 20000 in
theorem gX5_part_X1_depthOf : GoodIn wsX5_part (wsV RX5 153 RX1 yX1_depthOf wsX1_depthOf) := goodIn_app (goodIn_of _ (by decide +kernel)) ggX5_part_X1_depthOf
set_option maxRecDepth 20000 in
theorem ggX5_part_X1_leastPlaceOf : GoodIn wsX5_part wsX1_leastPlaceOf := goodIn_r _ [219, 16, 108, 109, 110, 23, 111, 43, 112, 66, 67, 68, 44, 227, 228, 229, 230, 231, 232, 233, 234, 235, 236, 237, 238, 239, 240, 241, 242, 243, 244, 245, 246, 247, 248] (by decide +kernel) (by decide +kernel)
set_option maxRecDepth 20000 in
theorem gX5_part_X1_leastPlaceOf : GoodIn wsX5_part (wsV RX5 156 RX1 yX1_leastPlaceOf wsX1_leastPlaceOf) := goodIn_app (goodIn_of _ (by decide +kernel)) ggX5_part_X1_leastPlaceOf
theorem dX5_part_0 : decode cX5_part 0 = .ok (.aload_n 0, 1) := by decide +kernel
theorem dX5_part_1 : decode cX5_part 1 = .ok (.invokevirtual 59, 3) := by decide +kernel
theorem dX5_part_4 : decode cX5_part 4 = .ok (.astore_n 3, 1) := by decide +kernel
theorem dX5_part_5 : decode cX5_part 5 = .ok (.aload_n 3, 1) := by decide +kernel
theorem dX5_part_6 : decode cX5_part 6 = .ok (.iload_n 1, 1) := by decide +kernel
theorem dX5_part_7 : decode cX5_part 7 = .ok (.invokevirtual 123, 3) := by decide +kernel
theorem dX5_part_10 : decode cX5_part 10 = .ok (.ifCond .ne 6, 3) := by decide +kernel
theorem dX5_part_13 : decode cX5_part 13 = .ok (.ldc 92, 2) := by decide +kernel
theorem dX5_part_15 : decode cX5_part 15 = .ok (.ireturn, 1) := by decide +kernel
theorem dX5_part_16 : decode cX5_part 16 = .ok (.aload_n 3, 1) := by decide +kernel
theorem dX5_part_17 : decode cX5_part 17 = .ok (.iload_n 1, 1) := by decide +kernel
theorem dX5_part_18 : decode cX5_part 18 = .ok (.invokevirtual 126, 3) := by decide +kernel
theorem dX5_part_21 : decode cX5_part 21 = .ok (.istore 4, 2) := by decide +kernel
theorem dX5_part_23 : decode cX5_part 23 = .ok (.iload_n 2, 1) := by decide +kernel
theorem dX5_part_24 : decode cX5_part 24 = .ok (.tableswitch 123 0 9 #[56, 63, 70, 77, 84, 91, 98, 104, 110, 116], 56) := by decide +kernel
theorem dX5_part_80 : decode cX5_part 80 = .ok (.aload_n 3, 1) := by decide +kernel
theorem dX5_part_81 : decode cX5_part 81 = .ok (.iload 4, 2) := by decide +kernel
theorem dX5_part_83 : decode cX5_part 83 = .ok (.invokevirtual 129, 3) := by decide +kernel
theorem dX5_part_86 : decode cX5_part 86 = .ok (.ireturn, 1) := by decide +kernel
theorem dX5_part_87 : decode cX5_part 87 = .ok (.aload_n 3, 1) := by decide +kernel
theorem dX5_part_88 : decode cX5_part 88 = .ok (.iload 4, 2) := by decide +kernel
theorem dX5_part_90 : decode cX5_part 90 = .ok (.invokevirtual 132, 3) := by decide +kernel
theorem dX5_part_93 : decode cX5_part 93 = .ok (.ireturn, 1) := by decide +kernel
theorem dX5_part_94 : decode cX5_part 94 = .ok (.aload_n 3, 1) := by decide +kernel
theorem dX5_part_95 : decode cX5_part 95 = .ok (.iload 4, 2) := by decide +kernel
theorem dX5_part_97 : decode cX5_part 97 = .ok (.invokevirtual 135, 3) := by decide +kernel
theorem dX5_part_100 : decode cX5_part 100 = .ok (.ireturn, 1) := by decide +kernel
theorem dX5_part_101 : decode cX5_part 101 = .ok (.aload_n 3, 1) := by decide +kernel
theorem dX5_part_102 : decode cX5_part 102 = .ok (.iload 4, 2) := by decide +kernel
theorem dX5_part_104 : decode cX5_part 104 = .ok (.invokevirtual 138, 3) := by decide +kernel
theorem dX5_part_107 : decode cX5_part 107 = .ok (.ireturn, 1) := by decide +kernel
theorem dX5_part_108 : decode cX5_part 108 = .ok (.aload_n 3, 1) := by decide +kernel
theorem dX5_part_109 : decode cX5_part 109 = .ok (.iload 4, 2) := by decide +kernel
theorem dX5_part_111 : decode cX5_part 111 = .ok (.invokevirtual 141, 3) := by decide +kernel
theorem dX5_part_114 : decode cX5_part 114 = .ok (.ireturn, 1) := by decide +kernel
theorem dX5_part_115 : decode cX5_part 115 = .ok (.aload_n 3, 1) := by decide +kernel
theorem dX5_part_116 : decode cX5_part 116 = .ok (.iload 4, 2) := by decide +kernel
theorem dX5_part_118 : decode cX5_part 118 = .ok (.invokevirtual 144, 3) := by decide +kernel
theorem dX5_part_121 : decode cX5_part 121 = .ok (.ireturn, 1) := by decide +kernel
theorem dX5_part_122 : decode cX5_part 122 = .ok (.aload_n 3, 1) := by decide +kernel
theorem dX5_part_123 : decode cX5_part 123 = .ok (.iload_n 1, 1) := by decide +kernel
theorem dX5_part_124 : decode cX5_part 124 = .ok (.invokevirtual 147, 3) := by decide +kernel
theorem dX5_part_127 : decode cX5_part 127 = .ok (.ireturn, 1) := by decide +kernel
theorem dX5_part_128 : decode cX5_part 128 = .ok (.aload_n 3, 1) := by decide +kernel
theorem dX5_part_129 : decode cX5_part 129 = .ok (.iload_n 1, 1) := by decide +kernel
theorem dX5_part_130 : decode cX5_part 130 = .ok (.invokevirtual 150, 3) := by decide +kernel
theorem dX5_part_133 : decode cX5_part 133 = .ok (.ireturn, 1) := by decide +kernel
theorem dX5_part_134 : decode cX5_part 134 = .ok (.aload_n 3, 1) := by decide +kernel
theorem dX5_part_135 : decode cX5_part 135 = .ok (.iload_n 1, 1) := by decide +kernel
theorem dX5_part_136 : decode cX5_part 136 = .ok (.invokevirtual 153, 3) := by decide +kernel
theorem dX5_part_139 : decode cX5_part 139 = .ok (.ireturn, 1) := by decide +kernel
theorem dX5_part_140 : decode cX5_part 140 = .ok (.aload_n 3, 1) := by decide +kernel
theorem dX5_part_141 : decode cX5_part 141 = .ok (.iload 4, 2) := by decide +kernel
theorem dX5_part_143 : decode cX5_part 143 = .ok (.invokevirtual 156, 3) := by decide +kernel
theorem dX5_part_146 : decode cX5_part 146 = .ok (.ireturn, 1) := by decide +kernel
theorem dX5_part_147 : decode cX5_part 147 = .ok (.ldc 87, 2) := by decide +kernel
theorem dX5_part_149 : decode cX5_part 149 = .ok (.ireturn, 1) := by decide +kernel
set_option maxRecDepth 20000 in
theorem ggX5_hole_X5_parted : GoodIn wsX5_hole wsX5_parted := goodIn_r _ [7, 8, 9, 10, 11, 12, 13, 14, 15, 16, 17, 18, 19, 20, 21, 22, 23, 24, 25, 26, 27, 28, 29, 30, 31, 32, 33, 34, 35, 36, 37, 38, 39, 40, 41, 42, 43, 44, 45, 46, 47, 48, 49, 50, 51, 52, 53, 54, 55, 56, 57, 58, 59, 60, 61, 62, 63, 64, 65, 66, 67, 68, 69, 70, 71, 72, 73, 74, 75, 76, 77, 78, 79, 80, 81, 82, 83, 84, 85, 86, 87, 88, 89, 90, 91, 92, 93, 94, 95, 96, 97, 98, 99, 100, 101, 102, 103, 104, 105, 106, 107, 108, 109, 110, 111, 112, 113, 114, 115, 116, 117, 118, 119, 120, 121, 122, 123, 124, 125, 126, 127, 128, 129, 130, 131, 132, 133, 134, 135, 136, 137, 138, 139, 140, 141, 142, 195, 196, 197, 198, 199, 200, 201, 202, 203, 204, 205, 206, 207, 208, 209, 210, 211, 212, 213, 214, 215, 216, 217, 218, 219, 220, 221, 222, 223, 224, 225, 226] (by decide +kernel) (by decide +kernel)
set_option maxRecDepth 20000 in
theorem gX5_hole_X5_parted : GoodIn wsX5_hole (wsV RX5 59 RX5 yX5_parted wsX5_parted) := goodIn_app (goodIn_of _ (by decide +kernel)) ggX5_hole_X5_parted
set_option maxRecDepth 20000 in
theorem ggX5_hole_X1_hasHole : GoodIn wsX5_hole wsX1_hasHole := goodIn_r _ [146, 18, 202, 203, 204, 205, 206, 207, 208, 209, 210, 211, 212, 213, 214, 215] (by decide +kernel) (by decide +kernel)
set_option maxRecDepth 20000 in
theorem gX5_hole_X1_hasHole : GoodIn wsX5_hole (wsV RX5 159 RX1 yX1_hasHole wsX1_hasHole) := goodIn_app (goodIn_of _ (by decide +kernel)) ggX5_hole_X1_hasHole
set_option maxRecDepth 20000 in
theorem ggX5_hole_X1_groupOfHole : GoodIn wsX5_hole wsX1_groupOfHole := goodIn_r _ [150, 142, 202, 203, 204, 205, 206, 207, 208, 209, 210, 211, 212, 213, 214, 215] (by decide +kernel) (by decide +kernel)
set_option maxRecDepth 20000 in
theorem gX5_hole_X1_groupOfHole : GoodIn wsX5_hole (wsV RX5 162 RX1 yX1_groupOfHole wsX1_groupOfHole) := goodIn_app (goodIn_of _ (by decide +kernel)) ggX5_hole_X1_groupOfHole
set_option maxRecDepth 20000 in
theorem ggX5_hole_X1_sizeOf : GoodIn wsX5_hole wsX1_sizeOf := goodIn_r _ [154, 100, 202, 203, 204, 205, 206, 207, 208, 209, 210, 211, 212, 213, 214, 215] (by decide +kernel) (by decide +kernel)
set_option maxRecDepth 20000 in
theorem gX5_hole_X1_sizeOf : GoodIn wsX5_hole (wsV RX5 129 RX1 yX1_sizeOf wsX1_sizeOf) := goodIn_app (goodIn_of _ (by decide +kernel)) ggX5_hole_X1_sizeOf
set_option maxRecDepth 20000 in
theorem ggX5_hole_X1_partAround : GoodIn wsX5_hole wsX1_partAround := goodIn_r _ [158, 16, 159, 148, 149, 14, 150, 142, 108, 109, 110, 23, 111, 43, 112, 66, 67, 68, 44, 160, 161, 162, 163, 164, 165, 166, 167, 140, 168, 6, 169, 170, 171, 172, 173, 26, 27, 174, 130, 131, 132, 133, 134, 135, 119, 62, 63, 64, 46, 114, 93, 94, 95, 47, 202, 203, 204, 205, 206, 207, 208, 209, 210, 211, 212, 213, 214, 215, 216, 217, 218, 219, 220, 221, 222, 223] (by decide +kernel) (by decide +kernel)
set_option maxRecDepth 20000 in
theorem gX5_hole_X1_partAround : GoodIn wsX5_hole (wsV RX5 165 RX1 yX1_partAround wsX1_partAround) := goodIn_app (goodIn_of _ (by decide +kernel)) ggX5_hole_X1_partAround
set_option maxRecDepth 20000 in
theorem ggX5_hole_X1_partsInHole : GoodIn wsX5_hole wsX1_partsInHole := goodIn_r _ [178, 17, 179, 180, 181, 14, 182, 16, 183, 184, 185, 186, 141, 108, 109, 110, 23, 111, 43, 112, 66, 67, 68, 44, 187, 188, 189, 190, 164, 165, 166, 167, 140, 168, 6, 169, 170, 171, 172, 173, 26, 27, 174, 130, 131, 132, 133, 134, 135, 119, 62, 63, 64, 46, 114, 93, 94, 95, 47, 202, 203, 204, 205, 206, 207, 208, 209, 210, 211, 212, 213, 214, 215, 216, 217, 218, 219, 220, 221, 222, 223] (by decide +kernel) (by decide +kernel)
set_option maxRecDepth 20000 in
theorem gX5_hole_X1_partsInHole : GoodIn wsX5_hole (wsV RX5 168 RX1 yX1_partsInHole wsX1_partsInHole) := goodIn_app (goodIn_of _ (by decide +kernel)) ggX5_hole_X1_partsInHole
set_option maxRecDepth 20000 in
theorem ggX5_hole_X1_leastPlaceOf : GoodIn wsX5_hole wsX1_leastPlaceOf := goodIn_r _ [194, 16, 108, 109, 110, 23, 111, 43, 112, 66, 67, 68, 44, 202, 203, 204, 205, 206, 207, 208, 209, 210, 211, 212, 213, 214, 215, 216, 217, 218, 219, 220, 221, 222, 223] (by decide +kernel) (by decide +kernel)
set_option maxRecDepth 20000 in
theorem gX5_hole_X1_leastPlaceOf : GoodIn wsX5_hole (wsV RX5 156 RX1 yX1_leastPlaceOf wsX1_leastPlaceOf) := goodIn_app (goodIn_of _ (by decide +kernel)) ggX5_hole_X1_leastPlaceOf
theorem dX5_hole_0 : decode cX5_hole 0 = .ok (.aload_n 0, 1) := by decide +kernel
theorem dX5_hole_1 : decode cX5_hole 1 = .ok (.invokevirtual 59, 3) := by decide +kernel
theorem dX5_hole_4 : decode cX5_hole 4 = .ok (.astore_n 3, 1) := by decide +kernel
theorem dX5_hole_5 : decode cX5_hole 5 = .ok (.aload_n 3, 1) := by decide +kernel
theorem dX5_hole_6 : decode cX5_hole 6 = .ok (.iload_n 1, 1) := by decide +kernel
theorem dX5_hole_7 : decode cX5_hole 7 = .ok (.invokevirtual 159, 3) := by decide +kernel
theorem dX5_hole_10 : decode cX5_hole 10 = .ok (.ifCond .ne 6, 3) := by decide +kernel
theorem dX5_hole_13 : decode cX5_hole 13 = .ok (.ldc 92, 2) := by decide +kernel
theorem dX5_hole_15 : decode cX5_hole 15 = .ok (.ireturn, 1) := by decide +kernel
theorem dX5_hole_16 : decode cX5_hole 16 = .ok (.aload_n 3, 1) := by decide +kernel
theorem dX5_hole_17 : decode cX5_hole 17 = .ok (.iload_n 1, 1) := by decide +kernel
theorem dX5_hole_18 : decode cX5_hole 18 = .ok (.invokevirtual 162, 3) := by decide +kernel
theorem dX5_hole_21 : decode cX5_hole 21 = .ok (.istore 4, 2) := by decide +kernel
theorem dX5_hole_23 : decode cX5_hole 23 = .ok (.iload_n 2, 1) := by decide +kernel
theorem dX5_hole_24 : decode cX5_hole 24 = .ok (.tableswitch 58 0 3 #[32, 39, 45, 51], 32) := by decide +kernel
theorem dX5_hole_56 : decode cX5_hole 56 = .ok (.aload_n 3, 1) := by decide +kernel
theorem dX5_hole_57 : decode cX5_hole 57 = .ok (.iload 4, 2) := by decide +kernel
theorem dX5_hole_59 : decode cX5_hole 59 = .ok (.invokevirtual 129, 3) := by decide +kernel
theorem dX5_hole_62 : decode cX5_hole 62 = .ok (.ireturn, 1) := by decide +kernel
theorem dX5_hole_63 : decode cX5_hole 63 = .ok (.aload_n 3, 1) := by decide +kernel
theorem dX5_hole_64 : decode cX5_hole 64 = .ok (.iload_n 1, 1) := by decide +kernel
theorem dX5_hole_65 : decode cX5_hole 65 = .ok (.invokevirtual 165, 3) := by decide +kernel
theorem dX5_hole_68 : decode cX5_hole 68 = .ok (.ireturn, 1) := by decide +kernel
theorem dX5_hole_69 : decode cX5_hole 69 = .ok (.aload_n 3, 1) := by decide +kernel
theorem dX5_hole_70 : decode cX5_hole 70 = .ok (.iload_n 1, 1) := by decide +kernel
theorem dX5_hole_71 : decode cX5_hole 71 = .ok (.invokevirtual 168, 3) := by decide +kernel
theorem dX5_hole_74 : decode cX5_hole 74 = .ok (.ireturn, 1) := by decide +kernel
theorem dX5_hole_75 : decode cX5_hole 75 = .ok (.aload_n 3, 1) := by decide +kernel
theorem dX5_hole_76 : decode cX5_hole 76 = .ok (.iload 4, 2) := by decide +kernel
theorem dX5_hole_78 : decode cX5_hole 78 = .ok (.invokevirtual 156, 3) := by decide +kernel
theorem dX5_hole_81 : decode cX5_hole 81 = .ok (.ireturn, 1) := by decide +kernel
theorem dX5_hole_82 : decode cX5_hole 82 = .ok (.ldc 87, 2) := by decide +kernel
theorem dX5_hole_84 : decode cX5_hole 84 = .ok (.ireturn, 1) := by decide +kernel
set_option maxRecDepth 20000 in
theorem ggX5_row_X5_isLine : GoodIn wsX5_row wsX5_isLine := goodIn_r _ [8] (by decide +kernel) (by decide +kernel)
set_option maxRecDepth 20000 in
theorem gX5_row_X5_isLine : GoodIn wsX5_row (va_wsS RX5 88 yX5_isLine wsX5_isLine) := goodIn_app (goodIn_of _ (by decide +kernel)) ggX5_row_X5_isLine
set_option maxRecDepth 20000 in
theorem ggX5_row_X5_remember : GoodIn wsX5_row wsX5_remember := goodIn_r _ [12, 13, 4, 14, 15, 16, 17, 18, 19, 20, 21, 22, 23, 24, 25, 26, 27, 28, 29, 30, 31, 32, 33, 34, 35, 36, 37, 174, 175, 176, 177, 178, 179, 180, 195, 196, 197, 198, 199, 200] (by decide +kernel) (by decide +kernel)
set_option maxRecDepth 20000 in
theorem gX5_row_X5_remember : GoodIn wsX5_row (wsV RX5 172 RX5 yX5_remember wsX5_remember) := goodIn_app (goodIn_of _ (by decide +kernel)) ggX5_row_X5_remember
set_option maxRecDepth 20000 in
theorem ggX5_row_X3_putLine : GoodIn wsX5_row wsX3_putLine := goodIn_r _ [41, 32, 42, 198, 199, 200] (by decide +kernel) (by decide +kernel)
set_option maxRecDepth 20000 in
theorem gX5_row_X3_putLine : GoodIn wsX5_row (wsV RX5 175 RX3 yX3_putLine wsX3_putLine) := goodIn_app (goodIn_of _ (by decide +kernel)) ggX5_row_X3_putLine
set_option maxRecDepth 20000 in
theorem ggX5_row_X5_parted : GoodIn wsX5_row wsX5_parted := goodIn_r _ [46, 14, 47, 4, 48, 49, 50, 51, 52, 53, 54, 55, 56, 57, 58, 59, 60, 61, 62, 63, 64, 65, 66, 67, 68, 30, 69, 32, 70, 71, 72, 73, 74, 75, 76, 77, 78, 79, 80, 81, 82, 83, 84, 85, 86, 37, 87, 88, 89, 90, 91, 92, 93, 94, 95, 96, 97, 98, 99, 100, 101, 102, 103, 104, 105, 106, 107, 108, 109, 110, 111, 112, 25, 113, 114, 24, 26, 115, 116, 117, 118, 119, 120, 121, 122, 123, 124, 125, 126, 127, 128, 129, 130, 131, 132, 133, 134, 135, 136, 137, 138, 139, 140, 141, 142, 143, 144, 145, 146, 147, 148, 149, 150, 151, 152, 153, 154, 155, 156, 157, 158, 159, 160, 161, 162, 163, 164, 165, 166, 167, 168, 169, 170, 171, 172, 173, 174, 175, 176, 177, 178, 179, 180, 181, 182, 183, 184, 185, 186, 187, 188, 189, 190, 191, 192, 193, 194, 201, 202, 203, 204, 205, 206, 207, 208, 198, 199, 200] (by decide +kernel) (by decide +kernel)
set_option maxRecDepth 20000 in
theorem gX5_row_X5_parted : GoodIn wsX5_row (wsV RX5 59 RX5 yX5_parted wsX5_parted) := goodIn_app (goodIn_of _ (by decide +kernel)) ggX5_row_X5_parted
theorem dX5_row_0 : decode cX5_row 0 = .ok (.iload_n 1, 1) := by decide +kernel
theorem dX5_row_1 : decode cX5_row 1 = .ok (.invokestatic 88, 3) := by decide +kernel
theorem dX5_row_4 : decode cX5_row 4 = .ok (.ifCond .ne 6, 3) := by decide +kernel
theorem dX5_row_7 : decode cX5_row 7 = .ok (.ldc 92, 2) := by decide +kernel
theorem dX5_row_9 : decode cX5_row 9 = .ok (.ireturn, 1) := by decide +kernel
theorem dX5_row_10 : decode cX5_row 10 = .ok (.iload_n 2, 1) := by decide +kernel
theorem dX5_row_11 : decode cX5_row 11 = .ok (.ifCond .lt 9, 3) := by decide +kernel
theorem dX5_row_14 : decode cX5_row 14 = .ok (.iload_n 2, 1) := by decide +kernel
theorem dX5_row_15 : decode cX5_row 15 = .ok (.ldc 171, 2) := by decide +kernel
theorem dX5_row_17 : decode cX5_row 17 = .ok (.if_icmp .le 6, 3) := by decide +kernel
theorem dX5_row_20 : decode cX5_row 20 = .ok (.ldc 87, 2) := by decide +kernel
theorem dX5_row_22 : decode cX5_row 22 = .ok (.ireturn, 1) := by decide +kernel
theorem dX5_row_23 : decode cX5_row 23 = .ok (.aload_n 0, 1) := by decide +kernel
theorem dX5_row_24 : decode cX5_row 24 = .ok (.invokevirtual 172, 3) := by decide +kernel
theorem dX5_row_27 : decode cX5_row 27 = .ok (.aload_n 0, 1) := by decide +kernel
theorem dX5_row_28 : decode cX5_row 28 = .ok (.getfield 12, 3) := by decide +kernel
theorem dX5_row_31 : decode cX5_row 31 = .ok (.iload_n 1, 1) := by decide +kernel
theorem dX5_row_32 : decode cX5_row 32 = .ok (.iload_n 2, 1) := by decide +kernel
theorem dX5_row_33 : decode cX5_row 33 = .ok (.invokevirtual 175, 3) := by decide +kernel
theorem dX5_row_36 : decode cX5_row 36 = .ok (.aload_n 0, 1) := by decide +kernel
theorem dX5_row_37 : decode cX5_row 37 = .ok (.invokevirtual 59, 3) := by decide +kernel
theorem dX5_row_40 : decode cX5_row 40 = .ok (.getfield 63, 3) := by decide +kernel
theorem dX5_row_43 : decode cX5_row 43 = .ok (.ireturn, 1) := by decide +kernel
set_option maxRecDepth 20000 in
theorem ggX5_turn_X5_isLine : GoodIn wsX5_turn wsX5_isLine := goodIn_r _ [6] (by decide +kernel) (by decide +kernel)
set_option maxRecDepth 20000 in
theorem gX5_turn_X5_isLine : GoodIn wsX5_turn (va_wsS RX5 88 yX5_isLine wsX5_isLine) := goodIn_app (goodIn_of _ (by decide +kernel)) ggX5_turn_X5_isLine
set_option maxRecDepth 20000 in
theorem ggX5_turn_X5_remember : GoodIn wsX5_turn wsX5_remember := goodIn_r _ [10, 11, 2, 12, 13, 14, 15, 16, 17, 18, 19, 20, 21, 22, 23, 24, 25, 26, 27, 28, 29, 30, 31, 32, 33, 34, 35, 53, 54, 55, 56, 57, 58, 59, 60, 61, 62, 63, 64, 65] (by decide +kernel) (by decide +kernel)
set_option maxRecDepth 20000 in
theorem gX5_turn_X5_remember : GoodIn wsX5_turn (wsV RX5 172 RX5 yX5_remember wsX5_remember) := goodIn_app (goodIn_of _ (by decide +kernel)) ggX5_turn_X5_remember
set_option maxRecDepth 20000 in
theorem ggX5_turn_X3_flip : GoodIn wsX5_turn wsX3_flip := goodIn_r _ [39, 40, 41, 42, 28, 43, 30, 44, 45, 46, 47, 48, 63, 64, 65] (by decide +kernel) (by decide +kernel)
set_option maxRecDepth 20000 in
theorem gX5_turn_X3_flip : GoodIn wsX5_turn (wsV RX5 179 RX3 yX3_flip wsX3_flip) := goodIn_app (goodIn_of _ (by decide +kernel)) ggX5_turn_X3_flip
set_option maxRecDepth 20000 in
theorem ggX5_turn_X3_isDark : GoodIn wsX5_turn wsX3_isDark := goodIn_r _ [52, 40, 41, 42, 28, 43, 30, 63, 64, 65] (by decide +kernel) (by decide +kernel)
set_option maxRecDepth 20000 in
theorem gX5_turn_X3_isDark : GoodIn wsX5_turn (wsV RX5 100 RX3 yX3_isDark wsX3_isDark) := goodIn_app (goodIn_of _ (by decide +kernel)) ggX5_turn_X3_isDark
theorem dX5_turn_0 : decode cX5_turn 0 = .ok (.iload_n 1, 1) := by decide +kernel
theorem dX5_turn_1 : decode cX5_turn 1 = .ok (.invokestatic 88, 3) := by decide +kernel
theorem dX5_turn_4 : decode cX5_turn 4 = .ok (.ifCond .eq 10, 3) := by decide +kernel
theorem dX5_turn_7 : decode cX5_turn 7 = .ok (.iload_n 2, 1) := by decide +kernel
theorem dX5_turn_8 : decode cX5_turn 8 = .ok (.invokestatic 88, 3) := by decide +kernel
theorem dX5_turn_11 : decode cX5_turn 11 = .ok (.ifCond .ne 6, 3) := by decide +kernel
theorem dX5_turn_14 : decode cX5_turn 14 = .ok (.ldc 92, 2) := by decide +kernel
theorem dX5_turn_16 : decode cX5_turn 16 = .ok (.ireturn, 1) := by decide +kernel
theorem dX5_turn_17 : decode cX5_turn 17 = .ok (.aload_n 0, 1) := by decide +kernel
theorem dX5_turn_18 : decode cX5_turn 18 = .ok (.invokevirtual 172, 3) := by decide +kernel
theorem dX5_turn_21 : decode cX5_turn 21 = .ok (.aload_n 0, 1) := by decide +kernel
theorem dX5_turn_22 : decode cX5_turn 22 = .ok (.getfield 12, 3) := by decide +kernel
theorem dX5_turn_25 : decode cX5_turn 25 = .ok (.iload_n 1, 1) := by decide +kernel
theorem dX5_turn_26 : decode cX5_turn 26 = .ok (.iconst 1, 1) := by decide +kernel
theorem dX5_turn_27 : decode cX5_turn 27 = .ok (.iload_n 2, 1) := by decide +kernel
theorem dX5_turn_28 : decode cX5_turn 28 = .ok (.ishl, 1) := by decide +kernel
theorem dX5_turn_29 : decode cX5_turn 29 = .ok (.invokevirtual 179, 3) := by decide +kernel
theorem dX5_turn_32 : decode cX5_turn 32 = .ok (.aload_n 0, 1) := by decide +kernel
theorem dX5_turn_33 : decode cX5_turn 33 = .ok (.getfield 12, 3) := by decide +kernel
theorem dX5_turn_36 : decode cX5_turn 36 = .ok (.iload_n 1, 1) := by decide +kernel
theorem dX5_turn_37 : decode cX5_turn 37 = .ok (.iload_n 2, 1) := by decide +kernel
theorem dX5_turn_38 : decode cX5_turn 38 = .ok (.invokevirtual 100, 3) := by decide +kernel
theorem dX5_turn_41 : decode cX5_turn 41 = .ok (.ifCond .eq 7, 3) := by decide +kernel
theorem dX5_turn_44 : decode cX5_turn 44 = .ok (.iconst 1, 1) := by decide +kernel
theorem dX5_turn_45 : decode cX5_turn 45 = .ok (.goto 4, 3) := by decide +kernel
theorem dX5_turn_48 : decode cX5_turn 48 = .ok (.iconst 0, 1) := by decide +kernel
theorem dX5_turn_49 : decode cX5_turn 49 = .ok (.ireturn, 1) := by decide +kernel
set_option maxRecDepth 20000 in
theorem ggX5_wipe_X5_parted : GoodIn wsX5_wipe wsX5_parted := goodIn_r _ [6, 7, 8, 9, 10, 11, 12, 13, 14, 15, 16, 17, 18, 19, 20, 21, 22, 23, 24, 25, 26, 27, 28, 29, 30, 31, 32, 33, 34, 35, 36, 37, 38, 39, 40, 41, 42, 43, 44, 45, 46, 47, 48, 49, 50, 51, 52, 53, 54, 55, 56, 57, 58, 59, 60, 61, 62, 63, 64, 65, 66, 67, 68, 69, 70, 71, 72, 73, 74, 75, 76, 77, 78, 79, 80, 81, 82, 83, 84, 85, 86, 87, 88, 89, 90, 91, 92, 93, 94, 95, 96, 97, 98, 99, 100, 101, 102, 103, 104, 105, 106, 107, 108, 109, 110, 111, 112, 113, 114, 115, 116, 117, 118, 119, 120, 121, 122, 123, 124, 125, 126, 127, 128, 129, 130, 131, 132, 133, 134, 135, 136, 137, 138, 139, 140, 141, 193, 194, 195, 196, 197, 198, 199, 200, 201, 202, 203, 204, 205, 206, 207, 208, 209, 210, 211, 212, 213, 214, 215, 216, 217, 218, 219, 220, 221, 222, 223, 224] (by decide +kernel) (by decide +kernel)
set_option maxRecDepth 20000 in
theorem gX5_wipe_X5_parted : GoodIn wsX5_wipe (wsV RX5 59 RX5 yX5_parted wsX5_parted) := goodIn_app (goodIn_of _ (by decide +kernel)) ggX5_wipe_X5_parted
set_option maxRecDepth 20000 in
theorem ggX5_wipe_X1_hasPart : GoodIn wsX5_wipe wsX1_hasPart := goodIn_r _ [145, 16, 200, 201, 202, 203, 204, 205, 206, 207, 208, 209, 210, 211, 212, 213] (by decide +kernel) (by decide +kernel)
set_option maxRecDepth 20000 in
theorem gX5_wipe_X1_hasPart : GoodIn wsX5_wipe (wsV RX5 123 RX1 yX1_hasPart wsX1_hasPart) := goodIn_app (goodIn_of _ (by decide +kernel)) ggX5_wipe_X1_hasPart
set_option maxRecDepth 20000 in
theorem ggX5_wipe_X1_groupOfPart : GoodIn wsX5_wipe wsX1_groupOfPart := goodIn_r _ [149, 140, 200, 201, 202, 203, 204, 205, 206, 207, 208, 209, 210, 211, 212, 213] (by decide +kernel) (by decide +kernel)
set_option maxRecDepth 20000 in
theorem gX5_wipe_X1_groupOfPart : GoodIn wsX5_wipe (wsV RX5 126 RX1 yX1_groupOfPart wsX1_groupOfPart) := goodIn_app (goodIn_of _ (by decide +kernel)) ggX5_wipe_X1_groupOfPart
set_option maxRecDepth 20000 in
theorem ggX5_wipe_X5_flipGroup : GoodIn wsX5_wipe wsX5_flipGroup := goodIn_r _ [153, 8, 9, 154, 155, 156, 5, 157, 158, 7, 159, 160, 161, 162, 163, 164, 165, 166, 167, 81, 78, 82, 168, 169, 170, 31, 171, 33, 172, 173, 174, 175, 51, 176, 177, 178, 13, 179, 15, 113, 92, 93, 22, 94, 46, 107, 108, 109, 110, 42, 119, 120, 121, 122, 68, 69, 70, 71, 44, 64, 65, 66, 67, 43, 180, 181, 182, 183, 127, 29, 30, 32, 184, 185, 186, 187, 188, 189, 190, 191, 192, 99, 193, 194, 195, 196, 197, 198, 199, 225, 226, 227, 222, 223, 224, 200, 201, 202, 203, 204, 205, 206, 207, 208, 209, 210, 211, 212, 213, 214, 215, 216, 217, 218, 219, 220, 221] (by decide +kernel) (by decide +kernel)
set_option maxRecDepth 20000 in
theorem gX5_wipe_X5_flipGroup : GoodIn wsX5_wipe (wsV RX5 182 RX5 yX5_flipGroup wsX5_flipGroup) := goodIn_app (goodIn_of _ (by decide +kernel)) ggX5_wipe_X5_flipGroup
theorem dX5_wipe_0 : decode cX5_wipe 0 = .ok (.aload_n 0, 1) := by decide +kernel
theorem dX5_wipe_1 : decode cX5_wipe 1 = .ok (.invokevirtual 59, 3) := by decide +kernel
theorem dX5_wipe_4 : decode cX5_wipe 4 = .ok (.astore_n 2, 1) := by decide +kernel
theorem dX5_wipe_5 : decode cX5_wipe 5 = .ok (.aload_n 2, 1) := by decide +kernel
theorem dX5_wipe_6 : decode cX5_wipe 6 = .ok (.iload_n 1, 1) := by decide +kernel
theorem dX5_wipe_7 : decode cX5_wipe 7 = .ok (.invokevirtual 123, 3) := by decide +kernel
theorem dX5_wipe_10 : decode cX5_wipe 10 = .ok (.ifCond .eq 15, 3) := by decide +kernel
theorem dX5_wipe_13 : decode cX5_wipe 13 = .ok (.aload_n 0, 1) := by decide +kernel
theorem dX5_wipe_14 : decode cX5_wipe 14 = .ok (.aload_n 2, 1) := by decide +kernel
theorem dX5_wipe_15 : decode cX5_wipe 15 = .ok (.iload_n 1, 1) := by decide +kernel
theorem dX5_wipe_16 : decode cX5_wipe 16 = .ok (.invokevirtual 126, 3) := by decide +kernel
theorem dX5_wipe_19 : decode cX5_wipe 19 = .ok (.invokevirtual 182, 3) := by decide +kernel
theorem dX5_wipe_22 : decode cX5_wipe 22 = .ok (.goto 5, 3) := by decide +kernel
theorem dX5_wipe_25 : decode cX5_wipe 25 = .ok (.ldc 92, 2) := by decide +kernel
theorem dX5_wipe_27 : decode cX5_wipe 27 = .ok (.ireturn, 1) := by decide +kernel
set_option maxRecDepth 20000 in
theorem ggX5_fill_X5_parted : GoodIn wsX5_fill wsX5_parted := goodIn_r _ [6, 7, 8, 9, 10, 11, 12, 13, 14, 15, 16, 17, 18, 19, 20, 21, 22, 23, 24, 25, 26, 27, 28, 29, 30, 31, 32, 33, 34, 35, 36, 37, 38, 39, 40, 41, 42, 43, 44, 45, 46, 47, 48, 49, 50, 51, 52, 53, 54, 55, 56, 57, 58, 59, 60, 61, 62, 63, 64, 65, 66, 67, 68, 69, 70, 71, 72, 73, 74, 75, 76, 77, 78, 79, 80, 81, 82, 83, 84, 85, 86, 87, 88, 89, 90, 91, 92, 93, 94, 95, 96, 97, 98, 99, 100, 101, 102, 103, 104, 105, 106, 107, 108, 109, 110, 111, 112, 113, 114, 115, 116, 117, 118, 119, 120, 121, 122, 123, 124, 125, 126, 127, 128, 129, 130, 131, 132, 133, 134, 135, 136, 137, 138, 139, 140, 141, 193, 194, 195, 196, 197, 198, 199, 200, 201, 202, 203, 204, 205, 206, 207, 208, 209, 210, 211, 212, 213, 214, 215, 216, 217, 218, 219, 220, 221, 222, 223, 224] (by decide +kernel) (by decide +kernel)
set_option maxRecDepth 20000 in
theorem gX5_fill_X5_parted : GoodIn wsX5_fill (wsV RX5 59 RX5 yX5_parted wsX5_parted) := goodIn_app (goodIn_of _ (by decide +kernel)) ggX5_fill_X5_parted
set_option maxRecDepth 20000 in
theorem ggX5_fill_X1_hasHole : GoodIn wsX5_fill wsX1_hasHole := goodIn_r _ [145, 17, 200, 201, 202, 203, 204, 205, 206, 207, 208, 209, 210, 211, 212, 213] (by decide +kernel) (by decide +kernel)
set_option maxRecDepth 20000 in
theorem gX5_fill_X1_hasHole : GoodIn wsX5_fill (wsV RX5 159 RX1 yX1_hasHole wsX1_hasHole) := goodIn_app (goodIn_of _ (by decide +kernel)) ggX5_fill_X1_hasHole
set_option maxRecDepth 20000 in
theorem ggX5_fill_X1_groupOfHole : GoodIn wsX5_fill wsX1_groupOfHole := goodIn_r _ [149, 141, 200, 201, 202, 203, 204, 205, 206, 207, 208, 209, 210, 211, 212, 213] (by decide +kernel) (by decide +kernel)
set_option maxRecDepth 20000 in
theorem gX5_fill_X1_groupOfHole : GoodIn wsX5_fill (wsV RX5 162 RX1 yX1_groupOfHole wsX1_groupOfHole) := goodIn_app (goodIn_of _ (by decide +kernel)) ggX5_fill_X1_groupOfHole
set_option maxRecDepth 20000 in
theorem ggX5_fill_X5_flipGroup : GoodIn wsX5_fill wsX5_flipGroup := goodIn_r _ [153, 8, 9, 154, 155, 156, 5, 157, 158, 7, 159, 160, 161, 162, 163, 164, 165, 166, 167, 81, 78, 82, 168, 169, 170, 31, 171, 33, 172, 173, 174, 175, 51, 176, 177, 178, 13, 179, 15, 113, 92, 93, 22, 94, 46, 107, 108, 109, 110, 42, 119, 120, 121, 122, 68, 69, 70, 71, 44, 64, 65, 66, 67, 43, 180, 181, 182, 183, 127, 29, 30, 32, 184, 185, 186, 187, 188, 189, 190, 191, 192, 99, 193, 194, 195, 196, 197, 198, 199, 225, 226, 227, 222, 223, 224, 200, 201, 202, 203, 204, 205, 206, 207, 208, 209, 210, 211, 212, 213, 214, 215, 216, 217, 218, 219, 220, 221] (by decide +kernel) (by decide +kernel)
set_option maxRecDepth 20000 in
theorem gX5_fill_X5_flipGroup : GoodIn wsX5_fill (wsV RX5 182 RX5 yX5_flipGroup wsX5_flipGroup) := goodIn_app (goodIn_of _ (by decide +kernel)) ggX5_fill_X5_flipGroup
theorem dX5_fill_0 : decode cX5_fill 0 = .ok (.aload_n 0, 1) := by decide +kernel
theorem dX5_fill_1 : decode cX5_fill 1 = .ok (.invokevirtual 59, 3) := by decide +kernel
theorem dX5_fill_4 : decode cX5_fill 4 = .ok (.astore_n 2, 1) := by decide +kernel
theorem dX5_fill_5 : decode cX5_fill 5 = .ok (.aload_n 2, 1) := by decide +kernel
theorem dX5_fill_6 : decode cX5_fill 6 = .ok (.iload_n 1, 1) := by decide +kernel
theorem dX5_fill_7 : decode cX5_fill 7 = .ok (.invokevirtual 159, 3) := by decide +kernel
theorem dX5_fill_10 : decode cX5_fill 10 = .ok (.ifCond .eq 15, 3) := by decide +kernel
theorem dX5_fill_13 : decode cX5_fill 13 = .ok (.aload_n 0, 1) := by decide +kernel
theorem dX5_fill_14 : decode cX5_fill 14 = .ok (.aload_n 2, 1) := by decide +kernel
theorem dX5_fill_15 : decode cX5_fill 15 = .ok (.iload_n 1, 1) := by decide +kernel
theorem dX5_fill_16 : decode cX5_fill 16 = .ok (.invokevirtual 162, 3) := by decide +kernel
theorem dX5_fill_19 : decode cX5_fill 19 = .ok (.invokevirtual 182, 3) := by decide +kernel
theorem dX5_fill_22 : decode cX5_fill 22 = .ok (.goto 5, 3) := by decide +kernel
theorem dX5_fill_25 : decode cX5_fill 25 = .ok (.ldc 92, 2) := by decide +kernel
theorem dX5_fill_27 : decode cX5_fill 27 = .ok (.ireturn, 1) := by decide +kernel
set_option maxRecDepth 20000 in
theorem ggX5_grow_X5_remember : GoodIn wsX5_grow wsX5_remember := goodIn_r _ [6, 7, 1, 8, 9, 10, 11, 12, 13, 14, 15, 16, 17, 18, 19, 20, 21, 22, 23, 24, 25, 26, 27, 28, 29, 30, 31, 64, 65, 66, 67, 68, 69, 70, 71, 72, 73, 74, 75, 76] (by decide +kernel) (by decide +kernel)
set_option maxRecDepth 20000 in
theorem gX5_grow_X5_remember : GoodIn wsX5_grow (wsV RX5 172 RX5 yX5_remember wsX5_remember) := goodIn_app (goodIn_of _ (by decide +kernel)) ggX5_grow_X5_remember
set_option maxRecDepth 20000 in
theorem ggX5_grow_X3_darkDots : GoodIn wsX5_grow wsX3_darkDots := goodIn_r _ [35, 26, 36, 37, 38, 39, 40, 41, 42, 74, 75, 76] (by decide +kernel) (by decide +kernel)
set_option maxRecDepth 20000 in
theorem gX5_grow_X3_darkDots : GoodIn wsX5_grow (wsV RX5 55 RX3 yX3_darkDots wsX3_darkDots) := goodIn_app (goodIn_of _ (by decide +kernel)) ggX5_grow_X3_darkDots
set_option maxRecDepth 20000 in
theorem ggX5_grow_X3_becomeGrown : GoodIn wsX5_grow wsX3_becomeGrown := goodIn_r _ [46, 47, 26, 48, 49, 50, 24, 51, 52, 53, 54, 55, 31, 56, 57, 58, 59, 60, 61, 62, 63, 27, 28, 29, 30, 74, 75, 76] (by decide +kernel) (by decide +kernel)
set_option maxRecDepth 20000 in
theorem gX5_grow_X3_becomeGrown : GoodIn wsX5_grow (wsV RX5 185 RX3 yX3_becomeGrown wsX3_becomeGrown) := goodIn_app (goodIn_of _ (by decide +kernel)) ggX5_grow_X3_becomeGrown
theorem dX5_grow_0 : decode cX5_grow 0 = .ok (.aload_n 0, 1) := by decide +kernel
theorem dX5_grow_1 : decode cX5_grow 1 = .ok (.invokevirtual 172, 3) := by decide +kernel
theorem dX5_grow_4 : decode cX5_grow 4 = .ok (.aload_n 0, 1) := by decide +kernel
theorem dX5_grow_5 : decode cX5_grow 5 = .ok (.getfield 12, 3) := by decide +kernel
theorem dX5_grow_8 : decode cX5_grow 8 = .ok (.invokevirtual 55, 3) := by decide +kernel
theorem dX5_grow_11 : decode cX5_grow 11 = .ok (.istore_n 1, 1) := by decide +kernel
theorem dX5_grow_12 : decode cX5_grow 12 = .ok (.aload_n 0, 1) := by decide +kernel
theorem dX5_grow_13 : decode cX5_grow 13 = .ok (.getfield 12, 3) := by decide +kernel
theorem dX5_grow_16 : decode cX5_grow 16 = .ok (.invokevirtual 185, 3) := by decide +kernel
theorem dX5_grow_19 : decode cX5_grow 19 = .ok (.aload_n 0, 1) := by decide +kernel
theorem dX5_grow_20 : decode cX5_grow 20 = .ok (.getfield 12, 3) := by decide +kernel
theorem dX5_grow_23 : decode cX5_grow 23 = .ok (.invokevirtual 55, 3) := by decide +kernel
theorem dX5_grow_26 : decode cX5_grow 26 = .ok (.iload_n 1, 1) := by decide +kernel
theorem dX5_grow_27 : decode cX5_grow 27 = .ok (.isub, 1) := by decide +kernel
theorem dX5_grow_28 : decode cX5_grow 28 = .ok (.ireturn, 1) := by decide +kernel
set_option maxRecDepth 20000 in
theorem ggX5_shrink_X5_remember : GoodIn wsX5_shrink wsX5_remember := goodIn_r _ [6, 7, 1, 8, 9, 10, 11, 12, 13, 14, 15, 16, 17, 18, 19, 20, 21, 22, 23, 24, 25, 26, 27, 28, 29, 30, 31, 63, 64, 65, 66, 67, 68, 69, 70, 71, 72, 73, 74, 75] (by decide +kernel) (by decide +kernel)
set_option maxRecDepth 20000 in
theorem gX5_shrink_X5_remember : GoodIn wsX5_shrink (wsV RX5 172 RX5 yX5_remember wsX5_remember) := goodIn_app (goodIn_of _ (by decide +kernel)) ggX5_shrink_X5_remember
set_option maxRecDepth 20000 in
theorem ggX5_shrink_X3_darkDots : GoodIn wsX5_shrink wsX3_darkDots := goodIn_r _ [35, 26, 36, 37, 38, 39, 40, 41, 42, 73, 74, 75] (by decide +kernel) (by decide +kernel)
set_option maxRecDepth 20000 in
theorem gX5_shrink_X3_darkDots : GoodIn wsX5_shrink (wsV RX5 55 RX3 yX3_darkDots wsX3_darkDots) := goodIn_app (goodIn_of _ (by decide +kernel)) ggX5_shrink_X3_darkDots
set_option maxRecDepth 20000 in
theorem ggX5_shrink_X3_becomeShrunk : GoodIn wsX5_shrink wsX3_becomeShrunk := goodIn_r _ [46, 47, 26, 48, 49, 50, 24, 51, 52, 53, 54, 55, 31, 56, 57, 58, 59, 60, 61, 62, 27, 28, 29, 30, 73, 74, 75] (by decide +kernel) (by decide +kernel)
set_option maxRecDepth 20000 in
theorem gX5_shrink_X3_becomeShrunk : GoodIn wsX5_shrink (wsV RX5 188 RX3 yX3_becomeShrunk wsX3_becomeShrunk) := goodIn_app (goodIn_of _ (by decide +kernel)) ggX5_shrink_X3_becomeShrunk
theorem dX5_shrink_0 : decode cX5_shrink 0 = .ok (.aload_n 0, 1) := by decide +kernel
theorem dX5_shrink_1 : decode cX5_shrink 1 = .ok (.invokevirtual 172, 3) := by decide +kernel
theorem dX5_shrink_4 : decode cX5_shrink 4 = .ok (.aload_n 0, 1) := by decide +kernel
theorem dX5_shrink_5 : decode cX5_shrink 5 = .ok (.getfield 12, 3) := by decide +kernel
theorem dX5_shrink_8 : decode cX5_shrink 8 = .ok (.invokevirtual 55, 3) := by decide +kernel
theorem dX5_shrink_11 : decode cX5_shrink 11 = .ok (.istore_n 1, 1) := by decide +kernel
theorem dX5_shrink_12 : decode cX5_shrink 12 = .ok (.aload_n 0, 1) := by decide +kernel
theorem dX5_shrink_13 : decode cX5_shrink 13 = .ok (.getfield 12, 3) := by decide +kernel
theorem dX5_shrink_16 : decode cX5_shrink 16 = .ok (.invokevirtual 188, 3) := by decide +kernel
theorem dX5_shrink_19 : decode cX5_shrink 19 = .ok (.iload_n 1, 1) := by decide +kernel
theorem dX5_shrink_20 : decode cX5_shrink 20 = .ok (.aload_n 0, 1) := by decide +kernel
theorem dX5_shrink_21 : decode cX5_shrink 21 = .ok (.getfield 12, 3) := by decide +kernel
theorem dX5_shrink_24 : decode cX5_shrink 24 = .ok (.invokevirtual 55, 3) := by decide +kernel
theorem dX5_shrink_27 : decode cX5_shrink 27 = .ok (.isub, 1) := by decide +kernel
theorem dX5_shrink_28 : decode cX5_shrink 28 = .ok (.ireturn, 1) := by decide +kernel
set_option maxRecDepth 20000 in
theorem ggX5_move_X5_remember : GoodIn wsX5_move wsX5_remember := goodIn_r _ [7, 8, 2, 9, 10, 11, 12, 13, 14, 15, 16, 17, 18, 19, 20, 21, 22, 23, 24, 25, 26, 27, 28, 29, 30, 31, 32, 61, 62, 63, 64, 65, 66, 67, 68, 69, 70, 71, 72, 73] (by decide +kernel) (by decide +kernel)
set_option maxRecDepth 20000 in
theorem gX5_move_X5_remember : GoodIn wsX5_move (wsV RX5 172 RX5 yX5_remember wsX5_remember) := goodIn_app (goodIn_of _ (by decide +kernel)) ggX5_move_X5_remember
set_option maxRecDepth 20000 in
theorem ggX5_move_X3_becomeMoved : GoodIn wsX5_move wsX3_becomeMoved := goodIn_r _ [36, 37, 38, 39, 40, 25, 41, 27, 42, 43, 44, 45, 46, 47, 48, 49, 28, 29, 30, 31, 71, 72, 73] (by decide +kernel) (by decide +kernel)
set_option maxRecDepth 20000 in
theorem gX5_move_X3_becomeMoved : GoodIn wsX5_move (wsV RX5 191 RX3 yX3_becomeMoved wsX3_becomeMoved) := goodIn_app (goodIn_of _ (by decide +kernel)) ggX5_move_X3_becomeMoved
set_option maxRecDepth 20000 in
theorem ggX5_move_X3_darkDots : GoodIn wsX5_move wsX3_darkDots := goodIn_r _ [53, 27, 54, 55, 56, 57, 58, 59, 60, 71, 72, 73] (by decide +kernel) (by decide +kernel)
set_option maxRecDepth 20000 in
theorem gX5_move_X3_darkDots : GoodIn wsX5_move (wsV RX5 55 RX3 yX3_darkDots wsX3_darkDots) := goodIn_app (goodIn_of _ (by decide +kernel)) ggX5_move_X3_darkDots
theorem dX5_move_0 : decode cX5_move 0 = .ok (.iload_n 1, 1) := by decide +kernel
theorem dX5_move_1 : decode cX5_move 1 = .ok (.bipush (-15), 2) := by decide +kernel
theorem dX5_move_3 : decode cX5_move 3 = .ok (.if_icmp .lt 21, 3) := by decide +kernel
theorem dX5_move_6 : decode cX5_move 6 = .ok (.iload_n 1, 1) := by decide +kernel
theorem dX5_move_7 : decode cX5_move 7 = .ok (.bipush 15, 2) := by decide +kernel
theorem dX5_move_9 : decode cX5_move 9 = .ok (.if_icmp .gt 15, 3) := by decide +kernel
theorem dX5_move_12 : decode cX5_move 12 = .ok (.iload_n 2, 1) := by decide +kernel
theorem dX5_move_13 : decode cX5_move 13 = .ok (.bipush (-15), 2) := by decide +kernel
theorem dX5_move_15 : decode cX5_move 15 = .ok (.if_icmp .lt 9, 3) := by decide +kernel
theorem dX5_move_18 : decode cX5_move 18 = .ok (.iload_n 2, 1) := by decide +kernel
theorem dX5_move_19 : decode cX5_move 19 = .ok (.bipush 15, 2) := by decide +kernel
theorem dX5_move_21 : decode cX5_move 21 = .ok (.if_icmp .le 6, 3) := by decide +kernel
theorem dX5_move_24 : decode cX5_move 24 = .ok (.ldc 87, 2) := by decide +kernel
theorem dX5_move_26 : decode cX5_move 26 = .ok (.ireturn, 1) := by decide +kernel
theorem dX5_move_27 : decode cX5_move 27 = .ok (.aload_n 0, 1) := by decide +kernel
theorem dX5_move_28 : decode cX5_move 28 = .ok (.invokevirtual 172, 3) := by decide +kernel
theorem dX5_move_31 : decode cX5_move 31 = .ok (.aload_n 0, 1) := by decide +kernel
theorem dX5_move_32 : decode cX5_move 32 = .ok (.getfield 12, 3) := by decide +kernel
theorem dX5_move_35 : decode cX5_move 35 = .ok (.iload_n 1, 1) := by decide +kernel
theorem dX5_move_36 : decode cX5_move 36 = .ok (.iload_n 2, 1) := by decide +kernel
theorem dX5_move_37 : decode cX5_move 37 = .ok (.invokevirtual 191, 3) := by decide +kernel
theorem dX5_move_40 : decode cX5_move 40 = .ok (.aload_n 0, 1) := by decide +kernel
theorem dX5_move_41 : decode cX5_move 41 = .ok (.getfield 12, 3) := by decide +kernel
theorem dX5_move_44 : decode cX5_move 44 = .ok (.invokevirtual 55, 3) := by decide +kernel
theorem dX5_move_47 : decode cX5_move 47 = .ok (.ireturn, 1) := by decide +kernel
set_option maxRecDepth 20000 in
theorem ggX5_over_X5_remember : GoodIn wsX5_over wsX5_remember := goodIn_r _ [6, 7, 1, 8, 9, 10, 11, 12, 13, 14, 15, 16, 17, 18, 19, 20, 21, 22, 23, 24, 25, 26, 27, 28, 29, 30, 31, 48, 49, 50, 51, 52, 53, 54, 55, 56, 57, 58, 59, 60] (by decide +kernel) (by decide +kernel)
set_option maxRecDepth 20000 in
theorem gX5_over_X5_remember : GoodIn wsX5_over (wsV RX5 172 RX5 yX5_remember wsX5_remember) := goodIn_app (goodIn_of _ (by decide +kernel)) ggX5_over_X5_remember
set_option maxRecDepth 20000 in
theorem ggX5_over_X3_becomeOver : GoodIn wsX5_over wsX3_becomeOver := goodIn_r _ [35, 26, 36, 58, 59, 60] (by decide +kernel) (by decide +kernel)
set_option maxRecDepth 20000 in
theorem gX5_over_X3_becomeOver : GoodIn wsX5_over (wsV RX5 194 RX3 yX3_becomeOver wsX3_becomeOver) := goodIn_app (goodIn_of _ (by decide +kernel)) ggX5_over_X3_becomeOver
set_option maxRecDepth 20000 in
theorem ggX5_over_X3_darkDots : GoodIn wsX5_over wsX3_darkDots := goodIn_r _ [40, 26, 41, 42, 43, 44, 45, 46, 47, 58, 59, 60] (by decide +kernel) (by decide +kernel)
set_option maxRecDepth 20000 in
theorem gX5_over_X3_darkDots : GoodIn wsX5_over (wsV RX5 55 RX3 yX3_darkDots wsX3_darkDots) := goodIn_app (goodIn_of _ (by decide +kernel)) ggX5_over_X3_darkDots
theorem dX5_over_0 : decode cX5_over 0 = .ok (.aload_n 0, 1) := by decide +kernel
theorem dX5_over_1 : decode cX5_over 1 = .ok (.invokevirtual 172, 3) := by decide +kernel
theorem dX5_over_4 : decode cX5_over 4 = .ok (.aload_n 0, 1) := by decide +kernel
theorem dX5_over_5 : decode cX5_over 5 = .ok (.getfield 12, 3) := by decide +kernel
theorem dX5_over_8 : decode cX5_over 8 = .ok (.invokevirtual 194, 3) := by decide +kernel
theorem dX5_over_11 : decode cX5_over 11 = .ok (.aload_n 0, 1) := by decide +kernel
theorem dX5_over_12 : decode cX5_over 12 = .ok (.getfield 12, 3) := by decide +kernel
theorem dX5_over_15 : decode cX5_over 15 = .ok (.invokevirtual 55, 3) := by decide +kernel
theorem dX5_over_18 : decode cX5_over 18 = .ok (.ireturn, 1) := by decide +kernel
set_option maxRecDepth 20000 in
theorem ggX5_mode_X5_remember : GoodIn wsX5_mode wsX5_remember := goodIn_r _ [8, 9, 2, 10, 11, 12, 13, 14, 15, 16, 17, 18, 19, 20, 21, 22, 23, 24, 25, 26, 27, 28, 29, 30, 31, 32, 33, 165, 166, 167, 168, 169, 170, 171, 189, 190, 191, 172, 173, 174] (by decide +kernel) (by decide +kernel)
set_option maxRecDepth 20000 in
theorem gX5_mode_X5_remember : GoodIn wsX5_mode (wsV RX5 172 RX5 yX5_remember wsX5_remember) := goodIn_app (goodIn_of _ (by decide +kernel)) ggX5_mode_X5_remember
set_option maxRecDepth 20000 in
theorem ggX5_mode_X5_parted : GoodIn wsX5_mode wsX5_parted := goodIn_r _ [37, 10, 38, 2, 39, 40, 41, 42, 43, 44, 45, 46, 47, 48, 49, 50, 51, 52, 53, 54, 55, 56, 57, 58, 59, 26, 60, 28, 61, 62, 63, 64, 65, 66, 67, 68, 69, 70, 71, 72, 73, 74, 75, 76, 77, 33, 78, 79, 80, 81, 82, 83, 84, 85, 86, 87, 88, 89, 90, 91, 92, 93, 94, 95, 96, 97, 98, 99, 100, 101, 102, 103, 21, 104, 105, 20, 22, 106, 107, 108, 109, 110, 111, 112, 113, 114, 115, 116, 117, 118, 119, 120, 121, 122, 123, 124, 125, 126, 127, 128, 129, 130, 131, 132, 133, 134, 135, 136, 137, 138, 139, 140, 141, 142, 143, 144, 145, 146, 147, 148, 149, 150, 151, 152, 153, 154, 155, 156, 157, 158, 159, 160, 161, 162, 163, 164, 165, 166, 167, 168, 169, 170, 171, 175, 176, 177, 178, 179, 180, 181, 182, 183, 184, 185, 186, 187, 188, 192, 193, 194, 195, 196, 197, 198, 199, 172, 173, 174] (by decide +kernel) (by decide +kernel)
set_option maxRecDepth 20000 in
theorem gX5_mode_X5_parted : GoodIn wsX5_mode (wsV RX5 59 RX5 yX5_parted wsX5_parted) := goodIn_app (goodIn_of _ (by decide +kernel)) ggX5_mode_X5_parted
theorem dX5_mode_0 : decode cX5_mode 0 = .ok (.iload_n 1, 1) := by decide +kernel
theorem dX5_mode_1 : decode cX5_mode 1 = .ok (.iconst 4, 1) := by decide +kernel
theorem dX5_mode_2 : decode cX5_mode 2 = .ok (.if_icmp .eq 12, 3) := by decide +kernel
theorem dX5_mode_5 : decode cX5_mode 5 = .ok (.iload_n 1, 1) := by decide +kernel
theorem dX5_mode_6 : decode cX5_mode 6 = .ok (.bipush 8, 2) := by decide +kernel
theorem dX5_mode_8 : decode cX5_mode 8 = .ok (.if_icmp .eq 6, 3) := by decide +kernel
theorem dX5_mode_11 : decode cX5_mode 11 = .ok (.ldc 87, 2) := by decide +kernel
theorem dX5_mode_13 : decode cX5_mode 13 = .ok (.ireturn, 1) := by decide +kernel
theorem dX5_mode_14 : decode cX5_mode 14 = .ok (.iload_n 1, 1) := by decide +kernel
theorem dX5_mode_15 : decode cX5_mode 15 = .ok (.aload_n 0, 1) := by decide +kernel
theorem dX5_mode_16 : decode cX5_mode 16 = .ok (.getfield 12, 3) := by decide +kernel
theorem dX5_mode_19 : decode cX5_mode 19 = .ok (.getfield 52, 3) := by decide +kernel
theorem dX5_mode_22 : decode cX5_mode 22 = .ok (.if_icmp .ne 6, 3) := by decide +kernel
theorem dX5_mode_25 : decode cX5_mode 25 = .ok (.ldc 197, 2) := by decide +kernel
theorem dX5_mode_27 : decode cX5_mode 27 = .ok (.ireturn, 1) := by decide +kernel
theorem dX5_mode_28 : decode cX5_mode 28 = .ok (.aload_n 0, 1) := by decide +kernel
theorem dX5_mode_29 : decode cX5_mode 29 = .ok (.invokevirtual 172, 3) := by decide +kernel
theorem dX5_mode_32 : decode cX5_mode 32 = .ok (.aload_n 0, 1) := by decide +kernel
theorem dX5_mode_33 : decode cX5_mode 33 = .ok (.getfield 12, 3) := by decide +kernel
theorem dX5_mode_36 : decode cX5_mode 36 = .ok (.iload_n 1, 1) := by decide +kernel
theorem dX5_mode_37 : decode cX5_mode 37 = .ok (.putfield 52, 3) := by decide +kernel
theorem dX5_mode_40 : decode cX5_mode 40 = .ok (.aload_n 0, 1) := by decide +kernel
theorem dX5_mode_41 : decode cX5_mode 41 = .ok (.invokevirtual 59, 3) := by decide +kernel
theorem dX5_mode_44 : decode cX5_mode 44 = .ok (.getfield 63, 3) := by decide +kernel
theorem dX5_mode_47 : decode cX5_mode 47 = .ok (.ireturn, 1) := by decide +kernel
set_option maxRecDepth 20000 in
theorem ggX5_drift_X5_drawPlace : GoodIn wsX5_drift wsX5_drawPlace := goodIn_r _ [7, 8, 9, 10, 11, 65, 66, 67, 68, 69, 70, 71] (by decide +kernel) (by decide +kernel)
set_option maxRecDepth 20000 in
theorem gX5_drift_X5_drawPlace : GoodIn wsX5_drift (wsV RX5 198 RX5 yX5_drawPlace wsX5_drawPlace) := goodIn_app (goodIn_of _ (by decide +kernel)) ggX5_drift_X5_drawPlace
set_option maxRecDepth 20000 in
theorem ggX5_drift_X5_remember : GoodIn wsX5_drift wsX5_remember := goodIn_r _ [15, 16, 2, 17, 18, 19, 20, 21, 22, 23, 24, 25, 26, 27, 28, 29, 30, 31, 32, 33, 34, 35, 36, 37, 38, 39, 40, 65, 66, 67, 68, 69, 70, 71, 72, 73, 74, 75, 76, 77] (by decide +kernel) (by decide +kernel)
set_option maxRecDepth 20000 in
theorem gX5_drift_X5_remember : GoodIn wsX5_drift (wsV RX5 172 RX5 yX5_remember wsX5_remember) := goodIn_app (goodIn_of _ (by decide +kernel)) ggX5_drift_X5_remember
set_option maxRecDepth 20000 in
theorem ggX5_drift_X3_flip : GoodIn wsX5_drift wsX3_flip := goodIn_r _ [44, 45, 46, 47, 33, 48, 35, 49, 50, 51, 52, 53, 75, 76, 77] (by decide +kernel) (by decide +kernel)
set_option maxRecDepth 20000 in
theorem gX5_drift_X3_flip : GoodIn wsX5_drift (wsV RX5 179 RX3 yX3_flip wsX3_flip) := goodIn_app (goodIn_of _ (by decide +kernel)) ggX5_drift_X3_flip
set_option maxRecDepth 20000 in
theorem ggX5_drift_X3_darkDots : GoodIn wsX5_drift wsX3_darkDots := goodIn_r _ [57, 35, 58, 59, 60, 61, 62, 63, 64, 75, 76, 77] (by decide +kernel) (by decide +kernel)
set_option maxRecDepth 20000 in
theorem gX5_drift_X3_darkDots : GoodIn wsX5_drift (wsV RX5 55 RX3 yX3_darkDots wsX3_darkDots) := goodIn_app (goodIn_of _ (by decide +kernel)) ggX5_drift_X3_darkDots
theorem dX5_drift_0 : decode cX5_drift 0 = .ok (.iload_n 1, 1) := by decide +kernel
theorem dX5_drift_1 : decode cX5_drift 1 = .ok (.iconst 1, 1) := by decide +kernel
theorem dX5_drift_2 : decode cX5_drift 2 = .ok (.if_icmp .lt 9, 3) := by decide +kernel
theorem dX5_drift_5 : decode cX5_drift 5 = .ok (.iload_n 1, 1) := by decide +kernel
theorem dX5_drift_6 : decode cX5_drift 6 = .ok (.bipush 60, 2) := by decide +kernel
theorem dX5_drift_8 : decode cX5_drift 8 = .ok (.if_icmp .le 6, 3) := by decide +kernel
theorem dX5_drift_11 : decode cX5_drift 11 = .ok (.ldc 87, 2) := by decide +kernel
theorem dX5_drift_13 : decode cX5_drift 13 = .ok (.ireturn, 1) := by decide +kernel
theorem dX5_drift_14 : decode cX5_drift 14 = .ok (.iconst 0, 1) := by decide +kernel
theorem dX5_drift_15 : decode cX5_drift 15 = .ok (.istore_n 2, 1) := by decide +kernel
theorem dX5_drift_16 : decode cX5_drift 16 = .ok (.iload_n 2, 1) := by decide +kernel
theorem dX5_drift_17 : decode cX5_drift 17 = .ok (.iload_n 1, 1) := by decide +kernel
theorem dX5_drift_18 : decode cX5_drift 18 = .ok (.if_icmp .ge 35, 3) := by decide +kernel
theorem dX5_drift_21 : decode cX5_drift 21 = .ok (.aload_n 0, 1) := by decide +kernel
theorem dX5_drift_22 : decode cX5_drift 22 = .ok (.invokevirtual 198, 3) := by decide +kernel
theorem dX5_drift_25 : decode cX5_drift 25 = .ok (.istore_n 3, 1) := by decide +kernel
theorem dX5_drift_26 : decode cX5_drift 26 = .ok (.aload_n 0, 1) := by decide +kernel
theorem dX5_drift_27 : decode cX5_drift 27 = .ok (.invokevirtual 172, 3) := by decide +kernel
theorem dX5_drift_30 : decode cX5_drift 30 = .ok (.aload_n 0, 1) := by decide +kernel
theorem dX5_drift_31 : decode cX5_drift 31 = .ok (.getfield 12, 3) := by decide +kernel
theorem dX5_drift_34 : decode cX5_drift 34 = .ok (.iload_n 3, 1) := by decide +kernel
theorem dX5_drift_35 : decode cX5_drift 35 = .ok (.bipush 16, 2) := by decide +kernel
theorem dX5_drift_37 : decode cX5_drift 37 = .ok (.idiv, 1) := by decide +kernel
theorem dX5_drift_38 : decode cX5_drift 38 = .ok (.iconst 1, 1) := by decide +kernel
theorem dX5_drift_39 : decode cX5_drift 39 = .ok (.iload_n 3, 1) := by decide +kernel
theorem dX5_drift_40 : decode cX5_drift 40 = .ok (.bipush 16, 2) := by decide +kernel
theorem dX5_drift_42 : decode cX5_drift 42 = .ok (.irem, 1) := by decide +kernel
theorem dX5_drift_43 : decode cX5_drift 43 = .ok (.ishl, 1) := by decide +kernel
theorem dX5_drift_44 : decode cX5_drift 44 = .ok (.invokevirtual 179, 3) := by decide +kernel
theorem dX5_drift_47 : decode cX5_drift 47 = .ok (.iinc 2 1, 3) := by decide +kernel
theorem dX5_drift_50 : decode cX5_drift 50 = .ok (.goto (-34), 3) := by decide +kernel
theorem dX5_drift_53 : decode cX5_drift 53 = .ok (.aload_n 0, 1) := by decide +kernel
theorem dX5_drift_54 : decode cX5_drift 54 = .ok (.getfield 12, 3) := by decide +kernel
theorem dX5_drift_57 : decode cX5_drift 57 = .ok (.invokevirtual 55, 3) := by decide +kernel
theorem dX5_drift_60 : decode cX5_drift 60 = .ok (.ireturn, 1) := by decide +kernel
set_option maxRecDepth 20000 in
theorem ggX5_undo_X2_goBackBy : GoodIn wsX5_undo wsX2_goBackBy := goodIn_r _ [10, 11, 12, 13, 14, 15, 16, 17, 18, 19, 20, 21, 22, 23, 24, 25, 26, 27, 28, 47, 48, 49, 50, 51, 52] (by decide +kernel) (by decide +kernel)
set_option maxRecDepth 20000 in
theorem gX5_undo_X2_goBackBy : GoodIn wsX5_undo (wsV RX5 201 RX2 yX2_goBackBy wsX2_goBackBy) := goodIn_app (goodIn_of _ (by decide +kernel)) ggX5_undo_X2_goBackBy
set_option maxRecDepth 20000 in
theorem ggX5_undo_X3_darkDots : GoodIn wsX5_undo wsX3_darkDots := goodIn_r _ [32, 23, 33, 34, 35, 36, 37, 38, 39, 50, 51, 52] (by decide +kernel) (by decide +kernel)
set_option maxRecDepth 20000 in
theorem gX5_undo_X3_darkDots : GoodIn wsX5_undo (wsV RX5 55 RX3 yX3_darkDots wsX3_darkDots) := goodIn_app (goodIn_of _ (by decide +kernel)) ggX5_undo_X3_darkDots
theorem dX5_undo_0 : decode cX5_undo 0 = .ok (.iload_n 1, 1) := by decide +kernel
theorem dX5_undo_1 : decode cX5_undo 1 = .ok (.iconst 1, 1) := by decide +kernel
theorem dX5_undo_2 : decode cX5_undo 2 = .ok (.if_icmp .lt 9, 3) := by decide +kernel
theorem dX5_undo_5 : decode cX5_undo 5 = .ok (.iload_n 1, 1) := by decide +kernel
theorem dX5_undo_6 : decode cX5_undo 6 = .ok (.bipush 30, 2) := by decide +kernel
theorem dX5_undo_8 : decode cX5_undo 8 = .ok (.if_icmp .le 6, 3) := by decide +kernel
theorem dX5_undo_11 : decode cX5_undo 11 = .ok (.ldc 87, 2) := by decide +kernel
theorem dX5_undo_13 : decode cX5_undo 13 = .ok (.ireturn, 1) := by decide +kernel
theorem dX5_undo_14 : decode cX5_undo 14 = .ok (.iload_n 1, 1) := by decide +kernel
theorem dX5_undo_15 : decode cX5_undo 15 = .ok (.aload_n 0, 1) := by decide +kernel
theorem dX5_undo_16 : decode cX5_undo 16 = .ok (.getfield 33, 3) := by decide +kernel
theorem dX5_undo_19 : decode cX5_undo 19 = .ok (.getfield 84, 3) := by decide +kernel
theorem dX5_undo_22 : decode cX5_undo 22 = .ok (.if_icmp .le 6, 3) := by decide +kernel
theorem dX5_undo_25 : decode cX5_undo 25 = .ok (.ldc 197, 2) := by decide +kernel
theorem dX5_undo_27 : decode cX5_undo 27 = .ok (.ireturn, 1) := by decide +kernel
theorem dX5_undo_28 : decode cX5_undo 28 = .ok (.aload_n 0, 1) := by decide +kernel
theorem dX5_undo_29 : decode cX5_undo 29 = .ok (.getfield 33, 3) := by decide +kernel
theorem dX5_undo_32 : decode cX5_undo 32 = .ok (.iload_n 1, 1) := by decide +kernel
theorem dX5_undo_33 : decode cX5_undo 33 = .ok (.aload_n 0, 1) := by decide +kernel
theorem dX5_undo_34 : decode cX5_undo 34 = .ok (.getfield 12, 3) := by decide +kernel
theorem dX5_undo_37 : decode cX5_undo 37 = .ok (.invokevirtual 201, 3) := by decide +kernel
theorem dX5_undo_40 : decode cX5_undo 40 = .ok (.aload_n 0, 1) := by decide +kernel
theorem dX5_undo_41 : decode cX5_undo 41 = .ok (.iconst 1, 1) := by decide +kernel
theorem dX5_undo_42 : decode cX5_undo 42 = .ok (.putfield 48, 3) := by decide +kernel
theorem dX5_undo_45 : decode cX5_undo 45 = .ok (.aload_n 0, 1) := by decide +kernel
theorem dX5_undo_46 : decode cX5_undo 46 = .ok (.getfield 12, 3) := by decide +kernel
theorem dX5_undo_49 : decode cX5_undo 49 = .ok (.invokevirtual 55, 3) := by decide +kernel
theorem dX5_undo_52 : decode cX5_undo 52 = .ok (.ireturn, 1) := by decide +kernel
set_option maxRecDepth 20000 in
theorem ggX5_alike_X5_parted : GoodIn wsX5_alike wsX5_parted := goodIn_r _ [6, 7, 8, 9, 10, 11, 12, 13, 14, 15, 16, 17, 18, 19, 20, 21, 22, 23, 24, 25, 26, 27, 28, 29, 30, 31, 32, 33, 34, 35, 36, 37, 38, 39, 40, 41, 42, 43, 44, 45, 46, 47, 48, 49, 50, 51, 52, 53, 54, 55, 56, 57, 58, 59, 60, 61, 62, 63, 64, 65, 66, 67, 68, 69, 70, 71, 72, 73, 74, 75, 76, 77, 78, 79, 80, 81, 82, 83, 84, 85, 86, 87, 88, 89, 90, 91, 92, 93, 94, 95, 96, 97, 98, 99, 100, 101, 102, 103, 104, 105, 106, 107, 108, 109, 110, 111, 112, 113, 114, 115, 116, 117, 118, 119, 120, 121, 122, 123, 124, 125, 126, 127, 128, 129, 130, 131, 132, 133, 134, 135, 136, 137, 138, 139, 140, 141, 166, 167, 168, 169, 170, 171, 172, 173, 174, 175, 176, 177, 178, 179, 180, 181, 182, 183, 184, 185, 186, 187, 188, 189, 190, 191, 192, 193, 194, 195, 196, 197] (by decide +kernel) (by decide +kernel)
set_option maxRecDepth 20000 in
theorem gX5_alike_X5_parted : GoodIn wsX5_alike (wsV RX5 59 RX5 yX5_parted wsX5_parted) := goodIn_app (goodIn_of _ (by decide +kernel)) ggX5_alike_X5_parted
set_option maxRecDepth 20000 in
theorem ggX5_alike_X1_hasPart : GoodIn wsX5_alike wsX1_hasPart := goodIn_r _ [145, 16, 173, 174, 175, 176, 177, 178, 179, 180, 181, 182, 183, 184, 185, 186] (by decide +kernel) (by decide +kernel)
set_option maxRecDepth 20000 in
theorem gX5_alike_X1_hasPart : GoodIn wsX5_alike (wsV RX5 123 RX1 yX1_hasPart wsX1_hasPart) := goodIn_app (goodIn_of _ (by decide +kernel)) ggX5_alike_X1_hasPart
set_option maxRecDepth 20000 in
theorem ggX5_alike_X1_groupOfPart : GoodIn wsX5_alike wsX1_groupOfPart := goodIn_r _ [149, 140, 173, 174, 175, 176, 177, 178, 179, 180, 181, 182, 183, 184, 185, 186] (by decide +kernel) (by decide +kernel)
set_option maxRecDepth 20000 in
theorem gX5_alike_X1_groupOfPart : GoodIn wsX5_alike (wsV RX5 126 RX1 yX1_groupOfPart wsX1_groupOfPart) := goodIn_app (goodIn_of _ (by decide +kernel)) ggX5_alike_X1_groupOfPart
set_option maxRecDepth 20000 in
theorem ggX5_alike_X1_sameMoved : GoodIn wsX5_alike wsX1_sameMoved := goodIn_r _ [153, 15, 154, 155, 156, 13, 157, 99, 107, 108, 109, 22, 110, 42, 111, 65, 66, 67, 43, 158, 159, 160, 161, 68, 69, 70, 71, 44, 64, 162, 163, 164, 165, 113, 92, 93, 94, 46, 173, 174, 175, 176, 177, 178, 179, 180, 181, 182, 183, 184, 185, 186, 187, 188, 189, 190, 191, 192, 193, 194] (by decide +kernel) (by decide +kernel)
set_option maxRecDepth 20000 in
theorem gX5_alike_X1_sameMoved : GoodIn wsX5_alike (wsV RX5 205 RX1 yX1_sameMoved wsX1_sameMoved) := goodIn_app (goodIn_of _ (by decide +kernel)) ggX5_alike_X1_sameMoved
theorem dX5_alike_0 : decode cX5_alike 0 = .ok (.aload_n 0, 1) := by decide +kernel
theorem dX5_alike_1 : decode cX5_alike 1 = .ok (.invokevirtual 59, 3) := by decide +kernel
theorem dX5_alike_4 : decode cX5_alike 4 = .ok (.astore_n 3, 1) := by decide +kernel
theorem dX5_alike_5 : decode cX5_alike 5 = .ok (.aload_n 3, 1) := by decide +kernel
theorem dX5_alike_6 : decode cX5_alike 6 = .ok (.iload_n 1, 1) := by decide +kernel
theorem dX5_alike_7 : decode cX5_alike 7 = .ok (.invokevirtual 123, 3) := by decide +kernel
theorem dX5_alike_10 : decode cX5_alike 10 = .ok (.ifCond .eq 16, 3) := by decide +kernel
theorem dX5_alike_13 : decode cX5_alike 13 = .ok (.aload_n 3, 1) := by decide +kernel
theorem dX5_alike_14 : decode cX5_alike 14 = .ok (.iload_n 2, 1) := by decide +kernel
theorem dX5_alike_15 : decode cX5_alike 15 = .ok (.invokevirtual 123, 3) := by decide +kernel
theorem dX5_alike_18 : decode cX5_alike 18 = .ok (.ifCond .eq 8, 3) := by decide +kernel
theorem dX5_alike_21 : decode cX5_alike 21 = .ok (.iload_n 1, 1) := by decide +kernel
theorem dX5_alike_22 : decode cX5_alike 22 = .ok (.iload_n 2, 1) := by decide +kernel
theorem dX5_alike_23 : decode cX5_alike 23 = .ok (.if_icmp .ne 6, 3) := by decide +kernel
theorem dX5_alike_26 : decode cX5_alike 26 = .ok (.ldc 92, 2) := by decide +kernel
theorem dX5_alike_28 : decode cX5_alike 28 = .ok (.ireturn, 1) := by decide +kernel
theorem dX5_alike_29 : decode cX5_alike 29 = .ok (.aload_n 3, 1) := by decide +kernel
theorem dX5_alike_30 : decode cX5_alike 30 = .ok (.aload_n 3, 1) := by decide +kernel
theorem dX5_alike_31 : decode cX5_alike 31 = .ok (.iload_n 1, 1) := by decide +kernel
theorem dX5_alike_32 : decode cX5_alike 32 = .ok (.invokevirtual 126, 3) := by decide +kernel
theorem dX5_alike_35 : decode cX5_alike 35 = .ok (.aload_n 3, 1) := by decide +kernel
theorem dX5_alike_36 : decode cX5_alike 36 = .ok (.iload_n 2, 1) := by decide +kernel
theorem dX5_alike_37 : decode cX5_alike 37 = .ok (.invokevirtual 126, 3) := by decide +kernel
theorem dX5_alike_40 : decode cX5_alike 40 = .ok (.invokevirtual 205, 3) := by decide +kernel
theorem dX5_alike_43 : decode cX5_alike 43 = .ok (.ifCond .eq 7, 3) := by decide +kernel
theorem dX5_alike_46 : decode cX5_alike 46 = .ok (.iconst 1, 1) := by decide +kernel
theorem dX5_alike_47 : decode cX5_alike 47 = .ok (.goto 4, 3) := by decide +kernel
theorem dX5_alike_50 : decode cX5_alike 50 = .ok (.iconst 0, 1) := by decide +kernel
theorem dX5_alike_51 : decode cX5_alike 51 = .ok (.ireturn, 1) := by decide +kernel
set_option maxRecDepth 20000 in
theorem ggX5_small_X5_parted : GoodIn wsX5_small wsX5_parted := goodIn_r _ [6, 7, 8, 9, 10, 11, 12, 13, 14, 15, 16, 17, 18, 19, 20, 21, 22, 23, 24, 25, 26, 27, 28, 29, 30, 31, 32, 33, 34, 35, 36, 37, 38, 39, 40, 41, 42, 43, 44, 45, 46, 47, 48, 49, 50, 51, 52, 53, 54, 55, 56, 57, 58, 59, 60, 61, 62, 63, 64, 65, 66, 67, 68, 69, 70, 71, 72, 73, 74, 75, 76, 77, 78, 79, 80, 81, 82, 83, 84, 85, 86, 87, 88, 89, 90, 91, 92, 93, 94, 95, 96, 97, 98, 99, 100, 101, 102, 103, 104, 105, 106, 107, 108, 109, 110, 111, 112, 113, 114, 115, 116, 117, 118, 119, 120, 121, 122, 123, 124, 125, 126, 127, 128, 129, 130, 131, 132, 133, 134, 135, 136, 137, 138, 139, 140, 141, 154, 155, 156, 157, 158, 159, 160, 161, 162, 163, 164, 165, 166, 167, 168, 169, 170, 171, 172, 173, 174, 175, 176, 177, 178, 179, 180, 181, 182, 183, 184, 185] (by decide +kernel) (by decide +kernel)
set_option maxRecDepth 20000 in
theorem gX5_small_X5_parted : GoodIn wsX5_small (wsV RX5 59 RX5 yX5_parted wsX5_parted) := goodIn_app (goodIn_of _ (by decide +kernel)) ggX5_small_X5_parted
set_option maxRecDepth 20000 in
theorem ggX5_small_X1_partsUpTo : GoodIn wsX5_small wsX1_partsUpTo := goodIn_r _ [145, 16, 146, 147, 148, 13, 149, 140, 150, 151, 152, 153, 99, 161, 162, 163, 164, 165, 166, 167, 168, 169, 170, 171, 172, 173, 174] (by decide +kernel) (by decide +kernel)
set_option maxRecDepth 20000 in
theorem gX5_small_X1_partsUpTo : GoodIn wsX5_small (wsV RX5 208 RX1 yX1_partsUpTo wsX1_partsUpTo) := goodIn_app (goodIn_of _ (by decide +kernel)) ggX5_small_X1_partsUpTo
theorem dX5_small_0 : decode cX5_small 0 = .ok (.iload_n 1, 1) := by decide +kernel
theorem dX5_small_1 : decode cX5_small 1 = .ok (.ifCond .lt 10, 3) := by decide +kernel
theorem dX5_small_4 : decode cX5_small 4 = .ok (.iload_n 1, 1) := by decide +kernel
theorem dX5_small_5 : decode cX5_small 5 = .ok (.sipush 256, 3) := by decide +kernel
theorem dX5_small_8 : decode cX5_small 8 = .ok (.if_icmp .le 8, 3) := by decide +kernel
theorem dX5_small_11 : decode cX5_small 11 = .ok (.ldc 87, 2) := by decide +kernel
theorem dX5_small_13 : decode cX5_small 13 = .ok (.goto 11, 3) := by decide +kernel
theorem dX5_small_16 : decode cX5_small 16 = .ok (.aload_n 0, 1) := by decide +kernel
theorem dX5_small_17 : decode cX5_small 17 = .ok (.invokevirtual 59, 3) := by decide +kernel
theorem dX5_small_20 : decode cX5_small 20 = .ok (.iload_n 1, 1) := by decide +kernel
theorem dX5_small_21 : decode cX5_small 21 = .ok (.invokevirtual 208, 3) := by decide +kernel
theorem dX5_small_24 : decode cX5_small 24 = .ok (.ireturn, 1) := by decide +kernel
theorem dX5_seed_0 : decode cX5_seed 0 = .ok (.iload_n 1, 1) := by decide +kernel
theorem dX5_seed_1 : decode cX5_seed 1 = .ok (.ifCond .ge 6, 3) := by decide +kernel
theorem dX5_seed_4 : decode cX5_seed 4 = .ok (.ldc 87, 2) := by decide +kernel
theorem dX5_seed_6 : decode cX5_seed 6 = .ok (.ireturn, 1) := by decide +kernel
theorem dX5_seed_7 : decode cX5_seed 7 = .ok (.aload_n 0, 1) := by decide +kernel
theorem dX5_seed_8 : decode cX5_seed 8 = .ok (.getfield 44, 3) := by decide +kernel
theorem dX5_seed_11 : decode cX5_seed 11 = .ok (.istore_n 2, 1) := by decide +kernel
theorem dX5_seed_12 : decode cX5_seed 12 = .ok (.aload_n 0, 1) := by decide +kernel
theorem dX5_seed_13 : decode cX5_seed 13 = .ok (.iload_n 1, 1) := by decide +kernel
theorem dX5_seed_14 : decode cX5_seed 14 = .ok (.putfield 44, 3) := by decide +kernel
theorem dX5_seed_17 : decode cX5_seed 17 = .ok (.iload_n 2, 1) := by decide +kernel
theorem dX5_seed_18 : decode cX5_seed 18 = .ok (.ireturn, 1) := by decide +kernel
set_option maxRecDepth 20000 in
theorem ggX5_keep_X5_isImage : GoodIn wsX5_keep wsX5_isImage := goodIn_r _ [9] (by decide +kernel) (by decide +kernel)
set_option maxRecDepth 20000 in
theorem gX5_keep_X5_isImage : GoodIn wsX5_keep (va_wsS RX5 211 yX5_isImage wsX5_isImage) := goodIn_app (goodIn_of _ (by decide +kernel)) ggX5_keep_X5_isImage
set_option maxRecDepth 20000 in
theorem ggX5_keep_X0_take : GoodIn wsX5_keep wsX0_take := goodIn_r _ [14, 15, 16, 17, 7, 8, 9, 18, 19, 20, 21, 22, 23, 24, 25, 26, 27, 28, 42, 43, 44, 45, 46, 47] (by decide +kernel) (by decide +kernel)
set_option maxRecDepth 20000 in
theorem gX5_keep_X0_take : GoodIn wsX5_keep (wsV RX5 214 RX0 yX0_take wsX0_take) := goodIn_app (goodIn_of _ (by decide +kernel)) ggX5_keep_X0_take
set_option maxRecDepth 20000 in
theorem ggX5_keep_X2_forget : GoodIn wsX5_keep wsX2_forget := goodIn_r _ [33, 34, 48, 49, 50] (by decide +kernel) (by decide +kernel)
set_option maxRecDepth 20000 in
theorem gX5_keep_X2_forget : GoodIn wsX5_keep (wsV RX5 218 RX2 yX2_forget wsX2_forget) := goodIn_app (goodIn_of _ (by decide +kernel)) ggX5_keep_X2_forget
theorem dX5_keep_0 : decode cX5_keep 0 = .ok (.iload_n 1, 1) := by decide +kernel
theorem dX5_keep_1 : decode cX5_keep 1 = .ok (.invokestatic 211, 3) := by decide +kernel
theorem dX5_keep_4 : decode cX5_keep 4 = .ok (.ifCond .ne 6, 3) := by decide +kernel
theorem dX5_keep_7 : decode cX5_keep 7 = .ok (.ldc 92, 2) := by decide +kernel
theorem dX5_keep_9 : decode cX5_keep 9 = .ok (.ireturn, 1) := by decide +kernel
theorem dX5_keep_10 : decode cX5_keep 10 = .ok (.aload_n 0, 1) := by decide +kernel
theorem dX5_keep_11 : decode cX5_keep 11 = .ok (.getfield 40, 3) := by decide +kernel
theorem dX5_keep_14 : decode cX5_keep 14 = .ok (.iload_n 1, 1) := by decide +kernel
theorem dX5_keep_15 : decode cX5_keep 15 = .ok (.aload_n 0, 1) := by decide +kernel
theorem dX5_keep_16 : decode cX5_keep 16 = .ok (.getfield 12, 3) := by decide +kernel
theorem dX5_keep_19 : decode cX5_keep 19 = .ok (.aload_n 0, 1) := by decide +kernel
theorem dX5_keep_20 : decode cX5_keep 20 = .ok (.getfield 44, 3) := by decide +kernel
theorem dX5_keep_23 : decode cX5_keep 23 = .ok (.invokevirtual 214, 3) := by decide +kernel
theorem dX5_keep_26 : decode cX5_keep 26 = .ok (.aload_n 0, 1) := by decide +kernel
theorem dX5_keep_27 : decode cX5_keep 27 = .ok (.getfield 33, 3) := by decide +kernel
theorem dX5_keep_30 : decode cX5_keep 30 = .ok (.invokevirtual 218, 3) := by decide +kernel
theorem dX5_keep_33 : decode cX5_keep 33 = .ok (.iconst 1, 1) := by decide +kernel
theorem dX5_keep_34 : decode cX5_keep 34 = .ok (.ireturn, 1) := by decide +kernel
set_option maxRecDepth 20000 in
theorem ggX5_goBack_X5_isImage : GoodIn wsX5_goBack wsX5_isImage := goodIn_r _ [11] (by decide +kernel) (by decide +kernel)
set_option maxRecDepth 20000 in
theorem gX5_goBack_X5_isImage : GoodIn wsX5_goBack (va_wsS RX5 211 yX5_isImage wsX5_isImage) := goodIn_app (goodIn_of _ (by decide +kernel)) ggX5_goBack_X5_isImage
set_option maxRecDepth 20000 in
theorem ggX5_goBack_X0_isTaken : GoodIn wsX5_goBack wsX0_isTaken := goodIn_r _ [16, 17, 9, 10, 11, 52, 53, 54] (by decide +kernel) (by decide +kernel)
set_option maxRecDepth 20000 in
theorem gX5_goBack_X0_isTaken : GoodIn wsX5_goBack (wsV RX5 221 RX0 yX0_isTaken wsX0_isTaken) := goodIn_app (goodIn_of _ (by decide +kernel)) ggX5_goBack_X0_isTaken
set_option maxRecDepth 20000 in
theorem ggX5_goBack_X0_show : GoodIn wsX5_goBack wsX0_show := goodIn_r _ [21, 22, 23, 24, 25, 26, 27, 28, 29, 30, 31, 32, 33, 52, 53, 54, 55, 56, 57] (by decide +kernel) (by decide +kernel)
set_option maxRecDepth 20000 in
theorem gX5_goBack_X0_show : GoodIn wsX5_goBack (wsV RX5 224 RX0 yX0_show wsX0_show) := goodIn_app (goodIn_of _ (by decide +kernel)) ggX5_goBack_X0_show
set_option maxRecDepth 20000 in
theorem ggX5_goBack_X0_seedOf : GoodIn wsX5_goBack wsX0_seedOf := goodIn_r _ [37, 38, 9, 10, 11, 52, 53, 54] (by decide +kernel) (by decide +kernel)
set_option maxRecDepth 20000 in
theorem gX5_goBack_X0_seedOf : GoodIn wsX5_goBack (wsV RX5 227 RX0 yX0_seedOf wsX0_seedOf) := goodIn_app (goodIn_of _ (by decide +kernel)) ggX5_goBack_X0_seedOf
set_option maxRecDepth 20000 in
theorem ggX5_goBack_X2_forget : GoodIn wsX5_goBack wsX2_forget := goodIn_r _ [43, 44, 58, 59, 60] (by decide +kernel) (by decide +kernel)
set_option maxRecDepth 20000 in
theorem gX5_goBack_X2_forget : GoodIn wsX5_goBack (wsV RX5 218 RX2 yX2_forget wsX2_forget) := goodIn_app (goodIn_of _ (by decide +kernel)) ggX5_goBack_X2_forget
theorem dX5_goBack_0 : decode cX5_goBack 0 = .ok (.iload_n 1, 1) := by decide +kernel
theorem dX5_goBack_1 : decode cX5_goBack 1 = .ok (.invokestatic 211, 3) := by decide +kernel
theorem dX5_goBack_4 : decode cX5_goBack 4 = .ok (.ifCond .ne 6, 3) := by decide +kernel
theorem dX5_goBack_7 : decode cX5_goBack 7 = .ok (.ldc 92, 2) := by decide +kernel
theorem dX5_goBack_9 : decode cX5_goBack 9 = .ok (.ireturn, 1) := by decide +kernel
theorem dX5_goBack_10 : decode cX5_goBack 10 = .ok (.aload_n 0, 1) := by decide +kernel
theorem dX5_goBack_11 : decode cX5_goBack 11 = .ok (.getfield 40, 3) := by decide +kernel
theorem dX5_goBack_14 : decode cX5_goBack 14 = .ok (.iload_n 1, 1) := by decide +kernel
theorem dX5_goBack_15 : decode cX5_goBack 15 = .ok (.invokevirtual 221, 3) := by decide +kernel
theorem dX5_goBack_18 : decode cX5_goBack 18 = .ok (.ifCond .ne 6, 3) := by decide +kernel
theorem dX5_goBack_21 : decode cX5_goBack 21 = .ok (.ldc 197, 2) := by decide +kernel
theorem dX5_goBack_23 : decode cX5_goBack 23 = .ok (.ireturn, 1) := by decide +kernel
theorem dX5_goBack_24 : decode cX5_goBack 24 = .ok (.aload_n 0, 1) := by decide +kernel
theorem dX5_goBack_25 : decode cX5_goBack 25 = .ok (.getfield 40, 3) := by decide +kernel
theorem dX5_goBack_28 : decode cX5_goBack 28 = .ok (.iload_n 1, 1) := by decide +kernel
theorem dX5_goBack_29 : decode cX5_goBack 29 = .ok (.aload_n 0, 1) := by decide +kernel
theorem dX5_goBack_30 : decode cX5_goBack 30 = .ok (.getfield 12, 3) := by decide +kernel
theorem dX5_goBack_33 : decode cX5_goBack 33 = .ok (.invokevirtual 224, 3) := by decide +kernel
theorem dX5_goBack_36 : decode cX5_goBack 36 = .ok (.aload_n 0, 1) := by decide +kernel
theorem dX5_goBack_37 : decode cX5_goBack 37 = .ok (.aload_n 0, 1) := by decide +kernel
theorem dX5_goBack_38 : decode cX5_goBack 38 = .ok (.getfield 40, 3) := by decide +kernel
theorem dX5_goBack_41 : decode cX5_goBack 41 = .ok (.iload_n 1, 1) := by decide +kernel
theorem dX5_goBack_42 : decode cX5_goBack 42 = .ok (.invokevirtual 227, 3) := by decide +kernel
theorem dX5_goBack_45 : decode cX5_goBack 45 = .ok (.putfield 44, 3) := by decide +kernel
theorem dX5_goBack_48 : decode cX5_goBack 48 = .ok (.aload_n 0, 1) := by decide +kernel
theorem dX5_goBack_49 : decode cX5_goBack 49 = .ok (.getfield 33, 3) := by decide +kernel
theorem dX5_goBack_52 : decode cX5_goBack 52 = .ok (.invokevirtual 218, 3) := by decide +kernel
theorem dX5_goBack_55 : decode cX5_goBack 55 = .ok (.aload_n 0, 1) := by decide +kernel
theorem dX5_goBack_56 : decode cX5_goBack 56 = .ok (.iconst 1, 1) := by decide +kernel
theorem dX5_goBack_57 : decode cX5_goBack 57 = .ok (.putfield 48, 3) := by decide +kernel
theorem dX5_goBack_60 : decode cX5_goBack 60 = .ok (.iconst 1, 1) := by decide +kernel
theorem dX5_goBack_61 : decode cX5_goBack 61 = .ok (.ireturn, 1) := by decide +kernel
theorem dX5_isLine_0 : decode cX5_isLine 0 = .ok (.iload_n 0, 1) := by decide +kernel
theorem dX5_isLine_1 : decode cX5_isLine 1 = .ok (.ifCond .lt 13, 3) := by decide +kernel
theorem dX5_isLine_4 : decode cX5_isLine 4 = .ok (.iload_n 0, 1) := by decide +kernel
theorem dX5_isLine_5 : decode cX5_isLine 5 = .ok (.bipush 16, 2) := by decide +kernel
theorem dX5_isLine_7 : decode cX5_isLine 7 = .ok (.if_icmp .ge 7, 3) := by decide +kernel
theorem dX5_isLine_10 : decode cX5_isLine 10 = .ok (.iconst 1, 1) := by decide +kernel
theorem dX5_isLine_11 : decode cX5_isLine 11 = .ok (.goto 4, 3) := by decide +kernel
theorem dX5_isLine_14 : decode cX5_isLine 14 = .ok (.iconst 0, 1) := by decide +kernel
theorem dX5_isLine_15 : decode cX5_isLine 15 = .ok (.ireturn, 1) := by decide +kernel
theorem dX5_isImage_0 : decode cX5_isImage 0 = .ok (.iload_n 0, 1) := by decide +kernel
theorem dX5_isImage_1 : decode cX5_isImage 1 = .ok (.ifCond .lt 12, 3) := by decide +kernel
theorem dX5_isImage_4 : decode cX5_isImage 4 = .ok (.iload_n 0, 1) := by decide +kernel
theorem dX5_isImage_5 : decode cX5_isImage 5 = .ok (.iconst 2, 1) := by decide +kernel
theorem dX5_isImage_6 : decode cX5_isImage 6 = .ok (.if_icmp .ge 7, 3) := by decide +kernel
theorem dX5_isImage_9 : decode cX5_isImage 9 = .ok (.iconst 1, 1) := by decide +kernel
theorem dX5_isImage_10 : decode cX5_isImage 10 = .ok (.goto 4, 3) := by decide +kernel
theorem dX5_isImage_13 : decode cX5_isImage 13 = .ok (.iconst 0, 1) := by decide +kernel
theorem dX5_isImage_14 : decode cX5_isImage 14 = .ok (.ireturn, 1) := by decide +kernel
set_option maxRecDepth 20000 in
theorem ggX5_runsOf_J6_bitCount_0f7a4 : GoodIn wsX5_runsOf wsJ6_bitCount_0f7a4 := goodIn_r _ [4, 5, 6, 7] (by decide +kernel) (by decide +kernel)
set_option maxRecDepth 20000 in
theorem gX5_runsOf_J6_bitCount_0f7a4 : GoodIn wsX5_runsOf (va_wsS RX5 230 yJ6_bitCount_0f7a4 wsJ6_bitCount_0f7a4) := goodIn_app (goodIn_of _ (by decide +kernel)) ggX5_runsOf_J6_bitCount_0f7a4
theorem dX5_runsOf_0 : decode cX5_runsOf 0 = .ok (.iload_n 0, 1) := by decide +kernel
theorem dX5_runsOf_1 : decode cX5_runsOf 1 = .ok (.iload_n 0, 1) := by decide +kernel
theorem dX5_runsOf_2 : decode cX5_runsOf 2 = .ok (.iconst 1, 1) := by decide +kernel
theorem dX5_runsOf_3 : decode cX5_runsOf 3 = .ok (.ishl, 1) := by decide +kernel
theorem dX5_runsOf_4 : decode cX5_runsOf 4 = .ok (.iconst (-1), 1) := by decide +kernel
theorem dX5_runsOf_5 : decode cX5_runsOf 5 = .ok (.ixor, 1) := by decide +kernel
theorem dX5_runsOf_6 : decode cX5_runsOf 6 = .ok (.iand, 1) := by decide +kernel
theorem dX5_runsOf_7 : decode cX5_runsOf 7 = .ok (.invokestatic 230, 3) := by decide +kernel
theorem dX5_runsOf_10 : decode cX5_runsOf 10 = .ok (.ireturn, 1) := by decide +kernel
set_option maxRecDepth 20000 in
theorem ggX5_parted_X1_read : GoodIn wsX5_parted wsX1_read := goodIn_r _ [8, 9, 10, 11, 12, 13, 14, 15, 16, 17, 18, 19, 20, 21, 22, 23, 24, 25, 26, 27, 28, 29, 30, 31, 32, 33, 34, 35, 36, 37, 38, 39, 40, 41, 42, 43, 44, 45, 46, 47, 48, 49, 50, 51, 52, 53, 54, 55, 56, 57, 58, 59, 60, 61, 62, 63, 64, 65, 66, 67, 68, 69, 70, 71, 72, 73, 74, 75, 76, 77, 78, 79, 80, 81, 82, 83, 84, 85, 86, 87, 88, 89, 90, 91, 7, 92, 93, 94, 95, 96, 97, 98, 99, 100, 101, 102, 103, 104, 105, 106, 107, 108, 109, 110, 111, 112, 113, 114, 115, 116, 117, 118, 119, 120, 121, 122, 123, 124, 125, 126, 127, 128, 129, 130, 131, 132, 133, 134, 135, 143, 144, 145, 146, 147, 148, 149, 150, 151, 152, 153, 154, 155, 156, 157, 158, 159, 160, 161, 162, 163, 164, 165, 166, 167] (by decide +kernel) (by decide +kernel)
set_option maxRecDepth 20000 in
theorem gX5_parted_X1_read : GoodIn wsX5_parted (wsV RX5 235 RX1 yX1_read wsX1_read) := goodIn_app (goodIn_of _ (by decide +kernel)) ggX5_parted_X1_read
theorem dX5_parted_0 : decode cX5_parted 0 = .ok (.aload_n 0, 1) := by decide +kernel
theorem dX5_parted_1 : decode cX5_parted 1 = .ok (.getfield 48, 3) := by decide +kernel
theorem dX5_parted_4 : decode cX5_parted 4 = .ok (.ifCond .eq 19, 3) := by decide +kernel
theorem dX5_parted_7 : decode cX5_parted 7 = .ok (.aload_n 0, 1) := by decide +kernel
theorem dX5_parted_8 : decode cX5_parted 8 = .ok (.getfield 19, 3) := by decide +kernel
theorem dX5_parted_11 : decode cX5_parted 11 = .ok (.aload_n 0, 1) := by decide +kernel
theorem dX5_parted_12 : decode cX5_parted 12 = .ok (.getfield 12, 3) := by decide +kernel
theorem dX5_parted_15 : decode cX5_parted 15 = .ok (.invokevirtual 235, 3) := by decide +kernel
theorem dX5_parted_18 : decode cX5_parted 18 = .ok (.aload_n 0, 1) := by decide +kernel
theorem dX5_parted_19 : decode cX5_parted 19 = .ok (.iconst 0, 1) := by decide +kernel
theorem dX5_parted_20 : decode cX5_parted 20 = .ok (.putfield 48, 3) := by decide +kernel
theorem dX5_parted_23 : decode cX5_parted 23 = .ok (.aload_n 0, 1) := by decide +kernel
theorem dX5_parted_24 : decode cX5_parted 24 = .ok (.getfield 19, 3) := by decide +kernel
theorem dX5_parted_27 : decode cX5_parted 27 = .ok (.areturn, 1) := by decide +kernel
set_option maxRecDepth 20000 in
theorem ggX5_remember_X2_push : GoodIn wsX5_remember wsX2_push := goodIn_r _ [8, 9, 10, 11, 12, 13, 14, 15, 16, 17, 18, 19, 20, 21, 22, 23, 24, 25, 26, 34, 35, 36, 37, 38, 39] (by decide +kernel) (by decide +kernel)
set_option maxRecDepth 20000 in
theorem gX5_remember_X2_push : GoodIn wsX5_remember (wsV RX5 239 RX2 yX2_push wsX2_push) := goodIn_app (goodIn_of _ (by decide +kernel)) ggX5_remember_X2_push
theorem dX5_remember_0 : decode cX5_remember 0 = .ok (.aload_n 0, 1) := by decide +kernel
theorem dX5_remember_1 : decode cX5_remember 1 = .ok (.getfield 33, 3) := by decide +kernel
theorem dX5_remember_4 : decode cX5_remember 4 = .ok (.aload_n 0, 1) := by decide +kernel
theorem dX5_remember_5 : decode cX5_remember 5 = .ok (.getfield 12, 3) := by decide +kernel
theorem dX5_remember_8 : decode cX5_remember 8 = .ok (.invokevirtual 239, 3) := by decide +kernel
theorem dX5_remember_11 : decode cX5_remember 11 = .ok (.aload_n 0, 1) := by decide +kernel
theorem dX5_remember_12 : decode cX5_remember 12 = .ok (.iconst 1, 1) := by decide +kernel
theorem dX5_remember_13 : decode cX5_remember 13 = .ok (.putfield 48, 3) := by decide +kernel
theorem dX5_remember_16 : decode cX5_remember 16 = .ok (.return_, 1) := by decide +kernel
set_option maxRecDepth 20000 in
theorem ggX5_flipGroup_X5_remember : GoodIn wsX5_flipGroup wsX5_remember := goodIn_r _ [7, 8, 2, 9, 10, 11, 12, 13, 14, 15, 16, 17, 18, 19, 20, 21, 22, 23, 24, 25, 26, 27, 28, 29, 30, 31, 32, 82, 83, 84, 85, 86, 87, 88, 89, 90, 91, 92, 93, 94] (by decide +kernel) (by decide +kernel)
set_option maxRecDepth 20000 in
theorem gX5_flipGroup_X5_remember : GoodIn wsX5_flipGroup (wsV RX5 172 RX5 yX5_remember wsX5_remember) := goodIn_app (goodIn_of _ (by decide +kernel)) ggX5_flipGroup_X5_remember
set_option maxRecDepth 20000 in
theorem ggX5_flipGroup_X1_flipDotsOf : GoodIn wsX5_flipGroup wsX1_flipDotsOf := goodIn_r _ [37, 38, 39, 40, 41, 42, 43, 44, 45, 46, 47, 48, 49, 50, 51, 52, 53, 54, 55, 56, 57, 58, 59, 60, 61, 62, 63, 64, 65, 66, 25, 67, 68, 69, 70, 71, 27, 72, 73, 74, 75, 76, 95, 96, 97, 98, 99, 100, 101, 102, 103, 104, 105, 106, 107, 108, 109, 110, 111, 112, 113, 114, 115, 116, 92, 93, 94] (by decide +kernel) (by decide +kernel)
set_option maxRecDepth 20000 in
theorem gX5_flipGroup_X1_flipDotsOf : GoodIn wsX5_flipGroup (wsV RX5 242 RX1 yX1_flipDotsOf wsX1_flipDotsOf) := goodIn_app (goodIn_of _ (by decide +kernel)) ggX5_flipGroup_X1_flipDotsOf
set_option maxRecDepth 20000 in
theorem ggX5_flipGroup_X1_sizeOf : GoodIn wsX5_flipGroup wsX1_sizeOf := goodIn_r _ [80, 81, 95, 96, 97, 98, 99, 100, 101, 102, 103, 104, 105, 106, 107, 108] (by decide +kernel) (by decide +kernel)
set_option maxRecDepth 20000 in
theorem gX5_flipGroup_X1_sizeOf : GoodIn wsX5_flipGroup (wsV RX5 129 RX1 yX1_sizeOf wsX1_sizeOf) := goodIn_app (goodIn_of _ (by decide +kernel)) ggX5_flipGroup_X1_sizeOf
theorem dX5_flipGroup_0 : decode cX5_flipGroup 0 = .ok (.aload_n 0, 1) := by decide +kernel
theorem dX5_flipGroup_1 : decode cX5_flipGroup 1 = .ok (.invokevirtual 172, 3) := by decide +kernel
theorem dX5_flipGroup_4 : decode cX5_flipGroup 4 = .ok (.aload_n 0, 1) := by decide +kernel
theorem dX5_flipGroup_5 : decode cX5_flipGroup 5 = .ok (.getfield 19, 3) := by decide +kernel
theorem dX5_flipGroup_8 : decode cX5_flipGroup 8 = .ok (.iload_n 1, 1) := by decide +kernel
theorem dX5_flipGroup_9 : decode cX5_flipGroup 9 = .ok (.aload_n 0, 1) := by decide +kernel
theorem dX5_flipGroup_10 : decode cX5_flipGroup 10 = .ok (.getfield 12, 3) := by decide +kernel
theorem dX5_flipGroup_13 : decode cX5_flipGroup 13 = .ok (.invokevirtual 242, 3) := by decide +kernel
theorem dX5_flipGroup_16 : decode cX5_flipGroup 16 = .ok (.aload_n 0, 1) := by decide +kernel
theorem dX5_flipGroup_17 : decode cX5_flipGroup 17 = .ok (.getfield 19, 3) := by decide +kernel
theorem dX5_flipGroup_20 : decode cX5_flipGroup 20 = .ok (.iload_n 1, 1) := by decide +kernel
theorem dX5_flipGroup_21 : decode cX5_flipGroup 21 = .ok (.invokevirtual 129, 3) := by decide +kernel
theorem dX5_flipGroup_24 : decode cX5_flipGroup 24 = .ok (.ireturn, 1) := by decide +kernel
theorem dX5_drawPlace_0 : decode cX5_drawPlace 0 = .ok (.aload_n 0, 1) := by decide +kernel
theorem dX5_drawPlace_1 : decode cX5_drawPlace 1 = .ok (.aload_n 0, 1) := by decide +kernel
theorem dX5_drawPlace_2 : decode cX5_drawPlace 2 = .ok (.getfield 44, 3) := by decide +kernel
theorem dX5_drawPlace_5 : decode cX5_drawPlace 5 = .ok (.ldc 245, 2) := by decide +kernel
theorem dX5_drawPlace_7 : decode cX5_drawPlace 7 = .ok (.imul, 1) := by decide +kernel
theorem dX5_drawPlace_8 : decode cX5_drawPlace 8 = .ok (.sipush 12345, 3) := by decide +kernel
theorem dX5_drawPlace_11 : decode cX5_drawPlace 11 = .ok (.iadd, 1) := by decide +kernel
theorem dX5_drawPlace_12 : decode cX5_drawPlace 12 = .ok (.ldc 246, 2) := by decide +kernel
theorem dX5_drawPlace_14 : decode cX5_drawPlace 14 = .ok (.iand, 1) := by decide +kernel
theorem dX5_drawPlace_15 : decode cX5_drawPlace 15 = .ok (.putfield 44, 3) := by decide +kernel
theorem dX5_drawPlace_18 : decode cX5_drawPlace 18 = .ok (.aload_n 0, 1) := by decide +kernel
theorem dX5_drawPlace_19 : decode cX5_drawPlace 19 = .ok (.getfield 44, 3) := by decide +kernel
theorem dX5_drawPlace_22 : decode cX5_drawPlace 22 = .ok (.ldc 247, 2) := by decide +kernel
theorem dX5_drawPlace_24 : decode cX5_drawPlace 24 = .ok (.idiv, 1) := by decide +kernel
theorem dX5_drawPlace_25 : decode cX5_drawPlace 25 = .ok (.sipush 256, 3) := by decide +kernel
theorem dX5_drawPlace_28 : decode cX5_drawPlace 28 = .ok (.irem, 1) := by decide +kernel
theorem dX5_drawPlace_29 : decode cX5_drawPlace 29 = .ok (.ireturn, 1) := by decide +kernel
set_option maxRecDepth 20000 in
theorem ggX5_splitsAt_X3_flip : GoodIn wsX5_splitsAt wsX3_flip := goodIn_r _ [7, 8, 9, 10, 6, 11, 12, 13, 14, 15, 16, 17, 100, 101, 102] (by decide +kernel) (by decide +kernel)
set_option maxRecDepth 20000 in
theorem gX5_splitsAt_X3_flip : GoodIn wsX5_splitsAt (wsV RX5 179 RX3 yX3_flip wsX3_flip) := goodIn_app (goodIn_of _ (by decide +kernel)) ggX5_splitsAt_X3_flip
set_option maxRecDepth 20000 in
theorem ggX5_splitsAt_X4_read : GoodIn wsX5_splitsAt wsX4_read := goodIn_r _ [22, 23, 24, 25, 26, 27, 9, 10, 6, 11, 12, 28, 29, 30, 21, 31, 32, 33, 34, 35, 36, 37, 38, 39, 40, 41, 42, 43, 44, 45, 46, 47, 48, 49, 50, 51, 52, 53, 54, 55, 56, 57, 58, 59, 60, 61, 62, 63, 64, 65, 66, 67, 68, 69, 70, 71, 72, 73, 74, 75, 76, 77, 78, 79, 80, 81, 82, 83, 84, 85, 86, 87, 88, 103, 104, 105, 106, 107, 108, 109, 110, 100, 101, 102] (by decide +kernel) (by decide +kernel)
set_option maxRecDepth 20000 in
theorem gX5_splitsAt_X4_read : GoodIn wsX5_splitsAt (wsV RX5 248 RX4 yX4_read wsX4_read) := goodIn_app (goodIn_of _ (by decide +kernel)) ggX5_splitsAt_X4_read
set_option maxRecDepth 20000 in
theorem ggX5_splitsAt_X4_darkGroups : GoodIn wsX5_splitsAt wsX4_darkGroups := goodIn_r _ [92, 23, 39, 40, 103, 104, 105, 106, 107, 108, 109, 110] (by decide +kernel) (by decide +kernel)
set_option maxRecDepth 20000 in
theorem gX5_splitsAt_X4_darkGroups : GoodIn wsX5_splitsAt (wsV RX5 249 RX4 yX4_darkGroups wsX4_darkGroups) := goodIn_app (goodIn_of _ (by decide +kernel)) ggX5_splitsAt_X4_darkGroups
theorem dX5_splitsAt_0 : decode cX5_splitsAt 0 = .ok (.aload_n 0, 1) := by decide +kernel
theorem dX5_splitsAt_1 : decode cX5_splitsAt 1 = .ok (.getfield 12, 3) := by decide +kernel
theorem dX5_splitsAt_4 : decode cX5_splitsAt 4 = .ok (.iload_n 1, 1) := by decide +kernel
theorem dX5_splitsAt_5 : decode cX5_splitsAt 5 = .ok (.iconst 1, 1) := by decide +kernel
theorem dX5_splitsAt_6 : decode cX5_splitsAt 6 = .ok (.iload_n 2, 1) := by decide +kernel
theorem dX5_splitsAt_7 : decode cX5_splitsAt 7 = .ok (.ishl, 1) := by decide +kernel
theorem dX5_splitsAt_8 : decode cX5_splitsAt 8 = .ok (.invokevirtual 179, 3) := by decide +kernel
theorem dX5_splitsAt_11 : decode cX5_splitsAt 11 = .ok (.aload_n 0, 1) := by decide +kernel
theorem dX5_splitsAt_12 : decode cX5_splitsAt 12 = .ok (.getfield 26, 3) := by decide +kernel
theorem dX5_splitsAt_15 : decode cX5_splitsAt 15 = .ok (.aload_n 0, 1) := by decide +kernel
theorem dX5_splitsAt_16 : decode cX5_splitsAt 16 = .ok (.getfield 12, 3) := by decide +kernel
theorem dX5_splitsAt_19 : decode cX5_splitsAt 19 = .ok (.invokevirtual 248, 3) := by decide +kernel
theorem dX5_splitsAt_22 : decode cX5_splitsAt 22 = .ok (.aload_n 0, 1) := by decide +kernel
theorem dX5_splitsAt_23 : decode cX5_splitsAt 23 = .ok (.getfield 12, 3) := by decide +kernel
theorem dX5_splitsAt_26 : decode cX5_splitsAt 26 = .ok (.iload_n 1, 1) := by decide +kernel
theorem dX5_splitsAt_27 : decode cX5_splitsAt 27 = .ok (.iconst 1, 1) := by decide +kernel
theorem dX5_splitsAt_28 : decode cX5_splitsAt 28 = .ok (.iload_n 2, 1) := by decide +kernel
theorem dX5_splitsAt_29 : decode cX5_splitsAt 29 = .ok (.ishl, 1) := by decide +kernel
theorem dX5_splitsAt_30 : decode cX5_splitsAt 30 = .ok (.invokevirtual 179, 3) := by decide +kernel
theorem dX5_splitsAt_33 : decode cX5_splitsAt 33 = .ok (.aload_n 0, 1) := by decide +kernel
theorem dX5_splitsAt_34 : decode cX5_splitsAt 34 = .ok (.getfield 26, 3) := by decide +kernel
theorem dX5_splitsAt_37 : decode cX5_splitsAt 37 = .ok (.invokevirtual 249, 3) := by decide +kernel
theorem dX5_splitsAt_40 : decode cX5_splitsAt 40 = .ok (.iload_n 3, 1) := by decide +kernel
theorem dX5_splitsAt_41 : decode cX5_splitsAt 41 = .ok (.isub, 1) := by decide +kernel
theorem dX5_splitsAt_42 : decode cX5_splitsAt 42 = .ok (.iconst 1, 1) := by decide +kernel
theorem dX5_splitsAt_43 : decode cX5_splitsAt 43 = .ok (.iadd, 1) := by decide +kernel
theorem dX5_splitsAt_44 : decode cX5_splitsAt 44 = .ok (.ireturn, 1) := by decide +kernel
theorem dX6_init_0 : decode cX6_init 0 = .ok (.aload_n 0, 1) := by decide +kernel
theorem dX6_init_1 : decode cX6_init 1 = .ok (.invokespecial 1, 3) := by decide +kernel
theorem dX6_init_4 : decode cX6_init 4 = .ok (.aload_n 0, 1) := by decide +kernel
theorem dX6_init_5 : decode cX6_init 5 = .ok (.bipush 17, 2) := by decide +kernel
theorem dX6_init_7 : decode cX6_init 7 = .ok (.newarray .int, 2) := by decide +kernel
theorem dX6_init_9 : decode cX6_init 9 = .ok (.putfield 7, 3) := by decide +kernel
theorem dX6_init_12 : decode cX6_init 12 = .ok (.aload_n 0, 1) := by decide +kernel
theorem dX6_init_13 : decode cX6_init 13 = .ok (.bipush 17, 2) := by decide +kernel
theorem dX6_init_15 : decode cX6_init 15 = .ok (.newarray .int, 2) := by decide +kernel
theorem dX6_init_17 : decode cX6_init 17 = .ok (.putfield 13, 3) := by decide +kernel
theorem dX6_init_20 : decode cX6_init 20 = .ok (.aload_n 0, 1) := by decide +kernel
theorem dX6_init_21 : decode cX6_init 21 = .ok (.sipush 256, 3) := by decide +kernel
theorem dX6_init_24 : decode cX6_init 24 = .ok (.newarray .int, 2) := by decide +kernel
theorem dX6_init_26 : decode cX6_init 26 = .ok (.putfield 16, 3) := by decide +kernel
theorem dX6_init_29 : decode cX6_init 29 = .ok (.aload_n 0, 1) := by decide +kernel
theorem dX6_init_30 : decode cX6_init 30 = .ok (.sipush 256, 3) := by decide +kernel
theorem dX6_init_33 : decode cX6_init 33 = .ok (.newarray .int, 2) := by decide +kernel
theorem dX6_init_35 : decode cX6_init 35 = .ok (.putfield 19, 3) := by decide +kernel
theorem dX6_init_38 : decode cX6_init 38 = .ok (.aload_n 0, 1) := by decide +kernel
theorem dX6_init_39 : decode cX6_init 39 = .ok (.sipush 128, 3) := by decide +kernel
theorem dX6_init_42 : decode cX6_init 42 = .ok (.newarray .int, 2) := by decide +kernel
theorem dX6_init_44 : decode cX6_init 44 = .ok (.putfield 22, 3) := by decide +kernel
theorem dX6_init_47 : decode cX6_init 47 = .ok (.aload_n 0, 1) := by decide +kernel
theorem dX6_init_48 : decode cX6_init 48 = .ok (.sipush 128, 3) := by decide +kernel
theorem dX6_init_51 : decode cX6_init 51 = .ok (.newarray .int, 2) := by decide +kernel
theorem dX6_init_53 : decode cX6_init 53 = .ok (.putfield 25, 3) := by decide +kernel
theorem dX6_init_56 : decode cX6_init 56 = .ok (.aload_n 0, 1) := by decide +kernel
theorem dX6_init_57 : decode cX6_init 57 = .ok (.sipush 128, 3) := by decide +kernel
theorem dX6_init_60 : decode cX6_init 60 = .ok (.newarray .int, 2) := by decide +kernel
theorem dX6_init_62 : decode cX6_init 62 = .ok (.putfield 28, 3) := by decide +kernel
theorem dX6_init_65 : decode cX6_init 65 = .ok (.aload_n 0, 1) := by decide +kernel
theorem dX6_init_66 : decode cX6_init 66 = .ok (.sipush 510, 3) := by decide +kernel
theorem dX6_init_69 : decode cX6_init 69 = .ok (.newarray .int, 2) := by decide +kernel
theorem dX6_init_71 : decode cX6_init 71 = .ok (.putfield 31, 3) := by decide +kernel
theorem dX6_init_74 : decode cX6_init 74 = .ok (.aload_n 0, 1) := by decide +kernel
theorem dX6_init_75 : decode cX6_init 75 = .ok (.iconst 2, 1) := by decide +kernel
theorem dX6_init_76 : decode cX6_init 76 = .ok (.newarray .boolean, 2) := by decide +kernel
theorem dX6_init_78 : decode cX6_init 78 = .ok (.putfield 34, 3) := by decide +kernel
theorem dX6_init_81 : decode cX6_init 81 = .ok (.aload_n 0, 1) := by decide +kernel
theorem dX6_init_82 : decode cX6_init 82 = .ok (.bipush 34, 2) := by decide +kernel
theorem dX6_init_84 : decode cX6_init 84 = .ok (.newarray .int, 2) := by decide +kernel
theorem dX6_init_86 : decode cX6_init 86 = .ok (.putfield 38, 3) := by decide +kernel
theorem dX6_init_89 : decode cX6_init 89 = .ok (.aload_n 0, 1) := by decide +kernel
theorem dX6_init_90 : decode cX6_init 90 = .ok (.iconst 2, 1) := by decide +kernel
theorem dX6_init_91 : decode cX6_init 91 = .ok (.newarray .int, 2) := by decide +kernel
theorem dX6_init_93 : decode cX6_init 93 = .ok (.putfield 41, 3) := by decide +kernel
theorem dX6_init_96 : decode cX6_init 96 = .ok (.aload_n 0, 1) := by decide +kernel
theorem dX6_init_97 : decode cX6_init 97 = .ok (.getfield 7, 3) := by decide +kernel
theorem dX6_init_100 : decode cX6_init 100 = .ok (.bipush 16, 2) := by decide +kernel
theorem dX6_init_102 : decode cX6_init 102 = .ok (.iconst 4, 1) := by decide +kernel
theorem dX6_init_103 : decode cX6_init 103 = .ok (.iastore, 1) := by decide +kernel
theorem dX6_init_104 : decode cX6_init 104 = .ok (.return_, 1) := by decide +kernel
theorem dX6_in_0 : decode cX6_in 0 = .ok (.iload_n 0, 1) := by decide +kernel
theorem dX6_in_1 : decode cX6_in 1 = .ok (.iload_n 1, 1) := by decide +kernel
theorem dX6_in_2 : decode cX6_in 2 = .ok (.if_icmp .lt 12, 3) := by decide +kernel
theorem dX6_in_5 : decode cX6_in 5 = .ok (.iload_n 0, 1) := by decide +kernel
theorem dX6_in_6 : decode cX6_in 6 = .ok (.iload_n 2, 1) := by decide +kernel
theorem dX6_in_7 : decode cX6_in 7 = .ok (.if_icmp .gt 7, 3) := by decide +kernel
theorem dX6_in_10 : decode cX6_in 10 = .ok (.iconst 1, 1) := by decide +kernel
theorem dX6_in_11 : decode cX6_in 11 = .ok (.goto 4, 3) := by decide +kernel
theorem dX6_in_14 : decode cX6_in 14 = .ok (.iconst 0, 1) := by decide +kernel
theorem dX6_in_15 : decode cX6_in 15 = .ok (.ireturn, 1) := by decide +kernel
theorem dX6_has_0 : decode cX6_has 0 = .ok (.iload_n 0, 1) := by decide +kernel
theorem dX6_has_1 : decode cX6_has 1 = .ok (.iload_n 1, 1) := by decide +kernel
theorem dX6_has_2 : decode cX6_has 2 = .ok (.ishr, 1) := by decide +kernel
theorem dX6_has_3 : decode cX6_has 3 = .ok (.iconst 1, 1) := by decide +kernel
theorem dX6_has_4 : decode cX6_has 4 = .ok (.iand, 1) := by decide +kernel
theorem dX6_has_5 : decode cX6_has 5 = .ok (.iconst 1, 1) := by decide +kernel
theorem dX6_has_6 : decode cX6_has 6 = .ok (.if_icmp .ne 7, 3) := by decide +kernel
theorem dX6_has_9 : decode cX6_has 9 = .ok (.iconst 1, 1) := by decide +kernel
theorem dX6_has_10 : decode cX6_has 10 = .ok (.goto 4, 3) := by decide +kernel
theorem dX6_has_13 : decode cX6_has 13 = .ok (.iconst 0, 1) := by decide +kernel
theorem dX6_has_14 : decode cX6_has 14 = .ok (.ireturn, 1) := by decide +kernel
theorem dX6_bits_0 : decode cX6_bits 0 = .ok (.iconst 0, 1) := by decide +kernel
theorem dX6_bits_1 : decode cX6_bits 1 = .ok (.istore_n 1, 1) := by decide +kernel
theorem dX6_bits_2 : decode cX6_bits 2 = .ok (.iload_n 0, 1) := by decide +kernel
theorem dX6_bits_3 : decode cX6_bits 3 = .ok (.istore_n 2, 1) := by decide +kernel
theorem dX6_bits_4 : decode cX6_bits 4 = .ok (.iload_n 2, 1) := by decide +kernel
theorem dX6_bits_5 : decode cX6_bits 5 = .ok (.ifCond .eq 15, 3) := by decide +kernel
theorem dX6_bits_8 : decode cX6_bits 8 = .ok (.iinc 1 1, 3) := by decide +kernel
theorem dX6_bits_11 : decode cX6_bits 11 = .ok (.iload_n 2, 1) := by decide +kernel
theorem dX6_bits_12 : decode cX6_bits 12 = .ok (.iload_n 2, 1) := by decide +kernel
theorem dX6_bits_13 : decode cX6_bits 13 = .ok (.iconst 1, 1) := by decide +kernel
theorem dX6_bits_14 : decode cX6_bits 14 = .ok (.isub, 1) := by decide +kernel
theorem dX6_bits_15 : decode cX6_bits 15 = .ok (.iand, 1) := by decide +kernel
theorem dX6_bits_16 : decode cX6_bits 16 = .ok (.istore_n 2, 1) := by decide +kernel
theorem dX6_bits_17 : decode cX6_bits 17 = .ok (.goto (-13), 3) := by decide +kernel
theorem dX6_bits_20 : decode cX6_bits 20 = .ok (.iload_n 1, 1) := by decide +kernel
theorem dX6_bits_21 : decode cX6_bits 21 = .ok (.ireturn, 1) := by decide +kernel
set_option maxRecDepth 20000 in
theorem ggX6_isDark_X6_has : GoodIn wsX6_isDark wsX6_has := goodIn_r _ [4] (by decide +kernel) (by decide +kernel)
set_option maxRecDepth 20000 in
theorem gX6_isDark_X6_has : GoodIn wsX6_isDark (va_wsS RX6 44 yX6_has wsX6_has) := goodIn_app (goodIn_of _ (by decide +kernel)) ggX6_isDark_X6_has
theorem dX6_isDark_0 : decode cX6_isDark 0 = .ok (.aload_n 0, 1) := by decide +kernel
theorem dX6_isDark_1 : decode cX6_isDark 1 = .ok (.iload_n 1, 1) := by decide +kernel
theorem dX6_isDark_2 : decode cX6_isDark 2 = .ok (.bipush 16, 2) := by decide +kernel
theorem dX6_isDark_4 : decode cX6_isDark 4 = .ok (.idiv, 1) := by decide +kernel
theorem dX6_isDark_5 : decode cX6_isDark 5 = .ok (.iaload, 1) := by decide +kernel
theorem dX6_isDark_6 : decode cX6_isDark 6 = .ok (.iload_n 1, 1) := by decide +kernel
theorem dX6_isDark_7 : decode cX6_isDark 7 = .ok (.bipush 16, 2) := by decide +kernel
theorem dX6_isDark_9 : decode cX6_isDark 9 = .ok (.irem, 1) := by decide +kernel
theorem dX6_isDark_10 : decode cX6_isDark 10 = .ok (.invokestatic 44, 3) := by decide +kernel
theorem dX6_isDark_13 : decode cX6_isDark 13 = .ok (.ireturn, 1) := by decide +kernel
theorem dX6_copies_0 : decode cX6_copies 0 = .ok (.iconst 0, 1) := by decide +kernel
theorem dX6_copies_1 : decode cX6_copies 1 = .ok (.istore_n 2, 1) := by decide +kernel
theorem dX6_copies_2 : decode cX6_copies 2 = .ok (.iload_n 2, 1) := by decide +kernel
theorem dX6_copies_3 : decode cX6_copies 3 = .ok (.bipush 17, 2) := by decide +kernel
theorem dX6_copies_5 : decode cX6_copies 5 = .ok (.if_icmp .ge 15, 3) := by decide +kernel
theorem dX6_copies_8 : decode cX6_copies 8 = .ok (.aload_n 1, 1) := by decide +kernel
theorem dX6_copies_9 : decode cX6_copies 9 = .ok (.iload_n 2, 1) := by decide +kernel
theorem dX6_copies_10 : decode cX6_copies 10 = .ok (.aload_n 0, 1) := by decide +kernel
theorem dX6_copies_11 : decode cX6_copies 11 = .ok (.iload_n 2, 1) := by decide +kernel
theorem dX6_copies_12 : decode cX6_copies 12 = .ok (.iaload, 1) := by decide +kernel
theorem dX6_copies_13 : decode cX6_copies 13 = .ok (.iastore, 1) := by decide +kernel
theorem dX6_copies_14 : decode cX6_copies 14 = .ok (.iinc 2 1, 3) := by decide +kernel
theorem dX6_copies_17 : decode cX6_copies 17 = .ok (.goto (-15), 3) := by decide +kernel
theorem dX6_copies_20 : decode cX6_copies 20 = .ok (.return_, 1) := by decide +kernel
set_option maxRecDepth 20000 in
theorem ggX6_isOn_X6_in : GoodIn wsX6_isOn wsX6_in := goodIn_r _ [4] (by decide +kernel) (by decide +kernel)
set_option maxRecDepth 20000 in
theorem gX6_isOn_X6_in : GoodIn wsX6_isOn (va_wsS RX6 48 yX6_in wsX6_in) := goodIn_app (goodIn_of _ (by decide +kernel)) ggX6_isOn_X6_in
theorem dX6_isOn_0 : decode cX6_isOn 0 = .ok (.iload_n 0, 1) := by decide +kernel
theorem dX6_isOn_1 : decode cX6_isOn 1 = .ok (.iconst 0, 1) := by decide +kernel
theorem dX6_isOn_2 : decode cX6_isOn 2 = .ok (.bipush 15, 2) := by decide +kernel
theorem dX6_isOn_4 : decode cX6_isOn 4 = .ok (.invokestatic 48, 3) := by decide +kernel
theorem dX6_isOn_7 : decode cX6_isOn 7 = .ok (.ifCond .eq 17, 3) := by decide +kernel
theorem dX6_isOn_10 : decode cX6_isOn 10 = .ok (.iload_n 1, 1) := by decide +kernel
theorem dX6_isOn_11 : decode cX6_isOn 11 = .ok (.iconst 0, 1) := by decide +kernel
theorem dX6_isOn_12 : decode cX6_isOn 12 = .ok (.bipush 15, 2) := by decide +kernel
theorem dX6_isOn_14 : decode cX6_isOn 14 = .ok (.invokestatic 48, 3) := by decide +kernel
theorem dX6_isOn_17 : decode cX6_isOn 17 = .ok (.ifCond .eq 7, 3) := by decide +kernel
theorem dX6_isOn_20 : decode cX6_isOn 20 = .ok (.iconst 1, 1) := by decide +kernel
theorem dX6_isOn_21 : decode cX6_isOn 21 = .ok (.goto 4, 3) := by decide +kernel
theorem dX6_isOn_24 : decode cX6_isOn 24 = .ok (.iconst 0, 1) := by decide +kernel
theorem dX6_isOn_25 : decode cX6_isOn 25 = .ok (.ireturn, 1) := by decide +kernel
set_option maxRecDepth 20000 in
theorem ggX6_floods_X6_isDark : GoodIn wsX6_floods wsX6_isDark := goodIn_r _ [6, 7, 8, 5, 9] (by decide +kernel) (by decide +kernel)
set_option maxRecDepth 20000 in
theorem gX6_floods_X6_isDark : GoodIn wsX6_floods (va_wsS RX6 52 yX6_isDark wsX6_isDark) := goodIn_app (goodIn_of _ (by decide +kernel)) ggX6_floods_X6_isDark
set_option maxRecDepth 20000 in
theorem ggX6_floods_X6_isOn : GoodIn wsX6_floods wsX6_isOn := goodIn_r _ [12, 13, 14, 5, 15] (by decide +kernel) (by decide +kernel)
set_option maxRecDepth 20000 in
theorem gX6_floods_X6_isOn : GoodIn wsX6_floods (va_wsS RX6 56 yX6_isOn wsX6_isOn) := goodIn_app (goodIn_of _ (by decide +kernel)) ggX6_floods_X6_isOn
theorem dX6_floods_0 : decode cX6_floods 0 = .ok (.aload_n 1, 1) := by decide +kernel
theorem dX6_floods_1 : decode cX6_floods 1 = .ok (.iload_n 2, 1) := by decide +kernel
theorem dX6_floods_2 : decode cX6_floods 2 = .ok (.invokestatic 52, 3) := by decide +kernel
theorem dX6_floods_5 : decode cX6_floods 5 = .ok (.istore 4, 2) := by decide +kernel
theorem dX6_floods_7 : decode cX6_floods 7 = .ok (.iload 4, 2) := by decide +kernel
theorem dX6_floods_9 : decode cX6_floods 9 = .ok (.aload_n 1, 1) := by decide +kernel
theorem dX6_floods_10 : decode cX6_floods 10 = .ok (.bipush 16, 2) := by decide +kernel
theorem dX6_floods_12 : decode cX6_floods 12 = .ok (.iaload, 1) := by decide +kernel
theorem dX6_floods_13 : decode cX6_floods 13 = .ok (.bipush 8, 2) := by decide +kernel
theorem dX6_floods_15 : decode cX6_floods 15 = .ok (.if_icmp .ne 7, 3) := by decide +kernel
theorem dX6_floods_18 : decode cX6_floods 18 = .ok (.iconst 1, 1) := by decide +kernel
theorem dX6_floods_19 : decode cX6_floods 19 = .ok (.goto 4, 3) := by decide +kernel
theorem dX6_floods_22 : decode cX6_floods 22 = .ok (.iconst 0, 1) := by decide +kernel
theorem dX6_floods_23 : decode cX6_floods 23 = .ok (.if_icmp .ne 7, 3) := by decide +kernel
theorem dX6_floods_26 : decode cX6_floods 26 = .ok (.iconst 1, 1) := by decide +kernel
theorem dX6_floods_27 : decode cX6_floods 27 = .ok (.goto 4, 3) := by decide +kernel
theorem dX6_floods_30 : decode cX6_floods 30 = .ok (.iconst 0, 1) := by decide +kernel
theorem dX6_floods_31 : decode cX6_floods 31 = .ok (.istore 5, 2) := by decide +kernel
