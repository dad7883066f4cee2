theorem dX6_isNear_71 : decode cX6_isNear 71 = .ok (.iload_n 3, 1) := by decide +kernel
theorem dX6_isNear_72 : decode cX6_isNear 72 = .ok (.ifCond .ne 41, 3) := by decide +kernel
theorem dX6_isNear_75 : decode cX6_isNear 75 = .ok (.iload 7, 2) := by decide +kernel
theorem dX6_isNear_77 : decode cX6_isNear 77 = .ok (.ifCond .eq 40, 3) := by decide +kernel
theorem dX6_isNear_80 : decode cX6_isNear 80 = .ok (.iload 5, 2) := by decide +kernel
theorem dX6_isNear_82 : decode cX6_isNear 82 = .ok (.iload 6, 2) := by decide +kernel
theorem dX6_isNear_84 : decode cX6_isNear 84 = .ok (.invokestatic 56, 3) := by decide +kernel
theorem dX6_isNear_87 : decode cX6_isNear 87 = .ok (.ifCond .eq 22, 3) := by decide +kernel
theorem dX6_isNear_90 : decode cX6_isNear 90 = .ok (.aload_n 0, 1) := by decide +kernel
theorem dX6_isNear_91 : decode cX6_isNear 91 = .ok (.getfield 7, 3) := by decide +kernel
theorem dX6_isNear_94 : decode cX6_isNear 94 = .ok (.iload 5, 2) := by decide +kernel
theorem dX6_isNear_96 : decode cX6_isNear 96 = .ok (.iaload, 1) := by decide +kernel
theorem dX6_isNear_97 : decode cX6_isNear 97 = .ok (.iload 6, 2) := by decide +kernel
theorem dX6_isNear_99 : decode cX6_isNear 99 = .ok (.invokestatic 44, 3) := by decide +kernel
theorem dX6_isNear_102 : decode cX6_isNear 102 = .ok (.iload_n 2, 1) := by decide +kernel
theorem dX6_isNear_103 : decode cX6_isNear 103 = .ok (.if_icmp .eq 14, 3) := by decide +kernel
theorem dX6_isNear_106 : decode cX6_isNear 106 = .ok (.goto 7, 3) := by decide +kernel
theorem dX6_isNear_109 : decode cX6_isNear 109 = .ok (.iload_n 2, 1) := by decide +kernel
theorem dX6_isNear_110 : decode cX6_isNear 110 = .ok (.ifCond .eq 7, 3) := by decide +kernel
theorem dX6_isNear_113 : decode cX6_isNear 113 = .ok (.iconst 1, 1) := by decide +kernel
theorem dX6_isNear_114 : decode cX6_isNear 114 = .ok (.goto 4, 3) := by decide +kernel
theorem dX6_isNear_117 : decode cX6_isNear 117 = .ok (.iconst 0, 1) := by decide +kernel
theorem dX6_isNear_118 : decode cX6_isNear 118 = .ok (.istore_n 3, 1) := by decide +kernel
theorem dX6_isNear_119 : decode cX6_isNear 119 = .ok (.iinc 4 1, 3) := by decide +kernel
theorem dX6_isNear_122 : decode cX6_isNear 122 = .ok (.goto (-117), 3) := by decide +kernel
theorem dX6_isNear_125 : decode cX6_isNear 125 = .ok (.iload_n 3, 1) := by decide +kernel
theorem dX6_isNear_126 : decode cX6_isNear 126 = .ok (.ireturn, 1) := by decide +kernel
set_option maxRecDepth 20000 in
theorem ggX6_turnsNear_X6_remember : GoodIn wsX6_turnsNear wsX6_remember := goodIn_r _ [7, 8, 9, 1, 10, 30, 31, 32, 33, 34, 35, 36, 37, 38, 39, 40, 41, 42, 43, 44, 45, 46] (by decide +kernel) (by decide +kernel)
set_option maxRecDepth 20000 in
theorem gX6_turnsNear_X6_remember : GoodIn wsX6_turnsNear (wsV RX6 150 RX6 yX6_remember wsX6_remember) := goodIn_app (goodIn_of _ (by decide +kernel)) ggX6_turnsNear_X6_remember
set_option maxRecDepth 20000 in
theorem ggX6_turnsNear_X6_copies : GoodIn wsX6_turnsNear wsX6_copies := goodIn_r _ [13] (by decide +kernel) (by decide +kernel)
set_option maxRecDepth 20000 in
theorem gX6_turnsNear_X6_copies : GoodIn wsX6_turnsNear (va_wsS RX6 123 yX6_copies wsX6_copies) := goodIn_app (goodIn_of _ (by decide +kernel)) ggX6_turnsNear_X6_copies
set_option maxRecDepth 20000 in
theorem ggX6_turnsNear_X6_isDark : GoodIn wsX6_turnsNear wsX6_isDark := goodIn_r _ [16, 17, 18, 6, 19] (by decide +kernel) (by decide +kernel)
set_option maxRecDepth 20000 in
theorem gX6_turnsNear_X6_isDark : GoodIn wsX6_turnsNear (va_wsS RX6 52 yX6_isDark wsX6_isDark) := goodIn_app (goodIn_of _ (by decide +kernel)) ggX6_turnsNear_X6_isDark
set_option maxRecDepth 20000 in
theorem ggX6_turnsNear_X6_isNear : GoodIn wsX6_turnsNear wsX6_isNear := goodIn_r _ [23, 1, 24, 25, 6, 26, 27, 28, 29, 17, 18, 19, 30, 31, 32, 33, 34, 35, 36, 37, 38, 39, 40, 41, 42, 43, 44, 45, 46] (by decide +kernel) (by decide +kernel)
set_option maxRecDepth 20000 in
theorem gX6_turnsNear_X6_isNear : GoodIn wsX6_turnsNear (wsV RX6 160 RX6 yX6_isNear wsX6_isNear) := goodIn_app (goodIn_of _ (by decide +kernel)) ggX6_turnsNear_X6_isNear
theorem dX6_turnsNear_0 : decode cX6_turnsNear 0 = .ok (.aload_n 0, 1) := by decide +kernel
theorem dX6_turnsNear_1 : decode cX6_turnsNear 1 = .ok (.invokevirtual 150, 3) := by decide +kernel
theorem dX6_turnsNear_4 : decode cX6_turnsNear 4 = .ok (.iconst 0, 1) := by decide +kernel
theorem dX6_turnsNear_5 : decode cX6_turnsNear 5 = .ok (.istore_n 2, 1) := by decide +kernel
theorem dX6_turnsNear_6 : decode cX6_turnsNear 6 = .ok (.aload_n 0, 1) := by decide +kernel
theorem dX6_turnsNear_7 : decode cX6_turnsNear 7 = .ok (.getfield 7, 3) := by decide +kernel
theorem dX6_turnsNear_10 : decode cX6_turnsNear 10 = .ok (.aload_n 0, 1) := by decide +kernel
theorem dX6_turnsNear_11 : decode cX6_turnsNear 11 = .ok (.getfield 13, 3) := by decide +kernel
theorem dX6_turnsNear_14 : decode cX6_turnsNear 14 = .ok (.invokestatic 123, 3) := by decide +kernel
theorem dX6_turnsNear_17 : decode cX6_turnsNear 17 = .ok (.iconst 0, 1) := by decide +kernel
theorem dX6_turnsNear_18 : decode cX6_turnsNear 18 = .ok (.istore_n 3, 1) := by decide +kernel
theorem dX6_turnsNear_19 : decode cX6_turnsNear 19 = .ok (.iload_n 3, 1) := by decide +kernel
theorem dX6_turnsNear_20 : decode cX6_turnsNear 20 = .ok (.sipush 256, 3) := by decide +kernel
theorem dX6_turnsNear_23 : decode cX6_turnsNear 23 = .ok (.if_icmp .ge 51, 3) := by decide +kernel
theorem dX6_turnsNear_26 : decode cX6_turnsNear 26 = .ok (.aload_n 0, 1) := by decide +kernel
theorem dX6_turnsNear_27 : decode cX6_turnsNear 27 = .ok (.getfield 7, 3) := by decide +kernel
theorem dX6_turnsNear_30 : decode cX6_turnsNear 30 = .ok (.iload_n 3, 1) := by decide +kernel
theorem dX6_turnsNear_31 : decode cX6_turnsNear 31 = .ok (.invokestatic 52, 3) := by decide +kernel
theorem dX6_turnsNear_34 : decode cX6_turnsNear 34 = .ok (.iload_n 1, 1) := by decide +kernel
theorem dX6_turnsNear_35 : decode cX6_turnsNear 35 = .ok (.if_icmp .ne 33, 3) := by decide +kernel
theorem dX6_turnsNear_38 : decode cX6_turnsNear 38 = .ok (.aload_n 0, 1) := by decide +kernel
theorem dX6_turnsNear_39 : decode cX6_turnsNear 39 = .ok (.iload_n 3, 1) := by decide +kernel
theorem dX6_turnsNear_40 : decode cX6_turnsNear 40 = .ok (.iload_n 1, 1) := by decide +kernel
theorem dX6_turnsNear_41 : decode cX6_turnsNear 41 = .ok (.invokevirtual 160, 3) := by decide +kernel
theorem dX6_turnsNear_44 : decode cX6_turnsNear 44 = .ok (.ifCond .eq 24, 3) := by decide +kernel
theorem dX6_turnsNear_47 : decode cX6_turnsNear 47 = .ok (.aload_n 0, 1) := by decide +kernel
theorem dX6_turnsNear_48 : decode cX6_turnsNear 48 = .ok (.getfield 13, 3) := by decide +kernel
theorem dX6_turnsNear_51 : decode cX6_turnsNear 51 = .ok (.iload_n 3, 1) := by decide +kernel
theorem dX6_turnsNear_52 : decode cX6_turnsNear 52 = .ok (.bipush 16, 2) := by decide +kernel
theorem dX6_turnsNear_54 : decode cX6_turnsNear 54 = .ok (.idiv, 1) := by decide +kernel
theorem dX6_turnsNear_55 : decode cX6_turnsNear 55 = .ok (.dup2, 1) := by decide +kernel
theorem dX6_turnsNear_56 : decode cX6_turnsNear 56 = .ok (.iaload, 1) := by decide +kernel
theorem dX6_turnsNear_57 : decode cX6_turnsNear 57 = .ok (.iconst 1, 1) := by decide +kernel
theorem dX6_turnsNear_58 : decode cX6_turnsNear 58 = .ok (.iload_n 3, 1) := by decide +kernel
theorem dX6_turnsNear_59 : decode cX6_turnsNear 59 = .ok (.bipush 16, 2) := by decide +kernel
theorem dX6_turnsNear_61 : decode cX6_turnsNear 61 = .ok (.irem, 1) := by decide +kernel
theorem dX6_turnsNear_62 : decode cX6_turnsNear 62 = .ok (.ishl, 1) := by decide +kernel
theorem dX6_turnsNear_63 : decode cX6_turnsNear 63 = .ok (.ixor, 1) := by decide +kernel
theorem dX6_turnsNear_64 : decode cX6_turnsNear 64 = .ok (.iastore, 1) := by decide +kernel
theorem dX6_turnsNear_65 : decode cX6_turnsNear 65 = .ok (.iinc 2 1, 3) := by decide +kernel
theorem dX6_turnsNear_68 : decode cX6_turnsNear 68 = .ok (.iinc 3 1, 3) := by decide +kernel
theorem dX6_turnsNear_71 : decode cX6_turnsNear 71 = .ok (.goto (-52), 3) := by decide +kernel
theorem dX6_turnsNear_74 : decode cX6_turnsNear 74 = .ok (.aload_n 0, 1) := by decide +kernel
theorem dX6_turnsNear_75 : decode cX6_turnsNear 75 = .ok (.getfield 13, 3) := by decide +kernel
theorem dX6_turnsNear_78 : decode cX6_turnsNear 78 = .ok (.aload_n 0, 1) := by decide +kernel
theorem dX6_turnsNear_79 : decode cX6_turnsNear 79 = .ok (.getfield 7, 3) := by decide +kernel
theorem dX6_turnsNear_82 : decode cX6_turnsNear 82 = .ok (.invokestatic 123, 3) := by decide +kernel
theorem dX6_turnsNear_85 : decode cX6_turnsNear 85 = .ok (.iload_n 2, 1) := by decide +kernel
theorem dX6_turnsNear_86 : decode cX6_turnsNear 86 = .ok (.ireturn, 1) := by decide +kernel
set_option maxRecDepth 20000 in
theorem ggX6_grow_X6_turnsNear : GoodIn wsX6_grow wsX6_turnsNear := goodIn_r _ [5, 6, 7, 8, 9, 10, 4, 11, 12, 13, 14, 15, 16, 17, 18, 19, 20, 21, 22, 23, 24, 25, 26, 27, 28, 29, 30, 31, 32, 33, 34, 35, 36, 37, 38, 39, 40, 41, 42, 43, 44, 45, 46, 47, 48, 49, 50] (by decide +kernel) (by decide +kernel)
set_option maxRecDepth 20000 in
theorem gX6_grow_X6_turnsNear : GoodIn wsX6_grow (wsV RX6 164 RX6 yX6_turnsNear wsX6_turnsNear) := goodIn_app (goodIn_of _ (by decide +kernel)) ggX6_grow_X6_turnsNear
theorem dX6_grow_0 : decode cX6_grow 0 = .ok (.aload_n 0, 1) := by decide +kernel
theorem dX6_grow_1 : decode cX6_grow 1 = .ok (.iconst 0, 1) := by decide +kernel
theorem dX6_grow_2 : decode cX6_grow 2 = .ok (.invokevirtual 164, 3) := by decide +kernel
theorem dX6_grow_5 : decode cX6_grow 5 = .ok (.ireturn, 1) := by decide +kernel
set_option maxRecDepth 20000 in
theorem ggX6_shrink_X6_turnsNear : GoodIn wsX6_shrink wsX6_turnsNear := goodIn_r _ [5, 6, 7, 8, 9, 10, 4, 11, 12, 13, 14, 15, 16, 17, 18, 19, 20, 21, 22, 23, 24, 25, 26, 27, 28, 29, 30, 31, 32, 33, 34, 35, 36, 37, 38, 39, 40, 41, 42, 43, 44, 45, 46, 47, 48, 49, 50] (by decide +kernel) (by decide +kernel)
set_option maxRecDepth 20000 in
theorem gX6_shrink_X6_turnsNear : GoodIn wsX6_shrink (wsV RX6 164 RX6 yX6_turnsNear wsX6_turnsNear) := goodIn_app (goodIn_of _ (by decide +kernel)) ggX6_shrink_X6_turnsNear
theorem dX6_shrink_0 : decode cX6_shrink 0 = .ok (.aload_n 0, 1) := by decide +kernel
theorem dX6_shrink_1 : decode cX6_shrink 1 = .ok (.iconst 1, 1) := by decide +kernel
theorem dX6_shrink_2 : decode cX6_shrink 2 = .ok (.invokevirtual 164, 3) := by decide +kernel
theorem dX6_shrink_5 : decode cX6_shrink 5 = .ok (.ireturn, 1) := by decide +kernel
set_option maxRecDepth 20000 in
theorem ggX6_move_X6_in : GoodIn wsX6_move wsX6_in := goodIn_r _ [8] (by decide +kernel) (by decide +kernel)
set_option maxRecDepth 20000 in
theorem gX6_move_X6_in : GoodIn wsX6_move (va_wsS RX6 48 yX6_in wsX6_in) := goodIn_app (goodIn_of _ (by decide +kernel)) ggX6_move_X6_in
set_option maxRecDepth 20000 in
theorem ggX6_move_X6_remember : GoodIn wsX6_move wsX6_remember := goodIn_r _ [12, 13, 14, 2, 15, 26, 27, 28, 29, 30, 31, 32, 33, 34, 35, 36, 37, 38, 39, 40, 41, 42] (by decide +kernel) (by decide +kernel)
set_option maxRecDepth 20000 in
theorem gX6_move_X6_remember : GoodIn wsX6_move (wsV RX6 150 RX6 yX6_remember wsX6_remember) := goodIn_app (goodIn_of _ (by decide +kernel)) ggX6_move_X6_remember
set_option maxRecDepth 20000 in
theorem ggX6_move_X6_copies : GoodIn wsX6_move wsX6_copies := goodIn_r _ [18] (by decide +kernel) (by decide +kernel)
set_option maxRecDepth 20000 in
theorem gX6_move_X6_copies : GoodIn wsX6_move (va_wsS RX6 123 yX6_copies wsX6_copies) := goodIn_app (goodIn_of _ (by decide +kernel)) ggX6_move_X6_copies
set_option maxRecDepth 20000 in
theorem ggX6_move_X6_darkOf : GoodIn wsX6_move wsX6_darkOf := goodIn_r _ [22, 23, 24, 7, 25] (by decide +kernel) (by decide +kernel)
set_option maxRecDepth 20000 in
theorem gX6_move_X6_darkOf : GoodIn wsX6_move (wsV RX6 104 RX6 yX6_darkOf wsX6_darkOf) := goodIn_app (goodIn_of _ (by decide +kernel)) ggX6_move_X6_darkOf
theorem dX6_move_0 : decode cX6_move 0 = .ok (.iload_n 1, 1) := by decide +kernel
theorem dX6_move_1 : decode cX6_move 1 = .ok (.bipush (-15), 2) := by decide +kernel
theorem dX6_move_3 : decode cX6_move 3 = .ok (.bipush 15, 2) := by decide +kernel
theorem dX6_move_5 : decode cX6_move 5 = .ok (.invokestatic 48, 3) := by decide +kernel
theorem dX6_move_8 : decode cX6_move 8 = .ok (.ifCond .eq 14, 3) := by decide +kernel
theorem dX6_move_11 : decode cX6_move 11 = .ok (.iload_n 2, 1) := by decide +kernel
theorem dX6_move_12 : decode cX6_move 12 = .ok (.bipush (-15), 2) := by decide +kernel
theorem dX6_move_14 : decode cX6_move 14 = .ok (.bipush 15, 2) := by decide +kernel
theorem dX6_move_16 : decode cX6_move 16 = .ok (.invokestatic 48, 3) := by decide +kernel
theorem dX6_move_19 : decode cX6_move 19 = .ok (.ifCond .ne 6, 3) := by decide +kernel
theorem dX6_move_22 : decode cX6_move 22 = .ok (.ldc 121, 2) := by decide +kernel
theorem dX6_move_24 : decode cX6_move 24 = .ok (.ireturn, 1) := by decide +kernel
theorem dX6_move_25 : decode cX6_move 25 = .ok (.aload_n 0, 1) := by decide +kernel
theorem dX6_move_26 : decode cX6_move 26 = .ok (.invokevirtual 150, 3) := by decide +kernel
theorem dX6_move_29 : decode cX6_move 29 = .ok (.aload_n 0, 1) := by decide +kernel
theorem dX6_move_30 : decode cX6_move 30 = .ok (.getfield 7, 3) := by decide +kernel
theorem dX6_move_33 : decode cX6_move 33 = .ok (.aload_n 0, 1) := by decide +kernel
theorem dX6_move_34 : decode cX6_move 34 = .ok (.getfield 13, 3) := by decide +kernel
theorem dX6_move_37 : decode cX6_move 37 = .ok (.invokestatic 123, 3) := by decide +kernel
theorem dX6_move_40 : decode cX6_move 40 = .ok (.iconst 0, 1) := by decide +kernel
theorem dX6_move_41 : decode cX6_move 41 = .ok (.istore_n 3, 1) := by decide +kernel
theorem dX6_move_42 : decode cX6_move 42 = .ok (.iload_n 3, 1) := by decide +kernel
theorem dX6_move_43 : decode cX6_move 43 = .ok (.bipush 16, 2) := by decide +kernel
theorem dX6_move_45 : decode cX6_move 45 = .ok (.if_icmp .ge 60, 3) := by decide +kernel
theorem dX6_move_48 : decode cX6_move 48 = .ok (.iload_n 3, 1) := by decide +kernel
theorem dX6_move_49 : decode cX6_move 49 = .ok (.iload_n 1, 1) := by decide +kernel
theorem dX6_move_50 : decode cX6_move 50 = .ok (.isub, 1) := by decide +kernel
theorem dX6_move_51 : decode cX6_move 51 = .ok (.iconst 0, 1) := by decide +kernel
theorem dX6_move_52 : decode cX6_move 52 = .ok (.bipush 15, 2) := by decide +kernel
theorem dX6_move_54 : decode cX6_move 54 = .ok (.invokestatic 48, 3) := by decide +kernel
theorem dX6_move_57 : decode cX6_move 57 = .ok (.ifCond .eq 14, 3) := by decide +kernel
theorem dX6_move_60 : decode cX6_move 60 = .ok (.aload_n 0, 1) := by decide +kernel
theorem dX6_move_61 : decode cX6_move 61 = .ok (.getfield 13, 3) := by decide +kernel
theorem dX6_move_64 : decode cX6_move 64 = .ok (.iload_n 3, 1) := by decide +kernel
theorem dX6_move_65 : decode cX6_move 65 = .ok (.iload_n 1, 1) := by decide +kernel
theorem dX6_move_66 : decode cX6_move 66 = .ok (.isub, 1) := by decide +kernel
theorem dX6_move_67 : decode cX6_move 67 = .ok (.iaload, 1) := by decide +kernel
theorem dX6_move_68 : decode cX6_move 68 = .ok (.goto 4, 3) := by decide +kernel
theorem dX6_move_71 : decode cX6_move 71 = .ok (.iconst 0, 1) := by decide +kernel
theorem dX6_move_72 : decode cX6_move 72 = .ok (.istore 4, 2) := by decide +kernel
theorem dX6_move_74 : decode cX6_move 74 = .ok (.aload_n 0, 1) := by decide +kernel
theorem dX6_move_75 : decode cX6_move 75 = .ok (.getfield 7, 3) := by decide +kernel
theorem dX6_move_78 : decode cX6_move 78 = .ok (.iload_n 3, 1) := by decide +kernel
theorem dX6_move_79 : decode cX6_move 79 = .ok (.iload_n 2, 1) := by decide +kernel
theorem dX6_move_80 : decode cX6_move 80 = .ok (.ifCond .ge 11, 3) := by decide +kernel
theorem dX6_move_83 : decode cX6_move 83 = .ok (.iload 4, 2) := by decide +kernel
theorem dX6_move_85 : decode cX6_move 85 = .ok (.iload_n 2, 1) := by decide +kernel
theorem dX6_move_86 : decode cX6_move 86 = .ok (.ineg, 1) := by decide +kernel
theorem dX6_move_87 : decode cX6_move 87 = .ok (.ishr, 1) := by decide +kernel
theorem dX6_move_88 : decode cX6_move 88 = .ok (.goto 10, 3) := by decide +kernel
theorem dX6_move_91 : decode cX6_move 91 = .ok (.iload 4, 2) := by decide +kernel
theorem dX6_move_93 : decode cX6_move 93 = .ok (.iload_n 2, 1) := by decide +kernel
theorem dX6_move_94 : decode cX6_move 94 = .ok (.ishl, 1) := by decide +kernel
theorem dX6_move_95 : decode cX6_move 95 = .ok (.ldc 149, 2) := by decide +kernel
theorem dX6_move_97 : decode cX6_move 97 = .ok (.iand, 1) := by decide +kernel
theorem dX6_move_98 : decode cX6_move 98 = .ok (.iastore, 1) := by decide +kernel
theorem dX6_move_99 : decode cX6_move 99 = .ok (.iinc 3 1, 3) := by decide +kernel
theorem dX6_move_102 : decode cX6_move 102 = .ok (.goto (-60), 3) := by decide +kernel
theorem dX6_move_105 : decode cX6_move 105 = .ok (.aload_n 0, 1) := by decide +kernel
theorem dX6_move_106 : decode cX6_move 106 = .ok (.aload_n 0, 1) := by decide +kernel
theorem dX6_move_107 : decode cX6_move 107 = .ok (.getfield 7, 3) := by decide +kernel
theorem dX6_move_110 : decode cX6_move 110 = .ok (.invokevirtual 104, 3) := by decide +kernel
theorem dX6_move_113 : decode cX6_move 113 = .ok (.ireturn, 1) := by decide +kernel
set_option maxRecDepth 20000 in
theorem ggX6_over_X6_remember : GoodIn wsX6_over wsX6_remember := goodIn_r _ [7, 8, 9, 1, 10, 18, 19, 20, 21, 22, 23, 24, 25, 26, 27, 28, 29, 30, 31, 32, 33, 34] (by decide +kernel) (by decide +kernel)
set_option maxRecDepth 20000 in
theorem gX6_over_X6_remember : GoodIn wsX6_over (wsV RX6 150 RX6 yX6_remember wsX6_remember) := goodIn_app (goodIn_of _ (by decide +kernel)) ggX6_over_X6_remember
set_option maxRecDepth 20000 in
theorem ggX6_over_X6_darkOf : GoodIn wsX6_over wsX6_darkOf := goodIn_r _ [14, 15, 16, 6, 17] (by decide +kernel) (by decide +kernel)
set_option maxRecDepth 20000 in
theorem gX6_over_X6_darkOf : GoodIn wsX6_over (wsV RX6 104 RX6 yX6_darkOf wsX6_darkOf) := goodIn_app (goodIn_of _ (by decide +kernel)) ggX6_over_X6_darkOf
theorem dX6_over_0 : decode cX6_over 0 = .ok (.aload_n 0, 1) := by decide +kernel
theorem dX6_over_1 : decode cX6_over 1 = .ok (.invokevirtual 150, 3) := by decide +kernel
theorem dX6_over_4 : decode cX6_over 4 = .ok (.iconst 0, 1) := by decide +kernel
theorem dX6_over_5 : decode cX6_over 5 = .ok (.istore_n 1, 1) := by decide +kernel
theorem dX6_over_6 : decode cX6_over 6 = .ok (.iload_n 1, 1) := by decide +kernel
theorem dX6_over_7 : decode cX6_over 7 = .ok (.bipush 16, 2) := by decide +kernel
theorem dX6_over_9 : decode cX6_over 9 = .ok (.if_icmp .ge 24, 3) := by decide +kernel
theorem dX6_over_12 : decode cX6_over 12 = .ok (.aload_n 0, 1) := by decide +kernel
theorem dX6_over_13 : decode cX6_over 13 = .ok (.getfield 7, 3) := by decide +kernel
theorem dX6_over_16 : decode cX6_over 16 = .ok (.iload_n 1, 1) := by decide +kernel
theorem dX6_over_17 : decode cX6_over 17 = .ok (.ldc 149, 2) := by decide +kernel
theorem dX6_over_19 : decode cX6_over 19 = .ok (.aload_n 0, 1) := by decide +kernel
theorem dX6_over_20 : decode cX6_over 20 = .ok (.getfield 7, 3) := by decide +kernel
theorem dX6_over_23 : decode cX6_over 23 = .ok (.iload_n 1, 1) := by decide +kernel
theorem dX6_over_24 : decode cX6_over 24 = .ok (.iaload, 1) := by decide +kernel
theorem dX6_over_25 : decode cX6_over 25 = .ok (.isub, 1) := by decide +kernel
theorem dX6_over_26 : decode cX6_over 26 = .ok (.iastore, 1) := by decide +kernel
theorem dX6_over_27 : decode cX6_over 27 = .ok (.iinc 1 1, 3) := by decide +kernel
theorem dX6_over_30 : decode cX6_over 30 = .ok (.goto (-24), 3) := by decide +kernel
theorem dX6_over_33 : decode cX6_over 33 = .ok (.aload_n 0, 1) := by decide +kernel
theorem dX6_over_34 : decode cX6_over 34 = .ok (.aload_n 0, 1) := by decide +kernel
theorem dX6_over_35 : decode cX6_over 35 = .ok (.getfield 7, 3) := by decide +kernel
theorem dX6_over_38 : decode cX6_over 38 = .ok (.invokevirtual 104, 3) := by decide +kernel
theorem dX6_over_41 : decode cX6_over 41 = .ok (.ireturn, 1) := by decide +kernel
set_option maxRecDepth 20000 in
theorem ggX6_mode_X6_remember : GoodIn wsX6_mode wsX6_remember := goodIn_r _ [8, 9, 10, 2, 11, 44, 45, 46, 47, 48, 49, 50, 51, 52, 53, 54, 55, 56, 57, 58, 59, 60] (by decide +kernel) (by decide +kernel)
set_option maxRecDepth 20000 in
theorem gX6_mode_X6_remember : GoodIn wsX6_mode (wsV RX6 150 RX6 yX6_remember wsX6_remember) := goodIn_app (goodIn_of _ (by decide +kernel)) ggX6_mode_X6_remember
set_option maxRecDepth 20000 in
theorem ggX6_mode_X6_partsOf : GoodIn wsX6_mode wsX6_partsOf := goodIn_r _ [15, 16, 17, 18, 19, 7, 20, 21, 22, 23, 24, 25, 26, 27, 28, 29, 30, 31, 32, 33, 34, 35, 36, 37, 38, 39, 40, 41, 42, 43, 44, 45, 46, 47, 48, 49, 50, 51, 52, 53, 54, 55, 56, 57, 58, 59, 60] (by decide +kernel) (by decide +kernel)
set_option maxRecDepth 20000 in
theorem gX6_mode_X6_partsOf : GoodIn wsX6_mode (wsV RX6 127 RX6 yX6_partsOf wsX6_partsOf) := goodIn_app (goodIn_of _ (by decide +kernel)) ggX6_mode_X6_partsOf
theorem dX6_mode_0 : decode cX6_mode 0 = .ok (.iload_n 1, 1) := by decide +kernel
theorem dX6_mode_1 : decode cX6_mode 1 = .ok (.iconst 4, 1) := by decide +kernel
theorem dX6_mode_2 : decode cX6_mode 2 = .ok (.if_icmp .eq 12, 3) := by decide +kernel
theorem dX6_mode_5 : decode cX6_mode 5 = .ok (.iload_n 1, 1) := by decide +kernel
theorem dX6_mode_6 : decode cX6_mode 6 = .ok (.bipush 8, 2) := by decide +kernel
theorem dX6_mode_8 : decode cX6_mode 8 = .ok (.if_icmp .eq 6, 3) := by decide +kernel
theorem dX6_mode_11 : decode cX6_mode 11 = .ok (.ldc 121, 2) := by decide +kernel
theorem dX6_mode_13 : decode cX6_mode 13 = .ok (.ireturn, 1) := by decide +kernel
theorem dX6_mode_14 : decode cX6_mode 14 = .ok (.aload_n 0, 1) := by decide +kernel
theorem dX6_mode_15 : decode cX6_mode 15 = .ok (.getfield 7, 3) := by decide +kernel
theorem dX6_mode_18 : decode cX6_mode 18 = .ok (.bipush 16, 2) := by decide +kernel
theorem dX6_mode_20 : decode cX6_mode 20 = .ok (.iaload, 1) := by decide +kernel
theorem dX6_mode_21 : decode cX6_mode 21 = .ok (.iload_n 1, 1) := by decide +kernel
theorem dX6_mode_22 : decode cX6_mode 22 = .ok (.if_icmp .ne 6, 3) := by decide +kernel
theorem dX6_mode_25 : decode cX6_mode 25 = .ok (.ldc 168, 2) := by decide +kernel
theorem dX6_mode_27 : decode cX6_mode 27 = .ok (.ireturn, 1) := by decide +kernel
theorem dX6_mode_28 : decode cX6_mode 28 = .ok (.aload_n 0, 1) := by decide +kernel
theorem dX6_mode_29 : decode cX6_mode 29 = .ok (.invokevirtual 150, 3) := by decide +kernel
theorem dX6_mode_32 : decode cX6_mode 32 = .ok (.aload_n 0, 1) := by decide +kernel
theorem dX6_mode_33 : decode cX6_mode 33 = .ok (.getfield 7, 3) := by decide +kernel
theorem dX6_mode_36 : decode cX6_mode 36 = .ok (.bipush 16, 2) := by decide +kernel
theorem dX6_mode_38 : decode cX6_mode 38 = .ok (.iload_n 1, 1) := by decide +kernel
theorem dX6_mode_39 : decode cX6_mode 39 = .ok (.iastore, 1) := by decide +kernel
theorem dX6_mode_40 : decode cX6_mode 40 = .ok (.aload_n 0, 1) := by decide +kernel
theorem dX6_mode_41 : decode cX6_mode 41 = .ok (.aload_n 0, 1) := by decide +kernel
theorem dX6_mode_42 : decode cX6_mode 42 = .ok (.getfield 7, 3) := by decide +kernel
theorem dX6_mode_45 : decode cX6_mode 45 = .ok (.invokevirtual 127, 3) := by decide +kernel
theorem dX6_mode_48 : decode cX6_mode 48 = .ok (.ireturn, 1) := by decide +kernel
theorem dX6_draw_0 : decode cX6_draw 0 = .ok (.aload_n 0, 1) := by decide +kernel
theorem dX6_draw_1 : decode cX6_draw 1 = .ok (.aload_n 0, 1) := by decide +kernel
theorem dX6_draw_2 : decode cX6_draw 2 = .ok (.getfield 169, 3) := by decide +kernel
theorem dX6_draw_5 : decode cX6_draw 5 = .ok (.i2l, 1) := by decide +kernel
theorem dX6_draw_6 : decode cX6_draw 6 = .ok (.ldc2_w 172, 3) := by decide +kernel
theorem dX6_draw_9 : decode cX6_draw 9 = .ok (.lmul, 1) := by decide +kernel
theorem dX6_draw_10 : decode cX6_draw 10 = .ok (.ldc2_w 174, 3) := by decide +kernel
theorem dX6_draw_13 : decode cX6_draw 13 = .ok (.ladd, 1) := by decide +kernel
theorem dX6_draw_14 : decode cX6_draw 14 = .ok (.ldc2_w 176, 3) := by decide +kernel
theorem dX6_draw_17 : decode cX6_draw 17 = .ok (.lrem, 1) := by decide +kernel
theorem dX6_draw_18 : decode cX6_draw 18 = .ok (.l2i, 1) := by decide +kernel
theorem dX6_draw_19 : decode cX6_draw 19 = .ok (.putfield 169, 3) := by decide +kernel
theorem dX6_draw_22 : decode cX6_draw 22 = .ok (.aload_n 0, 1) := by decide +kernel
theorem dX6_draw_23 : decode cX6_draw 23 = .ok (.getfield 169, 3) := by decide +kernel
theorem dX6_draw_26 : decode cX6_draw 26 = .ok (.ldc 178, 2) := by decide +kernel
theorem dX6_draw_28 : decode cX6_draw 28 = .ok (.idiv, 1) := by decide +kernel
theorem dX6_draw_29 : decode cX6_draw 29 = .ok (.iload_n 1, 1) := by decide +kernel
theorem dX6_draw_30 : decode cX6_draw 30 = .ok (.irem, 1) := by decide +kernel
theorem dX6_draw_31 : decode cX6_draw 31 = .ok (.ireturn, 1) := by decide +kernel
set_option maxRecDepth 20000 in
theorem ggX6_drift_X6_in : GoodIn wsX6_drift wsX6_in := goodIn_r _ [6] (by decide +kernel) (by decide +kernel)
set_option maxRecDepth 20000 in
theorem gX6_drift_X6_in : GoodIn wsX6_drift (va_wsS RX6 48 yX6_in wsX6_in) := goodIn_app (goodIn_of _ (by decide +kernel)) ggX6_drift_X6_in
set_option maxRecDepth 20000 in
theorem ggX6_drift_X6_draw : GoodIn wsX6_drift wsX6_draw := goodIn_r _ [10, 11, 12, 13, 14, 15, 34, 35, 36, 37, 38, 39, 40, 41, 42, 43, 44, 45, 46, 47, 48, 49, 50] (by decide +kernel) (by decide +kernel)
set_option maxRecDepth 20000 in
theorem gX6_drift_X6_draw : GoodIn wsX6_drift (wsV RX6 179 RX6 yX6_draw wsX6_draw) := goodIn_app (goodIn_of _ (by decide +kernel)) ggX6_drift_X6_draw
set_option maxRecDepth 20000 in
theorem ggX6_drift_X6_turns : GoodIn wsX6_drift wsX6_turns := goodIn_r _ [19, 2, 20, 21, 22, 5, 23, 24, 25, 26, 34, 35, 36, 37, 38, 39, 40, 41, 42, 43, 44, 45, 46, 47, 48, 49, 50] (by decide +kernel) (by decide +kernel)
set_option maxRecDepth 20000 in
theorem gX6_drift_X6_turns : GoodIn wsX6_drift (wsV RX6 153 RX6 yX6_turns wsX6_turns) := goodIn_app (goodIn_of _ (by decide +kernel)) ggX6_drift_X6_turns
set_option maxRecDepth 20000 in
theorem ggX6_drift_X6_darkOf : GoodIn wsX6_drift wsX6_darkOf := goodIn_r _ [30, 31, 32, 5, 33] (by decide +kernel) (by decide +kernel)
set_option maxRecDepth 20000 in
theorem gX6_drift_X6_darkOf : GoodIn wsX6_drift (wsV RX6 104 RX6 yX6_darkOf wsX6_darkOf) := goodIn_app (goodIn_of _ (by decide +kernel)) ggX6_drift_X6_darkOf
theorem dX6_drift_0 : decode cX6_drift 0 = .ok (.iload_n 1, 1) := by decide +kernel
theorem dX6_drift_1 : decode cX6_drift 1 = .ok (.iconst 1, 1) := by decide +kernel
theorem dX6_drift_2 : decode cX6_drift 2 = .ok (.bipush 60, 2) := by decide +kernel
theorem dX6_drift_4 : decode cX6_drift 4 = .ok (.invokestatic 48, 3) := by decide +kernel
theorem dX6_drift_7 : decode cX6_drift 7 = .ok (.ifCond .ne 6, 3) := by decide +kernel
theorem dX6_drift_10 : decode cX6_drift 10 = .ok (.ldc 121, 2) := by decide +kernel
theorem dX6_drift_12 : decode cX6_drift 12 = .ok (.ireturn, 1) := by decide +kernel
theorem dX6_drift_13 : decode cX6_drift 13 = .ok (.iconst 0, 1) := by decide +kernel
theorem dX6_drift_14 : decode cX6_drift 14 = .ok (.istore_n 2, 1) := by decide +kernel
theorem dX6_drift_15 : decode cX6_drift 15 = .ok (.iload_n 2, 1) := by decide +kernel
theorem dX6_drift_16 : decode cX6_drift 16 = .ok (.iload_n 1, 1) := by decide +kernel
theorem dX6_drift_17 : decode cX6_drift 17 = .ok (.if_icmp .ge 20, 3) := by decide +kernel
theorem dX6_drift_20 : decode cX6_drift 20 = .ok (.aload_n 0, 1) := by decide +kernel
theorem dX6_drift_21 : decode cX6_drift 21 = .ok (.aload_n 0, 1) := by decide +kernel
theorem dX6_drift_22 : decode cX6_drift 22 = .ok (.sipush 256, 3) := by decide +kernel
theorem dX6_drift_25 : decode cX6_drift 25 = .ok (.invokevirtual 179, 3) := by decide +kernel
theorem dX6_drift_28 : decode cX6_drift 28 = .ok (.invokevirtual 153, 3) := by decide +kernel
theorem dX6_drift_31 : decode cX6_drift 31 = .ok (.iinc 2 1, 3) := by decide +kernel
theorem dX6_drift_34 : decode cX6_drift 34 = .ok (.goto (-19), 3) := by decide +kernel
theorem dX6_drift_37 : decode cX6_drift 37 = .ok (.aload_n 0, 1) := by decide +kernel
theorem dX6_drift_38 : decode cX6_drift 38 = .ok (.aload_n 0, 1) := by decide +kernel
theorem dX6_drift_39 : decode cX6_drift 39 = .ok (.getfield 7, 3) := by decide +kernel
theorem dX6_drift_42 : decode cX6_drift 42 = .ok (.invokevirtual 104, 3) := by decide +kernel
theorem dX6_drift_45 : decode cX6_drift 45 = .ok (.ireturn, 1) := by decide +kernel
set_option maxRecDepth 20000 in
theorem ggX6_undo_X6_in : GoodIn wsX6_undo wsX6_in := goodIn_r _ [10] (by decide +kernel) (by decide +kernel)
set_option maxRecDepth 20000 in
theorem gX6_undo_X6_in : GoodIn wsX6_undo (va_wsS RX6 48 yX6_in wsX6_in) := goodIn_app (goodIn_of _ (by decide +kernel)) ggX6_undo_X6_in
set_option maxRecDepth 20000 in
theorem ggX6_undo_X6_darkOf : GoodIn wsX6_undo wsX6_darkOf := goodIn_r _ [14, 15, 16, 9, 17] (by decide +kernel) (by decide +kernel)
set_option maxRecDepth 20000 in
theorem gX6_undo_X6_darkOf : GoodIn wsX6_undo (wsV RX6 104 RX6 yX6_darkOf wsX6_darkOf) := goodIn_app (goodIn_of _ (by decide +kernel)) ggX6_undo_X6_darkOf
theorem dX6_undo_0 : decode cX6_undo 0 = .ok (.iload_n 1, 1) := by decide +kernel
theorem dX6_undo_1 : decode cX6_undo 1 = .ok (.iconst 1, 1) := by decide +kernel
theorem dX6_undo_2 : decode cX6_undo 2 = .ok (.bipush 30, 2) := by decide +kernel
theorem dX6_undo_4 : decode cX6_undo 4 = .ok (.invokestatic 48, 3) := by decide +kernel
theorem dX6_undo_7 : decode cX6_undo 7 = .ok (.ifCond .ne 6, 3) := by decide +kernel
theorem dX6_undo_10 : decode cX6_undo 10 = .ok (.ldc 121, 2) := by decide +kernel
theorem dX6_undo_12 : decode cX6_undo 12 = .ok (.ireturn, 1) := by decide +kernel
theorem dX6_undo_13 : decode cX6_undo 13 = .ok (.iload_n 1, 1) := by decide +kernel
theorem dX6_undo_14 : decode cX6_undo 14 = .ok (.aload_n 0, 1) := by decide +kernel
theorem dX6_undo_15 : decode cX6_undo 15 = .ok (.getfield 118, 3) := by decide +kernel
theorem dX6_undo_18 : decode cX6_undo 18 = .ok (.if_icmp .le 6, 3) := by decide +kernel
theorem dX6_undo_21 : decode cX6_undo 21 = .ok (.ldc 168, 2) := by decide +kernel
theorem dX6_undo_23 : decode cX6_undo 23 = .ok (.ireturn, 1) := by decide +kernel
theorem dX6_undo_24 : decode cX6_undo 24 = .ok (.aload_n 0, 1) := by decide +kernel
theorem dX6_undo_25 : decode cX6_undo 25 = .ok (.aload_n 0, 1) := by decide +kernel
theorem dX6_undo_26 : decode cX6_undo 26 = .ok (.getfield 146, 3) := by decide +kernel
theorem dX6_undo_29 : decode cX6_undo 29 = .ok (.bipush 30, 2) := by decide +kernel
theorem dX6_undo_31 : decode cX6_undo 31 = .ok (.iadd, 1) := by decide +kernel
theorem dX6_undo_32 : decode cX6_undo 32 = .ok (.iload_n 1, 1) := by decide +kernel
theorem dX6_undo_33 : decode cX6_undo 33 = .ok (.isub, 1) := by decide +kernel
theorem dX6_undo_34 : decode cX6_undo 34 = .ok (.bipush 30, 2) := by decide +kernel
theorem dX6_undo_36 : decode cX6_undo 36 = .ok (.irem, 1) := by decide +kernel
theorem dX6_undo_37 : decode cX6_undo 37 = .ok (.putfield 146, 3) := by decide +kernel
theorem dX6_undo_40 : decode cX6_undo 40 = .ok (.aload_n 0, 1) := by decide +kernel
theorem dX6_undo_41 : decode cX6_undo 41 = .ok (.dup, 1) := by decide +kernel
theorem dX6_undo_42 : decode cX6_undo 42 = .ok (.getfield 118, 3) := by decide +kernel
theorem dX6_undo_45 : decode cX6_undo 45 = .ok (.iload_n 1, 1) := by decide +kernel
theorem dX6_undo_46 : decode cX6_undo 46 = .ok (.isub, 1) := by decide +kernel
theorem dX6_undo_47 : decode cX6_undo 47 = .ok (.putfield 118, 3) := by decide +kernel
theorem dX6_undo_50 : decode cX6_undo 50 = .ok (.iconst 0, 1) := by decide +kernel
theorem dX6_undo_51 : decode cX6_undo 51 = .ok (.istore_n 2, 1) := by decide +kernel
theorem dX6_undo_52 : decode cX6_undo 52 = .ok (.iload_n 2, 1) := by decide +kernel
theorem dX6_undo_53 : decode cX6_undo 53 = .ok (.bipush 17, 2) := by decide +kernel
theorem dX6_undo_55 : decode cX6_undo 55 = .ok (.if_icmp .ge 29, 3) := by decide +kernel
theorem dX6_undo_58 : decode cX6_undo 58 = .ok (.aload_n 0, 1) := by decide +kernel
theorem dX6_undo_59 : decode cX6_undo 59 = .ok (.getfield 7, 3) := by decide +kernel
theorem dX6_undo_62 : decode cX6_undo 62 = .ok (.iload_n 2, 1) := by decide +kernel
theorem dX6_undo_63 : decode cX6_undo 63 = .ok (.aload_n 0, 1) := by decide +kernel
theorem dX6_undo_64 : decode cX6_undo 64 = .ok (.getfield 31, 3) := by decide +kernel
theorem dX6_undo_67 : decode cX6_undo 67 = .ok (.bipush 17, 2) := by decide +kernel
theorem dX6_undo_69 : decode cX6_undo 69 = .ok (.aload_n 0, 1) := by decide +kernel
theorem dX6_undo_70 : decode cX6_undo 70 = .ok (.getfield 146, 3) := by decide +kernel
theorem dX6_undo_73 : decode cX6_undo 73 = .ok (.imul, 1) := by decide +kernel
theorem dX6_undo_74 : decode cX6_undo 74 = .ok (.iload_n 2, 1) := by decide +kernel
theorem dX6_undo_75 : decode cX6_undo 75 = .ok (.iadd, 1) := by decide +kernel
theorem dX6_undo_76 : decode cX6_undo 76 = .ok (.iaload, 1) := by decide +kernel
theorem dX6_undo_77 : decode cX6_undo 77 = .ok (.iastore, 1) := by decide +kernel
theorem dX6_undo_78 : decode cX6_undo 78 = .ok (.iinc 2 1, 3) := by decide +kernel
theorem dX6_undo_81 : decode cX6_undo 81 = .ok (.goto (-29), 3) := by decide +kernel
theorem dX6_undo_84 : decode cX6_undo 84 = .ok (.aload_n 0, 1) := by decide +kernel
theorem dX6_undo_85 : decode cX6_undo 85 = .ok (.aload_n 0, 1) := by decide +kernel
theorem dX6_undo_86 : decode cX6_undo 86 = .ok (.getfield 7, 3) := by decide +kernel
theorem dX6_undo_89 : decode cX6_undo 89 = .ok (.invokevirtual 104, 3) := by decide +kernel
theorem dX6_undo_92 : decode cX6_undo 92 = .ok (.ireturn, 1) := by decide +kernel
set_option maxRecDepth 20000 in
theorem ggX6_alike_X6_parts : GoodIn wsX6_alike wsX6_parts := goodIn_r _ [9, 2, 10, 11, 12, 4, 13, 14, 15, 16, 8, 17, 18, 19, 20, 21, 22, 23, 24, 25, 26, 27, 28, 29, 30, 31, 40, 41, 42, 43, 44, 45, 46, 47, 48, 49, 50, 51, 52, 53, 54, 55, 56] (by decide +kernel) (by decide +kernel)
set_option maxRecDepth 20000 in
theorem gX6_alike_X6_parts : GoodIn wsX6_alike (wsV RX6 73 RX6 yX6_parts wsX6_parts) := goodIn_app (goodIn_of _ (by decide +kernel)) ggX6_alike_X6_parts
set_option maxRecDepth 20000 in
theorem ggX6_alike_X6_in : GoodIn wsX6_alike wsX6_in := goodIn_r _ [31] (by decide +kernel) (by decide +kernel)
set_option maxRecDepth 20000 in
theorem gX6_alike_X6_in : GoodIn wsX6_alike (va_wsS RX6 48 yX6_in wsX6_in) := goodIn_app (goodIn_of _ (by decide +kernel)) ggX6_alike_X6_in
set_option maxRecDepth 20000 in
theorem ggX6_alike_X6_sizeOf : GoodIn wsX6_alike wsX6_sizeOf := goodIn_r _ [35, 36, 37, 38, 8, 39, 1, 12, 15, 16, 17, 18, 19, 20, 40, 41, 42, 43, 44, 45, 46, 47, 48, 49, 50, 51, 52, 53, 54, 55, 56] (by decide +kernel) (by decide +kernel)
set_option maxRecDepth 20000 in
theorem gX6_alike_X6_sizeOf : GoodIn wsX6_alike (wsV RX6 100 RX6 yX6_sizeOf wsX6_sizeOf) := goodIn_app (goodIn_of _ (by decide +kernel)) ggX6_alike_X6_sizeOf
set_option maxRecDepth 20000 in
theorem ggX6_alike_X6_isOf : GoodIn wsX6_alike wsX6_isOf := goodIn_r _ [39, 1, 12, 15, 16, 8, 17, 18, 19, 20, 40, 41, 42, 43, 44, 45, 46, 47, 48, 49, 50, 51, 52, 53, 54, 55, 56] (by decide +kernel) (by decide +kernel)
set_option maxRecDepth 20000 in
theorem gX6_alike_X6_isOf : GoodIn wsX6_alike (wsV RX6 81 RX6 yX6_isOf wsX6_isOf) := goodIn_app (goodIn_of _ (by decide +kernel)) ggX6_alike_X6_isOf
set_option maxRecDepth 20000 in
theorem ggX6_alike_X6_isOn : GoodIn wsX6_alike wsX6_isOn := goodIn_r _ [28, 29, 30, 8, 31] (by decide +kernel) (by decide +kernel)
set_option maxRecDepth 20000 in
theorem gX6_alike_X6_isOn : GoodIn wsX6_alike (va_wsS RX6 56 yX6_isOn wsX6_isOn) := goodIn_app (goodIn_of _ (by decide +kernel)) ggX6_alike_X6_isOn
theorem dX6_alike_0 : decode cX6_alike 0 = .ok (.aload_n 0, 1) := by decide +kernel
theorem dX6_alike_1 : decode cX6_alike 1 = .ok (.aload_n 0, 1) := by decide +kernel
theorem dX6_alike_2 : decode cX6_alike 2 = .ok (.getfield 7, 3) := by decide +kernel
theorem dX6_alike_5 : decode cX6_alike 5 = .ok (.invokevirtual 73, 3) := by decide +kernel
theorem dX6_alike_8 : decode cX6_alike 8 = .ok (.iload_n 1, 1) := by decide +kernel
theorem dX6_alike_9 : decode cX6_alike 9 = .ok (.iconst 0, 1) := by decide +kernel
theorem dX6_alike_10 : decode cX6_alike 10 = .ok (.aload_n 0, 1) := by decide +kernel
theorem dX6_alike_11 : decode cX6_alike 11 = .ok (.getfield 59, 3) := by decide +kernel
theorem dX6_alike_14 : decode cX6_alike 14 = .ok (.iconst 1, 1) := by decide +kernel
theorem dX6_alike_15 : decode cX6_alike 15 = .ok (.isub, 1) := by decide +kernel
theorem dX6_alike_16 : decode cX6_alike 16 = .ok (.invokestatic 48, 3) := by decide +kernel
theorem dX6_alike_19 : decode cX6_alike 19 = .ok (.ifCond .eq 22, 3) := by decide +kernel
theorem dX6_alike_22 : decode cX6_alike 22 = .ok (.iload_n 2, 1) := by decide +kernel
theorem dX6_alike_23 : decode cX6_alike 23 = .ok (.iconst 0, 1) := by decide +kernel
theorem dX6_alike_24 : decode cX6_alike 24 = .ok (.aload_n 0, 1) := by decide +kernel
theorem dX6_alike_25 : decode cX6_alike 25 = .ok (.getfield 59, 3) := by decide +kernel
theorem dX6_alike_28 : decode cX6_alike 28 = .ok (.iconst 1, 1) := by decide +kernel
theorem dX6_alike_29 : decode cX6_alike 29 = .ok (.isub, 1) := by decide +kernel
theorem dX6_alike_30 : decode cX6_alike 30 = .ok (.invokestatic 48, 3) := by decide +kernel
theorem dX6_alike_33 : decode cX6_alike 33 = .ok (.ifCond .eq 8, 3) := by decide +kernel
theorem dX6_alike_36 : decode cX6_alike 36 = .ok (.iload_n 1, 1) := by decide +kernel
theorem dX6_alike_37 : decode cX6_alike 37 = .ok (.iload_n 2, 1) := by decide +kernel
theorem dX6_alike_38 : decode cX6_alike 38 = .ok (.if_icmp .ne 6, 3) := by decide +kernel
theorem dX6_alike_41 : decode cX6_alike 41 = .ok (.ldc 122, 2) := by decide +kernel
theorem dX6_alike_43 : decode cX6_alike 43 = .ok (.ireturn, 1) := by decide +kernel
theorem dX6_alike_44 : decode cX6_alike 44 = .ok (.aload_n 0, 1) := by decide +kernel
theorem dX6_alike_45 : decode cX6_alike 45 = .ok (.getfield 22, 3) := by decide +kernel
theorem dX6_alike_48 : decode cX6_alike 48 = .ok (.iload_n 2, 1) := by decide +kernel
theorem dX6_alike_49 : decode cX6_alike 49 = .ok (.iaload, 1) := by decide +kernel
theorem dX6_alike_50 : decode cX6_alike 50 = .ok (.bipush 16, 2) := by decide +kernel
theorem dX6_alike_52 : decode cX6_alike 52 = .ok (.idiv, 1) := by decide +kernel
theorem dX6_alike_53 : decode cX6_alike 53 = .ok (.aload_n 0, 1) := by decide +kernel
theorem dX6_alike_54 : decode cX6_alike 54 = .ok (.getfield 22, 3) := by decide +kernel
theorem dX6_alike_57 : decode cX6_alike 57 = .ok (.iload_n 1, 1) := by decide +kernel
theorem dX6_alike_58 : decode cX6_alike 58 = .ok (.iaload, 1) := by decide +kernel
theorem dX6_alike_59 : decode cX6_alike 59 = .ok (.bipush 16, 2) := by decide +kernel
theorem dX6_alike_61 : decode cX6_alike 61 = .ok (.idiv, 1) := by decide +kernel
theorem dX6_alike_62 : decode cX6_alike 62 = .ok (.isub, 1) := by decide +kernel
theorem dX6_alike_63 : decode cX6_alike 63 = .ok (.istore_n 3, 1) := by decide +kernel
theorem dX6_alike_64 : decode cX6_alike 64 = .ok (.aload_n 0, 1) := by decide +kernel
theorem dX6_alike_65 : decode cX6_alike 65 = .ok (.getfield 22, 3) := by decide +kernel
theorem dX6_alike_68 : decode cX6_alike 68 = .ok (.iload_n 2, 1) := by decide +kernel
theorem dX6_alike_69 : decode cX6_alike 69 = .ok (.iaload, 1) := by decide +kernel
theorem dX6_alike_70 : decode cX6_alike 70 = .ok (.bipush 16, 2) := by decide +kernel
theorem dX6_alike_72 : decode cX6_alike 72 = .ok (.irem, 1) := by decide +kernel
theorem dX6_alike_73 : decode cX6_alike 73 = .ok (.aload_n 0, 1) := by decide +kernel
theorem dX6_alike_74 : decode cX6_alike 74 = .ok (.getfield 22, 3) := by decide +kernel
theorem dX6_alike_77 : decode cX6_alike 77 = .ok (.iload_n 1, 1) := by decide +kernel
theorem dX6_alike_78 : decode cX6_alike 78 = .ok (.iaload, 1) := by decide +kernel
theorem dX6_alike_79 : decode cX6_alike 79 = .ok (.bipush 16, 2) := by decide +kernel
theorem dX6_alike_81 : decode cX6_alike 81 = .ok (.irem, 1) := by decide +kernel
theorem dX6_alike_82 : decode cX6_alike 82 = .ok (.isub, 1) := by decide +kernel
theorem dX6_alike_83 : decode cX6_alike 83 = .ok (.istore 4, 2) := by decide +kernel
theorem dX6_alike_85 : decode cX6_alike 85 = .ok (.aload_n 0, 1) := by decide +kernel
theorem dX6_alike_86 : decode cX6_alike 86 = .ok (.iconst 1, 1) := by decide +kernel
theorem dX6_alike_87 : decode cX6_alike 87 = .ok (.iload_n 1, 1) := by decide +kernel
theorem dX6_alike_88 : decode cX6_alike 88 = .ok (.invokevirtual 100, 3) := by decide +kernel
theorem dX6_alike_91 : decode cX6_alike 91 = .ok (.aload_n 0, 1) := by decide +kernel
theorem dX6_alike_92 : decode cX6_alike 92 = .ok (.iconst 1, 1) := by decide +kernel
theorem dX6_alike_93 : decode cX6_alike 93 = .ok (.iload_n 2, 1) := by decide +kernel
theorem dX6_alike_94 : decode cX6_alike 94 = .ok (.invokevirtual 100, 3) := by decide +kernel
theorem dX6_alike_97 : decode cX6_alike 97 = .ok (.if_icmp .ne 7, 3) := by decide +kernel
theorem dX6_alike_100 : decode cX6_alike 100 = .ok (.iconst 1, 1) := by decide +kernel
theorem dX6_alike_101 : decode cX6_alike 101 = .ok (.goto 4, 3) := by decide +kernel
theorem dX6_alike_104 : decode cX6_alike 104 = .ok (.iconst 0, 1) := by decide +kernel
theorem dX6_alike_105 : decode cX6_alike 105 = .ok (.istore 5, 2) := by decide +kernel
theorem dX6_alike_107 : decode cX6_alike 107 = .ok (.iconst 0, 1) := by decide +kernel
theorem dX6_alike_108 : decode cX6_alike 108 = .ok (.istore 6, 2) := by decide +kernel
theorem dX6_alike_110 : decode cX6_alike 110 = .ok (.iload 6, 2) := by decide +kernel
theorem dX6_alike_112 : decode cX6_alike 112 = .ok (.sipush 256, 3) := by decide +kernel
theorem dX6_alike_115 : decode cX6_alike 115 = .ok (.if_icmp .ge 78, 3) := by decide +kernel
theorem dX6_alike_118 : decode cX6_alike 118 = .ok (.iload 5, 2) := by decide +kernel
theorem dX6_alike_120 : decode cX6_alike 120 = .ok (.ifCond .eq 73, 3) := by decide +kernel
theorem dX6_alike_123 : decode cX6_alike 123 = .ok (.iload 6, 2) := by decide +kernel
theorem dX6_alike_125 : decode cX6_alike 125 = .ok (.bipush 16, 2) := by decide +kernel
theorem dX6_alike_127 : decode cX6_alike 127 = .ok (.idiv, 1) := by decide +kernel
theorem dX6_alike_128 : decode cX6_alike 128 = .ok (.iload_n 3, 1) := by decide +kernel
theorem dX6_alike_129 : decode cX6_alike 129 = .ok (.iadd, 1) := by decide +kernel
theorem dX6_alike_130 : decode cX6_alike 130 = .ok (.istore 7, 2) := by decide +kernel
theorem dX6_alike_132 : decode cX6_alike 132 = .ok (.iload 6, 2) := by decide +kernel
theorem dX6_alike_134 : decode cX6_alike 134 = .ok (.bipush 16, 2) := by decide +kernel
theorem dX6_alike_136 : decode cX6_alike 136 = .ok (.irem, 1) := by decide +kernel
theorem dX6_alike_137 : decode cX6_alike 137 = .ok (.iload 4, 2) := by decide +kernel
theorem dX6_alike_139 : decode cX6_alike 139 = .ok (.iadd, 1) := by decide +kernel
theorem dX6_alike_140 : decode cX6_alike 140 = .ok (.istore 8, 2) := by decide +kernel
theorem dX6_alike_142 : decode cX6_alike 142 = .ok (.aload_n 0, 1) := by decide +kernel
theorem dX6_alike_143 : decode cX6_alike 143 = .ok (.iload 6, 2) := by decide +kernel
theorem dX6_alike_145 : decode cX6_alike 145 = .ok (.iconst 1, 1) := by decide +kernel
theorem dX6_alike_146 : decode cX6_alike 146 = .ok (.iload_n 1, 1) := by decide +kernel
theorem dX6_alike_147 : decode cX6_alike 147 = .ok (.invokevirtual 81, 3) := by decide +kernel
theorem dX6_alike_150 : decode cX6_alike 150 = .ok (.ifCond .eq 30, 3) := by decide +kernel
theorem dX6_alike_153 : decode cX6_alike 153 = .ok (.iload 7, 2) := by decide +kernel
theorem dX6_alike_155 : decode cX6_alike 155 = .ok (.iload 8, 2) := by decide +kernel
theorem dX6_alike_157 : decode cX6_alike 157 = .ok (.invokestatic 56, 3) := by decide +kernel
theorem dX6_alike_160 : decode cX6_alike 160 = .ok (.ifCond .eq 24, 3) := by decide +kernel
theorem dX6_alike_163 : decode cX6_alike 163 = .ok (.aload_n 0, 1) := by decide +kernel
theorem dX6_alike_164 : decode cX6_alike 164 = .ok (.bipush 16, 2) := by decide +kernel
theorem dX6_alike_166 : decode cX6_alike 166 = .ok (.iload 7, 2) := by decide +kernel
theorem dX6_alike_168 : decode cX6_alike 168 = .ok (.imul, 1) := by decide +kernel
theorem dX6_alike_169 : decode cX6_alike 169 = .ok (.iload 8, 2) := by decide +kernel
theorem dX6_alike_171 : decode cX6_alike 171 = .ok (.iadd, 1) := by decide +kernel
theorem dX6_alike_172 : decode cX6_alike 172 = .ok (.iconst 1, 1) := by decide +kernel
theorem dX6_alike_173 : decode cX6_alike 173 = .ok (.iload_n 2, 1) := by decide +kernel
theorem dX6_alike_174 : decode cX6_alike 174 = .ok (.invokevirtual 81, 3) := by decide +kernel
theorem dX6_alike_177 : decode cX6_alike 177 = .ok (.ifCond .eq 7, 3) := by decide +kernel
theorem dX6_alike_180 : decode cX6_alike 180 = .ok (.iconst 1, 1) := by decide +kernel
theorem dX6_alike_181 : decode cX6_alike 181 = .ok (.goto 4, 3) := by decide +kernel
theorem dX6_alike_184 : decode cX6_alike 184 = .ok (.iconst 0, 1) := by decide +kernel
theorem dX6_alike_185 : decode cX6_alike 185 = .ok (.istore 5, 2) := by decide +kernel
theorem dX6_alike_187 : decode cX6_alike 187 = .ok (.iinc 6 1, 3) := by decide +kernel
theorem dX6_alike_190 : decode cX6_alike 190 = .ok (.goto (-80), 3) := by decide +kernel
theorem dX6_alike_193 : decode cX6_alike 193 = .ok (.iload 5, 2) := by decide +kernel
theorem dX6_alike_195 : decode cX6_alike 195 = .ok (.ifCond .eq 7, 3) := by decide +kernel
theorem dX6_alike_198 : decode cX6_alike 198 = .ok (.iconst 1, 1) := by decide +kernel
theorem dX6_alike_199 : decode cX6_alike 199 = .ok (.goto 4, 3) := by decide +kernel
theorem dX6_alike_202 : decode cX6_alike 202 = .ok (.iconst 0, 1) := by decide +kernel
theorem dX6_alike_203 : decode cX6_alike 203 = .ok (.ireturn, 1) := by decide +kernel
set_option maxRecDepth 20000 in
theorem ggX6_small_X6_in : GoodIn wsX6_small wsX6_in := goodIn_r _ [7] (by decide +kernel) (by decide +kernel)
set_option maxRecDepth 20000 in
theorem gX6_small_X6_in : GoodIn wsX6_small (va_wsS RX6 48 yX6_in wsX6_in) := goodIn_app (goodIn_of _ (by decide +kernel)) ggX6_small_X6_in
set_option maxRecDepth 20000 in
theorem ggX6_small_X6_parts : GoodIn wsX6_small wsX6_parts := goodIn_r _ [11, 3, 12, 13, 14, 15, 16, 17, 18, 19, 6, 20, 21, 22, 23, 24, 25, 26, 27, 28, 29, 30, 31, 4, 5, 7, 40, 41, 42, 43, 44, 45, 46, 47, 48, 49, 50, 51, 52, 53, 54, 55, 56] (by decide +kernel) (by decide +kernel)
set_option maxRecDepth 20000 in
theorem gX6_small_X6_parts : GoodIn wsX6_small (wsV RX6 73 RX6 yX6_parts wsX6_parts) := goodIn_app (goodIn_of _ (by decide +kernel)) ggX6_small_X6_parts
set_option maxRecDepth 20000 in
theorem ggX6_small_X6_sizeOf : GoodIn wsX6_small wsX6_sizeOf := goodIn_r _ [35, 36, 37, 38, 6, 39, 2, 14, 18, 19, 20, 21, 22, 23, 40, 41, 42, 43, 44, 45, 46, 47, 48, 49, 50, 51, 52, 53, 54, 55, 56] (by decide +kernel) (by decide +kernel)
set_option maxRecDepth 20000 in
theorem gX6_small_X6_sizeOf : GoodIn wsX6_small (wsV RX6 100 RX6 yX6_sizeOf wsX6_sizeOf) := goodIn_app (goodIn_of _ (by decide +kernel)) ggX6_small_X6_sizeOf
theorem dX6_small_0 : decode cX6_small 0 = .ok (.iload_n 1, 1) := by decide +kernel
theorem dX6_small_1 : decode cX6_small 1 = .ok (.iconst 0, 1) := by decide +kernel
theorem dX6_small_2 : decode cX6_small 2 = .ok (.sipush 256, 3) := by decide +kernel
theorem dX6_small_5 : decode cX6_small 5 = .ok (.invokestatic 48, 3) := by decide +kernel
theorem dX6_small_8 : decode cX6_small 8 = .ok (.ifCond .ne 6, 3) := by decide +kernel
theorem dX6_small_11 : decode cX6_small 11 = .ok (.ldc 121, 2) := by decide +kernel
theorem dX6_small_13 : decode cX6_small 13 = .ok (.ireturn, 1) := by decide +kernel
theorem dX6_small_14 : decode cX6_small 14 = .ok (.aload_n 0, 1) := by decide +kernel
theorem dX6_small_15 : decode cX6_small 15 = .ok (.aload_n 0, 1) := by decide +kernel
theorem dX6_small_16 : decode cX6_small 16 = .ok (.getfield 7, 3) := by decide +kernel
theorem dX6_small_19 : decode cX6_small 19 = .ok (.invokevirtual 73, 3) := by decide +kernel
theorem dX6_small_22 : decode cX6_small 22 = .ok (.iconst 0, 1) := by decide +kernel
theorem dX6_small_23 : decode cX6_small 23 = .ok (.istore_n 2, 1) := by decide +kernel
theorem dX6_small_24 : decode cX6_small 24 = .ok (.iconst 0, 1) := by decide +kernel
theorem dX6_small_25 : decode cX6_small 25 = .ok (.istore_n 3, 1) := by decide +kernel
theorem dX6_small_26 : decode cX6_small 26 = .ok (.iload_n 3, 1) := by decide +kernel
theorem dX6_small_27 : decode cX6_small 27 = .ok (.aload_n 0, 1) := by decide +kernel
theorem dX6_small_28 : decode cX6_small 28 = .ok (.getfield 59, 3) := by decide +kernel
theorem dX6_small_31 : decode cX6_small 31 = .ok (.if_icmp .ge 27, 3) := by decide +kernel
theorem dX6_small_34 : decode cX6_small 34 = .ok (.iload_n 2, 1) := by decide +kernel
theorem dX6_small_35 : decode cX6_small 35 = .ok (.aload_n 0, 1) := by decide +kernel
theorem dX6_small_36 : decode cX6_small 36 = .ok (.iconst 1, 1) := by decide +kernel
theorem dX6_small_37 : decode cX6_small 37 = .ok (.iload_n 3, 1) := by decide +kernel
theorem dX6_small_38 : decode cX6_small 38 = .ok (.invokevirtual 100, 3) := by decide +kernel
theorem dX6_small_41 : decode cX6_small 41 = .ok (.iload_n 1, 1) := by decide +kernel
theorem dX6_small_42 : decode cX6_small 42 = .ok (.if_icmp .gt 7, 3) := by decide +kernel
theorem dX6_small_45 : decode cX6_small 45 = .ok (.iconst 1, 1) := by decide +kernel
theorem dX6_small_46 : decode cX6_small 46 = .ok (.goto 4, 3) := by decide +kernel
theorem dX6_small_49 : decode cX6_small 49 = .ok (.iconst 0, 1) := by decide +kernel
theorem dX6_small_50 : decode cX6_small 50 = .ok (.iadd, 1) := by decide +kernel
theorem dX6_small_51 : decode cX6_small 51 = .ok (.istore_n 2, 1) := by decide +kernel
theorem dX6_small_52 : decode cX6_small 52 = .ok (.iinc 3 1, 3) := by decide +kernel
theorem dX6_small_55 : decode cX6_small 55 = .ok (.goto (-29), 3) := by decide +kernel
theorem dX6_small_58 : decode cX6_small 58 = .ok (.iload_n 2, 1) := by decide +kernel
theorem dX6_small_59 : decode cX6_small 59 = .ok (.ireturn, 1) := by decide +kernel
theorem dX6_seed_0 : decode cX6_seed 0 = .ok (.iload_n 1, 1) := by decide +kernel
theorem dX6_seed_1 : decode cX6_seed 1 = .ok (.ifCond .ge 6, 3) := by decide +kernel
theorem dX6_seed_4 : decode cX6_seed 4 = .ok (.ldc 121, 2) := by decide +kernel
theorem dX6_seed_6 : decode cX6_seed 6 = .ok (.ireturn, 1) := by decide +kernel
theorem dX6_seed_7 : decode cX6_seed 7 = .ok (.aload_n 0, 1) := by decide +kernel
theorem dX6_seed_8 : decode cX6_seed 8 = .ok (.getfield 169, 3) := by decide +kernel
theorem dX6_seed_11 : decode cX6_seed 11 = .ok (.istore_n 2, 1) := by decide +kernel
theorem dX6_seed_12 : decode cX6_seed 12 = .ok (.aload_n 0, 1) := by decide +kernel
theorem dX6_seed_13 : decode cX6_seed 13 = .ok (.iload_n 1, 1) := by decide +kernel
theorem dX6_seed_14 : decode cX6_seed 14 = .ok (.putfield 169, 3) := by decide +kernel
theorem dX6_seed_17 : decode cX6_seed 17 = .ok (.iload_n 2, 1) := by decide +kernel
theorem dX6_seed_18 : decode cX6_seed 18 = .ok (.ireturn, 1) := by decide +kernel
set_option maxRecDepth 20000 in
theorem ggX6_keep_X6_in : GoodIn wsX6_keep wsX6_in := goodIn_r _ [11] (by decide +kernel) (by decide +kernel)
set_option maxRecDepth 20000 in
theorem gX6_keep_X6_in : GoodIn wsX6_keep (va_wsS RX6 48 yX6_in wsX6_in) := goodIn_app (goodIn_of _ (by decide +kernel)) ggX6_keep_X6_in
theorem dX6_keep_0 : decode cX6_keep 0 = .ok (.iload_n 1, 1) := by decide +kernel
theorem dX6_keep_1 : decode cX6_keep 1 = .ok (.iconst 0, 1) := by decide +kernel
theorem dX6_keep_2 : decode cX6_keep 2 = .ok (.iconst 1, 1) := by decide +kernel
theorem dX6_keep_3 : decode cX6_keep 3 = .ok (.invokestatic 48, 3) := by decide +kernel
theorem dX6_keep_6 : decode cX6_keep 6 = .ok (.ifCond .ne 6, 3) := by decide +kernel
theorem dX6_keep_9 : decode cX6_keep 9 = .ok (.ldc 122, 2) := by decide +kernel
theorem dX6_keep_11 : decode cX6_keep 11 = .ok (.ireturn, 1) := by decide +kernel
theorem dX6_keep_12 : decode cX6_keep 12 = .ok (.aload_n 0, 1) := by decide +kernel
theorem dX6_keep_13 : decode cX6_keep 13 = .ok (.getfield 34, 3) := by decide +kernel
theorem dX6_keep_16 : decode cX6_keep 16 = .ok (.iload_n 1, 1) := by decide +kernel
theorem dX6_keep_17 : decode cX6_keep 17 = .ok (.iconst 1, 1) := by decide +kernel
theorem dX6_keep_18 : decode cX6_keep 18 = .ok (.bastore, 1) := by decide +kernel
theorem dX6_keep_19 : decode cX6_keep 19 = .ok (.aload_n 0, 1) := by decide +kernel
theorem dX6_keep_20 : decode cX6_keep 20 = .ok (.getfield 41, 3) := by decide +kernel
theorem dX6_keep_23 : decode cX6_keep 23 = .ok (.iload_n 1, 1) := by decide +kernel
theorem dX6_keep_24 : decode cX6_keep 24 = .ok (.aload_n 0, 1) := by decide +kernel
theorem dX6_keep_25 : decode cX6_keep 25 = .ok (.getfield 169, 3) := by decide +kernel
theorem dX6_keep_28 : decode cX6_keep 28 = .ok (.iastore, 1) := by decide +kernel
theorem dX6_keep_29 : decode cX6_keep 29 = .ok (.iconst 0, 1) := by decide +kernel
theorem dX6_keep_30 : decode cX6_keep 30 = .ok (.istore_n 2, 1) := by decide +kernel
theorem dX6_keep_31 : decode cX6_keep 31 = .ok (.iload_n 2, 1) := by decide +kernel
theorem dX6_keep_32 : decode cX6_keep 32 = .ok (.bipush 17, 2) := by decide +kernel
theorem dX6_keep_34 : decode cX6_keep 34 = .ok (.if_icmp .ge 26, 3) := by decide +kernel
theorem dX6_keep_37 : decode cX6_keep 37 = .ok (.aload_n 0, 1) := by decide +kernel
theorem dX6_keep_38 : decode cX6_keep 38 = .ok (.getfield 38, 3) := by decide +kernel
theorem dX6_keep_41 : decode cX6_keep 41 = .ok (.bipush 17, 2) := by decide +kernel
theorem dX6_keep_43 : decode cX6_keep 43 = .ok (.iload_n 1, 1) := by decide +kernel
theorem dX6_keep_44 : decode cX6_keep 44 = .ok (.imul, 1) := by decide +kernel
theorem dX6_keep_45 : decode cX6_keep 45 = .ok (.iload_n 2, 1) := by decide +kernel
theorem dX6_keep_46 : decode cX6_keep 46 = .ok (.iadd, 1) := by decide +kernel
theorem dX6_keep_47 : decode cX6_keep 47 = .ok (.aload_n 0, 1) := by decide +kernel
theorem dX6_keep_48 : decode cX6_keep 48 = .ok (.getfield 7, 3) := by decide +kernel
theorem dX6_keep_51 : decode cX6_keep 51 = .ok (.iload_n 2, 1) := by decide +kernel
theorem dX6_keep_52 : decode cX6_keep 52 = .ok (.iaload, 1) := by decide +kernel
theorem dX6_keep_53 : decode cX6_keep 53 = .ok (.iastore, 1) := by decide +kernel
theorem dX6_keep_54 : decode cX6_keep 54 = .ok (.iinc 2 1, 3) := by decide +kernel
theorem dX6_keep_57 : decode cX6_keep 57 = .ok (.goto (-26), 3) := by decide +kernel
theorem dX6_keep_60 : decode cX6_keep 60 = .ok (.aload_n 0, 1) := by decide +kernel
theorem dX6_keep_61 : decode cX6_keep 61 = .ok (.iconst 0, 1) := by decide +kernel
theorem dX6_keep_62 : decode cX6_keep 62 = .ok (.putfield 118, 3) := by decide +kernel
theorem dX6_keep_65 : decode cX6_keep 65 = .ok (.iconst 1, 1) := by decide +kernel
theorem dX6_keep_66 : decode cX6_keep 66 = .ok (.ireturn, 1) := by decide +kernel
set_option maxRecDepth 20000 in
theorem ggX6_goBack_X6_in : GoodIn wsX6_goBack wsX6_in := goodIn_r _ [12] (by decide +kernel) (by decide +kernel)
set_option maxRecDepth 20000 in
theorem gX6_goBack_X6_in : GoodIn wsX6_goBack (va_wsS RX6 48 yX6_in wsX6_in) := goodIn_app (goodIn_of _ (by decide +kernel)) ggX6_goBack_X6_in
theorem dX6_goBack_0 : decode cX6_goBack 0 = .ok (.iload_n 1, 1) := by decide +kernel
theorem dX6_goBack_1 : decode cX6_goBack 1 = .ok (.iconst 0, 1) := by decide +kernel
theorem dX6_goBack_2 : decode cX6_goBack 2 = .ok (.iconst 1, 1) := by decide +kernel
theorem dX6_goBack_3 : decode cX6_goBack 3 = .ok (.invokestatic 48, 3) := by decide +kernel
theorem dX6_goBack_6 : decode cX6_goBack 6 = .ok (.ifCond .ne 6, 3) := by decide +kernel
theorem dX6_goBack_9 : decode cX6_goBack 9 = .ok (.ldc 122, 2) := by decide +kernel
theorem dX6_goBack_11 : decode cX6_goBack 11 = .ok (.ireturn, 1) := by decide +kernel
theorem dX6_goBack_12 : decode cX6_goBack 12 = .ok (.aload_n 0, 1) := by decide +kernel
theorem dX6_goBack_13 : decode cX6_goBack 13 = .ok (.getfield 34, 3) := by decide +kernel
theorem dX6_goBack_16 : decode cX6_goBack 16 = .ok (.iload_n 1, 1) := by decide +kernel
theorem dX6_goBack_17 : decode cX6_goBack 17 = .ok (.baload, 1) := by decide +kernel
theorem dX6_goBack_18 : decode cX6_goBack 18 = .ok (.ifCond .ne 6, 3) := by decide +kernel
theorem dX6_goBack_21 : decode cX6_goBack 21 = .ok (.ldc 168, 2) := by decide +kernel
theorem dX6_goBack_23 : decode cX6_goBack 23 = .ok (.ireturn, 1) := by decide +kernel
theorem dX6_goBack_24 : decode cX6_goBack 24 = .ok (.aload_n 0, 1) := by decide +kernel
theorem dX6_goBack_25 : decode cX6_goBack 25 = .ok (.aload_n 0, 1) := by decide +kernel
theorem dX6_goBack_26 : decode cX6_goBack 26 = .ok (.getfield 41, 3) := by decide +kernel
theorem dX6_goBack_29 : decode cX6_goBack 29 = .ok (.iload_n 1, 1) := by decide +kernel
theorem dX6_goBack_30 : decode cX6_goBack 30 = .ok (.iaload, 1) := by decide +kernel
theorem dX6_goBack_31 : decode cX6_goBack 31 = .ok (.putfield 169, 3) := by decide +kernel
theorem dX6_goBack_34 : decode cX6_goBack 34 = .ok (.iconst 0, 1) := by decide +kernel
theorem dX6_goBack_35 : decode cX6_goBack 35 = .ok (.istore_n 2, 1) := by decide +kernel
theorem dX6_goBack_36 : decode cX6_goBack 36 = .ok (.iload_n 2, 1) := by decide +kernel
theorem dX6_goBack_37 : decode cX6_goBack 37 = .ok (.bipush 17, 2) := by decide +kernel
theorem dX6_goBack_39 : decode cX6_goBack 39 = .ok (.if_icmp .ge 26, 3) := by decide +kernel
theorem dX6_goBack_42 : decode cX6_goBack 42 = .ok (.aload_n 0, 1) := by decide +kernel
theorem dX6_goBack_43 : decode cX6_goBack 43 = .ok (.getfield 7, 3) := by decide +kernel
theorem dX6_goBack_46 : decode cX6_goBack 46 = .ok (.iload_n 2, 1) := by decide +kernel
theorem dX6_goBack_47 : decode cX6_goBack 47 = .ok (.aload_n 0, 1) := by decide +kernel
theorem dX6_goBack_48 : decode cX6_goBack 48 = .ok (.getfield 38, 3) := by decide +kernel
theorem dX6_goBack_51 : decode cX6_goBack 51 = .ok (.bipush 17, 2) := by decide +kernel
theorem dX6_goBack_53 : decode cX6_goBack 53 = .ok (.iload_n 1, 1) := by decide +kernel
theorem dX6_goBack_54 : decode cX6_goBack 54 = .ok (.imul, 1) := by decide +kernel
theorem dX6_goBack_55 : decode cX6_goBack 55 = .ok (.iload_n 2, 1) := by decide +kernel
theorem dX6_goBack_56 : decode cX6_goBack 56 = .ok (.iadd, 1) := by decide +kernel
theorem dX6_goBack_57 : decode cX6_goBack 57 = .ok (.iaload, 1) := by decide +kernel
theorem dX6_goBack_58 : decode cX6_goBack 58 = .ok (.iastore, 1) := by decide +kernel
theorem dX6_goBack_59 : decode cX6_goBack 59 = .ok (.iinc 2 1, 3) := by decide +kernel
theorem dX6_goBack_62 : decode cX6_goBack 62 = .ok (.goto (-26), 3) := by decide +kernel
theorem dX6_goBack_65 : decode cX6_goBack 65 = .ok (.aload_n 0, 1) := by decide +kernel
theorem dX6_goBack_66 : decode cX6_goBack 66 = .ok (.iconst 0, 1) := by decide +kernel
theorem dX6_goBack_67 : decode cX6_goBack 67 = .ok (.putfield 118, 3) := by decide +kernel
theorem dX6_goBack_70 : decode cX6_goBack 70 = .ok (.iconst 1, 1) := by decide +kernel
theorem dX6_goBack_71 : decode cX6_goBack 71 = .ok (.ireturn, 1) := by decide +kernel
theorem dJ6_bitCount_0f7a4_0 : decode cJ6_bitCount_0f7a4 0 = .ok (.iload_n 0, 1) := by decide +kernel
theorem dJ6_bitCount_0f7a4_1 : decode cJ6_bitCount_0f7a4 1 = .ok (.iload_n 0, 1) := by decide +kernel
theorem dJ6_bitCount_0f7a4_2 : decode cJ6_bitCount_0f7a4 2 = .ok (.iconst 1, 1) := by decide +kernel
theorem dJ6_bitCount_0f7a4_3 : decode cJ6_bitCount_0f7a4 3 = .ok (.iushr, 1) := by decide +kernel
theorem dJ6_bitCount_0f7a4_4 : decode cJ6_bitCount_0f7a4 4 = .ok (.ldc_w 265, 3) := by decide +kernel
theorem dJ6_bitCount_0f7a4_7 : decode cJ6_bitCount_0f7a4 7 = .ok (.iand, 1) := by decide +kernel
theorem dJ6_bitCount_0f7a4_8 : decode cJ6_bitCount_0f7a4 8 = .ok (.isub, 1) := by decide +kernel
theorem dJ6_bitCount_0f7a4_9 : decode cJ6_bitCount_0f7a4 9 = .ok (.istore_n 0, 1) := by decide +kernel
theorem dJ6_bitCount_0f7a4_10 : decode cJ6_bitCount_0f7a4 10 = .ok (.iload_n 0, 1) := by decide +kernel
theorem dJ6_bitCount_0f7a4_11 : decode cJ6_bitCount_0f7a4 11 = .ok (.ldc_w 266, 3) := by decide +kernel
theorem dJ6_bitCount_0f7a4_14 : decode cJ6_bitCount_0f7a4 14 = .ok (.iand, 1) := by decide +kernel
theorem dJ6_bitCount_0f7a4_15 : decode cJ6_bitCount_0f7a4 15 = .ok (.iload_n 0, 1) := by decide +kernel
theorem dJ6_bitCount_0f7a4_16 : decode cJ6_bitCount_0f7a4 16 = .ok (.iconst 2, 1) := by decide +kernel
theorem dJ6_bitCount_0f7a4_17 : decode cJ6_bitCount_0f7a4 17 = .ok (.iushr, 1) := by decide +kernel
theorem dJ6_bitCount_0f7a4_18 : decode cJ6_bitCount_0f7a4 18 = .ok (.ldc_w 266, 3) := by decide +kernel
theorem dJ6_bitCount_0f7a4_21 : decode cJ6_bitCount_0f7a4 21 = .ok (.iand, 1) := by decide +kernel
theorem dJ6_bitCount_0f7a4_22 : decode cJ6_bitCount_0f7a4 22 = .ok (.iadd, 1) := by decide +kernel
theorem dJ6_bitCount_0f7a4_23 : decode cJ6_bitCount_0f7a4 23 = .ok (.istore_n 0, 1) := by decide +kernel
theorem dJ6_bitCount_0f7a4_24 : decode cJ6_bitCount_0f7a4 24 = .ok (.iload_n 0, 1) := by decide +kernel
theorem dJ6_bitCount_0f7a4_25 : decode cJ6_bitCount_0f7a4 25 = .ok (.iload_n 0, 1) := by decide +kernel
theorem dJ6_bitCount_0f7a4_26 : decode cJ6_bitCount_0f7a4 26 = .ok (.iconst 4, 1) := by decide +kernel
theorem dJ6_bitCount_0f7a4_27 : decode cJ6_bitCount_0f7a4 27 = .ok (.iushr, 1) := by decide +kernel
theorem dJ6_bitCount_0f7a4_28 : decode cJ6_bitCount_0f7a4 28 = .ok (.iadd, 1) := by decide +kernel
theorem dJ6_bitCount_0f7a4_29 : decode cJ6_bitCount_0f7a4 29 = .ok (.ldc_w 267, 3) := by decide +kernel
theorem dJ6_bitCount_0f7a4_32 : decode cJ6_bitCount_0f7a4 32 = .ok (.iand, 1) := by decide +kernel
theorem dJ6_bitCount_0f7a4_33 : decode cJ6_bitCount_0f7a4 33 = .ok (.istore_n 0, 1) := by decide +kernel
theorem dJ6_bitCount_0f7a4_34 : decode cJ6_bitCount_0f7a4 34 = .ok (.iload_n 0, 1) := by decide +kernel
theorem dJ6_bitCount_0f7a4_35 : decode cJ6_bitCount_0f7a4 35 = .ok (.iload_n 0, 1) := by decide +kernel
theorem dJ6_bitCount_0f7a4_36 : decode cJ6_bitCount_0f7a4 36 = .ok (.bipush 8, 2) := by decide +kernel
theorem dJ6_bitCount_0f7a4_38 : decode cJ6_bitCount_0f7a4 38 = .ok (.iushr, 1) := by decide +kernel
theorem dJ6_bitCount_0f7a4_39 : decode cJ6_bitCount_0f7a4 39 = .ok (.iadd, 1) := by decide +kernel
theorem dJ6_bitCount_0f7a4_40 : decode cJ6_bitCount_0f7a4 40 = .ok (.istore_n 0, 1) := by decide +kernel
theorem dJ6_bitCount_0f7a4_41 : decode cJ6_bitCount_0f7a4 41 = .ok (.iload_n 0, 1) := by decide +kernel
theorem dJ6_bitCount_0f7a4_42 : decode cJ6_bitCount_0f7a4 42 = .ok (.iload_n 0, 1) := by decide +kernel
theorem dJ6_bitCount_0f7a4_43 : decode cJ6_bitCount_0f7a4 43 = .ok (.bipush 16, 2) := by decide +kernel
theorem dJ6_bitCount_0f7a4_45 : decode cJ6_bitCount_0f7a4 45 = .ok (.iushr, 1) := by decide +kernel
theorem dJ6_bitCount_0f7a4_46 : decode cJ6_bitCount_0f7a4 46 = .ok (.iadd, 1) := by decide +kernel
theorem dJ6_bitCount_0f7a4_47 : decode cJ6_bitCount_0f7a4 47 = .ok (.istore_n 0, 1) := by decide +kernel
theorem dJ6_bitCount_0f7a4_48 : decode cJ6_bitCount_0f7a4 48 = .ok (.iload_n 0, 1) := by decide +kernel
theorem dJ6_bitCount_0f7a4_49 : decode cJ6_bitCount_0f7a4 49 = .ok (.bipush 63, 2) := by decide +kernel
theorem dJ6_bitCount_0f7a4_51 : decode cJ6_bitCount_0f7a4 51 = .ok (.iand, 1) := by decide +kernel
theorem dJ6_bitCount_0f7a4_52 : decode cJ6_bitCount_0f7a4 52 = .ok (.ireturn, 1) := by decide +kernel
theorem dJ9_floorMod_7cf53_0 : decode cJ9_floorMod_7cf53 0 = .ok (.iload_n 0, 1) := by decide +kernel
theorem dJ9_floorMod_7cf53_1 : decode cJ9_floorMod_7cf53 1 = .ok (.iload_n 1, 1) := by decide +kernel
theorem dJ9_floorMod_7cf53_2 : decode cJ9_floorMod_7cf53 2 = .ok (.irem, 1) := by decide +kernel
theorem dJ9_floorMod_7cf53_3 : decode cJ9_floorMod_7cf53 3 = .ok (.istore_n 2, 1) := by decide +kernel
theorem dJ9_floorMod_7cf53_4 : decode cJ9_floorMod_7cf53 4 = .ok (.iload_n 0, 1) := by decide +kernel
theorem dJ9_floorMod_7cf53_5 : decode cJ9_floorMod_7cf53 5 = .ok (.iload_n 1, 1) := by decide +kernel
theorem dJ9_floorMod_7cf53_6 : decode cJ9_floorMod_7cf53 6 = .ok (.ixor, 1) := by decide +kernel
theorem dJ9_floorMod_7cf53_7 : decode cJ9_floorMod_7cf53 7 = .ok (.ifCond .ge 11, 3) := by decide +kernel
theorem dJ9_floorMod_7cf53_10 : decode cJ9_floorMod_7cf53 10 = .ok (.iload_n 2, 1) := by decide +kernel
theorem dJ9_floorMod_7cf53_11 : decode cJ9_floorMod_7cf53 11 = .ok (.ifCond .eq 7, 3) := by decide +kernel
theorem dJ9_floorMod_7cf53_14 : decode cJ9_floorMod_7cf53 14 = .ok (.iload_n 2, 1) := by decide +kernel
theorem dJ9_floorMod_7cf53_15 : decode cJ9_floorMod_7cf53 15 = .ok (.iload_n 1, 1) := by decide +kernel
theorem dJ9_floorMod_7cf53_16 : decode cJ9_floorMod_7cf53 16 = .ok (.iadd, 1) := by decide +kernel
theorem dJ9_floorMod_7cf53_17 : decode cJ9_floorMod_7cf53 17 = .ok (.ireturn, 1) := by decide +kernel
theorem dJ9_floorMod_7cf53_18 : decode cJ9_floorMod_7cf53 18 = .ok (.iload_n 2, 1) := by decide +kernel
theorem dJ9_floorMod_7cf53_19 : decode cJ9_floorMod_7cf53 19 = .ok (.ireturn, 1) := by decide +kernel
theorem dJ9_max_7cf53_0 : decode cJ9_max_7cf53 0 = .ok (.iload_n 0, 1) := by decide +kernel
theorem dJ9_max_7cf53_1 : decode cJ9_max_7cf53 1 = .ok (.iload_n 1, 1) := by decide +kernel
theorem dJ9_max_7cf53_2 : decode cJ9_max_7cf53 2 = .ok (.if_icmp .lt 7, 3) := by decide +kernel
theorem dJ9_max_7cf53_5 : decode cJ9_max_7cf53 5 = .ok (.iload_n 0, 1) := by decide +kernel
theorem dJ9_max_7cf53_6 : decode cJ9_max_7cf53 6 = .ok (.goto 4, 3) := by decide +kernel
theorem dJ9_max_7cf53_9 : decode cJ9_max_7cf53 9 = .ok (.iload_n 1, 1) := by decide +kernel
theorem dJ9_max_7cf53_10 : decode cJ9_max_7cf53 10 = .ok (.ireturn, 1) := by decide +kernel
theorem dJ9_min_7cf53_0 : decode cJ9_min_7cf53 0 = .ok (.iload_n 0, 1) := by decide +kernel
theorem dJ9_min_7cf53_1 : decode cJ9_min_7cf53 1 = .ok (.iload_n 1, 1) := by decide +kernel
theorem dJ9_min_7cf53_2 : decode cJ9_min_7cf53 2 = .ok (.if_icmp .gt 7, 3) := by decide +kernel
theorem dJ9_min_7cf53_5 : decode cJ9_min_7cf53 5 = .ok (.iload_n 0, 1) := by decide +kernel
theorem dJ9_min_7cf53_6 : decode cJ9_min_7cf53 6 = .ok (.goto 4, 3) := by decide +kernel
theorem dJ9_min_7cf53_9 : decode cJ9_min_7cf53 9 = .ok (.iload_n 1, 1) := by decide +kernel
theorem dJ9_min_7cf53_10 : decode cJ9_min_7cf53 10 = .ok (.ireturn, 1) := by decide +kernel
abbrev vwCl : List vw_C := [(RX0, TX0, 3), (RX1, TX1, 14), (RX2, TX2, 3), (RX3, TX3, 3), (RX4, TX4, 8), (RX5, TX5, 7), (RX6, TX6, 17)]
