theorem dX1_deepest_12 : decode cX1_deepest 12 = .ok (.iload_n 1, 1) := by decide +kernel
theorem dX1_deepest_13 : decode cX1_deepest 13 = .ok (.aload_n 0, 1) := by decide +kernel
theorem dX1_deepest_14 : decode cX1_deepest 14 = .ok (.iload_n 2, 1) := by decide +kernel
theorem dX1_deepest_15 : decode cX1_deepest 15 = .ok (.invokevirtual 111, 3) := by decide +kernel
theorem dX1_deepest_18 : decode cX1_deepest 18 = .ok (.invokestatic 114, 3) := by decide +kernel
theorem dX1_deepest_21 : decode cX1_deepest 21 = .ok (.istore_n 1, 1) := by decide +kernel
theorem dX1_deepest_22 : decode cX1_deepest 22 = .ok (.iinc 2 1, 3) := by decide +kernel
theorem dX1_deepest_25 : decode cX1_deepest 25 = .ok (.goto (-21), 3) := by decide +kernel
theorem dX1_deepest_28 : decode cX1_deepest 28 = .ok (.iload_n 1, 1) := by decide +kernel
theorem dX1_deepest_29 : decode cX1_deepest 29 = .ok (.ireturn, 1) := by decide +kernel
set_option maxRecDepth 20000 in
theorem ggX1_largest_X1_groupOfPart : GoodIn wsX1_largest wsX1_groupOfPart := goodIn_r _ [6, 7, 13, 14, 15, 16, 17, 18, 19, 20, 21, 22, 23, 24, 25, 26] (by decide +kernel) (by decide +kernel)
set_option maxRecDepth 20000 in
theorem gX1_largest_X1_groupOfPart : GoodIn wsX1_largest (wsV RX1 89 RX1 yX1_groupOfPart wsX1_groupOfPart) := goodIn_app (goodIn_of _ (by decide +kernel)) ggX1_largest_X1_groupOfPart
set_option maxRecDepth 20000 in
theorem ggX1_largest_X1_sizeOf : GoodIn wsX1_largest wsX1_sizeOf := goodIn_r _ [11, 12, 13, 14, 15, 16, 17, 18, 19, 20, 21, 22, 23, 24, 25, 26] (by decide +kernel) (by decide +kernel)
set_option maxRecDepth 20000 in
theorem gX1_largest_X1_sizeOf : GoodIn wsX1_largest (wsV RX1 119 RX1 yX1_sizeOf wsX1_sizeOf) := goodIn_app (goodIn_of _ (by decide +kernel)) ggX1_largest_X1_sizeOf
theorem dX1_largest_0 : decode cX1_largest 0 = .ok (.iconst (-1), 1) := by decide +kernel
theorem dX1_largest_1 : decode cX1_largest 1 = .ok (.istore_n 1, 1) := by decide +kernel
theorem dX1_largest_2 : decode cX1_largest 2 = .ok (.iconst 0, 1) := by decide +kernel
theorem dX1_largest_3 : decode cX1_largest 3 = .ok (.istore_n 2, 1) := by decide +kernel
theorem dX1_largest_4 : decode cX1_largest 4 = .ok (.iconst 0, 1) := by decide +kernel
theorem dX1_largest_5 : decode cX1_largest 5 = .ok (.istore_n 3, 1) := by decide +kernel
theorem dX1_largest_6 : decode cX1_largest 6 = .ok (.iload_n 3, 1) := by decide +kernel
theorem dX1_largest_7 : decode cX1_largest 7 = .ok (.aload_n 0, 1) := by decide +kernel
theorem dX1_largest_8 : decode cX1_largest 8 = .ok (.getfield 50, 3) := by decide +kernel
theorem dX1_largest_11 : decode cX1_largest 11 = .ok (.if_icmp .ge 31, 3) := by decide +kernel
theorem dX1_largest_14 : decode cX1_largest 14 = .ok (.aload_n 0, 1) := by decide +kernel
theorem dX1_largest_15 : decode cX1_largest 15 = .ok (.aload_n 0, 1) := by decide +kernel
theorem dX1_largest_16 : decode cX1_largest 16 = .ok (.iload_n 3, 1) := by decide +kernel
theorem dX1_largest_17 : decode cX1_largest 17 = .ok (.invokevirtual 89, 3) := by decide +kernel
theorem dX1_largest_20 : decode cX1_largest 20 = .ok (.invokevirtual 119, 3) := by decide +kernel
theorem dX1_largest_23 : decode cX1_largest 23 = .ok (.istore 4, 2) := by decide +kernel
theorem dX1_largest_25 : decode cX1_largest 25 = .ok (.iload 4, 2) := by decide +kernel
theorem dX1_largest_27 : decode cX1_largest 27 = .ok (.iload_n 2, 1) := by decide +kernel
theorem dX1_largest_28 : decode cX1_largest 28 = .ok (.if_icmp .le 8, 3) := by decide +kernel
theorem dX1_largest_31 : decode cX1_largest 31 = .ok (.iload_n 3, 1) := by decide +kernel
theorem dX1_largest_32 : decode cX1_largest 32 = .ok (.istore_n 1, 1) := by decide +kernel
theorem dX1_largest_33 : decode cX1_largest 33 = .ok (.iload 4, 2) := by decide +kernel
theorem dX1_largest_35 : decode cX1_largest 35 = .ok (.istore_n 2, 1) := by decide +kernel
theorem dX1_largest_36 : decode cX1_largest 36 = .ok (.iinc 3 1, 3) := by decide +kernel
theorem dX1_largest_39 : decode cX1_largest 39 = .ok (.goto (-33), 3) := by decide +kernel
theorem dX1_largest_42 : decode cX1_largest 42 = .ok (.iload_n 1, 1) := by decide +kernel
theorem dX1_largest_43 : decode cX1_largest 43 = .ok (.ireturn, 1) := by decide +kernel
set_option maxRecDepth 20000 in
theorem ggX1_partsUpTo_X1_groupOfPart : GoodIn wsX1_partsUpTo wsX1_groupOfPart := goodIn_r _ [6, 7, 13, 14, 15, 16, 17, 18, 19, 20, 21, 22, 23, 24, 25, 26] (by decide +kernel) (by decide +kernel)
set_option maxRecDepth 20000 in
theorem gX1_partsUpTo_X1_groupOfPart : GoodIn wsX1_partsUpTo (wsV RX1 89 RX1 yX1_groupOfPart wsX1_groupOfPart) := goodIn_app (goodIn_of _ (by decide +kernel)) ggX1_partsUpTo_X1_groupOfPart
set_option maxRecDepth 20000 in
theorem ggX1_partsUpTo_X1_sizeOf : GoodIn wsX1_partsUpTo wsX1_sizeOf := goodIn_r _ [11, 12, 13, 14, 15, 16, 17, 18, 19, 20, 21, 22, 23, 24, 25, 26] (by decide +kernel) (by decide +kernel)
set_option maxRecDepth 20000 in
theorem gX1_partsUpTo_X1_sizeOf : GoodIn wsX1_partsUpTo (wsV RX1 119 RX1 yX1_sizeOf wsX1_sizeOf) := goodIn_app (goodIn_of _ (by decide +kernel)) ggX1_partsUpTo_X1_sizeOf
theorem dX1_partsUpTo_0 : decode cX1_partsUpTo 0 = .ok (.iconst 0, 1) := by decide +kernel
theorem dX1_partsUpTo_1 : decode cX1_partsUpTo 1 = .ok (.istore_n 2, 1) := by decide +kernel
theorem dX1_partsUpTo_2 : decode cX1_partsUpTo 2 = .ok (.iconst 0, 1) := by decide +kernel
theorem dX1_partsUpTo_3 : decode cX1_partsUpTo 3 = .ok (.istore_n 3, 1) := by decide +kernel
theorem dX1_partsUpTo_4 : decode cX1_partsUpTo 4 = .ok (.iload_n 3, 1) := by decide +kernel
theorem dX1_partsUpTo_5 : decode cX1_partsUpTo 5 = .ok (.aload_n 0, 1) := by decide +kernel
theorem dX1_partsUpTo_6 : decode cX1_partsUpTo 6 = .ok (.getfield 50, 3) := by decide +kernel
theorem dX1_partsUpTo_9 : decode cX1_partsUpTo 9 = .ok (.if_icmp .ge 30, 3) := by decide +kernel
theorem dX1_partsUpTo_12 : decode cX1_partsUpTo 12 = .ok (.iload_n 2, 1) := by decide +kernel
theorem dX1_partsUpTo_13 : decode cX1_partsUpTo 13 = .ok (.aload_n 0, 1) := by decide +kernel
theorem dX1_partsUpTo_14 : decode cX1_partsUpTo 14 = .ok (.aload_n 0, 1) := by decide +kernel
theorem dX1_partsUpTo_15 : decode cX1_partsUpTo 15 = .ok (.iload_n 3, 1) := by decide +kernel
theorem dX1_partsUpTo_16 : decode cX1_partsUpTo 16 = .ok (.invokevirtual 89, 3) := by decide +kernel
theorem dX1_partsUpTo_19 : decode cX1_partsUpTo 19 = .ok (.invokevirtual 119, 3) := by decide +kernel
theorem dX1_partsUpTo_22 : decode cX1_partsUpTo 22 = .ok (.iload_n 1, 1) := by decide +kernel
theorem dX1_partsUpTo_23 : decode cX1_partsUpTo 23 = .ok (.if_icmp .gt 7, 3) := by decide +kernel
theorem dX1_partsUpTo_26 : decode cX1_partsUpTo 26 = .ok (.iconst 1, 1) := by decide +kernel
theorem dX1_partsUpTo_27 : decode cX1_partsUpTo 27 = .ok (.goto 4, 3) := by decide +kernel
theorem dX1_partsUpTo_30 : decode cX1_partsUpTo 30 = .ok (.iconst 0, 1) := by decide +kernel
theorem dX1_partsUpTo_31 : decode cX1_partsUpTo 31 = .ok (.iadd, 1) := by decide +kernel
theorem dX1_partsUpTo_32 : decode cX1_partsUpTo 32 = .ok (.istore_n 2, 1) := by decide +kernel
theorem dX1_partsUpTo_33 : decode cX1_partsUpTo 33 = .ok (.iinc 3 1, 3) := by decide +kernel
theorem dX1_partsUpTo_36 : decode cX1_partsUpTo 36 = .ok (.goto (-32), 3) := by decide +kernel
theorem dX1_partsUpTo_39 : decode cX1_partsUpTo 39 = .ok (.iload_n 2, 1) := by decide +kernel
theorem dX1_partsUpTo_40 : decode cX1_partsUpTo 40 = .ok (.ireturn, 1) := by decide +kernel
set_option maxRecDepth 20000 in
theorem ggX1_joinsAt_X1_partAt : GoodIn wsX1_joinsAt wsX1_partAt := goodIn_r _ [6, 7, 8, 9, 5, 10, 11, 12, 13, 14, 15, 16, 17, 18, 19, 20, 21, 22, 23, 24, 25, 26, 27, 28, 29, 30, 31, 32, 33, 34, 35, 36, 37, 38, 39, 44, 45, 46, 47, 48, 49, 50, 51, 52, 53, 54, 55, 56, 57, 58, 59, 60, 61, 62, 63, 64, 65] (by decide +kernel) (by decide +kernel)
set_option maxRecDepth 20000 in
theorem gX1_joinsAt_X1_partAt : GoodIn wsX1_joinsAt (wsV RX1 99 RX1 yX1_partAt wsX1_partAt) := goodIn_app (goodIn_of _ (by decide +kernel)) ggX1_joinsAt_X1_partAt
set_option maxRecDepth 20000 in
theorem ggX1_joinsAt_X1_isTouched : GoodIn wsX1_joinsAt wsX1_isTouched := goodIn_r _ [43, 1, 44, 45, 46, 47, 48, 49, 50, 51, 52, 53, 54, 55, 56, 57] (by decide +kernel) (by decide +kernel)
set_option maxRecDepth 20000 in
theorem gX1_joinsAt_X1_isTouched : GoodIn wsX1_joinsAt (wsV RX1 122 RX1 yX1_isTouched wsX1_isTouched) := goodIn_app (goodIn_of _ (by decide +kernel)) ggX1_joinsAt_X1_isTouched
theorem dX1_joinsAt_0 : decode cX1_joinsAt 0 = .ok (.iconst 0, 1) := by decide +kernel
theorem dX1_joinsAt_1 : decode cX1_joinsAt 1 = .ok (.istore 4, 2) := by decide +kernel
theorem dX1_joinsAt_3 : decode cX1_joinsAt 3 = .ok (.iload_n 1, 1) := by decide +kernel
theorem dX1_joinsAt_4 : decode cX1_joinsAt 4 = .ok (.iconst 1, 1) := by decide +kernel
theorem dX1_joinsAt_5 : decode cX1_joinsAt 5 = .ok (.isub, 1) := by decide +kernel
theorem dX1_joinsAt_6 : decode cX1_joinsAt 6 = .ok (.istore 5, 2) := by decide +kernel
theorem dX1_joinsAt_8 : decode cX1_joinsAt 8 = .ok (.iload 5, 2) := by decide +kernel
theorem dX1_joinsAt_10 : decode cX1_joinsAt 10 = .ok (.iload_n 1, 1) := by decide +kernel
theorem dX1_joinsAt_11 : decode cX1_joinsAt 11 = .ok (.iconst 1, 1) := by decide +kernel
theorem dX1_joinsAt_12 : decode cX1_joinsAt 12 = .ok (.iadd, 1) := by decide +kernel
theorem dX1_joinsAt_13 : decode cX1_joinsAt 13 = .ok (.if_icmp .gt 109, 3) := by decide +kernel
theorem dX1_joinsAt_16 : decode cX1_joinsAt 16 = .ok (.iload_n 2, 1) := by decide +kernel
theorem dX1_joinsAt_17 : decode cX1_joinsAt 17 = .ok (.iconst 1, 1) := by decide +kernel
theorem dX1_joinsAt_18 : decode cX1_joinsAt 18 = .ok (.isub, 1) := by decide +kernel
theorem dX1_joinsAt_19 : decode cX1_joinsAt 19 = .ok (.istore 6, 2) := by decide +kernel
theorem dX1_joinsAt_21 : decode cX1_joinsAt 21 = .ok (.iload 6, 2) := by decide +kernel
theorem dX1_joinsAt_23 : decode cX1_joinsAt 23 = .ok (.iload_n 2, 1) := by decide +kernel
theorem dX1_joinsAt_24 : decode cX1_joinsAt 24 = .ok (.iconst 1, 1) := by decide +kernel
theorem dX1_joinsAt_25 : decode cX1_joinsAt 25 = .ok (.iadd, 1) := by decide +kernel
theorem dX1_joinsAt_26 : decode cX1_joinsAt 26 = .ok (.if_icmp .gt 90, 3) := by decide +kernel
theorem dX1_joinsAt_29 : decode cX1_joinsAt 29 = .ok (.iload_n 3, 1) := by decide +kernel
theorem dX1_joinsAt_30 : decode cX1_joinsAt 30 = .ok (.ifCond .ne 15, 3) := by decide +kernel
theorem dX1_joinsAt_33 : decode cX1_joinsAt 33 = .ok (.iload 5, 2) := by decide +kernel
theorem dX1_joinsAt_35 : decode cX1_joinsAt 35 = .ok (.iload_n 1, 1) := by decide +kernel
theorem dX1_joinsAt_36 : decode cX1_joinsAt 36 = .ok (.if_icmp .eq 9, 3) := by decide +kernel
theorem dX1_joinsAt_39 : decode cX1_joinsAt 39 = .ok (.iload 6, 2) := by decide +kernel
theorem dX1_joinsAt_41 : decode cX1_joinsAt 41 = .ok (.iload_n 2, 1) := by decide +kernel
theorem dX1_joinsAt_42 : decode cX1_joinsAt 42 = .ok (.if_icmp .ne 7, 3) := by decide +kernel
theorem dX1_joinsAt_45 : decode cX1_joinsAt 45 = .ok (.iconst 1, 1) := by decide +kernel
theorem dX1_joinsAt_46 : decode cX1_joinsAt 46 = .ok (.goto 4, 3) := by decide +kernel
theorem dX1_joinsAt_49 : decode cX1_joinsAt 49 = .ok (.iconst 0, 1) := by decide +kernel
theorem dX1_joinsAt_50 : decode cX1_joinsAt 50 = .ok (.istore 7, 2) := by decide +kernel
theorem dX1_joinsAt_52 : decode cX1_joinsAt 52 = .ok (.iload 7, 2) := by decide +kernel
theorem dX1_joinsAt_54 : decode cX1_joinsAt 54 = .ok (.ifCond .eq 14, 3) := by decide +kernel
theorem dX1_joinsAt_57 : decode cX1_joinsAt 57 = .ok (.aload_n 0, 1) := by decide +kernel
theorem dX1_joinsAt_58 : decode cX1_joinsAt 58 = .ok (.iload 5, 2) := by decide +kernel
theorem dX1_joinsAt_60 : decode cX1_joinsAt 60 = .ok (.iload 6, 2) := by decide +kernel
theorem dX1_joinsAt_62 : decode cX1_joinsAt 62 = .ok (.invokevirtual 99, 3) := by decide +kernel
theorem dX1_joinsAt_65 : decode cX1_joinsAt 65 = .ok (.goto 4, 3) := by decide +kernel
theorem dX1_joinsAt_68 : decode cX1_joinsAt 68 = .ok (.iconst (-1), 1) := by decide +kernel
theorem dX1_joinsAt_69 : decode cX1_joinsAt 69 = .ok (.istore 8, 2) := by decide +kernel
theorem dX1_joinsAt_71 : decode cX1_joinsAt 71 = .ok (.iload 8, 2) := by decide +kernel
theorem dX1_joinsAt_73 : decode cX1_joinsAt 73 = .ok (.iconst (-1), 1) := by decide +kernel
theorem dX1_joinsAt_74 : decode cX1_joinsAt 74 = .ok (.if_icmp .eq 36, 3) := by decide +kernel
theorem dX1_joinsAt_77 : decode cX1_joinsAt 77 = .ok (.iload 4, 2) := by decide +kernel
theorem dX1_joinsAt_79 : decode cX1_joinsAt 79 = .ok (.aload_n 0, 1) := by decide +kernel
theorem dX1_joinsAt_80 : decode cX1_joinsAt 80 = .ok (.getfield 47, 3) := by decide +kernel
theorem dX1_joinsAt_83 : decode cX1_joinsAt 83 = .ok (.arraylength, 1) := by decide +kernel
theorem dX1_joinsAt_84 : decode cX1_joinsAt 84 = .ok (.if_icmp .ge 26, 3) := by decide +kernel
theorem dX1_joinsAt_87 : decode cX1_joinsAt 87 = .ok (.aload_n 0, 1) := by decide +kernel
theorem dX1_joinsAt_88 : decode cX1_joinsAt 88 = .ok (.iload 8, 2) := by decide +kernel
theorem dX1_joinsAt_90 : decode cX1_joinsAt 90 = .ok (.iload 4, 2) := by decide +kernel
theorem dX1_joinsAt_92 : decode cX1_joinsAt 92 = .ok (.invokevirtual 122, 3) := by decide +kernel
theorem dX1_joinsAt_95 : decode cX1_joinsAt 95 = .ok (.ifCond .ne 15, 3) := by decide +kernel
theorem dX1_joinsAt_98 : decode cX1_joinsAt 98 = .ok (.aload_n 0, 1) := by decide +kernel
theorem dX1_joinsAt_99 : decode cX1_joinsAt 99 = .ok (.getfield 47, 3) := by decide +kernel
theorem dX1_joinsAt_102 : decode cX1_joinsAt 102 = .ok (.iload 4, 2) := by decide +kernel
theorem dX1_joinsAt_104 : decode cX1_joinsAt 104 = .ok (.iload 8, 2) := by decide +kernel
theorem dX1_joinsAt_106 : decode cX1_joinsAt 106 = .ok (.iastore, 1) := by decide +kernel
theorem dX1_joinsAt_107 : decode cX1_joinsAt 107 = .ok (.iinc 4 1, 3) := by decide +kernel
theorem dX1_joinsAt_110 : decode cX1_joinsAt 110 = .ok (.iinc 6 1, 3) := by decide +kernel
theorem dX1_joinsAt_113 : decode cX1_joinsAt 113 = .ok (.goto (-92), 3) := by decide +kernel
theorem dX1_joinsAt_116 : decode cX1_joinsAt 116 = .ok (.iinc 5 1, 3) := by decide +kernel
theorem dX1_joinsAt_119 : decode cX1_joinsAt 119 = .ok (.goto (-111), 3) := by decide +kernel
theorem dX1_joinsAt_122 : decode cX1_joinsAt 122 = .ok (.iload 4, 2) := by decide +kernel
theorem dX1_joinsAt_124 : decode cX1_joinsAt 124 = .ok (.ireturn, 1) := by decide +kernel
set_option maxRecDepth 20000 in
theorem ggX1_sameMoved_X1_sizeOf : GoodIn wsX1_sameMoved wsX1_sizeOf := goodIn_r _ [6, 7, 38, 39, 40, 41, 42, 43, 44, 45, 46, 47, 48, 49, 50, 51] (by decide +kernel) (by decide +kernel)
set_option maxRecDepth 20000 in
theorem gX1_sameMoved_X1_sizeOf : GoodIn wsX1_sameMoved (wsV RX1 119 RX1 yX1_sizeOf wsX1_sizeOf) := goodIn_app (goodIn_of _ (by decide +kernel)) ggX1_sameMoved_X1_sizeOf
set_option maxRecDepth 20000 in
theorem ggX1_sameMoved_X4_lineOf : GoodIn wsX1_sameMoved wsX4_lineOf := goodIn_r _ [12, 13, 52, 53, 54, 55, 56, 57, 58, 59] (by decide +kernel) (by decide +kernel)
set_option maxRecDepth 20000 in
theorem gX1_sameMoved_X4_lineOf : GoodIn wsX1_sameMoved (wsV RX1 79 RX4 yX4_lineOf wsX4_lineOf) := goodIn_app (goodIn_of _ (by decide +kernel)) ggX1_sameMoved_X4_lineOf
set_option maxRecDepth 20000 in
theorem ggX1_sameMoved_X4_start : GoodIn wsX1_sameMoved wsX4_start := goodIn_r _ [17, 18, 52, 53, 54, 55, 56, 57, 58, 59] (by decide +kernel) (by decide +kernel)
set_option maxRecDepth 20000 in
theorem gX1_sameMoved_X4_start : GoodIn wsX1_sameMoved (wsV RX1 82 RX4 yX4_start wsX4_start) := goodIn_app (goodIn_of _ (by decide +kernel)) ggX1_sameMoved_X4_start
set_option maxRecDepth 20000 in
theorem ggX1_sameMoved_X4_length : GoodIn wsX1_sameMoved wsX4_length := goodIn_r _ [22, 23, 24, 25, 11, 26, 27, 28, 15, 16, 17, 18, 52, 53, 54, 55, 56, 57, 58, 59] (by decide +kernel) (by decide +kernel)
set_option maxRecDepth 20000 in
theorem gX1_sameMoved_X4_length : GoodIn wsX1_sameMoved (wsV RX1 126 RX4 yX4_length wsX4_length) := goodIn_app (goodIn_of _ (by decide +kernel)) ggX1_sameMoved_X4_length
set_option maxRecDepth 20000 in
theorem ggX1_sameMoved_X1_nextOfGroup : GoodIn wsX1_sameMoved wsX1_nextOfGroup := goodIn_r _ [32, 1, 33, 34, 35, 11, 36, 37, 38, 39, 40, 41, 42, 43, 44, 45, 46, 47, 48, 49, 50, 51, 52, 53, 54, 55, 56, 57, 58, 59] (by decide +kernel) (by decide +kernel)
set_option maxRecDepth 20000 in
theorem gX1_sameMoved_X1_nextOfGroup : GoodIn wsX1_sameMoved (wsV RX1 129 RX1 yX1_nextOfGroup wsX1_nextOfGroup) := goodIn_app (goodIn_of _ (by decide +kernel)) ggX1_sameMoved_X1_nextOfGroup
theorem dX1_sameMoved_0 : decode cX1_sameMoved 0 = .ok (.aload_n 0, 1) := by decide +kernel
theorem dX1_sameMoved_1 : decode cX1_sameMoved 1 = .ok (.iload_n 1, 1) := by decide +kernel
theorem dX1_sameMoved_2 : decode cX1_sameMoved 2 = .ok (.invokevirtual 119, 3) := by decide +kernel
theorem dX1_sameMoved_5 : decode cX1_sameMoved 5 = .ok (.aload_n 0, 1) := by decide +kernel
theorem dX1_sameMoved_6 : decode cX1_sameMoved 6 = .ok (.iload_n 2, 1) := by decide +kernel
theorem dX1_sameMoved_7 : decode cX1_sameMoved 7 = .ok (.invokevirtual 119, 3) := by decide +kernel
theorem dX1_sameMoved_10 : decode cX1_sameMoved 10 = .ok (.if_icmp .eq 5, 3) := by decide +kernel
theorem dX1_sameMoved_13 : decode cX1_sameMoved 13 = .ok (.iconst 0, 1) := by decide +kernel
theorem dX1_sameMoved_14 : decode cX1_sameMoved 14 = .ok (.ireturn, 1) := by decide +kernel
theorem dX1_sameMoved_15 : decode cX1_sameMoved 15 = .ok (.iload_n 1, 1) := by decide +kernel
theorem dX1_sameMoved_16 : decode cX1_sameMoved 16 = .ok (.istore_n 3, 1) := by decide +kernel
theorem dX1_sameMoved_17 : decode cX1_sameMoved 17 = .ok (.iload_n 2, 1) := by decide +kernel
theorem dX1_sameMoved_18 : decode cX1_sameMoved 18 = .ok (.istore 4, 2) := by decide +kernel
theorem dX1_sameMoved_20 : decode cX1_sameMoved 20 = .ok (.iconst 0, 1) := by decide +kernel
theorem dX1_sameMoved_21 : decode cX1_sameMoved 21 = .ok (.istore 5, 2) := by decide +kernel
theorem dX1_sameMoved_23 : decode cX1_sameMoved 23 = .ok (.iload 5, 2) := by decide +kernel
theorem dX1_sameMoved_25 : decode cX1_sameMoved 25 = .ok (.sipush 256, 3) := by decide +kernel
theorem dX1_sameMoved_28 : decode cX1_sameMoved 28 = .ok (.if_icmp .ge 170, 3) := by decide +kernel
theorem dX1_sameMoved_31 : decode cX1_sameMoved 31 = .ok (.iload_n 3, 1) := by decide +kernel
theorem dX1_sameMoved_32 : decode cX1_sameMoved 32 = .ok (.aload_n 0, 1) := by decide +kernel
theorem dX1_sameMoved_33 : decode cX1_sameMoved 33 = .ok (.getfield 12, 3) := by decide +kernel
theorem dX1_sameMoved_36 : decode cX1_sameMoved 36 = .ok (.getfield 64, 3) := by decide +kernel
theorem dX1_sameMoved_39 : decode cX1_sameMoved 39 = .ok (.if_icmp .ge 159, 3) := by decide +kernel
theorem dX1_sameMoved_42 : decode cX1_sameMoved 42 = .ok (.iload 4, 2) := by decide +kernel
theorem dX1_sameMoved_44 : decode cX1_sameMoved 44 = .ok (.aload_n 0, 1) := by decide +kernel
theorem dX1_sameMoved_45 : decode cX1_sameMoved 45 = .ok (.getfield 12, 3) := by decide +kernel
theorem dX1_sameMoved_48 : decode cX1_sameMoved 48 = .ok (.getfield 64, 3) := by decide +kernel
theorem dX1_sameMoved_51 : decode cX1_sameMoved 51 = .ok (.if_icmp .ge 147, 3) := by decide +kernel
theorem dX1_sameMoved_54 : decode cX1_sameMoved 54 = .ok (.aload_n 0, 1) := by decide +kernel
theorem dX1_sameMoved_55 : decode cX1_sameMoved 55 = .ok (.getfield 12, 3) := by decide +kernel
theorem dX1_sameMoved_58 : decode cX1_sameMoved 58 = .ok (.iload_n 3, 1) := by decide +kernel
theorem dX1_sameMoved_59 : decode cX1_sameMoved 59 = .ok (.invokevirtual 79, 3) := by decide +kernel
theorem dX1_sameMoved_62 : decode cX1_sameMoved 62 = .ok (.aload_n 0, 1) := by decide +kernel
theorem dX1_sameMoved_63 : decode cX1_sameMoved 63 = .ok (.getfield 12, 3) := by decide +kernel
theorem dX1_sameMoved_66 : decode cX1_sameMoved 66 = .ok (.iload_n 1, 1) := by decide +kernel
theorem dX1_sameMoved_67 : decode cX1_sameMoved 67 = .ok (.invokevirtual 79, 3) := by decide +kernel
theorem dX1_sameMoved_70 : decode cX1_sameMoved 70 = .ok (.isub, 1) := by decide +kernel
theorem dX1_sameMoved_71 : decode cX1_sameMoved 71 = .ok (.aload_n 0, 1) := by decide +kernel
theorem dX1_sameMoved_72 : decode cX1_sameMoved 72 = .ok (.getfield 12, 3) := by decide +kernel
theorem dX1_sameMoved_75 : decode cX1_sameMoved 75 = .ok (.iload 4, 2) := by decide +kernel
theorem dX1_sameMoved_77 : decode cX1_sameMoved 77 = .ok (.invokevirtual 79, 3) := by decide +kernel
theorem dX1_sameMoved_80 : decode cX1_sameMoved 80 = .ok (.aload_n 0, 1) := by decide +kernel
theorem dX1_sameMoved_81 : decode cX1_sameMoved 81 = .ok (.getfield 12, 3) := by decide +kernel
theorem dX1_sameMoved_84 : decode cX1_sameMoved 84 = .ok (.iload_n 2, 1) := by decide +kernel
theorem dX1_sameMoved_85 : decode cX1_sameMoved 85 = .ok (.invokevirtual 79, 3) := by decide +kernel
theorem dX1_sameMoved_88 : decode cX1_sameMoved 88 = .ok (.isub, 1) := by decide +kernel
theorem dX1_sameMoved_89 : decode cX1_sameMoved 89 = .ok (.if_icmp .ne 7, 3) := by decide +kernel
theorem dX1_sameMoved_92 : decode cX1_sameMoved 92 = .ok (.iconst 1, 1) := by decide +kernel
theorem dX1_sameMoved_93 : decode cX1_sameMoved 93 = .ok (.goto 4, 3) := by decide +kernel
theorem dX1_sameMoved_96 : decode cX1_sameMoved 96 = .ok (.iconst 0, 1) := by decide +kernel
theorem dX1_sameMoved_97 : decode cX1_sameMoved 97 = .ok (.istore 6, 2) := by decide +kernel
theorem dX1_sameMoved_99 : decode cX1_sameMoved 99 = .ok (.aload_n 0, 1) := by decide +kernel
theorem dX1_sameMoved_100 : decode cX1_sameMoved 100 = .ok (.getfield 12, 3) := by decide +kernel
theorem dX1_sameMoved_103 : decode cX1_sameMoved 103 = .ok (.iload_n 3, 1) := by decide +kernel
theorem dX1_sameMoved_104 : decode cX1_sameMoved 104 = .ok (.invokevirtual 82, 3) := by decide +kernel
theorem dX1_sameMoved_107 : decode cX1_sameMoved 107 = .ok (.aload_n 0, 1) := by decide +kernel
theorem dX1_sameMoved_108 : decode cX1_sameMoved 108 = .ok (.getfield 12, 3) := by decide +kernel
theorem dX1_sameMoved_111 : decode cX1_sameMoved 111 = .ok (.iload_n 1, 1) := by decide +kernel
theorem dX1_sameMoved_112 : decode cX1_sameMoved 112 = .ok (.invokevirtual 82, 3) := by decide +kernel
theorem dX1_sameMoved_115 : decode cX1_sameMoved 115 = .ok (.isub, 1) := by decide +kernel
theorem dX1_sameMoved_116 : decode cX1_sameMoved 116 = .ok (.aload_n 0, 1) := by decide +kernel
theorem dX1_sameMoved_117 : decode cX1_sameMoved 117 = .ok (.getfield 12, 3) := by decide +kernel
theorem dX1_sameMoved_120 : decode cX1_sameMoved 120 = .ok (.iload 4, 2) := by decide +kernel
theorem dX1_sameMoved_122 : decode cX1_sameMoved 122 = .ok (.invokevirtual 82, 3) := by decide +kernel
theorem dX1_sameMoved_125 : decode cX1_sameMoved 125 = .ok (.aload_n 0, 1) := by decide +kernel
theorem dX1_sameMoved_126 : decode cX1_sameMoved 126 = .ok (.getfield 12, 3) := by decide +kernel
theorem dX1_sameMoved_129 : decode cX1_sameMoved 129 = .ok (.iload_n 2, 1) := by decide +kernel
theorem dX1_sameMoved_130 : decode cX1_sameMoved 130 = .ok (.invokevirtual 82, 3) := by decide +kernel
theorem dX1_sameMoved_133 : decode cX1_sameMoved 133 = .ok (.isub, 1) := by decide +kernel
theorem dX1_sameMoved_134 : decode cX1_sameMoved 134 = .ok (.if_icmp .ne 7, 3) := by decide +kernel
theorem dX1_sameMoved_137 : decode cX1_sameMoved 137 = .ok (.iconst 1, 1) := by decide +kernel
theorem dX1_sameMoved_138 : decode cX1_sameMoved 138 = .ok (.goto 4, 3) := by decide +kernel
theorem dX1_sameMoved_141 : decode cX1_sameMoved 141 = .ok (.iconst 0, 1) := by decide +kernel
theorem dX1_sameMoved_142 : decode cX1_sameMoved 142 = .ok (.istore 7, 2) := by decide +kernel
theorem dX1_sameMoved_144 : decode cX1_sameMoved 144 = .ok (.iload 6, 2) := by decide +kernel
theorem dX1_sameMoved_146 : decode cX1_sameMoved 146 = .ok (.ifCond .eq 28, 3) := by decide +kernel
theorem dX1_sameMoved_149 : decode cX1_sameMoved 149 = .ok (.iload 7, 2) := by decide +kernel
theorem dX1_sameMoved_151 : decode cX1_sameMoved 151 = .ok (.ifCond .eq 23, 3) := by decide +kernel
theorem dX1_sameMoved_154 : decode cX1_sameMoved 154 = .ok (.aload_n 0, 1) := by decide +kernel
theorem dX1_sameMoved_155 : decode cX1_sameMoved 155 = .ok (.getfield 12, 3) := by decide +kernel
theorem dX1_sameMoved_158 : decode cX1_sameMoved 158 = .ok (.iload_n 3, 1) := by decide +kernel
theorem dX1_sameMoved_159 : decode cX1_sameMoved 159 = .ok (.invokevirtual 126, 3) := by decide +kernel
theorem dX1_sameMoved_162 : decode cX1_sameMoved 162 = .ok (.aload_n 0, 1) := by decide +kernel
theorem dX1_sameMoved_163 : decode cX1_sameMoved 163 = .ok (.getfield 12, 3) := by decide +kernel
theorem dX1_sameMoved_166 : decode cX1_sameMoved 166 = .ok (.iload 4, 2) := by decide +kernel
theorem dX1_sameMoved_168 : decode cX1_sameMoved 168 = .ok (.invokevirtual 126, 3) := by decide +kernel
theorem dX1_sameMoved_171 : decode cX1_sameMoved 171 = .ok (.if_icmp .eq 5, 3) := by decide +kernel
theorem dX1_sameMoved_174 : decode cX1_sameMoved 174 = .ok (.iconst 0, 1) := by decide +kernel
theorem dX1_sameMoved_175 : decode cX1_sameMoved 175 = .ok (.ireturn, 1) := by decide +kernel
theorem dX1_sameMoved_176 : decode cX1_sameMoved 176 = .ok (.aload_n 0, 1) := by decide +kernel
theorem dX1_sameMoved_177 : decode cX1_sameMoved 177 = .ok (.iload_n 3, 1) := by decide +kernel
theorem dX1_sameMoved_178 : decode cX1_sameMoved 178 = .ok (.iload_n 1, 1) := by decide +kernel
theorem dX1_sameMoved_179 : decode cX1_sameMoved 179 = .ok (.invokevirtual 129, 3) := by decide +kernel
theorem dX1_sameMoved_182 : decode cX1_sameMoved 182 = .ok (.istore_n 3, 1) := by decide +kernel
theorem dX1_sameMoved_183 : decode cX1_sameMoved 183 = .ok (.aload_n 0, 1) := by decide +kernel
theorem dX1_sameMoved_184 : decode cX1_sameMoved 184 = .ok (.iload 4, 2) := by decide +kernel
theorem dX1_sameMoved_186 : decode cX1_sameMoved 186 = .ok (.iload_n 2, 1) := by decide +kernel
theorem dX1_sameMoved_187 : decode cX1_sameMoved 187 = .ok (.invokevirtual 129, 3) := by decide +kernel
theorem dX1_sameMoved_190 : decode cX1_sameMoved 190 = .ok (.istore 4, 2) := by decide +kernel
theorem dX1_sameMoved_192 : decode cX1_sameMoved 192 = .ok (.iinc 5 1, 3) := by decide +kernel
theorem dX1_sameMoved_195 : decode cX1_sameMoved 195 = .ok (.goto (-172), 3) := by decide +kernel
theorem dX1_sameMoved_198 : decode cX1_sameMoved 198 = .ok (.iconst 1, 1) := by decide +kernel
theorem dX1_sameMoved_199 : decode cX1_sameMoved 199 = .ok (.ireturn, 1) := by decide +kernel
set_option maxRecDepth 20000 in
theorem ggX1_flipDotsOf_X4_groupOf : GoodIn wsX1_flipDotsOf wsX4_groupOf := goodIn_r _ [6, 7, 56, 57, 58, 59, 60, 61, 62, 63] (by decide +kernel) (by decide +kernel)
set_option maxRecDepth 20000 in
theorem gX1_flipDotsOf_X4_groupOf : GoodIn wsX1_flipDotsOf (wsV RX1 71 RX4 yX4_groupOf wsX4_groupOf) := goodIn_app (goodIn_of _ (by decide +kernel)) ggX1_flipDotsOf_X4_groupOf
set_option maxRecDepth 20000 in
theorem ggX1_flipDotsOf_X4_lineOf : GoodIn wsX1_flipDotsOf wsX4_lineOf := goodIn_r _ [11, 12, 56, 57, 58, 59, 60, 61, 62, 63] (by decide +kernel) (by decide +kernel)
set_option maxRecDepth 20000 in
theorem gX1_flipDotsOf_X4_lineOf : GoodIn wsX1_flipDotsOf (wsV RX1 79 RX4 yX4_lineOf wsX4_lineOf) := goodIn_app (goodIn_of _ (by decide +kernel)) ggX1_flipDotsOf_X4_lineOf
set_option maxRecDepth 20000 in
theorem ggX1_flipDotsOf_X4_columns : GoodIn wsX1_flipDotsOf wsX4_columns := goodIn_r _ [16, 17, 18, 19, 5, 20, 21, 22, 23, 24, 25, 26, 56, 57, 58, 59, 60, 61, 62, 63] (by decide +kernel) (by decide +kernel)
set_option maxRecDepth 20000 in
theorem gX1_flipDotsOf_X4_columns : GoodIn wsX1_flipDotsOf (wsV RX1 132 RX4 yX4_columns wsX4_columns) := goodIn_app (goodIn_of _ (by decide +kernel)) ggX1_flipDotsOf_X4_columns
set_option maxRecDepth 20000 in
theorem ggX1_flipDotsOf_X3_flip : GoodIn wsX1_flipDotsOf wsX3_flip := goodIn_r _ [31, 32, 33, 34, 30, 35, 36, 37, 38, 39, 40, 41, 64, 65, 66] (by decide +kernel) (by decide +kernel)
set_option maxRecDepth 20000 in
theorem gX1_flipDotsOf_X3_flip : GoodIn wsX1_flipDotsOf (wsV RX1 135 RX3 yX3_flip wsX3_flip) := goodIn_app (goodIn_of _ (by decide +kernel)) ggX1_flipDotsOf_X3_flip
theorem dX1_flipDotsOf_0 : decode cX1_flipDotsOf 0 = .ok (.iconst 0, 1) := by decide +kernel
theorem dX1_flipDotsOf_1 : decode cX1_flipDotsOf 1 = .ok (.istore_n 3, 1) := by decide +kernel
theorem dX1_flipDotsOf_2 : decode cX1_flipDotsOf 2 = .ok (.iload_n 3, 1) := by decide +kernel
theorem dX1_flipDotsOf_3 : decode cX1_flipDotsOf 3 = .ok (.aload_n 0, 1) := by decide +kernel
theorem dX1_flipDotsOf_4 : decode cX1_flipDotsOf 4 = .ok (.getfield 12, 3) := by decide +kernel
theorem dX1_flipDotsOf_7 : decode cX1_flipDotsOf 7 = .ok (.getfield 64, 3) := by decide +kernel
theorem dX1_flipDotsOf_10 : decode cX1_flipDotsOf 10 = .ok (.if_icmp .ge 41, 3) := by decide +kernel
theorem dX1_flipDotsOf_13 : decode cX1_flipDotsOf 13 = .ok (.aload_n 0, 1) := by decide +kernel
theorem dX1_flipDotsOf_14 : decode cX1_flipDotsOf 14 = .ok (.getfield 12, 3) := by decide +kernel
theorem dX1_flipDotsOf_17 : decode cX1_flipDotsOf 17 = .ok (.iload_n 3, 1) := by decide +kernel
theorem dX1_flipDotsOf_18 : decode cX1_flipDotsOf 18 = .ok (.invokevirtual 71, 3) := by decide +kernel
theorem dX1_flipDotsOf_21 : decode cX1_flipDotsOf 21 = .ok (.iload_n 1, 1) := by decide +kernel
theorem dX1_flipDotsOf_22 : decode cX1_flipDotsOf 22 = .ok (.if_icmp .ne 23, 3) := by decide +kernel
theorem dX1_flipDotsOf_25 : decode cX1_flipDotsOf 25 = .ok (.aload_n 2, 1) := by decide +kernel
theorem dX1_flipDotsOf_26 : decode cX1_flipDotsOf 26 = .ok (.aload_n 0, 1) := by decide +kernel
theorem dX1_flipDotsOf_27 : decode cX1_flipDotsOf 27 = .ok (.getfield 12, 3) := by decide +kernel
theorem dX1_flipDotsOf_30 : decode cX1_flipDotsOf 30 = .ok (.iload_n 3, 1) := by decide +kernel
theorem dX1_flipDotsOf_31 : decode cX1_flipDotsOf 31 = .ok (.invokevirtual 79, 3) := by decide +kernel
theorem dX1_flipDotsOf_34 : decode cX1_flipDotsOf 34 = .ok (.aload_n 0, 1) := by decide +kernel
theorem dX1_flipDotsOf_35 : decode cX1_flipDotsOf 35 = .ok (.getfield 12, 3) := by decide +kernel
theorem dX1_flipDotsOf_38 : decode cX1_flipDotsOf 38 = .ok (.iload_n 3, 1) := by decide +kernel
theorem dX1_flipDotsOf_39 : decode cX1_flipDotsOf 39 = .ok (.invokevirtual 132, 3) := by decide +kernel
theorem dX1_flipDotsOf_42 : decode cX1_flipDotsOf 42 = .ok (.invokevirtual 135, 3) := by decide +kernel
theorem dX1_flipDotsOf_45 : decode cX1_flipDotsOf 45 = .ok (.iinc 3 1, 3) := by decide +kernel
theorem dX1_flipDotsOf_48 : decode cX1_flipDotsOf 48 = .ok (.goto (-46), 3) := by decide +kernel
theorem dX1_flipDotsOf_51 : decode cX1_flipDotsOf 51 = .ok (.return_, 1) := by decide +kernel
set_option maxRecDepth 20000 in
theorem ggX1_measure_X4_lineOf : GoodIn wsX1_measure wsX4_lineOf := goodIn_r _ [19, 20, 83, 84, 85, 86, 87, 88, 89, 90] (by decide +kernel) (by decide +kernel)
set_option maxRecDepth 20000 in
theorem gX1_measure_X4_lineOf : GoodIn wsX1_measure (wsV RX1 79 RX4 yX4_lineOf wsX4_lineOf) := goodIn_app (goodIn_of _ (by decide +kernel)) ggX1_measure_X4_lineOf
set_option maxRecDepth 20000 in
theorem ggX1_measure_X4_start : GoodIn wsX1_measure wsX4_start := goodIn_r _ [24, 25, 83, 84, 85, 86, 87, 88, 89, 90] (by decide +kernel) (by decide +kernel)
set_option maxRecDepth 20000 in
theorem gX1_measure_X4_start : GoodIn wsX1_measure (wsV RX1 82 RX4 yX4_start wsX4_start) := goodIn_app (goodIn_of _ (by decide +kernel)) ggX1_measure_X4_start
set_option maxRecDepth 20000 in
theorem ggX1_measure_X4_end : GoodIn wsX1_measure wsX4_end := goodIn_r _ [29, 30, 83, 84, 85, 86, 87, 88, 89, 90] (by decide +kernel) (by decide +kernel)
set_option maxRecDepth 20000 in
theorem gX1_measure_X4_end : GoodIn wsX1_measure (wsV RX1 141 RX4 yX4_end wsX4_end) := goodIn_app (goodIn_of _ (by decide +kernel)) ggX1_measure_X4_end
set_option maxRecDepth 20000 in
theorem ggX1_measure_X4_groupOf : GoodIn wsX1_measure wsX4_groupOf := goodIn_r _ [34, 35, 83, 84, 85, 86, 87, 88, 89, 90] (by decide +kernel) (by decide +kernel)
set_option maxRecDepth 20000 in
theorem gX1_measure_X4_groupOf : GoodIn wsX1_measure (wsV RX1 71 RX4 yX4_groupOf wsX4_groupOf) := goodIn_app (goodIn_of _ (by decide +kernel)) ggX1_measure_X4_groupOf
set_option maxRecDepth 20000 in
theorem ggX1_measure_X1_clear : GoodIn wsX1_measure wsX1_clear := goodIn_r _ [40, 2, 3, 5, 10, 14, 69, 70, 71, 72, 73, 74, 75, 76, 77, 78, 79, 80, 81, 82] (by decide +kernel) (by decide +kernel)
set_option maxRecDepth 20000 in
theorem gX1_measure_X1_clear : GoodIn wsX1_measure (wsV RX1 144 RX1 yX1_clear wsX1_clear) := goodIn_app (goodIn_of _ (by decide +kernel)) ggX1_measure_X1_clear
set_option maxRecDepth 20000 in
theorem ggX1_measure_X4_isDark : GoodIn wsX1_measure wsX4_isDark := goodIn_r _ [44, 45, 83, 84, 85, 86, 87, 88, 89, 90] (by decide +kernel) (by decide +kernel)
set_option maxRecDepth 20000 in
theorem gX1_measure_X4_isDark : GoodIn wsX1_measure (wsV RX1 147 RX4 yX4_isDark wsX4_isDark) := goodIn_app (goodIn_of _ (by decide +kernel)) ggX1_measure_X4_isDark
set_option maxRecDepth 20000 in
theorem ggX1_measure_X4_columns : GoodIn wsX1_measure wsX4_columns := goodIn_r _ [49, 50, 27, 28, 18, 29, 30, 51, 22, 23, 24, 25, 83, 84, 85, 86, 87, 88, 89, 90] (by decide +kernel) (by decide +kernel)
set_option maxRecDepth 20000 in
theorem gX1_measure_X4_columns : GoodIn wsX1_measure (wsV RX1 132 RX4 yX4_columns wsX4_columns) := goodIn_app (goodIn_of _ (by decide +kernel)) ggX1_measure_X4_columns
set_option maxRecDepth 20000 in
theorem ggX1_measure_X3_freeSides : GoodIn wsX1_measure wsX3_freeSides := goodIn_r _ [56, 57, 58, 59, 55, 60, 61, 62, 63, 64, 65, 66, 67, 68, 91, 92, 93] (by decide +kernel) (by decide +kernel)
set_option maxRecDepth 20000 in
theorem gX1_measure_X3_freeSides : GoodIn wsX1_measure (wsV RX1 151 RX3 yX3_freeSides wsX3_freeSides) := goodIn_app (goodIn_of _ (by decide +kernel)) ggX1_measure_X3_freeSides
theorem dX1_measure_0 : decode cX1_measure 0 = .ok (.aload_n 0, 1) := by decide +kernel
theorem dX1_measure_1 : decode cX1_measure 1 = .ok (.getfield 12, 3) := by decide +kernel
theorem dX1_measure_4 : decode cX1_measure 4 = .ok (.iload_n 1, 1) := by decide +kernel
theorem dX1_measure_5 : decode cX1_measure 5 = .ok (.invokevirtual 79, 3) := by decide +kernel
theorem dX1_measure_8 : decode cX1_measure 8 = .ok (.istore_n 3, 1) := by decide +kernel
theorem dX1_measure_9 : decode cX1_measure 9 = .ok (.aload_n 0, 1) := by decide +kernel
theorem dX1_measure_10 : decode cX1_measure 10 = .ok (.getfield 12, 3) := by decide +kernel
theorem dX1_measure_13 : decode cX1_measure 13 = .ok (.iload_n 1, 1) := by decide +kernel
theorem dX1_measure_14 : decode cX1_measure 14 = .ok (.invokevirtual 82, 3) := by decide +kernel
theorem dX1_measure_17 : decode cX1_measure 17 = .ok (.istore 4, 2) := by decide +kernel
theorem dX1_measure_19 : decode cX1_measure 19 = .ok (.aload_n 0, 1) := by decide +kernel
theorem dX1_measure_20 : decode cX1_measure 20 = .ok (.getfield 12, 3) := by decide +kernel
theorem dX1_measure_23 : decode cX1_measure 23 = .ok (.iload_n 1, 1) := by decide +kernel
theorem dX1_measure_24 : decode cX1_measure 24 = .ok (.invokevirtual 141, 3) := by decide +kernel
theorem dX1_measure_27 : decode cX1_measure 27 = .ok (.istore 5, 2) := by decide +kernel
theorem dX1_measure_29 : decode cX1_measure 29 = .ok (.aload_n 0, 1) := by decide +kernel
theorem dX1_measure_30 : decode cX1_measure 30 = .ok (.getfield 12, 3) := by decide +kernel
theorem dX1_measure_33 : decode cX1_measure 33 = .ok (.iload_n 1, 1) := by decide +kernel
theorem dX1_measure_34 : decode cX1_measure 34 = .ok (.invokevirtual 71, 3) := by decide +kernel
theorem dX1_measure_37 : decode cX1_measure 37 = .ok (.sipush 255, 3) := by decide +kernel
theorem dX1_measure_40 : decode cX1_measure 40 = .ok (.iand, 1) := by decide +kernel
theorem dX1_measure_41 : decode cX1_measure 41 = .ok (.istore 6, 2) := by decide +kernel
theorem dX1_measure_43 : decode cX1_measure 43 = .ok (.iload 6, 2) := by decide +kernel
theorem dX1_measure_45 : decode cX1_measure 45 = .ok (.iload_n 1, 1) := by decide +kernel
theorem dX1_measure_46 : decode cX1_measure 46 = .ok (.if_icmp .ne 9, 3) := by decide +kernel
theorem dX1_measure_49 : decode cX1_measure 49 = .ok (.aload_n 0, 1) := by decide +kernel
theorem dX1_measure_50 : decode cX1_measure 50 = .ok (.iload 6, 2) := by decide +kernel
theorem dX1_measure_52 : decode cX1_measure 52 = .ok (.invokevirtual 144, 3) := by decide +kernel
theorem dX1_measure_55 : decode cX1_measure 55 = .ok (.aload_n 0, 1) := by decide +kernel
theorem dX1_measure_56 : decode cX1_measure 56 = .ok (.getfield 18, 3) := by decide +kernel
theorem dX1_measure_59 : decode cX1_measure 59 = .ok (.iload 6, 2) := by decide +kernel
theorem dX1_measure_61 : decode cX1_measure 61 = .ok (.dup2, 1) := by decide +kernel
theorem dX1_measure_62 : decode cX1_measure 62 = .ok (.iaload, 1) := by decide +kernel
theorem dX1_measure_63 : decode cX1_measure 63 = .ok (.iload 5, 2) := by decide +kernel
theorem dX1_measure_65 : decode cX1_measure 65 = .ok (.iload 4, 2) := by decide +kernel
theorem dX1_measure_67 : decode cX1_measure 67 = .ok (.isub, 1) := by decide +kernel
theorem dX1_measure_68 : decode cX1_measure 68 = .ok (.iconst 1, 1) := by decide +kernel
theorem dX1_measure_69 : decode cX1_measure 69 = .ok (.iadd, 1) := by decide +kernel
theorem dX1_measure_70 : decode cX1_measure 70 = .ok (.iadd, 1) := by decide +kernel
theorem dX1_measure_71 : decode cX1_measure 71 = .ok (.iastore, 1) := by decide +kernel
theorem dX1_measure_72 : decode cX1_measure 72 = .ok (.aload_n 0, 1) := by decide +kernel
theorem dX1_measure_73 : decode cX1_measure 73 = .ok (.getfield 22, 3) := by decide +kernel
theorem dX1_measure_76 : decode cX1_measure 76 = .ok (.iload 6, 2) := by decide +kernel
theorem dX1_measure_78 : decode cX1_measure 78 = .ok (.dup2, 1) := by decide +kernel
theorem dX1_measure_79 : decode cX1_measure 79 = .ok (.iaload, 1) := by decide +kernel
theorem dX1_measure_80 : decode cX1_measure 80 = .ok (.aload_n 0, 1) := by decide +kernel
theorem dX1_measure_81 : decode cX1_measure 81 = .ok (.getfield 12, 3) := by decide +kernel
theorem dX1_measure_84 : decode cX1_measure 84 = .ok (.iload_n 1, 1) := by decide +kernel
theorem dX1_measure_85 : decode cX1_measure 85 = .ok (.invokevirtual 147, 3) := by decide +kernel
theorem dX1_measure_88 : decode cX1_measure 88 = .ok (.ifCond .eq 19, 3) := by decide +kernel
theorem dX1_measure_91 : decode cX1_measure 91 = .ok (.aload_n 2, 1) := by decide +kernel
theorem dX1_measure_92 : decode cX1_measure 92 = .ok (.iload_n 3, 1) := by decide +kernel
theorem dX1_measure_93 : decode cX1_measure 93 = .ok (.aload_n 0, 1) := by decide +kernel
theorem dX1_measure_94 : decode cX1_measure 94 = .ok (.getfield 12, 3) := by decide +kernel
theorem dX1_measure_97 : decode cX1_measure 97 = .ok (.iload_n 1, 1) := by decide +kernel
theorem dX1_measure_98 : decode cX1_measure 98 = .ok (.invokevirtual 132, 3) := by decide +kernel
theorem dX1_measure_101 : decode cX1_measure 101 = .ok (.invokevirtual 151, 3) := by decide +kernel
theorem dX1_measure_104 : decode cX1_measure 104 = .ok (.goto 4, 3) := by decide +kernel
theorem dX1_measure_107 : decode cX1_measure 107 = .ok (.iconst 0, 1) := by decide +kernel
theorem dX1_measure_108 : decode cX1_measure 108 = .ok (.iadd, 1) := by decide +kernel
theorem dX1_measure_109 : decode cX1_measure 109 = .ok (.iastore, 1) := by decide +kernel
theorem dX1_measure_110 : decode cX1_measure 110 = .ok (.aload_n 0, 1) := by decide +kernel
theorem dX1_measure_111 : decode cX1_measure 111 = .ok (.getfield 25, 3) := by decide +kernel
theorem dX1_measure_114 : decode cX1_measure 114 = .ok (.iload 6, 2) := by decide +kernel
theorem dX1_measure_116 : decode cX1_measure 116 = .ok (.iload_n 3, 1) := by decide +kernel
theorem dX1_measure_117 : decode cX1_measure 117 = .ok (.iastore, 1) := by decide +kernel
theorem dX1_measure_118 : decode cX1_measure 118 = .ok (.aload_n 0, 1) := by decide +kernel
theorem dX1_measure_119 : decode cX1_measure 119 = .ok (.getfield 28, 3) := by decide +kernel
theorem dX1_measure_122 : decode cX1_measure 122 = .ok (.iload 6, 2) := by decide +kernel
theorem dX1_measure_124 : decode cX1_measure 124 = .ok (.aload_n 0, 1) := by decide +kernel
theorem dX1_measure_125 : decode cX1_measure 125 = .ok (.getfield 28, 3) := by decide +kernel
theorem dX1_measure_128 : decode cX1_measure 128 = .ok (.iload 6, 2) := by decide +kernel
theorem dX1_measure_130 : decode cX1_measure 130 = .ok (.iaload, 1) := by decide +kernel
theorem dX1_measure_131 : decode cX1_measure 131 = .ok (.iload 4, 2) := by decide +kernel
theorem dX1_measure_133 : decode cX1_measure 133 = .ok (.invokestatic 154, 3) := by decide +kernel
theorem dX1_measure_136 : decode cX1_measure 136 = .ok (.iastore, 1) := by decide +kernel
theorem dX1_measure_137 : decode cX1_measure 137 = .ok (.aload_n 0, 1) := by decide +kernel
theorem dX1_measure_138 : decode cX1_measure 138 = .ok (.getfield 31, 3) := by decide +kernel
theorem dX1_measure_141 : decode cX1_measure 141 = .ok (.iload 6, 2) := by decide +kernel
theorem dX1_measure_143 : decode cX1_measure 143 = .ok (.aload_n 0, 1) := by decide +kernel
theorem dX1_measure_144 : decode cX1_measure 144 = .ok (.getfield 31, 3) := by decide +kernel
theorem dX1_measure_147 : decode cX1_measure 147 = .ok (.iload 6, 2) := by decide +kernel
theorem dX1_measure_149 : decode cX1_measure 149 = .ok (.iaload, 1) := by decide +kernel
theorem dX1_measure_150 : decode cX1_measure 150 = .ok (.iload 5, 2) := by decide +kernel
theorem dX1_measure_152 : decode cX1_measure 152 = .ok (.invokestatic 114, 3) := by decide +kernel
theorem dX1_measure_155 : decode cX1_measure 155 = .ok (.iastore, 1) := by decide +kernel
theorem dX1_measure_156 : decode cX1_measure 156 = .ok (.aload_n 0, 1) := by decide +kernel
theorem dX1_measure_157 : decode cX1_measure 157 = .ok (.getfield 34, 3) := by decide +kernel
theorem dX1_measure_160 : decode cX1_measure 160 = .ok (.iload 6, 2) := by decide +kernel
theorem dX1_measure_162 : decode cX1_measure 162 = .ok (.aload_n 0, 1) := by decide +kernel
theorem dX1_measure_163 : decode cX1_measure 163 = .ok (.getfield 34, 3) := by decide +kernel
theorem dX1_measure_166 : decode cX1_measure 166 = .ok (.iload 6, 2) := by decide +kernel
theorem dX1_measure_168 : decode cX1_measure 168 = .ok (.baload, 1) := by decide +kernel
theorem dX1_measure_169 : decode cX1_measure 169 = .ok (.ifCond .ne 25, 3) := by decide +kernel
theorem dX1_measure_172 : decode cX1_measure 172 = .ok (.iload_n 3, 1) := by decide +kernel
theorem dX1_measure_173 : decode cX1_measure 173 = .ok (.ifCond .eq 21, 3) := by decide +kernel
theorem dX1_measure_176 : decode cX1_measure 176 = .ok (.iload_n 3, 1) := by decide +kernel
theorem dX1_measure_177 : decode cX1_measure 177 = .ok (.bipush 15, 2) := by decide +kernel
theorem dX1_measure_179 : decode cX1_measure 179 = .ok (.if_icmp .eq 15, 3) := by decide +kernel
theorem dX1_measure_182 : decode cX1_measure 182 = .ok (.iload 4, 2) := by decide +kernel
theorem dX1_measure_184 : decode cX1_measure 184 = .ok (.ifCond .eq 10, 3) := by decide +kernel
theorem dX1_measure_187 : decode cX1_measure 187 = .ok (.iload 5, 2) := by decide +kernel
theorem dX1_measure_189 : decode cX1_measure 189 = .ok (.bipush 15, 2) := by decide +kernel
theorem dX1_measure_191 : decode cX1_measure 191 = .ok (.if_icmp .ne 7, 3) := by decide +kernel
theorem dX1_measure_194 : decode cX1_measure 194 = .ok (.iconst 1, 1) := by decide +kernel
theorem dX1_measure_195 : decode cX1_measure 195 = .ok (.goto 4, 3) := by decide +kernel
theorem dX1_measure_198 : decode cX1_measure 198 = .ok (.iconst 0, 1) := by decide +kernel
theorem dX1_measure_199 : decode cX1_measure 199 = .ok (.bastore, 1) := by decide +kernel
theorem dX1_measure_200 : decode cX1_measure 200 = .ok (.return_, 1) := by decide +kernel
theorem dX1_clear_0 : decode cX1_clear 0 = .ok (.iload_n 1, 1) := by decide +kernel
theorem dX1_clear_1 : decode cX1_clear 1 = .ok (.sipush 255, 3) := by decide +kernel
theorem dX1_clear_4 : decode cX1_clear 4 = .ok (.iand, 1) := by decide +kernel
theorem dX1_clear_5 : decode cX1_clear 5 = .ok (.istore_n 2, 1) := by decide +kernel
theorem dX1_clear_6 : decode cX1_clear 6 = .ok (.aload_n 0, 1) := by decide +kernel
theorem dX1_clear_7 : decode cX1_clear 7 = .ok (.getfield 18, 3) := by decide +kernel
theorem dX1_clear_10 : decode cX1_clear 10 = .ok (.iload_n 2, 1) := by decide +kernel
theorem dX1_clear_11 : decode cX1_clear 11 = .ok (.iconst 0, 1) := by decide +kernel
theorem dX1_clear_12 : decode cX1_clear 12 = .ok (.iastore, 1) := by decide +kernel
theorem dX1_clear_13 : decode cX1_clear 13 = .ok (.aload_n 0, 1) := by decide +kernel
theorem dX1_clear_14 : decode cX1_clear 14 = .ok (.getfield 22, 3) := by decide +kernel
theorem dX1_clear_17 : decode cX1_clear 17 = .ok (.iload_n 2, 1) := by decide +kernel
theorem dX1_clear_18 : decode cX1_clear 18 = .ok (.iconst 0, 1) := by decide +kernel
theorem dX1_clear_19 : decode cX1_clear 19 = .ok (.iastore, 1) := by decide +kernel
theorem dX1_clear_20 : decode cX1_clear 20 = .ok (.aload_n 0, 1) := by decide +kernel
theorem dX1_clear_21 : decode cX1_clear 21 = .ok (.getfield 28, 3) := by decide +kernel
theorem dX1_clear_24 : decode cX1_clear 24 = .ok (.iload_n 2, 1) := by decide +kernel
theorem dX1_clear_25 : decode cX1_clear 25 = .ok (.bipush 15, 2) := by decide +kernel
theorem dX1_clear_27 : decode cX1_clear 27 = .ok (.iastore, 1) := by decide +kernel
theorem dX1_clear_28 : decode cX1_clear 28 = .ok (.aload_n 0, 1) := by decide +kernel
theorem dX1_clear_29 : decode cX1_clear 29 = .ok (.getfield 31, 3) := by decide +kernel
theorem dX1_clear_32 : decode cX1_clear 32 = .ok (.iload_n 2, 1) := by decide +kernel
theorem dX1_clear_33 : decode cX1_clear 33 = .ok (.iconst 0, 1) := by decide +kernel
theorem dX1_clear_34 : decode cX1_clear 34 = .ok (.iastore, 1) := by decide +kernel
theorem dX1_clear_35 : decode cX1_clear 35 = .ok (.aload_n 0, 1) := by decide +kernel
theorem dX1_clear_36 : decode cX1_clear 36 = .ok (.getfield 34, 3) := by decide +kernel
theorem dX1_clear_39 : decode cX1_clear 39 = .ok (.iload_n 2, 1) := by decide +kernel
theorem dX1_clear_40 : decode cX1_clear 40 = .ok (.iconst 0, 1) := by decide +kernel
theorem dX1_clear_41 : decode cX1_clear 41 = .ok (.bastore, 1) := by decide +kernel
theorem dX1_clear_42 : decode cX1_clear 42 = .ok (.return_, 1) := by decide +kernel
set_option maxRecDepth 20000 in
theorem ggX1_giveNumber_X4_isDark : GoodIn wsX1_giveNumber wsX4_isDark := goodIn_r _ [13, 14, 29, 30, 31, 32, 33, 34, 35, 36] (by decide +kernel) (by decide +kernel)
set_option maxRecDepth 20000 in
theorem gX1_giveNumber_X4_isDark : GoodIn wsX1_giveNumber (wsV RX1 147 RX4 yX4_isDark wsX4_isDark) := goodIn_app (goodIn_of _ (by decide +kernel)) ggX1_giveNumber_X4_isDark
theorem dX1_giveNumber_0 : decode cX1_giveNumber 0 = .ok (.iload_n 1, 1) := by decide +kernel
theorem dX1_giveNumber_1 : decode cX1_giveNumber 1 = .ok (.sipush 255, 3) := by decide +kernel
theorem dX1_giveNumber_4 : decode cX1_giveNumber 4 = .ok (.iand, 1) := by decide +kernel
theorem dX1_giveNumber_5 : decode cX1_giveNumber 5 = .ok (.istore_n 2, 1) := by decide +kernel
theorem dX1_giveNumber_6 : decode cX1_giveNumber 6 = .ok (.aload_n 0, 1) := by decide +kernel
theorem dX1_giveNumber_7 : decode cX1_giveNumber 7 = .ok (.getfield 38, 3) := by decide +kernel
theorem dX1_giveNumber_10 : decode cX1_giveNumber 10 = .ok (.iload_n 2, 1) := by decide +kernel
theorem dX1_giveNumber_11 : decode cX1_giveNumber 11 = .ok (.iconst (-1), 1) := by decide +kernel
theorem dX1_giveNumber_12 : decode cX1_giveNumber 12 = .ok (.iastore, 1) := by decide +kernel
theorem dX1_giveNumber_13 : decode cX1_giveNumber 13 = .ok (.aload_n 0, 1) := by decide +kernel
theorem dX1_giveNumber_14 : decode cX1_giveNumber 14 = .ok (.getfield 12, 3) := by decide +kernel
theorem dX1_giveNumber_17 : decode cX1_giveNumber 17 = .ok (.iload_n 2, 1) := by decide +kernel
theorem dX1_giveNumber_18 : decode cX1_giveNumber 18 = .ok (.invokevirtual 147, 3) := by decide +kernel
theorem dX1_giveNumber_21 : decode cX1_giveNumber 21 = .ok (.ifCond .eq 38, 3) := by decide +kernel
theorem dX1_giveNumber_24 : decode cX1_giveNumber 24 = .ok (.aload_n 0, 1) := by decide +kernel
theorem dX1_giveNumber_25 : decode cX1_giveNumber 25 = .ok (.getfield 38, 3) := by decide +kernel
theorem dX1_giveNumber_28 : decode cX1_giveNumber 28 = .ok (.iload_n 2, 1) := by decide +kernel
theorem dX1_giveNumber_29 : decode cX1_giveNumber 29 = .ok (.aload_n 0, 1) := by decide +kernel
theorem dX1_giveNumber_30 : decode cX1_giveNumber 30 = .ok (.getfield 50, 3) := by decide +kernel
theorem dX1_giveNumber_33 : decode cX1_giveNumber 33 = .ok (.iastore, 1) := by decide +kernel
theorem dX1_giveNumber_34 : decode cX1_giveNumber 34 = .ok (.aload_n 0, 1) := by decide +kernel
theorem dX1_giveNumber_35 : decode cX1_giveNumber 35 = .ok (.getfield 41, 3) := by decide +kernel
theorem dX1_giveNumber_38 : decode cX1_giveNumber 38 = .ok (.aload_n 0, 1) := by decide +kernel
theorem dX1_giveNumber_39 : decode cX1_giveNumber 39 = .ok (.getfield 50, 3) := by decide +kernel
theorem dX1_giveNumber_42 : decode cX1_giveNumber 42 = .ok (.sipush 255, 3) := by decide +kernel
theorem dX1_giveNumber_45 : decode cX1_giveNumber 45 = .ok (.iand, 1) := by decide +kernel
theorem dX1_giveNumber_46 : decode cX1_giveNumber 46 = .ok (.iload_n 2, 1) := by decide +kernel
theorem dX1_giveNumber_47 : decode cX1_giveNumber 47 = .ok (.iastore, 1) := by decide +kernel
theorem dX1_giveNumber_48 : decode cX1_giveNumber 48 = .ok (.aload_n 0, 1) := by decide +kernel
theorem dX1_giveNumber_49 : decode cX1_giveNumber 49 = .ok (.dup, 1) := by decide +kernel
theorem dX1_giveNumber_50 : decode cX1_giveNumber 50 = .ok (.getfield 50, 3) := by decide +kernel
theorem dX1_giveNumber_53 : decode cX1_giveNumber 53 = .ok (.iconst 1, 1) := by decide +kernel
theorem dX1_giveNumber_54 : decode cX1_giveNumber 54 = .ok (.iadd, 1) := by decide +kernel
theorem dX1_giveNumber_55 : decode cX1_giveNumber 55 = .ok (.putfield 50, 3) := by decide +kernel
theorem dX1_giveNumber_58 : decode cX1_giveNumber 58 = .ok (.return_, 1) := by decide +kernel
theorem dX1_giveNumber_59 : decode cX1_giveNumber 59 = .ok (.aload_n 0, 1) := by decide +kernel
theorem dX1_giveNumber_60 : decode cX1_giveNumber 60 = .ok (.dup, 1) := by decide +kernel
theorem dX1_giveNumber_61 : decode cX1_giveNumber 61 = .ok (.getfield 57, 3) := by decide +kernel
theorem dX1_giveNumber_64 : decode cX1_giveNumber 64 = .ok (.iconst 1, 1) := by decide +kernel
theorem dX1_giveNumber_65 : decode cX1_giveNumber 65 = .ok (.iadd, 1) := by decide +kernel
theorem dX1_giveNumber_66 : decode cX1_giveNumber 66 = .ok (.putfield 57, 3) := by decide +kernel
theorem dX1_giveNumber_69 : decode cX1_giveNumber 69 = .ok (.aload_n 0, 1) := by decide +kernel
theorem dX1_giveNumber_70 : decode cX1_giveNumber 70 = .ok (.getfield 34, 3) := by decide +kernel
theorem dX1_giveNumber_73 : decode cX1_giveNumber 73 = .ok (.iload_n 2, 1) := by decide +kernel
theorem dX1_giveNumber_74 : decode cX1_giveNumber 74 = .ok (.baload, 1) := by decide +kernel
theorem dX1_giveNumber_75 : decode cX1_giveNumber 75 = .ok (.ifCond .ne 37, 3) := by decide +kernel
theorem dX1_giveNumber_78 : decode cX1_giveNumber 78 = .ok (.aload_n 0, 1) := by decide +kernel
theorem dX1_giveNumber_79 : decode cX1_giveNumber 79 = .ok (.getfield 38, 3) := by decide +kernel
theorem dX1_giveNumber_82 : decode cX1_giveNumber 82 = .ok (.iload_n 2, 1) := by decide +kernel
theorem dX1_giveNumber_83 : decode cX1_giveNumber 83 = .ok (.aload_n 0, 1) := by decide +kernel
theorem dX1_giveNumber_84 : decode cX1_giveNumber 84 = .ok (.getfield 54, 3) := by decide +kernel
theorem dX1_giveNumber_87 : decode cX1_giveNumber 87 = .ok (.iastore, 1) := by decide +kernel
theorem dX1_giveNumber_88 : decode cX1_giveNumber 88 = .ok (.aload_n 0, 1) := by decide +kernel
theorem dX1_giveNumber_89 : decode cX1_giveNumber 89 = .ok (.getfield 44, 3) := by decide +kernel
theorem dX1_giveNumber_92 : decode cX1_giveNumber 92 = .ok (.aload_n 0, 1) := by decide +kernel
theorem dX1_giveNumber_93 : decode cX1_giveNumber 93 = .ok (.getfield 54, 3) := by decide +kernel
theorem dX1_giveNumber_96 : decode cX1_giveNumber 96 = .ok (.sipush 255, 3) := by decide +kernel
theorem dX1_giveNumber_99 : decode cX1_giveNumber 99 = .ok (.iand, 1) := by decide +kernel
theorem dX1_giveNumber_100 : decode cX1_giveNumber 100 = .ok (.iload_n 2, 1) := by decide +kernel
theorem dX1_giveNumber_101 : decode cX1_giveNumber 101 = .ok (.iastore, 1) := by decide +kernel
theorem dX1_giveNumber_102 : decode cX1_giveNumber 102 = .ok (.aload_n 0, 1) := by decide +kernel
theorem dX1_giveNumber_103 : decode cX1_giveNumber 103 = .ok (.dup, 1) := by decide +kernel
theorem dX1_giveNumber_104 : decode cX1_giveNumber 104 = .ok (.getfield 54, 3) := by decide +kernel
theorem dX1_giveNumber_107 : decode cX1_giveNumber 107 = .ok (.iconst 1, 1) := by decide +kernel
theorem dX1_giveNumber_108 : decode cX1_giveNumber 108 = .ok (.iadd, 1) := by decide +kernel
theorem dX1_giveNumber_109 : decode cX1_giveNumber 109 = .ok (.putfield 54, 3) := by decide +kernel
theorem dX1_giveNumber_112 : decode cX1_giveNumber 112 = .ok (.return_, 1) := by decide +kernel
set_option maxRecDepth 20000 in
theorem ggX1_numberAt_X5_isLine : GoodIn wsX1_numberAt wsX5_isLine := goodIn_r _ [5] (by decide +kernel) (by decide +kernel)
set_option maxRecDepth 20000 in
theorem gX1_numberAt_X5_isLine_n157 : GoodIn wsX1_numberAt (wsX5_isLine) := ggX1_numberAt_X5_isLine
set_option maxRecDepth 20000 in
theorem ggX1_numberAt_X4_runAt : GoodIn wsX1_numberAt wsX4_runAt := goodIn_r _ [10, 11, 12, 13, 14, 15, 16, 17, 18, 19, 44, 45, 46, 47, 48, 49, 50, 51] (by decide +kernel) (by decide +kernel)
set_option maxRecDepth 20000 in
theorem gX1_numberAt_X4_runAt : GoodIn wsX1_numberAt (wsV RX1 160 RX4 yX4_runAt wsX4_runAt) := goodIn_app (goodIn_of _ (by decide +kernel)) ggX1_numberAt_X4_runAt
set_option maxRecDepth 20000 in
theorem ggX1_numberAt_X4_isDark : GoodIn wsX1_numberAt wsX4_isDark := goodIn_r _ [23, 24, 44, 45, 46, 47, 48, 49, 50, 51] (by decide +kernel) (by decide +kernel)
set_option maxRecDepth 20000 in
theorem gX1_numberAt_X4_isDark : GoodIn wsX1_numberAt (wsV RX1 147 RX4 yX4_isDark wsX4_isDark) := goodIn_app (goodIn_of _ (by decide +kernel)) ggX1_numberAt_X4_isDark
set_option maxRecDepth 20000 in
theorem ggX1_numberAt_X4_groupOf : GoodIn wsX1_numberAt wsX4_groupOf := goodIn_r _ [28, 29, 44, 45, 46, 47, 48, 49, 50, 51] (by decide +kernel) (by decide +kernel)
set_option maxRecDepth 20000 in
theorem gX1_numberAt_X4_groupOf : GoodIn wsX1_numberAt (wsV RX1 71 RX4 yX4_groupOf wsX4_groupOf) := goodIn_app (goodIn_of _ (by decide +kernel)) ggX1_numberAt_X4_groupOf
theorem dX1_numberAt_0 : decode cX1_numberAt 0 = .ok (.iload_n 1, 1) := by decide +kernel
theorem dX1_numberAt_1 : decode cX1_numberAt 1 = .ok (.invokestatic 157, 3) := by decide +kernel
theorem dX1_numberAt_4 : decode cX1_numberAt 4 = .ok (.ifCond .eq 10, 3) := by decide +kernel
theorem dX1_numberAt_7 : decode cX1_numberAt 7 = .ok (.iload_n 2, 1) := by decide +kernel
theorem dX1_numberAt_8 : decode cX1_numberAt 8 = .ok (.invokestatic 157, 3) := by decide +kernel
theorem dX1_numberAt_11 : decode cX1_numberAt 11 = .ok (.ifCond .ne 5, 3) := by decide +kernel
theorem dX1_numberAt_14 : decode cX1_numberAt 14 = .ok (.iconst (-1), 1) := by decide +kernel
theorem dX1_numberAt_15 : decode cX1_numberAt 15 = .ok (.ireturn, 1) := by decide +kernel
theorem dX1_numberAt_16 : decode cX1_numberAt 16 = .ok (.aload_n 0, 1) := by decide +kernel
theorem dX1_numberAt_17 : decode cX1_numberAt 17 = .ok (.getfield 12, 3) := by decide +kernel
theorem dX1_numberAt_20 : decode cX1_numberAt 20 = .ok (.iload_n 1, 1) := by decide +kernel
theorem dX1_numberAt_21 : decode cX1_numberAt 21 = .ok (.iload_n 2, 1) := by decide +kernel
theorem dX1_numberAt_22 : decode cX1_numberAt 22 = .ok (.invokevirtual 160, 3) := by decide +kernel
theorem dX1_numberAt_25 : decode cX1_numberAt 25 = .ok (.istore 4, 2) := by decide +kernel
theorem dX1_numberAt_27 : decode cX1_numberAt 27 = .ok (.aload_n 0, 1) := by decide +kernel
theorem dX1_numberAt_28 : decode cX1_numberAt 28 = .ok (.getfield 12, 3) := by decide +kernel
theorem dX1_numberAt_31 : decode cX1_numberAt 31 = .ok (.iload 4, 2) := by decide +kernel
theorem dX1_numberAt_33 : decode cX1_numberAt 33 = .ok (.invokevirtual 147, 3) := by decide +kernel
theorem dX1_numberAt_36 : decode cX1_numberAt 36 = .ok (.iload_n 3, 1) := by decide +kernel
theorem dX1_numberAt_37 : decode cX1_numberAt 37 = .ok (.if_icmp .ne 24, 3) := by decide +kernel
theorem dX1_numberAt_40 : decode cX1_numberAt 40 = .ok (.aload_n 0, 1) := by decide +kernel
theorem dX1_numberAt_41 : decode cX1_numberAt 41 = .ok (.getfield 38, 3) := by decide +kernel
theorem dX1_numberAt_44 : decode cX1_numberAt 44 = .ok (.aload_n 0, 1) := by decide +kernel
theorem dX1_numberAt_45 : decode cX1_numberAt 45 = .ok (.getfield 12, 3) := by decide +kernel
theorem dX1_numberAt_48 : decode cX1_numberAt 48 = .ok (.iload 4, 2) := by decide +kernel
theorem dX1_numberAt_50 : decode cX1_numberAt 50 = .ok (.invokevirtual 71, 3) := by decide +kernel
theorem dX1_numberAt_53 : decode cX1_numberAt 53 = .ok (.sipush 255, 3) := by decide +kernel
theorem dX1_numberAt_56 : decode cX1_numberAt 56 = .ok (.iand, 1) := by decide +kernel
theorem dX1_numberAt_57 : decode cX1_numberAt 57 = .ok (.iaload, 1) := by decide +kernel
theorem dX1_numberAt_58 : decode cX1_numberAt 58 = .ok (.goto 4, 3) := by decide +kernel
theorem dX1_numberAt_61 : decode cX1_numberAt 61 = .ok (.iconst (-1), 1) := by decide +kernel
theorem dX1_numberAt_62 : decode cX1_numberAt 62 = .ok (.ireturn, 1) := by decide +kernel
theorem dX1_isTouched_0 : decode cX1_isTouched 0 = .ok (.iconst 0, 1) := by decide +kernel
theorem dX1_isTouched_1 : decode cX1_isTouched 1 = .ok (.istore_n 3, 1) := by decide +kernel
theorem dX1_isTouched_2 : decode cX1_isTouched 2 = .ok (.iload_n 3, 1) := by decide +kernel
theorem dX1_isTouched_3 : decode cX1_isTouched 3 = .ok (.iload_n 2, 1) := by decide +kernel
theorem dX1_isTouched_4 : decode cX1_isTouched 4 = .ok (.if_icmp .ge 30, 3) := by decide +kernel
theorem dX1_isTouched_7 : decode cX1_isTouched 7 = .ok (.iload_n 3, 1) := by decide +kernel
theorem dX1_isTouched_8 : decode cX1_isTouched 8 = .ok (.aload_n 0, 1) := by decide +kernel
theorem dX1_isTouched_9 : decode cX1_isTouched 9 = .ok (.getfield 47, 3) := by decide +kernel
theorem dX1_isTouched_12 : decode cX1_isTouched 12 = .ok (.arraylength, 1) := by decide +kernel
theorem dX1_isTouched_13 : decode cX1_isTouched 13 = .ok (.if_icmp .ge 21, 3) := by decide +kernel
theorem dX1_isTouched_16 : decode cX1_isTouched 16 = .ok (.aload_n 0, 1) := by decide +kernel
theorem dX1_isTouched_17 : decode cX1_isTouched 17 = .ok (.getfield 47, 3) := by decide +kernel
theorem dX1_isTouched_20 : decode cX1_isTouched 20 = .ok (.iload_n 3, 1) := by decide +kernel
theorem dX1_isTouched_21 : decode cX1_isTouched 21 = .ok (.iaload, 1) := by decide +kernel
theorem dX1_isTouched_22 : decode cX1_isTouched 22 = .ok (.iload_n 1, 1) := by decide +kernel
theorem dX1_isTouched_23 : decode cX1_isTouched 23 = .ok (.if_icmp .ne 5, 3) := by decide +kernel
theorem dX1_isTouched_26 : decode cX1_isTouched 26 = .ok (.iconst 1, 1) := by decide +kernel
theorem dX1_isTouched_27 : decode cX1_isTouched 27 = .ok (.ireturn, 1) := by decide +kernel
theorem dX1_isTouched_28 : decode cX1_isTouched 28 = .ok (.iinc 3 1, 3) := by decide +kernel
theorem dX1_isTouched_31 : decode cX1_isTouched 31 = .ok (.goto (-29), 3) := by decide +kernel
theorem dX1_isTouched_34 : decode cX1_isTouched 34 = .ok (.iconst 0, 1) := by decide +kernel
theorem dX1_isTouched_35 : decode cX1_isTouched 35 = .ok (.ireturn, 1) := by decide +kernel
set_option maxRecDepth 20000 in
theorem ggX1_nextOfGroup_X4_groupOf : GoodIn wsX1_nextOfGroup wsX4_groupOf := goodIn_r _ [6, 7, 22, 23, 24, 25, 26, 27, 28, 29] (by decide +kernel) (by decide +kernel)
set_option maxRecDepth 20000 in
theorem gX1_nextOfGroup_X4_groupOf : GoodIn wsX1_nextOfGroup (wsV RX1 71 RX4 yX4_groupOf wsX4_groupOf) := goodIn_app (goodIn_of _ (by decide +kernel)) ggX1_nextOfGroup_X4_groupOf
theorem dX1_nextOfGroup_0 : decode cX1_nextOfGroup 0 = .ok (.iload_n 1, 1) := by decide +kernel
theorem dX1_nextOfGroup_1 : decode cX1_nextOfGroup 1 = .ok (.iconst 1, 1) := by decide +kernel
theorem dX1_nextOfGroup_2 : decode cX1_nextOfGroup 2 = .ok (.iadd, 1) := by decide +kernel
theorem dX1_nextOfGroup_3 : decode cX1_nextOfGroup 3 = .ok (.istore_n 3, 1) := by decide +kernel
theorem dX1_nextOfGroup_4 : decode cX1_nextOfGroup 4 = .ok (.iload_n 3, 1) := by decide +kernel
theorem dX1_nextOfGroup_5 : decode cX1_nextOfGroup 5 = .ok (.aload_n 0, 1) := by decide +kernel
theorem dX1_nextOfGroup_6 : decode cX1_nextOfGroup 6 = .ok (.getfield 12, 3) := by decide +kernel
theorem dX1_nextOfGroup_9 : decode cX1_nextOfGroup 9 = .ok (.getfield 64, 3) := by decide +kernel
theorem dX1_nextOfGroup_12 : decode cX1_nextOfGroup 12 = .ok (.if_icmp .ge 21, 3) := by decide +kernel
theorem dX1_nextOfGroup_15 : decode cX1_nextOfGroup 15 = .ok (.aload_n 0, 1) := by decide +kernel
theorem dX1_nextOfGroup_16 : decode cX1_nextOfGroup 16 = .ok (.getfield 12, 3) := by decide +kernel
theorem dX1_nextOfGroup_19 : decode cX1_nextOfGroup 19 = .ok (.iload_n 3, 1) := by decide +kernel
theorem dX1_nextOfGroup_20 : decode cX1_nextOfGroup 20 = .ok (.invokevirtual 71, 3) := by decide +kernel
theorem dX1_nextOfGroup_23 : decode cX1_nextOfGroup 23 = .ok (.iload_n 2, 1) := by decide +kernel
theorem dX1_nextOfGroup_24 : decode cX1_nextOfGroup 24 = .ok (.if_icmp .eq 9, 3) := by decide +kernel
theorem dX1_nextOfGroup_27 : decode cX1_nextOfGroup 27 = .ok (.iinc 3 1, 3) := by decide +kernel
theorem dX1_nextOfGroup_30 : decode cX1_nextOfGroup 30 = .ok (.goto (-26), 3) := by decide +kernel
theorem dX1_nextOfGroup_33 : decode cX1_nextOfGroup 33 = .ok (.iload_n 3, 1) := by decide +kernel
theorem dX1_nextOfGroup_34 : decode cX1_nextOfGroup 34 = .ok (.ireturn, 1) := by decide +kernel
theorem dX2_init_0 : decode cX2_init 0 = .ok (.aload_n 0, 1) := by decide +kernel
theorem dX2_init_1 : decode cX2_init 1 = .ok (.invokespecial 3, 3) := by decide +kernel
theorem dX2_init_4 : decode cX2_init 4 = .ok (.aload_n 0, 1) := by decide +kernel
theorem dX2_init_5 : decode cX2_init 5 = .ok (.sipush 510, 3) := by decide +kernel
theorem dX2_init_8 : decode cX2_init 8 = .ok (.newarray .int, 2) := by decide +kernel
theorem dX2_init_10 : decode cX2_init 10 = .ok (.putfield 9, 3) := by decide +kernel
theorem dX2_init_13 : decode cX2_init 13 = .ok (.aload_n 0, 1) := by decide +kernel
theorem dX2_init_14 : decode cX2_init 14 = .ok (.iconst 0, 1) := by decide +kernel
theorem dX2_init_15 : decode cX2_init 15 = .ok (.putfield 15, 3) := by decide +kernel
theorem dX2_init_18 : decode cX2_init 18 = .ok (.aload_n 0, 1) := by decide +kernel
theorem dX2_init_19 : decode cX2_init 19 = .ok (.iconst 0, 1) := by decide +kernel
theorem dX2_init_20 : decode cX2_init 20 = .ok (.putfield 19, 3) := by decide +kernel
theorem dX2_init_23 : decode cX2_init 23 = .ok (.return_, 1) := by decide +kernel
set_option maxRecDepth 20000 in
theorem ggX2_push_X3_layBy : GoodIn wsX2_push wsX3_layBy := goodIn_r _ [12, 13, 14, 15, 16, 17, 18, 22, 23, 24] (by decide +kernel) (by decide +kernel)
set_option maxRecDepth 20000 in
theorem gX2_push_X3_layBy : GoodIn wsX2_push (wsV RX2 22 RX3 yX3_layBy wsX3_layBy) := goodIn_app (goodIn_of _ (by decide +kernel)) ggX2_push_X3_layBy
theorem dX2_push_0 : decode cX2_push 0 = .ok (.aload_n 1, 1) := by decide +kernel
theorem dX2_push_1 : decode cX2_push 1 = .ok (.aload_n 0, 1) := by decide +kernel
theorem dX2_push_2 : decode cX2_push 2 = .ok (.getfield 9, 3) := by decide +kernel
theorem dX2_push_5 : decode cX2_push 5 = .ok (.aload_n 0, 1) := by decide +kernel
theorem dX2_push_6 : decode cX2_push 6 = .ok (.getfield 15, 3) := by decide +kernel
theorem dX2_push_9 : decode cX2_push 9 = .ok (.bipush 17, 2) := by decide +kernel
theorem dX2_push_11 : decode cX2_push 11 = .ok (.imul, 1) := by decide +kernel
theorem dX2_push_12 : decode cX2_push 12 = .ok (.invokevirtual 22, 3) := by decide +kernel
theorem dX2_push_15 : decode cX2_push 15 = .ok (.aload_n 0, 1) := by decide +kernel
theorem dX2_push_16 : decode cX2_push 16 = .ok (.aload_n 0, 1) := by decide +kernel
theorem dX2_push_17 : decode cX2_push 17 = .ok (.getfield 15, 3) := by decide +kernel
theorem dX2_push_20 : decode cX2_push 20 = .ok (.iconst 1, 1) := by decide +kernel
theorem dX2_push_21 : decode cX2_push 21 = .ok (.iadd, 1) := by decide +kernel
theorem dX2_push_22 : decode cX2_push 22 = .ok (.bipush 30, 2) := by decide +kernel
theorem dX2_push_24 : decode cX2_push 24 = .ok (.irem, 1) := by decide +kernel
theorem dX2_push_25 : decode cX2_push 25 = .ok (.putfield 15, 3) := by decide +kernel
theorem dX2_push_28 : decode cX2_push 28 = .ok (.aload_n 0, 1) := by decide +kernel
theorem dX2_push_29 : decode cX2_push 29 = .ok (.aload_n 0, 1) := by decide +kernel
theorem dX2_push_30 : decode cX2_push 30 = .ok (.getfield 19, 3) := by decide +kernel
theorem dX2_push_33 : decode cX2_push 33 = .ok (.iconst 1, 1) := by decide +kernel
theorem dX2_push_34 : decode cX2_push 34 = .ok (.iadd, 1) := by decide +kernel
theorem dX2_push_35 : decode cX2_push 35 = .ok (.bipush 30, 2) := by decide +kernel
theorem dX2_push_37 : decode cX2_push 37 = .ok (.invokestatic 28, 3) := by decide +kernel
theorem dX2_push_40 : decode cX2_push 40 = .ok (.putfield 19, 3) := by decide +kernel
theorem dX2_push_43 : decode cX2_push 43 = .ok (.return_, 1) := by decide +kernel
set_option maxRecDepth 20000 in
theorem ggX2_goBackBy_J9_floorMod_7cf53 : GoodIn wsX2_goBackBy wsJ9_floorMod_7cf53 := goodIn_r _ [7] (by decide +kernel) (by decide +kernel)
set_option maxRecDepth 20000 in
theorem gX2_goBackBy_J9_floorMod_7cf53 : GoodIn wsX2_goBackBy (va_wsS RX2 34 yJ9_floorMod_7cf53 wsJ9_floorMod_7cf53) := goodIn_app (goodIn_of _ (by decide +kernel)) ggX2_goBackBy_J9_floorMod_7cf53
set_option maxRecDepth 20000 in
theorem ggX2_goBackBy_X3_takeUp : GoodIn wsX2_goBackBy wsX3_takeUp := goodIn_r _ [12, 13, 14, 15, 16, 17, 18, 22, 23, 24] (by decide +kernel) (by decide +kernel)
set_option maxRecDepth 20000 in
theorem gX2_goBackBy_X3_takeUp : GoodIn wsX2_goBackBy (wsV RX2 37 RX3 yX3_takeUp wsX3_takeUp) := goodIn_app (goodIn_of _ (by decide +kernel)) ggX2_goBackBy_X3_takeUp
theorem dX2_goBackBy_0 : decode cX2_goBackBy 0 = .ok (.aload_n 0, 1) := by decide +kernel
theorem dX2_goBackBy_1 : decode cX2_goBackBy 1 = .ok (.aload_n 0, 1) := by decide +kernel
theorem dX2_goBackBy_2 : decode cX2_goBackBy 2 = .ok (.getfield 15, 3) := by decide +kernel
theorem dX2_goBackBy_5 : decode cX2_goBackBy 5 = .ok (.iload_n 1, 1) := by decide +kernel
theorem dX2_goBackBy_6 : decode cX2_goBackBy 6 = .ok (.isub, 1) := by decide +kernel
theorem dX2_goBackBy_7 : decode cX2_goBackBy 7 = .ok (.bipush 30, 2) := by decide +kernel
theorem dX2_goBackBy_9 : decode cX2_goBackBy 9 = .ok (.invokestatic 34, 3) := by decide +kernel
theorem dX2_goBackBy_12 : decode cX2_goBackBy 12 = .ok (.putfield 15, 3) := by decide +kernel
theorem dX2_goBackBy_15 : decode cX2_goBackBy 15 = .ok (.aload_n 0, 1) := by decide +kernel
theorem dX2_goBackBy_16 : decode cX2_goBackBy 16 = .ok (.dup, 1) := by decide +kernel
theorem dX2_goBackBy_17 : decode cX2_goBackBy 17 = .ok (.getfield 19, 3) := by decide +kernel
theorem dX2_goBackBy_20 : decode cX2_goBackBy 20 = .ok (.iload_n 1, 1) := by decide +kernel
theorem dX2_goBackBy_21 : decode cX2_goBackBy 21 = .ok (.isub, 1) := by decide +kernel
theorem dX2_goBackBy_22 : decode cX2_goBackBy 22 = .ok (.putfield 19, 3) := by decide +kernel
theorem dX2_goBackBy_25 : decode cX2_goBackBy 25 = .ok (.aload_n 2, 1) := by decide +kernel
theorem dX2_goBackBy_26 : decode cX2_goBackBy 26 = .ok (.aload_n 0, 1) := by decide +kernel
theorem dX2_goBackBy_27 : decode cX2_goBackBy 27 = .ok (.getfield 9, 3) := by decide +kernel
theorem dX2_goBackBy_30 : decode cX2_goBackBy 30 = .ok (.aload_n 0, 1) := by decide +kernel
theorem dX2_goBackBy_31 : decode cX2_goBackBy 31 = .ok (.getfield 15, 3) := by decide +kernel
theorem dX2_goBackBy_34 : decode cX2_goBackBy 34 = .ok (.bipush 17, 2) := by decide +kernel
theorem dX2_goBackBy_36 : decode cX2_goBackBy 36 = .ok (.imul, 1) := by decide +kernel
theorem dX2_goBackBy_37 : decode cX2_goBackBy 37 = .ok (.invokevirtual 37, 3) := by decide +kernel
theorem dX2_goBackBy_40 : decode cX2_goBackBy 40 = .ok (.return_, 1) := by decide +kernel
theorem dX2_forget_0 : decode cX2_forget 0 = .ok (.aload_n 0, 1) := by decide +kernel
theorem dX2_forget_1 : decode cX2_forget 1 = .ok (.iconst 0, 1) := by decide +kernel
theorem dX2_forget_2 : decode cX2_forget 2 = .ok (.putfield 19, 3) := by decide +kernel
theorem dX2_forget_5 : decode cX2_forget 5 = .ok (.return_, 1) := by decide +kernel
theorem dX3_init_0 : decode cX3_init 0 = .ok (.aload_n 0, 1) := by decide +kernel
theorem dX3_init_1 : decode cX3_init 1 = .ok (.invokespecial 3, 3) := by decide +kernel
theorem dX3_init_4 : decode cX3_init 4 = .ok (.aload_n 0, 1) := by decide +kernel
theorem dX3_init_5 : decode cX3_init 5 = .ok (.bipush 16, 2) := by decide +kernel
theorem dX3_init_7 : decode cX3_init 7 = .ok (.newarray .int, 2) := by decide +kernel
theorem dX3_init_9 : decode cX3_init 9 = .ok (.putfield 9, 3) := by decide +kernel
theorem dX3_init_12 : decode cX3_init 12 = .ok (.aload_n 0, 1) := by decide +kernel
theorem dX3_init_13 : decode cX3_init 13 = .ok (.bipush 16, 2) := by decide +kernel
theorem dX3_init_15 : decode cX3_init 15 = .ok (.newarray .int, 2) := by decide +kernel
theorem dX3_init_17 : decode cX3_init 17 = .ok (.putfield 15, 3) := by decide +kernel
theorem dX3_init_20 : decode cX3_init 20 = .ok (.aload_n 0, 1) := by decide +kernel
theorem dX3_init_21 : decode cX3_init 21 = .ok (.iconst 4, 1) := by decide +kernel
theorem dX3_init_22 : decode cX3_init 22 = .ok (.putfield 18, 3) := by decide +kernel
theorem dX3_init_25 : decode cX3_init 25 = .ok (.return_, 1) := by decide +kernel
theorem dX3_cornersJoin_0 : decode cX3_cornersJoin 0 = .ok (.aload_n 0, 1) := by decide +kernel
theorem dX3_cornersJoin_1 : decode cX3_cornersJoin 1 = .ok (.getfield 18, 3) := by decide +kernel
theorem dX3_cornersJoin_4 : decode cX3_cornersJoin 4 = .ok (.bipush 8, 2) := by decide +kernel
theorem dX3_cornersJoin_6 : decode cX3_cornersJoin 6 = .ok (.if_icmp .ne 7, 3) := by decide +kernel
theorem dX3_cornersJoin_9 : decode cX3_cornersJoin 9 = .ok (.iconst 1, 1) := by decide +kernel
theorem dX3_cornersJoin_10 : decode cX3_cornersJoin 10 = .ok (.goto 4, 3) := by decide +kernel
theorem dX3_cornersJoin_13 : decode cX3_cornersJoin 13 = .ok (.iconst 0, 1) := by decide +kernel
theorem dX3_cornersJoin_14 : decode cX3_cornersJoin 14 = .ok (.ireturn, 1) := by decide +kernel
theorem dX3_line_0 : decode cX3_line 0 = .ok (.iload_n 1, 1) := by decide +kernel
theorem dX3_line_1 : decode cX3_line 1 = .ok (.ifCond .lt 18, 3) := by decide +kernel
theorem dX3_line_4 : decode cX3_line 4 = .ok (.iload_n 1, 1) := by decide +kernel
theorem dX3_line_5 : decode cX3_line 5 = .ok (.bipush 16, 2) := by decide +kernel
theorem dX3_line_7 : decode cX3_line 7 = .ok (.if_icmp .ge 12, 3) := by decide +kernel
theorem dX3_line_10 : decode cX3_line 10 = .ok (.aload_n 0, 1) := by decide +kernel
theorem dX3_line_11 : decode cX3_line 11 = .ok (.getfield 9, 3) := by decide +kernel
theorem dX3_line_14 : decode cX3_line 14 = .ok (.iload_n 1, 1) := by decide +kernel
theorem dX3_line_15 : decode cX3_line 15 = .ok (.iaload, 1) := by decide +kernel
theorem dX3_line_16 : decode cX3_line 16 = .ok (.goto 4, 3) := by decide +kernel
theorem dX3_line_19 : decode cX3_line 19 = .ok (.iconst 0, 1) := by decide +kernel
theorem dX3_line_20 : decode cX3_line 20 = .ok (.ireturn, 1) := by decide +kernel
theorem dX3_putLine_0 : decode cX3_putLine 0 = .ok (.iload_n 1, 1) := by decide +kernel
theorem dX3_putLine_1 : decode cX3_putLine 1 = .ok (.ifCond .lt 19, 3) := by decide +kernel
theorem dX3_putLine_4 : decode cX3_putLine 4 = .ok (.iload_n 1, 1) := by decide +kernel
theorem dX3_putLine_5 : decode cX3_putLine 5 = .ok (.bipush 16, 2) := by decide +kernel
theorem dX3_putLine_7 : decode cX3_putLine 7 = .ok (.if_icmp .ge 13, 3) := by decide +kernel
theorem dX3_putLine_10 : decode cX3_putLine 10 = .ok (.aload_n 0, 1) := by decide +kernel
theorem dX3_putLine_11 : decode cX3_putLine 11 = .ok (.getfield 9, 3) := by decide +kernel
theorem dX3_putLine_14 : decode cX3_putLine 14 = .ok (.iload_n 1, 1) := by decide +kernel
theorem dX3_putLine_15 : decode cX3_putLine 15 = .ok (.iload_n 2, 1) := by decide +kernel
theorem dX3_putLine_16 : decode cX3_putLine 16 = .ok (.ldc 22, 2) := by decide +kernel
theorem dX3_putLine_18 : decode cX3_putLine 18 = .ok (.iand, 1) := by decide +kernel
theorem dX3_putLine_19 : decode cX3_putLine 19 = .ok (.iastore, 1) := by decide +kernel
theorem dX3_putLine_20 : decode cX3_putLine 20 = .ok (.return_, 1) := by decide +kernel
set_option maxRecDepth 20000 in
theorem ggX3_isDark_X3_line : GoodIn wsX3_isDark wsX3_line := goodIn_r _ [5, 6, 7, 8, 9] (by decide +kernel) (by decide +kernel)
set_option maxRecDepth 20000 in
theorem gX3_isDark_X3_line : GoodIn wsX3_isDark (wsV RX3 23 RX3 yX3_line wsX3_line) := goodIn_app (goodIn_of _ (by decide +kernel)) ggX3_isDark_X3_line
theorem dX3_isDark_0 : decode cX3_isDark 0 = .ok (.iload_n 2, 1) := by decide +kernel
theorem dX3_isDark_1 : decode cX3_isDark 1 = .ok (.ifCond .lt 26, 3) := by decide +kernel
theorem dX3_isDark_4 : decode cX3_isDark 4 = .ok (.iload_n 2, 1) := by decide +kernel
theorem dX3_isDark_5 : decode cX3_isDark 5 = .ok (.bipush 16, 2) := by decide +kernel
theorem dX3_isDark_7 : decode cX3_isDark 7 = .ok (.if_icmp .ge 20, 3) := by decide +kernel
theorem dX3_isDark_10 : decode cX3_isDark 10 = .ok (.aload_n 0, 1) := by decide +kernel
theorem dX3_isDark_11 : decode cX3_isDark 11 = .ok (.iload_n 1, 1) := by decide +kernel
theorem dX3_isDark_12 : decode cX3_isDark 12 = .ok (.invokevirtual 23, 3) := by decide +kernel
theorem dX3_isDark_15 : decode cX3_isDark 15 = .ok (.iload_n 2, 1) := by decide +kernel
theorem dX3_isDark_16 : decode cX3_isDark 16 = .ok (.ishr, 1) := by decide +kernel
theorem dX3_isDark_17 : decode cX3_isDark 17 = .ok (.iconst 1, 1) := by decide +kernel
theorem dX3_isDark_18 : decode cX3_isDark 18 = .ok (.iand, 1) := by decide +kernel
theorem dX3_isDark_19 : decode cX3_isDark 19 = .ok (.iconst 1, 1) := by decide +kernel
theorem dX3_isDark_20 : decode cX3_isDark 20 = .ok (.if_icmp .ne 7, 3) := by decide +kernel
theorem dX3_isDark_23 : decode cX3_isDark 23 = .ok (.iconst 1, 1) := by decide +kernel
theorem dX3_isDark_24 : decode cX3_isDark 24 = .ok (.goto 4, 3) := by decide +kernel
theorem dX3_isDark_27 : decode cX3_isDark 27 = .ok (.iconst 0, 1) := by decide +kernel
theorem dX3_isDark_28 : decode cX3_isDark 28 = .ok (.ireturn, 1) := by decide +kernel
set_option maxRecDepth 20000 in
theorem ggX3_flip_X3_line : GoodIn wsX3_flip wsX3_line := goodIn_r _ [5, 6, 12, 13, 14] (by decide +kernel) (by decide +kernel)
set_option maxRecDepth 20000 in
theorem gX3_flip_X3_line : GoodIn wsX3_flip (wsV RX3 23 RX3 yX3_line wsX3_line) := goodIn_app (goodIn_of _ (by decide +kernel)) ggX3_flip_X3_line
set_option maxRecDepth 20000 in
theorem ggX3_flip_X3_putLine : GoodIn wsX3_flip wsX3_putLine := goodIn_r _ [10, 6, 11, 12, 13, 14] (by decide +kernel) (by decide +kernel)
set_option maxRecDepth 20000 in
theorem gX3_flip_X3_putLine : GoodIn wsX3_flip (wsV RX3 27 RX3 yX3_putLine wsX3_putLine) := goodIn_app (goodIn_of _ (by decide +kernel)) ggX3_flip_X3_putLine
theorem dX3_flip_0 : decode cX3_flip 0 = .ok (.aload_n 0, 1) := by decide +kernel
theorem dX3_flip_1 : decode cX3_flip 1 = .ok (.iload_n 1, 1) := by decide +kernel
theorem dX3_flip_2 : decode cX3_flip 2 = .ok (.aload_n 0, 1) := by decide +kernel
theorem dX3_flip_3 : decode cX3_flip 3 = .ok (.iload_n 1, 1) := by decide +kernel
theorem dX3_flip_4 : decode cX3_flip 4 = .ok (.invokevirtual 23, 3) := by decide +kernel
theorem dX3_flip_7 : decode cX3_flip 7 = .ok (.iload_n 2, 1) := by decide +kernel
theorem dX3_flip_8 : decode cX3_flip 8 = .ok (.ixor, 1) := by decide +kernel
theorem dX3_flip_9 : decode cX3_flip 9 = .ok (.invokevirtual 27, 3) := by decide +kernel
theorem dX3_flip_12 : decode cX3_flip 12 = .ok (.return_, 1) := by decide +kernel
set_option maxRecDepth 20000 in
theorem ggX3_darkDots_J6_bitCount_0f7a4 : GoodIn wsX3_darkDots wsJ6_bitCount_0f7a4 := goodIn_r _ [5, 6, 7, 8] (by decide +kernel) (by decide +kernel)
set_option maxRecDepth 20000 in
theorem gX3_darkDots_J6_bitCount_0f7a4 : GoodIn wsX3_darkDots (va_wsS RX3 31 yJ6_bitCount_0f7a4 wsJ6_bitCount_0f7a4) := goodIn_app (goodIn_of _ (by decide +kernel)) ggX3_darkDots_J6_bitCount_0f7a4
theorem dX3_darkDots_0 : decode cX3_darkDots 0 = .ok (.iconst 0, 1) := by decide +kernel
theorem dX3_darkDots_1 : decode cX3_darkDots 1 = .ok (.istore_n 1, 1) := by decide +kernel
theorem dX3_darkDots_2 : decode cX3_darkDots 2 = .ok (.iconst 0, 1) := by decide +kernel
theorem dX3_darkDots_3 : decode cX3_darkDots 3 = .ok (.istore_n 2, 1) := by decide +kernel
theorem dX3_darkDots_4 : decode cX3_darkDots 4 = .ok (.iload_n 2, 1) := by decide +kernel
theorem dX3_darkDots_5 : decode cX3_darkDots 5 = .ok (.bipush 16, 2) := by decide +kernel
theorem dX3_darkDots_7 : decode cX3_darkDots 7 = .ok (.if_icmp .ge 21, 3) := by decide +kernel
theorem dX3_darkDots_10 : decode cX3_darkDots 10 = .ok (.iload_n 1, 1) := by decide +kernel
theorem dX3_darkDots_11 : decode cX3_darkDots 11 = .ok (.aload_n 0, 1) := by decide +kernel
theorem dX3_darkDots_12 : decode cX3_darkDots 12 = .ok (.getfield 9, 3) := by decide +kernel
theorem dX3_darkDots_15 : decode cX3_darkDots 15 = .ok (.iload_n 2, 1) := by decide +kernel
theorem dX3_darkDots_16 : decode cX3_darkDots 16 = .ok (.iaload, 1) := by decide +kernel
theorem dX3_darkDots_17 : decode cX3_darkDots 17 = .ok (.invokestatic 31, 3) := by decide +kernel
theorem dX3_darkDots_20 : decode cX3_darkDots 20 = .ok (.iadd, 1) := by decide +kernel
theorem dX3_darkDots_21 : decode cX3_darkDots 21 = .ok (.istore_n 1, 1) := by decide +kernel
theorem dX3_darkDots_22 : decode cX3_darkDots 22 = .ok (.iinc 2 1, 3) := by decide +kernel
theorem dX3_darkDots_25 : decode cX3_darkDots 25 = .ok (.goto (-21), 3) := by decide +kernel
theorem dX3_darkDots_28 : decode cX3_darkDots 28 = .ok (.iload_n 1, 1) := by decide +kernel
theorem dX3_darkDots_29 : decode cX3_darkDots 29 = .ok (.ireturn, 1) := by decide +kernel
set_option maxRecDepth 20000 in
theorem ggX3_allRuns_X5_runsOf : GoodIn wsX3_allRuns wsX5_runsOf := goodIn_r _ [4, 5, 6, 7, 8, 9, 10, 11] (by decide +kernel) (by decide +kernel)
set_option maxRecDepth 20000 in
theorem gX3_allRuns_X5_runsOf_n36 : GoodIn wsX3_allRuns (wsX5_runsOf) := ggX3_allRuns_X5_runsOf
theorem dX3_allRuns_0 : decode cX3_allRuns 0 = .ok (.iconst 0, 1) := by decide +kernel
theorem dX3_allRuns_1 : decode cX3_allRuns 1 = .ok (.istore_n 1, 1) := by decide +kernel
theorem dX3_allRuns_2 : decode cX3_allRuns 2 = .ok (.iconst 0, 1) := by decide +kernel
theorem dX3_allRuns_3 : decode cX3_allRuns 3 = .ok (.istore_n 2, 1) := by decide +kernel
theorem dX3_allRuns_4 : decode cX3_allRuns 4 = .ok (.iload_n 2, 1) := by decide +kernel
theorem dX3_allRuns_5 : decode cX3_allRuns 5 = .ok (.bipush 16, 2) := by decide +kernel
theorem dX3_allRuns_7 : decode cX3_allRuns 7 = .ok (.if_icmp .ge 21, 3) := by decide +kernel
theorem dX3_allRuns_10 : decode cX3_allRuns 10 = .ok (.iload_n 1, 1) := by decide +kernel
theorem dX3_allRuns_11 : decode cX3_allRuns 11 = .ok (.aload_n 0, 1) := by decide +kernel
theorem dX3_allRuns_12 : decode cX3_allRuns 12 = .ok (.getfield 9, 3) := by decide +kernel
theorem dX3_allRuns_15 : decode cX3_allRuns 15 = .ok (.iload_n 2, 1) := by decide +kernel
theorem dX3_allRuns_16 : decode cX3_allRuns 16 = .ok (.iaload, 1) := by decide +kernel
theorem dX3_allRuns_17 : decode cX3_allRuns 17 = .ok (.invokestatic 36, 3) := by decide +kernel
theorem dX3_allRuns_20 : decode cX3_allRuns 20 = .ok (.iadd, 1) := by decide +kernel
theorem dX3_allRuns_21 : decode cX3_allRuns 21 = .ok (.istore_n 1, 1) := by decide +kernel
theorem dX3_allRuns_22 : decode cX3_allRuns 22 = .ok (.iinc 2 1, 3) := by decide +kernel
theorem dX3_allRuns_25 : decode cX3_allRuns 25 = .ok (.goto (-21), 3) := by decide +kernel
theorem dX3_allRuns_28 : decode cX3_allRuns 28 = .ok (.iload_n 1, 1) := by decide +kernel
theorem dX3_allRuns_29 : decode cX3_allRuns 29 = .ok (.ireturn, 1) := by decide +kernel
set_option maxRecDepth 20000 in
theorem ggX3_freeSides_X3_line : GoodIn wsX3_freeSides wsX3_line := goodIn_r _ [5, 6, 14, 15, 16] (by decide +kernel) (by decide +kernel)
set_option maxRecDepth 20000 in
theorem gX3_freeSides_X3_line : GoodIn wsX3_freeSides (wsV RX3 23 RX3 yX3_line wsX3_line) := goodIn_app (goodIn_of _ (by decide +kernel)) ggX3_freeSides_X3_line
set_option maxRecDepth 20000 in
theorem ggX3_freeSides_J6_bitCount_0f7a4 : GoodIn wsX3_freeSides wsJ6_bitCount_0f7a4 := goodIn_r _ [10, 11, 12, 13] (by decide +kernel) (by decide +kernel)
set_option maxRecDepth 20000 in
theorem gX3_freeSides_J6_bitCount_0f7a4 : GoodIn wsX3_freeSides (va_wsS RX3 31 yJ6_bitCount_0f7a4 wsJ6_bitCount_0f7a4) := goodIn_app (goodIn_of _ (by decide +kernel)) ggX3_freeSides_J6_bitCount_0f7a4
theorem dX3_freeSides_0 : decode cX3_freeSides 0 = .ok (.iconst 2, 1) := by decide +kernel
theorem dX3_freeSides_1 : decode cX3_freeSides 1 = .ok (.iload_n 2, 1) := by decide +kernel
theorem dX3_freeSides_2 : decode cX3_freeSides 2 = .ok (.aload_n 0, 1) := by decide +kernel
theorem dX3_freeSides_3 : decode cX3_freeSides 3 = .ok (.iload_n 1, 1) := by decide +kernel
theorem dX3_freeSides_4 : decode cX3_freeSides 4 = .ok (.iconst 1, 1) := by decide +kernel
theorem dX3_freeSides_5 : decode cX3_freeSides 5 = .ok (.isub, 1) := by decide +kernel
theorem dX3_freeSides_6 : decode cX3_freeSides 6 = .ok (.invokevirtual 23, 3) := by decide +kernel
theorem dX3_freeSides_9 : decode cX3_freeSides 9 = .ok (.iconst (-1), 1) := by decide +kernel
theorem dX3_freeSides_10 : decode cX3_freeSides 10 = .ok (.ixor, 1) := by decide +kernel
theorem dX3_freeSides_11 : decode cX3_freeSides 11 = .ok (.iand, 1) := by decide +kernel
theorem dX3_freeSides_12 : decode cX3_freeSides 12 = .ok (.invokestatic 31, 3) := by decide +kernel
theorem dX3_freeSides_15 : decode cX3_freeSides 15 = .ok (.iadd, 1) := by decide +kernel
theorem dX3_freeSides_16 : decode cX3_freeSides 16 = .ok (.iload_n 2, 1) := by decide +kernel
theorem dX3_freeSides_17 : decode cX3_freeSides 17 = .ok (.aload_n 0, 1) := by decide +kernel
theorem dX3_freeSides_18 : decode cX3_freeSides 18 = .ok (.iload_n 1, 1) := by decide +kernel
theorem dX3_freeSides_19 : decode cX3_freeSides 19 = .ok (.iconst 1, 1) := by decide +kernel
theorem dX3_freeSides_20 : decode cX3_freeSides 20 = .ok (.iadd, 1) := by decide +kernel
theorem dX3_freeSides_21 : decode cX3_freeSides 21 = .ok (.invokevirtual 23, 3) := by decide +kernel
theorem dX3_freeSides_24 : decode cX3_freeSides 24 = .ok (.iconst (-1), 1) := by decide +kernel
theorem dX3_freeSides_25 : decode cX3_freeSides 25 = .ok (.ixor, 1) := by decide +kernel
theorem dX3_freeSides_26 : decode cX3_freeSides 26 = .ok (.iand, 1) := by decide +kernel
theorem dX3_freeSides_27 : decode cX3_freeSides 27 = .ok (.invokestatic 31, 3) := by decide +kernel
theorem dX3_freeSides_30 : decode cX3_freeSides 30 = .ok (.iadd, 1) := by decide +kernel
theorem dX3_freeSides_31 : decode cX3_freeSides 31 = .ok (.ireturn, 1) := by decide +kernel
set_option maxRecDepth 20000 in
theorem ggX3_becomeGrown_X3_line : GoodIn wsX3_becomeGrown wsX3_line := goodIn_r _ [7, 2, 25, 26, 27] (by decide +kernel) (by decide +kernel)
set_option maxRecDepth 20000 in
theorem gX3_becomeGrown_X3_line : GoodIn wsX3_becomeGrown (wsV RX3 23 RX3 yX3_line wsX3_line) := goodIn_app (goodIn_of _ (by decide +kernel)) ggX3_becomeGrown_X3_line
set_option maxRecDepth 20000 in
theorem ggX3_becomeGrown_X3_cornersJoin : GoodIn wsX3_becomeGrown wsX3_cornersJoin := goodIn_r _ [11, 12, 25, 26, 27] (by decide +kernel) (by decide +kernel)
set_option maxRecDepth 20000 in
theorem gX3_becomeGrown_X3_cornersJoin : GoodIn wsX3_becomeGrown (wsV RX3 39 RX3 yX3_cornersJoin wsX3_cornersJoin) := goodIn_app (goodIn_of _ (by decide +kernel)) ggX3_becomeGrown_X3_cornersJoin
set_option maxRecDepth 20000 in
theorem ggX3_becomeGrown_X3_widened : GoodIn wsX3_becomeGrown wsX3_widened := goodIn_r _ [15, 16] (by decide +kernel) (by decide +kernel)
set_option maxRecDepth 20000 in
theorem gX3_becomeGrown_X3_widened : GoodIn wsX3_becomeGrown (va_wsS RX3 43 yX3_widened wsX3_widened) := goodIn_app (goodIn_of _ (by decide +kernel)) ggX3_becomeGrown_X3_widened
set_option maxRecDepth 20000 in
theorem ggX3_becomeGrown_X3_becomeNext : GoodIn wsX3_becomeGrown wsX3_becomeNext := goodIn_r _ [20, 1, 2, 21, 22, 23, 24, 25, 26, 27] (by decide +kernel) (by decide +kernel)
set_option maxRecDepth 20000 in
theorem gX3_becomeGrown_X3_becomeNext : GoodIn wsX3_becomeGrown (wsV RX3 46 RX3 yX3_becomeNext wsX3_becomeNext) := goodIn_app (goodIn_of _ (by decide +kernel)) ggX3_becomeGrown_X3_becomeNext
theorem dX3_becomeGrown_0 : decode cX3_becomeGrown 0 = .ok (.iconst 0, 1) := by decide +kernel
theorem dX3_becomeGrown_1 : decode cX3_becomeGrown 1 = .ok (.istore_n 1, 1) := by decide +kernel
theorem dX3_becomeGrown_2 : decode cX3_becomeGrown 2 = .ok (.iload_n 1, 1) := by decide +kernel
theorem dX3_becomeGrown_3 : decode cX3_becomeGrown 3 = .ok (.bipush 16, 2) := by decide +kernel
theorem dX3_becomeGrown_5 : decode cX3_becomeGrown 5 = .ok (.if_icmp .ge 63, 3) := by decide +kernel
theorem dX3_becomeGrown_8 : decode cX3_becomeGrown 8 = .ok (.aload_n 0, 1) := by decide +kernel
theorem dX3_becomeGrown_9 : decode cX3_becomeGrown 9 = .ok (.iload_n 1, 1) := by decide +kernel
theorem dX3_becomeGrown_10 : decode cX3_becomeGrown 10 = .ok (.iconst 1, 1) := by decide +kernel
theorem dX3_becomeGrown_11 : decode cX3_becomeGrown 11 = .ok (.isub, 1) := by decide +kernel
theorem dX3_becomeGrown_12 : decode cX3_becomeGrown 12 = .ok (.invokevirtual 23, 3) := by decide +kernel
theorem dX3_becomeGrown_15 : decode cX3_becomeGrown 15 = .ok (.aload_n 0, 1) := by decide +kernel
theorem dX3_becomeGrown_16 : decode cX3_becomeGrown 16 = .ok (.iload_n 1, 1) := by decide +kernel
theorem dX3_becomeGrown_17 : decode cX3_becomeGrown 17 = .ok (.iconst 1, 1) := by decide +kernel
theorem dX3_becomeGrown_18 : decode cX3_becomeGrown 18 = .ok (.iadd, 1) := by decide +kernel
theorem dX3_becomeGrown_19 : decode cX3_becomeGrown 19 = .ok (.invokevirtual 23, 3) := by decide +kernel
theorem dX3_becomeGrown_22 : decode cX3_becomeGrown 22 = .ok (.ior, 1) := by decide +kernel
theorem dX3_becomeGrown_23 : decode cX3_becomeGrown 23 = .ok (.istore_n 2, 1) := by decide +kernel
theorem dX3_becomeGrown_24 : decode cX3_becomeGrown 24 = .ok (.aload_n 0, 1) := by decide +kernel
theorem dX3_becomeGrown_25 : decode cX3_becomeGrown 25 = .ok (.getfield 15, 3) := by decide +kernel
theorem dX3_becomeGrown_28 : decode cX3_becomeGrown 28 = .ok (.iload_n 1, 1) := by decide +kernel
theorem dX3_becomeGrown_29 : decode cX3_becomeGrown 29 = .ok (.aload_n 0, 1) := by decide +kernel
theorem dX3_becomeGrown_30 : decode cX3_becomeGrown 30 = .ok (.invokevirtual 39, 3) := by decide +kernel
theorem dX3_becomeGrown_33 : decode cX3_becomeGrown 33 = .ok (.ifCond .eq 17, 3) := by decide +kernel
theorem dX3_becomeGrown_36 : decode cX3_becomeGrown 36 = .ok (.aload_n 0, 1) := by decide +kernel
theorem dX3_becomeGrown_37 : decode cX3_becomeGrown 37 = .ok (.getfield 9, 3) := by decide +kernel
theorem dX3_becomeGrown_40 : decode cX3_becomeGrown 40 = .ok (.iload_n 1, 1) := by decide +kernel
theorem dX3_becomeGrown_41 : decode cX3_becomeGrown 41 = .ok (.iaload, 1) := by decide +kernel
theorem dX3_becomeGrown_42 : decode cX3_becomeGrown 42 = .ok (.iload_n 2, 1) := by decide +kernel
theorem dX3_becomeGrown_43 : decode cX3_becomeGrown 43 = .ok (.ior, 1) := by decide +kernel
theorem dX3_becomeGrown_44 : decode cX3_becomeGrown 44 = .ok (.invokestatic 43, 3) := by decide +kernel
theorem dX3_becomeGrown_47 : decode cX3_becomeGrown 47 = .ok (.goto 14, 3) := by decide +kernel
theorem dX3_becomeGrown_50 : decode cX3_becomeGrown 50 = .ok (.aload_n 0, 1) := by decide +kernel
theorem dX3_becomeGrown_51 : decode cX3_becomeGrown 51 = .ok (.getfield 9, 3) := by decide +kernel
theorem dX3_becomeGrown_54 : decode cX3_becomeGrown 54 = .ok (.iload_n 1, 1) := by decide +kernel
theorem dX3_becomeGrown_55 : decode cX3_becomeGrown 55 = .ok (.iaload, 1) := by decide +kernel
theorem dX3_becomeGrown_56 : decode cX3_becomeGrown 56 = .ok (.invokestatic 43, 3) := by decide +kernel
theorem dX3_becomeGrown_59 : decode cX3_becomeGrown 59 = .ok (.iload_n 2, 1) := by decide +kernel
theorem dX3_becomeGrown_60 : decode cX3_becomeGrown 60 = .ok (.ior, 1) := by decide +kernel
theorem dX3_becomeGrown_61 : decode cX3_becomeGrown 61 = .ok (.iastore, 1) := by decide +kernel
theorem dX3_becomeGrown_62 : decode cX3_becomeGrown 62 = .ok (.iinc 1 1, 3) := by decide +kernel
theorem dX3_becomeGrown_65 : decode cX3_becomeGrown 65 = .ok (.goto (-63), 3) := by decide +kernel
theorem dX3_becomeGrown_68 : decode cX3_becomeGrown 68 = .ok (.aload_n 0, 1) := by decide +kernel
theorem dX3_becomeGrown_69 : decode cX3_becomeGrown 69 = .ok (.invokevirtual 46, 3) := by decide +kernel
theorem dX3_becomeGrown_72 : decode cX3_becomeGrown 72 = .ok (.return_, 1) := by decide +kernel
set_option maxRecDepth 20000 in
theorem ggX3_becomeShrunk_X3_line : GoodIn wsX3_becomeShrunk wsX3_line := goodIn_r _ [7, 2, 24, 25, 26] (by decide +kernel) (by decide +kernel)
set_option maxRecDepth 20000 in
theorem gX3_becomeShrunk_X3_line : GoodIn wsX3_becomeShrunk (wsV RX3 23 RX3 yX3_line wsX3_line) := goodIn_app (goodIn_of _ (by decide +kernel)) ggX3_becomeShrunk_X3_line
set_option maxRecDepth 20000 in
theorem ggX3_becomeShrunk_X3_cornersJoin : GoodIn wsX3_becomeShrunk wsX3_cornersJoin := goodIn_r _ [11, 12, 24, 25, 26] (by decide +kernel) (by decide +kernel)
set_option maxRecDepth 20000 in
theorem gX3_becomeShrunk_X3_cornersJoin : GoodIn wsX3_becomeShrunk (wsV RX3 39 RX3 yX3_cornersJoin wsX3_cornersJoin) := goodIn_app (goodIn_of _ (by decide +kernel)) ggX3_becomeShrunk_X3_cornersJoin
set_option maxRecDepth 20000 in
theorem ggX3_becomeShrunk_X3_narrowed : GoodIn wsX3_becomeShrunk wsX3_narrowed := goodIn_r _ [15] (by decide +kernel) (by decide +kernel)
set_option maxRecDepth 20000 in
theorem gX3_becomeShrunk_X3_narrowed : GoodIn wsX3_becomeShrunk (va_wsS RX3 49 yX3_narrowed wsX3_narrowed) := goodIn_app (goodIn_of _ (by decide +kernel)) ggX3_becomeShrunk_X3_narrowed
set_option maxRecDepth 20000 in
theorem ggX3_becomeShrunk_X3_becomeNext : GoodIn wsX3_becomeShrunk wsX3_becomeNext := goodIn_r _ [19, 1, 2, 20, 21, 22, 23, 24, 25, 26] (by decide +kernel) (by decide +kernel)
set_option maxRecDepth 20000 in
theorem gX3_becomeShrunk_X3_becomeNext : GoodIn wsX3_becomeShrunk (wsV RX3 46 RX3 yX3_becomeNext wsX3_becomeNext) := goodIn_app (goodIn_of _ (by decide +kernel)) ggX3_becomeShrunk_X3_becomeNext
theorem dX3_becomeShrunk_0 : decode cX3_becomeShrunk 0 = .ok (.iconst 0, 1) := by decide +kernel
theorem dX3_becomeShrunk_1 : decode cX3_becomeShrunk 1 = .ok (.istore_n 1, 1) := by decide +kernel
theorem dX3_becomeShrunk_2 : decode cX3_becomeShrunk 2 = .ok (.iload_n 1, 1) := by decide +kernel
theorem dX3_becomeShrunk_3 : decode cX3_becomeShrunk 3 = .ok (.bipush 16, 2) := by decide +kernel
theorem dX3_becomeShrunk_5 : decode cX3_becomeShrunk 5 = .ok (.if_icmp .ge 63, 3) := by decide +kernel
theorem dX3_becomeShrunk_8 : decode cX3_becomeShrunk 8 = .ok (.aload_n 0, 1) := by decide +kernel
theorem dX3_becomeShrunk_9 : decode cX3_becomeShrunk 9 = .ok (.iload_n 1, 1) := by decide +kernel
theorem dX3_becomeShrunk_10 : decode cX3_becomeShrunk 10 = .ok (.iconst 1, 1) := by decide +kernel
theorem dX3_becomeShrunk_11 : decode cX3_becomeShrunk 11 = .ok (.isub, 1) := by decide +kernel
theorem dX3_becomeShrunk_12 : decode cX3_becomeShrunk 12 = .ok (.invokevirtual 23, 3) := by decide +kernel
theorem dX3_becomeShrunk_15 : decode cX3_becomeShrunk 15 = .ok (.aload_n 0, 1) := by decide +kernel
theorem dX3_becomeShrunk_16 : decode cX3_becomeShrunk 16 = .ok (.iload_n 1, 1) := by decide +kernel
theorem dX3_becomeShrunk_17 : decode cX3_becomeShrunk 17 = .ok (.iconst 1, 1) := by decide +kernel
theorem dX3_becomeShrunk_18 : decode cX3_becomeShrunk 18 = .ok (.iadd, 1) := by decide +kernel
theorem dX3_becomeShrunk_19 : decode cX3_becomeShrunk 19 = .ok (.invokevirtual 23, 3) := by decide +kernel
theorem dX3_becomeShrunk_22 : decode cX3_becomeShrunk 22 = .ok (.iand, 1) := by decide +kernel
theorem dX3_becomeShrunk_23 : decode cX3_becomeShrunk 23 = .ok (.istore_n 2, 1) := by decide +kernel
theorem dX3_becomeShrunk_24 : decode cX3_becomeShrunk 24 = .ok (.aload_n 0, 1) := by decide +kernel
theorem dX3_becomeShrunk_25 : decode cX3_becomeShrunk 25 = .ok (.getfield 15, 3) := by decide +kernel
theorem dX3_becomeShrunk_28 : decode cX3_becomeShrunk 28 = .ok (.iload_n 1, 1) := by decide +kernel
theorem dX3_becomeShrunk_29 : decode cX3_becomeShrunk 29 = .ok (.aload_n 0, 1) := by decide +kernel
theorem dX3_becomeShrunk_30 : decode cX3_becomeShrunk 30 = .ok (.invokevirtual 39, 3) := by decide +kernel
theorem dX3_becomeShrunk_33 : decode cX3_becomeShrunk 33 = .ok (.ifCond .eq 17, 3) := by decide +kernel
theorem dX3_becomeShrunk_36 : decode cX3_becomeShrunk 36 = .ok (.aload_n 0, 1) := by decide +kernel
theorem dX3_becomeShrunk_37 : decode cX3_becomeShrunk 37 = .ok (.getfield 9, 3) := by decide +kernel
theorem dX3_becomeShrunk_40 : decode cX3_becomeShrunk 40 = .ok (.iload_n 1, 1) := by decide +kernel
theorem dX3_becomeShrunk_41 : decode cX3_becomeShrunk 41 = .ok (.iaload, 1) := by decide +kernel
theorem dX3_becomeShrunk_42 : decode cX3_becomeShrunk 42 = .ok (.iload_n 2, 1) := by decide +kernel
theorem dX3_becomeShrunk_43 : decode cX3_becomeShrunk 43 = .ok (.iand, 1) := by decide +kernel
theorem dX3_becomeShrunk_44 : decode cX3_becomeShrunk 44 = .ok (.invokestatic 49, 3) := by decide +kernel
theorem dX3_becomeShrunk_47 : decode cX3_becomeShrunk 47 = .ok (.goto 14, 3) := by decide +kernel
theorem dX3_becomeShrunk_50 : decode cX3_becomeShrunk 50 = .ok (.aload_n 0, 1) := by decide +kernel
theorem dX3_becomeShrunk_51 : decode cX3_becomeShrunk 51 = .ok (.getfield 9, 3) := by decide +kernel
theorem dX3_becomeShrunk_54 : decode cX3_becomeShrunk 54 = .ok (.iload_n 1, 1) := by decide +kernel
theorem dX3_becomeShrunk_55 : decode cX3_becomeShrunk 55 = .ok (.iaload, 1) := by decide +kernel
theorem dX3_becomeShrunk_56 : decode cX3_becomeShrunk 56 = .ok (.invokestatic 49, 3) := by decide +kernel
theorem dX3_becomeShrunk_59 : decode cX3_becomeShrunk 59 = .ok (.iload_n 2, 1) := by decide +kernel
theorem dX3_becomeShrunk_60 : decode cX3_becomeShrunk 60 = .ok (.iand, 1) := by decide +kernel
theorem dX3_becomeShrunk_61 : decode cX3_becomeShrunk 61 = .ok (.iastore, 1) := by decide +kernel
theorem dX3_becomeShrunk_62 : decode cX3_becomeShrunk 62 = .ok (.iinc 1 1, 3) := by decide +kernel
theorem dX3_becomeShrunk_65 : decode cX3_becomeShrunk 65 = .ok (.goto (-63), 3) := by decide +kernel
theorem dX3_becomeShrunk_68 : decode cX3_becomeShrunk 68 = .ok (.aload_n 0, 1) := by decide +kernel
theorem dX3_becomeShrunk_69 : decode cX3_becomeShrunk 69 = .ok (.invokevirtual 46, 3) := by decide +kernel
theorem dX3_becomeShrunk_72 : decode cX3_becomeShrunk 72 = .ok (.return_, 1) := by decide +kernel
set_option maxRecDepth 20000 in
theorem ggX3_becomeMoved_X3_line : GoodIn wsX3_becomeMoved wsX3_line := goodIn_r _ [6, 7, 20, 21, 22] (by decide +kernel) (by decide +kernel)
set_option maxRecDepth 20000 in
theorem gX3_becomeMoved_X3_line : GoodIn wsX3_becomeMoved (wsV RX3 23 RX3 yX3_line wsX3_line) := goodIn_app (goodIn_of _ (by decide +kernel)) ggX3_becomeMoved_X3_line
set_option maxRecDepth 20000 in
theorem ggX3_becomeMoved_X3_slid : GoodIn wsX3_becomeMoved wsX3_slid := goodIn_r _ [10, 11] (by decide +kernel) (by decide +kernel)
set_option maxRecDepth 20000 in
theorem gX3_becomeMoved_X3_slid : GoodIn wsX3_becomeMoved (va_wsS RX3 52 yX3_slid wsX3_slid) := goodIn_app (goodIn_of _ (by decide +kernel)) ggX3_becomeMoved_X3_slid
set_option maxRecDepth 20000 in
theorem ggX3_becomeMoved_X3_becomeNext : GoodIn wsX3_becomeMoved wsX3_becomeNext := goodIn_r _ [15, 1, 7, 16, 17, 18, 19, 20, 21, 22] (by decide +kernel) (by decide +kernel)
set_option maxRecDepth 20000 in
theorem gX3_becomeMoved_X3_becomeNext : GoodIn wsX3_becomeMoved (wsV RX3 46 RX3 yX3_becomeNext wsX3_becomeNext) := goodIn_app (goodIn_of _ (by decide +kernel)) ggX3_becomeMoved_X3_becomeNext
theorem dX3_becomeMoved_0 : decode cX3_becomeMoved 0 = .ok (.iconst 0, 1) := by decide +kernel
theorem dX3_becomeMoved_1 : decode cX3_becomeMoved 1 = .ok (.istore_n 3, 1) := by decide +kernel
theorem dX3_becomeMoved_2 : decode cX3_becomeMoved 2 = .ok (.iload_n 3, 1) := by decide +kernel
theorem dX3_becomeMoved_3 : decode cX3_becomeMoved 3 = .ok (.bipush 16, 2) := by decide +kernel
theorem dX3_becomeMoved_5 : decode cX3_becomeMoved 5 = .ok (.if_icmp .ge 26, 3) := by decide +kernel
theorem dX3_becomeMoved_8 : decode cX3_becomeMoved 8 = .ok (.aload_n 0, 1) := by decide +kernel
theorem dX3_becomeMoved_9 : decode cX3_becomeMoved 9 = .ok (.getfield 15, 3) := by decide +kernel
theorem dX3_becomeMoved_12 : decode cX3_becomeMoved 12 = .ok (.iload_n 3, 1) := by decide +kernel
theorem dX3_becomeMoved_13 : decode cX3_becomeMoved 13 = .ok (.aload_n 0, 1) := by decide +kernel
theorem dX3_becomeMoved_14 : decode cX3_becomeMoved 14 = .ok (.iload_n 3, 1) := by decide +kernel
theorem dX3_becomeMoved_15 : decode cX3_becomeMoved 15 = .ok (.iload_n 1, 1) := by decide +kernel
theorem dX3_becomeMoved_16 : decode cX3_becomeMoved 16 = .ok (.isub, 1) := by decide +kernel
theorem dX3_becomeMoved_17 : decode cX3_becomeMoved 17 = .ok (.invokevirtual 23, 3) := by decide +kernel
theorem dX3_becomeMoved_20 : decode cX3_becomeMoved 20 = .ok (.iload_n 2, 1) := by decide +kernel
theorem dX3_becomeMoved_21 : decode cX3_becomeMoved 21 = .ok (.invokestatic 52, 3) := by decide +kernel
theorem dX3_becomeMoved_24 : decode cX3_becomeMoved 24 = .ok (.iastore, 1) := by decide +kernel
theorem dX3_becomeMoved_25 : decode cX3_becomeMoved 25 = .ok (.iinc 3 1, 3) := by decide +kernel
theorem dX3_becomeMoved_28 : decode cX3_becomeMoved 28 = .ok (.goto (-26), 3) := by decide +kernel
theorem dX3_becomeMoved_31 : decode cX3_becomeMoved 31 = .ok (.aload_n 0, 1) := by decide +kernel
theorem dX3_becomeMoved_32 : decode cX3_becomeMoved 32 = .ok (.invokevirtual 46, 3) := by decide +kernel
theorem dX3_becomeMoved_35 : decode cX3_becomeMoved 35 = .ok (.return_, 1) := by decide +kernel
theorem dX3_becomeOver_0 : decode cX3_becomeOver 0 = .ok (.iconst 0, 1) := by decide +kernel
theorem dX3_becomeOver_1 : decode cX3_becomeOver 1 = .ok (.istore_n 1, 1) := by decide +kernel
theorem dX3_becomeOver_2 : decode cX3_becomeOver 2 = .ok (.iload_n 1, 1) := by decide +kernel
theorem dX3_becomeOver_3 : decode cX3_becomeOver 3 = .ok (.bipush 16, 2) := by decide +kernel
theorem dX3_becomeOver_5 : decode cX3_becomeOver 5 = .ok (.if_icmp .ge 26, 3) := by decide +kernel
theorem dX3_becomeOver_8 : decode cX3_becomeOver 8 = .ok (.aload_n 0, 1) := by decide +kernel
theorem dX3_becomeOver_9 : decode cX3_becomeOver 9 = .ok (.getfield 9, 3) := by decide +kernel
theorem dX3_becomeOver_12 : decode cX3_becomeOver 12 = .ok (.iload_n 1, 1) := by decide +kernel
theorem dX3_becomeOver_13 : decode cX3_becomeOver 13 = .ok (.aload_n 0, 1) := by decide +kernel
theorem dX3_becomeOver_14 : decode cX3_becomeOver 14 = .ok (.getfield 9, 3) := by decide +kernel
theorem dX3_becomeOver_17 : decode cX3_becomeOver 17 = .ok (.iload_n 1, 1) := by decide +kernel
theorem dX3_becomeOver_18 : decode cX3_becomeOver 18 = .ok (.iaload, 1) := by decide +kernel
theorem dX3_becomeOver_19 : decode cX3_becomeOver 19 = .ok (.iconst (-1), 1) := by decide +kernel
theorem dX3_becomeOver_20 : decode cX3_becomeOver 20 = .ok (.ixor, 1) := by decide +kernel
theorem dX3_becomeOver_21 : decode cX3_becomeOver 21 = .ok (.ldc 22, 2) := by decide +kernel
theorem dX3_becomeOver_23 : decode cX3_becomeOver 23 = .ok (.iand, 1) := by decide +kernel
theorem dX3_becomeOver_24 : decode cX3_becomeOver 24 = .ok (.iastore, 1) := by decide +kernel
theorem dX3_becomeOver_25 : decode cX3_becomeOver 25 = .ok (.iinc 1 1, 3) := by decide +kernel
theorem dX3_becomeOver_28 : decode cX3_becomeOver 28 = .ok (.goto (-26), 3) := by decide +kernel
theorem dX3_becomeOver_31 : decode cX3_becomeOver 31 = .ok (.return_, 1) := by decide +kernel
theorem dX3_layBy_0 : decode cX3_layBy 0 = .ok (.iload_n 2, 1) := by decide +kernel
theorem dX3_layBy_1 : decode cX3_layBy 1 = .ok (.ifCond .lt 12, 3) := by decide +kernel
theorem dX3_layBy_4 : decode cX3_layBy 4 = .ok (.iload_n 2, 1) := by decide +kernel
theorem dX3_layBy_5 : decode cX3_layBy 5 = .ok (.aload_n 1, 1) := by decide +kernel
theorem dX3_layBy_6 : decode cX3_layBy 6 = .ok (.arraylength, 1) := by decide +kernel
theorem dX3_layBy_7 : decode cX3_layBy 7 = .ok (.bipush 17, 2) := by decide +kernel
theorem dX3_layBy_9 : decode cX3_layBy 9 = .ok (.isub, 1) := by decide +kernel
theorem dX3_layBy_10 : decode cX3_layBy 10 = .ok (.if_icmp .le 4, 3) := by decide +kernel
theorem dX3_layBy_13 : decode cX3_layBy 13 = .ok (.return_, 1) := by decide +kernel
theorem dX3_layBy_14 : decode cX3_layBy 14 = .ok (.aload_n 0, 1) := by decide +kernel
theorem dX3_layBy_15 : decode cX3_layBy 15 = .ok (.getfield 9, 3) := by decide +kernel
theorem dX3_layBy_18 : decode cX3_layBy 18 = .ok (.iconst 0, 1) := by decide +kernel
theorem dX3_layBy_19 : decode cX3_layBy 19 = .ok (.aload_n 1, 1) := by decide +kernel
theorem dX3_layBy_20 : decode cX3_layBy 20 = .ok (.iload_n 2, 1) := by decide +kernel
theorem dX3_layBy_21 : decode cX3_layBy 21 = .ok (.bipush 16, 2) := by decide +kernel
theorem dX3_layBy_23 : decode cX3_layBy 23 = .ok (.invokestatic 56, 3) := by decide +kernel
theorem dX3_layBy_26 : decode cX3_layBy 26 = .ok (.aload_n 1, 1) := by decide +kernel
theorem dX3_layBy_27 : decode cX3_layBy 27 = .ok (.iload_n 2, 1) := by decide +kernel
theorem dX3_layBy_28 : decode cX3_layBy 28 = .ok (.bipush 16, 2) := by decide +kernel
theorem dX3_layBy_30 : decode cX3_layBy 30 = .ok (.iadd, 1) := by decide +kernel
theorem dX3_layBy_31 : decode cX3_layBy 31 = .ok (.aload_n 0, 1) := by decide +kernel
theorem dX3_layBy_32 : decode cX3_layBy 32 = .ok (.getfield 18, 3) := by decide +kernel
theorem dX3_layBy_35 : decode cX3_layBy 35 = .ok (.iastore, 1) := by decide +kernel
theorem dX3_layBy_36 : decode cX3_layBy 36 = .ok (.return_, 1) := by decide +kernel
theorem dX3_takeUp_0 : decode cX3_takeUp 0 = .ok (.iload_n 2, 1) := by decide +kernel
theorem dX3_takeUp_1 : decode cX3_takeUp 1 = .ok (.ifCond .lt 12, 3) := by decide +kernel
theorem dX3_takeUp_4 : decode cX3_takeUp 4 = .ok (.iload_n 2, 1) := by decide +kernel
theorem dX3_takeUp_5 : decode cX3_takeUp 5 = .ok (.aload_n 1, 1) := by decide +kernel
theorem dX3_takeUp_6 : decode cX3_takeUp 6 = .ok (.arraylength, 1) := by decide +kernel
theorem dX3_takeUp_7 : decode cX3_takeUp 7 = .ok (.bipush 17, 2) := by decide +kernel
theorem dX3_takeUp_9 : decode cX3_takeUp 9 = .ok (.isub, 1) := by decide +kernel
theorem dX3_takeUp_10 : decode cX3_takeUp 10 = .ok (.if_icmp .le 4, 3) := by decide +kernel
theorem dX3_takeUp_13 : decode cX3_takeUp 13 = .ok (.return_, 1) := by decide +kernel
theorem dX3_takeUp_14 : decode cX3_takeUp 14 = .ok (.aload_n 1, 1) := by decide +kernel
theorem dX3_takeUp_15 : decode cX3_takeUp 15 = .ok (.iload_n 2, 1) := by decide +kernel
theorem dX3_takeUp_16 : decode cX3_takeUp 16 = .ok (.aload_n 0, 1) := by decide +kernel
theorem dX3_takeUp_17 : decode cX3_takeUp 17 = .ok (.getfield 9, 3) := by decide +kernel
theorem dX3_takeUp_20 : decode cX3_takeUp 20 = .ok (.iconst 0, 1) := by decide +kernel
theorem dX3_takeUp_21 : decode cX3_takeUp 21 = .ok (.bipush 16, 2) := by decide +kernel
theorem dX3_takeUp_23 : decode cX3_takeUp 23 = .ok (.invokestatic 56, 3) := by decide +kernel
theorem dX3_takeUp_26 : decode cX3_takeUp 26 = .ok (.aload_n 0, 1) := by decide +kernel
theorem dX3_takeUp_27 : decode cX3_takeUp 27 = .ok (.aload_n 1, 1) := by decide +kernel
theorem dX3_takeUp_28 : decode cX3_takeUp 28 = .ok (.iload_n 2, 1) := by decide +kernel
theorem dX3_takeUp_29 : decode cX3_takeUp 29 = .ok (.bipush 16, 2) := by decide +kernel
theorem dX3_takeUp_31 : decode cX3_takeUp 31 = .ok (.iadd, 1) := by decide +kernel
theorem dX3_takeUp_32 : decode cX3_takeUp 32 = .ok (.iaload, 1) := by decide +kernel
theorem dX3_takeUp_33 : decode cX3_takeUp 33 = .ok (.putfield 18, 3) := by decide +kernel
theorem dX3_takeUp_36 : decode cX3_takeUp 36 = .ok (.return_, 1) := by decide +kernel
theorem dX3_becomeNext_0 : decode cX3_becomeNext 0 = .ok (.aload_n 0, 1) := by decide +kernel
theorem dX3_becomeNext_1 : decode cX3_becomeNext 1 = .ok (.getfield 15, 3) := by decide +kernel
theorem dX3_becomeNext_4 : decode cX3_becomeNext 4 = .ok (.iconst 0, 1) := by decide +kernel
theorem dX3_becomeNext_5 : decode cX3_becomeNext 5 = .ok (.aload_n 0, 1) := by decide +kernel
theorem dX3_becomeNext_6 : decode cX3_becomeNext 6 = .ok (.getfield 9, 3) := by decide +kernel
theorem dX3_becomeNext_9 : decode cX3_becomeNext 9 = .ok (.iconst 0, 1) := by decide +kernel
theorem dX3_becomeNext_10 : decode cX3_becomeNext 10 = .ok (.bipush 16, 2) := by decide +kernel
theorem dX3_becomeNext_12 : decode cX3_becomeNext 12 = .ok (.invokestatic 56, 3) := by decide +kernel
theorem dX3_becomeNext_15 : decode cX3_becomeNext 15 = .ok (.return_, 1) := by decide +kernel
theorem dX3_widened_0 : decode cX3_widened 0 = .ok (.iload_n 0, 1) := by decide +kernel
theorem dX3_widened_1 : decode cX3_widened 1 = .ok (.iload_n 0, 1) := by decide +kernel
theorem dX3_widened_2 : decode cX3_widened 2 = .ok (.iconst 1, 1) := by decide +kernel
theorem dX3_widened_3 : decode cX3_widened 3 = .ok (.ishl, 1) := by decide +kernel
theorem dX3_widened_4 : decode cX3_widened 4 = .ok (.ior, 1) := by decide +kernel
theorem dX3_widened_5 : decode cX3_widened 5 = .ok (.iload_n 0, 1) := by decide +kernel
theorem dX3_widened_6 : decode cX3_widened 6 = .ok (.iconst 1, 1) := by decide +kernel
theorem dX3_widened_7 : decode cX3_widened 7 = .ok (.ishr, 1) := by decide +kernel
theorem dX3_widened_8 : decode cX3_widened 8 = .ok (.ior, 1) := by decide +kernel
theorem dX3_widened_9 : decode cX3_widened 9 = .ok (.ldc 22, 2) := by decide +kernel
theorem dX3_widened_11 : decode cX3_widened 11 = .ok (.iand, 1) := by decide +kernel
theorem dX3_widened_12 : decode cX3_widened 12 = .ok (.ireturn, 1) := by decide +kernel
theorem dX3_narrowed_0 : decode cX3_narrowed 0 = .ok (.iload_n 0, 1) := by decide +kernel
theorem dX3_narrowed_1 : decode cX3_narrowed 1 = .ok (.iload_n 0, 1) := by decide +kernel
theorem dX3_narrowed_2 : decode cX3_narrowed 2 = .ok (.iconst 1, 1) := by decide +kernel
theorem dX3_narrowed_3 : decode cX3_narrowed 3 = .ok (.ishl, 1) := by decide +kernel
theorem dX3_narrowed_4 : decode cX3_narrowed 4 = .ok (.iand, 1) := by decide +kernel
theorem dX3_narrowed_5 : decode cX3_narrowed 5 = .ok (.iload_n 0, 1) := by decide +kernel
theorem dX3_narrowed_6 : decode cX3_narrowed 6 = .ok (.iconst 1, 1) := by decide +kernel
theorem dX3_narrowed_7 : decode cX3_narrowed 7 = .ok (.ishr, 1) := by decide +kernel
theorem dX3_narrowed_8 : decode cX3_narrowed 8 = .ok (.iand, 1) := by decide +kernel
theorem dX3_narrowed_9 : decode cX3_narrowed 9 = .ok (.ireturn, 1) := by decide +kernel
theorem dX3_slid_0 : decode cX3_slid 0 = .ok (.iload_n 1, 1) := by decide +kernel
theorem dX3_slid_1 : decode cX3_slid 1 = .ok (.ifCond .ge 10, 3) := by decide +kernel
theorem dX3_slid_4 : decode cX3_slid 4 = .ok (.iload_n 0, 1) := by decide +kernel
theorem dX3_slid_5 : decode cX3_slid 5 = .ok (.iload_n 1, 1) := by decide +kernel
theorem dX3_slid_6 : decode cX3_slid 6 = .ok (.ineg, 1) := by decide +kernel
theorem dX3_slid_7 : decode cX3_slid 7 = .ok (.ishr, 1) := by decide +kernel
theorem dX3_slid_8 : decode cX3_slid 8 = .ok (.goto 9, 3) := by decide +kernel
theorem dX3_slid_11 : decode cX3_slid 11 = .ok (.iload_n 0, 1) := by decide +kernel
theorem dX3_slid_12 : decode cX3_slid 12 = .ok (.iload_n 1, 1) := by decide +kernel
theorem dX3_slid_13 : decode cX3_slid 13 = .ok (.ishl, 1) := by decide +kernel
theorem dX3_slid_14 : decode cX3_slid 14 = .ok (.ldc 22, 2) := by decide +kernel
theorem dX3_slid_16 : decode cX3_slid 16 = .ok (.iand, 1) := by decide +kernel
theorem dX3_slid_17 : decode cX3_slid 17 = .ok (.ireturn, 1) := by decide +kernel
theorem dX4_init_0 : decode cX4_init 0 = .ok (.aload_n 0, 1) := by decide +kernel
theorem dX4_init_1 : decode cX4_init 1 = .ok (.invokespecial 3, 3) := by decide +kernel
theorem dX4_init_4 : decode cX4_init 4 = .ok (.aload_n 0, 1) := by decide +kernel
theorem dX4_init_5 : decode cX4_init 5 = .ok (.bipush 17, 2) := by decide +kernel
theorem dX4_init_7 : decode cX4_init 7 = .ok (.newarray .int, 2) := by decide +kernel
theorem dX4_init_9 : decode cX4_init 9 = .ok (.putfield 9, 3) := by decide +kernel
theorem dX4_init_12 : decode cX4_init 12 = .ok (.aload_n 0, 1) := by decide +kernel
theorem dX4_init_13 : decode cX4_init 13 = .ok (.bipush 16, 2) := by decide +kernel
theorem dX4_init_15 : decode cX4_init 15 = .ok (.newarray .int, 2) := by decide +kernel
theorem dX4_init_17 : decode cX4_init 17 = .ok (.putfield 15, 3) := by decide +kernel
theorem dX4_init_20 : decode cX4_init 20 = .ok (.aload_n 0, 1) := by decide +kernel
theorem dX4_init_21 : decode cX4_init 21 = .ok (.sipush 256, 3) := by decide +kernel
theorem dX4_init_24 : decode cX4_init 24 = .ok (.newarray .int, 2) := by decide +kernel
theorem dX4_init_26 : decode cX4_init 26 = .ok (.putfield 18, 3) := by decide +kernel
theorem dX4_init_29 : decode cX4_init 29 = .ok (.aload_n 0, 1) := by decide +kernel
theorem dX4_init_30 : decode cX4_init 30 = .ok (.sipush 256, 3) := by decide +kernel
theorem dX4_init_33 : decode cX4_init 33 = .ok (.newarray .int, 2) := by decide +kernel
theorem dX4_init_35 : decode cX4_init 35 = .ok (.putfield 21, 3) := by decide +kernel
theorem dX4_init_38 : decode cX4_init 38 = .ok (.aload_n 0, 1) := by decide +kernel
theorem dX4_init_39 : decode cX4_init 39 = .ok (.sipush 256, 3) := by decide +kernel
theorem dX4_init_42 : decode cX4_init 42 = .ok (.newarray .int, 2) := by decide +kernel
theorem dX4_init_44 : decode cX4_init 44 = .ok (.putfield 24, 3) := by decide +kernel
theorem dX4_init_47 : decode cX4_init 47 = .ok (.aload_n 0, 1) := by decide +kernel
theorem dX4_init_48 : decode cX4_init 48 = .ok (.sipush 256, 3) := by decide +kernel
theorem dX4_init_51 : decode cX4_init 51 = .ok (.newarray .boolean, 2) := by decide +kernel
theorem dX4_init_53 : decode cX4_init 53 = .ok (.putfield 27, 3) := by decide +kernel
theorem dX4_init_56 : decode cX4_init 56 = .ok (.aload_n 0, 1) := by decide +kernel
theorem dX4_init_57 : decode cX4_init 57 = .ok (.sipush 256, 3) := by decide +kernel
theorem dX4_init_60 : decode cX4_init 60 = .ok (.newarray .int, 2) := by decide +kernel
theorem dX4_init_62 : decode cX4_init 62 = .ok (.putfield 31, 3) := by decide +kernel
theorem dX4_init_65 : decode cX4_init 65 = .ok (.aload_n 0, 1) := by decide +kernel
theorem dX4_init_66 : decode cX4_init 66 = .ok (.iconst 0, 1) := by decide +kernel
theorem dX4_init_67 : decode cX4_init 67 = .ok (.putfield 34, 3) := by decide +kernel
theorem dX4_init_70 : decode cX4_init 70 = .ok (.return_, 1) := by decide +kernel
set_option maxRecDepth 20000 in
theorem ggX4_read_X3_line : GoodIn wsX4_read wsX3_line := goodIn_r _ [9, 10, 81, 82, 83] (by decide +kernel) (by decide +kernel)
set_option maxRecDepth 20000 in
theorem gX4_read_X3_line : GoodIn wsX4_read (wsV RX4 38 RX3 yX3_line wsX3_line) := goodIn_app (goodIn_of _ (by decide +kernel)) ggX4_read_X3_line
set_option maxRecDepth 20000 in
theorem ggX4_read_X4_cut : GoodIn wsX4_read wsX4_cut := goodIn_r _ [15, 16, 17, 18, 14, 19, 1, 20, 21, 22, 23, 24, 73, 74, 75, 76, 77, 78, 79, 80] (by decide +kernel) (by decide +kernel)
set_option maxRecDepth 20000 in
theorem gX4_read_X4_cut : GoodIn wsX4_read (wsV RX4 45 RX4 yX4_cut wsX4_cut) := goodIn_app (goodIn_of _ (by decide +kernel)) ggX4_read_X4_cut
set_option maxRecDepth 20000 in
theorem ggX4_read_X3_cornersJoin : GoodIn wsX4_read wsX3_cornersJoin := goodIn_r _ [28, 29, 81, 82, 83] (by decide +kernel) (by decide +kernel)
set_option maxRecDepth 20000 in
theorem gX4_read_X3_cornersJoin : GoodIn wsX4_read (wsV RX4 49 RX3 yX3_cornersJoin wsX3_cornersJoin) := goodIn_app (goodIn_of _ (by decide +kernel)) ggX4_read_X3_cornersJoin
set_option maxRecDepth 20000 in
theorem ggX4_read_X4_joinToRowAbove : GoodIn wsX4_read wsX4_joinToRowAbove := goodIn_r _ [33, 2, 34, 35, 36, 14, 37, 38, 39, 40, 41, 23, 42, 43, 44, 45, 21, 46, 47, 48, 49, 22, 50, 51, 52, 53, 24, 54, 55, 56, 57, 58, 59, 60, 61, 62, 63, 64, 73, 74, 75, 76, 77, 78, 79, 80] (by decide +kernel) (by decide +kernel)
set_option maxRecDepth 20000 in
theorem gX4_read_X4_joinToRowAbove : GoodIn wsX4_read (wsV RX4 53 RX4 yX4_joinToRowAbove wsX4_joinToRowAbove) := goodIn_app (goodIn_of _ (by decide +kernel)) ggX4_read_X4_joinToRowAbove
set_option maxRecDepth 20000 in
theorem ggX4_read_X4_settle : GoodIn wsX4_read wsX4_settle := goodIn_r _ [68, 1, 24, 69, 70, 71, 14, 72, 73, 74, 75, 76, 77, 78, 79, 80] (by decide +kernel) (by decide +kernel)
set_option maxRecDepth 20000 in
theorem gX4_read_X4_settle : GoodIn wsX4_read (wsV RX4 57 RX4 yX4_settle wsX4_settle) := goodIn_app (goodIn_of _ (by decide +kernel)) ggX4_read_X4_settle
theorem dX4_read_0 : decode cX4_read 0 = .ok (.aload_n 0, 1) := by decide +kernel
theorem dX4_read_1 : decode cX4_read 1 = .ok (.iconst 0, 1) := by decide +kernel
theorem dX4_read_2 : decode cX4_read 2 = .ok (.putfield 34, 3) := by decide +kernel
theorem dX4_read_5 : decode cX4_read 5 = .ok (.iconst 0, 1) := by decide +kernel
theorem dX4_read_6 : decode cX4_read 6 = .ok (.istore_n 2, 1) := by decide +kernel
theorem dX4_read_7 : decode cX4_read 7 = .ok (.iload_n 2, 1) := by decide +kernel
theorem dX4_read_8 : decode cX4_read 8 = .ok (.bipush 16, 2) := by decide +kernel
theorem dX4_read_10 : decode cX4_read 10 = .ok (.if_icmp .ge 51, 3) := by decide +kernel
theorem dX4_read_13 : decode cX4_read 13 = .ok (.aload_n 0, 1) := by decide +kernel
theorem dX4_read_14 : decode cX4_read 14 = .ok (.getfield 9, 3) := by decide +kernel
theorem dX4_read_17 : decode cX4_read 17 = .ok (.iload_n 2, 1) := by decide +kernel
theorem dX4_read_18 : decode cX4_read 18 = .ok (.aload_n 0, 1) := by decide +kernel
theorem dX4_read_19 : decode cX4_read 19 = .ok (.getfield 34, 3) := by decide +kernel
theorem dX4_read_22 : decode cX4_read 22 = .ok (.iastore, 1) := by decide +kernel
theorem dX4_read_23 : decode cX4_read 23 = .ok (.aload_n 0, 1) := by decide +kernel
theorem dX4_read_24 : decode cX4_read 24 = .ok (.getfield 15, 3) := by decide +kernel
theorem dX4_read_27 : decode cX4_read 27 = .ok (.iload_n 2, 1) := by decide +kernel
theorem dX4_read_28 : decode cX4_read 28 = .ok (.aload_n 1, 1) := by decide +kernel
theorem dX4_read_29 : decode cX4_read 29 = .ok (.iload_n 2, 1) := by decide +kernel
theorem dX4_read_30 : decode cX4_read 30 = .ok (.invokevirtual 38, 3) := by decide +kernel
theorem dX4_read_33 : decode cX4_read 33 = .ok (.aload_n 1, 1) := by decide +kernel
theorem dX4_read_34 : decode cX4_read 34 = .ok (.iload_n 2, 1) := by decide +kernel
theorem dX4_read_35 : decode cX4_read 35 = .ok (.invokevirtual 38, 3) := by decide +kernel
theorem dX4_read_38 : decode cX4_read 38 = .ok (.iconst 1, 1) := by decide +kernel
theorem dX4_read_39 : decode cX4_read 39 = .ok (.ishl, 1) := by decide +kernel
theorem dX4_read_40 : decode cX4_read 40 = .ok (.ixor, 1) := by decide +kernel
theorem dX4_read_41 : decode cX4_read 41 = .ok (.ldc 44, 2) := by decide +kernel
theorem dX4_read_43 : decode cX4_read 43 = .ok (.iand, 1) := by decide +kernel
theorem dX4_read_44 : decode cX4_read 44 = .ok (.iastore, 1) := by decide +kernel
theorem dX4_read_45 : decode cX4_read 45 = .ok (.aload_n 0, 1) := by decide +kernel
theorem dX4_read_46 : decode cX4_read 46 = .ok (.iload_n 2, 1) := by decide +kernel
theorem dX4_read_47 : decode cX4_read 47 = .ok (.aload_n 1, 1) := by decide +kernel
theorem dX4_read_48 : decode cX4_read 48 = .ok (.iload_n 2, 1) := by decide +kernel
theorem dX4_read_49 : decode cX4_read 49 = .ok (.invokevirtual 38, 3) := by decide +kernel
theorem dX4_read_52 : decode cX4_read 52 = .ok (.invokevirtual 45, 3) := by decide +kernel
theorem dX4_read_55 : decode cX4_read 55 = .ok (.iinc 2 1, 3) := by decide +kernel
theorem dX4_read_58 : decode cX4_read 58 = .ok (.goto (-51), 3) := by decide +kernel
theorem dX4_read_61 : decode cX4_read 61 = .ok (.aload_n 0, 1) := by decide +kernel
theorem dX4_read_62 : decode cX4_read 62 = .ok (.getfield 9, 3) := by decide +kernel
theorem dX4_read_65 : decode cX4_read 65 = .ok (.bipush 16, 2) := by decide +kernel
theorem dX4_read_67 : decode cX4_read 67 = .ok (.aload_n 0, 1) := by decide +kernel
theorem dX4_read_68 : decode cX4_read 68 = .ok (.getfield 34, 3) := by decide +kernel
theorem dX4_read_71 : decode cX4_read 71 = .ok (.iastore, 1) := by decide +kernel
theorem dX4_read_72 : decode cX4_read 72 = .ok (.aload_n 1, 1) := by decide +kernel
theorem dX4_read_73 : decode cX4_read 73 = .ok (.invokevirtual 49, 3) := by decide +kernel
theorem dX4_read_76 : decode cX4_read 76 = .ok (.ifCond .eq 7, 3) := by decide +kernel
theorem dX4_read_79 : decode cX4_read 79 = .ok (.iconst 1, 1) := by decide +kernel
theorem dX4_read_80 : decode cX4_read 80 = .ok (.goto 4, 3) := by decide +kernel
theorem dX4_read_83 : decode cX4_read 83 = .ok (.iconst 0, 1) := by decide +kernel
theorem dX4_read_84 : decode cX4_read 84 = .ok (.istore_n 2, 1) := by decide +kernel
theorem dX4_read_85 : decode cX4_read 85 = .ok (.iconst 1, 1) := by decide +kernel
theorem dX4_read_86 : decode cX4_read 86 = .ok (.istore_n 3, 1) := by decide +kernel
theorem dX4_read_87 : decode cX4_read 87 = .ok (.iload_n 3, 1) := by decide +kernel
theorem dX4_read_88 : decode cX4_read 88 = .ok (.bipush 16, 2) := by decide +kernel
theorem dX4_read_90 : decode cX4_read 90 = .ok (.if_icmp .ge 25, 3) := by decide +kernel
theorem dX4_read_93 : decode cX4_read 93 = .ok (.aload_n 0, 1) := by decide +kernel
theorem dX4_read_94 : decode cX4_read 94 = .ok (.iload_n 3, 1) := by decide +kernel
theorem dX4_read_95 : decode cX4_read 95 = .ok (.iconst 1, 1) := by decide +kernel
theorem dX4_read_96 : decode cX4_read 96 = .ok (.iload_n 2, 1) := by decide +kernel
theorem dX4_read_97 : decode cX4_read 97 = .ok (.invokevirtual 53, 3) := by decide +kernel
theorem dX4_read_100 : decode cX4_read 100 = .ok (.aload_n 0, 1) := by decide +kernel
theorem dX4_read_101 : decode cX4_read 101 = .ok (.iload_n 3, 1) := by decide +kernel
theorem dX4_read_102 : decode cX4_read 102 = .ok (.iconst 0, 1) := by decide +kernel
theorem dX4_read_103 : decode cX4_read 103 = .ok (.iconst 1, 1) := by decide +kernel
theorem dX4_read_104 : decode cX4_read 104 = .ok (.iload_n 2, 1) := by decide +kernel
theorem dX4_read_105 : decode cX4_read 105 = .ok (.isub, 1) := by decide +kernel
theorem dX4_read_106 : decode cX4_read 106 = .ok (.invokevirtual 53, 3) := by decide +kernel
theorem dX4_read_109 : decode cX4_read 109 = .ok (.iinc 3 1, 3) := by decide +kernel
theorem dX4_read_112 : decode cX4_read 112 = .ok (.goto (-25), 3) := by decide +kernel
theorem dX4_read_115 : decode cX4_read 115 = .ok (.aload_n 0, 1) := by decide +kernel
theorem dX4_read_116 : decode cX4_read 116 = .ok (.invokevirtual 57, 3) := by decide +kernel
theorem dX4_read_119 : decode cX4_read 119 = .ok (.return_, 1) := by decide +kernel
theorem dX4_darkGroups_0 : decode cX4_darkGroups 0 = .ok (.iconst 0, 1) := by decide +kernel
theorem dX4_darkGroups_1 : decode cX4_darkGroups 1 = .ok (.istore_n 1, 1) := by decide +kernel
theorem dX4_darkGroups_2 : decode cX4_darkGroups 2 = .ok (.iconst 0, 1) := by decide +kernel
theorem dX4_darkGroups_3 : decode cX4_darkGroups 3 = .ok (.istore_n 2, 1) := by decide +kernel
theorem dX4_darkGroups_4 : decode cX4_darkGroups 4 = .ok (.iload_n 2, 1) := by decide +kernel
theorem dX4_darkGroups_5 : decode cX4_darkGroups 5 = .ok (.aload_n 0, 1) := by decide +kernel
theorem dX4_darkGroups_6 : decode cX4_darkGroups 6 = .ok (.getfield 34, 3) := by decide +kernel
theorem dX4_darkGroups_9 : decode cX4_darkGroups 9 = .ok (.if_icmp .ge 43, 3) := by decide +kernel
theorem dX4_darkGroups_12 : decode cX4_darkGroups 12 = .ok (.iload_n 2, 1) := by decide +kernel
theorem dX4_darkGroups_13 : decode cX4_darkGroups 13 = .ok (.sipush 256, 3) := by decide +kernel
theorem dX4_darkGroups_16 : decode cX4_darkGroups 16 = .ok (.if_icmp .ge 36, 3) := by decide +kernel
theorem dX4_darkGroups_19 : decode cX4_darkGroups 19 = .ok (.iload_n 1, 1) := by decide +kernel
theorem dX4_darkGroups_20 : decode cX4_darkGroups 20 = .ok (.aload_n 0, 1) := by decide +kernel
theorem dX4_darkGroups_21 : decode cX4_darkGroups 21 = .ok (.getfield 27, 3) := by decide +kernel
theorem dX4_darkGroups_24 : decode cX4_darkGroups 24 = .ok (.iload_n 2, 1) := by decide +kernel
theorem dX4_darkGroups_25 : decode cX4_darkGroups 25 = .ok (.baload, 1) := by decide +kernel
theorem dX4_darkGroups_26 : decode cX4_darkGroups 26 = .ok (.ifCond .eq 17, 3) := by decide +kernel
theorem dX4_darkGroups_29 : decode cX4_darkGroups 29 = .ok (.aload_n 0, 1) := by decide +kernel
theorem dX4_darkGroups_30 : decode cX4_darkGroups 30 = .ok (.getfield 31, 3) := by decide +kernel
theorem dX4_darkGroups_33 : decode cX4_darkGroups 33 = .ok (.iload_n 2, 1) := by decide +kernel
theorem dX4_darkGroups_34 : decode cX4_darkGroups 34 = .ok (.iaload, 1) := by decide +kernel
theorem dX4_darkGroups_35 : decode cX4_darkGroups 35 = .ok (.iload_n 2, 1) := by decide +kernel
theorem dX4_darkGroups_36 : decode cX4_darkGroups 36 = .ok (.if_icmp .ne 7, 3) := by decide +kernel
theorem dX4_darkGroups_39 : decode cX4_darkGroups 39 = .ok (.iconst 1, 1) := by decide +kernel
theorem dX4_darkGroups_40 : decode cX4_darkGroups 40 = .ok (.goto 4, 3) := by decide +kernel
theorem dX4_darkGroups_43 : decode cX4_darkGroups 43 = .ok (.iconst 0, 1) := by decide +kernel
theorem dX4_darkGroups_44 : decode cX4_darkGroups 44 = .ok (.iadd, 1) := by decide +kernel
theorem dX4_darkGroups_45 : decode cX4_darkGroups 45 = .ok (.istore_n 1, 1) := by decide +kernel
theorem dX4_darkGroups_46 : decode cX4_darkGroups 46 = .ok (.iinc 2 1, 3) := by decide +kernel
theorem dX4_darkGroups_49 : decode cX4_darkGroups 49 = .ok (.goto (-45), 3) := by decide +kernel
theorem dX4_darkGroups_52 : decode cX4_darkGroups 52 = .ok (.iload_n 1, 1) := by decide +kernel
theorem dX4_darkGroups_53 : decode cX4_darkGroups 53 = .ok (.ireturn, 1) := by decide +kernel
theorem dX4_isDark_0 : decode cX4_isDark 0 = .ok (.aload_n 0, 1) := by decide +kernel
theorem dX4_isDark_1 : decode cX4_isDark 1 = .ok (.getfield 27, 3) := by decide +kernel
theorem dX4_isDark_4 : decode cX4_isDark 4 = .ok (.iload_n 1, 1) := by decide +kernel
theorem dX4_isDark_5 : decode cX4_isDark 5 = .ok (.sipush 255, 3) := by decide +kernel
theorem dX4_isDark_8 : decode cX4_isDark 8 = .ok (.iand, 1) := by decide +kernel
theorem dX4_isDark_9 : decode cX4_isDark 9 = .ok (.baload, 1) := by decide +kernel
theorem dX4_isDark_10 : decode cX4_isDark 10 = .ok (.ireturn, 1) := by decide +kernel
theorem dX4_groupOf_0 : decode cX4_groupOf 0 = .ok (.aload_n 0, 1) := by decide +kernel
theorem dX4_groupOf_1 : decode cX4_groupOf 1 = .ok (.getfield 31, 3) := by decide +kernel
theorem dX4_groupOf_4 : decode cX4_groupOf 4 = .ok (.iload_n 1, 1) := by decide +kernel
theorem dX4_groupOf_5 : decode cX4_groupOf 5 = .ok (.sipush 255, 3) := by decide +kernel
theorem dX4_groupOf_8 : decode cX4_groupOf 8 = .ok (.iand, 1) := by decide +kernel
theorem dX4_groupOf_9 : decode cX4_groupOf 9 = .ok (.iaload, 1) := by decide +kernel
theorem dX4_groupOf_10 : decode cX4_groupOf 10 = .ok (.ireturn, 1) := by decide +kernel
theorem dX4_lineOf_0 : decode cX4_lineOf 0 = .ok (.aload_n 0, 1) := by decide +kernel
theorem dX4_lineOf_1 : decode cX4_lineOf 1 = .ok (.getfield 24, 3) := by decide +kernel
theorem dX4_lineOf_4 : decode cX4_lineOf 4 = .ok (.iload_n 1, 1) := by decide +kernel
theorem dX4_lineOf_5 : decode cX4_lineOf 5 = .ok (.sipush 255, 3) := by decide +kernel
theorem dX4_lineOf_8 : decode cX4_lineOf 8 = .ok (.iand, 1) := by decide +kernel
theorem dX4_lineOf_9 : decode cX4_lineOf 9 = .ok (.iaload, 1) := by decide +kernel
theorem dX4_lineOf_10 : decode cX4_lineOf 10 = .ok (.ireturn, 1) := by decide +kernel
theorem dX4_start_0 : decode cX4_start 0 = .ok (.aload_n 0, 1) := by decide +kernel
theorem dX4_start_1 : decode cX4_start 1 = .ok (.getfield 18, 3) := by decide +kernel
theorem dX4_start_4 : decode cX4_start 4 = .ok (.iload_n 1, 1) := by decide +kernel
theorem dX4_start_5 : decode cX4_start 5 = .ok (.sipush 255, 3) := by decide +kernel
theorem dX4_start_8 : decode cX4_start 8 = .ok (.iand, 1) := by decide +kernel
theorem dX4_start_9 : decode cX4_start 9 = .ok (.iaload, 1) := by decide +kernel
theorem dX4_start_10 : decode cX4_start 10 = .ok (.ireturn, 1) := by decide +kernel
theorem dX4_end_0 : decode cX4_end 0 = .ok (.aload_n 0, 1) := by decide +kernel
theorem dX4_end_1 : decode cX4_end 1 = .ok (.getfield 21, 3) := by decide +kernel
theorem dX4_end_4 : decode cX4_end 4 = .ok (.iload_n 1, 1) := by decide +kernel
theorem dX4_end_5 : decode cX4_end 5 = .ok (.sipush 255, 3) := by decide +kernel
theorem dX4_end_8 : decode cX4_end 8 = .ok (.iand, 1) := by decide +kernel
theorem dX4_end_9 : decode cX4_end 9 = .ok (.iaload, 1) := by decide +kernel
theorem dX4_end_10 : decode cX4_end 10 = .ok (.ireturn, 1) := by decide +kernel
set_option maxRecDepth 20000 in
theorem ggX4_length_X4_end : GoodIn wsX4_length wsX4_end := goodIn_r _ [5, 6, 12, 13, 14, 15, 16, 17, 18, 19] (by decide +kernel) (by decide +kernel)
set_option maxRecDepth 20000 in
theorem gX4_length_X4_end : GoodIn wsX4_length (wsV RX4 60 RX4 yX4_end wsX4_end) := goodIn_app (goodIn_of _ (by decide +kernel)) ggX4_length_X4_end
set_option maxRecDepth 20000 in
theorem ggX4_length_X4_start : GoodIn wsX4_length wsX4_start := goodIn_r _ [10, 11, 12, 13, 14, 15, 16, 17, 18, 19] (by decide +kernel) (by decide +kernel)
set_option maxRecDepth 20000 in
theorem gX4_length_X4_start : GoodIn wsX4_length (wsV RX4 63 RX4 yX4_start wsX4_start) := goodIn_app (goodIn_of _ (by decide +kernel)) ggX4_length_X4_start
theorem dX4_length_0 : decode cX4_length 0 = .ok (.aload_n 0, 1) := by decide +kernel
theorem dX4_length_1 : decode cX4_length 1 = .ok (.iload_n 1, 1) := by decide +kernel
theorem dX4_length_2 : decode cX4_length 2 = .ok (.invokevirtual 60, 3) := by decide +kernel
theorem dX4_length_5 : decode cX4_length 5 = .ok (.aload_n 0, 1) := by decide +kernel
theorem dX4_length_6 : decode cX4_length 6 = .ok (.iload_n 1, 1) := by decide +kernel
theorem dX4_length_7 : decode cX4_length 7 = .ok (.invokevirtual 63, 3) := by decide +kernel
theorem dX4_length_10 : decode cX4_length 10 = .ok (.isub, 1) := by decide +kernel
theorem dX4_length_11 : decode cX4_length 11 = .ok (.iconst 1, 1) := by decide +kernel
theorem dX4_length_12 : decode cX4_length 12 = .ok (.iadd, 1) := by decide +kernel
theorem dX4_length_13 : decode cX4_length 13 = .ok (.ireturn, 1) := by decide +kernel
set_option maxRecDepth 20000 in
theorem ggX4_columns_X4_end : GoodIn wsX4_columns wsX4_end := goodIn_r _ [5, 6, 12, 13, 14, 15, 16, 17, 18, 19] (by decide +kernel) (by decide +kernel)
set_option maxRecDepth 20000 in
theorem gX4_columns_X4_end : GoodIn wsX4_columns (wsV RX4 60 RX4 yX4_end wsX4_end) := goodIn_app (goodIn_of _ (by decide +kernel)) ggX4_columns_X4_end
set_option maxRecDepth 20000 in
theorem ggX4_columns_X4_start : GoodIn wsX4_columns wsX4_start := goodIn_r _ [10, 11, 12, 13, 14, 15, 16, 17, 18, 19] (by decide +kernel) (by decide +kernel)
set_option maxRecDepth 20000 in
theorem gX4_columns_X4_start : GoodIn wsX4_columns (wsV RX4 63 RX4 yX4_start wsX4_start) := goodIn_app (goodIn_of _ (by decide +kernel)) ggX4_columns_X4_start
theorem dX4_columns_0 : decode cX4_columns 0 = .ok (.iconst 2, 1) := by decide +kernel
theorem dX4_columns_1 : decode cX4_columns 1 = .ok (.aload_n 0, 1) := by decide +kernel
theorem dX4_columns_2 : decode cX4_columns 2 = .ok (.iload_n 1, 1) := by decide +kernel
theorem dX4_columns_3 : decode cX4_columns 3 = .ok (.invokevirtual 60, 3) := by decide +kernel
theorem dX4_columns_6 : decode cX4_columns 6 = .ok (.ishl, 1) := by decide +kernel
theorem dX4_columns_7 : decode cX4_columns 7 = .ok (.iconst 1, 1) := by decide +kernel
theorem dX4_columns_8 : decode cX4_columns 8 = .ok (.aload_n 0, 1) := by decide +kernel
theorem dX4_columns_9 : decode cX4_columns 9 = .ok (.iload_n 1, 1) := by decide +kernel
theorem dX4_columns_10 : decode cX4_columns 10 = .ok (.invokevirtual 63, 3) := by decide +kernel
theorem dX4_columns_13 : decode cX4_columns 13 = .ok (.ishl, 1) := by decide +kernel
theorem dX4_columns_14 : decode cX4_columns 14 = .ok (.isub, 1) := by decide +kernel
theorem dX4_columns_15 : decode cX4_columns 15 = .ok (.ireturn, 1) := by decide +kernel
set_option maxRecDepth 20000 in
theorem ggX4_runAt_J6_bitCount_0f7a4 : GoodIn wsX4_runAt wsJ6_bitCount_0f7a4 := goodIn_r _ [6, 7, 8, 9] (by decide +kernel) (by decide +kernel)
set_option maxRecDepth 20000 in
theorem gX4_runAt_J6_bitCount_0f7a4 : GoodIn wsX4_runAt (va_wsS RX4 66 yJ6_bitCount_0f7a4 wsJ6_bitCount_0f7a4) := goodIn_app (goodIn_of _ (by decide +kernel)) ggX4_runAt_J6_bitCount_0f7a4
theorem dX4_runAt_0 : decode cX4_runAt 0 = .ok (.aload_n 0, 1) := by decide +kernel
theorem dX4_runAt_1 : decode cX4_runAt 1 = .ok (.getfield 9, 3) := by decide +kernel
theorem dX4_runAt_4 : decode cX4_runAt 4 = .ok (.iload_n 1, 1) := by decide +kernel
theorem dX4_runAt_5 : decode cX4_runAt 5 = .ok (.bipush 15, 2) := by decide +kernel
theorem dX4_runAt_7 : decode cX4_runAt 7 = .ok (.iand, 1) := by decide +kernel
theorem dX4_runAt_8 : decode cX4_runAt 8 = .ok (.iaload, 1) := by decide +kernel
theorem dX4_runAt_9 : decode cX4_runAt 9 = .ok (.aload_n 0, 1) := by decide +kernel
theorem dX4_runAt_10 : decode cX4_runAt 10 = .ok (.getfield 15, 3) := by decide +kernel
theorem dX4_runAt_13 : decode cX4_runAt 13 = .ok (.iload_n 1, 1) := by decide +kernel
theorem dX4_runAt_14 : decode cX4_runAt 14 = .ok (.bipush 15, 2) := by decide +kernel
theorem dX4_runAt_16 : decode cX4_runAt 16 = .ok (.iand, 1) := by decide +kernel
theorem dX4_runAt_17 : decode cX4_runAt 17 = .ok (.iaload, 1) := by decide +kernel
theorem dX4_runAt_18 : decode cX4_runAt 18 = .ok (.iconst 2, 1) := by decide +kernel
theorem dX4_runAt_19 : decode cX4_runAt 19 = .ok (.iload_n 2, 1) := by decide +kernel
theorem dX4_runAt_20 : decode cX4_runAt 20 = .ok (.ishl, 1) := by decide +kernel
theorem dX4_runAt_21 : decode cX4_runAt 21 = .ok (.iconst 1, 1) := by decide +kernel
theorem dX4_runAt_22 : decode cX4_runAt 22 = .ok (.isub, 1) := by decide +kernel
theorem dX4_runAt_23 : decode cX4_runAt 23 = .ok (.iand, 1) := by decide +kernel
theorem dX4_runAt_24 : decode cX4_runAt 24 = .ok (.invokestatic 66, 3) := by decide +kernel
theorem dX4_runAt_27 : decode cX4_runAt 27 = .ok (.iadd, 1) := by decide +kernel
theorem dX4_runAt_28 : decode cX4_runAt 28 = .ok (.ireturn, 1) := by decide +kernel
set_option maxRecDepth 20000 in
theorem ggX4_cut_X4_add : GoodIn wsX4_cut wsX4_add := goodIn_r _ [5, 6, 7, 8, 9, 10, 11, 12, 13, 14, 15, 16, 17, 18, 19] (by decide +kernel) (by decide +kernel)
set_option maxRecDepth 20000 in
theorem gX4_cut_X4_add : GoodIn wsX4_cut (wsV RX4 71 RX4 yX4_add wsX4_add) := goodIn_app (goodIn_of _ (by decide +kernel)) ggX4_cut_X4_add
theorem dX4_cut_0 : decode cX4_cut 0 = .ok (.iconst 0, 1) := by decide +kernel
theorem dX4_cut_1 : decode cX4_cut 1 = .ok (.istore_n 3, 1) := by decide +kernel
theorem dX4_cut_2 : decode cX4_cut 2 = .ok (.iconst 1, 1) := by decide +kernel
theorem dX4_cut_3 : decode cX4_cut 3 = .ok (.istore 4, 2) := by decide +kernel
