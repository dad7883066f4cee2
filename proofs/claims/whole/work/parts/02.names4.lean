theorem dX6_floods_33 : decode cX6_floods 33 = .ok (.iconst 0, 1) := by decide +kernel
theorem dX6_floods_34 : decode cX6_floods 34 = .ok (.istore 6, 2) := by decide +kernel
theorem dX6_floods_36 : decode cX6_floods 36 = .ok (.iconst 0, 1) := by decide +kernel
theorem dX6_floods_37 : decode cX6_floods 37 = .ok (.istore 7, 2) := by decide +kernel
theorem dX6_floods_39 : decode cX6_floods 39 = .ok (.iconst 1, 1) := by decide +kernel
theorem dX6_floods_40 : decode cX6_floods 40 = .ok (.istore 8, 2) := by decide +kernel
theorem dX6_floods_42 : decode cX6_floods 42 = .ok (.aload_n 0, 1) := by decide +kernel
theorem dX6_floods_43 : decode cX6_floods 43 = .ok (.getfield 19, 3) := by decide +kernel
theorem dX6_floods_46 : decode cX6_floods 46 = .ok (.iconst 0, 1) := by decide +kernel
theorem dX6_floods_47 : decode cX6_floods 47 = .ok (.iload_n 2, 1) := by decide +kernel
theorem dX6_floods_48 : decode cX6_floods 48 = .ok (.iastore, 1) := by decide +kernel
theorem dX6_floods_49 : decode cX6_floods 49 = .ok (.aload_n 0, 1) := by decide +kernel
theorem dX6_floods_50 : decode cX6_floods 50 = .ok (.getfield 16, 3) := by decide +kernel
theorem dX6_floods_53 : decode cX6_floods 53 = .ok (.iload_n 2, 1) := by decide +kernel
theorem dX6_floods_54 : decode cX6_floods 54 = .ok (.iload_n 3, 1) := by decide +kernel
theorem dX6_floods_55 : decode cX6_floods 55 = .ok (.iastore, 1) := by decide +kernel
theorem dX6_floods_56 : decode cX6_floods 56 = .ok (.iload 7, 2) := by decide +kernel
theorem dX6_floods_58 : decode cX6_floods 58 = .ok (.iload 8, 2) := by decide +kernel
theorem dX6_floods_60 : decode cX6_floods 60 = .ok (.if_icmp .ge 194, 3) := by decide +kernel
theorem dX6_floods_63 : decode cX6_floods 63 = .ok (.aload_n 0, 1) := by decide +kernel
theorem dX6_floods_64 : decode cX6_floods 64 = .ok (.getfield 19, 3) := by decide +kernel
theorem dX6_floods_67 : decode cX6_floods 67 = .ok (.iload 7, 2) := by decide +kernel
theorem dX6_floods_69 : decode cX6_floods 69 = .ok (.iaload, 1) := by decide +kernel
theorem dX6_floods_70 : decode cX6_floods 70 = .ok (.bipush 16, 2) := by decide +kernel
theorem dX6_floods_72 : decode cX6_floods 72 = .ok (.idiv, 1) := by decide +kernel
theorem dX6_floods_73 : decode cX6_floods 73 = .ok (.istore 9, 2) := by decide +kernel
theorem dX6_floods_75 : decode cX6_floods 75 = .ok (.aload_n 0, 1) := by decide +kernel
theorem dX6_floods_76 : decode cX6_floods 76 = .ok (.getfield 19, 3) := by decide +kernel
theorem dX6_floods_79 : decode cX6_floods 79 = .ok (.iload 7, 2) := by decide +kernel
theorem dX6_floods_81 : decode cX6_floods 81 = .ok (.iaload, 1) := by decide +kernel
theorem dX6_floods_82 : decode cX6_floods 82 = .ok (.bipush 16, 2) := by decide +kernel
theorem dX6_floods_84 : decode cX6_floods 84 = .ok (.irem, 1) := by decide +kernel
theorem dX6_floods_85 : decode cX6_floods 85 = .ok (.istore 10, 2) := by decide +kernel
theorem dX6_floods_87 : decode cX6_floods 87 = .ok (.iinc 7 1, 3) := by decide +kernel
theorem dX6_floods_90 : decode cX6_floods 90 = .ok (.iload 6, 2) := by decide +kernel
theorem dX6_floods_92 : decode cX6_floods 92 = .ok (.ifCond .ne 27, 3) := by decide +kernel
theorem dX6_floods_95 : decode cX6_floods 95 = .ok (.iload 9, 2) := by decide +kernel
theorem dX6_floods_97 : decode cX6_floods 97 = .ok (.ifCond .eq 22, 3) := by decide +kernel
theorem dX6_floods_100 : decode cX6_floods 100 = .ok (.iload 10, 2) := by decide +kernel
theorem dX6_floods_102 : decode cX6_floods 102 = .ok (.ifCond .eq 17, 3) := by decide +kernel
theorem dX6_floods_105 : decode cX6_floods 105 = .ok (.iload 9, 2) := by decide +kernel
theorem dX6_floods_107 : decode cX6_floods 107 = .ok (.bipush 15, 2) := by decide +kernel
theorem dX6_floods_109 : decode cX6_floods 109 = .ok (.if_icmp .eq 10, 3) := by decide +kernel
theorem dX6_floods_112 : decode cX6_floods 112 = .ok (.iload 10, 2) := by decide +kernel
theorem dX6_floods_114 : decode cX6_floods 114 = .ok (.bipush 15, 2) := by decide +kernel
theorem dX6_floods_116 : decode cX6_floods 116 = .ok (.if_icmp .ne 7, 3) := by decide +kernel
theorem dX6_floods_119 : decode cX6_floods 119 = .ok (.iconst 1, 1) := by decide +kernel
theorem dX6_floods_120 : decode cX6_floods 120 = .ok (.goto 4, 3) := by decide +kernel
theorem dX6_floods_123 : decode cX6_floods 123 = .ok (.iconst 0, 1) := by decide +kernel
theorem dX6_floods_124 : decode cX6_floods 124 = .ok (.istore 6, 2) := by decide +kernel
theorem dX6_floods_126 : decode cX6_floods 126 = .ok (.iconst 0, 1) := by decide +kernel
theorem dX6_floods_127 : decode cX6_floods 127 = .ok (.istore 11, 2) := by decide +kernel
theorem dX6_floods_129 : decode cX6_floods 129 = .ok (.iload 11, 2) := by decide +kernel
theorem dX6_floods_131 : decode cX6_floods 131 = .ok (.bipush 9, 2) := by decide +kernel
theorem dX6_floods_133 : decode cX6_floods 133 = .ok (.if_icmp .ge 118, 3) := by decide +kernel
theorem dX6_floods_136 : decode cX6_floods 136 = .ok (.iload 9, 2) := by decide +kernel
theorem dX6_floods_138 : decode cX6_floods 138 = .ok (.iload 11, 2) := by decide +kernel
theorem dX6_floods_140 : decode cX6_floods 140 = .ok (.iconst 3, 1) := by decide +kernel
theorem dX6_floods_141 : decode cX6_floods 141 = .ok (.idiv, 1) := by decide +kernel
theorem dX6_floods_142 : decode cX6_floods 142 = .ok (.iadd, 1) := by decide +kernel
theorem dX6_floods_143 : decode cX6_floods 143 = .ok (.iconst 1, 1) := by decide +kernel
theorem dX6_floods_144 : decode cX6_floods 144 = .ok (.isub, 1) := by decide +kernel
theorem dX6_floods_145 : decode cX6_floods 145 = .ok (.istore 12, 2) := by decide +kernel
theorem dX6_floods_147 : decode cX6_floods 147 = .ok (.iload 10, 2) := by decide +kernel
theorem dX6_floods_149 : decode cX6_floods 149 = .ok (.iload 11, 2) := by decide +kernel
theorem dX6_floods_151 : decode cX6_floods 151 = .ok (.iconst 3, 1) := by decide +kernel
theorem dX6_floods_152 : decode cX6_floods 152 = .ok (.irem, 1) := by decide +kernel
theorem dX6_floods_153 : decode cX6_floods 153 = .ok (.iadd, 1) := by decide +kernel
theorem dX6_floods_154 : decode cX6_floods 154 = .ok (.iconst 1, 1) := by decide +kernel
theorem dX6_floods_155 : decode cX6_floods 155 = .ok (.isub, 1) := by decide +kernel
theorem dX6_floods_156 : decode cX6_floods 156 = .ok (.istore 13, 2) := by decide +kernel
theorem dX6_floods_158 : decode cX6_floods 158 = .ok (.iload 12, 2) := by decide +kernel
theorem dX6_floods_160 : decode cX6_floods 160 = .ok (.iload 13, 2) := by decide +kernel
theorem dX6_floods_162 : decode cX6_floods 162 = .ok (.invokestatic 56, 3) := by decide +kernel
theorem dX6_floods_165 : decode cX6_floods 165 = .ok (.ifCond .eq 20, 3) := by decide +kernel
theorem dX6_floods_168 : decode cX6_floods 168 = .ok (.iload 5, 2) := by decide +kernel
theorem dX6_floods_170 : decode cX6_floods 170 = .ok (.ifCond .ne 11, 3) := by decide +kernel
theorem dX6_floods_173 : decode cX6_floods 173 = .ok (.iload 11, 2) := by decide +kernel
theorem dX6_floods_175 : decode cX6_floods 175 = .ok (.iconst 2, 1) := by decide +kernel
theorem dX6_floods_176 : decode cX6_floods 176 = .ok (.irem, 1) := by decide +kernel
theorem dX6_floods_177 : decode cX6_floods 177 = .ok (.iconst 1, 1) := by decide +kernel
theorem dX6_floods_178 : decode cX6_floods 178 = .ok (.if_icmp .ne 7, 3) := by decide +kernel
theorem dX6_floods_181 : decode cX6_floods 181 = .ok (.iconst 1, 1) := by decide +kernel
theorem dX6_floods_182 : decode cX6_floods 182 = .ok (.goto 4, 3) := by decide +kernel
theorem dX6_floods_185 : decode cX6_floods 185 = .ok (.iconst 0, 1) := by decide +kernel
theorem dX6_floods_186 : decode cX6_floods 186 = .ok (.istore 14, 2) := by decide +kernel
theorem dX6_floods_188 : decode cX6_floods 188 = .ok (.bipush 16, 2) := by decide +kernel
theorem dX6_floods_190 : decode cX6_floods 190 = .ok (.iload 12, 2) := by decide +kernel
theorem dX6_floods_192 : decode cX6_floods 192 = .ok (.imul, 1) := by decide +kernel
theorem dX6_floods_193 : decode cX6_floods 193 = .ok (.iload 13, 2) := by decide +kernel
theorem dX6_floods_195 : decode cX6_floods 195 = .ok (.iadd, 1) := by decide +kernel
theorem dX6_floods_196 : decode cX6_floods 196 = .ok (.istore 15, 2) := by decide +kernel
theorem dX6_floods_198 : decode cX6_floods 198 = .ok (.iload 14, 2) := by decide +kernel
theorem dX6_floods_200 : decode cX6_floods 200 = .ok (.ifCond .eq 45, 3) := by decide +kernel
theorem dX6_floods_203 : decode cX6_floods 203 = .ok (.aload_n 0, 1) := by decide +kernel
theorem dX6_floods_204 : decode cX6_floods 204 = .ok (.getfield 16, 3) := by decide +kernel
theorem dX6_floods_207 : decode cX6_floods 207 = .ok (.iload 15, 2) := by decide +kernel
theorem dX6_floods_209 : decode cX6_floods 209 = .ok (.iaload, 1) := by decide +kernel
theorem dX6_floods_210 : decode cX6_floods 210 = .ok (.iconst (-1), 1) := by decide +kernel
theorem dX6_floods_211 : decode cX6_floods 211 = .ok (.if_icmp .ne 34, 3) := by decide +kernel
theorem dX6_floods_214 : decode cX6_floods 214 = .ok (.aload_n 1, 1) := by decide +kernel
theorem dX6_floods_215 : decode cX6_floods 215 = .ok (.iload 15, 2) := by decide +kernel
theorem dX6_floods_217 : decode cX6_floods 217 = .ok (.invokestatic 52, 3) := by decide +kernel
theorem dX6_floods_220 : decode cX6_floods 220 = .ok (.iload 4, 2) := by decide +kernel
theorem dX6_floods_222 : decode cX6_floods 222 = .ok (.if_icmp .ne 23, 3) := by decide +kernel
theorem dX6_floods_225 : decode cX6_floods 225 = .ok (.aload_n 0, 1) := by decide +kernel
theorem dX6_floods_226 : decode cX6_floods 226 = .ok (.getfield 16, 3) := by decide +kernel
theorem dX6_floods_229 : decode cX6_floods 229 = .ok (.iload 15, 2) := by decide +kernel
theorem dX6_floods_231 : decode cX6_floods 231 = .ok (.iload_n 3, 1) := by decide +kernel
theorem dX6_floods_232 : decode cX6_floods 232 = .ok (.iastore, 1) := by decide +kernel
theorem dX6_floods_233 : decode cX6_floods 233 = .ok (.aload_n 0, 1) := by decide +kernel
theorem dX6_floods_234 : decode cX6_floods 234 = .ok (.getfield 19, 3) := by decide +kernel
theorem dX6_floods_237 : decode cX6_floods 237 = .ok (.iload 8, 2) := by decide +kernel
theorem dX6_floods_239 : decode cX6_floods 239 = .ok (.iload 15, 2) := by decide +kernel
theorem dX6_floods_241 : decode cX6_floods 241 = .ok (.iastore, 1) := by decide +kernel
theorem dX6_floods_242 : decode cX6_floods 242 = .ok (.iinc 8 1, 3) := by decide +kernel
theorem dX6_floods_245 : decode cX6_floods 245 = .ok (.iinc 11 1, 3) := by decide +kernel
theorem dX6_floods_248 : decode cX6_floods 248 = .ok (.goto (-119), 3) := by decide +kernel
theorem dX6_floods_251 : decode cX6_floods 251 = .ok (.goto (-195), 3) := by decide +kernel
theorem dX6_floods_254 : decode cX6_floods 254 = .ok (.iload 6, 2) := by decide +kernel
theorem dX6_floods_256 : decode cX6_floods 256 = .ok (.ireturn, 1) := by decide +kernel
set_option maxRecDepth 20000 in
theorem ggX6_parts_X6_isDark : GoodIn wsX6_parts wsX6_isDark := goodIn_r _ [11, 12, 13, 10, 14] (by decide +kernel) (by decide +kernel)
set_option maxRecDepth 20000 in
theorem gX6_parts_X6_isDark : GoodIn wsX6_parts (va_wsS RX6 52 yX6_isDark wsX6_isDark) := goodIn_app (goodIn_of _ (by decide +kernel)) ggX6_parts_X6_isDark
set_option maxRecDepth 20000 in
theorem ggX6_parts_X6_floods : GoodIn wsX6_parts wsX6_floods := goodIn_r _ [18, 19, 4, 8, 9, 10, 11, 12, 13, 14, 20, 21, 22, 23, 24, 25, 26, 27, 28, 29, 30, 31, 32, 33, 34, 35, 36, 37, 38, 39, 40, 41, 42] (by decide +kernel) (by decide +kernel)
set_option maxRecDepth 20000 in
theorem gX6_parts_X6_floods : GoodIn wsX6_parts (wsV RX6 69 RX6 yX6_floods wsX6_floods) := goodIn_app (goodIn_of _ (by decide +kernel)) ggX6_parts_X6_floods
theorem dX6_parts_0 : decode cX6_parts 0 = .ok (.aload_n 0, 1) := by decide +kernel
theorem dX6_parts_1 : decode cX6_parts 1 = .ok (.iconst 0, 1) := by decide +kernel
theorem dX6_parts_2 : decode cX6_parts 2 = .ok (.putfield 59, 3) := by decide +kernel
theorem dX6_parts_5 : decode cX6_parts 5 = .ok (.aload_n 0, 1) := by decide +kernel
theorem dX6_parts_6 : decode cX6_parts 6 = .ok (.iconst 0, 1) := by decide +kernel
theorem dX6_parts_7 : decode cX6_parts 7 = .ok (.putfield 63, 3) := by decide +kernel
theorem dX6_parts_10 : decode cX6_parts 10 = .ok (.aload_n 0, 1) := by decide +kernel
theorem dX6_parts_11 : decode cX6_parts 11 = .ok (.iconst 0, 1) := by decide +kernel
theorem dX6_parts_12 : decode cX6_parts 12 = .ok (.putfield 66, 3) := by decide +kernel
theorem dX6_parts_15 : decode cX6_parts 15 = .ok (.iconst 0, 1) := by decide +kernel
theorem dX6_parts_16 : decode cX6_parts 16 = .ok (.istore_n 2, 1) := by decide +kernel
theorem dX6_parts_17 : decode cX6_parts 17 = .ok (.iload_n 2, 1) := by decide +kernel
theorem dX6_parts_18 : decode cX6_parts 18 = .ok (.sipush 256, 3) := by decide +kernel
theorem dX6_parts_21 : decode cX6_parts 21 = .ok (.if_icmp .ge 16, 3) := by decide +kernel
theorem dX6_parts_24 : decode cX6_parts 24 = .ok (.aload_n 0, 1) := by decide +kernel
theorem dX6_parts_25 : decode cX6_parts 25 = .ok (.getfield 16, 3) := by decide +kernel
theorem dX6_parts_28 : decode cX6_parts 28 = .ok (.iload_n 2, 1) := by decide +kernel
theorem dX6_parts_29 : decode cX6_parts 29 = .ok (.iconst (-1), 1) := by decide +kernel
theorem dX6_parts_30 : decode cX6_parts 30 = .ok (.iastore, 1) := by decide +kernel
theorem dX6_parts_31 : decode cX6_parts 31 = .ok (.iinc 2 1, 3) := by decide +kernel
theorem dX6_parts_34 : decode cX6_parts 34 = .ok (.goto (-17), 3) := by decide +kernel
theorem dX6_parts_37 : decode cX6_parts 37 = .ok (.iconst 0, 1) := by decide +kernel
theorem dX6_parts_38 : decode cX6_parts 38 = .ok (.istore_n 2, 1) := by decide +kernel
theorem dX6_parts_39 : decode cX6_parts 39 = .ok (.iload_n 2, 1) := by decide +kernel
theorem dX6_parts_40 : decode cX6_parts 40 = .ok (.sipush 256, 3) := by decide +kernel
theorem dX6_parts_43 : decode cX6_parts 43 = .ok (.if_icmp .ge 141, 3) := by decide +kernel
theorem dX6_parts_46 : decode cX6_parts 46 = .ok (.aload_n 0, 1) := by decide +kernel
theorem dX6_parts_47 : decode cX6_parts 47 = .ok (.getfield 16, 3) := by decide +kernel
theorem dX6_parts_50 : decode cX6_parts 50 = .ok (.iload_n 2, 1) := by decide +kernel
theorem dX6_parts_51 : decode cX6_parts 51 = .ok (.iaload, 1) := by decide +kernel
theorem dX6_parts_52 : decode cX6_parts 52 = .ok (.iconst (-1), 1) := by decide +kernel
theorem dX6_parts_53 : decode cX6_parts 53 = .ok (.if_icmp .ne 45, 3) := by decide +kernel
theorem dX6_parts_56 : decode cX6_parts 56 = .ok (.aload_n 1, 1) := by decide +kernel
theorem dX6_parts_57 : decode cX6_parts 57 = .ok (.iload_n 2, 1) := by decide +kernel
theorem dX6_parts_58 : decode cX6_parts 58 = .ok (.invokestatic 52, 3) := by decide +kernel
theorem dX6_parts_61 : decode cX6_parts 61 = .ok (.ifCond .eq 37, 3) := by decide +kernel
theorem dX6_parts_64 : decode cX6_parts 64 = .ok (.aload_n 0, 1) := by decide +kernel
theorem dX6_parts_65 : decode cX6_parts 65 = .ok (.aload_n 1, 1) := by decide +kernel
theorem dX6_parts_66 : decode cX6_parts 66 = .ok (.iload_n 2, 1) := by decide +kernel
theorem dX6_parts_67 : decode cX6_parts 67 = .ok (.aload_n 0, 1) := by decide +kernel
theorem dX6_parts_68 : decode cX6_parts 68 = .ok (.getfield 59, 3) := by decide +kernel
theorem dX6_parts_71 : decode cX6_parts 71 = .ok (.invokevirtual 69, 3) := by decide +kernel
theorem dX6_parts_74 : decode cX6_parts 74 = .ok (.pop, 1) := by decide +kernel
theorem dX6_parts_75 : decode cX6_parts 75 = .ok (.aload_n 0, 1) := by decide +kernel
theorem dX6_parts_76 : decode cX6_parts 76 = .ok (.getfield 22, 3) := by decide +kernel
theorem dX6_parts_79 : decode cX6_parts 79 = .ok (.aload_n 0, 1) := by decide +kernel
theorem dX6_parts_80 : decode cX6_parts 80 = .ok (.getfield 59, 3) := by decide +kernel
theorem dX6_parts_83 : decode cX6_parts 83 = .ok (.iload_n 2, 1) := by decide +kernel
theorem dX6_parts_84 : decode cX6_parts 84 = .ok (.iastore, 1) := by decide +kernel
theorem dX6_parts_85 : decode cX6_parts 85 = .ok (.aload_n 0, 1) := by decide +kernel
theorem dX6_parts_86 : decode cX6_parts 86 = .ok (.dup, 1) := by decide +kernel
theorem dX6_parts_87 : decode cX6_parts 87 = .ok (.getfield 59, 3) := by decide +kernel
theorem dX6_parts_90 : decode cX6_parts 90 = .ok (.iconst 1, 1) := by decide +kernel
theorem dX6_parts_91 : decode cX6_parts 91 = .ok (.iadd, 1) := by decide +kernel
theorem dX6_parts_92 : decode cX6_parts 92 = .ok (.putfield 59, 3) := by decide +kernel
theorem dX6_parts_95 : decode cX6_parts 95 = .ok (.goto 83, 3) := by decide +kernel
theorem dX6_parts_98 : decode cX6_parts 98 = .ok (.aload_n 0, 1) := by decide +kernel
theorem dX6_parts_99 : decode cX6_parts 99 = .ok (.getfield 16, 3) := by decide +kernel
theorem dX6_parts_102 : decode cX6_parts 102 = .ok (.iload_n 2, 1) := by decide +kernel
theorem dX6_parts_103 : decode cX6_parts 103 = .ok (.iaload, 1) := by decide +kernel
theorem dX6_parts_104 : decode cX6_parts 104 = .ok (.iconst (-1), 1) := by decide +kernel
theorem dX6_parts_105 : decode cX6_parts 105 = .ok (.if_icmp .ne 73, 3) := by decide +kernel
theorem dX6_parts_108 : decode cX6_parts 108 = .ok (.aload_n 0, 1) := by decide +kernel
theorem dX6_parts_109 : decode cX6_parts 109 = .ok (.aload_n 1, 1) := by decide +kernel
theorem dX6_parts_110 : decode cX6_parts 110 = .ok (.iload_n 2, 1) := by decide +kernel
theorem dX6_parts_111 : decode cX6_parts 111 = .ok (.aload_n 0, 1) := by decide +kernel
theorem dX6_parts_112 : decode cX6_parts 112 = .ok (.getfield 63, 3) := by decide +kernel
theorem dX6_parts_115 : decode cX6_parts 115 = .ok (.invokevirtual 69, 3) := by decide +kernel
theorem dX6_parts_118 : decode cX6_parts 118 = .ok (.istore_n 3, 1) := by decide +kernel
theorem dX6_parts_119 : decode cX6_parts 119 = .ok (.aload_n 0, 1) := by decide +kernel
theorem dX6_parts_120 : decode cX6_parts 120 = .ok (.getfield 25, 3) := by decide +kernel
theorem dX6_parts_123 : decode cX6_parts 123 = .ok (.aload_n 0, 1) := by decide +kernel
theorem dX6_parts_124 : decode cX6_parts 124 = .ok (.getfield 63, 3) := by decide +kernel
theorem dX6_parts_127 : decode cX6_parts 127 = .ok (.iload_n 2, 1) := by decide +kernel
theorem dX6_parts_128 : decode cX6_parts 128 = .ok (.iastore, 1) := by decide +kernel
theorem dX6_parts_129 : decode cX6_parts 129 = .ok (.aload_n 0, 1) := by decide +kernel
theorem dX6_parts_130 : decode cX6_parts 130 = .ok (.getfield 28, 3) := by decide +kernel
theorem dX6_parts_133 : decode cX6_parts 133 = .ok (.aload_n 0, 1) := by decide +kernel
theorem dX6_parts_134 : decode cX6_parts 134 = .ok (.getfield 63, 3) := by decide +kernel
theorem dX6_parts_137 : decode cX6_parts 137 = .ok (.iload_n 3, 1) := by decide +kernel
theorem dX6_parts_138 : decode cX6_parts 138 = .ok (.ifCond .eq 7, 3) := by decide +kernel
theorem dX6_parts_141 : decode cX6_parts 141 = .ok (.iconst (-1), 1) := by decide +kernel
theorem dX6_parts_142 : decode cX6_parts 142 = .ok (.goto 7, 3) := by decide +kernel
theorem dX6_parts_145 : decode cX6_parts 145 = .ok (.aload_n 0, 1) := by decide +kernel
theorem dX6_parts_146 : decode cX6_parts 146 = .ok (.getfield 66, 3) := by decide +kernel
theorem dX6_parts_149 : decode cX6_parts 149 = .ok (.iastore, 1) := by decide +kernel
theorem dX6_parts_150 : decode cX6_parts 150 = .ok (.aload_n 0, 1) := by decide +kernel
theorem dX6_parts_151 : decode cX6_parts 151 = .ok (.dup, 1) := by decide +kernel
theorem dX6_parts_152 : decode cX6_parts 152 = .ok (.getfield 66, 3) := by decide +kernel
theorem dX6_parts_155 : decode cX6_parts 155 = .ok (.iload_n 3, 1) := by decide +kernel
theorem dX6_parts_156 : decode cX6_parts 156 = .ok (.ifCond .eq 7, 3) := by decide +kernel
theorem dX6_parts_159 : decode cX6_parts 159 = .ok (.iconst 0, 1) := by decide +kernel
theorem dX6_parts_160 : decode cX6_parts 160 = .ok (.goto 4, 3) := by decide +kernel
theorem dX6_parts_163 : decode cX6_parts 163 = .ok (.iconst 1, 1) := by decide +kernel
theorem dX6_parts_164 : decode cX6_parts 164 = .ok (.iadd, 1) := by decide +kernel
theorem dX6_parts_165 : decode cX6_parts 165 = .ok (.putfield 66, 3) := by decide +kernel
theorem dX6_parts_168 : decode cX6_parts 168 = .ok (.aload_n 0, 1) := by decide +kernel
theorem dX6_parts_169 : decode cX6_parts 169 = .ok (.dup, 1) := by decide +kernel
theorem dX6_parts_170 : decode cX6_parts 170 = .ok (.getfield 63, 3) := by decide +kernel
theorem dX6_parts_173 : decode cX6_parts 173 = .ok (.iconst 1, 1) := by decide +kernel
theorem dX6_parts_174 : decode cX6_parts 174 = .ok (.iadd, 1) := by decide +kernel
theorem dX6_parts_175 : decode cX6_parts 175 = .ok (.putfield 63, 3) := by decide +kernel
theorem dX6_parts_178 : decode cX6_parts 178 = .ok (.iinc 2 1, 3) := by decide +kernel
theorem dX6_parts_181 : decode cX6_parts 181 = .ok (.goto (-142), 3) := by decide +kernel
theorem dX6_parts_184 : decode cX6_parts 184 = .ok (.return_, 1) := by decide +kernel
set_option maxRecDepth 20000 in
theorem ggX6_partsOf_X6_parts : GoodIn wsX6_partsOf wsX6_parts := goodIn_r _ [6, 1, 7, 8, 9, 10, 11, 12, 13, 14, 5, 15, 16, 17, 18, 19, 20, 21, 22, 23, 24, 25, 26, 27, 28, 29, 30, 31, 32, 33, 34, 35, 36, 37, 38, 39, 40, 41, 42, 43, 44, 45, 46] (by decide +kernel) (by decide +kernel)
set_option maxRecDepth 20000 in
theorem gX6_partsOf_X6_parts : GoodIn wsX6_partsOf (wsV RX6 73 RX6 yX6_parts wsX6_parts) := goodIn_app (goodIn_of _ (by decide +kernel)) ggX6_partsOf_X6_parts
theorem dX6_partsOf_0 : decode cX6_partsOf 0 = .ok (.aload_n 0, 1) := by decide +kernel
theorem dX6_partsOf_1 : decode cX6_partsOf 1 = .ok (.aload_n 1, 1) := by decide +kernel
theorem dX6_partsOf_2 : decode cX6_partsOf 2 = .ok (.invokevirtual 73, 3) := by decide +kernel
theorem dX6_partsOf_5 : decode cX6_partsOf 5 = .ok (.aload_n 0, 1) := by decide +kernel
theorem dX6_partsOf_6 : decode cX6_partsOf 6 = .ok (.getfield 59, 3) := by decide +kernel
theorem dX6_partsOf_9 : decode cX6_partsOf 9 = .ok (.ireturn, 1) := by decide +kernel
set_option maxRecDepth 20000 in
theorem ggX6_darkOf_X6_bits : GoodIn wsX6_darkOf wsX6_bits := goodIn_r _ [4] (by decide +kernel) (by decide +kernel)
set_option maxRecDepth 20000 in
theorem gX6_darkOf_X6_bits : GoodIn wsX6_darkOf (va_wsS RX6 77 yX6_bits wsX6_bits) := goodIn_app (goodIn_of _ (by decide +kernel)) ggX6_darkOf_X6_bits
theorem dX6_darkOf_0 : decode cX6_darkOf 0 = .ok (.iconst 0, 1) := by decide +kernel
theorem dX6_darkOf_1 : decode cX6_darkOf 1 = .ok (.istore_n 2, 1) := by decide +kernel
theorem dX6_darkOf_2 : decode cX6_darkOf 2 = .ok (.iconst 0, 1) := by decide +kernel
theorem dX6_darkOf_3 : decode cX6_darkOf 3 = .ok (.istore_n 3, 1) := by decide +kernel
theorem dX6_darkOf_4 : decode cX6_darkOf 4 = .ok (.iload_n 3, 1) := by decide +kernel
theorem dX6_darkOf_5 : decode cX6_darkOf 5 = .ok (.bipush 16, 2) := by decide +kernel
theorem dX6_darkOf_7 : decode cX6_darkOf 7 = .ok (.if_icmp .ge 18, 3) := by decide +kernel
theorem dX6_darkOf_10 : decode cX6_darkOf 10 = .ok (.iload_n 2, 1) := by decide +kernel
theorem dX6_darkOf_11 : decode cX6_darkOf 11 = .ok (.aload_n 1, 1) := by decide +kernel
theorem dX6_darkOf_12 : decode cX6_darkOf 12 = .ok (.iload_n 3, 1) := by decide +kernel
theorem dX6_darkOf_13 : decode cX6_darkOf 13 = .ok (.iaload, 1) := by decide +kernel
theorem dX6_darkOf_14 : decode cX6_darkOf 14 = .ok (.invokestatic 77, 3) := by decide +kernel
theorem dX6_darkOf_17 : decode cX6_darkOf 17 = .ok (.iadd, 1) := by decide +kernel
theorem dX6_darkOf_18 : decode cX6_darkOf 18 = .ok (.istore_n 2, 1) := by decide +kernel
theorem dX6_darkOf_19 : decode cX6_darkOf 19 = .ok (.iinc 3 1, 3) := by decide +kernel
theorem dX6_darkOf_22 : decode cX6_darkOf 22 = .ok (.goto (-18), 3) := by decide +kernel
theorem dX6_darkOf_25 : decode cX6_darkOf 25 = .ok (.iload_n 2, 1) := by decide +kernel
theorem dX6_darkOf_26 : decode cX6_darkOf 26 = .ok (.ireturn, 1) := by decide +kernel
theorem dX6_lightOf_0 : decode cX6_lightOf 0 = .ok (.iconst 0, 1) := by decide +kernel
theorem dX6_lightOf_1 : decode cX6_lightOf 1 = .ok (.istore_n 2, 1) := by decide +kernel
theorem dX6_lightOf_2 : decode cX6_lightOf 2 = .ok (.aload_n 0, 1) := by decide +kernel
theorem dX6_lightOf_3 : decode cX6_lightOf 3 = .ok (.getfield 28, 3) := by decide +kernel
theorem dX6_lightOf_6 : decode cX6_lightOf 6 = .ok (.iload_n 2, 1) := by decide +kernel
theorem dX6_lightOf_7 : decode cX6_lightOf 7 = .ok (.iaload, 1) := by decide +kernel
theorem dX6_lightOf_8 : decode cX6_lightOf 8 = .ok (.iload_n 1, 1) := by decide +kernel
theorem dX6_lightOf_9 : decode cX6_lightOf 9 = .ok (.if_icmp .eq 9, 3) := by decide +kernel
theorem dX6_lightOf_12 : decode cX6_lightOf 12 = .ok (.iinc 2 1, 3) := by decide +kernel
theorem dX6_lightOf_15 : decode cX6_lightOf 15 = .ok (.goto (-13), 3) := by decide +kernel
theorem dX6_lightOf_18 : decode cX6_lightOf 18 = .ok (.iload_n 2, 1) := by decide +kernel
theorem dX6_lightOf_19 : decode cX6_lightOf 19 = .ok (.ireturn, 1) := by decide +kernel
set_option maxRecDepth 20000 in
theorem ggX6_isOf_X6_isDark : GoodIn wsX6_isOf wsX6_isDark := goodIn_r _ [6, 7, 8, 5, 9] (by decide +kernel) (by decide +kernel)
set_option maxRecDepth 20000 in
theorem gX6_isOf_X6_isDark : GoodIn wsX6_isOf (va_wsS RX6 52 yX6_isDark wsX6_isDark) := goodIn_app (goodIn_of _ (by decide +kernel)) ggX6_isOf_X6_isDark
theorem dX6_isOf_0 : decode cX6_isOf 0 = .ok (.aload_n 0, 1) := by decide +kernel
theorem dX6_isOf_1 : decode cX6_isOf 1 = .ok (.getfield 7, 3) := by decide +kernel
theorem dX6_isOf_4 : decode cX6_isOf 4 = .ok (.iload_n 1, 1) := by decide +kernel
theorem dX6_isOf_5 : decode cX6_isOf 5 = .ok (.invokestatic 52, 3) := by decide +kernel
theorem dX6_isOf_8 : decode cX6_isOf 8 = .ok (.iload_n 2, 1) := by decide +kernel
theorem dX6_isOf_9 : decode cX6_isOf 9 = .ok (.if_icmp .ne 17, 3) := by decide +kernel
theorem dX6_isOf_12 : decode cX6_isOf 12 = .ok (.aload_n 0, 1) := by decide +kernel
theorem dX6_isOf_13 : decode cX6_isOf 13 = .ok (.getfield 16, 3) := by decide +kernel
theorem dX6_isOf_16 : decode cX6_isOf 16 = .ok (.iload_n 1, 1) := by decide +kernel
theorem dX6_isOf_17 : decode cX6_isOf 17 = .ok (.iaload, 1) := by decide +kernel
theorem dX6_isOf_18 : decode cX6_isOf 18 = .ok (.iload_n 3, 1) := by decide +kernel
theorem dX6_isOf_19 : decode cX6_isOf 19 = .ok (.if_icmp .ne 7, 3) := by decide +kernel
theorem dX6_isOf_22 : decode cX6_isOf 22 = .ok (.iconst 1, 1) := by decide +kernel
theorem dX6_isOf_23 : decode cX6_isOf 23 = .ok (.goto 4, 3) := by decide +kernel
theorem dX6_isOf_26 : decode cX6_isOf 26 = .ok (.iconst 0, 1) := by decide +kernel
theorem dX6_isOf_27 : decode cX6_isOf 27 = .ok (.ireturn, 1) := by decide +kernel
set_option maxRecDepth 20000 in
theorem ggX6_sizeOf_X6_isOf : GoodIn wsX6_sizeOf wsX6_isOf := goodIn_r _ [5, 6, 7, 8, 9, 4, 10, 11, 12, 13, 14, 15, 16, 17, 18, 19, 20, 21, 22, 23, 24, 25, 26, 27, 28, 29, 30] (by decide +kernel) (by decide +kernel)
set_option maxRecDepth 20000 in
theorem gX6_sizeOf_X6_isOf : GoodIn wsX6_sizeOf (wsV RX6 81 RX6 yX6_isOf wsX6_isOf) := goodIn_app (goodIn_of _ (by decide +kernel)) ggX6_sizeOf_X6_isOf
theorem dX6_sizeOf_0 : decode cX6_sizeOf 0 = .ok (.iconst 0, 1) := by decide +kernel
theorem dX6_sizeOf_1 : decode cX6_sizeOf 1 = .ok (.istore_n 3, 1) := by decide +kernel
theorem dX6_sizeOf_2 : decode cX6_sizeOf 2 = .ok (.iconst 0, 1) := by decide +kernel
theorem dX6_sizeOf_3 : decode cX6_sizeOf 3 = .ok (.istore 4, 2) := by decide +kernel
theorem dX6_sizeOf_5 : decode cX6_sizeOf 5 = .ok (.iload 4, 2) := by decide +kernel
theorem dX6_sizeOf_7 : decode cX6_sizeOf 7 = .ok (.sipush 256, 3) := by decide +kernel
theorem dX6_sizeOf_10 : decode cX6_sizeOf 10 = .ok (.if_icmp .ge 28, 3) := by decide +kernel
theorem dX6_sizeOf_13 : decode cX6_sizeOf 13 = .ok (.iload_n 3, 1) := by decide +kernel
theorem dX6_sizeOf_14 : decode cX6_sizeOf 14 = .ok (.aload_n 0, 1) := by decide +kernel
theorem dX6_sizeOf_15 : decode cX6_sizeOf 15 = .ok (.iload 4, 2) := by decide +kernel
theorem dX6_sizeOf_17 : decode cX6_sizeOf 17 = .ok (.iload_n 1, 1) := by decide +kernel
theorem dX6_sizeOf_18 : decode cX6_sizeOf 18 = .ok (.iload_n 2, 1) := by decide +kernel
theorem dX6_sizeOf_19 : decode cX6_sizeOf 19 = .ok (.invokevirtual 81, 3) := by decide +kernel
theorem dX6_sizeOf_22 : decode cX6_sizeOf 22 = .ok (.ifCond .eq 7, 3) := by decide +kernel
theorem dX6_sizeOf_25 : decode cX6_sizeOf 25 = .ok (.iconst 1, 1) := by decide +kernel
theorem dX6_sizeOf_26 : decode cX6_sizeOf 26 = .ok (.goto 4, 3) := by decide +kernel
theorem dX6_sizeOf_29 : decode cX6_sizeOf 29 = .ok (.iconst 0, 1) := by decide +kernel
theorem dX6_sizeOf_30 : decode cX6_sizeOf 30 = .ok (.iadd, 1) := by decide +kernel
theorem dX6_sizeOf_31 : decode cX6_sizeOf 31 = .ok (.istore_n 3, 1) := by decide +kernel
theorem dX6_sizeOf_32 : decode cX6_sizeOf 32 = .ok (.iinc 4 1, 3) := by decide +kernel
theorem dX6_sizeOf_35 : decode cX6_sizeOf 35 = .ok (.goto (-30), 3) := by decide +kernel
theorem dX6_sizeOf_38 : decode cX6_sizeOf 38 = .ok (.iload_n 3, 1) := by decide +kernel
theorem dX6_sizeOf_39 : decode cX6_sizeOf 39 = .ok (.ireturn, 1) := by decide +kernel
theorem dX6_liesIn_0 : decode cX6_liesIn 0 = .ok (.aload_n 0, 1) := by decide +kernel
theorem dX6_liesIn_1 : decode cX6_liesIn 1 = .ok (.getfield 22, 3) := by decide +kernel
theorem dX6_liesIn_4 : decode cX6_liesIn 4 = .ok (.iload_n 1, 1) := by decide +kernel
theorem dX6_liesIn_5 : decode cX6_liesIn 5 = .ok (.iaload, 1) := by decide +kernel
theorem dX6_liesIn_6 : decode cX6_liesIn 6 = .ok (.bipush 16, 2) := by decide +kernel
theorem dX6_liesIn_8 : decode cX6_liesIn 8 = .ok (.isub, 1) := by decide +kernel
theorem dX6_liesIn_9 : decode cX6_liesIn 9 = .ok (.istore_n 2, 1) := by decide +kernel
theorem dX6_liesIn_10 : decode cX6_liesIn 10 = .ok (.iload_n 2, 1) := by decide +kernel
theorem dX6_liesIn_11 : decode cX6_liesIn 11 = .ok (.ifCond .ge 7, 3) := by decide +kernel
theorem dX6_liesIn_14 : decode cX6_liesIn 14 = .ok (.iconst (-1), 1) := by decide +kernel
theorem dX6_liesIn_15 : decode cX6_liesIn 15 = .ok (.goto 14, 3) := by decide +kernel
theorem dX6_liesIn_18 : decode cX6_liesIn 18 = .ok (.aload_n 0, 1) := by decide +kernel
theorem dX6_liesIn_19 : decode cX6_liesIn 19 = .ok (.getfield 28, 3) := by decide +kernel
theorem dX6_liesIn_22 : decode cX6_liesIn 22 = .ok (.aload_n 0, 1) := by decide +kernel
theorem dX6_liesIn_23 : decode cX6_liesIn 23 = .ok (.getfield 16, 3) := by decide +kernel
theorem dX6_liesIn_26 : decode cX6_liesIn 26 = .ok (.iload_n 2, 1) := by decide +kernel
theorem dX6_liesIn_27 : decode cX6_liesIn 27 = .ok (.iaload, 1) := by decide +kernel
theorem dX6_liesIn_28 : decode cX6_liesIn 28 = .ok (.iaload, 1) := by decide +kernel
theorem dX6_liesIn_29 : decode cX6_liesIn 29 = .ok (.ireturn, 1) := by decide +kernel
set_option maxRecDepth 20000 in
theorem ggX6_partOf_X6_lightOf : GoodIn wsX6_partOf wsX6_lightOf := goodIn_r _ [7, 8, 9, 10, 11, 12, 13, 14, 15, 16, 17, 18, 19, 20, 21, 22, 23, 24, 25] (by decide +kernel) (by decide +kernel)
set_option maxRecDepth 20000 in
theorem gX6_partOf_X6_lightOf : GoodIn wsX6_partOf (wsV RX6 85 RX6 yX6_lightOf wsX6_lightOf) := goodIn_app (goodIn_of _ (by decide +kernel)) ggX6_partOf_X6_lightOf
theorem dX6_partOf_0 : decode cX6_partOf 0 = .ok (.aload_n 0, 1) := by decide +kernel
theorem dX6_partOf_1 : decode cX6_partOf 1 = .ok (.getfield 16, 3) := by decide +kernel
theorem dX6_partOf_4 : decode cX6_partOf 4 = .ok (.aload_n 0, 1) := by decide +kernel
theorem dX6_partOf_5 : decode cX6_partOf 5 = .ok (.getfield 25, 3) := by decide +kernel
theorem dX6_partOf_8 : decode cX6_partOf 8 = .ok (.aload_n 0, 1) := by decide +kernel
theorem dX6_partOf_9 : decode cX6_partOf 9 = .ok (.iload_n 1, 1) := by decide +kernel
theorem dX6_partOf_10 : decode cX6_partOf 10 = .ok (.invokevirtual 85, 3) := by decide +kernel
theorem dX6_partOf_13 : decode cX6_partOf 13 = .ok (.iaload, 1) := by decide +kernel
theorem dX6_partOf_14 : decode cX6_partOf 14 = .ok (.bipush 16, 2) := by decide +kernel
theorem dX6_partOf_16 : decode cX6_partOf 16 = .ok (.isub, 1) := by decide +kernel
theorem dX6_partOf_17 : decode cX6_partOf 17 = .ok (.iaload, 1) := by decide +kernel
theorem dX6_partOf_18 : decode cX6_partOf 18 = .ok (.ireturn, 1) := by decide +kernel
set_option maxRecDepth 20000 in
theorem ggX6_deep_X6_liesIn : GoodIn wsX6_deep wsX6_liesIn := goodIn_r _ [5, 6, 7, 8, 18, 19, 20, 21, 22, 23, 24, 25, 26, 27, 28, 29, 30, 31, 32, 33, 34] (by decide +kernel) (by decide +kernel)
set_option maxRecDepth 20000 in
theorem gX6_deep_X6_liesIn : GoodIn wsX6_deep (wsV RX6 88 RX6 yX6_liesIn wsX6_liesIn) := goodIn_app (goodIn_of _ (by decide +kernel)) ggX6_deep_X6_liesIn
set_option maxRecDepth 20000 in
theorem ggX6_deep_X6_partOf : GoodIn wsX6_deep wsX6_partOf := goodIn_r _ [12, 8, 13, 14, 15, 16, 4, 17, 7, 18, 19, 20, 21, 22, 23, 24, 25, 26, 27, 28, 29, 30, 31, 32, 33, 34] (by decide +kernel) (by decide +kernel)
set_option maxRecDepth 20000 in
theorem gX6_deep_X6_partOf : GoodIn wsX6_deep (wsV RX6 91 RX6 yX6_partOf wsX6_partOf) := goodIn_app (goodIn_of _ (by decide +kernel)) ggX6_deep_X6_partOf
theorem dX6_deep_0 : decode cX6_deep 0 = .ok (.iconst 0, 1) := by decide +kernel
theorem dX6_deep_1 : decode cX6_deep 1 = .ok (.istore_n 2, 1) := by decide +kernel
theorem dX6_deep_2 : decode cX6_deep 2 = .ok (.iload_n 1, 1) := by decide +kernel
theorem dX6_deep_3 : decode cX6_deep 3 = .ok (.istore_n 3, 1) := by decide +kernel
theorem dX6_deep_4 : decode cX6_deep 4 = .ok (.aload_n 0, 1) := by decide +kernel
theorem dX6_deep_5 : decode cX6_deep 5 = .ok (.iload_n 3, 1) := by decide +kernel
theorem dX6_deep_6 : decode cX6_deep 6 = .ok (.invokevirtual 88, 3) := by decide +kernel
theorem dX6_deep_9 : decode cX6_deep 9 = .ok (.iconst (-1), 1) := by decide +kernel
theorem dX6_deep_10 : decode cX6_deep 10 = .ok (.if_icmp .eq 19, 3) := by decide +kernel
theorem dX6_deep_13 : decode cX6_deep 13 = .ok (.aload_n 0, 1) := by decide +kernel
theorem dX6_deep_14 : decode cX6_deep 14 = .ok (.aload_n 0, 1) := by decide +kernel
theorem dX6_deep_15 : decode cX6_deep 15 = .ok (.iload_n 3, 1) := by decide +kernel
theorem dX6_deep_16 : decode cX6_deep 16 = .ok (.invokevirtual 88, 3) := by decide +kernel
theorem dX6_deep_19 : decode cX6_deep 19 = .ok (.invokevirtual 91, 3) := by decide +kernel
theorem dX6_deep_22 : decode cX6_deep 22 = .ok (.istore_n 3, 1) := by decide +kernel
theorem dX6_deep_23 : decode cX6_deep 23 = .ok (.iinc 2 1, 3) := by decide +kernel
theorem dX6_deep_26 : decode cX6_deep 26 = .ok (.goto (-22), 3) := by decide +kernel
theorem dX6_deep_29 : decode cX6_deep 29 = .ok (.iload_n 2, 1) := by decide +kernel
theorem dX6_deep_30 : decode cX6_deep 30 = .ok (.ireturn, 1) := by decide +kernel
set_option maxRecDepth 20000 in
theorem ggX6_isRim_X6_isOn : GoodIn wsX6_isRim wsX6_isOn := goodIn_r _ [4, 5, 6, 3, 7] (by decide +kernel) (by decide +kernel)
set_option maxRecDepth 20000 in
theorem gX6_isRim_X6_isOn : GoodIn wsX6_isRim (va_wsS RX6 56 yX6_isOn wsX6_isOn) := goodIn_app (goodIn_of _ (by decide +kernel)) ggX6_isRim_X6_isOn
set_option maxRecDepth 20000 in
theorem ggX6_isRim_X6_has : GoodIn wsX6_isRim wsX6_has := goodIn_r _ [10] (by decide +kernel) (by decide +kernel)
set_option maxRecDepth 20000 in
theorem gX6_isRim_X6_has : GoodIn wsX6_isRim (va_wsS RX6 44 yX6_has wsX6_has) := goodIn_app (goodIn_of _ (by decide +kernel)) ggX6_isRim_X6_has
theorem dX6_isRim_0 : decode cX6_isRim 0 = .ok (.iload_n 1, 1) := by decide +kernel
theorem dX6_isRim_1 : decode cX6_isRim 1 = .ok (.iload_n 2, 1) := by decide +kernel
theorem dX6_isRim_2 : decode cX6_isRim 2 = .ok (.invokestatic 56, 3) := by decide +kernel
theorem dX6_isRim_5 : decode cX6_isRim 5 = .ok (.ifCond .eq 13, 3) := by decide +kernel
theorem dX6_isRim_8 : decode cX6_isRim 8 = .ok (.aload_n 0, 1) := by decide +kernel
theorem dX6_isRim_9 : decode cX6_isRim 9 = .ok (.iload_n 1, 1) := by decide +kernel
theorem dX6_isRim_10 : decode cX6_isRim 10 = .ok (.iaload, 1) := by decide +kernel
theorem dX6_isRim_11 : decode cX6_isRim 11 = .ok (.iload_n 2, 1) := by decide +kernel
theorem dX6_isRim_12 : decode cX6_isRim 12 = .ok (.invokestatic 44, 3) := by decide +kernel
theorem dX6_isRim_15 : decode cX6_isRim 15 = .ok (.ifCond .ne 7, 3) := by decide +kernel
theorem dX6_isRim_18 : decode cX6_isRim 18 = .ok (.iconst 1, 1) := by decide +kernel
theorem dX6_isRim_19 : decode cX6_isRim 19 = .ok (.goto 4, 3) := by decide +kernel
theorem dX6_isRim_22 : decode cX6_isRim 22 = .ok (.iconst 0, 1) := by decide +kernel
theorem dX6_isRim_23 : decode cX6_isRim 23 = .ok (.ireturn, 1) := by decide +kernel
set_option maxRecDepth 20000 in
theorem ggX6_sidesOf_X6_isRim : GoodIn wsX6_sidesOf wsX6_isRim := goodIn_r _ [5, 6, 7, 4, 8, 9, 10, 11, 12, 13, 14] (by decide +kernel) (by decide +kernel)
set_option maxRecDepth 20000 in
theorem gX6_sidesOf_X6_isRim : GoodIn wsX6_sidesOf (va_wsS RX6 94 yX6_isRim wsX6_isRim) := goodIn_app (goodIn_of _ (by decide +kernel)) ggX6_sidesOf_X6_isRim
theorem dX6_sidesOf_0 : decode cX6_sidesOf 0 = .ok (.iload_n 1, 1) := by decide +kernel
theorem dX6_sidesOf_1 : decode cX6_sidesOf 1 = .ok (.bipush 16, 2) := by decide +kernel
theorem dX6_sidesOf_3 : decode cX6_sidesOf 3 = .ok (.idiv, 1) := by decide +kernel
theorem dX6_sidesOf_4 : decode cX6_sidesOf 4 = .ok (.istore_n 2, 1) := by decide +kernel
theorem dX6_sidesOf_5 : decode cX6_sidesOf 5 = .ok (.iload_n 1, 1) := by decide +kernel
theorem dX6_sidesOf_6 : decode cX6_sidesOf 6 = .ok (.bipush 16, 2) := by decide +kernel
theorem dX6_sidesOf_8 : decode cX6_sidesOf 8 = .ok (.irem, 1) := by decide +kernel
theorem dX6_sidesOf_9 : decode cX6_sidesOf 9 = .ok (.istore_n 3, 1) := by decide +kernel
theorem dX6_sidesOf_10 : decode cX6_sidesOf 10 = .ok (.aload_n 0, 1) := by decide +kernel
theorem dX6_sidesOf_11 : decode cX6_sidesOf 11 = .ok (.getfield 7, 3) := by decide +kernel
theorem dX6_sidesOf_14 : decode cX6_sidesOf 14 = .ok (.iload_n 2, 1) := by decide +kernel
theorem dX6_sidesOf_15 : decode cX6_sidesOf 15 = .ok (.iconst 1, 1) := by decide +kernel
theorem dX6_sidesOf_16 : decode cX6_sidesOf 16 = .ok (.isub, 1) := by decide +kernel
theorem dX6_sidesOf_17 : decode cX6_sidesOf 17 = .ok (.iload_n 3, 1) := by decide +kernel
theorem dX6_sidesOf_18 : decode cX6_sidesOf 18 = .ok (.invokestatic 94, 3) := by decide +kernel
theorem dX6_sidesOf_21 : decode cX6_sidesOf 21 = .ok (.ifCond .eq 7, 3) := by decide +kernel
theorem dX6_sidesOf_24 : decode cX6_sidesOf 24 = .ok (.iconst 1, 1) := by decide +kernel
theorem dX6_sidesOf_25 : decode cX6_sidesOf 25 = .ok (.goto 4, 3) := by decide +kernel
theorem dX6_sidesOf_28 : decode cX6_sidesOf 28 = .ok (.iconst 0, 1) := by decide +kernel
theorem dX6_sidesOf_29 : decode cX6_sidesOf 29 = .ok (.aload_n 0, 1) := by decide +kernel
theorem dX6_sidesOf_30 : decode cX6_sidesOf 30 = .ok (.getfield 7, 3) := by decide +kernel
theorem dX6_sidesOf_33 : decode cX6_sidesOf 33 = .ok (.iload_n 2, 1) := by decide +kernel
theorem dX6_sidesOf_34 : decode cX6_sidesOf 34 = .ok (.iconst 1, 1) := by decide +kernel
theorem dX6_sidesOf_35 : decode cX6_sidesOf 35 = .ok (.iadd, 1) := by decide +kernel
theorem dX6_sidesOf_36 : decode cX6_sidesOf 36 = .ok (.iload_n 3, 1) := by decide +kernel
theorem dX6_sidesOf_37 : decode cX6_sidesOf 37 = .ok (.invokestatic 94, 3) := by decide +kernel
theorem dX6_sidesOf_40 : decode cX6_sidesOf 40 = .ok (.ifCond .eq 7, 3) := by decide +kernel
theorem dX6_sidesOf_43 : decode cX6_sidesOf 43 = .ok (.iconst 1, 1) := by decide +kernel
theorem dX6_sidesOf_44 : decode cX6_sidesOf 44 = .ok (.goto 4, 3) := by decide +kernel
theorem dX6_sidesOf_47 : decode cX6_sidesOf 47 = .ok (.iconst 0, 1) := by decide +kernel
theorem dX6_sidesOf_48 : decode cX6_sidesOf 48 = .ok (.iadd, 1) := by decide +kernel
theorem dX6_sidesOf_49 : decode cX6_sidesOf 49 = .ok (.aload_n 0, 1) := by decide +kernel
theorem dX6_sidesOf_50 : decode cX6_sidesOf 50 = .ok (.getfield 7, 3) := by decide +kernel
theorem dX6_sidesOf_53 : decode cX6_sidesOf 53 = .ok (.iload_n 2, 1) := by decide +kernel
theorem dX6_sidesOf_54 : decode cX6_sidesOf 54 = .ok (.iload_n 3, 1) := by decide +kernel
theorem dX6_sidesOf_55 : decode cX6_sidesOf 55 = .ok (.iconst 1, 1) := by decide +kernel
theorem dX6_sidesOf_56 : decode cX6_sidesOf 56 = .ok (.isub, 1) := by decide +kernel
theorem dX6_sidesOf_57 : decode cX6_sidesOf 57 = .ok (.invokestatic 94, 3) := by decide +kernel
theorem dX6_sidesOf_60 : decode cX6_sidesOf 60 = .ok (.ifCond .eq 7, 3) := by decide +kernel
theorem dX6_sidesOf_63 : decode cX6_sidesOf 63 = .ok (.iconst 1, 1) := by decide +kernel
theorem dX6_sidesOf_64 : decode cX6_sidesOf 64 = .ok (.goto 4, 3) := by decide +kernel
theorem dX6_sidesOf_67 : decode cX6_sidesOf 67 = .ok (.iconst 0, 1) := by decide +kernel
theorem dX6_sidesOf_68 : decode cX6_sidesOf 68 = .ok (.iadd, 1) := by decide +kernel
theorem dX6_sidesOf_69 : decode cX6_sidesOf 69 = .ok (.aload_n 0, 1) := by decide +kernel
theorem dX6_sidesOf_70 : decode cX6_sidesOf 70 = .ok (.getfield 7, 3) := by decide +kernel
theorem dX6_sidesOf_73 : decode cX6_sidesOf 73 = .ok (.iload_n 2, 1) := by decide +kernel
theorem dX6_sidesOf_74 : decode cX6_sidesOf 74 = .ok (.iload_n 3, 1) := by decide +kernel
theorem dX6_sidesOf_75 : decode cX6_sidesOf 75 = .ok (.iconst 1, 1) := by decide +kernel
theorem dX6_sidesOf_76 : decode cX6_sidesOf 76 = .ok (.iadd, 1) := by decide +kernel
theorem dX6_sidesOf_77 : decode cX6_sidesOf 77 = .ok (.invokestatic 94, 3) := by decide +kernel
theorem dX6_sidesOf_80 : decode cX6_sidesOf 80 = .ok (.ifCond .eq 7, 3) := by decide +kernel
theorem dX6_sidesOf_83 : decode cX6_sidesOf 83 = .ok (.iconst 1, 1) := by decide +kernel
theorem dX6_sidesOf_84 : decode cX6_sidesOf 84 = .ok (.goto 4, 3) := by decide +kernel
theorem dX6_sidesOf_87 : decode cX6_sidesOf 87 = .ok (.iconst 0, 1) := by decide +kernel
theorem dX6_sidesOf_88 : decode cX6_sidesOf 88 = .ok (.iadd, 1) := by decide +kernel
theorem dX6_sidesOf_89 : decode cX6_sidesOf 89 = .ok (.ireturn, 1) := by decide +kernel
set_option maxRecDepth 20000 in
theorem ggX6_rimOf_X6_isOf : GoodIn wsX6_rimOf wsX6_isOf := goodIn_r _ [5, 6, 7, 8, 9, 4, 10, 11, 12, 13, 27, 28, 29, 30, 31, 32, 33, 34, 35, 36, 37, 38, 39, 40, 41, 42, 43] (by decide +kernel) (by decide +kernel)
set_option maxRecDepth 20000 in
theorem gX6_rimOf_X6_isOf : GoodIn wsX6_rimOf (wsV RX6 81 RX6 yX6_isOf wsX6_isOf) := goodIn_app (goodIn_of _ (by decide +kernel)) ggX6_rimOf_X6_isOf
set_option maxRecDepth 20000 in
theorem ggX6_rimOf_X6_sidesOf : GoodIn wsX6_rimOf wsX6_sidesOf := goodIn_r _ [17, 6, 18, 19, 4, 20, 21, 22, 23, 24, 25, 26, 11, 12, 13, 27, 28, 29, 30, 31, 32, 33, 34, 35, 36, 37, 38, 39, 40, 41, 42, 43] (by decide +kernel) (by decide +kernel)
set_option maxRecDepth 20000 in
theorem gX6_rimOf_X6_sidesOf : GoodIn wsX6_rimOf (wsV RX6 97 RX6 yX6_sidesOf wsX6_sidesOf) := goodIn_app (goodIn_of _ (by decide +kernel)) ggX6_rimOf_X6_sidesOf
theorem dX6_rimOf_0 : decode cX6_rimOf 0 = .ok (.iconst 0, 1) := by decide +kernel
theorem dX6_rimOf_1 : decode cX6_rimOf 1 = .ok (.istore_n 2, 1) := by decide +kernel
theorem dX6_rimOf_2 : decode cX6_rimOf 2 = .ok (.iconst 0, 1) := by decide +kernel
theorem dX6_rimOf_3 : decode cX6_rimOf 3 = .ok (.istore_n 3, 1) := by decide +kernel
theorem dX6_rimOf_4 : decode cX6_rimOf 4 = .ok (.iload_n 3, 1) := by decide +kernel
theorem dX6_rimOf_5 : decode cX6_rimOf 5 = .ok (.sipush 256, 3) := by decide +kernel
theorem dX6_rimOf_8 : decode cX6_rimOf 8 = .ok (.if_icmp .ge 31, 3) := by decide +kernel
theorem dX6_rimOf_11 : decode cX6_rimOf 11 = .ok (.iload_n 2, 1) := by decide +kernel
theorem dX6_rimOf_12 : decode cX6_rimOf 12 = .ok (.aload_n 0, 1) := by decide +kernel
theorem dX6_rimOf_13 : decode cX6_rimOf 13 = .ok (.iload_n 3, 1) := by decide +kernel
theorem dX6_rimOf_14 : decode cX6_rimOf 14 = .ok (.iconst 1, 1) := by decide +kernel
theorem dX6_rimOf_15 : decode cX6_rimOf 15 = .ok (.iload_n 1, 1) := by decide +kernel
theorem dX6_rimOf_16 : decode cX6_rimOf 16 = .ok (.invokevirtual 81, 3) := by decide +kernel
theorem dX6_rimOf_19 : decode cX6_rimOf 19 = .ok (.ifCond .eq 11, 3) := by decide +kernel
theorem dX6_rimOf_22 : decode cX6_rimOf 22 = .ok (.aload_n 0, 1) := by decide +kernel
theorem dX6_rimOf_23 : decode cX6_rimOf 23 = .ok (.iload_n 3, 1) := by decide +kernel
theorem dX6_rimOf_24 : decode cX6_rimOf 24 = .ok (.invokevirtual 97, 3) := by decide +kernel
theorem dX6_rimOf_27 : decode cX6_rimOf 27 = .ok (.goto 4, 3) := by decide +kernel
theorem dX6_rimOf_30 : decode cX6_rimOf 30 = .ok (.iconst 0, 1) := by decide +kernel
theorem dX6_rimOf_31 : decode cX6_rimOf 31 = .ok (.iadd, 1) := by decide +kernel
theorem dX6_rimOf_32 : decode cX6_rimOf 32 = .ok (.istore_n 2, 1) := by decide +kernel
theorem dX6_rimOf_33 : decode cX6_rimOf 33 = .ok (.iinc 3 1, 3) := by decide +kernel
theorem dX6_rimOf_36 : decode cX6_rimOf 36 = .ok (.goto (-32), 3) := by decide +kernel
theorem dX6_rimOf_39 : decode cX6_rimOf 39 = .ok (.iload_n 2, 1) := by decide +kernel
theorem dX6_rimOf_40 : decode cX6_rimOf 40 = .ok (.ireturn, 1) := by decide +kernel
set_option maxRecDepth 20000 in
theorem ggX6_edge_X6_isOf : GoodIn wsX6_edge wsX6_isOf := goodIn_r _ [5, 6, 7, 8, 9, 4, 10, 11, 12, 13, 14, 15, 16, 17, 18, 19, 20, 21, 22, 23, 24, 25, 26, 27, 28, 29, 30] (by decide +kernel) (by decide +kernel)
set_option maxRecDepth 20000 in
theorem gX6_edge_X6_isOf : GoodIn wsX6_edge (wsV RX6 81 RX6 yX6_isOf wsX6_isOf) := goodIn_app (goodIn_of _ (by decide +kernel)) ggX6_edge_X6_isOf
theorem dX6_edge_0 : decode cX6_edge 0 = .ok (.iload_n 3, 1) := by decide +kernel
theorem dX6_edge_1 : decode cX6_edge 1 = .ok (.ifCond .eq 7, 3) := by decide +kernel
theorem dX6_edge_4 : decode cX6_edge 4 = .ok (.iconst (-1), 1) := by decide +kernel
theorem dX6_edge_5 : decode cX6_edge 5 = .ok (.goto 5, 3) := by decide +kernel
theorem dX6_edge_8 : decode cX6_edge 8 = .ok (.bipush 16, 2) := by decide +kernel
theorem dX6_edge_10 : decode cX6_edge 10 = .ok (.istore 4, 2) := by decide +kernel
theorem dX6_edge_12 : decode cX6_edge 12 = .ok (.iconst 0, 1) := by decide +kernel
theorem dX6_edge_13 : decode cX6_edge 13 = .ok (.istore 5, 2) := by decide +kernel
theorem dX6_edge_15 : decode cX6_edge 15 = .ok (.iload 5, 2) := by decide +kernel
theorem dX6_edge_17 : decode cX6_edge 17 = .ok (.sipush 256, 3) := by decide +kernel
theorem dX6_edge_20 : decode cX6_edge 20 = .ok (.if_icmp .ge 81, 3) := by decide +kernel
theorem dX6_edge_23 : decode cX6_edge 23 = .ok (.iload_n 2, 1) := by decide +kernel
theorem dX6_edge_24 : decode cX6_edge 24 = .ok (.ifCond .eq 11, 3) := by decide +kernel
theorem dX6_edge_27 : decode cX6_edge 27 = .ok (.iload 5, 2) := by decide +kernel
theorem dX6_edge_29 : decode cX6_edge 29 = .ok (.bipush 16, 2) := by decide +kernel
theorem dX6_edge_31 : decode cX6_edge 31 = .ok (.irem, 1) := by decide +kernel
theorem dX6_edge_32 : decode cX6_edge 32 = .ok (.goto 8, 3) := by decide +kernel
theorem dX6_edge_35 : decode cX6_edge 35 = .ok (.iload 5, 2) := by decide +kernel
theorem dX6_edge_37 : decode cX6_edge 37 = .ok (.bipush 16, 2) := by decide +kernel
theorem dX6_edge_39 : decode cX6_edge 39 = .ok (.idiv, 1) := by decide +kernel
theorem dX6_edge_40 : decode cX6_edge 40 = .ok (.istore 6, 2) := by decide +kernel
theorem dX6_edge_42 : decode cX6_edge 42 = .ok (.aload_n 0, 1) := by decide +kernel
theorem dX6_edge_43 : decode cX6_edge 43 = .ok (.iload 5, 2) := by decide +kernel
theorem dX6_edge_45 : decode cX6_edge 45 = .ok (.iconst 1, 1) := by decide +kernel
theorem dX6_edge_46 : decode cX6_edge 46 = .ok (.iload_n 1, 1) := by decide +kernel
theorem dX6_edge_47 : decode cX6_edge 47 = .ok (.invokevirtual 81, 3) := by decide +kernel
theorem dX6_edge_50 : decode cX6_edge 50 = .ok (.ifCond .eq 28, 3) := by decide +kernel
theorem dX6_edge_53 : decode cX6_edge 53 = .ok (.iload_n 3, 1) := by decide +kernel
theorem dX6_edge_54 : decode cX6_edge 54 = .ok (.ifCond .eq 13, 3) := by decide +kernel
theorem dX6_edge_57 : decode cX6_edge 57 = .ok (.iload 6, 2) := by decide +kernel
theorem dX6_edge_59 : decode cX6_edge 59 = .ok (.iload 4, 2) := by decide +kernel
theorem dX6_edge_61 : decode cX6_edge 61 = .ok (.if_icmp .le 17, 3) := by decide +kernel
theorem dX6_edge_64 : decode cX6_edge 64 = .ok (.goto 10, 3) := by decide +kernel
theorem dX6_edge_67 : decode cX6_edge 67 = .ok (.iload 6, 2) := by decide +kernel
theorem dX6_edge_69 : decode cX6_edge 69 = .ok (.iload 4, 2) := by decide +kernel
theorem dX6_edge_71 : decode cX6_edge 71 = .ok (.if_icmp .ge 7, 3) := by decide +kernel
theorem dX6_edge_74 : decode cX6_edge 74 = .ok (.iconst 1, 1) := by decide +kernel
theorem dX6_edge_75 : decode cX6_edge 75 = .ok (.goto 4, 3) := by decide +kernel
theorem dX6_edge_78 : decode cX6_edge 78 = .ok (.iconst 0, 1) := by decide +kernel
theorem dX6_edge_79 : decode cX6_edge 79 = .ok (.istore 7, 2) := by decide +kernel
theorem dX6_edge_81 : decode cX6_edge 81 = .ok (.iload 7, 2) := by decide +kernel
theorem dX6_edge_83 : decode cX6_edge 83 = .ok (.ifCond .eq 8, 3) := by decide +kernel
theorem dX6_edge_86 : decode cX6_edge 86 = .ok (.iload 6, 2) := by decide +kernel
theorem dX6_edge_88 : decode cX6_edge 88 = .ok (.goto 5, 3) := by decide +kernel
theorem dX6_edge_91 : decode cX6_edge 91 = .ok (.iload 4, 2) := by decide +kernel
theorem dX6_edge_93 : decode cX6_edge 93 = .ok (.istore 4, 2) := by decide +kernel
theorem dX6_edge_95 : decode cX6_edge 95 = .ok (.iinc 5 1, 3) := by decide +kernel
theorem dX6_edge_98 : decode cX6_edge 98 = .ok (.goto (-83), 3) := by decide +kernel
theorem dX6_edge_101 : decode cX6_edge 101 = .ok (.iload 4, 2) := by decide +kernel
theorem dX6_edge_103 : decode cX6_edge 103 = .ok (.ireturn, 1) := by decide +kernel
set_option maxRecDepth 20000 in
theorem ggX6_holesOf_X6_partOf : GoodIn wsX6_holesOf wsX6_partOf := goodIn_r _ [6, 7, 8, 9, 10, 11, 5, 12, 13, 14, 15, 16, 17, 18, 19, 20, 21, 22, 23, 24, 25, 26, 27, 28, 29, 30] (by decide +kernel) (by decide +kernel)
set_option maxRecDepth 20000 in
theorem gX6_holesOf_X6_partOf : GoodIn wsX6_holesOf (wsV RX6 91 RX6 yX6_partOf wsX6_partOf) := goodIn_app (goodIn_of _ (by decide +kernel)) ggX6_holesOf_X6_partOf
theorem dX6_holesOf_0 : decode cX6_holesOf 0 = .ok (.iconst 0, 1) := by decide +kernel
theorem dX6_holesOf_1 : decode cX6_holesOf 1 = .ok (.istore_n 2, 1) := by decide +kernel
theorem dX6_holesOf_2 : decode cX6_holesOf 2 = .ok (.iconst 0, 1) := by decide +kernel
theorem dX6_holesOf_3 : decode cX6_holesOf 3 = .ok (.istore_n 3, 1) := by decide +kernel
theorem dX6_holesOf_4 : decode cX6_holesOf 4 = .ok (.iload_n 3, 1) := by decide +kernel
theorem dX6_holesOf_5 : decode cX6_holesOf 5 = .ok (.aload_n 0, 1) := by decide +kernel
theorem dX6_holesOf_6 : decode cX6_holesOf 6 = .ok (.getfield 66, 3) := by decide +kernel
theorem dX6_holesOf_9 : decode cX6_holesOf 9 = .ok (.if_icmp .ge 26, 3) := by decide +kernel
theorem dX6_holesOf_12 : decode cX6_holesOf 12 = .ok (.iload_n 2, 1) := by decide +kernel
theorem dX6_holesOf_13 : decode cX6_holesOf 13 = .ok (.aload_n 0, 1) := by decide +kernel
theorem dX6_holesOf_14 : decode cX6_holesOf 14 = .ok (.iload_n 3, 1) := by decide +kernel
theorem dX6_holesOf_15 : decode cX6_holesOf 15 = .ok (.invokevirtual 91, 3) := by decide +kernel
theorem dX6_holesOf_18 : decode cX6_holesOf 18 = .ok (.iload_n 1, 1) := by decide +kernel
theorem dX6_holesOf_19 : decode cX6_holesOf 19 = .ok (.if_icmp .ne 7, 3) := by decide +kernel
theorem dX6_holesOf_22 : decode cX6_holesOf 22 = .ok (.iconst 1, 1) := by decide +kernel
theorem dX6_holesOf_23 : decode cX6_holesOf 23 = .ok (.goto 4, 3) := by decide +kernel
theorem dX6_holesOf_26 : decode cX6_holesOf 26 = .ok (.iconst 0, 1) := by decide +kernel
theorem dX6_holesOf_27 : decode cX6_holesOf 27 = .ok (.iadd, 1) := by decide +kernel
theorem dX6_holesOf_28 : decode cX6_holesOf 28 = .ok (.istore_n 2, 1) := by decide +kernel
theorem dX6_holesOf_29 : decode cX6_holesOf 29 = .ok (.iinc 3 1, 3) := by decide +kernel
theorem dX6_holesOf_32 : decode cX6_holesOf 32 = .ok (.goto (-28), 3) := by decide +kernel
theorem dX6_holesOf_35 : decode cX6_holesOf 35 = .ok (.iload_n 2, 1) := by decide +kernel
theorem dX6_holesOf_36 : decode cX6_holesOf 36 = .ok (.ireturn, 1) := by decide +kernel
set_option maxRecDepth 20000 in
theorem ggX6_partsIn_X6_liesIn : GoodIn wsX6_partsIn wsX6_liesIn := goodIn_r _ [6, 7, 8, 9, 10, 11, 12, 13, 14, 15, 16, 17, 18, 19, 20, 21, 22, 23, 24, 25, 26] (by decide +kernel) (by decide +kernel)
set_option maxRecDepth 20000 in
theorem gX6_partsIn_X6_liesIn : GoodIn wsX6_partsIn (wsV RX6 88 RX6 yX6_liesIn wsX6_liesIn) := goodIn_app (goodIn_of _ (by decide +kernel)) ggX6_partsIn_X6_liesIn
theorem dX6_partsIn_0 : decode cX6_partsIn 0 = .ok (.iconst 0, 1) := by decide +kernel
theorem dX6_partsIn_1 : decode cX6_partsIn 1 = .ok (.istore_n 2, 1) := by decide +kernel
theorem dX6_partsIn_2 : decode cX6_partsIn 2 = .ok (.iconst 0, 1) := by decide +kernel
theorem dX6_partsIn_3 : decode cX6_partsIn 3 = .ok (.istore_n 3, 1) := by decide +kernel
theorem dX6_partsIn_4 : decode cX6_partsIn 4 = .ok (.iload_n 3, 1) := by decide +kernel
theorem dX6_partsIn_5 : decode cX6_partsIn 5 = .ok (.aload_n 0, 1) := by decide +kernel
theorem dX6_partsIn_6 : decode cX6_partsIn 6 = .ok (.getfield 59, 3) := by decide +kernel
theorem dX6_partsIn_9 : decode cX6_partsIn 9 = .ok (.if_icmp .ge 26, 3) := by decide +kernel
theorem dX6_partsIn_12 : decode cX6_partsIn 12 = .ok (.iload_n 2, 1) := by decide +kernel
theorem dX6_partsIn_13 : decode cX6_partsIn 13 = .ok (.aload_n 0, 1) := by decide +kernel
theorem dX6_partsIn_14 : decode cX6_partsIn 14 = .ok (.iload_n 3, 1) := by decide +kernel
theorem dX6_partsIn_15 : decode cX6_partsIn 15 = .ok (.invokevirtual 88, 3) := by decide +kernel
theorem dX6_partsIn_18 : decode cX6_partsIn 18 = .ok (.iload_n 1, 1) := by decide +kernel
theorem dX6_partsIn_19 : decode cX6_partsIn 19 = .ok (.if_icmp .ne 7, 3) := by decide +kernel
theorem dX6_partsIn_22 : decode cX6_partsIn 22 = .ok (.iconst 1, 1) := by decide +kernel
theorem dX6_partsIn_23 : decode cX6_partsIn 23 = .ok (.goto 4, 3) := by decide +kernel
theorem dX6_partsIn_26 : decode cX6_partsIn 26 = .ok (.iconst 0, 1) := by decide +kernel
theorem dX6_partsIn_27 : decode cX6_partsIn 27 = .ok (.iadd, 1) := by decide +kernel
theorem dX6_partsIn_28 : decode cX6_partsIn 28 = .ok (.istore_n 2, 1) := by decide +kernel
theorem dX6_partsIn_29 : decode cX6_partsIn 29 = .ok (.iinc 3 1, 3) := by decide +kernel
theorem dX6_partsIn_32 : decode cX6_partsIn 32 = .ok (.goto (-28), 3) := by decide +kernel
theorem dX6_partsIn_35 : decode cX6_partsIn 35 = .ok (.iload_n 2, 1) := by decide +kernel
theorem dX6_partsIn_36 : decode cX6_partsIn 36 = .ok (.ireturn, 1) := by decide +kernel
set_option maxRecDepth 20000 in
theorem ggX6_runsOf_X6_bits : GoodIn wsX6_runsOf wsX6_bits := goodIn_r _ [4] (by decide +kernel) (by decide +kernel)
set_option maxRecDepth 20000 in
theorem gX6_runsOf_X6_bits : GoodIn wsX6_runsOf (va_wsS RX6 77 yX6_bits wsX6_bits) := goodIn_app (goodIn_of _ (by decide +kernel)) ggX6_runsOf_X6_bits
theorem dX6_runsOf_0 : decode cX6_runsOf 0 = .ok (.iload_n 0, 1) := by decide +kernel
theorem dX6_runsOf_1 : decode cX6_runsOf 1 = .ok (.iload_n 0, 1) := by decide +kernel
theorem dX6_runsOf_2 : decode cX6_runsOf 2 = .ok (.iconst 1, 1) := by decide +kernel
theorem dX6_runsOf_3 : decode cX6_runsOf 3 = .ok (.ishl, 1) := by decide +kernel
theorem dX6_runsOf_4 : decode cX6_runsOf 4 = .ok (.iconst (-1), 1) := by decide +kernel
theorem dX6_runsOf_5 : decode cX6_runsOf 5 = .ok (.ixor, 1) := by decide +kernel
theorem dX6_runsOf_6 : decode cX6_runsOf 6 = .ok (.iand, 1) := by decide +kernel
theorem dX6_runsOf_7 : decode cX6_runsOf 7 = .ok (.invokestatic 77, 3) := by decide +kernel
theorem dX6_runsOf_10 : decode cX6_runsOf 10 = .ok (.ireturn, 1) := by decide +kernel
set_option maxRecDepth 20000 in
theorem ggX6_largest_X6_sizeOf : GoodIn wsX6_largest wsX6_sizeOf := goodIn_r _ [6, 7, 8, 9, 5, 10, 11, 12, 13, 14, 15, 16, 17, 18, 19, 20, 21, 22, 23, 24, 25, 26, 27, 28, 29, 30, 31, 32, 33, 34, 35] (by decide +kernel) (by decide +kernel)
set_option maxRecDepth 20000 in
theorem gX6_largest_X6_sizeOf : GoodIn wsX6_largest (wsV RX6 100 RX6 yX6_sizeOf wsX6_sizeOf) := goodIn_app (goodIn_of _ (by decide +kernel)) ggX6_largest_X6_sizeOf
theorem dX6_largest_0 : decode cX6_largest 0 = .ok (.iconst (-1), 1) := by decide +kernel
theorem dX6_largest_1 : decode cX6_largest 1 = .ok (.istore_n 1, 1) := by decide +kernel
theorem dX6_largest_2 : decode cX6_largest 2 = .ok (.iconst 0, 1) := by decide +kernel
theorem dX6_largest_3 : decode cX6_largest 3 = .ok (.istore_n 2, 1) := by decide +kernel
theorem dX6_largest_4 : decode cX6_largest 4 = .ok (.iconst 0, 1) := by decide +kernel
theorem dX6_largest_5 : decode cX6_largest 5 = .ok (.istore_n 3, 1) := by decide +kernel
theorem dX6_largest_6 : decode cX6_largest 6 = .ok (.iload_n 3, 1) := by decide +kernel
theorem dX6_largest_7 : decode cX6_largest 7 = .ok (.aload_n 0, 1) := by decide +kernel
theorem dX6_largest_8 : decode cX6_largest 8 = .ok (.getfield 59, 3) := by decide +kernel
theorem dX6_largest_11 : decode cX6_largest 11 = .ok (.if_icmp .ge 42, 3) := by decide +kernel
theorem dX6_largest_14 : decode cX6_largest 14 = .ok (.aload_n 0, 1) := by decide +kernel
theorem dX6_largest_15 : decode cX6_largest 15 = .ok (.iconst 1, 1) := by decide +kernel
theorem dX6_largest_16 : decode cX6_largest 16 = .ok (.iload_n 3, 1) := by decide +kernel
theorem dX6_largest_17 : decode cX6_largest 17 = .ok (.invokevirtual 100, 3) := by decide +kernel
theorem dX6_largest_20 : decode cX6_largest 20 = .ok (.istore 4, 2) := by decide +kernel
theorem dX6_largest_22 : decode cX6_largest 22 = .ok (.iload 4, 2) := by decide +kernel
theorem dX6_largest_24 : decode cX6_largest 24 = .ok (.iload_n 2, 1) := by decide +kernel
theorem dX6_largest_25 : decode cX6_largest 25 = .ok (.if_icmp .le 7, 3) := by decide +kernel
theorem dX6_largest_28 : decode cX6_largest 28 = .ok (.iload_n 3, 1) := by decide +kernel
theorem dX6_largest_29 : decode cX6_largest 29 = .ok (.goto 4, 3) := by decide +kernel
theorem dX6_largest_32 : decode cX6_largest 32 = .ok (.iload_n 1, 1) := by decide +kernel
theorem dX6_largest_33 : decode cX6_largest 33 = .ok (.istore_n 1, 1) := by decide +kernel
theorem dX6_largest_34 : decode cX6_largest 34 = .ok (.iload 4, 2) := by decide +kernel
theorem dX6_largest_36 : decode cX6_largest 36 = .ok (.iload_n 2, 1) := by decide +kernel
theorem dX6_largest_37 : decode cX6_largest 37 = .ok (.if_icmp .le 8, 3) := by decide +kernel
theorem dX6_largest_40 : decode cX6_largest 40 = .ok (.iload 4, 2) := by decide +kernel
theorem dX6_largest_42 : decode cX6_largest 42 = .ok (.goto 4, 3) := by decide +kernel
theorem dX6_largest_45 : decode cX6_largest 45 = .ok (.iload_n 2, 1) := by decide +kernel
theorem dX6_largest_46 : decode cX6_largest 46 = .ok (.istore_n 2, 1) := by decide +kernel
theorem dX6_largest_47 : decode cX6_largest 47 = .ok (.iinc 3 1, 3) := by decide +kernel
theorem dX6_largest_50 : decode cX6_largest 50 = .ok (.goto (-44), 3) := by decide +kernel
theorem dX6_largest_53 : decode cX6_largest 53 = .ok (.iload_n 1, 1) := by decide +kernel
theorem dX6_largest_54 : decode cX6_largest 54 = .ok (.ireturn, 1) := by decide +kernel
set_option maxRecDepth 20000 in
theorem ggX6_told_X6_parts : GoodIn wsX6_told wsX6_parts := goodIn_r _ [11, 2, 4, 3, 12, 13, 14, 15, 16, 17, 10, 18, 19, 20, 21, 22, 23, 24, 25, 26, 27, 28, 29, 30, 31, 32, 78, 79, 80, 81, 82, 83, 84, 85, 86, 87, 88, 89, 90, 91, 92, 93, 94] (by decide +kernel) (by decide +kernel)
set_option maxRecDepth 20000 in
theorem gX6_told_X6_parts : GoodIn wsX6_told (wsV RX6 73 RX6 yX6_parts wsX6_parts) := goodIn_app (goodIn_of _ (by decide +kernel)) ggX6_told_X6_parts
set_option maxRecDepth 20000 in
theorem ggX6_told_X6_darkOf : GoodIn wsX6_told wsX6_darkOf := goodIn_r _ [36, 37, 38, 10, 39] (by decide +kernel) (by decide +kernel)
set_option maxRecDepth 20000 in
theorem gX6_told_X6_darkOf : GoodIn wsX6_told (wsV RX6 104 RX6 yX6_darkOf wsX6_darkOf) := goodIn_app (goodIn_of _ (by decide +kernel)) ggX6_told_X6_darkOf
set_option maxRecDepth 20000 in
theorem ggX6_told_X6_runsOf : GoodIn wsX6_told wsX6_runsOf := goodIn_r _ [42, 37, 38, 10, 39] (by decide +kernel) (by decide +kernel)
set_option maxRecDepth 20000 in
theorem gX6_told_X6_runsOf : GoodIn wsX6_told (va_wsS RX6 108 yX6_runsOf wsX6_runsOf) := goodIn_app (goodIn_of _ (by decide +kernel)) ggX6_told_X6_runsOf
set_option maxRecDepth 20000 in
theorem ggX6_told_X6_isDark : GoodIn wsX6_told wsX6_isDark := goodIn_r _ [18, 19, 20, 10, 21] (by decide +kernel) (by decide +kernel)
set_option maxRecDepth 20000 in
theorem gX6_told_X6_isDark : GoodIn wsX6_told (va_wsS RX6 52 yX6_isDark wsX6_isDark) := goodIn_app (goodIn_of _ (by decide +kernel)) ggX6_told_X6_isDark
set_option maxRecDepth 20000 in
theorem ggX6_told_X6_sidesOf : GoodIn wsX6_told wsX6_sidesOf := goodIn_r _ [46, 1, 47, 48, 10, 49, 27, 28, 29, 30, 31, 32, 19, 20, 21, 78, 79, 80, 81, 82, 83, 84, 85, 86, 87, 88, 89, 90, 91, 92, 93, 94] (by decide +kernel) (by decide +kernel)
set_option maxRecDepth 20000 in
theorem gX6_told_X6_sidesOf : GoodIn wsX6_told (wsV RX6 97 RX6 yX6_sidesOf wsX6_sidesOf) := goodIn_app (goodIn_of _ (by decide +kernel)) ggX6_told_X6_sidesOf
set_option maxRecDepth 20000 in
theorem ggX6_told_X6_deep : GoodIn wsX6_told wsX6_deep := goodIn_r _ [53, 54, 55, 56, 10, 57, 13, 15, 12, 58, 59, 60, 61, 14, 62, 63, 64, 65, 78, 79, 80, 81, 82, 83, 84, 85, 86, 87, 88, 89, 90, 91, 92, 93, 94] (by decide +kernel) (by decide +kernel)
set_option maxRecDepth 20000 in
theorem gX6_told_X6_deep : GoodIn wsX6_told (wsV RX6 111 RX6 yX6_deep wsX6_deep) := goodIn_app (goodIn_of _ (by decide +kernel)) ggX6_told_X6_deep
set_option maxRecDepth 20000 in
theorem ggX6_told_X6_largest : GoodIn wsX6_told wsX6_largest := goodIn_r _ [69, 2, 70, 71, 72, 10, 73, 74, 75, 76, 77, 1, 12, 16, 17, 18, 19, 20, 21, 78, 79, 80, 81, 82, 83, 84, 85, 86, 87, 88, 89, 90, 91, 92, 93, 94] (by decide +kernel) (by decide +kernel)
set_option maxRecDepth 20000 in
theorem gX6_told_X6_largest : GoodIn wsX6_told (wsV RX6 114 RX6 yX6_largest wsX6_largest) := goodIn_app (goodIn_of _ (by decide +kernel)) ggX6_told_X6_largest
theorem dX6_told_0 : decode cX6_told 0 = .ok (.aload_n 0, 1) := by decide +kernel
theorem dX6_told_1 : decode cX6_told 1 = .ok (.aload_n 0, 1) := by decide +kernel
theorem dX6_told_2 : decode cX6_told 2 = .ok (.getfield 7, 3) := by decide +kernel
theorem dX6_told_5 : decode cX6_told 5 = .ok (.invokevirtual 73, 3) := by decide +kernel
theorem dX6_told_8 : decode cX6_told 8 = .ok (.iconst 0, 1) := by decide +kernel
theorem dX6_told_9 : decode cX6_told 9 = .ok (.istore_n 2, 1) := by decide +kernel
theorem dX6_told_10 : decode cX6_told 10 = .ok (.iload_n 1, 1) := by decide +kernel
theorem dX6_told_11 : decode cX6_told 11 = .ok (.tableswitch 220 0 10 #[57, 65, 74, 79, 84, 89, 103, 131, 171, 210, 215], 57) := by decide +kernel
theorem dX6_told_68 : decode cX6_told 68 = .ok (.aload_n 0, 1) := by decide +kernel
theorem dX6_told_69 : decode cX6_told 69 = .ok (.getfield 7, 3) := by decide +kernel
theorem dX6_told_72 : decode cX6_told 72 = .ok (.bipush 16, 2) := by decide +kernel
theorem dX6_told_74 : decode cX6_told 74 = .ok (.iaload, 1) := by decide +kernel
theorem dX6_told_75 : decode cX6_told 75 = .ok (.ireturn, 1) := by decide +kernel
theorem dX6_told_76 : decode cX6_told 76 = .ok (.aload_n 0, 1) := by decide +kernel
theorem dX6_told_77 : decode cX6_told 77 = .ok (.aload_n 0, 1) := by decide +kernel
theorem dX6_told_78 : decode cX6_told 78 = .ok (.getfield 7, 3) := by decide +kernel
theorem dX6_told_81 : decode cX6_told 81 = .ok (.invokevirtual 104, 3) := by decide +kernel
theorem dX6_told_84 : decode cX6_told 84 = .ok (.ireturn, 1) := by decide +kernel
theorem dX6_told_85 : decode cX6_told 85 = .ok (.aload_n 0, 1) := by decide +kernel
theorem dX6_told_86 : decode cX6_told 86 = .ok (.getfield 59, 3) := by decide +kernel
theorem dX6_told_89 : decode cX6_told 89 = .ok (.ireturn, 1) := by decide +kernel
theorem dX6_told_90 : decode cX6_told 90 = .ok (.aload_n 0, 1) := by decide +kernel
theorem dX6_told_91 : decode cX6_told 91 = .ok (.getfield 66, 3) := by decide +kernel
theorem dX6_told_94 : decode cX6_told 94 = .ok (.ireturn, 1) := by decide +kernel
theorem dX6_told_95 : decode cX6_told 95 = .ok (.aload_n 0, 1) := by decide +kernel
theorem dX6_told_96 : decode cX6_told 96 = .ok (.getfield 63, 3) := by decide +kernel
theorem dX6_told_99 : decode cX6_told 99 = .ok (.ireturn, 1) := by decide +kernel
theorem dX6_told_100 : decode cX6_told 100 = .ok (.aload_n 0, 1) := by decide +kernel
theorem dX6_told_101 : decode cX6_told 101 = .ok (.getfield 59, 3) := by decide +kernel
theorem dX6_told_104 : decode cX6_told 104 = .ok (.aload_n 0, 1) := by decide +kernel
theorem dX6_told_105 : decode cX6_told 105 = .ok (.getfield 66, 3) := by decide +kernel
theorem dX6_told_108 : decode cX6_told 108 = .ok (.isub, 1) := by decide +kernel
theorem dX6_told_109 : decode cX6_told 109 = .ok (.sipush 1000, 3) := by decide +kernel
theorem dX6_told_112 : decode cX6_told 112 = .ok (.iadd, 1) := by decide +kernel
theorem dX6_told_113 : decode cX6_told 113 = .ok (.ireturn, 1) := by decide +kernel
theorem dX6_told_114 : decode cX6_told 114 = .ok (.iconst 0, 1) := by decide +kernel
theorem dX6_told_115 : decode cX6_told 115 = .ok (.istore_n 3, 1) := by decide +kernel
theorem dX6_told_116 : decode cX6_told 116 = .ok (.iload_n 3, 1) := by decide +kernel
theorem dX6_told_117 : decode cX6_told 117 = .ok (.bipush 16, 2) := by decide +kernel
theorem dX6_told_119 : decode cX6_told 119 = .ok (.if_icmp .ge 21, 3) := by decide +kernel
theorem dX6_told_122 : decode cX6_told 122 = .ok (.iload_n 2, 1) := by decide +kernel
theorem dX6_told_123 : decode cX6_told 123 = .ok (.aload_n 0, 1) := by decide +kernel
theorem dX6_told_124 : decode cX6_told 124 = .ok (.getfield 7, 3) := by decide +kernel
theorem dX6_told_127 : decode cX6_told 127 = .ok (.iload_n 3, 1) := by decide +kernel
theorem dX6_told_128 : decode cX6_told 128 = .ok (.iaload, 1) := by decide +kernel
theorem dX6_told_129 : decode cX6_told 129 = .ok (.invokestatic 108, 3) := by decide +kernel
theorem dX6_told_132 : decode cX6_told 132 = .ok (.iadd, 1) := by decide +kernel
theorem dX6_told_133 : decode cX6_told 133 = .ok (.istore_n 2, 1) := by decide +kernel
theorem dX6_told_134 : decode cX6_told 134 = .ok (.iinc 3 1, 3) := by decide +kernel
theorem dX6_told_137 : decode cX6_told 137 = .ok (.goto (-21), 3) := by decide +kernel
theorem dX6_told_140 : decode cX6_told 140 = .ok (.iload_n 2, 1) := by decide +kernel
theorem dX6_told_141 : decode cX6_told 141 = .ok (.ireturn, 1) := by decide +kernel
theorem dX6_told_142 : decode cX6_told 142 = .ok (.iconst 0, 1) := by decide +kernel
theorem dX6_told_143 : decode cX6_told 143 = .ok (.istore_n 3, 1) := by decide +kernel
theorem dX6_told_144 : decode cX6_told 144 = .ok (.iload_n 3, 1) := by decide +kernel
theorem dX6_told_145 : decode cX6_told 145 = .ok (.sipush 256, 3) := by decide +kernel
theorem dX6_told_148 : decode cX6_told 148 = .ok (.if_icmp .ge 32, 3) := by decide +kernel
theorem dX6_told_151 : decode cX6_told 151 = .ok (.iload_n 2, 1) := by decide +kernel
theorem dX6_told_152 : decode cX6_told 152 = .ok (.aload_n 0, 1) := by decide +kernel
theorem dX6_told_153 : decode cX6_told 153 = .ok (.getfield 7, 3) := by decide +kernel
theorem dX6_told_156 : decode cX6_told 156 = .ok (.iload_n 3, 1) := by decide +kernel
theorem dX6_told_157 : decode cX6_told 157 = .ok (.invokestatic 52, 3) := by decide +kernel
theorem dX6_told_160 : decode cX6_told 160 = .ok (.ifCond .eq 11, 3) := by decide +kernel
theorem dX6_told_163 : decode cX6_told 163 = .ok (.aload_n 0, 1) := by decide +kernel
theorem dX6_told_164 : decode cX6_told 164 = .ok (.iload_n 3, 1) := by decide +kernel
theorem dX6_told_165 : decode cX6_told 165 = .ok (.invokevirtual 97, 3) := by decide +kernel
theorem dX6_told_168 : decode cX6_told 168 = .ok (.goto 4, 3) := by decide +kernel
theorem dX6_told_171 : decode cX6_told 171 = .ok (.iconst 0, 1) := by decide +kernel
theorem dX6_told_172 : decode cX6_told 172 = .ok (.iadd, 1) := by decide +kernel
theorem dX6_told_173 : decode cX6_told 173 = .ok (.istore_n 2, 1) := by decide +kernel
theorem dX6_told_174 : decode cX6_told 174 = .ok (.iinc 3 1, 3) := by decide +kernel
theorem dX6_told_177 : decode cX6_told 177 = .ok (.goto (-33), 3) := by decide +kernel
theorem dX6_told_180 : decode cX6_told 180 = .ok (.iload_n 2, 1) := by decide +kernel
theorem dX6_told_181 : decode cX6_told 181 = .ok (.ireturn, 1) := by decide +kernel
theorem dX6_told_182 : decode cX6_told 182 = .ok (.iconst (-1), 1) := by decide +kernel
theorem dX6_told_183 : decode cX6_told 183 = .ok (.istore_n 2, 1) := by decide +kernel
theorem dX6_told_184 : decode cX6_told 184 = .ok (.iconst 0, 1) := by decide +kernel
theorem dX6_told_185 : decode cX6_told 185 = .ok (.istore_n 3, 1) := by decide +kernel
theorem dX6_told_186 : decode cX6_told 186 = .ok (.iload_n 3, 1) := by decide +kernel
theorem dX6_told_187 : decode cX6_told 187 = .ok (.aload_n 0, 1) := by decide +kernel
theorem dX6_told_188 : decode cX6_told 188 = .ok (.getfield 59, 3) := by decide +kernel
theorem dX6_told_191 : decode cX6_told 191 = .ok (.if_icmp .ge 28, 3) := by decide +kernel
theorem dX6_told_194 : decode cX6_told 194 = .ok (.aload_n 0, 1) := by decide +kernel
theorem dX6_told_195 : decode cX6_told 195 = .ok (.iload_n 3, 1) := by decide +kernel
theorem dX6_told_196 : decode cX6_told 196 = .ok (.invokevirtual 111, 3) := by decide +kernel
theorem dX6_told_199 : decode cX6_told 199 = .ok (.iload_n 2, 1) := by decide +kernel
theorem dX6_told_200 : decode cX6_told 200 = .ok (.if_icmp .le 11, 3) := by decide +kernel
theorem dX6_told_203 : decode cX6_told 203 = .ok (.aload_n 0, 1) := by decide +kernel
theorem dX6_told_204 : decode cX6_told 204 = .ok (.iload_n 3, 1) := by decide +kernel
theorem dX6_told_205 : decode cX6_told 205 = .ok (.invokevirtual 111, 3) := by decide +kernel
theorem dX6_told_208 : decode cX6_told 208 = .ok (.goto 4, 3) := by decide +kernel
theorem dX6_told_211 : decode cX6_told 211 = .ok (.iload_n 2, 1) := by decide +kernel
theorem dX6_told_212 : decode cX6_told 212 = .ok (.istore_n 2, 1) := by decide +kernel
theorem dX6_told_213 : decode cX6_told 213 = .ok (.iinc 3 1, 3) := by decide +kernel
theorem dX6_told_216 : decode cX6_told 216 = .ok (.goto (-30), 3) := by decide +kernel
theorem dX6_told_219 : decode cX6_told 219 = .ok (.iload_n 2, 1) := by decide +kernel
theorem dX6_told_220 : decode cX6_told 220 = .ok (.ireturn, 1) := by decide +kernel
theorem dX6_told_221 : decode cX6_told 221 = .ok (.aload_n 0, 1) := by decide +kernel
theorem dX6_told_222 : decode cX6_told 222 = .ok (.invokevirtual 114, 3) := by decide +kernel
theorem dX6_told_225 : decode cX6_told 225 = .ok (.ireturn, 1) := by decide +kernel
theorem dX6_told_226 : decode cX6_told 226 = .ok (.aload_n 0, 1) := by decide +kernel
theorem dX6_told_227 : decode cX6_told 227 = .ok (.getfield 118, 3) := by decide +kernel
theorem dX6_told_230 : decode cX6_told 230 = .ok (.ireturn, 1) := by decide +kernel
theorem dX6_told_231 : decode cX6_told 231 = .ok (.ldc 121, 2) := by decide +kernel
theorem dX6_told_233 : decode cX6_told 233 = .ok (.ireturn, 1) := by decide +kernel
set_option maxRecDepth 20000 in
theorem ggX6_rowAt_X6_in : GoodIn wsX6_rowAt wsX6_in := goodIn_r _ [7] (by decide +kernel) (by decide +kernel)
set_option maxRecDepth 20000 in
theorem gX6_rowAt_X6_in : GoodIn wsX6_rowAt (va_wsS RX6 48 yX6_in wsX6_in) := goodIn_app (goodIn_of _ (by decide +kernel)) ggX6_rowAt_X6_in
set_option maxRecDepth 20000 in
theorem ggX6_rowAt_X6_runsOf : GoodIn wsX6_rowAt wsX6_runsOf := goodIn_r _ [10, 11, 12, 6, 13] (by decide +kernel) (by decide +kernel)
set_option maxRecDepth 20000 in
theorem gX6_rowAt_X6_runsOf : GoodIn wsX6_rowAt (va_wsS RX6 108 yX6_runsOf wsX6_runsOf) := goodIn_app (goodIn_of _ (by decide +kernel)) ggX6_rowAt_X6_runsOf
theorem dX6_rowAt_0 : decode cX6_rowAt 0 = .ok (.iload_n 1, 1) := by decide +kernel
theorem dX6_rowAt_1 : decode cX6_rowAt 1 = .ok (.iconst 0, 1) := by decide +kernel
theorem dX6_rowAt_2 : decode cX6_rowAt 2 = .ok (.bipush 15, 2) := by decide +kernel
theorem dX6_rowAt_4 : decode cX6_rowAt 4 = .ok (.invokestatic 48, 3) := by decide +kernel
theorem dX6_rowAt_7 : decode cX6_rowAt 7 = .ok (.ifCond .ne 8, 3) := by decide +kernel
theorem dX6_rowAt_10 : decode cX6_rowAt 10 = .ok (.ldc 122, 2) := by decide +kernel
theorem dX6_rowAt_12 : decode cX6_rowAt 12 = .ok (.goto 35, 3) := by decide +kernel
theorem dX6_rowAt_15 : decode cX6_rowAt 15 = .ok (.iload_n 2, 1) := by decide +kernel
theorem dX6_rowAt_16 : decode cX6_rowAt 16 = .ok (.ifCond .ne 12, 3) := by decide +kernel
theorem dX6_rowAt_19 : decode cX6_rowAt 19 = .ok (.aload_n 0, 1) := by decide +kernel
theorem dX6_rowAt_20 : decode cX6_rowAt 20 = .ok (.getfield 7, 3) := by decide +kernel
theorem dX6_rowAt_23 : decode cX6_rowAt 23 = .ok (.iload_n 1, 1) := by decide +kernel
theorem dX6_rowAt_24 : decode cX6_rowAt 24 = .ok (.iaload, 1) := by decide +kernel
theorem dX6_rowAt_25 : decode cX6_rowAt 25 = .ok (.goto 22, 3) := by decide +kernel
theorem dX6_rowAt_28 : decode cX6_rowAt 28 = .ok (.iload_n 2, 1) := by decide +kernel
theorem dX6_rowAt_29 : decode cX6_rowAt 29 = .ok (.iconst 1, 1) := by decide +kernel
theorem dX6_rowAt_30 : decode cX6_rowAt 30 = .ok (.if_icmp .ne 15, 3) := by decide +kernel
theorem dX6_rowAt_33 : decode cX6_rowAt 33 = .ok (.aload_n 0, 1) := by decide +kernel
theorem dX6_rowAt_34 : decode cX6_rowAt 34 = .ok (.getfield 7, 3) := by decide +kernel
theorem dX6_rowAt_37 : decode cX6_rowAt 37 = .ok (.iload_n 1, 1) := by decide +kernel
theorem dX6_rowAt_38 : decode cX6_rowAt 38 = .ok (.iaload, 1) := by decide +kernel
theorem dX6_rowAt_39 : decode cX6_rowAt 39 = .ok (.invokestatic 108, 3) := by decide +kernel
theorem dX6_rowAt_42 : decode cX6_rowAt 42 = .ok (.goto 5, 3) := by decide +kernel
theorem dX6_rowAt_45 : decode cX6_rowAt 45 = .ok (.ldc 121, 2) := by decide +kernel
theorem dX6_rowAt_47 : decode cX6_rowAt 47 = .ok (.ireturn, 1) := by decide +kernel
set_option maxRecDepth 20000 in
theorem ggX6_partsTurned_X6_copies : GoodIn wsX6_partsTurned wsX6_copies := goodIn_r _ [6] (by decide +kernel) (by decide +kernel)
set_option maxRecDepth 20000 in
theorem gX6_partsTurned_X6_copies : GoodIn wsX6_partsTurned (va_wsS RX6 123 yX6_copies wsX6_copies) := goodIn_app (goodIn_of _ (by decide +kernel)) ggX6_partsTurned_X6_copies
set_option maxRecDepth 20000 in
theorem ggX6_partsTurned_X6_partsOf : GoodIn wsX6_partsTurned wsX6_partsOf := goodIn_r _ [10, 11, 12, 13, 14, 5, 15, 16, 17, 18, 19, 20, 21, 22, 23, 24, 25, 26, 27, 28, 29, 30, 31, 32, 33, 34, 35, 36, 37, 38, 39, 40, 41, 42, 43, 44, 45, 46, 47, 48, 49, 50, 51, 52, 53, 54, 55] (by decide +kernel) (by decide +kernel)
set_option maxRecDepth 20000 in
theorem gX6_partsTurned_X6_partsOf : GoodIn wsX6_partsTurned (wsV RX6 127 RX6 yX6_partsOf wsX6_partsOf) := goodIn_app (goodIn_of _ (by decide +kernel)) ggX6_partsTurned_X6_partsOf
theorem dX6_partsTurned_0 : decode cX6_partsTurned 0 = .ok (.aload_n 0, 1) := by decide +kernel
theorem dX6_partsTurned_1 : decode cX6_partsTurned 1 = .ok (.getfield 7, 3) := by decide +kernel
theorem dX6_partsTurned_4 : decode cX6_partsTurned 4 = .ok (.aload_n 0, 1) := by decide +kernel
theorem dX6_partsTurned_5 : decode cX6_partsTurned 5 = .ok (.getfield 13, 3) := by decide +kernel
theorem dX6_partsTurned_8 : decode cX6_partsTurned 8 = .ok (.invokestatic 123, 3) := by decide +kernel
theorem dX6_partsTurned_11 : decode cX6_partsTurned 11 = .ok (.aload_n 0, 1) := by decide +kernel
theorem dX6_partsTurned_12 : decode cX6_partsTurned 12 = .ok (.getfield 13, 3) := by decide +kernel
theorem dX6_partsTurned_15 : decode cX6_partsTurned 15 = .ok (.iload_n 1, 1) := by decide +kernel
theorem dX6_partsTurned_16 : decode cX6_partsTurned 16 = .ok (.bipush 16, 2) := by decide +kernel
theorem dX6_partsTurned_18 : decode cX6_partsTurned 18 = .ok (.idiv, 1) := by decide +kernel
theorem dX6_partsTurned_19 : decode cX6_partsTurned 19 = .ok (.dup2, 1) := by decide +kernel
theorem dX6_partsTurned_20 : decode cX6_partsTurned 20 = .ok (.iaload, 1) := by decide +kernel
theorem dX6_partsTurned_21 : decode cX6_partsTurned 21 = .ok (.iconst 1, 1) := by decide +kernel
theorem dX6_partsTurned_22 : decode cX6_partsTurned 22 = .ok (.iload_n 1, 1) := by decide +kernel
theorem dX6_partsTurned_23 : decode cX6_partsTurned 23 = .ok (.bipush 16, 2) := by decide +kernel
theorem dX6_partsTurned_25 : decode cX6_partsTurned 25 = .ok (.irem, 1) := by decide +kernel
theorem dX6_partsTurned_26 : decode cX6_partsTurned 26 = .ok (.ishl, 1) := by decide +kernel
theorem dX6_partsTurned_27 : decode cX6_partsTurned 27 = .ok (.ixor, 1) := by decide +kernel
theorem dX6_partsTurned_28 : decode cX6_partsTurned 28 = .ok (.iastore, 1) := by decide +kernel
theorem dX6_partsTurned_29 : decode cX6_partsTurned 29 = .ok (.aload_n 0, 1) := by decide +kernel
theorem dX6_partsTurned_30 : decode cX6_partsTurned 30 = .ok (.aload_n 0, 1) := by decide +kernel
theorem dX6_partsTurned_31 : decode cX6_partsTurned 31 = .ok (.getfield 13, 3) := by decide +kernel
theorem dX6_partsTurned_34 : decode cX6_partsTurned 34 = .ok (.invokevirtual 127, 3) := by decide +kernel
theorem dX6_partsTurned_37 : decode cX6_partsTurned 37 = .ok (.ireturn, 1) := by decide +kernel
set_option maxRecDepth 20000 in
theorem ggX6_dot_X6_isOn : GoodIn wsX6_dot wsX6_isOn := goodIn_r _ [10, 11, 12, 9, 13] (by decide +kernel) (by decide +kernel)
set_option maxRecDepth 20000 in
theorem gX6_dot_X6_isOn : GoodIn wsX6_dot (va_wsS RX6 56 yX6_isOn wsX6_isOn) := goodIn_app (goodIn_of _ (by decide +kernel)) ggX6_dot_X6_isOn
set_option maxRecDepth 20000 in
theorem ggX6_dot_X6_isDark : GoodIn wsX6_dot wsX6_isDark := goodIn_r _ [16, 17, 18, 9, 19] (by decide +kernel) (by decide +kernel)
set_option maxRecDepth 20000 in
theorem gX6_dot_X6_isDark : GoodIn wsX6_dot (va_wsS RX6 52 yX6_isDark wsX6_isDark) := goodIn_app (goodIn_of _ (by decide +kernel)) ggX6_dot_X6_isDark
set_option maxRecDepth 20000 in
theorem ggX6_dot_X6_in : GoodIn wsX6_dot wsX6_in := goodIn_r _ [13] (by decide +kernel) (by decide +kernel)
set_option maxRecDepth 20000 in
theorem gX6_dot_X6_in : GoodIn wsX6_dot (va_wsS RX6 48 yX6_in wsX6_in) := goodIn_app (goodIn_of _ (by decide +kernel)) ggX6_dot_X6_in
set_option maxRecDepth 20000 in
theorem ggX6_dot_X6_partsTurned : GoodIn wsX6_dot wsX6_partsTurned := goodIn_r _ [23, 2, 24, 25, 26, 9, 27, 28, 29, 30, 31, 5, 32, 33, 34, 35, 36, 37, 3, 38, 39, 4, 14, 15, 16, 17, 18, 19, 40, 41, 42, 43, 44, 7, 8, 10, 11, 12, 13, 45, 46, 47, 48, 49, 50, 51, 52, 53, 54, 55, 56, 57, 58, 59, 60, 61] (by decide +kernel) (by decide +kernel)
set_option maxRecDepth 20000 in
theorem gX6_dot_X6_partsTurned : GoodIn wsX6_dot (wsV RX6 130 RX6 yX6_partsTurned wsX6_partsTurned) := goodIn_app (goodIn_of _ (by decide +kernel)) ggX6_dot_X6_partsTurned
set_option maxRecDepth 20000 in
theorem ggX6_dot_X6_parts : GoodIn wsX6_dot wsX6_parts := goodIn_r _ [35, 5, 36, 37, 3, 38, 39, 4, 14, 15, 9, 16, 17, 18, 19, 40, 41, 42, 43, 44, 7, 8, 10, 11, 12, 13, 45, 46, 47, 48, 49, 50, 51, 52, 53, 54, 55, 56, 57, 58, 59, 60, 61] (by decide +kernel) (by decide +kernel)
set_option maxRecDepth 20000 in
theorem gX6_dot_X6_parts : GoodIn wsX6_dot (wsV RX6 73 RX6 yX6_parts wsX6_parts) := goodIn_app (goodIn_of _ (by decide +kernel)) ggX6_dot_X6_parts
theorem dX6_dot_0 : decode cX6_dot 0 = .ok (.iload_n 1, 1) := by decide +kernel
theorem dX6_dot_1 : decode cX6_dot 1 = .ok (.iload_n 2, 1) := by decide +kernel
theorem dX6_dot_2 : decode cX6_dot 2 = .ok (.invokestatic 56, 3) := by decide +kernel
theorem dX6_dot_5 : decode cX6_dot 5 = .ok (.ifCond .ne 6, 3) := by decide +kernel
theorem dX6_dot_8 : decode cX6_dot 8 = .ok (.ldc 122, 2) := by decide +kernel
theorem dX6_dot_10 : decode cX6_dot 10 = .ok (.ireturn, 1) := by decide +kernel
theorem dX6_dot_11 : decode cX6_dot 11 = .ok (.bipush 16, 2) := by decide +kernel
theorem dX6_dot_13 : decode cX6_dot 13 = .ok (.iload_n 1, 1) := by decide +kernel
theorem dX6_dot_14 : decode cX6_dot 14 = .ok (.imul, 1) := by decide +kernel
theorem dX6_dot_15 : decode cX6_dot 15 = .ok (.iload_n 2, 1) := by decide +kernel
theorem dX6_dot_16 : decode cX6_dot 16 = .ok (.iadd, 1) := by decide +kernel
theorem dX6_dot_17 : decode cX6_dot 17 = .ok (.istore 4, 2) := by decide +kernel
theorem dX6_dot_19 : decode cX6_dot 19 = .ok (.aload_n 0, 1) := by decide +kernel
theorem dX6_dot_20 : decode cX6_dot 20 = .ok (.getfield 7, 3) := by decide +kernel
theorem dX6_dot_23 : decode cX6_dot 23 = .ok (.iload 4, 2) := by decide +kernel
theorem dX6_dot_25 : decode cX6_dot 25 = .ok (.invokestatic 52, 3) := by decide +kernel
theorem dX6_dot_28 : decode cX6_dot 28 = .ok (.istore 5, 2) := by decide +kernel
theorem dX6_dot_30 : decode cX6_dot 30 = .ok (.iload_n 3, 1) := by decide +kernel
theorem dX6_dot_31 : decode cX6_dot 31 = .ok (.iconst 3, 1) := by decide +kernel
theorem dX6_dot_32 : decode cX6_dot 32 = .ok (.iconst 4, 1) := by decide +kernel
theorem dX6_dot_33 : decode cX6_dot 33 = .ok (.invokestatic 48, 3) := by decide +kernel
theorem dX6_dot_36 : decode cX6_dot 36 = .ok (.ifCond .eq 12, 3) := by decide +kernel
theorem dX6_dot_39 : decode cX6_dot 39 = .ok (.aload_n 0, 1) := by decide +kernel
theorem dX6_dot_40 : decode cX6_dot 40 = .ok (.iload 4, 2) := by decide +kernel
theorem dX6_dot_42 : decode cX6_dot 42 = .ok (.invokevirtual 130, 3) := by decide +kernel
theorem dX6_dot_45 : decode cX6_dot 45 = .ok (.goto 4, 3) := by decide +kernel
theorem dX6_dot_48 : decode cX6_dot 48 = .ok (.iconst 0, 1) := by decide +kernel
theorem dX6_dot_49 : decode cX6_dot 49 = .ok (.istore 6, 2) := by decide +kernel
theorem dX6_dot_51 : decode cX6_dot 51 = .ok (.aload_n 0, 1) := by decide +kernel
theorem dX6_dot_52 : decode cX6_dot 52 = .ok (.aload_n 0, 1) := by decide +kernel
theorem dX6_dot_53 : decode cX6_dot 53 = .ok (.getfield 7, 3) := by decide +kernel
theorem dX6_dot_56 : decode cX6_dot 56 = .ok (.invokevirtual 73, 3) := by decide +kernel
theorem dX6_dot_59 : decode cX6_dot 59 = .ok (.iload_n 3, 1) := by decide +kernel
theorem dX6_dot_60 : decode cX6_dot 60 = .ok (.tableswitch 124 0 4 #[36, 47, 64, 86, 105], 36) := by decide +kernel
theorem dX6_dot_96 : decode cX6_dot 96 = .ok (.iload 5, 2) := by decide +kernel
theorem dX6_dot_98 : decode cX6_dot 98 = .ok (.ifCond .eq 7, 3) := by decide +kernel
theorem dX6_dot_101 : decode cX6_dot 101 = .ok (.iconst 1, 1) := by decide +kernel
theorem dX6_dot_102 : decode cX6_dot 102 = .ok (.goto 4, 3) := by decide +kernel
theorem dX6_dot_105 : decode cX6_dot 105 = .ok (.iconst 0, 1) := by decide +kernel
theorem dX6_dot_106 : decode cX6_dot 106 = .ok (.ireturn, 1) := by decide +kernel
theorem dX6_dot_107 : decode cX6_dot 107 = .ok (.iload 5, 2) := by decide +kernel
theorem dX6_dot_109 : decode cX6_dot 109 = .ok (.ifCond .eq 13, 3) := by decide +kernel
theorem dX6_dot_112 : decode cX6_dot 112 = .ok (.aload_n 0, 1) := by decide +kernel
theorem dX6_dot_113 : decode cX6_dot 113 = .ok (.getfield 16, 3) := by decide +kernel
theorem dX6_dot_116 : decode cX6_dot 116 = .ok (.iload 4, 2) := by decide +kernel
theorem dX6_dot_118 : decode cX6_dot 118 = .ok (.iaload, 1) := by decide +kernel
theorem dX6_dot_119 : decode cX6_dot 119 = .ok (.goto 4, 3) := by decide +kernel
theorem dX6_dot_122 : decode cX6_dot 122 = .ok (.iconst (-1), 1) := by decide +kernel
theorem dX6_dot_123 : decode cX6_dot 123 = .ok (.ireturn, 1) := by decide +kernel
theorem dX6_dot_124 : decode cX6_dot 124 = .ok (.iload 5, 2) := by decide +kernel
theorem dX6_dot_126 : decode cX6_dot 126 = .ok (.ifCond .eq 7, 3) := by decide +kernel
theorem dX6_dot_129 : decode cX6_dot 129 = .ok (.iconst (-1), 1) := by decide +kernel
theorem dX6_dot_130 : decode cX6_dot 130 = .ok (.goto 15, 3) := by decide +kernel
theorem dX6_dot_133 : decode cX6_dot 133 = .ok (.aload_n 0, 1) := by decide +kernel
theorem dX6_dot_134 : decode cX6_dot 134 = .ok (.getfield 28, 3) := by decide +kernel
theorem dX6_dot_137 : decode cX6_dot 137 = .ok (.aload_n 0, 1) := by decide +kernel
theorem dX6_dot_138 : decode cX6_dot 138 = .ok (.getfield 16, 3) := by decide +kernel
theorem dX6_dot_141 : decode cX6_dot 141 = .ok (.iload 4, 2) := by decide +kernel
theorem dX6_dot_143 : decode cX6_dot 143 = .ok (.iaload, 1) := by decide +kernel
theorem dX6_dot_144 : decode cX6_dot 144 = .ok (.iaload, 1) := by decide +kernel
theorem dX6_dot_145 : decode cX6_dot 145 = .ok (.ireturn, 1) := by decide +kernel
theorem dX6_dot_146 : decode cX6_dot 146 = .ok (.iload 5, 2) := by decide +kernel
theorem dX6_dot_148 : decode cX6_dot 148 = .ok (.ifCond .eq 7, 3) := by decide +kernel
theorem dX6_dot_151 : decode cX6_dot 151 = .ok (.iconst (-1), 1) := by decide +kernel
theorem dX6_dot_152 : decode cX6_dot 152 = .ok (.goto 12, 3) := by decide +kernel
theorem dX6_dot_155 : decode cX6_dot 155 = .ok (.aload_n 0, 1) := by decide +kernel
theorem dX6_dot_156 : decode cX6_dot 156 = .ok (.getfield 59, 3) := by decide +kernel
theorem dX6_dot_159 : decode cX6_dot 159 = .ok (.iload 6, 2) := by decide +kernel
theorem dX6_dot_161 : decode cX6_dot 161 = .ok (.isub, 1) := by decide +kernel
theorem dX6_dot_162 : decode cX6_dot 162 = .ok (.iconst 1, 1) := by decide +kernel
theorem dX6_dot_163 : decode cX6_dot 163 = .ok (.iadd, 1) := by decide +kernel
theorem dX6_dot_164 : decode cX6_dot 164 = .ok (.ireturn, 1) := by decide +kernel
theorem dX6_dot_165 : decode cX6_dot 165 = .ok (.iload 5, 2) := by decide +kernel
theorem dX6_dot_167 : decode cX6_dot 167 = .ok (.ifCond .eq 15, 3) := by decide +kernel
theorem dX6_dot_170 : decode cX6_dot 170 = .ok (.iload 6, 2) := by decide +kernel
theorem dX6_dot_172 : decode cX6_dot 172 = .ok (.aload_n 0, 1) := by decide +kernel
theorem dX6_dot_173 : decode cX6_dot 173 = .ok (.getfield 59, 3) := by decide +kernel
theorem dX6_dot_176 : decode cX6_dot 176 = .ok (.isub, 1) := by decide +kernel
theorem dX6_dot_177 : decode cX6_dot 177 = .ok (.iconst 1, 1) := by decide +kernel
theorem dX6_dot_178 : decode cX6_dot 178 = .ok (.iadd, 1) := by decide +kernel
theorem dX6_dot_179 : decode cX6_dot 179 = .ok (.goto 4, 3) := by decide +kernel
theorem dX6_dot_182 : decode cX6_dot 182 = .ok (.iconst (-1), 1) := by decide +kernel
theorem dX6_dot_183 : decode cX6_dot 183 = .ok (.ireturn, 1) := by decide +kernel
theorem dX6_dot_184 : decode cX6_dot 184 = .ok (.ldc 121, 2) := by decide +kernel
theorem dX6_dot_186 : decode cX6_dot 186 = .ok (.ireturn, 1) := by decide +kernel
set_option maxRecDepth 20000 in
theorem ggX6_part_X6_partsOf : GoodIn wsX6_part wsX6_partsOf := goodIn_r _ [9, 10, 11, 12, 13, 8, 14, 15, 16, 17, 3, 18, 19, 20, 21, 22, 23, 24, 25, 26, 27, 28, 29, 30, 31, 32, 33, 34, 35, 36, 80, 81, 82, 83, 84, 85, 86, 87, 88, 89, 90, 91, 92, 93, 94, 95, 96] (by decide +kernel) (by decide +kernel)
set_option maxRecDepth 20000 in
theorem gX6_part_X6_partsOf : GoodIn wsX6_part (wsV RX6 127 RX6 yX6_partsOf wsX6_partsOf) := goodIn_app (goodIn_of _ (by decide +kernel)) ggX6_part_X6_partsOf
set_option maxRecDepth 20000 in
theorem ggX6_part_X6_in : GoodIn wsX6_part wsX6_in := goodIn_r _ [36] (by decide +kernel) (by decide +kernel)
set_option maxRecDepth 20000 in
theorem gX6_part_X6_in : GoodIn wsX6_part (va_wsS RX6 48 yX6_in wsX6_in) := goodIn_app (goodIn_of _ (by decide +kernel)) ggX6_part_X6_in
set_option maxRecDepth 20000 in
theorem ggX6_part_X6_sizeOf : GoodIn wsX6_part wsX6_sizeOf := goodIn_r _ [40, 41, 42, 43, 8, 44, 1, 17, 20, 21, 22, 23, 24, 25, 80, 81, 82, 83, 84, 85, 86, 87, 88, 89, 90, 91, 92, 93, 94, 95, 96] (by decide +kernel) (by decide +kernel)
set_option maxRecDepth 20000 in
theorem gX6_part_X6_sizeOf : GoodIn wsX6_part (wsV RX6 100 RX6 yX6_sizeOf wsX6_sizeOf) := goodIn_app (goodIn_of _ (by decide +kernel)) ggX6_part_X6_sizeOf
set_option maxRecDepth 20000 in
theorem ggX6_part_X6_rimOf : GoodIn wsX6_part wsX6_rimOf := goodIn_r _ [48, 41, 42, 43, 8, 44, 1, 17, 20, 21, 22, 23, 24, 25, 49, 50, 51, 52, 53, 54, 55, 31, 32, 33, 34, 35, 36, 80, 81, 82, 83, 84, 85, 86, 87, 88, 89, 90, 91, 92, 93, 94, 95, 96] (by decide +kernel) (by decide +kernel)
set_option maxRecDepth 20000 in
theorem gX6_part_X6_rimOf : GoodIn wsX6_part (wsV RX6 133 RX6 yX6_rimOf wsX6_rimOf) := goodIn_app (goodIn_of _ (by decide +kernel)) ggX6_part_X6_rimOf
set_option maxRecDepth 20000 in
theorem ggX6_part_X6_edge : GoodIn wsX6_part wsX6_edge := goodIn_r _ [59, 41, 42, 43, 8, 44, 1, 17, 20, 21, 22, 23, 24, 25, 80, 81, 82, 83, 84, 85, 86, 87, 88, 89, 90, 91, 92, 93, 94, 95, 96] (by decide +kernel) (by decide +kernel)
set_option maxRecDepth 20000 in
theorem gX6_part_X6_edge : GoodIn wsX6_part (wsV RX6 136 RX6 yX6_edge wsX6_edge) := goodIn_app (goodIn_of _ (by decide +kernel)) ggX6_part_X6_edge
set_option maxRecDepth 20000 in
theorem ggX6_part_X6_holesOf : GoodIn wsX6_part wsX6_holesOf := goodIn_r _ [63, 16, 64, 65, 66, 8, 67, 17, 18, 68, 69, 70, 71, 19, 80, 81, 82, 83, 84, 85, 86, 87, 88, 89, 90, 91, 92, 93, 94, 95, 96] (by decide +kernel) (by decide +kernel)
set_option maxRecDepth 20000 in
theorem gX6_part_X6_holesOf : GoodIn wsX6_part (wsV RX6 140 RX6 yX6_holesOf wsX6_holesOf) := goodIn_app (goodIn_of _ (by decide +kernel)) ggX6_part_X6_holesOf
set_option maxRecDepth 20000 in
theorem ggX6_part_X6_liesIn : GoodIn wsX6_part wsX6_liesIn := goodIn_r _ [75, 3, 19, 17, 80, 81, 82, 83, 84, 85, 86, 87, 88, 89, 90, 91, 92, 93, 94, 95, 96] (by decide +kernel) (by decide +kernel)
set_option maxRecDepth 20000 in
theorem gX6_part_X6_liesIn : GoodIn wsX6_part (wsV RX6 88 RX6 yX6_liesIn wsX6_liesIn) := goodIn_app (goodIn_of _ (by decide +kernel)) ggX6_part_X6_liesIn
set_option maxRecDepth 20000 in
theorem ggX6_part_X6_deep : GoodIn wsX6_part wsX6_deep := goodIn_r _ [79, 72, 73, 74, 8, 75, 3, 19, 17, 64, 65, 66, 67, 18, 68, 69, 70, 71, 80, 81, 82, 83, 84, 85, 86, 87, 88, 89, 90, 91, 92, 93, 94, 95, 96] (by decide +kernel) (by decide +kernel)
set_option maxRecDepth 20000 in
theorem gX6_part_X6_deep : GoodIn wsX6_part (wsV RX6 111 RX6 yX6_deep wsX6_deep) := goodIn_app (goodIn_of _ (by decide +kernel)) ggX6_part_X6_deep
theorem dX6_part_0 : decode cX6_part 0 = .ok (.iload_n 1, 1) := by decide +kernel
theorem dX6_part_1 : decode cX6_part 1 = .ok (.iconst 0, 1) := by decide +kernel
theorem dX6_part_2 : decode cX6_part 2 = .ok (.aload_n 0, 1) := by decide +kernel
theorem dX6_part_3 : decode cX6_part 3 = .ok (.aload_n 0, 1) := by decide +kernel
theorem dX6_part_4 : decode cX6_part 4 = .ok (.getfield 7, 3) := by decide +kernel
theorem dX6_part_7 : decode cX6_part 7 = .ok (.invokevirtual 127, 3) := by decide +kernel
theorem dX6_part_10 : decode cX6_part 10 = .ok (.iconst 1, 1) := by decide +kernel
theorem dX6_part_11 : decode cX6_part 11 = .ok (.isub, 1) := by decide +kernel
theorem dX6_part_12 : decode cX6_part 12 = .ok (.invokestatic 48, 3) := by decide +kernel
theorem dX6_part_15 : decode cX6_part 15 = .ok (.ifCond .ne 6, 3) := by decide +kernel
theorem dX6_part_18 : decode cX6_part 18 = .ok (.ldc 122, 2) := by decide +kernel
theorem dX6_part_20 : decode cX6_part 20 = .ok (.ireturn, 1) := by decide +kernel
theorem dX6_part_21 : decode cX6_part 21 = .ok (.iload_n 2, 1) := by decide +kernel
theorem dX6_part_22 : decode cX6_part 22 = .ok (.tableswitch 124 0 9 #[54, 61, 67, 75, 83, 91, 99, 105, 111, 117], 54) := by decide +kernel
theorem dX6_part_76 : decode cX6_part 76 = .ok (.aload_n 0, 1) := by decide +kernel
theorem dX6_part_77 : decode cX6_part 77 = .ok (.iconst 1, 1) := by decide +kernel
theorem dX6_part_78 : decode cX6_part 78 = .ok (.iload_n 1, 1) := by decide +kernel
theorem dX6_part_79 : decode cX6_part 79 = .ok (.invokevirtual 100, 3) := by decide +kernel
theorem dX6_part_82 : decode cX6_part 82 = .ok (.ireturn, 1) := by decide +kernel
theorem dX6_part_83 : decode cX6_part 83 = .ok (.aload_n 0, 1) := by decide +kernel
theorem dX6_part_84 : decode cX6_part 84 = .ok (.iload_n 1, 1) := by decide +kernel
theorem dX6_part_85 : decode cX6_part 85 = .ok (.invokevirtual 133, 3) := by decide +kernel
theorem dX6_part_88 : decode cX6_part 88 = .ok (.ireturn, 1) := by decide +kernel
theorem dX6_part_89 : decode cX6_part 89 = .ok (.aload_n 0, 1) := by decide +kernel
theorem dX6_part_90 : decode cX6_part 90 = .ok (.iload_n 1, 1) := by decide +kernel
theorem dX6_part_91 : decode cX6_part 91 = .ok (.iconst 0, 1) := by decide +kernel
theorem dX6_part_92 : decode cX6_part 92 = .ok (.iconst 0, 1) := by decide +kernel
theorem dX6_part_93 : decode cX6_part 93 = .ok (.invokevirtual 136, 3) := by decide +kernel
theorem dX6_part_96 : decode cX6_part 96 = .ok (.ireturn, 1) := by decide +kernel
theorem dX6_part_97 : decode cX6_part 97 = .ok (.aload_n 0, 1) := by decide +kernel
theorem dX6_part_98 : decode cX6_part 98 = .ok (.iload_n 1, 1) := by decide +kernel
theorem dX6_part_99 : decode cX6_part 99 = .ok (.iconst 0, 1) := by decide +kernel
theorem dX6_part_100 : decode cX6_part 100 = .ok (.iconst 1, 1) := by decide +kernel
theorem dX6_part_101 : decode cX6_part 101 = .ok (.invokevirtual 136, 3) := by decide +kernel
theorem dX6_part_104 : decode cX6_part 104 = .ok (.ireturn, 1) := by decide +kernel
theorem dX6_part_105 : decode cX6_part 105 = .ok (.aload_n 0, 1) := by decide +kernel
theorem dX6_part_106 : decode cX6_part 106 = .ok (.iload_n 1, 1) := by decide +kernel
theorem dX6_part_107 : decode cX6_part 107 = .ok (.iconst 1, 1) := by decide +kernel
theorem dX6_part_108 : decode cX6_part 108 = .ok (.iconst 0, 1) := by decide +kernel
theorem dX6_part_109 : decode cX6_part 109 = .ok (.invokevirtual 136, 3) := by decide +kernel
theorem dX6_part_112 : decode cX6_part 112 = .ok (.ireturn, 1) := by decide +kernel
theorem dX6_part_113 : decode cX6_part 113 = .ok (.aload_n 0, 1) := by decide +kernel
theorem dX6_part_114 : decode cX6_part 114 = .ok (.iload_n 1, 1) := by decide +kernel
theorem dX6_part_115 : decode cX6_part 115 = .ok (.iconst 1, 1) := by decide +kernel
theorem dX6_part_116 : decode cX6_part 116 = .ok (.iconst 1, 1) := by decide +kernel
theorem dX6_part_117 : decode cX6_part 117 = .ok (.invokevirtual 136, 3) := by decide +kernel
theorem dX6_part_120 : decode cX6_part 120 = .ok (.ireturn, 1) := by decide +kernel
theorem dX6_part_121 : decode cX6_part 121 = .ok (.aload_n 0, 1) := by decide +kernel
theorem dX6_part_122 : decode cX6_part 122 = .ok (.iload_n 1, 1) := by decide +kernel
theorem dX6_part_123 : decode cX6_part 123 = .ok (.invokevirtual 140, 3) := by decide +kernel
theorem dX6_part_126 : decode cX6_part 126 = .ok (.ireturn, 1) := by decide +kernel
theorem dX6_part_127 : decode cX6_part 127 = .ok (.aload_n 0, 1) := by decide +kernel
theorem dX6_part_128 : decode cX6_part 128 = .ok (.iload_n 1, 1) := by decide +kernel
theorem dX6_part_129 : decode cX6_part 129 = .ok (.invokevirtual 88, 3) := by decide +kernel
theorem dX6_part_132 : decode cX6_part 132 = .ok (.ireturn, 1) := by decide +kernel
theorem dX6_part_133 : decode cX6_part 133 = .ok (.aload_n 0, 1) := by decide +kernel
theorem dX6_part_134 : decode cX6_part 134 = .ok (.iload_n 1, 1) := by decide +kernel
theorem dX6_part_135 : decode cX6_part 135 = .ok (.invokevirtual 111, 3) := by decide +kernel
theorem dX6_part_138 : decode cX6_part 138 = .ok (.ireturn, 1) := by decide +kernel
theorem dX6_part_139 : decode cX6_part 139 = .ok (.aload_n 0, 1) := by decide +kernel
theorem dX6_part_140 : decode cX6_part 140 = .ok (.getfield 22, 3) := by decide +kernel
theorem dX6_part_143 : decode cX6_part 143 = .ok (.iload_n 1, 1) := by decide +kernel
theorem dX6_part_144 : decode cX6_part 144 = .ok (.iaload, 1) := by decide +kernel
theorem dX6_part_145 : decode cX6_part 145 = .ok (.ireturn, 1) := by decide +kernel
theorem dX6_part_146 : decode cX6_part 146 = .ok (.ldc 121, 2) := by decide +kernel
theorem dX6_part_148 : decode cX6_part 148 = .ok (.ireturn, 1) := by decide +kernel
set_option maxRecDepth 20000 in
theorem ggX6_hole_X6_parts : GoodIn wsX6_hole wsX6_parts := goodIn_r _ [10, 11, 12, 2, 13, 14, 4, 15, 16, 17, 9, 18, 19, 20, 21, 22, 23, 24, 25, 26, 27, 28, 29, 30, 31, 32, 57, 58, 59, 60, 61, 62, 63, 64, 65, 66, 67, 68, 69, 70, 71, 72, 73] (by decide +kernel) (by decide +kernel)
set_option maxRecDepth 20000 in
theorem gX6_hole_X6_parts : GoodIn wsX6_hole (wsV RX6 73 RX6 yX6_parts wsX6_parts) := goodIn_app (goodIn_of _ (by decide +kernel)) ggX6_hole_X6_parts
set_option maxRecDepth 20000 in
theorem ggX6_hole_X6_in : GoodIn wsX6_hole wsX6_in := goodIn_r _ [32] (by decide +kernel) (by decide +kernel)
set_option maxRecDepth 20000 in
theorem gX6_hole_X6_in : GoodIn wsX6_hole (va_wsS RX6 48 yX6_in wsX6_in) := goodIn_app (goodIn_of _ (by decide +kernel)) ggX6_hole_X6_in
set_option maxRecDepth 20000 in
theorem ggX6_hole_X6_lightOf : GoodIn wsX6_hole wsX6_lightOf := goodIn_r _ [36, 15, 57, 58, 59, 60, 61, 62, 63, 64, 65, 66, 67, 68, 69, 70, 71, 72, 73] (by decide +kernel) (by decide +kernel)
set_option maxRecDepth 20000 in
theorem gX6_hole_X6_lightOf : GoodIn wsX6_hole (wsV RX6 85 RX6 yX6_lightOf wsX6_lightOf) := goodIn_app (goodIn_of _ (by decide +kernel)) ggX6_hole_X6_lightOf
set_option maxRecDepth 20000 in
theorem ggX6_hole_X6_sizeOf : GoodIn wsX6_hole wsX6_sizeOf := goodIn_r _ [40, 41, 42, 43, 9, 44, 1, 13, 16, 17, 18, 19, 20, 21, 57, 58, 59, 60, 61, 62, 63, 64, 65, 66, 67, 68, 69, 70, 71, 72, 73] (by decide +kernel) (by decide +kernel)
set_option maxRecDepth 20000 in
theorem gX6_hole_X6_sizeOf : GoodIn wsX6_hole (wsV RX6 100 RX6 yX6_sizeOf wsX6_sizeOf) := goodIn_app (goodIn_of _ (by decide +kernel)) ggX6_hole_X6_sizeOf
set_option maxRecDepth 20000 in
theorem ggX6_hole_X6_partOf : GoodIn wsX6_hole wsX6_partOf := goodIn_r _ [48, 13, 4, 33, 34, 35, 9, 36, 15, 57, 58, 59, 60, 61, 62, 63, 64, 65, 66, 67, 68, 69, 70, 71, 72, 73] (by decide +kernel) (by decide +kernel)
set_option maxRecDepth 20000 in
theorem gX6_hole_X6_partOf : GoodIn wsX6_hole (wsV RX6 91 RX6 yX6_partOf wsX6_partOf) := goodIn_app (goodIn_of _ (by decide +kernel)) ggX6_hole_X6_partOf
set_option maxRecDepth 20000 in
theorem ggX6_hole_X6_partsIn : GoodIn wsX6_hole wsX6_partsIn := goodIn_r _ [52, 11, 53, 54, 55, 9, 56, 14, 15, 13, 57, 58, 59, 60, 61, 62, 63, 64, 65, 66, 67, 68, 69, 70, 71, 72, 73] (by decide +kernel) (by decide +kernel)
set_option maxRecDepth 20000 in
theorem gX6_hole_X6_partsIn : GoodIn wsX6_hole (wsV RX6 143 RX6 yX6_partsIn wsX6_partsIn) := goodIn_app (goodIn_of _ (by decide +kernel)) ggX6_hole_X6_partsIn
theorem dX6_hole_0 : decode cX6_hole 0 = .ok (.aload_n 0, 1) := by decide +kernel
theorem dX6_hole_1 : decode cX6_hole 1 = .ok (.aload_n 0, 1) := by decide +kernel
theorem dX6_hole_2 : decode cX6_hole 2 = .ok (.getfield 7, 3) := by decide +kernel
theorem dX6_hole_5 : decode cX6_hole 5 = .ok (.invokevirtual 73, 3) := by decide +kernel
theorem dX6_hole_8 : decode cX6_hole 8 = .ok (.iload_n 1, 1) := by decide +kernel
theorem dX6_hole_9 : decode cX6_hole 9 = .ok (.iconst 0, 1) := by decide +kernel
theorem dX6_hole_10 : decode cX6_hole 10 = .ok (.aload_n 0, 1) := by decide +kernel
theorem dX6_hole_11 : decode cX6_hole 11 = .ok (.getfield 66, 3) := by decide +kernel
theorem dX6_hole_14 : decode cX6_hole 14 = .ok (.iconst 1, 1) := by decide +kernel
theorem dX6_hole_15 : decode cX6_hole 15 = .ok (.isub, 1) := by decide +kernel
theorem dX6_hole_16 : decode cX6_hole 16 = .ok (.invokestatic 48, 3) := by decide +kernel
theorem dX6_hole_19 : decode cX6_hole 19 = .ok (.ifCond .ne 6, 3) := by decide +kernel
theorem dX6_hole_22 : decode cX6_hole 22 = .ok (.ldc 122, 2) := by decide +kernel
theorem dX6_hole_24 : decode cX6_hole 24 = .ok (.ireturn, 1) := by decide +kernel
theorem dX6_hole_25 : decode cX6_hole 25 = .ok (.iload_n 2, 1) := by decide +kernel
theorem dX6_hole_26 : decode cX6_hole 26 = .ok (.tableswitch 64 0 3 #[30, 41, 47, 53], 30) := by decide +kernel
theorem dX6_hole_56 : decode cX6_hole 56 = .ok (.aload_n 0, 1) := by decide +kernel
theorem dX6_hole_57 : decode cX6_hole 57 = .ok (.iconst 0, 1) := by decide +kernel
theorem dX6_hole_58 : decode cX6_hole 58 = .ok (.aload_n 0, 1) := by decide +kernel
theorem dX6_hole_59 : decode cX6_hole 59 = .ok (.iload_n 1, 1) := by decide +kernel
theorem dX6_hole_60 : decode cX6_hole 60 = .ok (.invokevirtual 85, 3) := by decide +kernel
theorem dX6_hole_63 : decode cX6_hole 63 = .ok (.invokevirtual 100, 3) := by decide +kernel
theorem dX6_hole_66 : decode cX6_hole 66 = .ok (.ireturn, 1) := by decide +kernel
theorem dX6_hole_67 : decode cX6_hole 67 = .ok (.aload_n 0, 1) := by decide +kernel
theorem dX6_hole_68 : decode cX6_hole 68 = .ok (.iload_n 1, 1) := by decide +kernel
theorem dX6_hole_69 : decode cX6_hole 69 = .ok (.invokevirtual 91, 3) := by decide +kernel
theorem dX6_hole_72 : decode cX6_hole 72 = .ok (.ireturn, 1) := by decide +kernel
theorem dX6_hole_73 : decode cX6_hole 73 = .ok (.aload_n 0, 1) := by decide +kernel
theorem dX6_hole_74 : decode cX6_hole 74 = .ok (.iload_n 1, 1) := by decide +kernel
theorem dX6_hole_75 : decode cX6_hole 75 = .ok (.invokevirtual 143, 3) := by decide +kernel
theorem dX6_hole_78 : decode cX6_hole 78 = .ok (.ireturn, 1) := by decide +kernel
theorem dX6_hole_79 : decode cX6_hole 79 = .ok (.aload_n 0, 1) := by decide +kernel
theorem dX6_hole_80 : decode cX6_hole 80 = .ok (.getfield 25, 3) := by decide +kernel
theorem dX6_hole_83 : decode cX6_hole 83 = .ok (.aload_n 0, 1) := by decide +kernel
theorem dX6_hole_84 : decode cX6_hole 84 = .ok (.iload_n 1, 1) := by decide +kernel
theorem dX6_hole_85 : decode cX6_hole 85 = .ok (.invokevirtual 85, 3) := by decide +kernel
theorem dX6_hole_88 : decode cX6_hole 88 = .ok (.iaload, 1) := by decide +kernel
theorem dX6_hole_89 : decode cX6_hole 89 = .ok (.ireturn, 1) := by decide +kernel
theorem dX6_hole_90 : decode cX6_hole 90 = .ok (.ldc 121, 2) := by decide +kernel
theorem dX6_hole_92 : decode cX6_hole 92 = .ok (.ireturn, 1) := by decide +kernel
theorem dX6_remember_0 : decode cX6_remember 0 = .ok (.iconst 0, 1) := by decide +kernel
theorem dX6_remember_1 : decode cX6_remember 1 = .ok (.istore_n 1, 1) := by decide +kernel
theorem dX6_remember_2 : decode cX6_remember 2 = .ok (.iload_n 1, 1) := by decide +kernel
theorem dX6_remember_3 : decode cX6_remember 3 = .ok (.bipush 17, 2) := by decide +kernel
theorem dX6_remember_5 : decode cX6_remember 5 = .ok (.if_icmp .ge 29, 3) := by decide +kernel
theorem dX6_remember_8 : decode cX6_remember 8 = .ok (.aload_n 0, 1) := by decide +kernel
theorem dX6_remember_9 : decode cX6_remember 9 = .ok (.getfield 31, 3) := by decide +kernel
theorem dX6_remember_12 : decode cX6_remember 12 = .ok (.bipush 17, 2) := by decide +kernel
theorem dX6_remember_14 : decode cX6_remember 14 = .ok (.aload_n 0, 1) := by decide +kernel
theorem dX6_remember_15 : decode cX6_remember 15 = .ok (.getfield 146, 3) := by decide +kernel
theorem dX6_remember_18 : decode cX6_remember 18 = .ok (.imul, 1) := by decide +kernel
theorem dX6_remember_19 : decode cX6_remember 19 = .ok (.iload_n 1, 1) := by decide +kernel
theorem dX6_remember_20 : decode cX6_remember 20 = .ok (.iadd, 1) := by decide +kernel
theorem dX6_remember_21 : decode cX6_remember 21 = .ok (.aload_n 0, 1) := by decide +kernel
theorem dX6_remember_22 : decode cX6_remember 22 = .ok (.getfield 7, 3) := by decide +kernel
theorem dX6_remember_25 : decode cX6_remember 25 = .ok (.iload_n 1, 1) := by decide +kernel
theorem dX6_remember_26 : decode cX6_remember 26 = .ok (.iaload, 1) := by decide +kernel
theorem dX6_remember_27 : decode cX6_remember 27 = .ok (.iastore, 1) := by decide +kernel
theorem dX6_remember_28 : decode cX6_remember 28 = .ok (.iinc 1 1, 3) := by decide +kernel
theorem dX6_remember_31 : decode cX6_remember 31 = .ok (.goto (-29), 3) := by decide +kernel
theorem dX6_remember_34 : decode cX6_remember 34 = .ok (.aload_n 0, 1) := by decide +kernel
theorem dX6_remember_35 : decode cX6_remember 35 = .ok (.aload_n 0, 1) := by decide +kernel
theorem dX6_remember_36 : decode cX6_remember 36 = .ok (.getfield 146, 3) := by decide +kernel
theorem dX6_remember_39 : decode cX6_remember 39 = .ok (.iconst 1, 1) := by decide +kernel
theorem dX6_remember_40 : decode cX6_remember 40 = .ok (.iadd, 1) := by decide +kernel
theorem dX6_remember_41 : decode cX6_remember 41 = .ok (.bipush 30, 2) := by decide +kernel
theorem dX6_remember_43 : decode cX6_remember 43 = .ok (.irem, 1) := by decide +kernel
theorem dX6_remember_44 : decode cX6_remember 44 = .ok (.putfield 146, 3) := by decide +kernel
theorem dX6_remember_47 : decode cX6_remember 47 = .ok (.aload_n 0, 1) := by decide +kernel
theorem dX6_remember_48 : decode cX6_remember 48 = .ok (.dup, 1) := by decide +kernel
theorem dX6_remember_49 : decode cX6_remember 49 = .ok (.getfield 118, 3) := by decide +kernel
theorem dX6_remember_52 : decode cX6_remember 52 = .ok (.aload_n 0, 1) := by decide +kernel
theorem dX6_remember_53 : decode cX6_remember 53 = .ok (.getfield 118, 3) := by decide +kernel
theorem dX6_remember_56 : decode cX6_remember 56 = .ok (.bipush 30, 2) := by decide +kernel
theorem dX6_remember_58 : decode cX6_remember 58 = .ok (.if_icmp .ge 7, 3) := by decide +kernel
theorem dX6_remember_61 : decode cX6_remember 61 = .ok (.iconst 1, 1) := by decide +kernel
theorem dX6_remember_62 : decode cX6_remember 62 = .ok (.goto 4, 3) := by decide +kernel
theorem dX6_remember_65 : decode cX6_remember 65 = .ok (.iconst 0, 1) := by decide +kernel
theorem dX6_remember_66 : decode cX6_remember 66 = .ok (.iadd, 1) := by decide +kernel
theorem dX6_remember_67 : decode cX6_remember 67 = .ok (.putfield 118, 3) := by decide +kernel
theorem dX6_remember_70 : decode cX6_remember 70 = .ok (.return_, 1) := by decide +kernel
set_option maxRecDepth 20000 in
theorem ggX6_row_X6_in : GoodIn wsX6_row wsX6_in := goodIn_r _ [8] (by decide +kernel) (by decide +kernel)
set_option maxRecDepth 20000 in
theorem gX6_row_X6_in : GoodIn wsX6_row (va_wsS RX6 48 yX6_in wsX6_in) := goodIn_app (goodIn_of _ (by decide +kernel)) ggX6_row_X6_in
set_option maxRecDepth 20000 in
theorem ggX6_row_X6_remember : GoodIn wsX6_row wsX6_remember := goodIn_r _ [12, 13, 14, 4, 15, 45, 46, 47, 48, 49, 50, 51, 52, 53, 54, 55, 56, 57, 58, 59, 60, 61] (by decide +kernel) (by decide +kernel)
set_option maxRecDepth 20000 in
theorem gX6_row_X6_remember : GoodIn wsX6_row (wsV RX6 150 RX6 yX6_remember wsX6_remember) := goodIn_app (goodIn_of _ (by decide +kernel)) ggX6_row_X6_remember
set_option maxRecDepth 20000 in
theorem ggX6_row_X6_partsOf : GoodIn wsX6_row wsX6_partsOf := goodIn_r _ [19, 20, 21, 22, 23, 7, 24, 25, 26, 27, 28, 29, 30, 31, 32, 33, 34, 35, 36, 37, 38, 39, 40, 41, 42, 43, 44, 5, 6, 8, 45, 46, 47, 48, 49, 50, 51, 52, 53, 54, 55, 56, 57, 58, 59, 60, 61] (by decide +kernel) (by decide +kernel)
set_option maxRecDepth 20000 in
theorem gX6_row_X6_partsOf : GoodIn wsX6_row (wsV RX6 127 RX6 yX6_partsOf wsX6_partsOf) := goodIn_app (goodIn_of _ (by decide +kernel)) ggX6_row_X6_partsOf
theorem dX6_row_0 : decode cX6_row 0 = .ok (.iload_n 1, 1) := by decide +kernel
theorem dX6_row_1 : decode cX6_row 1 = .ok (.iconst 0, 1) := by decide +kernel
theorem dX6_row_2 : decode cX6_row 2 = .ok (.bipush 15, 2) := by decide +kernel
theorem dX6_row_4 : decode cX6_row 4 = .ok (.invokestatic 48, 3) := by decide +kernel
theorem dX6_row_7 : decode cX6_row 7 = .ok (.ifCond .ne 6, 3) := by decide +kernel
theorem dX6_row_10 : decode cX6_row 10 = .ok (.ldc 122, 2) := by decide +kernel
theorem dX6_row_12 : decode cX6_row 12 = .ok (.ireturn, 1) := by decide +kernel
theorem dX6_row_13 : decode cX6_row 13 = .ok (.iload_n 2, 1) := by decide +kernel
theorem dX6_row_14 : decode cX6_row 14 = .ok (.iconst 0, 1) := by decide +kernel
theorem dX6_row_15 : decode cX6_row 15 = .ok (.ldc 149, 2) := by decide +kernel
theorem dX6_row_17 : decode cX6_row 17 = .ok (.invokestatic 48, 3) := by decide +kernel
theorem dX6_row_20 : decode cX6_row 20 = .ok (.ifCond .ne 6, 3) := by decide +kernel
theorem dX6_row_23 : decode cX6_row 23 = .ok (.ldc 121, 2) := by decide +kernel
theorem dX6_row_25 : decode cX6_row 25 = .ok (.ireturn, 1) := by decide +kernel
theorem dX6_row_26 : decode cX6_row 26 = .ok (.aload_n 0, 1) := by decide +kernel
theorem dX6_row_27 : decode cX6_row 27 = .ok (.invokevirtual 150, 3) := by decide +kernel
theorem dX6_row_30 : decode cX6_row 30 = .ok (.aload_n 0, 1) := by decide +kernel
theorem dX6_row_31 : decode cX6_row 31 = .ok (.getfield 7, 3) := by decide +kernel
theorem dX6_row_34 : decode cX6_row 34 = .ok (.iload_n 1, 1) := by decide +kernel
theorem dX6_row_35 : decode cX6_row 35 = .ok (.iload_n 2, 1) := by decide +kernel
theorem dX6_row_36 : decode cX6_row 36 = .ok (.iastore, 1) := by decide +kernel
theorem dX6_row_37 : decode cX6_row 37 = .ok (.aload_n 0, 1) := by decide +kernel
theorem dX6_row_38 : decode cX6_row 38 = .ok (.aload_n 0, 1) := by decide +kernel
theorem dX6_row_39 : decode cX6_row 39 = .ok (.getfield 7, 3) := by decide +kernel
theorem dX6_row_42 : decode cX6_row 42 = .ok (.invokevirtual 127, 3) := by decide +kernel
theorem dX6_row_45 : decode cX6_row 45 = .ok (.ireturn, 1) := by decide +kernel
set_option maxRecDepth 20000 in
theorem ggX6_turns_X6_remember : GoodIn wsX6_turns wsX6_remember := goodIn_r _ [6, 7, 8, 1, 9, 10, 11, 12, 13, 14, 15, 16, 17, 18, 19, 20, 21, 22, 23, 24, 25, 26] (by decide +kernel) (by decide +kernel)
set_option maxRecDepth 20000 in
theorem gX6_turns_X6_remember : GoodIn wsX6_turns (wsV RX6 150 RX6 yX6_remember wsX6_remember) := goodIn_app (goodIn_of _ (by decide +kernel)) ggX6_turns_X6_remember
theorem dX6_turns_0 : decode cX6_turns 0 = .ok (.aload_n 0, 1) := by decide +kernel
theorem dX6_turns_1 : decode cX6_turns 1 = .ok (.invokevirtual 150, 3) := by decide +kernel
theorem dX6_turns_4 : decode cX6_turns 4 = .ok (.aload_n 0, 1) := by decide +kernel
theorem dX6_turns_5 : decode cX6_turns 5 = .ok (.getfield 7, 3) := by decide +kernel
theorem dX6_turns_8 : decode cX6_turns 8 = .ok (.iload_n 1, 1) := by decide +kernel
theorem dX6_turns_9 : decode cX6_turns 9 = .ok (.bipush 16, 2) := by decide +kernel
theorem dX6_turns_11 : decode cX6_turns 11 = .ok (.idiv, 1) := by decide +kernel
theorem dX6_turns_12 : decode cX6_turns 12 = .ok (.dup2, 1) := by decide +kernel
theorem dX6_turns_13 : decode cX6_turns 13 = .ok (.iaload, 1) := by decide +kernel
theorem dX6_turns_14 : decode cX6_turns 14 = .ok (.iconst 1, 1) := by decide +kernel
theorem dX6_turns_15 : decode cX6_turns 15 = .ok (.iload_n 1, 1) := by decide +kernel
theorem dX6_turns_16 : decode cX6_turns 16 = .ok (.bipush 16, 2) := by decide +kernel
theorem dX6_turns_18 : decode cX6_turns 18 = .ok (.irem, 1) := by decide +kernel
theorem dX6_turns_19 : decode cX6_turns 19 = .ok (.ishl, 1) := by decide +kernel
theorem dX6_turns_20 : decode cX6_turns 20 = .ok (.ixor, 1) := by decide +kernel
theorem dX6_turns_21 : decode cX6_turns 21 = .ok (.iastore, 1) := by decide +kernel
theorem dX6_turns_22 : decode cX6_turns 22 = .ok (.return_, 1) := by decide +kernel
set_option maxRecDepth 20000 in
theorem ggX6_turn_X6_isOn : GoodIn wsX6_turn wsX6_isOn := goodIn_r _ [6, 7, 8, 5, 9] (by decide +kernel) (by decide +kernel)
set_option maxRecDepth 20000 in
theorem gX6_turn_X6_isOn : GoodIn wsX6_turn (va_wsS RX6 56 yX6_isOn wsX6_isOn) := goodIn_app (goodIn_of _ (by decide +kernel)) ggX6_turn_X6_isOn
set_option maxRecDepth 20000 in
theorem ggX6_turn_X6_turns : GoodIn wsX6_turn wsX6_turns := goodIn_r _ [13, 2, 14, 15, 16, 5, 17, 18, 19, 20, 24, 25, 26, 27, 28, 29, 30, 31, 32, 33, 34, 35, 36, 37, 38, 39, 40] (by decide +kernel) (by decide +kernel)
set_option maxRecDepth 20000 in
theorem gX6_turn_X6_turns : GoodIn wsX6_turn (wsV RX6 153 RX6 yX6_turns wsX6_turns) := goodIn_app (goodIn_of _ (by decide +kernel)) ggX6_turn_X6_turns
set_option maxRecDepth 20000 in
theorem ggX6_turn_X6_has : GoodIn wsX6_turn wsX6_has := goodIn_r _ [23] (by decide +kernel) (by decide +kernel)
set_option maxRecDepth 20000 in
theorem gX6_turn_X6_has : GoodIn wsX6_turn (va_wsS RX6 44 yX6_has wsX6_has) := goodIn_app (goodIn_of _ (by decide +kernel)) ggX6_turn_X6_has
theorem dX6_turn_0 : decode cX6_turn 0 = .ok (.iload_n 1, 1) := by decide +kernel
theorem dX6_turn_1 : decode cX6_turn 1 = .ok (.iload_n 2, 1) := by decide +kernel
theorem dX6_turn_2 : decode cX6_turn 2 = .ok (.invokestatic 56, 3) := by decide +kernel
theorem dX6_turn_5 : decode cX6_turn 5 = .ok (.ifCond .ne 6, 3) := by decide +kernel
theorem dX6_turn_8 : decode cX6_turn 8 = .ok (.ldc 122, 2) := by decide +kernel
theorem dX6_turn_10 : decode cX6_turn 10 = .ok (.ireturn, 1) := by decide +kernel
theorem dX6_turn_11 : decode cX6_turn 11 = .ok (.aload_n 0, 1) := by decide +kernel
theorem dX6_turn_12 : decode cX6_turn 12 = .ok (.bipush 16, 2) := by decide +kernel
theorem dX6_turn_14 : decode cX6_turn 14 = .ok (.iload_n 1, 1) := by decide +kernel
theorem dX6_turn_15 : decode cX6_turn 15 = .ok (.imul, 1) := by decide +kernel
theorem dX6_turn_16 : decode cX6_turn 16 = .ok (.iload_n 2, 1) := by decide +kernel
theorem dX6_turn_17 : decode cX6_turn 17 = .ok (.iadd, 1) := by decide +kernel
theorem dX6_turn_18 : decode cX6_turn 18 = .ok (.invokevirtual 153, 3) := by decide +kernel
theorem dX6_turn_21 : decode cX6_turn 21 = .ok (.aload_n 0, 1) := by decide +kernel
theorem dX6_turn_22 : decode cX6_turn 22 = .ok (.getfield 7, 3) := by decide +kernel
theorem dX6_turn_25 : decode cX6_turn 25 = .ok (.iload_n 1, 1) := by decide +kernel
theorem dX6_turn_26 : decode cX6_turn 26 = .ok (.iaload, 1) := by decide +kernel
theorem dX6_turn_27 : decode cX6_turn 27 = .ok (.iload_n 2, 1) := by decide +kernel
theorem dX6_turn_28 : decode cX6_turn 28 = .ok (.invokestatic 44, 3) := by decide +kernel
theorem dX6_turn_31 : decode cX6_turn 31 = .ok (.ifCond .eq 7, 3) := by decide +kernel
theorem dX6_turn_34 : decode cX6_turn 34 = .ok (.iconst 1, 1) := by decide +kernel
theorem dX6_turn_35 : decode cX6_turn 35 = .ok (.goto 4, 3) := by decide +kernel
theorem dX6_turn_38 : decode cX6_turn 38 = .ok (.iconst 0, 1) := by decide +kernel
theorem dX6_turn_39 : decode cX6_turn 39 = .ok (.ireturn, 1) := by decide +kernel
set_option maxRecDepth 20000 in
theorem ggX6_turnsAll_X6_remember : GoodIn wsX6_turnsAll wsX6_remember := goodIn_r _ [7, 8, 9, 1, 10, 25, 26, 27, 28, 29, 30, 31, 32, 33, 34, 35, 36, 37, 38, 39, 40, 41] (by decide +kernel) (by decide +kernel)
set_option maxRecDepth 20000 in
theorem gX6_turnsAll_X6_remember : GoodIn wsX6_turnsAll (wsV RX6 150 RX6 yX6_remember wsX6_remember) := goodIn_app (goodIn_of _ (by decide +kernel)) ggX6_turnsAll_X6_remember
set_option maxRecDepth 20000 in
theorem ggX6_turnsAll_X6_copies : GoodIn wsX6_turnsAll wsX6_copies := goodIn_r _ [13] (by decide +kernel) (by decide +kernel)
set_option maxRecDepth 20000 in
theorem gX6_turnsAll_X6_copies : GoodIn wsX6_turnsAll (va_wsS RX6 123 yX6_copies wsX6_copies) := goodIn_app (goodIn_of _ (by decide +kernel)) ggX6_turnsAll_X6_copies
set_option maxRecDepth 20000 in
theorem ggX6_turnsAll_X6_isOf : GoodIn wsX6_turnsAll wsX6_isOf := goodIn_r _ [17, 1, 18, 19, 20, 6, 21, 22, 23, 24, 25, 26, 27, 28, 29, 30, 31, 32, 33, 34, 35, 36, 37, 38, 39, 40, 41] (by decide +kernel) (by decide +kernel)
set_option maxRecDepth 20000 in
theorem gX6_turnsAll_X6_isOf : GoodIn wsX6_turnsAll (wsV RX6 81 RX6 yX6_isOf wsX6_isOf) := goodIn_app (goodIn_of _ (by decide +kernel)) ggX6_turnsAll_X6_isOf
theorem dX6_turnsAll_0 : decode cX6_turnsAll 0 = .ok (.aload_n 0, 1) := by decide +kernel
theorem dX6_turnsAll_1 : decode cX6_turnsAll 1 = .ok (.invokevirtual 150, 3) := by decide +kernel
theorem dX6_turnsAll_4 : decode cX6_turnsAll 4 = .ok (.iconst 0, 1) := by decide +kernel
theorem dX6_turnsAll_5 : decode cX6_turnsAll 5 = .ok (.istore_n 3, 1) := by decide +kernel
theorem dX6_turnsAll_6 : decode cX6_turnsAll 6 = .ok (.aload_n 0, 1) := by decide +kernel
theorem dX6_turnsAll_7 : decode cX6_turnsAll 7 = .ok (.getfield 7, 3) := by decide +kernel
theorem dX6_turnsAll_10 : decode cX6_turnsAll 10 = .ok (.aload_n 0, 1) := by decide +kernel
theorem dX6_turnsAll_11 : decode cX6_turnsAll 11 = .ok (.getfield 13, 3) := by decide +kernel
theorem dX6_turnsAll_14 : decode cX6_turnsAll 14 = .ok (.invokestatic 123, 3) := by decide +kernel
theorem dX6_turnsAll_17 : decode cX6_turnsAll 17 = .ok (.iconst 0, 1) := by decide +kernel
theorem dX6_turnsAll_18 : decode cX6_turnsAll 18 = .ok (.istore 4, 2) := by decide +kernel
theorem dX6_turnsAll_20 : decode cX6_turnsAll 20 = .ok (.iload 4, 2) := by decide +kernel
theorem dX6_turnsAll_22 : decode cX6_turnsAll 22 = .ok (.sipush 256, 3) := by decide +kernel
theorem dX6_turnsAll_25 : decode cX6_turnsAll 25 = .ok (.if_icmp .ge 43, 3) := by decide +kernel
theorem dX6_turnsAll_28 : decode cX6_turnsAll 28 = .ok (.aload_n 0, 1) := by decide +kernel
theorem dX6_turnsAll_29 : decode cX6_turnsAll 29 = .ok (.iload 4, 2) := by decide +kernel
theorem dX6_turnsAll_31 : decode cX6_turnsAll 31 = .ok (.iload_n 1, 1) := by decide +kernel
theorem dX6_turnsAll_32 : decode cX6_turnsAll 32 = .ok (.iload_n 2, 1) := by decide +kernel
theorem dX6_turnsAll_33 : decode cX6_turnsAll 33 = .ok (.invokevirtual 81, 3) := by decide +kernel
theorem dX6_turnsAll_36 : decode cX6_turnsAll 36 = .ok (.ifCond .eq 26, 3) := by decide +kernel
theorem dX6_turnsAll_39 : decode cX6_turnsAll 39 = .ok (.aload_n 0, 1) := by decide +kernel
theorem dX6_turnsAll_40 : decode cX6_turnsAll 40 = .ok (.getfield 13, 3) := by decide +kernel
theorem dX6_turnsAll_43 : decode cX6_turnsAll 43 = .ok (.iload 4, 2) := by decide +kernel
theorem dX6_turnsAll_45 : decode cX6_turnsAll 45 = .ok (.bipush 16, 2) := by decide +kernel
theorem dX6_turnsAll_47 : decode cX6_turnsAll 47 = .ok (.idiv, 1) := by decide +kernel
theorem dX6_turnsAll_48 : decode cX6_turnsAll 48 = .ok (.dup2, 1) := by decide +kernel
theorem dX6_turnsAll_49 : decode cX6_turnsAll 49 = .ok (.iaload, 1) := by decide +kernel
theorem dX6_turnsAll_50 : decode cX6_turnsAll 50 = .ok (.iconst 1, 1) := by decide +kernel
theorem dX6_turnsAll_51 : decode cX6_turnsAll 51 = .ok (.iload 4, 2) := by decide +kernel
theorem dX6_turnsAll_53 : decode cX6_turnsAll 53 = .ok (.bipush 16, 2) := by decide +kernel
theorem dX6_turnsAll_55 : decode cX6_turnsAll 55 = .ok (.irem, 1) := by decide +kernel
theorem dX6_turnsAll_56 : decode cX6_turnsAll 56 = .ok (.ishl, 1) := by decide +kernel
theorem dX6_turnsAll_57 : decode cX6_turnsAll 57 = .ok (.ixor, 1) := by decide +kernel
theorem dX6_turnsAll_58 : decode cX6_turnsAll 58 = .ok (.iastore, 1) := by decide +kernel
theorem dX6_turnsAll_59 : decode cX6_turnsAll 59 = .ok (.iinc 3 1, 3) := by decide +kernel
theorem dX6_turnsAll_62 : decode cX6_turnsAll 62 = .ok (.iinc 4 1, 3) := by decide +kernel
theorem dX6_turnsAll_65 : decode cX6_turnsAll 65 = .ok (.goto (-45), 3) := by decide +kernel
theorem dX6_turnsAll_68 : decode cX6_turnsAll 68 = .ok (.aload_n 0, 1) := by decide +kernel
theorem dX6_turnsAll_69 : decode cX6_turnsAll 69 = .ok (.getfield 13, 3) := by decide +kernel
theorem dX6_turnsAll_72 : decode cX6_turnsAll 72 = .ok (.aload_n 0, 1) := by decide +kernel
theorem dX6_turnsAll_73 : decode cX6_turnsAll 73 = .ok (.getfield 7, 3) := by decide +kernel
theorem dX6_turnsAll_76 : decode cX6_turnsAll 76 = .ok (.invokestatic 123, 3) := by decide +kernel
theorem dX6_turnsAll_79 : decode cX6_turnsAll 79 = .ok (.iload_n 3, 1) := by decide +kernel
theorem dX6_turnsAll_80 : decode cX6_turnsAll 80 = .ok (.ireturn, 1) := by decide +kernel
set_option maxRecDepth 20000 in
theorem ggX6_wipe_X6_partsOf : GoodIn wsX6_wipe wsX6_partsOf := goodIn_r _ [7, 8, 9, 10, 11, 6, 12, 13, 14, 15, 16, 17, 18, 19, 20, 21, 22, 23, 24, 25, 26, 27, 28, 29, 30, 31, 32, 33, 34, 35, 55, 56, 57, 58, 59, 60, 61, 62, 63, 64, 65, 66, 67, 68, 69, 70, 71] (by decide +kernel) (by decide +kernel)
set_option maxRecDepth 20000 in
theorem gX6_wipe_X6_partsOf : GoodIn wsX6_wipe (wsV RX6 127 RX6 yX6_partsOf wsX6_partsOf) := goodIn_app (goodIn_of _ (by decide +kernel)) ggX6_wipe_X6_partsOf
set_option maxRecDepth 20000 in
theorem ggX6_wipe_X6_in : GoodIn wsX6_wipe wsX6_in := goodIn_r _ [35] (by decide +kernel) (by decide +kernel)
set_option maxRecDepth 20000 in
theorem gX6_wipe_X6_in : GoodIn wsX6_wipe (va_wsS RX6 48 yX6_in wsX6_in) := goodIn_app (goodIn_of _ (by decide +kernel)) ggX6_wipe_X6_in
set_option maxRecDepth 20000 in
theorem ggX6_wipe_X6_turnsAll : GoodIn wsX6_wipe wsX6_turnsAll := goodIn_r _ [39, 1, 40, 41, 42, 43, 6, 44, 45, 46, 47, 48, 49, 50, 51, 52, 53, 54, 15, 19, 20, 21, 22, 23, 24, 55, 56, 57, 58, 59, 60, 61, 62, 63, 64, 65, 66, 67, 68, 69, 70, 71] (by decide +kernel) (by decide +kernel)
set_option maxRecDepth 20000 in
theorem gX6_wipe_X6_turnsAll : GoodIn wsX6_wipe (wsV RX6 157 RX6 yX6_turnsAll wsX6_turnsAll) := goodIn_app (goodIn_of _ (by decide +kernel)) ggX6_wipe_X6_turnsAll
theorem dX6_wipe_0 : decode cX6_wipe 0 = .ok (.iload_n 1, 1) := by decide +kernel
theorem dX6_wipe_1 : decode cX6_wipe 1 = .ok (.iconst 0, 1) := by decide +kernel
theorem dX6_wipe_2 : decode cX6_wipe 2 = .ok (.aload_n 0, 1) := by decide +kernel
theorem dX6_wipe_3 : decode cX6_wipe 3 = .ok (.aload_n 0, 1) := by decide +kernel
theorem dX6_wipe_4 : decode cX6_wipe 4 = .ok (.getfield 7, 3) := by decide +kernel
theorem dX6_wipe_7 : decode cX6_wipe 7 = .ok (.invokevirtual 127, 3) := by decide +kernel
theorem dX6_wipe_10 : decode cX6_wipe 10 = .ok (.iconst 1, 1) := by decide +kernel
theorem dX6_wipe_11 : decode cX6_wipe 11 = .ok (.isub, 1) := by decide +kernel
theorem dX6_wipe_12 : decode cX6_wipe 12 = .ok (.invokestatic 48, 3) := by decide +kernel
theorem dX6_wipe_15 : decode cX6_wipe 15 = .ok (.ifCond .eq 12, 3) := by decide +kernel
theorem dX6_wipe_18 : decode cX6_wipe 18 = .ok (.aload_n 0, 1) := by decide +kernel
theorem dX6_wipe_19 : decode cX6_wipe 19 = .ok (.iconst 1, 1) := by decide +kernel
theorem dX6_wipe_20 : decode cX6_wipe 20 = .ok (.iload_n 1, 1) := by decide +kernel
theorem dX6_wipe_21 : decode cX6_wipe 21 = .ok (.invokevirtual 157, 3) := by decide +kernel
theorem dX6_wipe_24 : decode cX6_wipe 24 = .ok (.goto 5, 3) := by decide +kernel
theorem dX6_wipe_27 : decode cX6_wipe 27 = .ok (.ldc 122, 2) := by decide +kernel
theorem dX6_wipe_29 : decode cX6_wipe 29 = .ok (.ireturn, 1) := by decide +kernel
set_option maxRecDepth 20000 in
theorem ggX6_fill_X6_parts : GoodIn wsX6_fill wsX6_parts := goodIn_r _ [8, 9, 10, 2, 11, 12, 13, 14, 15, 16, 7, 17, 18, 19, 20, 21, 22, 23, 24, 25, 26, 27, 28, 29, 30, 31, 55, 56, 57, 58, 59, 60, 61, 62, 63, 64, 65, 66, 67, 68, 69, 70, 71] (by decide +kernel) (by decide +kernel)
set_option maxRecDepth 20000 in
theorem gX6_fill_X6_parts : GoodIn wsX6_fill (wsV RX6 73 RX6 yX6_parts wsX6_parts) := goodIn_app (goodIn_of _ (by decide +kernel)) ggX6_fill_X6_parts
set_option maxRecDepth 20000 in
theorem ggX6_fill_X6_in : GoodIn wsX6_fill wsX6_in := goodIn_r _ [31] (by decide +kernel) (by decide +kernel)
set_option maxRecDepth 20000 in
theorem gX6_fill_X6_in : GoodIn wsX6_fill (va_wsS RX6 48 yX6_in wsX6_in) := goodIn_app (goodIn_of _ (by decide +kernel)) ggX6_fill_X6_in
set_option maxRecDepth 20000 in
theorem ggX6_fill_X6_lightOf : GoodIn wsX6_fill wsX6_lightOf := goodIn_r _ [35, 14, 55, 56, 57, 58, 59, 60, 61, 62, 63, 64, 65, 66, 67, 68, 69, 70, 71] (by decide +kernel) (by decide +kernel)
set_option maxRecDepth 20000 in
theorem gX6_fill_X6_lightOf : GoodIn wsX6_fill (wsV RX6 85 RX6 yX6_lightOf wsX6_lightOf) := goodIn_app (goodIn_of _ (by decide +kernel)) ggX6_fill_X6_lightOf
set_option maxRecDepth 20000 in
theorem ggX6_fill_X6_turnsAll : GoodIn wsX6_fill wsX6_turnsAll := goodIn_r _ [39, 1, 40, 41, 42, 43, 7, 44, 45, 46, 47, 48, 49, 50, 51, 52, 53, 54, 11, 15, 16, 17, 18, 19, 20, 55, 56, 57, 58, 59, 60, 61, 62, 63, 64, 65, 66, 67, 68, 69, 70, 71] (by decide +kernel) (by decide +kernel)
set_option maxRecDepth 20000 in
theorem gX6_fill_X6_turnsAll : GoodIn wsX6_fill (wsV RX6 157 RX6 yX6_turnsAll wsX6_turnsAll) := goodIn_app (goodIn_of _ (by decide +kernel)) ggX6_fill_X6_turnsAll
theorem dX6_fill_0 : decode cX6_fill 0 = .ok (.aload_n 0, 1) := by decide +kernel
theorem dX6_fill_1 : decode cX6_fill 1 = .ok (.aload_n 0, 1) := by decide +kernel
theorem dX6_fill_2 : decode cX6_fill 2 = .ok (.getfield 7, 3) := by decide +kernel
theorem dX6_fill_5 : decode cX6_fill 5 = .ok (.invokevirtual 73, 3) := by decide +kernel
theorem dX6_fill_8 : decode cX6_fill 8 = .ok (.iload_n 1, 1) := by decide +kernel
theorem dX6_fill_9 : decode cX6_fill 9 = .ok (.iconst 0, 1) := by decide +kernel
theorem dX6_fill_10 : decode cX6_fill 10 = .ok (.aload_n 0, 1) := by decide +kernel
theorem dX6_fill_11 : decode cX6_fill 11 = .ok (.getfield 66, 3) := by decide +kernel
theorem dX6_fill_14 : decode cX6_fill 14 = .ok (.iconst 1, 1) := by decide +kernel
theorem dX6_fill_15 : decode cX6_fill 15 = .ok (.isub, 1) := by decide +kernel
theorem dX6_fill_16 : decode cX6_fill 16 = .ok (.invokestatic 48, 3) := by decide +kernel
theorem dX6_fill_19 : decode cX6_fill 19 = .ok (.ifCond .eq 16, 3) := by decide +kernel
theorem dX6_fill_22 : decode cX6_fill 22 = .ok (.aload_n 0, 1) := by decide +kernel
theorem dX6_fill_23 : decode cX6_fill 23 = .ok (.iconst 0, 1) := by decide +kernel
theorem dX6_fill_24 : decode cX6_fill 24 = .ok (.aload_n 0, 1) := by decide +kernel
theorem dX6_fill_25 : decode cX6_fill 25 = .ok (.iload_n 1, 1) := by decide +kernel
theorem dX6_fill_26 : decode cX6_fill 26 = .ok (.invokevirtual 85, 3) := by decide +kernel
theorem dX6_fill_29 : decode cX6_fill 29 = .ok (.invokevirtual 157, 3) := by decide +kernel
theorem dX6_fill_32 : decode cX6_fill 32 = .ok (.goto 5, 3) := by decide +kernel
theorem dX6_fill_35 : decode cX6_fill 35 = .ok (.ldc 122, 2) := by decide +kernel
theorem dX6_fill_37 : decode cX6_fill 37 = .ok (.ireturn, 1) := by decide +kernel
set_option maxRecDepth 20000 in
theorem ggX6_isNear_X6_isOn : GoodIn wsX6_isNear wsX6_isOn := goodIn_r _ [5, 6, 7, 4, 8] (by decide +kernel) (by decide +kernel)
set_option maxRecDepth 20000 in
theorem gX6_isNear_X6_isOn : GoodIn wsX6_isNear (va_wsS RX6 56 yX6_isOn wsX6_isOn) := goodIn_app (goodIn_of _ (by decide +kernel)) ggX6_isNear_X6_isOn
set_option maxRecDepth 20000 in
theorem ggX6_isNear_X6_has : GoodIn wsX6_isNear wsX6_has := goodIn_r _ [11] (by decide +kernel) (by decide +kernel)
set_option maxRecDepth 20000 in
theorem gX6_isNear_X6_has : GoodIn wsX6_isNear (va_wsS RX6 44 yX6_has wsX6_has) := goodIn_app (goodIn_of _ (by decide +kernel)) ggX6_isNear_X6_has
theorem dX6_isNear_0 : decode cX6_isNear 0 = .ok (.iconst 0, 1) := by decide +kernel
theorem dX6_isNear_1 : decode cX6_isNear 1 = .ok (.istore_n 3, 1) := by decide +kernel
theorem dX6_isNear_2 : decode cX6_isNear 2 = .ok (.iconst 0, 1) := by decide +kernel
theorem dX6_isNear_3 : decode cX6_isNear 3 = .ok (.istore 4, 2) := by decide +kernel
theorem dX6_isNear_5 : decode cX6_isNear 5 = .ok (.iload 4, 2) := by decide +kernel
theorem dX6_isNear_7 : decode cX6_isNear 7 = .ok (.bipush 9, 2) := by decide +kernel
theorem dX6_isNear_9 : decode cX6_isNear 9 = .ok (.if_icmp .ge 116, 3) := by decide +kernel
theorem dX6_isNear_12 : decode cX6_isNear 12 = .ok (.iload_n 1, 1) := by decide +kernel
theorem dX6_isNear_13 : decode cX6_isNear 13 = .ok (.bipush 16, 2) := by decide +kernel
theorem dX6_isNear_15 : decode cX6_isNear 15 = .ok (.idiv, 1) := by decide +kernel
theorem dX6_isNear_16 : decode cX6_isNear 16 = .ok (.iload 4, 2) := by decide +kernel
theorem dX6_isNear_18 : decode cX6_isNear 18 = .ok (.iconst 3, 1) := by decide +kernel
theorem dX6_isNear_19 : decode cX6_isNear 19 = .ok (.idiv, 1) := by decide +kernel
theorem dX6_isNear_20 : decode cX6_isNear 20 = .ok (.iadd, 1) := by decide +kernel
theorem dX6_isNear_21 : decode cX6_isNear 21 = .ok (.iconst 1, 1) := by decide +kernel
theorem dX6_isNear_22 : decode cX6_isNear 22 = .ok (.isub, 1) := by decide +kernel
theorem dX6_isNear_23 : decode cX6_isNear 23 = .ok (.istore 5, 2) := by decide +kernel
theorem dX6_isNear_25 : decode cX6_isNear 25 = .ok (.iload_n 1, 1) := by decide +kernel
theorem dX6_isNear_26 : decode cX6_isNear 26 = .ok (.bipush 16, 2) := by decide +kernel
theorem dX6_isNear_28 : decode cX6_isNear 28 = .ok (.irem, 1) := by decide +kernel
theorem dX6_isNear_29 : decode cX6_isNear 29 = .ok (.iload 4, 2) := by decide +kernel
theorem dX6_isNear_31 : decode cX6_isNear 31 = .ok (.iconst 3, 1) := by decide +kernel
theorem dX6_isNear_32 : decode cX6_isNear 32 = .ok (.irem, 1) := by decide +kernel
theorem dX6_isNear_33 : decode cX6_isNear 33 = .ok (.iadd, 1) := by decide +kernel
theorem dX6_isNear_34 : decode cX6_isNear 34 = .ok (.iconst 1, 1) := by decide +kernel
theorem dX6_isNear_35 : decode cX6_isNear 35 = .ok (.isub, 1) := by decide +kernel
theorem dX6_isNear_36 : decode cX6_isNear 36 = .ok (.istore 6, 2) := by decide +kernel
theorem dX6_isNear_38 : decode cX6_isNear 38 = .ok (.iload 4, 2) := by decide +kernel
theorem dX6_isNear_40 : decode cX6_isNear 40 = .ok (.iconst 4, 1) := by decide +kernel
theorem dX6_isNear_41 : decode cX6_isNear 41 = .ok (.if_icmp .eq 27, 3) := by decide +kernel
theorem dX6_isNear_44 : decode cX6_isNear 44 = .ok (.aload_n 0, 1) := by decide +kernel
theorem dX6_isNear_45 : decode cX6_isNear 45 = .ok (.getfield 7, 3) := by decide +kernel
theorem dX6_isNear_48 : decode cX6_isNear 48 = .ok (.bipush 16, 2) := by decide +kernel
theorem dX6_isNear_50 : decode cX6_isNear 50 = .ok (.iaload, 1) := by decide +kernel
theorem dX6_isNear_51 : decode cX6_isNear 51 = .ok (.bipush 8, 2) := by decide +kernel
theorem dX6_isNear_53 : decode cX6_isNear 53 = .ok (.if_icmp .eq 11, 3) := by decide +kernel
theorem dX6_isNear_56 : decode cX6_isNear 56 = .ok (.iload 4, 2) := by decide +kernel
theorem dX6_isNear_58 : decode cX6_isNear 58 = .ok (.iconst 2, 1) := by decide +kernel
theorem dX6_isNear_59 : decode cX6_isNear 59 = .ok (.irem, 1) := by decide +kernel
theorem dX6_isNear_60 : decode cX6_isNear 60 = .ok (.iconst 1, 1) := by decide +kernel
theorem dX6_isNear_61 : decode cX6_isNear 61 = .ok (.if_icmp .ne 7, 3) := by decide +kernel
theorem dX6_isNear_64 : decode cX6_isNear 64 = .ok (.iconst 1, 1) := by decide +kernel
theorem dX6_isNear_65 : decode cX6_isNear 65 = .ok (.goto 4, 3) := by decide +kernel
theorem dX6_isNear_68 : decode cX6_isNear 68 = .ok (.iconst 0, 1) := by decide +kernel
theorem dX6_isNear_69 : decode cX6_isNear 69 = .ok (.istore 7, 2) := by decide +kernel
