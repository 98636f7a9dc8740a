theorem dX8_sly_103 : decode cX8_sly 103 = .ok (.iload 8, 2) := by decide +kernel
theorem dX8_sly_105 : decode cX8_sly 105 = .ok (.isub, 1) := by decide +kernel
theorem dX8_sly_106 : decode cX8_sly 106 = .ok (.goto 11, 3) := by decide +kernel
theorem dX8_sly_109 : decode cX8_sly 109 = .ok (.iload 8, 2) := by decide +kernel
theorem dX8_sly_111 : decode cX8_sly 111 = .ok (.iload 7, 2) := by decide +kernel
theorem dX8_sly_113 : decode cX8_sly 113 = .ok (.bipush 10, 2) := by decide +kernel
theorem dX8_sly_115 : decode cX8_sly 115 = .ok (.irem, 1) := by decide +kernel
theorem dX8_sly_116 : decode cX8_sly 116 = .ok (.isub, 1) := by decide +kernel
theorem dX8_sly_117 : decode cX8_sly 117 = .ok (.istore 9, 2) := by decide +kernel
theorem dX8_sly_119 : decode cX8_sly 119 = .ok (.iload 9, 2) := by decide +kernel
theorem dX8_sly_121 : decode cX8_sly 121 = .ok (.ifCond .le 75, 3) := by decide +kernel
theorem dX8_sly_124 : decode cX8_sly 124 = .ok (.iload 9, 2) := by decide +kernel
theorem dX8_sly_126 : decode cX8_sly 126 = .ok (.iload_n 2, 1) := by decide +kernel
theorem dX8_sly_127 : decode cX8_sly 127 = .ok (.if_icmp .gt 69, 3) := by decide +kernel
theorem dX8_sly_130 : decode cX8_sly 130 = .ok (.aload_n 0, 1) := by decide +kernel
theorem dX8_sly_131 : decode cX8_sly 131 = .ok (.getfield 46, 3) := by decide +kernel
theorem dX8_sly_134 : decode cX8_sly 134 = .ok (.iload 6, 2) := by decide +kernel
theorem dX8_sly_136 : decode cX8_sly 136 = .ok (.iload 7, 2) := by decide +kernel
theorem dX8_sly_138 : decode cX8_sly 138 = .ok (.bipush 10, 2) := by decide +kernel
theorem dX8_sly_140 : decode cX8_sly 140 = .ok (.idiv, 1) := by decide +kernel
theorem dX8_sly_141 : decode cX8_sly 141 = .ok (.bipush 10, 2) := by decide +kernel
theorem dX8_sly_143 : decode cX8_sly 143 = .ok (.imul, 1) := by decide +kernel
theorem dX8_sly_144 : decode cX8_sly 144 = .ok (.iload 8, 2) := by decide +kernel
theorem dX8_sly_146 : decode cX8_sly 146 = .ok (.iadd, 1) := by decide +kernel
theorem dX8_sly_147 : decode cX8_sly 147 = .ok (.iastore, 1) := by decide +kernel
theorem dX8_sly_148 : decode cX8_sly 148 = .ok (.aload_n 0, 1) := by decide +kernel
theorem dX8_sly_149 : decode cX8_sly 149 = .ok (.invokevirtual 182, 3) := by decide +kernel
theorem dX8_sly_152 : decode cX8_sly 152 = .ok (.aload_n 0, 1) := by decide +kernel
theorem dX8_sly_153 : decode cX8_sly 153 = .ok (.invokevirtual 219, 3) := by decide +kernel
theorem dX8_sly_156 : decode cX8_sly 156 = .ok (.istore 10, 2) := by decide +kernel
theorem dX8_sly_158 : decode cX8_sly 158 = .ok (.iload 10, 2) := by decide +kernel
theorem dX8_sly_160 : decode cX8_sly 160 = .ok (.iload 4, 2) := by decide +kernel
theorem dX8_sly_162 : decode cX8_sly 162 = .ok (.if_icmp .ge 14, 3) := by decide +kernel
theorem dX8_sly_165 : decode cX8_sly 165 = .ok (.bipush 10, 2) := by decide +kernel
theorem dX8_sly_167 : decode cX8_sly 167 = .ok (.iload 6, 2) := by decide +kernel
theorem dX8_sly_169 : decode cX8_sly 169 = .ok (.imul, 1) := by decide +kernel
theorem dX8_sly_170 : decode cX8_sly 170 = .ok (.iload 8, 2) := by decide +kernel
theorem dX8_sly_172 : decode cX8_sly 172 = .ok (.iadd, 1) := by decide +kernel
theorem dX8_sly_173 : decode cX8_sly 173 = .ok (.goto 5, 3) := by decide +kernel
theorem dX8_sly_176 : decode cX8_sly 176 = .ok (.iload 5, 2) := by decide +kernel
theorem dX8_sly_178 : decode cX8_sly 178 = .ok (.istore 5, 2) := by decide +kernel
theorem dX8_sly_180 : decode cX8_sly 180 = .ok (.iload 10, 2) := by decide +kernel
theorem dX8_sly_182 : decode cX8_sly 182 = .ok (.iload 4, 2) := by decide +kernel
theorem dX8_sly_184 : decode cX8_sly 184 = .ok (.if_icmp .ge 8, 3) := by decide +kernel
theorem dX8_sly_187 : decode cX8_sly 187 = .ok (.iload 10, 2) := by decide +kernel
theorem dX8_sly_189 : decode cX8_sly 189 = .ok (.goto 5, 3) := by decide +kernel
theorem dX8_sly_192 : decode cX8_sly 192 = .ok (.iload 4, 2) := by decide +kernel
theorem dX8_sly_194 : decode cX8_sly 194 = .ok (.istore 4, 2) := by decide +kernel
theorem dX8_sly_196 : decode cX8_sly 196 = .ok (.iinc 8 1, 3) := by decide +kernel
theorem dX8_sly_199 : decode cX8_sly 199 = .ok (.goto (-124), 3) := by decide +kernel
theorem dX8_sly_202 : decode cX8_sly 202 = .ok (.aload_n 0, 1) := by decide +kernel
theorem dX8_sly_203 : decode cX8_sly 203 = .ok (.getfield 46, 3) := by decide +kernel
theorem dX8_sly_206 : decode cX8_sly 206 = .ok (.iload 6, 2) := by decide +kernel
theorem dX8_sly_208 : decode cX8_sly 208 = .ok (.iload 7, 2) := by decide +kernel
theorem dX8_sly_210 : decode cX8_sly 210 = .ok (.iastore, 1) := by decide +kernel
theorem dX8_sly_211 : decode cX8_sly 211 = .ok (.iinc 6 1, 3) := by decide +kernel
theorem dX8_sly_214 : decode cX8_sly 214 = .ok (.goto (-162), 3) := by decide +kernel
theorem dX8_sly_217 : decode cX8_sly 217 = .ok (.iload 5, 2) := by decide +kernel
theorem dX8_sly_219 : decode cX8_sly 219 = .ok (.iconst (-1), 1) := by decide +kernel
theorem dX8_sly_220 : decode cX8_sly 220 = .ok (.if_icmp .eq 7, 3) := by decide +kernel
theorem dX8_sly_223 : decode cX8_sly 223 = .ok (.iload_n 3, 1) := by decide +kernel
theorem dX8_sly_224 : decode cX8_sly 224 = .ok (.ifCond .ne 8, 3) := by decide +kernel
theorem dX8_sly_227 : decode cX8_sly 227 = .ok (.iload 5, 2) := by decide +kernel
theorem dX8_sly_229 : decode cX8_sly 229 = .ok (.goto 5, 3) := by decide +kernel
theorem dX8_sly_232 : decode cX8_sly 232 = .ok (.iload 4, 2) := by decide +kernel
theorem dX8_sly_234 : decode cX8_sly 234 = .ok (.ireturn, 1) := by decide +kernel
set_option maxRecDepth 20000 in
theorem ggX8_struck_X8_isThing : GoodIn wsX8_struck wsX8_isThing := goodIn_r _ [7, 8, 9, 10, 6, 11] (by decide +kernel) (by decide +kernel)
set_option maxRecDepth 20000 in
theorem gX8_struck_X8_isThing : GoodIn wsX8_struck (va_wsS RX8 165 yX8_isThing wsX8_isThing) := goodIn_app (goodIn_of _ (by decide +kernel)) ggX8_struck_X8_isThing
set_option maxRecDepth 20000 in
theorem ggX8_struck_X8_in : GoodIn wsX8_struck wsX8_in := goodIn_r _ [11] (by decide +kernel) (by decide +kernel)
set_option maxRecDepth 20000 in
theorem gX8_struck_X8_in : GoodIn wsX8_struck (va_wsS RX8 57 yX8_in wsX8_in) := goodIn_app (goodIn_of _ (by decide +kernel)) ggX8_struck_X8_in
set_option maxRecDepth 20000 in
theorem ggX8_struck_X8_allThere : GoodIn wsX8_struck wsX8_allThere := goodIn_r _ [15, 3, 2, 16, 71, 72, 73, 74, 75, 76, 77, 78, 79, 80, 81, 82, 83, 84, 85, 86, 87, 88, 89, 90, 91, 92, 93, 94, 95, 96, 97] (by decide +kernel) (by decide +kernel)
set_option maxRecDepth 20000 in
theorem gX8_struck_X8_allThere : GoodIn wsX8_struck (wsV RX8 148 RX8 yX8_allThere wsX8_allThere) := goodIn_app (goodIn_of _ (by decide +kernel)) ggX8_struck_X8_allThere
set_option maxRecDepth 20000 in
theorem ggX8_struck_X8_layWorks : GoodIn wsX8_struck wsX8_layWorks := goodIn_r _ [20, 21, 22, 23, 24, 25, 71, 72, 73, 74, 75, 76, 77, 78, 79, 80, 81, 82, 83, 84, 85, 86, 87, 88, 89, 90, 91, 92, 93, 94, 95, 96, 97] (by decide +kernel) (by decide +kernel)
set_option maxRecDepth 20000 in
theorem gX8_struck_X8_layWorks : GoodIn wsX8_struck (wsV RX8 178 RX8 yX8_layWorks wsX8_layWorks) := goodIn_app (goodIn_of _ (by decide +kernel)) ggX8_struck_X8_layWorks
set_option maxRecDepth 20000 in
theorem ggX8_struck_X8_many : GoodIn wsX8_struck wsX8_many := goodIn_r _ [28] (by decide +kernel) (by decide +kernel)
set_option maxRecDepth 20000 in
theorem gX8_struck_X8_many : GoodIn wsX8_struck (va_wsS RX8 157 yX8_many wsX8_many) := goodIn_app (goodIn_of _ (by decide +kernel)) ggX8_struck_X8_many
set_option maxRecDepth 20000 in
theorem ggX8_struck_X8_layCodes : GoodIn wsX8_struck wsX8_layCodes := goodIn_r _ [32, 22, 23, 33, 34, 35, 36, 6, 37, 38, 39, 40, 41, 42, 2, 43, 44, 45, 46, 16, 3, 47, 48, 49, 50, 71, 72, 73, 74, 75, 76, 77, 78, 79, 80, 81, 82, 83, 84, 85, 86, 87, 88, 89, 90, 91, 92, 93, 94, 95, 96, 97] (by decide +kernel) (by decide +kernel)
set_option maxRecDepth 20000 in
theorem gX8_struck_X8_layCodes : GoodIn wsX8_struck (wsV RX8 182 RX8 yX8_layCodes wsX8_layCodes) := goodIn_app (goodIn_of _ (by decide +kernel)) ggX8_struck_X8_layCodes
set_option maxRecDepth 20000 in
theorem ggX8_struck_X8_needed : GoodIn wsX8_struck wsX8_needed := goodIn_r _ [54, 55, 56, 57, 6, 58, 26, 27, 28, 59, 60, 61, 62, 22, 63, 64, 65, 66, 33, 67, 68, 69, 70, 71, 72, 73, 74, 75, 76, 77, 78, 79, 80, 81, 82, 83, 84, 85, 86, 87, 88, 89, 90, 91, 92, 93, 94, 95, 96, 97] (by decide +kernel) (by decide +kernel)
set_option maxRecDepth 20000 in
theorem gX8_struck_X8_needed : GoodIn wsX8_struck (wsV RX8 219 RX8 yX8_needed wsX8_needed) := goodIn_app (goodIn_of _ (by decide +kernel)) ggX8_struck_X8_needed
theorem dX8_struck_0 : decode cX8_struck 0 = .ok (.iload_n 1, 1) := by decide +kernel
theorem dX8_struck_1 : decode cX8_struck 1 = .ok (.invokestatic 165, 3) := by decide +kernel
theorem dX8_struck_4 : decode cX8_struck 4 = .ok (.ifCond .ne 6, 3) := by decide +kernel
theorem dX8_struck_7 : decode cX8_struck 7 = .ok (.bipush (-2), 2) := by decide +kernel
theorem dX8_struck_9 : decode cX8_struck 9 = .ok (.ireturn, 1) := by decide +kernel
theorem dX8_struck_10 : decode cX8_struck 10 = .ok (.iload_n 2, 1) := by decide +kernel
theorem dX8_struck_11 : decode cX8_struck 11 = .ok (.i2l, 1) := by decide +kernel
theorem dX8_struck_12 : decode cX8_struck 12 = .ok (.lconst 0, 1) := by decide +kernel
theorem dX8_struck_13 : decode cX8_struck 13 = .ok (.ldc2_w 125, 3) := by decide +kernel
theorem dX8_struck_16 : decode cX8_struck 16 = .ok (.invokestatic 57, 3) := by decide +kernel
theorem dX8_struck_19 : decode cX8_struck 19 = .ok (.ifCond .ne 6, 3) := by decide +kernel
theorem dX8_struck_22 : decode cX8_struck 22 = .ok (.bipush (-3), 2) := by decide +kernel
theorem dX8_struck_24 : decode cX8_struck 24 = .ok (.ireturn, 1) := by decide +kernel
theorem dX8_struck_25 : decode cX8_struck 25 = .ok (.aload_n 0, 1) := by decide +kernel
theorem dX8_struck_26 : decode cX8_struck 26 = .ok (.invokevirtual 148, 3) := by decide +kernel
theorem dX8_struck_29 : decode cX8_struck 29 = .ok (.aload_n 0, 1) := by decide +kernel
theorem dX8_struck_30 : decode cX8_struck 30 = .ok (.iload_n 1, 1) := by decide +kernel
theorem dX8_struck_31 : decode cX8_struck 31 = .ok (.invokevirtual 178, 3) := by decide +kernel
theorem dX8_struck_34 : decode cX8_struck 34 = .ok (.aload_n 0, 1) := by decide +kernel
theorem dX8_struck_35 : decode cX8_struck 35 = .ok (.getfield 119, 3) := by decide +kernel
theorem dX8_struck_38 : decode cX8_struck 38 = .ok (.bipush 10, 2) := by decide +kernel
theorem dX8_struck_40 : decode cX8_struck 40 = .ok (.if_icmp .ge 10, 3) := by decide +kernel
theorem dX8_struck_43 : decode cX8_struck 43 = .ok (.aload_n 0, 1) := by decide +kernel
theorem dX8_struck_44 : decode cX8_struck 44 = .ok (.getfield 119, 3) := by decide +kernel
theorem dX8_struck_47 : decode cX8_struck 47 = .ok (.goto 5, 3) := by decide +kernel
theorem dX8_struck_50 : decode cX8_struck 50 = .ok (.bipush 10, 2) := by decide +kernel
theorem dX8_struck_52 : decode cX8_struck 52 = .ok (.istore_n 3, 1) := by decide +kernel
theorem dX8_struck_53 : decode cX8_struck 53 = .ok (.iconst (-1), 1) := by decide +kernel
theorem dX8_struck_54 : decode cX8_struck 54 = .ok (.istore 4, 2) := by decide +kernel
theorem dX8_struck_56 : decode cX8_struck 56 = .ok (.iconst 0, 1) := by decide +kernel
theorem dX8_struck_57 : decode cX8_struck 57 = .ok (.istore 5, 2) := by decide +kernel
theorem dX8_struck_59 : decode cX8_struck 59 = .ok (.iload 5, 2) := by decide +kernel
theorem dX8_struck_61 : decode cX8_struck 61 = .ok (.iconst 1, 1) := by decide +kernel
theorem dX8_struck_62 : decode cX8_struck 62 = .ok (.iload_n 3, 1) := by decide +kernel
theorem dX8_struck_63 : decode cX8_struck 63 = .ok (.ishl, 1) := by decide +kernel
theorem dX8_struck_64 : decode cX8_struck 64 = .ok (.if_icmp .ge 55, 3) := by decide +kernel
theorem dX8_struck_67 : decode cX8_struck 67 = .ok (.iload 4, 2) := by decide +kernel
theorem dX8_struck_69 : decode cX8_struck 69 = .ok (.iconst (-1), 1) := by decide +kernel
theorem dX8_struck_70 : decode cX8_struck 70 = .ok (.if_icmp .eq 16, 3) := by decide +kernel
theorem dX8_struck_73 : decode cX8_struck 73 = .ok (.iload 5, 2) := by decide +kernel
theorem dX8_struck_75 : decode cX8_struck 75 = .ok (.invokestatic 157, 3) := by decide +kernel
theorem dX8_struck_78 : decode cX8_struck 78 = .ok (.iload 4, 2) := by decide +kernel
theorem dX8_struck_80 : decode cX8_struck 80 = .ok (.invokestatic 157, 3) := by decide +kernel
theorem dX8_struck_83 : decode cX8_struck 83 = .ok (.if_icmp .ge 30, 3) := by decide +kernel
theorem dX8_struck_86 : decode cX8_struck 86 = .ok (.aload_n 0, 1) := by decide +kernel
theorem dX8_struck_87 : decode cX8_struck 87 = .ok (.iload 5, 2) := by decide +kernel
theorem dX8_struck_89 : decode cX8_struck 89 = .ok (.putfield 130, 3) := by decide +kernel
theorem dX8_struck_92 : decode cX8_struck 92 = .ok (.aload_n 0, 1) := by decide +kernel
theorem dX8_struck_93 : decode cX8_struck 93 = .ok (.invokevirtual 182, 3) := by decide +kernel
theorem dX8_struck_96 : decode cX8_struck 96 = .ok (.aload_n 0, 1) := by decide +kernel
theorem dX8_struck_97 : decode cX8_struck 97 = .ok (.invokevirtual 219, 3) := by decide +kernel
theorem dX8_struck_100 : decode cX8_struck 100 = .ok (.iload_n 2, 1) := by decide +kernel
theorem dX8_struck_101 : decode cX8_struck 101 = .ok (.if_icmp .gt 8, 3) := by decide +kernel
theorem dX8_struck_104 : decode cX8_struck 104 = .ok (.iload 5, 2) := by decide +kernel
theorem dX8_struck_106 : decode cX8_struck 106 = .ok (.goto 5, 3) := by decide +kernel
theorem dX8_struck_109 : decode cX8_struck 109 = .ok (.iload 4, 2) := by decide +kernel
theorem dX8_struck_111 : decode cX8_struck 111 = .ok (.istore 4, 2) := by decide +kernel
theorem dX8_struck_113 : decode cX8_struck 113 = .ok (.iinc 5 1, 3) := by decide +kernel
theorem dX8_struck_116 : decode cX8_struck 116 = .ok (.goto (-57), 3) := by decide +kernel
theorem dX8_struck_119 : decode cX8_struck 119 = .ok (.iload 4, 2) := by decide +kernel
theorem dX8_struck_121 : decode cX8_struck 121 = .ok (.ireturn, 1) := by decide +kernel
set_option maxRecDepth 20000 in
theorem ggX8_takes_X8_isBound : GoodIn wsX8_takes wsX8_isBound := goodIn_r _ [6, 7, 8, 9, 5, 10, 37, 38, 39, 40, 41, 42, 43, 44, 45, 46, 47, 48, 49, 50, 51, 52, 53, 54, 55, 56, 57, 58, 59, 60, 61, 62, 63] (by decide +kernel) (by decide +kernel)
set_option maxRecDepth 20000 in
theorem gX8_takes_X8_isBound : GoodIn wsX8_takes (wsV RX8 122 RX8 yX8_isBound wsX8_isBound) := goodIn_app (goodIn_of _ (by decide +kernel)) ggX8_takes_X8_isBound
set_option maxRecDepth 20000 in
theorem ggX8_takes_X8_isGuild : GoodIn wsX8_takes wsX8_isGuild := goodIn_r _ [13, 14, 8, 9, 5, 10] (by decide +kernel) (by decide +kernel)
set_option maxRecDepth 20000 in
theorem gX8_takes_X8_isGuild : GoodIn wsX8_takes (va_wsS RX8 142 yX8_isGuild wsX8_isGuild) := goodIn_app (goodIn_of _ (by decide +kernel)) ggX8_takes_X8_isGuild
set_option maxRecDepth 20000 in
theorem ggX8_takes_X8_in : GoodIn wsX8_takes wsX8_in := goodIn_r _ [10] (by decide +kernel) (by decide +kernel)
set_option maxRecDepth 20000 in
theorem gX8_takes_X8_in : GoodIn wsX8_takes (va_wsS RX8 57 yX8_in wsX8_in) := goodIn_app (goodIn_of _ (by decide +kernel)) ggX8_takes_X8_in
set_option maxRecDepth 20000 in
theorem ggX8_takes_X8_allThere : GoodIn wsX8_takes wsX8_allThere := goodIn_r _ [18, 1, 7, 19, 37, 38, 39, 40, 41, 42, 43, 44, 45, 46, 47, 48, 49, 50, 51, 52, 53, 54, 55, 56, 57, 58, 59, 60, 61, 62, 63] (by decide +kernel) (by decide +kernel)
set_option maxRecDepth 20000 in
theorem gX8_takes_X8_allThere : GoodIn wsX8_takes (wsV RX8 148 RX8 yX8_allThere wsX8_allThere) := goodIn_app (goodIn_of _ (by decide +kernel)) ggX8_takes_X8_allThere
set_option maxRecDepth 20000 in
theorem ggX8_takes_X8_code : GoodIn wsX8_takes wsX8_code := goodIn_r _ [23, 24, 25, 26, 27, 5, 28, 7, 29, 30, 31, 32, 19, 1, 33, 34, 35, 36, 37, 38, 39, 40, 41, 42, 43, 44, 45, 46, 47, 48, 49, 50, 51, 52, 53, 54, 55, 56, 57, 58, 59, 60, 61, 62, 63] (by decide +kernel) (by decide +kernel)
set_option maxRecDepth 20000 in
theorem gX8_takes_X8_code : GoodIn wsX8_takes (wsV RX8 151 RX8 yX8_code wsX8_code) := goodIn_app (goodIn_of _ (by decide +kernel)) ggX8_takes_X8_code
theorem dX8_takes_0 : decode cX8_takes 0 = .ok (.aload_n 0, 1) := by decide +kernel
theorem dX8_takes_1 : decode cX8_takes 1 = .ok (.iload_n 1, 1) := by decide +kernel
theorem dX8_takes_2 : decode cX8_takes 2 = .ok (.invokevirtual 122, 3) := by decide +kernel
theorem dX8_takes_5 : decode cX8_takes 5 = .ok (.ifCond .eq 10, 3) := by decide +kernel
theorem dX8_takes_8 : decode cX8_takes 8 = .ok (.iload_n 2, 1) := by decide +kernel
theorem dX8_takes_9 : decode cX8_takes 9 = .ok (.invokestatic 142, 3) := by decide +kernel
theorem dX8_takes_12 : decode cX8_takes 12 = .ok (.ifCond .ne 6, 3) := by decide +kernel
theorem dX8_takes_15 : decode cX8_takes 15 = .ok (.bipush (-2), 2) := by decide +kernel
theorem dX8_takes_17 : decode cX8_takes 17 = .ok (.ireturn, 1) := by decide +kernel
theorem dX8_takes_18 : decode cX8_takes 18 = .ok (.iload_n 3, 1) := by decide +kernel
theorem dX8_takes_19 : decode cX8_takes 19 = .ok (.i2l, 1) := by decide +kernel
theorem dX8_takes_20 : decode cX8_takes 20 = .ok (.lconst 0, 1) := by decide +kernel
theorem dX8_takes_21 : decode cX8_takes 21 = .ok (.lconst 1, 1) := by decide +kernel
theorem dX8_takes_22 : decode cX8_takes 22 = .ok (.invokestatic 57, 3) := by decide +kernel
theorem dX8_takes_25 : decode cX8_takes 25 = .ok (.ifCond .ne 6, 3) := by decide +kernel
theorem dX8_takes_28 : decode cX8_takes 28 = .ok (.bipush (-3), 2) := by decide +kernel
theorem dX8_takes_30 : decode cX8_takes 30 = .ok (.ireturn, 1) := by decide +kernel
theorem dX8_takes_31 : decode cX8_takes 31 = .ok (.aload_n 0, 1) := by decide +kernel
theorem dX8_takes_32 : decode cX8_takes 32 = .ok (.invokevirtual 148, 3) := by decide +kernel
theorem dX8_takes_35 : decode cX8_takes 35 = .ok (.iconst 0, 1) := by decide +kernel
theorem dX8_takes_36 : decode cX8_takes 36 = .ok (.istore 4, 2) := by decide +kernel
theorem dX8_takes_38 : decode cX8_takes 38 = .ok (.iconst 0, 1) := by decide +kernel
theorem dX8_takes_39 : decode cX8_takes 39 = .ok (.istore 5, 2) := by decide +kernel
theorem dX8_takes_41 : decode cX8_takes 41 = .ok (.iload 5, 2) := by decide +kernel
theorem dX8_takes_43 : decode cX8_takes 43 = .ok (.sipush 240, 3) := by decide +kernel
theorem dX8_takes_46 : decode cX8_takes 46 = .ok (.if_icmp .ge 94, 3) := by decide +kernel
theorem dX8_takes_49 : decode cX8_takes 49 = .ok (.aload_n 0, 1) := by decide +kernel
theorem dX8_takes_50 : decode cX8_takes 50 = .ok (.iconst 0, 1) := by decide +kernel
theorem dX8_takes_51 : decode cX8_takes 51 = .ok (.putfield 130, 3) := by decide +kernel
theorem dX8_takes_54 : decode cX8_takes 54 = .ok (.aload_n 0, 1) := by decide +kernel
theorem dX8_takes_55 : decode cX8_takes 55 = .ok (.iload_n 2, 1) := by decide +kernel
theorem dX8_takes_56 : decode cX8_takes 56 = .ok (.iload 5, 2) := by decide +kernel
theorem dX8_takes_58 : decode cX8_takes 58 = .ok (.invokevirtual 151, 3) := by decide +kernel
theorem dX8_takes_61 : decode cX8_takes 61 = .ok (.ifCond .le 7, 3) := by decide +kernel
theorem dX8_takes_64 : decode cX8_takes 64 = .ok (.iconst 1, 1) := by decide +kernel
theorem dX8_takes_65 : decode cX8_takes 65 = .ok (.goto 4, 3) := by decide +kernel
theorem dX8_takes_68 : decode cX8_takes 68 = .ok (.iconst 0, 1) := by decide +kernel
theorem dX8_takes_69 : decode cX8_takes 69 = .ok (.istore 6, 2) := by decide +kernel
theorem dX8_takes_71 : decode cX8_takes 71 = .ok (.aload_n 0, 1) := by decide +kernel
theorem dX8_takes_72 : decode cX8_takes 72 = .ok (.iconst 1, 1) := by decide +kernel
theorem dX8_takes_73 : decode cX8_takes 73 = .ok (.iload_n 1, 1) := by decide +kernel
theorem dX8_takes_74 : decode cX8_takes 74 = .ok (.ishl, 1) := by decide +kernel
theorem dX8_takes_75 : decode cX8_takes 75 = .ok (.putfield 130, 3) := by decide +kernel
theorem dX8_takes_78 : decode cX8_takes 78 = .ok (.aload_n 0, 1) := by decide +kernel
theorem dX8_takes_79 : decode cX8_takes 79 = .ok (.iload_n 2, 1) := by decide +kernel
theorem dX8_takes_80 : decode cX8_takes 80 = .ok (.iload 5, 2) := by decide +kernel
theorem dX8_takes_82 : decode cX8_takes 82 = .ok (.invokevirtual 151, 3) := by decide +kernel
theorem dX8_takes_85 : decode cX8_takes 85 = .ok (.ifCond .le 7, 3) := by decide +kernel
theorem dX8_takes_88 : decode cX8_takes 88 = .ok (.iconst 1, 1) := by decide +kernel
theorem dX8_takes_89 : decode cX8_takes 89 = .ok (.goto 4, 3) := by decide +kernel
theorem dX8_takes_92 : decode cX8_takes 92 = .ok (.iconst 0, 1) := by decide +kernel
theorem dX8_takes_93 : decode cX8_takes 93 = .ok (.istore 7, 2) := by decide +kernel
theorem dX8_takes_95 : decode cX8_takes 95 = .ok (.iload 4, 2) := by decide +kernel
theorem dX8_takes_97 : decode cX8_takes 97 = .ok (.iload 6, 2) := by decide +kernel
theorem dX8_takes_99 : decode cX8_takes 99 = .ok (.iload_n 3, 1) := by decide +kernel
theorem dX8_takes_100 : decode cX8_takes 100 = .ok (.ifCond .ne 7, 3) := by decide +kernel
theorem dX8_takes_103 : decode cX8_takes 103 = .ok (.iconst 1, 1) := by decide +kernel
theorem dX8_takes_104 : decode cX8_takes 104 = .ok (.goto 4, 3) := by decide +kernel
theorem dX8_takes_107 : decode cX8_takes 107 = .ok (.iconst 0, 1) := by decide +kernel
theorem dX8_takes_108 : decode cX8_takes 108 = .ok (.if_icmp .ne 22, 3) := by decide +kernel
theorem dX8_takes_111 : decode cX8_takes 111 = .ok (.iload 7, 2) := by decide +kernel
theorem dX8_takes_113 : decode cX8_takes 113 = .ok (.iload_n 3, 1) := by decide +kernel
theorem dX8_takes_114 : decode cX8_takes 114 = .ok (.iconst 1, 1) := by decide +kernel
theorem dX8_takes_115 : decode cX8_takes 115 = .ok (.if_icmp .ne 7, 3) := by decide +kernel
theorem dX8_takes_118 : decode cX8_takes 118 = .ok (.iconst 1, 1) := by decide +kernel
theorem dX8_takes_119 : decode cX8_takes 119 = .ok (.goto 4, 3) := by decide +kernel
theorem dX8_takes_122 : decode cX8_takes 122 = .ok (.iconst 0, 1) := by decide +kernel
theorem dX8_takes_123 : decode cX8_takes 123 = .ok (.if_icmp .ne 7, 3) := by decide +kernel
theorem dX8_takes_126 : decode cX8_takes 126 = .ok (.iconst 1, 1) := by decide +kernel
theorem dX8_takes_127 : decode cX8_takes 127 = .ok (.goto 4, 3) := by decide +kernel
theorem dX8_takes_130 : decode cX8_takes 130 = .ok (.iconst 0, 1) := by decide +kernel
theorem dX8_takes_131 : decode cX8_takes 131 = .ok (.iadd, 1) := by decide +kernel
theorem dX8_takes_132 : decode cX8_takes 132 = .ok (.istore 4, 2) := by decide +kernel
theorem dX8_takes_134 : decode cX8_takes 134 = .ok (.iinc 5 1, 3) := by decide +kernel
theorem dX8_takes_137 : decode cX8_takes 137 = .ok (.goto (-96), 3) := by decide +kernel
theorem dX8_takes_140 : decode cX8_takes 140 = .ok (.iload 4, 2) := by decide +kernel
theorem dX8_takes_142 : decode cX8_takes 142 = .ok (.ireturn, 1) := by decide +kernel
set_option maxRecDepth 20000 in
theorem ggX8_isIdle_X8_code : GoodIn wsX8_isIdle wsX8_code := goodIn_r _ [6, 7, 8, 9, 10, 5, 11, 12, 13, 14, 15, 16, 17, 1, 18, 19, 20, 21, 22, 23, 24, 25, 26, 27, 28, 29, 30, 31, 32, 33, 34, 35, 36, 37, 38, 39, 40, 41, 42, 43, 44, 45, 46, 47, 48] (by decide +kernel) (by decide +kernel)
set_option maxRecDepth 20000 in
theorem gX8_isIdle_X8_code : GoodIn wsX8_isIdle (wsV RX8 151 RX8 yX8_code wsX8_code) := goodIn_app (goodIn_of _ (by decide +kernel)) ggX8_isIdle_X8_code
theorem dX8_isIdle_0 : decode cX8_isIdle 0 = .ok (.iconst 0, 1) := by decide +kernel
theorem dX8_isIdle_1 : decode cX8_isIdle 1 = .ok (.istore_n 2, 1) := by decide +kernel
theorem dX8_isIdle_2 : decode cX8_isIdle 2 = .ok (.iload_n 2, 1) := by decide +kernel
theorem dX8_isIdle_3 : decode cX8_isIdle 3 = .ok (.sipush 1440, 3) := by decide +kernel
theorem dX8_isIdle_6 : decode cX8_isIdle 6 = .ok (.if_icmp .ge 56, 3) := by decide +kernel
theorem dX8_isIdle_9 : decode cX8_isIdle 9 = .ok (.aload_n 0, 1) := by decide +kernel
theorem dX8_isIdle_10 : decode cX8_isIdle 10 = .ok (.iconst 0, 1) := by decide +kernel
theorem dX8_isIdle_11 : decode cX8_isIdle 11 = .ok (.putfield 130, 3) := by decide +kernel
theorem dX8_isIdle_14 : decode cX8_isIdle 14 = .ok (.aload_n 0, 1) := by decide +kernel
theorem dX8_isIdle_15 : decode cX8_isIdle 15 = .ok (.iload_n 2, 1) := by decide +kernel
theorem dX8_isIdle_16 : decode cX8_isIdle 16 = .ok (.sipush 240, 3) := by decide +kernel
theorem dX8_isIdle_19 : decode cX8_isIdle 19 = .ok (.idiv, 1) := by decide +kernel
theorem dX8_isIdle_20 : decode cX8_isIdle 20 = .ok (.iload_n 2, 1) := by decide +kernel
theorem dX8_isIdle_21 : decode cX8_isIdle 21 = .ok (.sipush 240, 3) := by decide +kernel
theorem dX8_isIdle_24 : decode cX8_isIdle 24 = .ok (.irem, 1) := by decide +kernel
theorem dX8_isIdle_25 : decode cX8_isIdle 25 = .ok (.invokevirtual 151, 3) := by decide +kernel
theorem dX8_isIdle_28 : decode cX8_isIdle 28 = .ok (.istore_n 3, 1) := by decide +kernel
theorem dX8_isIdle_29 : decode cX8_isIdle 29 = .ok (.aload_n 0, 1) := by decide +kernel
theorem dX8_isIdle_30 : decode cX8_isIdle 30 = .ok (.iconst 1, 1) := by decide +kernel
theorem dX8_isIdle_31 : decode cX8_isIdle 31 = .ok (.iload_n 1, 1) := by decide +kernel
theorem dX8_isIdle_32 : decode cX8_isIdle 32 = .ok (.ishl, 1) := by decide +kernel
theorem dX8_isIdle_33 : decode cX8_isIdle 33 = .ok (.putfield 130, 3) := by decide +kernel
theorem dX8_isIdle_36 : decode cX8_isIdle 36 = .ok (.aload_n 0, 1) := by decide +kernel
theorem dX8_isIdle_37 : decode cX8_isIdle 37 = .ok (.iload_n 2, 1) := by decide +kernel
theorem dX8_isIdle_38 : decode cX8_isIdle 38 = .ok (.sipush 240, 3) := by decide +kernel
theorem dX8_isIdle_41 : decode cX8_isIdle 41 = .ok (.idiv, 1) := by decide +kernel
theorem dX8_isIdle_42 : decode cX8_isIdle 42 = .ok (.iload_n 2, 1) := by decide +kernel
theorem dX8_isIdle_43 : decode cX8_isIdle 43 = .ok (.sipush 240, 3) := by decide +kernel
theorem dX8_isIdle_46 : decode cX8_isIdle 46 = .ok (.irem, 1) := by decide +kernel
theorem dX8_isIdle_47 : decode cX8_isIdle 47 = .ok (.invokevirtual 151, 3) := by decide +kernel
theorem dX8_isIdle_50 : decode cX8_isIdle 50 = .ok (.iload_n 3, 1) := by decide +kernel
theorem dX8_isIdle_51 : decode cX8_isIdle 51 = .ok (.if_icmp .eq 5, 3) := by decide +kernel
theorem dX8_isIdle_54 : decode cX8_isIdle 54 = .ok (.iconst 0, 1) := by decide +kernel
theorem dX8_isIdle_55 : decode cX8_isIdle 55 = .ok (.ireturn, 1) := by decide +kernel
theorem dX8_isIdle_56 : decode cX8_isIdle 56 = .ok (.iinc 2 1, 3) := by decide +kernel
theorem dX8_isIdle_59 : decode cX8_isIdle 59 = .ok (.goto (-57), 3) := by decide +kernel
theorem dX8_isIdle_62 : decode cX8_isIdle 62 = .ok (.iconst 1, 1) := by decide +kernel
theorem dX8_isIdle_63 : decode cX8_isIdle 63 = .ok (.ireturn, 1) := by decide +kernel
set_option maxRecDepth 20000 in
theorem ggX8_idle_X8_allThere : GoodIn wsX8_idle wsX8_allThere := goodIn_r _ [6, 7, 1, 8, 30, 31, 32, 33, 34, 35, 36, 37, 38, 39, 40, 41, 42, 43, 44, 45, 46, 47, 48, 49, 50, 51, 52, 53, 54, 55, 56] (by decide +kernel) (by decide +kernel)
set_option maxRecDepth 20000 in
theorem gX8_idle_X8_allThere : GoodIn wsX8_idle (wsV RX8 148 RX8 yX8_allThere wsX8_allThere) := goodIn_app (goodIn_of _ (by decide +kernel)) ggX8_idle_X8_allThere
set_option maxRecDepth 20000 in
theorem ggX8_idle_X8_isIdle : GoodIn wsX8_idle wsX8_isIdle := goodIn_r _ [12, 7, 13, 14, 15, 5, 16, 17, 18, 19, 20, 21, 1, 22, 23, 24, 25, 8, 26, 27, 28, 29, 30, 31, 32, 33, 34, 35, 36, 37, 38, 39, 40, 41, 42, 43, 44, 45, 46, 47, 48, 49, 50, 51, 52, 53, 54, 55, 56] (by decide +kernel) (by decide +kernel)
set_option maxRecDepth 20000 in
theorem gX8_idle_X8_isIdle : GoodIn wsX8_idle (wsV RX8 222 RX8 yX8_isIdle wsX8_isIdle) := goodIn_app (goodIn_of _ (by decide +kernel)) ggX8_idle_X8_isIdle
theorem dX8_idle_0 : decode cX8_idle 0 = .ok (.aload_n 0, 1) := by decide +kernel
theorem dX8_idle_1 : decode cX8_idle 1 = .ok (.invokevirtual 148, 3) := by decide +kernel
theorem dX8_idle_4 : decode cX8_idle 4 = .ok (.iconst 0, 1) := by decide +kernel
theorem dX8_idle_5 : decode cX8_idle 5 = .ok (.istore_n 1, 1) := by decide +kernel
theorem dX8_idle_6 : decode cX8_idle 6 = .ok (.iconst 0, 1) := by decide +kernel
theorem dX8_idle_7 : decode cX8_idle 7 = .ok (.istore_n 2, 1) := by decide +kernel
theorem dX8_idle_8 : decode cX8_idle 8 = .ok (.iload_n 2, 1) := by decide +kernel
theorem dX8_idle_9 : decode cX8_idle 9 = .ok (.aload_n 0, 1) := by decide +kernel
theorem dX8_idle_10 : decode cX8_idle 10 = .ok (.getfield 119, 3) := by decide +kernel
theorem dX8_idle_13 : decode cX8_idle 13 = .ok (.if_icmp .ge 27, 3) := by decide +kernel
theorem dX8_idle_16 : decode cX8_idle 16 = .ok (.iload_n 1, 1) := by decide +kernel
theorem dX8_idle_17 : decode cX8_idle 17 = .ok (.aload_n 0, 1) := by decide +kernel
theorem dX8_idle_18 : decode cX8_idle 18 = .ok (.iload_n 2, 1) := by decide +kernel
theorem dX8_idle_19 : decode cX8_idle 19 = .ok (.invokevirtual 222, 3) := by decide +kernel
theorem dX8_idle_22 : decode cX8_idle 22 = .ok (.ifCond .eq 9, 3) := by decide +kernel
theorem dX8_idle_25 : decode cX8_idle 25 = .ok (.iconst 1, 1) := by decide +kernel
theorem dX8_idle_26 : decode cX8_idle 26 = .ok (.iload_n 2, 1) := by decide +kernel
theorem dX8_idle_27 : decode cX8_idle 27 = .ok (.ishl, 1) := by decide +kernel
theorem dX8_idle_28 : decode cX8_idle 28 = .ok (.goto 4, 3) := by decide +kernel
theorem dX8_idle_31 : decode cX8_idle 31 = .ok (.iconst 0, 1) := by decide +kernel
theorem dX8_idle_32 : decode cX8_idle 32 = .ok (.ior, 1) := by decide +kernel
theorem dX8_idle_33 : decode cX8_idle 33 = .ok (.istore_n 1, 1) := by decide +kernel
theorem dX8_idle_34 : decode cX8_idle 34 = .ok (.iinc 2 1, 3) := by decide +kernel
theorem dX8_idle_37 : decode cX8_idle 37 = .ok (.goto (-29), 3) := by decide +kernel
theorem dX8_idle_40 : decode cX8_idle 40 = .ok (.iload_n 1, 1) := by decide +kernel
theorem dX8_idle_41 : decode cX8_idle 41 = .ok (.ireturn, 1) := by decide +kernel
set_option maxRecDepth 20000 in
theorem ggX8_seize_X8_isGuild : GoodIn wsX8_seize wsX8_isGuild := goodIn_r _ [9, 10, 11, 12, 8, 13] (by decide +kernel) (by decide +kernel)
set_option maxRecDepth 20000 in
theorem gX8_seize_X8_isGuild : GoodIn wsX8_seize (va_wsS RX8 142 yX8_isGuild wsX8_isGuild) := goodIn_app (goodIn_of _ (by decide +kernel)) ggX8_seize_X8_isGuild
set_option maxRecDepth 20000 in
theorem ggX8_seize_X8_isWork : GoodIn wsX8_seize wsX8_isWork := goodIn_r _ [16, 17, 11, 12, 8, 13] (by decide +kernel) (by decide +kernel)
set_option maxRecDepth 20000 in
theorem gX8_seize_X8_isWork : GoodIn wsX8_seize (va_wsS RX8 145 yX8_isWork wsX8_isWork) := goodIn_app (goodIn_of _ (by decide +kernel)) ggX8_seize_X8_isWork
set_option maxRecDepth 20000 in
theorem ggX8_seize_X8_in : GoodIn wsX8_seize wsX8_in := goodIn_r _ [13] (by decide +kernel) (by decide +kernel)
set_option maxRecDepth 20000 in
theorem gX8_seize_X8_in : GoodIn wsX8_seize (va_wsS RX8 57 yX8_in wsX8_in) := goodIn_app (goodIn_of _ (by decide +kernel)) ggX8_seize_X8_in
theorem dX8_seize_0 : decode cX8_seize 0 = .ok (.iload_n 1, 1) := by decide +kernel
theorem dX8_seize_1 : decode cX8_seize 1 = .ok (.invokestatic 142, 3) := by decide +kernel
theorem dX8_seize_4 : decode cX8_seize 4 = .ok (.ifCond .eq 10, 3) := by decide +kernel
theorem dX8_seize_7 : decode cX8_seize 7 = .ok (.iload_n 2, 1) := by decide +kernel
theorem dX8_seize_8 : decode cX8_seize 8 = .ok (.invokestatic 145, 3) := by decide +kernel
theorem dX8_seize_11 : decode cX8_seize 11 = .ok (.ifCond .ne 6, 3) := by decide +kernel
theorem dX8_seize_14 : decode cX8_seize 14 = .ok (.bipush (-2), 2) := by decide +kernel
theorem dX8_seize_16 : decode cX8_seize 16 = .ok (.ireturn, 1) := by decide +kernel
theorem dX8_seize_17 : decode cX8_seize 17 = .ok (.iload_n 3, 1) := by decide +kernel
theorem dX8_seize_18 : decode cX8_seize 18 = .ok (.i2l, 1) := by decide +kernel
theorem dX8_seize_19 : decode cX8_seize 19 = .ok (.lconst 0, 1) := by decide +kernel
theorem dX8_seize_20 : decode cX8_seize 20 = .ok (.aload_n 0, 1) := by decide +kernel
theorem dX8_seize_21 : decode cX8_seize 21 = .ok (.getfield 119, 3) := by decide +kernel
theorem dX8_seize_24 : decode cX8_seize 24 = .ok (.i2l, 1) := by decide +kernel
theorem dX8_seize_25 : decode cX8_seize 25 = .ok (.invokestatic 57, 3) := by decide +kernel
theorem dX8_seize_28 : decode cX8_seize 28 = .ok (.ifCond .ne 6, 3) := by decide +kernel
theorem dX8_seize_31 : decode cX8_seize 31 = .ok (.bipush (-3), 2) := by decide +kernel
theorem dX8_seize_33 : decode cX8_seize 33 = .ok (.ireturn, 1) := by decide +kernel
theorem dX8_seize_34 : decode cX8_seize 34 = .ok (.aload_n 0, 1) := by decide +kernel
theorem dX8_seize_35 : decode cX8_seize 35 = .ok (.getfield 225, 3) := by decide +kernel
theorem dX8_seize_38 : decode cX8_seize 38 = .ok (.bipush 16, 2) := by decide +kernel
theorem dX8_seize_40 : decode cX8_seize 40 = .ok (.if_icmp .ne 6, 3) := by decide +kernel
theorem dX8_seize_43 : decode cX8_seize 43 = .ok (.bipush (-5), 2) := by decide +kernel
theorem dX8_seize_45 : decode cX8_seize 45 = .ok (.ireturn, 1) := by decide +kernel
theorem dX8_seize_46 : decode cX8_seize 46 = .ok (.aload_n 0, 1) := by decide +kernel
theorem dX8_seize_47 : decode cX8_seize 47 = .ok (.getfield 40, 3) := by decide +kernel
theorem dX8_seize_50 : decode cX8_seize 50 = .ok (.aload_n 0, 1) := by decide +kernel
theorem dX8_seize_51 : decode cX8_seize 51 = .ok (.getfield 225, 3) := by decide +kernel
theorem dX8_seize_54 : decode cX8_seize 54 = .ok (.iload_n 1, 1) := by decide +kernel
theorem dX8_seize_55 : decode cX8_seize 55 = .ok (.iastore, 1) := by decide +kernel
theorem dX8_seize_56 : decode cX8_seize 56 = .ok (.aload_n 0, 1) := by decide +kernel
theorem dX8_seize_57 : decode cX8_seize 57 = .ok (.getfield 37, 3) := by decide +kernel
theorem dX8_seize_60 : decode cX8_seize 60 = .ok (.aload_n 0, 1) := by decide +kernel
theorem dX8_seize_61 : decode cX8_seize 61 = .ok (.getfield 225, 3) := by decide +kernel
theorem dX8_seize_64 : decode cX8_seize 64 = .ok (.iload_n 2, 1) := by decide +kernel
theorem dX8_seize_65 : decode cX8_seize 65 = .ok (.iastore, 1) := by decide +kernel
theorem dX8_seize_66 : decode cX8_seize 66 = .ok (.aload_n 0, 1) := by decide +kernel
theorem dX8_seize_67 : decode cX8_seize 67 = .ok (.getfield 34, 3) := by decide +kernel
theorem dX8_seize_70 : decode cX8_seize 70 = .ok (.aload_n 0, 1) := by decide +kernel
theorem dX8_seize_71 : decode cX8_seize 71 = .ok (.getfield 225, 3) := by decide +kernel
theorem dX8_seize_74 : decode cX8_seize 74 = .ok (.iload_n 3, 1) := by decide +kernel
theorem dX8_seize_75 : decode cX8_seize 75 = .ok (.iastore, 1) := by decide +kernel
theorem dX8_seize_76 : decode cX8_seize 76 = .ok (.aload_n 0, 1) := by decide +kernel
theorem dX8_seize_77 : decode cX8_seize 77 = .ok (.dup, 1) := by decide +kernel
theorem dX8_seize_78 : decode cX8_seize 78 = .ok (.getfield 225, 3) := by decide +kernel
theorem dX8_seize_81 : decode cX8_seize 81 = .ok (.iconst 1, 1) := by decide +kernel
theorem dX8_seize_82 : decode cX8_seize 82 = .ok (.iadd, 1) := by decide +kernel
theorem dX8_seize_83 : decode cX8_seize 83 = .ok (.putfield 225, 3) := by decide +kernel
theorem dX8_seize_86 : decode cX8_seize 86 = .ok (.aload_n 0, 1) := by decide +kernel
theorem dX8_seize_87 : decode cX8_seize 87 = .ok (.getfield 225, 3) := by decide +kernel
theorem dX8_seize_90 : decode cX8_seize 90 = .ok (.ireturn, 1) := by decide +kernel
set_option maxRecDepth 20000 in
theorem ggX8_isRight_X8_code : GoodIn wsX8_isRight wsX8_code := goodIn_r _ [10, 11, 12, 13, 14, 9, 15, 16, 17, 18, 19, 20, 3, 1, 21, 22, 23, 24, 25, 26, 27, 28, 29, 30, 31, 32, 33, 34, 35, 36, 37, 38, 39, 40, 41, 42, 43, 44, 45, 46, 47, 48, 49, 50, 51] (by decide +kernel) (by decide +kernel)
set_option maxRecDepth 20000 in
theorem gX8_isRight_X8_code : GoodIn wsX8_isRight (wsV RX8 151 RX8 yX8_code wsX8_code) := goodIn_app (goodIn_of _ (by decide +kernel)) ggX8_isRight_X8_code
theorem dX8_isRight_0 : decode cX8_isRight 0 = .ok (.aload_n 0, 1) := by decide +kernel
theorem dX8_isRight_1 : decode cX8_isRight 1 = .ok (.iconst 0, 1) := by decide +kernel
theorem dX8_isRight_2 : decode cX8_isRight 2 = .ok (.putfield 130, 3) := by decide +kernel
theorem dX8_isRight_5 : decode cX8_isRight 5 = .ok (.aload_n 0, 1) := by decide +kernel
theorem dX8_isRight_6 : decode cX8_isRight 6 = .ok (.aload_n 0, 1) := by decide +kernel
theorem dX8_isRight_7 : decode cX8_isRight 7 = .ok (.getfield 34, 3) := by decide +kernel
theorem dX8_isRight_10 : decode cX8_isRight 10 = .ok (.iload_n 1, 1) := by decide +kernel
theorem dX8_isRight_11 : decode cX8_isRight 11 = .ok (.iaload, 1) := by decide +kernel
theorem dX8_isRight_12 : decode cX8_isRight 12 = .ok (.putfield 127, 3) := by decide +kernel
theorem dX8_isRight_15 : decode cX8_isRight 15 = .ok (.aload_n 0, 1) := by decide +kernel
theorem dX8_isRight_16 : decode cX8_isRight 16 = .ok (.aload_n 0, 1) := by decide +kernel
theorem dX8_isRight_17 : decode cX8_isRight 17 = .ok (.getfield 40, 3) := by decide +kernel
theorem dX8_isRight_20 : decode cX8_isRight 20 = .ok (.iload_n 1, 1) := by decide +kernel
theorem dX8_isRight_21 : decode cX8_isRight 21 = .ok (.iaload, 1) := by decide +kernel
theorem dX8_isRight_22 : decode cX8_isRight 22 = .ok (.aload_n 0, 1) := by decide +kernel
theorem dX8_isRight_23 : decode cX8_isRight 23 = .ok (.getfield 37, 3) := by decide +kernel
theorem dX8_isRight_26 : decode cX8_isRight 26 = .ok (.iload_n 1, 1) := by decide +kernel
theorem dX8_isRight_27 : decode cX8_isRight 27 = .ok (.iaload, 1) := by decide +kernel
theorem dX8_isRight_28 : decode cX8_isRight 28 = .ok (.invokevirtual 151, 3) := by decide +kernel
theorem dX8_isRight_31 : decode cX8_isRight 31 = .ok (.ifCond .ne 7, 3) := by decide +kernel
theorem dX8_isRight_34 : decode cX8_isRight 34 = .ok (.iconst 1, 1) := by decide +kernel
theorem dX8_isRight_35 : decode cX8_isRight 35 = .ok (.goto 4, 3) := by decide +kernel
theorem dX8_isRight_38 : decode cX8_isRight 38 = .ok (.iconst 0, 1) := by decide +kernel
theorem dX8_isRight_39 : decode cX8_isRight 39 = .ok (.ireturn, 1) := by decide +kernel
set_option maxRecDepth 20000 in
theorem ggX8_right_X8_in : GoodIn wsX8_right wsX8_in := goodIn_r _ [6] (by decide +kernel) (by decide +kernel)
set_option maxRecDepth 20000 in
theorem gX8_right_X8_in : GoodIn wsX8_right (va_wsS RX8 57 yX8_in wsX8_in) := goodIn_app (goodIn_of _ (by decide +kernel)) ggX8_right_X8_in
set_option maxRecDepth 20000 in
theorem ggX8_right_X8_isRight : GoodIn wsX8_right wsX8_isRight := goodIn_r _ [10, 11, 12, 13, 14, 15, 16, 17, 18, 5, 19, 20, 21, 22, 23, 24, 25, 26, 27, 28, 29, 30, 31, 32, 33, 34, 35, 36, 37, 38, 39, 40, 41, 42, 43, 44, 45, 46, 47, 48, 49, 50, 51, 52, 53, 54, 55, 56, 57, 58, 59, 60] (by decide +kernel) (by decide +kernel)
set_option maxRecDepth 20000 in
theorem gX8_right_X8_isRight : GoodIn wsX8_right (wsV RX8 230 RX8 yX8_isRight wsX8_isRight) := goodIn_app (goodIn_of _ (by decide +kernel)) ggX8_right_X8_isRight
theorem dX8_right_0 : decode cX8_right 0 = .ok (.iload_n 1, 1) := by decide +kernel
theorem dX8_right_1 : decode cX8_right 1 = .ok (.i2l, 1) := by decide +kernel
theorem dX8_right_2 : decode cX8_right 2 = .ok (.ldc2_w 228, 3) := by decide +kernel
theorem dX8_right_5 : decode cX8_right 5 = .ok (.aload_n 0, 1) := by decide +kernel
theorem dX8_right_6 : decode cX8_right 6 = .ok (.getfield 225, 3) := by decide +kernel
theorem dX8_right_9 : decode cX8_right 9 = .ok (.iconst 1, 1) := by decide +kernel
theorem dX8_right_10 : decode cX8_right 10 = .ok (.isub, 1) := by decide +kernel
theorem dX8_right_11 : decode cX8_right 11 = .ok (.i2l, 1) := by decide +kernel
theorem dX8_right_12 : decode cX8_right 12 = .ok (.invokestatic 57, 3) := by decide +kernel
theorem dX8_right_15 : decode cX8_right 15 = .ok (.ifCond .ne 6, 3) := by decide +kernel
theorem dX8_right_18 : decode cX8_right 18 = .ok (.bipush (-2), 2) := by decide +kernel
theorem dX8_right_20 : decode cX8_right 20 = .ok (.ireturn, 1) := by decide +kernel
theorem dX8_right_21 : decode cX8_right 21 = .ok (.iload_n 1, 1) := by decide +kernel
theorem dX8_right_22 : decode cX8_right 22 = .ok (.ifCond .lt 17, 3) := by decide +kernel
theorem dX8_right_25 : decode cX8_right 25 = .ok (.aload_n 0, 1) := by decide +kernel
theorem dX8_right_26 : decode cX8_right 26 = .ok (.iload_n 1, 1) := by decide +kernel
theorem dX8_right_27 : decode cX8_right 27 = .ok (.invokevirtual 230, 3) := by decide +kernel
theorem dX8_right_30 : decode cX8_right 30 = .ok (.ifCond .eq 7, 3) := by decide +kernel
theorem dX8_right_33 : decode cX8_right 33 = .ok (.iconst 1, 1) := by decide +kernel
theorem dX8_right_34 : decode cX8_right 34 = .ok (.goto 4, 3) := by decide +kernel
theorem dX8_right_37 : decode cX8_right 37 = .ok (.iconst 0, 1) := by decide +kernel
theorem dX8_right_38 : decode cX8_right 38 = .ok (.ireturn, 1) := by decide +kernel
theorem dX8_right_39 : decode cX8_right 39 = .ok (.iconst 0, 1) := by decide +kernel
theorem dX8_right_40 : decode cX8_right 40 = .ok (.istore_n 2, 1) := by decide +kernel
theorem dX8_right_41 : decode cX8_right 41 = .ok (.iload_n 2, 1) := by decide +kernel
theorem dX8_right_42 : decode cX8_right 42 = .ok (.aload_n 0, 1) := by decide +kernel
theorem dX8_right_43 : decode cX8_right 43 = .ok (.getfield 225, 3) := by decide +kernel
theorem dX8_right_46 : decode cX8_right 46 = .ok (.if_icmp .ge 19, 3) := by decide +kernel
theorem dX8_right_49 : decode cX8_right 49 = .ok (.aload_n 0, 1) := by decide +kernel
theorem dX8_right_50 : decode cX8_right 50 = .ok (.iload_n 2, 1) := by decide +kernel
theorem dX8_right_51 : decode cX8_right 51 = .ok (.invokevirtual 230, 3) := by decide +kernel
theorem dX8_right_54 : decode cX8_right 54 = .ok (.ifCond .ne 5, 3) := by decide +kernel
theorem dX8_right_57 : decode cX8_right 57 = .ok (.iload_n 2, 1) := by decide +kernel
theorem dX8_right_58 : decode cX8_right 58 = .ok (.ireturn, 1) := by decide +kernel
theorem dX8_right_59 : decode cX8_right 59 = .ok (.iinc 2 1, 3) := by decide +kernel
theorem dX8_right_62 : decode cX8_right 62 = .ok (.goto (-21), 3) := by decide +kernel
theorem dX8_right_65 : decode cX8_right 65 = .ok (.iconst (-1), 1) := by decide +kernel
theorem dX8_right_66 : decode cX8_right 66 = .ok (.ireturn, 1) := by decide +kernel
set_option maxRecDepth 20000 in
theorem ggX8_year_X8_isWork : GoodIn wsX8_year wsX8_isWork := goodIn_r _ [6, 7, 8, 9, 5, 10] (by decide +kernel) (by decide +kernel)
set_option maxRecDepth 20000 in
theorem gX8_year_X8_isWork : GoodIn wsX8_year (va_wsS RX8 145 yX8_isWork wsX8_isWork) := goodIn_app (goodIn_of _ (by decide +kernel)) ggX8_year_X8_isWork
theorem dX8_year_0 : decode cX8_year 0 = .ok (.iload_n 1, 1) := by decide +kernel
theorem dX8_year_1 : decode cX8_year 1 = .ok (.invokestatic 145, 3) := by decide +kernel
theorem dX8_year_4 : decode cX8_year 4 = .ok (.ifCond .ne 6, 3) := by decide +kernel
theorem dX8_year_7 : decode cX8_year 7 = .ok (.bipush (-2), 2) := by decide +kernel
theorem dX8_year_9 : decode cX8_year 9 = .ok (.ireturn, 1) := by decide +kernel
theorem dX8_year_10 : decode cX8_year 10 = .ok (.aload_n 0, 1) := by decide +kernel
theorem dX8_year_11 : decode cX8_year 11 = .ok (.getfield 233, 3) := by decide +kernel
theorem dX8_year_14 : decode cX8_year 14 = .ok (.bipush 24, 2) := by decide +kernel
theorem dX8_year_16 : decode cX8_year 16 = .ok (.if_icmp .ne 6, 3) := by decide +kernel
theorem dX8_year_19 : decode cX8_year 19 = .ok (.bipush (-5), 2) := by decide +kernel
theorem dX8_year_21 : decode cX8_year 21 = .ok (.ireturn, 1) := by decide +kernel
theorem dX8_year_22 : decode cX8_year 22 = .ok (.aload_n 0, 1) := by decide +kernel
theorem dX8_year_23 : decode cX8_year 23 = .ok (.getfield 43, 3) := by decide +kernel
theorem dX8_year_26 : decode cX8_year 26 = .ok (.aload_n 0, 1) := by decide +kernel
theorem dX8_year_27 : decode cX8_year 27 = .ok (.getfield 233, 3) := by decide +kernel
theorem dX8_year_30 : decode cX8_year 30 = .ok (.iload_n 1, 1) := by decide +kernel
theorem dX8_year_31 : decode cX8_year 31 = .ok (.iastore, 1) := by decide +kernel
theorem dX8_year_32 : decode cX8_year 32 = .ok (.aload_n 0, 1) := by decide +kernel
theorem dX8_year_33 : decode cX8_year 33 = .ok (.dup, 1) := by decide +kernel
theorem dX8_year_34 : decode cX8_year 34 = .ok (.getfield 233, 3) := by decide +kernel
theorem dX8_year_37 : decode cX8_year 37 = .ok (.iconst 1, 1) := by decide +kernel
theorem dX8_year_38 : decode cX8_year 38 = .ok (.iadd, 1) := by decide +kernel
theorem dX8_year_39 : decode cX8_year 39 = .ok (.putfield 233, 3) := by decide +kernel
theorem dX8_year_42 : decode cX8_year 42 = .ok (.aload_n 0, 1) := by decide +kernel
theorem dX8_year_43 : decode cX8_year 43 = .ok (.getfield 233, 3) := by decide +kernel
theorem dX8_year_46 : decode cX8_year 46 = .ok (.ireturn, 1) := by decide +kernel
set_option maxRecDepth 20000 in
theorem ggX8_yearly_X8_isGuild : GoodIn wsX8_yearly wsX8_isGuild := goodIn_r _ [6, 7, 8, 9, 5, 10] (by decide +kernel) (by decide +kernel)
set_option maxRecDepth 20000 in
theorem gX8_yearly_X8_isGuild : GoodIn wsX8_yearly (va_wsS RX8 142 yX8_isGuild wsX8_isGuild) := goodIn_app (goodIn_of _ (by decide +kernel)) ggX8_yearly_X8_isGuild
set_option maxRecDepth 20000 in
theorem ggX8_yearly_X8_allThere : GoodIn wsX8_yearly wsX8_allThere := goodIn_r _ [14, 15, 16, 17, 35, 36, 37, 38, 39, 40, 41, 42, 43, 44, 45, 46, 47, 48, 49, 50, 51, 52, 53, 54, 55, 56, 57, 58, 59, 60, 61] (by decide +kernel) (by decide +kernel)
set_option maxRecDepth 20000 in
theorem gX8_yearly_X8_allThere : GoodIn wsX8_yearly (wsV RX8 148 RX8 yX8_allThere wsX8_allThere) := goodIn_app (goodIn_of _ (by decide +kernel)) ggX8_yearly_X8_allThere
set_option maxRecDepth 20000 in
theorem ggX8_yearly_X8_code : GoodIn wsX8_yearly wsX8_code := goodIn_r _ [21, 22, 23, 24, 25, 5, 26, 16, 27, 28, 29, 30, 17, 15, 31, 32, 33, 34, 35, 36, 37, 38, 39, 40, 41, 42, 43, 44, 45, 46, 47, 48, 49, 50, 51, 52, 53, 54, 55, 56, 57, 58, 59, 60, 61] (by decide +kernel) (by decide +kernel)
set_option maxRecDepth 20000 in
theorem gX8_yearly_X8_code : GoodIn wsX8_yearly (wsV RX8 151 RX8 yX8_code wsX8_code) := goodIn_app (goodIn_of _ (by decide +kernel)) ggX8_yearly_X8_code
theorem dX8_yearly_0 : decode cX8_yearly 0 = .ok (.iload_n 1, 1) := by decide +kernel
theorem dX8_yearly_1 : decode cX8_yearly 1 = .ok (.invokestatic 142, 3) := by decide +kernel
theorem dX8_yearly_4 : decode cX8_yearly 4 = .ok (.ifCond .ne 6, 3) := by decide +kernel
theorem dX8_yearly_7 : decode cX8_yearly 7 = .ok (.bipush (-2), 2) := by decide +kernel
theorem dX8_yearly_9 : decode cX8_yearly 9 = .ok (.ireturn, 1) := by decide +kernel
theorem dX8_yearly_10 : decode cX8_yearly 10 = .ok (.aload_n 0, 1) := by decide +kernel
theorem dX8_yearly_11 : decode cX8_yearly 11 = .ok (.invokevirtual 148, 3) := by decide +kernel
theorem dX8_yearly_14 : decode cX8_yearly 14 = .ok (.iconst 0, 1) := by decide +kernel
theorem dX8_yearly_15 : decode cX8_yearly 15 = .ok (.istore_n 2, 1) := by decide +kernel
theorem dX8_yearly_16 : decode cX8_yearly 16 = .ok (.iconst 0, 1) := by decide +kernel
theorem dX8_yearly_17 : decode cX8_yearly 17 = .ok (.istore_n 3, 1) := by decide +kernel
theorem dX8_yearly_18 : decode cX8_yearly 18 = .ok (.iload_n 3, 1) := by decide +kernel
theorem dX8_yearly_19 : decode cX8_yearly 19 = .ok (.aload_n 0, 1) := by decide +kernel
theorem dX8_yearly_20 : decode cX8_yearly 20 = .ok (.getfield 233, 3) := by decide +kernel
theorem dX8_yearly_23 : decode cX8_yearly 23 = .ok (.if_icmp .ge 31, 3) := by decide +kernel
theorem dX8_yearly_26 : decode cX8_yearly 26 = .ok (.iload_n 2, 1) := by decide +kernel
theorem dX8_yearly_27 : decode cX8_yearly 27 = .ok (.aload_n 0, 1) := by decide +kernel
theorem dX8_yearly_28 : decode cX8_yearly 28 = .ok (.iload_n 1, 1) := by decide +kernel
theorem dX8_yearly_29 : decode cX8_yearly 29 = .ok (.aload_n 0, 1) := by decide +kernel
theorem dX8_yearly_30 : decode cX8_yearly 30 = .ok (.getfield 43, 3) := by decide +kernel
theorem dX8_yearly_33 : decode cX8_yearly 33 = .ok (.iload_n 3, 1) := by decide +kernel
theorem dX8_yearly_34 : decode cX8_yearly 34 = .ok (.iaload, 1) := by decide +kernel
theorem dX8_yearly_35 : decode cX8_yearly 35 = .ok (.invokevirtual 151, 3) := by decide +kernel
theorem dX8_yearly_38 : decode cX8_yearly 38 = .ok (.ifCond .le 7, 3) := by decide +kernel
theorem dX8_yearly_41 : decode cX8_yearly 41 = .ok (.iconst 1, 1) := by decide +kernel
theorem dX8_yearly_42 : decode cX8_yearly 42 = .ok (.goto 4, 3) := by decide +kernel
theorem dX8_yearly_45 : decode cX8_yearly 45 = .ok (.iconst 0, 1) := by decide +kernel
theorem dX8_yearly_46 : decode cX8_yearly 46 = .ok (.iadd, 1) := by decide +kernel
theorem dX8_yearly_47 : decode cX8_yearly 47 = .ok (.istore_n 2, 1) := by decide +kernel
theorem dX8_yearly_48 : decode cX8_yearly 48 = .ok (.iinc 3 1, 3) := by decide +kernel
theorem dX8_yearly_51 : decode cX8_yearly 51 = .ok (.goto (-33), 3) := by decide +kernel
theorem dX8_yearly_54 : decode cX8_yearly 54 = .ok (.iload_n 2, 1) := by decide +kernel
theorem dX8_yearly_55 : decode cX8_yearly 55 = .ok (.ireturn, 1) := by decide +kernel
theorem dX8_count_0 : decode cX8_count 0 = .ok (.iload_n 1, 1) := by decide +kernel
theorem dX8_count_1 : decode cX8_count 1 = .ok (.tableswitch 84 0 9 #[55, 60, 65, 70, 75, 75, 75, 75, 75, 75], 55) := by decide +kernel
theorem dX8_count_56 : decode cX8_count 56 = .ok (.aload_n 0, 1) := by decide +kernel
theorem dX8_count_57 : decode cX8_count 57 = .ok (.getfield 119, 3) := by decide +kernel
theorem dX8_count_60 : decode cX8_count 60 = .ok (.ireturn, 1) := by decide +kernel
theorem dX8_count_61 : decode cX8_count 61 = .ok (.aload_n 0, 1) := by decide +kernel
theorem dX8_count_62 : decode cX8_count 62 = .ok (.getfield 65, 3) := by decide +kernel
theorem dX8_count_65 : decode cX8_count 65 = .ok (.ireturn, 1) := by decide +kernel
theorem dX8_count_66 : decode cX8_count 66 = .ok (.aload_n 0, 1) := by decide +kernel
theorem dX8_count_67 : decode cX8_count 67 = .ok (.getfield 225, 3) := by decide +kernel
theorem dX8_count_70 : decode cX8_count 70 = .ok (.ireturn, 1) := by decide +kernel
theorem dX8_count_71 : decode cX8_count 71 = .ok (.aload_n 0, 1) := by decide +kernel
theorem dX8_count_72 : decode cX8_count 72 = .ok (.getfield 233, 3) := by decide +kernel
theorem dX8_count_75 : decode cX8_count 75 = .ok (.ireturn, 1) := by decide +kernel
theorem dX8_count_76 : decode cX8_count 76 = .ok (.aload_n 0, 1) := by decide +kernel
theorem dX8_count_77 : decode cX8_count 77 = .ok (.getfield 25, 3) := by decide +kernel
theorem dX8_count_80 : decode cX8_count 80 = .ok (.iload_n 1, 1) := by decide +kernel
theorem dX8_count_81 : decode cX8_count 81 = .ok (.iconst 4, 1) := by decide +kernel
theorem dX8_count_82 : decode cX8_count 82 = .ok (.isub, 1) := by decide +kernel
theorem dX8_count_83 : decode cX8_count 83 = .ok (.iaload, 1) := by decide +kernel
theorem dX8_count_84 : decode cX8_count 84 = .ok (.ireturn, 1) := by decide +kernel
theorem dX8_count_85 : decode cX8_count 85 = .ok (.bipush (-3), 2) := by decide +kernel
theorem dX8_count_87 : decode cX8_count 87 = .ok (.ireturn, 1) := by decide +kernel
theorem dJ6_numberOfLeadingZeros_0f7a4_0 : decode cJ6_numberOfLeadingZeros_0f7a4 0 = .ok (.iload_n 0, 1) := by decide +kernel
theorem dJ6_numberOfLeadingZeros_0f7a4_1 : decode cJ6_numberOfLeadingZeros_0f7a4 1 = .ok (.ifCond .gt 14, 3) := by decide +kernel
theorem dJ6_numberOfLeadingZeros_0f7a4_4 : decode cJ6_numberOfLeadingZeros_0f7a4 4 = .ok (.iload_n 0, 1) := by decide +kernel
theorem dJ6_numberOfLeadingZeros_0f7a4_5 : decode cJ6_numberOfLeadingZeros_0f7a4 5 = .ok (.ifCond .ne 8, 3) := by decide +kernel
theorem dJ6_numberOfLeadingZeros_0f7a4_8 : decode cJ6_numberOfLeadingZeros_0f7a4 8 = .ok (.bipush 32, 2) := by decide +kernel
theorem dJ6_numberOfLeadingZeros_0f7a4_10 : decode cJ6_numberOfLeadingZeros_0f7a4 10 = .ok (.goto 4, 3) := by decide +kernel
theorem dJ6_numberOfLeadingZeros_0f7a4_13 : decode cJ6_numberOfLeadingZeros_0f7a4 13 = .ok (.iconst 0, 1) := by decide +kernel
theorem dJ6_numberOfLeadingZeros_0f7a4_14 : decode cJ6_numberOfLeadingZeros_0f7a4 14 = .ok (.ireturn, 1) := by decide +kernel
theorem dJ6_numberOfLeadingZeros_0f7a4_15 : decode cJ6_numberOfLeadingZeros_0f7a4 15 = .ok (.bipush 31, 2) := by decide +kernel
theorem dJ6_numberOfLeadingZeros_0f7a4_17 : decode cJ6_numberOfLeadingZeros_0f7a4 17 = .ok (.istore_n 1, 1) := by decide +kernel
theorem dJ6_numberOfLeadingZeros_0f7a4_18 : decode cJ6_numberOfLeadingZeros_0f7a4 18 = .ok (.iload_n 0, 1) := by decide +kernel
theorem dJ6_numberOfLeadingZeros_0f7a4_19 : decode cJ6_numberOfLeadingZeros_0f7a4 19 = .ok (.ldc_w 264, 3) := by decide +kernel
theorem dJ6_numberOfLeadingZeros_0f7a4_22 : decode cJ6_numberOfLeadingZeros_0f7a4 22 = .ok (.if_icmp .lt 11, 3) := by decide +kernel
theorem dJ6_numberOfLeadingZeros_0f7a4_25 : decode cJ6_numberOfLeadingZeros_0f7a4 25 = .ok (.iinc 1 (-16), 3) := by decide +kernel
theorem dJ6_numberOfLeadingZeros_0f7a4_28 : decode cJ6_numberOfLeadingZeros_0f7a4 28 = .ok (.iload_n 0, 1) := by decide +kernel
theorem dJ6_numberOfLeadingZeros_0f7a4_29 : decode cJ6_numberOfLeadingZeros_0f7a4 29 = .ok (.bipush 16, 2) := by decide +kernel
theorem dJ6_numberOfLeadingZeros_0f7a4_31 : decode cJ6_numberOfLeadingZeros_0f7a4 31 = .ok (.iushr, 1) := by decide +kernel
theorem dJ6_numberOfLeadingZeros_0f7a4_32 : decode cJ6_numberOfLeadingZeros_0f7a4 32 = .ok (.istore_n 0, 1) := by decide +kernel
theorem dJ6_numberOfLeadingZeros_0f7a4_33 : decode cJ6_numberOfLeadingZeros_0f7a4 33 = .ok (.iload_n 0, 1) := by decide +kernel
theorem dJ6_numberOfLeadingZeros_0f7a4_34 : decode cJ6_numberOfLeadingZeros_0f7a4 34 = .ok (.sipush 256, 3) := by decide +kernel
theorem dJ6_numberOfLeadingZeros_0f7a4_37 : decode cJ6_numberOfLeadingZeros_0f7a4 37 = .ok (.if_icmp .lt 11, 3) := by decide +kernel
theorem dJ6_numberOfLeadingZeros_0f7a4_40 : decode cJ6_numberOfLeadingZeros_0f7a4 40 = .ok (.iinc 1 (-8), 3) := by decide +kernel
theorem dJ6_numberOfLeadingZeros_0f7a4_43 : decode cJ6_numberOfLeadingZeros_0f7a4 43 = .ok (.iload_n 0, 1) := by decide +kernel
theorem dJ6_numberOfLeadingZeros_0f7a4_44 : decode cJ6_numberOfLeadingZeros_0f7a4 44 = .ok (.bipush 8, 2) := by decide +kernel
theorem dJ6_numberOfLeadingZeros_0f7a4_46 : decode cJ6_numberOfLeadingZeros_0f7a4 46 = .ok (.iushr, 1) := by decide +kernel
theorem dJ6_numberOfLeadingZeros_0f7a4_47 : decode cJ6_numberOfLeadingZeros_0f7a4 47 = .ok (.istore_n 0, 1) := by decide +kernel
theorem dJ6_numberOfLeadingZeros_0f7a4_48 : decode cJ6_numberOfLeadingZeros_0f7a4 48 = .ok (.iload_n 0, 1) := by decide +kernel
theorem dJ6_numberOfLeadingZeros_0f7a4_49 : decode cJ6_numberOfLeadingZeros_0f7a4 49 = .ok (.bipush 16, 2) := by decide +kernel
theorem dJ6_numberOfLeadingZeros_0f7a4_51 : decode cJ6_numberOfLeadingZeros_0f7a4 51 = .ok (.if_icmp .lt 10, 3) := by decide +kernel
theorem dJ6_numberOfLeadingZeros_0f7a4_54 : decode cJ6_numberOfLeadingZeros_0f7a4 54 = .ok (.iinc 1 (-4), 3) := by decide +kernel
theorem dJ6_numberOfLeadingZeros_0f7a4_57 : decode cJ6_numberOfLeadingZeros_0f7a4 57 = .ok (.iload_n 0, 1) := by decide +kernel
theorem dJ6_numberOfLeadingZeros_0f7a4_58 : decode cJ6_numberOfLeadingZeros_0f7a4 58 = .ok (.iconst 4, 1) := by decide +kernel
theorem dJ6_numberOfLeadingZeros_0f7a4_59 : decode cJ6_numberOfLeadingZeros_0f7a4 59 = .ok (.iushr, 1) := by decide +kernel
theorem dJ6_numberOfLeadingZeros_0f7a4_60 : decode cJ6_numberOfLeadingZeros_0f7a4 60 = .ok (.istore_n 0, 1) := by decide +kernel
theorem dJ6_numberOfLeadingZeros_0f7a4_61 : decode cJ6_numberOfLeadingZeros_0f7a4 61 = .ok (.iload_n 0, 1) := by decide +kernel
theorem dJ6_numberOfLeadingZeros_0f7a4_62 : decode cJ6_numberOfLeadingZeros_0f7a4 62 = .ok (.iconst 4, 1) := by decide +kernel
theorem dJ6_numberOfLeadingZeros_0f7a4_63 : decode cJ6_numberOfLeadingZeros_0f7a4 63 = .ok (.if_icmp .lt 10, 3) := by decide +kernel
theorem dJ6_numberOfLeadingZeros_0f7a4_66 : decode cJ6_numberOfLeadingZeros_0f7a4 66 = .ok (.iinc 1 (-2), 3) := by decide +kernel
theorem dJ6_numberOfLeadingZeros_0f7a4_69 : decode cJ6_numberOfLeadingZeros_0f7a4 69 = .ok (.iload_n 0, 1) := by decide +kernel
theorem dJ6_numberOfLeadingZeros_0f7a4_70 : decode cJ6_numberOfLeadingZeros_0f7a4 70 = .ok (.iconst 2, 1) := by decide +kernel
theorem dJ6_numberOfLeadingZeros_0f7a4_71 : decode cJ6_numberOfLeadingZeros_0f7a4 71 = .ok (.iushr, 1) := by decide +kernel
theorem dJ6_numberOfLeadingZeros_0f7a4_72 : decode cJ6_numberOfLeadingZeros_0f7a4 72 = .ok (.istore_n 0, 1) := by decide +kernel
theorem dJ6_numberOfLeadingZeros_0f7a4_73 : decode cJ6_numberOfLeadingZeros_0f7a4 73 = .ok (.iload_n 1, 1) := by decide +kernel
theorem dJ6_numberOfLeadingZeros_0f7a4_74 : decode cJ6_numberOfLeadingZeros_0f7a4 74 = .ok (.iload_n 0, 1) := by decide +kernel
theorem dJ6_numberOfLeadingZeros_0f7a4_75 : decode cJ6_numberOfLeadingZeros_0f7a4 75 = .ok (.iconst 1, 1) := by decide +kernel
theorem dJ6_numberOfLeadingZeros_0f7a4_76 : decode cJ6_numberOfLeadingZeros_0f7a4 76 = .ok (.iushr, 1) := by decide +kernel
theorem dJ6_numberOfLeadingZeros_0f7a4_77 : decode cJ6_numberOfLeadingZeros_0f7a4 77 = .ok (.isub, 1) := by decide +kernel
theorem dJ6_numberOfLeadingZeros_0f7a4_78 : decode cJ6_numberOfLeadingZeros_0f7a4 78 = .ok (.ireturn, 1) := by decide +kernel
theorem dJ6_numberOfTrailingZeros_0f7a4_0 : decode cJ6_numberOfTrailingZeros_0f7a4 0 = .ok (.iload_n 0, 1) := by decide +kernel
theorem dJ6_numberOfTrailingZeros_0f7a4_1 : decode cJ6_numberOfTrailingZeros_0f7a4 1 = .ok (.iconst (-1), 1) := by decide +kernel
theorem dJ6_numberOfTrailingZeros_0f7a4_2 : decode cJ6_numberOfTrailingZeros_0f7a4 2 = .ok (.ixor, 1) := by decide +kernel
theorem dJ6_numberOfTrailingZeros_0f7a4_3 : decode cJ6_numberOfTrailingZeros_0f7a4 3 = .ok (.iload_n 0, 1) := by decide +kernel
theorem dJ6_numberOfTrailingZeros_0f7a4_4 : decode cJ6_numberOfTrailingZeros_0f7a4 4 = .ok (.iconst 1, 1) := by decide +kernel
theorem dJ6_numberOfTrailingZeros_0f7a4_5 : decode cJ6_numberOfTrailingZeros_0f7a4 5 = .ok (.isub, 1) := by decide +kernel
theorem dJ6_numberOfTrailingZeros_0f7a4_6 : decode cJ6_numberOfTrailingZeros_0f7a4 6 = .ok (.iand, 1) := by decide +kernel
theorem dJ6_numberOfTrailingZeros_0f7a4_7 : decode cJ6_numberOfTrailingZeros_0f7a4 7 = .ok (.istore_n 0, 1) := by decide +kernel
theorem dJ6_numberOfTrailingZeros_0f7a4_8 : decode cJ6_numberOfTrailingZeros_0f7a4 8 = .ok (.iload_n 0, 1) := by decide +kernel
theorem dJ6_numberOfTrailingZeros_0f7a4_9 : decode cJ6_numberOfTrailingZeros_0f7a4 9 = .ok (.ifCond .gt 8, 3) := by decide +kernel
theorem dJ6_numberOfTrailingZeros_0f7a4_12 : decode cJ6_numberOfTrailingZeros_0f7a4 12 = .ok (.iload_n 0, 1) := by decide +kernel
theorem dJ6_numberOfTrailingZeros_0f7a4_13 : decode cJ6_numberOfTrailingZeros_0f7a4 13 = .ok (.bipush 32, 2) := by decide +kernel
theorem dJ6_numberOfTrailingZeros_0f7a4_15 : decode cJ6_numberOfTrailingZeros_0f7a4 15 = .ok (.iand, 1) := by decide +kernel
theorem dJ6_numberOfTrailingZeros_0f7a4_16 : decode cJ6_numberOfTrailingZeros_0f7a4 16 = .ok (.ireturn, 1) := by decide +kernel
theorem dJ6_numberOfTrailingZeros_0f7a4_17 : decode cJ6_numberOfTrailingZeros_0f7a4 17 = .ok (.iconst 1, 1) := by decide +kernel
theorem dJ6_numberOfTrailingZeros_0f7a4_18 : decode cJ6_numberOfTrailingZeros_0f7a4 18 = .ok (.istore_n 1, 1) := by decide +kernel
theorem dJ6_numberOfTrailingZeros_0f7a4_19 : decode cJ6_numberOfTrailingZeros_0f7a4 19 = .ok (.iload_n 0, 1) := by decide +kernel
theorem dJ6_numberOfTrailingZeros_0f7a4_20 : decode cJ6_numberOfTrailingZeros_0f7a4 20 = .ok (.ldc_w 264, 3) := by decide +kernel
theorem dJ6_numberOfTrailingZeros_0f7a4_23 : decode cJ6_numberOfTrailingZeros_0f7a4 23 = .ok (.if_icmp .le 11, 3) := by decide +kernel
theorem dJ6_numberOfTrailingZeros_0f7a4_26 : decode cJ6_numberOfTrailingZeros_0f7a4 26 = .ok (.iinc 1 16, 3) := by decide +kernel
theorem dJ6_numberOfTrailingZeros_0f7a4_29 : decode cJ6_numberOfTrailingZeros_0f7a4 29 = .ok (.iload_n 0, 1) := by decide +kernel
theorem dJ6_numberOfTrailingZeros_0f7a4_30 : decode cJ6_numberOfTrailingZeros_0f7a4 30 = .ok (.bipush 16, 2) := by decide +kernel
theorem dJ6_numberOfTrailingZeros_0f7a4_32 : decode cJ6_numberOfTrailingZeros_0f7a4 32 = .ok (.iushr, 1) := by decide +kernel
theorem dJ6_numberOfTrailingZeros_0f7a4_33 : decode cJ6_numberOfTrailingZeros_0f7a4 33 = .ok (.istore_n 0, 1) := by decide +kernel
theorem dJ6_numberOfTrailingZeros_0f7a4_34 : decode cJ6_numberOfTrailingZeros_0f7a4 34 = .ok (.iload_n 0, 1) := by decide +kernel
theorem dJ6_numberOfTrailingZeros_0f7a4_35 : decode cJ6_numberOfTrailingZeros_0f7a4 35 = .ok (.sipush 256, 3) := by decide +kernel
theorem dJ6_numberOfTrailingZeros_0f7a4_38 : decode cJ6_numberOfTrailingZeros_0f7a4 38 = .ok (.if_icmp .le 11, 3) := by decide +kernel
theorem dJ6_numberOfTrailingZeros_0f7a4_41 : decode cJ6_numberOfTrailingZeros_0f7a4 41 = .ok (.iinc 1 8, 3) := by decide +kernel
theorem dJ6_numberOfTrailingZeros_0f7a4_44 : decode cJ6_numberOfTrailingZeros_0f7a4 44 = .ok (.iload_n 0, 1) := by decide +kernel
theorem dJ6_numberOfTrailingZeros_0f7a4_45 : decode cJ6_numberOfTrailingZeros_0f7a4 45 = .ok (.bipush 8, 2) := by decide +kernel
theorem dJ6_numberOfTrailingZeros_0f7a4_47 : decode cJ6_numberOfTrailingZeros_0f7a4 47 = .ok (.iushr, 1) := by decide +kernel
theorem dJ6_numberOfTrailingZeros_0f7a4_48 : decode cJ6_numberOfTrailingZeros_0f7a4 48 = .ok (.istore_n 0, 1) := by decide +kernel
theorem dJ6_numberOfTrailingZeros_0f7a4_49 : decode cJ6_numberOfTrailingZeros_0f7a4 49 = .ok (.iload_n 0, 1) := by decide +kernel
theorem dJ6_numberOfTrailingZeros_0f7a4_50 : decode cJ6_numberOfTrailingZeros_0f7a4 50 = .ok (.bipush 16, 2) := by decide +kernel
theorem dJ6_numberOfTrailingZeros_0f7a4_52 : decode cJ6_numberOfTrailingZeros_0f7a4 52 = .ok (.if_icmp .le 10, 3) := by decide +kernel
theorem dJ6_numberOfTrailingZeros_0f7a4_55 : decode cJ6_numberOfTrailingZeros_0f7a4 55 = .ok (.iinc 1 4, 3) := by decide +kernel
theorem dJ6_numberOfTrailingZeros_0f7a4_58 : decode cJ6_numberOfTrailingZeros_0f7a4 58 = .ok (.iload_n 0, 1) := by decide +kernel
theorem dJ6_numberOfTrailingZeros_0f7a4_59 : decode cJ6_numberOfTrailingZeros_0f7a4 59 = .ok (.iconst 4, 1) := by decide +kernel
theorem dJ6_numberOfTrailingZeros_0f7a4_60 : decode cJ6_numberOfTrailingZeros_0f7a4 60 = .ok (.iushr, 1) := by decide +kernel
theorem dJ6_numberOfTrailingZeros_0f7a4_61 : decode cJ6_numberOfTrailingZeros_0f7a4 61 = .ok (.istore_n 0, 1) := by decide +kernel
theorem dJ6_numberOfTrailingZeros_0f7a4_62 : decode cJ6_numberOfTrailingZeros_0f7a4 62 = .ok (.iload_n 0, 1) := by decide +kernel
theorem dJ6_numberOfTrailingZeros_0f7a4_63 : decode cJ6_numberOfTrailingZeros_0f7a4 63 = .ok (.iconst 4, 1) := by decide +kernel
theorem dJ6_numberOfTrailingZeros_0f7a4_64 : decode cJ6_numberOfTrailingZeros_0f7a4 64 = .ok (.if_icmp .le 10, 3) := by decide +kernel
theorem dJ6_numberOfTrailingZeros_0f7a4_67 : decode cJ6_numberOfTrailingZeros_0f7a4 67 = .ok (.iinc 1 2, 3) := by decide +kernel
theorem dJ6_numberOfTrailingZeros_0f7a4_70 : decode cJ6_numberOfTrailingZeros_0f7a4 70 = .ok (.iload_n 0, 1) := by decide +kernel
theorem dJ6_numberOfTrailingZeros_0f7a4_71 : decode cJ6_numberOfTrailingZeros_0f7a4 71 = .ok (.iconst 2, 1) := by decide +kernel
theorem dJ6_numberOfTrailingZeros_0f7a4_72 : decode cJ6_numberOfTrailingZeros_0f7a4 72 = .ok (.iushr, 1) := by decide +kernel
theorem dJ6_numberOfTrailingZeros_0f7a4_73 : decode cJ6_numberOfTrailingZeros_0f7a4 73 = .ok (.istore_n 0, 1) := by decide +kernel
theorem dJ6_numberOfTrailingZeros_0f7a4_74 : decode cJ6_numberOfTrailingZeros_0f7a4 74 = .ok (.iload_n 1, 1) := by decide +kernel
theorem dJ6_numberOfTrailingZeros_0f7a4_75 : decode cJ6_numberOfTrailingZeros_0f7a4 75 = .ok (.iload_n 0, 1) := by decide +kernel
theorem dJ6_numberOfTrailingZeros_0f7a4_76 : decode cJ6_numberOfTrailingZeros_0f7a4 76 = .ok (.iconst 1, 1) := by decide +kernel
theorem dJ6_numberOfTrailingZeros_0f7a4_77 : decode cJ6_numberOfTrailingZeros_0f7a4 77 = .ok (.iushr, 1) := by decide +kernel
theorem dJ6_numberOfTrailingZeros_0f7a4_78 : decode cJ6_numberOfTrailingZeros_0f7a4 78 = .ok (.iadd, 1) := by decide +kernel
theorem dJ6_numberOfTrailingZeros_0f7a4_79 : decode cJ6_numberOfTrailingZeros_0f7a4 79 = .ok (.ireturn, 1) := by decide +kernel
theorem dJ6_bitCount_0f7a4_0 : decode cJ6_bitCount_0f7a4 0 = .ok (.iload_n 0, 1) := by decide +kernel
theorem dJ6_bitCount_0f7a4_1 : decode cJ6_bitCount_0f7a4 1 = .ok (.iload_n 0, 1) := by decide +kernel
theorem dJ6_bitCount_0f7a4_2 : decode cJ6_bitCount_0f7a4 2 = .ok (.iconst 1, 1) := by decide +kernel
theorem dJ6_bitCount_0f7a4_3 : decode cJ6_bitCount_0f7a4 3 = .ok (.iushr, 1) := by decide +kernel
theorem dJ6_bitCount_0f7a4_4 : decode cJ6_bitCount_0f7a4 4 = .ok (.ldc_w 265, 3) := by decide +kernel
theorem dJ6_bitCount_0f7a4_7 : decode cJ6_bitCount_0f7a4 7 = .ok (.iand, 1) := by decide +kernel
theorem dJ6_bitCount_0f7a4_8 : decode cJ6_bitCount_0f7a4 8 = .ok (.isub, 1) := by decide +kernel
theorem dJ6_bitCount_0f7a4_9 : decode cJ6_bitCount_0f7a4 9 = .ok (.istore_n 0, 1) := by decide +kernel
theorem dJ6_bitCount_0f7a4_10 : decode cJ6_bitCount_0f7a4 10 = .ok (.iload_n 0, 1) := by decide +kernel
theorem dJ6_bitCount_0f7a4_11 : decode cJ6_bitCount_0f7a4 11 = .ok (.ldc_w 266, 3) := by decide +kernel
theorem dJ6_bitCount_0f7a4_14 : decode cJ6_bitCount_0f7a4 14 = .ok (.iand, 1) := by decide +kernel
theorem dJ6_bitCount_0f7a4_15 : decode cJ6_bitCount_0f7a4 15 = .ok (.iload_n 0, 1) := by decide +kernel
theorem dJ6_bitCount_0f7a4_16 : decode cJ6_bitCount_0f7a4 16 = .ok (.iconst 2, 1) := by decide +kernel
theorem dJ6_bitCount_0f7a4_17 : decode cJ6_bitCount_0f7a4 17 = .ok (.iushr, 1) := by decide +kernel
theorem dJ6_bitCount_0f7a4_18 : decode cJ6_bitCount_0f7a4 18 = .ok (.ldc_w 266, 3) := by decide +kernel
theorem dJ6_bitCount_0f7a4_21 : decode cJ6_bitCount_0f7a4 21 = .ok (.iand, 1) := by decide +kernel
theorem dJ6_bitCount_0f7a4_22 : decode cJ6_bitCount_0f7a4 22 = .ok (.iadd, 1) := by decide +kernel
theorem dJ6_bitCount_0f7a4_23 : decode cJ6_bitCount_0f7a4 23 = .ok (.istore_n 0, 1) := by decide +kernel
theorem dJ6_bitCount_0f7a4_24 : decode cJ6_bitCount_0f7a4 24 = .ok (.iload_n 0, 1) := by decide +kernel
theorem dJ6_bitCount_0f7a4_25 : decode cJ6_bitCount_0f7a4 25 = .ok (.iload_n 0, 1) := by decide +kernel
theorem dJ6_bitCount_0f7a4_26 : decode cJ6_bitCount_0f7a4 26 = .ok (.iconst 4, 1) := by decide +kernel
theorem dJ6_bitCount_0f7a4_27 : decode cJ6_bitCount_0f7a4 27 = .ok (.iushr, 1) := by decide +kernel
theorem dJ6_bitCount_0f7a4_28 : decode cJ6_bitCount_0f7a4 28 = .ok (.iadd, 1) := by decide +kernel
theorem dJ6_bitCount_0f7a4_29 : decode cJ6_bitCount_0f7a4 29 = .ok (.ldc_w 267, 3) := by decide +kernel
theorem dJ6_bitCount_0f7a4_32 : decode cJ6_bitCount_0f7a4 32 = .ok (.iand, 1) := by decide +kernel
theorem dJ6_bitCount_0f7a4_33 : decode cJ6_bitCount_0f7a4 33 = .ok (.istore_n 0, 1) := by decide +kernel
theorem dJ6_bitCount_0f7a4_34 : decode cJ6_bitCount_0f7a4 34 = .ok (.iload_n 0, 1) := by decide +kernel
theorem dJ6_bitCount_0f7a4_35 : decode cJ6_bitCount_0f7a4 35 = .ok (.iload_n 0, 1) := by decide +kernel
theorem dJ6_bitCount_0f7a4_36 : decode cJ6_bitCount_0f7a4 36 = .ok (.bipush 8, 2) := by decide +kernel
theorem dJ6_bitCount_0f7a4_38 : decode cJ6_bitCount_0f7a4 38 = .ok (.iushr, 1) := by decide +kernel
theorem dJ6_bitCount_0f7a4_39 : decode cJ6_bitCount_0f7a4 39 = .ok (.iadd, 1) := by decide +kernel
theorem dJ6_bitCount_0f7a4_40 : decode cJ6_bitCount_0f7a4 40 = .ok (.istore_n 0, 1) := by decide +kernel
theorem dJ6_bitCount_0f7a4_41 : decode cJ6_bitCount_0f7a4 41 = .ok (.iload_n 0, 1) := by decide +kernel
theorem dJ6_bitCount_0f7a4_42 : decode cJ6_bitCount_0f7a4 42 = .ok (.iload_n 0, 1) := by decide +kernel
theorem dJ6_bitCount_0f7a4_43 : decode cJ6_bitCount_0f7a4 43 = .ok (.bipush 16, 2) := by decide +kernel
