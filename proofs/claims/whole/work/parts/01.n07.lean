theorem dX8_readsLine_30 : decode cX8_readsLine 30 = .ok (.iconst 0, 1) := by decide +kernel
theorem dX8_readsLine_31 : decode cX8_readsLine 31 = .ok (.ireturn, 1) := by decide +kernel
theorem dX8_readsLine_32 : decode cX8_readsLine 32 = .ok (.aload_n 0, 1) := by decide +kernel
theorem dX8_readsLine_33 : decode cX8_readsLine 33 = .ok (.invokevirtual 84, 3) := by decide +kernel
theorem dX8_readsLine_36 : decode cX8_readsLine 36 = .ok (.aload_n 0, 1) := by decide +kernel
theorem dX8_readsLine_37 : decode cX8_readsLine 37 = .ok (.iconst 0, 1) := by decide +kernel
theorem dX8_readsLine_38 : decode cX8_readsLine 38 = .ok (.iconst 5, 1) := by decide +kernel
theorem dX8_readsLine_39 : decode cX8_readsLine 39 = .ok (.invokevirtual 91, 3) := by decide +kernel
theorem dX8_readsLine_42 : decode cX8_readsLine 42 = .ok (.istore_n 3, 1) := by decide +kernel
theorem dX8_readsLine_43 : decode cX8_readsLine 43 = .ok (.iload_n 3, 1) := by decide +kernel
theorem dX8_readsLine_44 : decode cX8_readsLine 44 = .ok (.iconst (-1), 1) := by decide +kernel
theorem dX8_readsLine_45 : decode cX8_readsLine 45 = .ok (.if_icmp .ne 5, 3) := by decide +kernel
theorem dX8_readsLine_48 : decode cX8_readsLine 48 = .ok (.iconst 0, 1) := by decide +kernel
theorem dX8_readsLine_49 : decode cX8_readsLine 49 = .ok (.ireturn, 1) := by decide +kernel
theorem dX8_readsLine_50 : decode cX8_readsLine 50 = .ok (.aload_n 0, 1) := by decide +kernel
theorem dX8_readsLine_51 : decode cX8_readsLine 51 = .ok (.getfield 16, 3) := by decide +kernel
theorem dX8_readsLine_54 : decode cX8_readsLine 54 = .ok (.iload_n 1, 1) := by decide +kernel
theorem dX8_readsLine_55 : decode cX8_readsLine 55 = .ok (.iconst 1, 1) := by decide +kernel
theorem dX8_readsLine_56 : decode cX8_readsLine 56 = .ok (.iadd, 1) := by decide +kernel
theorem dX8_readsLine_57 : decode cX8_readsLine 57 = .ok (.iload_n 3, 1) := by decide +kernel
theorem dX8_readsLine_58 : decode cX8_readsLine 58 = .ok (.iastore, 1) := by decide +kernel
theorem dX8_readsLine_59 : decode cX8_readsLine 59 = .ok (.aload_n 0, 1) := by decide +kernel
theorem dX8_readsLine_60 : decode cX8_readsLine 60 = .ok (.getfield 16, 3) := by decide +kernel
theorem dX8_readsLine_63 : decode cX8_readsLine 63 = .ok (.iload_n 1, 1) := by decide +kernel
theorem dX8_readsLine_64 : decode cX8_readsLine 64 = .ok (.iconst 2, 1) := by decide +kernel
theorem dX8_readsLine_65 : decode cX8_readsLine 65 = .ok (.iadd, 1) := by decide +kernel
theorem dX8_readsLine_66 : decode cX8_readsLine 66 = .ok (.iconst (-1), 1) := by decide +kernel
theorem dX8_readsLine_67 : decode cX8_readsLine 67 = .ok (.iastore, 1) := by decide +kernel
theorem dX8_readsLine_68 : decode cX8_readsLine 68 = .ok (.aload_n 0, 1) := by decide +kernel
theorem dX8_readsLine_69 : decode cX8_readsLine 69 = .ok (.getfield 16, 3) := by decide +kernel
theorem dX8_readsLine_72 : decode cX8_readsLine 72 = .ok (.iload_n 1, 1) := by decide +kernel
theorem dX8_readsLine_73 : decode cX8_readsLine 73 = .ok (.iload_n 2, 1) := by decide +kernel
theorem dX8_readsLine_74 : decode cX8_readsLine 74 = .ok (.ifCond .eq 7, 3) := by decide +kernel
theorem dX8_readsLine_77 : decode cX8_readsLine 77 = .ok (.iconst 4, 1) := by decide +kernel
theorem dX8_readsLine_78 : decode cX8_readsLine 78 = .ok (.goto 63, 3) := by decide +kernel
theorem dX8_readsLine_81 : decode cX8_readsLine 81 = .ok (.aload_n 0, 1) := by decide +kernel
theorem dX8_readsLine_82 : decode cX8_readsLine 82 = .ok (.sipush 25645, 3) := by decide +kernel
theorem dX8_readsLine_85 : decode cX8_readsLine 85 = .ok (.iconst 3, 1) := by decide +kernel
theorem dX8_readsLine_86 : decode cX8_readsLine 86 = .ok (.invokevirtual 87, 3) := by decide +kernel
theorem dX8_readsLine_89 : decode cX8_readsLine 89 = .ok (.ifCond .eq 7, 3) := by decide +kernel
theorem dX8_readsLine_92 : decode cX8_readsLine 92 = .ok (.iconst 0, 1) := by decide +kernel
theorem dX8_readsLine_93 : decode cX8_readsLine 93 = .ok (.goto 48, 3) := by decide +kernel
theorem dX8_readsLine_96 : decode cX8_readsLine 96 = .ok (.aload_n 0, 1) := by decide +kernel
theorem dX8_readsLine_97 : decode cX8_readsLine 97 = .ok (.sipush 20974, 3) := by decide +kernel
theorem dX8_readsLine_100 : decode cX8_readsLine 100 = .ok (.iconst 3, 1) := by decide +kernel
theorem dX8_readsLine_101 : decode cX8_readsLine 101 = .ok (.invokevirtual 87, 3) := by decide +kernel
theorem dX8_readsLine_104 : decode cX8_readsLine 104 = .ok (.ifCond .eq 7, 3) := by decide +kernel
theorem dX8_readsLine_107 : decode cX8_readsLine 107 = .ok (.iconst 1, 1) := by decide +kernel
theorem dX8_readsLine_108 : decode cX8_readsLine 108 = .ok (.goto 33, 3) := by decide +kernel
theorem dX8_readsLine_111 : decode cX8_readsLine 111 = .ok (.aload_n 0, 1) := by decide +kernel
theorem dX8_readsLine_112 : decode cX8_readsLine 112 = .ok (.ldc 105, 2) := by decide +kernel
theorem dX8_readsLine_114 : decode cX8_readsLine 114 = .ok (.iconst 4, 1) := by decide +kernel
theorem dX8_readsLine_115 : decode cX8_readsLine 115 = .ok (.invokevirtual 87, 3) := by decide +kernel
theorem dX8_readsLine_118 : decode cX8_readsLine 118 = .ok (.ifCond .eq 7, 3) := by decide +kernel
theorem dX8_readsLine_121 : decode cX8_readsLine 121 = .ok (.iconst 2, 1) := by decide +kernel
theorem dX8_readsLine_122 : decode cX8_readsLine 122 = .ok (.goto 19, 3) := by decide +kernel
theorem dX8_readsLine_125 : decode cX8_readsLine 125 = .ok (.aload_n 0, 1) := by decide +kernel
theorem dX8_readsLine_126 : decode cX8_readsLine 126 = .ok (.ldc 106, 2) := by decide +kernel
theorem dX8_readsLine_128 : decode cX8_readsLine 128 = .ok (.bipush 6, 2) := by decide +kernel
theorem dX8_readsLine_130 : decode cX8_readsLine 130 = .ok (.invokevirtual 87, 3) := by decide +kernel
theorem dX8_readsLine_133 : decode cX8_readsLine 133 = .ok (.ifCond .eq 7, 3) := by decide +kernel
theorem dX8_readsLine_136 : decode cX8_readsLine 136 = .ok (.iconst 3, 1) := by decide +kernel
theorem dX8_readsLine_137 : decode cX8_readsLine 137 = .ok (.goto 4, 3) := by decide +kernel
theorem dX8_readsLine_140 : decode cX8_readsLine 140 = .ok (.iconst (-1), 1) := by decide +kernel
theorem dX8_readsLine_141 : decode cX8_readsLine 141 = .ok (.iastore, 1) := by decide +kernel
theorem dX8_readsLine_142 : decode cX8_readsLine 142 = .ok (.aload_n 0, 1) := by decide +kernel
theorem dX8_readsLine_143 : decode cX8_readsLine 143 = .ok (.getfield 16, 3) := by decide +kernel
theorem dX8_readsLine_146 : decode cX8_readsLine 146 = .ok (.iload_n 1, 1) := by decide +kernel
theorem dX8_readsLine_147 : decode cX8_readsLine 147 = .ok (.iaload, 1) := by decide +kernel
theorem dX8_readsLine_148 : decode cX8_readsLine 148 = .ok (.iconst (-1), 1) := by decide +kernel
theorem dX8_readsLine_149 : decode cX8_readsLine 149 = .ok (.if_icmp .ne 5, 3) := by decide +kernel
theorem dX8_readsLine_152 : decode cX8_readsLine 152 = .ok (.iconst 0, 1) := by decide +kernel
theorem dX8_readsLine_153 : decode cX8_readsLine 153 = .ok (.ireturn, 1) := by decide +kernel
theorem dX8_readsLine_154 : decode cX8_readsLine 154 = .ok (.iload_n 2, 1) := by decide +kernel
theorem dX8_readsLine_155 : decode cX8_readsLine 155 = .ok (.ifCond .ne 7, 3) := by decide +kernel
theorem dX8_readsLine_158 : decode cX8_readsLine 158 = .ok (.aload_n 0, 1) := by decide +kernel
theorem dX8_readsLine_159 : decode cX8_readsLine 159 = .ok (.invokevirtual 84, 3) := by decide +kernel
theorem dX8_readsLine_162 : decode cX8_readsLine 162 = .ok (.aload_n 0, 1) := by decide +kernel
theorem dX8_readsLine_163 : decode cX8_readsLine 163 = .ok (.getfield 16, 3) := by decide +kernel
theorem dX8_readsLine_166 : decode cX8_readsLine 166 = .ok (.iload_n 1, 1) := by decide +kernel
theorem dX8_readsLine_167 : decode cX8_readsLine 167 = .ok (.iaload, 1) := by decide +kernel
theorem dX8_readsLine_168 : decode cX8_readsLine 168 = .ok (.iconst 3, 1) := by decide +kernel
theorem dX8_readsLine_169 : decode cX8_readsLine 169 = .ok (.if_icmp .ne 85, 3) := by decide +kernel
theorem dX8_readsLine_172 : decode cX8_readsLine 172 = .ok (.aload_n 0, 1) := by decide +kernel
theorem dX8_readsLine_173 : decode cX8_readsLine 173 = .ok (.getfield 74, 3) := by decide +kernel
theorem dX8_readsLine_176 : decode cX8_readsLine 176 = .ok (.aload_n 0, 1) := by decide +kernel
theorem dX8_readsLine_177 : decode cX8_readsLine 177 = .ok (.getfield 65, 3) := by decide +kernel
theorem dX8_readsLine_180 : decode cX8_readsLine 180 = .ok (.if_icmp .ge 36, 3) := by decide +kernel
theorem dX8_readsLine_183 : decode cX8_readsLine 183 = .ok (.aload_n 0, 1) := by decide +kernel
theorem dX8_readsLine_184 : decode cX8_readsLine 184 = .ok (.getfield 7, 3) := by decide +kernel
theorem dX8_readsLine_187 : decode cX8_readsLine 187 = .ok (.aload_n 0, 1) := by decide +kernel
theorem dX8_readsLine_188 : decode cX8_readsLine 188 = .ok (.getfield 74, 3) := by decide +kernel
theorem dX8_readsLine_191 : decode cX8_readsLine 191 = .ok (.iaload, 1) := by decide +kernel
theorem dX8_readsLine_192 : decode cX8_readsLine 192 = .ok (.bipush 48, 2) := by decide +kernel
theorem dX8_readsLine_194 : decode cX8_readsLine 194 = .ok (.iload_n 3, 1) := by decide +kernel
theorem dX8_readsLine_195 : decode cX8_readsLine 195 = .ok (.iadd, 1) := by decide +kernel
theorem dX8_readsLine_196 : decode cX8_readsLine 196 = .ok (.if_icmp .ne 20, 3) := by decide +kernel
theorem dX8_readsLine_199 : decode cX8_readsLine 199 = .ok (.aload_n 0, 1) := by decide +kernel
theorem dX8_readsLine_200 : decode cX8_readsLine 200 = .ok (.getfield 81, 3) := by decide +kernel
theorem dX8_readsLine_203 : decode cX8_readsLine 203 = .ok (.aload_n 0, 1) := by decide +kernel
theorem dX8_readsLine_204 : decode cX8_readsLine 204 = .ok (.getfield 74, 3) := by decide +kernel
theorem dX8_readsLine_207 : decode cX8_readsLine 207 = .ok (.isub, 1) := by decide +kernel
theorem dX8_readsLine_208 : decode cX8_readsLine 208 = .ok (.iconst 1, 1) := by decide +kernel
theorem dX8_readsLine_209 : decode cX8_readsLine 209 = .ok (.if_icmp .ne 7, 3) := by decide +kernel
theorem dX8_readsLine_212 : decode cX8_readsLine 212 = .ok (.iconst 1, 1) := by decide +kernel
theorem dX8_readsLine_213 : decode cX8_readsLine 213 = .ok (.goto 4, 3) := by decide +kernel
theorem dX8_readsLine_216 : decode cX8_readsLine 216 = .ok (.iconst 0, 1) := by decide +kernel
theorem dX8_readsLine_217 : decode cX8_readsLine 217 = .ok (.istore 4, 2) := by decide +kernel
theorem dX8_readsLine_219 : decode cX8_readsLine 219 = .ok (.iload 4, 2) := by decide +kernel
theorem dX8_readsLine_221 : decode cX8_readsLine 221 = .ok (.ifCond .eq 7, 3) := by decide +kernel
theorem dX8_readsLine_224 : decode cX8_readsLine 224 = .ok (.iconst (-1), 1) := by decide +kernel
theorem dX8_readsLine_225 : decode cX8_readsLine 225 = .ok (.goto 9, 3) := by decide +kernel
theorem dX8_readsLine_228 : decode cX8_readsLine 228 = .ok (.aload_n 0, 1) := by decide +kernel
theorem dX8_readsLine_229 : decode cX8_readsLine 229 = .ok (.iconst 0, 1) := by decide +kernel
theorem dX8_readsLine_230 : decode cX8_readsLine 230 = .ok (.iconst 5, 1) := by decide +kernel
theorem dX8_readsLine_231 : decode cX8_readsLine 231 = .ok (.invokevirtual 91, 3) := by decide +kernel
theorem dX8_readsLine_234 : decode cX8_readsLine 234 = .ok (.istore 5, 2) := by decide +kernel
theorem dX8_readsLine_236 : decode cX8_readsLine 236 = .ok (.iload 5, 2) := by decide +kernel
theorem dX8_readsLine_238 : decode cX8_readsLine 238 = .ok (.iconst (-1), 1) := by decide +kernel
theorem dX8_readsLine_239 : decode cX8_readsLine 239 = .ok (.if_icmp .ne 5, 3) := by decide +kernel
theorem dX8_readsLine_242 : decode cX8_readsLine 242 = .ok (.iconst 0, 1) := by decide +kernel
theorem dX8_readsLine_243 : decode cX8_readsLine 243 = .ok (.ireturn, 1) := by decide +kernel
theorem dX8_readsLine_244 : decode cX8_readsLine 244 = .ok (.aload_n 0, 1) := by decide +kernel
theorem dX8_readsLine_245 : decode cX8_readsLine 245 = .ok (.getfield 16, 3) := by decide +kernel
theorem dX8_readsLine_248 : decode cX8_readsLine 248 = .ok (.iload_n 1, 1) := by decide +kernel
theorem dX8_readsLine_249 : decode cX8_readsLine 249 = .ok (.iconst 2, 1) := by decide +kernel
theorem dX8_readsLine_250 : decode cX8_readsLine 250 = .ok (.iadd, 1) := by decide +kernel
theorem dX8_readsLine_251 : decode cX8_readsLine 251 = .ok (.iload 5, 2) := by decide +kernel
theorem dX8_readsLine_253 : decode cX8_readsLine 253 = .ok (.iastore, 1) := by decide +kernel
theorem dX8_readsLine_254 : decode cX8_readsLine 254 = .ok (.aload_n 0, 1) := by decide +kernel
theorem dX8_readsLine_255 : decode cX8_readsLine 255 = .ok (.iload_n 1, 1) := by decide +kernel
theorem dX8_readsLine_256 : decode cX8_readsLine 256 = .ok (.invokevirtual 107, 3) := by decide +kernel
theorem dX8_readsLine_259 : decode cX8_readsLine 259 = .ok (.ifCond .ne 5, 3) := by decide +kernel
theorem dX8_readsLine_262 : decode cX8_readsLine 262 = .ok (.iconst 0, 1) := by decide +kernel
theorem dX8_readsLine_263 : decode cX8_readsLine 263 = .ok (.ireturn, 1) := by decide +kernel
theorem dX8_readsLine_264 : decode cX8_readsLine 264 = .ok (.aload_n 0, 1) := by decide +kernel
theorem dX8_readsLine_265 : decode cX8_readsLine 265 = .ok (.dup, 1) := by decide +kernel
theorem dX8_readsLine_266 : decode cX8_readsLine 266 = .ok (.getfield 100, 3) := by decide +kernel
theorem dX8_readsLine_269 : decode cX8_readsLine 269 = .ok (.iconst 1, 1) := by decide +kernel
theorem dX8_readsLine_270 : decode cX8_readsLine 270 = .ok (.iadd, 1) := by decide +kernel
theorem dX8_readsLine_271 : decode cX8_readsLine 271 = .ok (.putfield 100, 3) := by decide +kernel
theorem dX8_readsLine_274 : decode cX8_readsLine 274 = .ok (.iconst 1, 1) := by decide +kernel
theorem dX8_readsLine_275 : decode cX8_readsLine 275 = .ok (.ireturn, 1) := by decide +kernel
set_option maxRecDepth 20000 in
theorem ggX8_fault_X8_token : GoodIn wsX8_fault wsX8_token := goodIn_r _ [11, 1, 4, 6, 3, 5, 12, 13, 10, 14, 44, 45, 46, 47, 48, 49, 50, 51, 52, 53, 54, 55, 56, 57, 58, 59, 60, 61, 62, 63, 64, 65, 66, 67, 68, 69, 70] (by decide +kernel) (by decide +kernel)
set_option maxRecDepth 20000 in
theorem gX8_fault_X8_token : GoodIn wsX8_fault (wsV RX8 84 RX8 yX8_token wsX8_token) := goodIn_app (goodIn_of _ (by decide +kernel)) ggX8_fault_X8_token
set_option maxRecDepth 20000 in
theorem ggX8_fault_X8_readsLine : GoodIn wsX8_fault wsX8_readsLine := goodIn_r _ [18, 2, 19, 20, 21, 22, 23, 3, 4, 6, 5, 24, 25, 26, 10, 27, 7, 8, 9, 11, 1, 12, 13, 14, 28, 29, 30, 31, 32, 33, 34, 35, 36, 37, 38, 39, 40, 41, 42, 43, 44, 45, 46, 47, 48, 49, 50, 51, 52, 53, 54, 55, 56, 57, 58, 59, 60, 61, 62, 63, 64, 65, 66, 67, 68, 69, 70] (by decide +kernel) (by decide +kernel)
set_option maxRecDepth 20000 in
theorem gX8_fault_X8_readsLine : GoodIn wsX8_fault (wsV RX8 111 RX8 yX8_readsLine wsX8_readsLine) := goodIn_app (goodIn_of _ (by decide +kernel)) ggX8_fault_X8_readsLine
theorem dX8_fault_0 : decode cX8_fault 0 = .ok (.aload_n 0, 1) := by decide +kernel
theorem dX8_fault_1 : decode cX8_fault 1 = .ok (.iconst 0, 1) := by decide +kernel
theorem dX8_fault_2 : decode cX8_fault 2 = .ok (.putfield 71, 3) := by decide +kernel
theorem dX8_fault_5 : decode cX8_fault 5 = .ok (.aload_n 0, 1) := by decide +kernel
theorem dX8_fault_6 : decode cX8_fault 6 = .ok (.iconst 0, 1) := by decide +kernel
theorem dX8_fault_7 : decode cX8_fault 7 = .ok (.putfield 100, 3) := by decide +kernel
theorem dX8_fault_10 : decode cX8_fault 10 = .ok (.aload_n 0, 1) := by decide +kernel
theorem dX8_fault_11 : decode cX8_fault 11 = .ok (.invokevirtual 84, 3) := by decide +kernel
theorem dX8_fault_14 : decode cX8_fault 14 = .ok (.aload_n 0, 1) := by decide +kernel
theorem dX8_fault_15 : decode cX8_fault 15 = .ok (.invokevirtual 111, 3) := by decide +kernel
theorem dX8_fault_18 : decode cX8_fault 18 = .ok (.ifCond .ne 8, 3) := by decide +kernel
theorem dX8_fault_21 : decode cX8_fault 21 = .ok (.aload_n 0, 1) := by decide +kernel
theorem dX8_fault_22 : decode cX8_fault 22 = .ok (.getfield 74, 3) := by decide +kernel
theorem dX8_fault_25 : decode cX8_fault 25 = .ok (.ireturn, 1) := by decide +kernel
theorem dX8_fault_26 : decode cX8_fault 26 = .ok (.aload_n 0, 1) := by decide +kernel
theorem dX8_fault_27 : decode cX8_fault 27 = .ok (.getfield 74, 3) := by decide +kernel
theorem dX8_fault_30 : decode cX8_fault 30 = .ok (.aload_n 0, 1) := by decide +kernel
theorem dX8_fault_31 : decode cX8_fault 31 = .ok (.getfield 65, 3) := by decide +kernel
theorem dX8_fault_34 : decode cX8_fault 34 = .ok (.if_icmp .ge 70, 3) := by decide +kernel
theorem dX8_fault_37 : decode cX8_fault 37 = .ok (.aload_n 0, 1) := by decide +kernel
theorem dX8_fault_38 : decode cX8_fault 38 = .ok (.getfield 81, 3) := by decide +kernel
theorem dX8_fault_41 : decode cX8_fault 41 = .ok (.aload_n 0, 1) := by decide +kernel
theorem dX8_fault_42 : decode cX8_fault 42 = .ok (.getfield 74, 3) := by decide +kernel
theorem dX8_fault_45 : decode cX8_fault 45 = .ok (.isub, 1) := by decide +kernel
theorem dX8_fault_46 : decode cX8_fault 46 = .ok (.iconst 1, 1) := by decide +kernel
theorem dX8_fault_47 : decode cX8_fault 47 = .ok (.if_icmp .ne 30, 3) := by decide +kernel
theorem dX8_fault_50 : decode cX8_fault 50 = .ok (.aload_n 0, 1) := by decide +kernel
theorem dX8_fault_51 : decode cX8_fault 51 = .ok (.getfield 7, 3) := by decide +kernel
theorem dX8_fault_54 : decode cX8_fault 54 = .ok (.aload_n 0, 1) := by decide +kernel
theorem dX8_fault_55 : decode cX8_fault 55 = .ok (.getfield 74, 3) := by decide +kernel
theorem dX8_fault_58 : decode cX8_fault 58 = .ok (.iaload, 1) := by decide +kernel
theorem dX8_fault_59 : decode cX8_fault 59 = .ok (.bipush 59, 2) := by decide +kernel
theorem dX8_fault_61 : decode cX8_fault 61 = .ok (.if_icmp .ne 16, 3) := by decide +kernel
theorem dX8_fault_64 : decode cX8_fault 64 = .ok (.aload_n 0, 1) := by decide +kernel
theorem dX8_fault_65 : decode cX8_fault 65 = .ok (.getfield 100, 3) := by decide +kernel
theorem dX8_fault_68 : decode cX8_fault 68 = .ok (.bipush 8, 2) := by decide +kernel
theorem dX8_fault_70 : decode cX8_fault 70 = .ok (.if_icmp .ge 7, 3) := by decide +kernel
theorem dX8_fault_73 : decode cX8_fault 73 = .ok (.iconst 1, 1) := by decide +kernel
theorem dX8_fault_74 : decode cX8_fault 74 = .ok (.goto 4, 3) := by decide +kernel
theorem dX8_fault_77 : decode cX8_fault 77 = .ok (.iconst 0, 1) := by decide +kernel
theorem dX8_fault_78 : decode cX8_fault 78 = .ok (.istore_n 1, 1) := by decide +kernel
theorem dX8_fault_79 : decode cX8_fault 79 = .ok (.iload_n 1, 1) := by decide +kernel
theorem dX8_fault_80 : decode cX8_fault 80 = .ok (.ifCond .eq 12, 3) := by decide +kernel
theorem dX8_fault_83 : decode cX8_fault 83 = .ok (.aload_n 0, 1) := by decide +kernel
theorem dX8_fault_84 : decode cX8_fault 84 = .ok (.invokevirtual 84, 3) := by decide +kernel
theorem dX8_fault_87 : decode cX8_fault 87 = .ok (.aload_n 0, 1) := by decide +kernel
theorem dX8_fault_88 : decode cX8_fault 88 = .ok (.invokevirtual 111, 3) := by decide +kernel
theorem dX8_fault_91 : decode cX8_fault 91 = .ok (.istore_n 1, 1) := by decide +kernel
theorem dX8_fault_92 : decode cX8_fault 92 = .ok (.iload_n 1, 1) := by decide +kernel
theorem dX8_fault_93 : decode cX8_fault 93 = .ok (.ifCond .ne 8, 3) := by decide +kernel
theorem dX8_fault_96 : decode cX8_fault 96 = .ok (.aload_n 0, 1) := by decide +kernel
theorem dX8_fault_97 : decode cX8_fault 97 = .ok (.getfield 74, 3) := by decide +kernel
theorem dX8_fault_100 : decode cX8_fault 100 = .ok (.ireturn, 1) := by decide +kernel
theorem dX8_fault_101 : decode cX8_fault 101 = .ok (.goto (-75), 3) := by decide +kernel
theorem dX8_fault_104 : decode cX8_fault 104 = .ok (.iconst (-1), 1) := by decide +kernel
theorem dX8_fault_105 : decode cX8_fault 105 = .ok (.ireturn, 1) := by decide +kernel
set_option maxRecDepth 20000 in
theorem ggX8_bounds_X8_fault : GoodIn wsX8_bounds wsX8_fault := goodIn_r _ [10, 11, 2, 12, 5, 13, 14, 15, 16, 17, 9, 18, 19, 20, 21, 22, 23, 24, 25, 26, 27, 4, 28, 29, 30, 31, 32, 33, 34, 35, 36, 37, 38, 39, 40, 41, 42, 43, 44, 45, 46, 47, 48, 49, 50, 51, 52, 53, 54, 55, 56, 57, 58, 59, 60, 61, 62, 63, 64, 65, 66, 67, 68, 69, 70, 71, 72, 73, 74, 75, 76] (by decide +kernel) (by decide +kernel)
set_option maxRecDepth 20000 in
theorem gX8_bounds_X8_fault : GoodIn wsX8_bounds (wsV RX8 115 RX8 yX8_fault wsX8_fault) := goodIn_app (goodIn_of _ (by decide +kernel)) ggX8_bounds_X8_fault
theorem dX8_bounds_0 : decode cX8_bounds 0 = .ok (.aload_n 0, 1) := by decide +kernel
theorem dX8_bounds_1 : decode cX8_bounds 1 = .ok (.invokevirtual 115, 3) := by decide +kernel
theorem dX8_bounds_4 : decode cX8_bounds 4 = .ok (.iconst (-1), 1) := by decide +kernel
theorem dX8_bounds_5 : decode cX8_bounds 5 = .ok (.if_icmp .eq 6, 3) := by decide +kernel
theorem dX8_bounds_8 : decode cX8_bounds 8 = .ok (.bipush (-4), 2) := by decide +kernel
theorem dX8_bounds_10 : decode cX8_bounds 10 = .ok (.ireturn, 1) := by decide +kernel
theorem dX8_bounds_11 : decode cX8_bounds 11 = .ok (.aload_n 0, 1) := by decide +kernel
theorem dX8_bounds_12 : decode cX8_bounds 12 = .ok (.getfield 119, 3) := by decide +kernel
theorem dX8_bounds_15 : decode cX8_bounds 15 = .ok (.aload_n 0, 1) := by decide +kernel
theorem dX8_bounds_16 : decode cX8_bounds 16 = .ok (.getfield 100, 3) := by decide +kernel
theorem dX8_bounds_19 : decode cX8_bounds 19 = .ok (.iadd, 1) := by decide +kernel
theorem dX8_bounds_20 : decode cX8_bounds 20 = .ok (.bipush 20, 2) := by decide +kernel
theorem dX8_bounds_22 : decode cX8_bounds 22 = .ok (.if_icmp .le 6, 3) := by decide +kernel
theorem dX8_bounds_25 : decode cX8_bounds 25 = .ok (.bipush (-5), 2) := by decide +kernel
theorem dX8_bounds_27 : decode cX8_bounds 27 = .ok (.ireturn, 1) := by decide +kernel
theorem dX8_bounds_28 : decode cX8_bounds 28 = .ok (.iconst 0, 1) := by decide +kernel
theorem dX8_bounds_29 : decode cX8_bounds 29 = .ok (.istore_n 1, 1) := by decide +kernel
theorem dX8_bounds_30 : decode cX8_bounds 30 = .ok (.iload_n 1, 1) := by decide +kernel
theorem dX8_bounds_31 : decode cX8_bounds 31 = .ok (.bipush 7, 2) := by decide +kernel
theorem dX8_bounds_33 : decode cX8_bounds 33 = .ok (.aload_n 0, 1) := by decide +kernel
theorem dX8_bounds_34 : decode cX8_bounds 34 = .ok (.getfield 100, 3) := by decide +kernel
theorem dX8_bounds_37 : decode cX8_bounds 37 = .ok (.imul, 1) := by decide +kernel
theorem dX8_bounds_38 : decode cX8_bounds 38 = .ok (.if_icmp .ge 29, 3) := by decide +kernel
theorem dX8_bounds_41 : decode cX8_bounds 41 = .ok (.aload_n 0, 1) := by decide +kernel
theorem dX8_bounds_42 : decode cX8_bounds 42 = .ok (.getfield 13, 3) := by decide +kernel
theorem dX8_bounds_45 : decode cX8_bounds 45 = .ok (.bipush 7, 2) := by decide +kernel
theorem dX8_bounds_47 : decode cX8_bounds 47 = .ok (.aload_n 0, 1) := by decide +kernel
theorem dX8_bounds_48 : decode cX8_bounds 48 = .ok (.getfield 119, 3) := by decide +kernel
theorem dX8_bounds_51 : decode cX8_bounds 51 = .ok (.imul, 1) := by decide +kernel
theorem dX8_bounds_52 : decode cX8_bounds 52 = .ok (.iload_n 1, 1) := by decide +kernel
theorem dX8_bounds_53 : decode cX8_bounds 53 = .ok (.iadd, 1) := by decide +kernel
theorem dX8_bounds_54 : decode cX8_bounds 54 = .ok (.aload_n 0, 1) := by decide +kernel
theorem dX8_bounds_55 : decode cX8_bounds 55 = .ok (.getfield 16, 3) := by decide +kernel
theorem dX8_bounds_58 : decode cX8_bounds 58 = .ok (.iload_n 1, 1) := by decide +kernel
theorem dX8_bounds_59 : decode cX8_bounds 59 = .ok (.iaload, 1) := by decide +kernel
theorem dX8_bounds_60 : decode cX8_bounds 60 = .ok (.iastore, 1) := by decide +kernel
theorem dX8_bounds_61 : decode cX8_bounds 61 = .ok (.iinc 1 1, 3) := by decide +kernel
theorem dX8_bounds_64 : decode cX8_bounds 64 = .ok (.goto (-34), 3) := by decide +kernel
theorem dX8_bounds_67 : decode cX8_bounds 67 = .ok (.aload_n 0, 1) := by decide +kernel
theorem dX8_bounds_68 : decode cX8_bounds 68 = .ok (.dup, 1) := by decide +kernel
theorem dX8_bounds_69 : decode cX8_bounds 69 = .ok (.getfield 119, 3) := by decide +kernel
theorem dX8_bounds_72 : decode cX8_bounds 72 = .ok (.aload_n 0, 1) := by decide +kernel
theorem dX8_bounds_73 : decode cX8_bounds 73 = .ok (.getfield 100, 3) := by decide +kernel
theorem dX8_bounds_76 : decode cX8_bounds 76 = .ok (.iadd, 1) := by decide +kernel
theorem dX8_bounds_77 : decode cX8_bounds 77 = .ok (.putfield 119, 3) := by decide +kernel
theorem dX8_bounds_80 : decode cX8_bounds 80 = .ok (.aload_n 0, 1) := by decide +kernel
theorem dX8_bounds_81 : decode cX8_bounds 81 = .ok (.iconst 0, 1) := by decide +kernel
theorem dX8_bounds_82 : decode cX8_bounds 82 = .ok (.putfield 65, 3) := by decide +kernel
theorem dX8_bounds_85 : decode cX8_bounds 85 = .ok (.aload_n 0, 1) := by decide +kernel
theorem dX8_bounds_86 : decode cX8_bounds 86 = .ok (.getfield 119, 3) := by decide +kernel
theorem dX8_bounds_89 : decode cX8_bounds 89 = .ok (.ireturn, 1) := by decide +kernel
set_option maxRecDepth 20000 in
theorem ggX8_isBound_X8_in : GoodIn wsX8_isBound wsX8_in := goodIn_r _ [5] (by decide +kernel) (by decide +kernel)
set_option maxRecDepth 20000 in
theorem gX8_isBound_X8_in : GoodIn wsX8_isBound (va_wsS RX8 57 yX8_in wsX8_in) := goodIn_app (goodIn_of _ (by decide +kernel)) ggX8_isBound_X8_in
theorem dX8_isBound_0 : decode cX8_isBound 0 = .ok (.iload_n 1, 1) := by decide +kernel
theorem dX8_isBound_1 : decode cX8_isBound 1 = .ok (.i2l, 1) := by decide +kernel
theorem dX8_isBound_2 : decode cX8_isBound 2 = .ok (.lconst 0, 1) := by decide +kernel
theorem dX8_isBound_3 : decode cX8_isBound 3 = .ok (.aload_n 0, 1) := by decide +kernel
theorem dX8_isBound_4 : decode cX8_isBound 4 = .ok (.getfield 119, 3) := by decide +kernel
theorem dX8_isBound_7 : decode cX8_isBound 7 = .ok (.iconst 1, 1) := by decide +kernel
theorem dX8_isBound_8 : decode cX8_isBound 8 = .ok (.isub, 1) := by decide +kernel
theorem dX8_isBound_9 : decode cX8_isBound 9 = .ok (.i2l, 1) := by decide +kernel
theorem dX8_isBound_10 : decode cX8_isBound 10 = .ok (.invokestatic 57, 3) := by decide +kernel
theorem dX8_isBound_13 : decode cX8_isBound 13 = .ok (.ireturn, 1) := by decide +kernel
set_option maxRecDepth 20000 in
theorem ggX8_strike_X8_isBound : GoodIn wsX8_strike wsX8_isBound := goodIn_r _ [7, 1, 8, 9, 6, 10, 11, 12, 13, 14, 15, 16, 17, 18, 19, 20, 21, 22, 23, 24, 25, 26, 27, 28, 29, 30, 31, 32, 33, 34, 35, 36, 37] (by decide +kernel) (by decide +kernel)
set_option maxRecDepth 20000 in
theorem gX8_strike_X8_isBound : GoodIn wsX8_strike (wsV RX8 122 RX8 yX8_isBound wsX8_isBound) := goodIn_app (goodIn_of _ (by decide +kernel)) ggX8_strike_X8_isBound
theorem dX8_strike_0 : decode cX8_strike 0 = .ok (.aload_n 0, 1) := by decide +kernel
theorem dX8_strike_1 : decode cX8_strike 1 = .ok (.iload_n 1, 1) := by decide +kernel
theorem dX8_strike_2 : decode cX8_strike 2 = .ok (.invokevirtual 122, 3) := by decide +kernel
theorem dX8_strike_5 : decode cX8_strike 5 = .ok (.ifCond .ne 6, 3) := by decide +kernel
theorem dX8_strike_8 : decode cX8_strike 8 = .ok (.bipush (-2), 2) := by decide +kernel
theorem dX8_strike_10 : decode cX8_strike 10 = .ok (.ireturn, 1) := by decide +kernel
theorem dX8_strike_11 : decode cX8_strike 11 = .ok (.bipush 7, 2) := by decide +kernel
theorem dX8_strike_13 : decode cX8_strike 13 = .ok (.iload_n 1, 1) := by decide +kernel
theorem dX8_strike_14 : decode cX8_strike 14 = .ok (.imul, 1) := by decide +kernel
theorem dX8_strike_15 : decode cX8_strike 15 = .ok (.istore_n 2, 1) := by decide +kernel
theorem dX8_strike_16 : decode cX8_strike 16 = .ok (.iload_n 2, 1) := by decide +kernel
theorem dX8_strike_17 : decode cX8_strike 17 = .ok (.bipush 7, 2) := by decide +kernel
theorem dX8_strike_19 : decode cX8_strike 19 = .ok (.aload_n 0, 1) := by decide +kernel
theorem dX8_strike_20 : decode cX8_strike 20 = .ok (.getfield 119, 3) := by decide +kernel
theorem dX8_strike_23 : decode cX8_strike 23 = .ok (.imul, 1) := by decide +kernel
theorem dX8_strike_24 : decode cX8_strike 24 = .ok (.bipush 7, 2) := by decide +kernel
theorem dX8_strike_26 : decode cX8_strike 26 = .ok (.isub, 1) := by decide +kernel
theorem dX8_strike_27 : decode cX8_strike 27 = .ok (.if_icmp .ge 24, 3) := by decide +kernel
theorem dX8_strike_30 : decode cX8_strike 30 = .ok (.aload_n 0, 1) := by decide +kernel
theorem dX8_strike_31 : decode cX8_strike 31 = .ok (.getfield 13, 3) := by decide +kernel
theorem dX8_strike_34 : decode cX8_strike 34 = .ok (.iload_n 2, 1) := by decide +kernel
theorem dX8_strike_35 : decode cX8_strike 35 = .ok (.aload_n 0, 1) := by decide +kernel
theorem dX8_strike_36 : decode cX8_strike 36 = .ok (.getfield 13, 3) := by decide +kernel
theorem dX8_strike_39 : decode cX8_strike 39 = .ok (.iload_n 2, 1) := by decide +kernel
theorem dX8_strike_40 : decode cX8_strike 40 = .ok (.bipush 7, 2) := by decide +kernel
theorem dX8_strike_42 : decode cX8_strike 42 = .ok (.iadd, 1) := by decide +kernel
theorem dX8_strike_43 : decode cX8_strike 43 = .ok (.iaload, 1) := by decide +kernel
theorem dX8_strike_44 : decode cX8_strike 44 = .ok (.iastore, 1) := by decide +kernel
theorem dX8_strike_45 : decode cX8_strike 45 = .ok (.iinc 2 1, 3) := by decide +kernel
theorem dX8_strike_48 : decode cX8_strike 48 = .ok (.goto (-32), 3) := by decide +kernel
theorem dX8_strike_51 : decode cX8_strike 51 = .ok (.aload_n 0, 1) := by decide +kernel
theorem dX8_strike_52 : decode cX8_strike 52 = .ok (.dup, 1) := by decide +kernel
theorem dX8_strike_53 : decode cX8_strike 53 = .ok (.getfield 119, 3) := by decide +kernel
theorem dX8_strike_56 : decode cX8_strike 56 = .ok (.iconst 1, 1) := by decide +kernel
theorem dX8_strike_57 : decode cX8_strike 57 = .ok (.isub, 1) := by decide +kernel
theorem dX8_strike_58 : decode cX8_strike 58 = .ok (.putfield 119, 3) := by decide +kernel
theorem dX8_strike_61 : decode cX8_strike 61 = .ok (.aload_n 0, 1) := by decide +kernel
theorem dX8_strike_62 : decode cX8_strike 62 = .ok (.getfield 119, 3) := by decide +kernel
theorem dX8_strike_65 : decode cX8_strike 65 = .ok (.ireturn, 1) := by decide +kernel
set_option maxRecDepth 20000 in
theorem ggX8_bound_X8_isBound : GoodIn wsX8_bound wsX8_isBound := goodIn_r _ [7, 8, 9, 10, 6, 11, 12, 13, 14, 15, 16, 17, 18, 19, 20, 21, 22, 23, 24, 25, 26, 27, 28, 29, 30, 31, 32, 33, 34, 35, 36, 37, 38] (by decide +kernel) (by decide +kernel)
set_option maxRecDepth 20000 in
theorem gX8_bound_X8_isBound : GoodIn wsX8_bound (wsV RX8 122 RX8 yX8_isBound wsX8_isBound) := goodIn_app (goodIn_of _ (by decide +kernel)) ggX8_bound_X8_isBound
set_option maxRecDepth 20000 in
theorem ggX8_bound_X8_in : GoodIn wsX8_bound wsX8_in := goodIn_r _ [11] (by decide +kernel) (by decide +kernel)
set_option maxRecDepth 20000 in
theorem gX8_bound_X8_in : GoodIn wsX8_bound (va_wsS RX8 57 yX8_in wsX8_in) := goodIn_app (goodIn_of _ (by decide +kernel)) ggX8_bound_X8_in
theorem dX8_bound_0 : decode cX8_bound 0 = .ok (.aload_n 0, 1) := by decide +kernel
theorem dX8_bound_1 : decode cX8_bound 1 = .ok (.iload_n 1, 1) := by decide +kernel
theorem dX8_bound_2 : decode cX8_bound 2 = .ok (.invokevirtual 122, 3) := by decide +kernel
theorem dX8_bound_5 : decode cX8_bound 5 = .ok (.ifCond .ne 6, 3) := by decide +kernel
theorem dX8_bound_8 : decode cX8_bound 8 = .ok (.bipush (-2), 2) := by decide +kernel
theorem dX8_bound_10 : decode cX8_bound 10 = .ok (.ireturn, 1) := by decide +kernel
theorem dX8_bound_11 : decode cX8_bound 11 = .ok (.iload_n 2, 1) := by decide +kernel
theorem dX8_bound_12 : decode cX8_bound 12 = .ok (.i2l, 1) := by decide +kernel
theorem dX8_bound_13 : decode cX8_bound 13 = .ok (.lconst 0, 1) := by decide +kernel
theorem dX8_bound_14 : decode cX8_bound 14 = .ok (.ldc2_w 125, 3) := by decide +kernel
theorem dX8_bound_17 : decode cX8_bound 17 = .ok (.invokestatic 57, 3) := by decide +kernel
theorem dX8_bound_20 : decode cX8_bound 20 = .ok (.ifCond .eq 17, 3) := by decide +kernel
theorem dX8_bound_23 : decode cX8_bound 23 = .ok (.aload_n 0, 1) := by decide +kernel
theorem dX8_bound_24 : decode cX8_bound 24 = .ok (.getfield 13, 3) := by decide +kernel
theorem dX8_bound_27 : decode cX8_bound 27 = .ok (.bipush 7, 2) := by decide +kernel
theorem dX8_bound_29 : decode cX8_bound 29 = .ok (.iload_n 1, 1) := by decide +kernel
theorem dX8_bound_30 : decode cX8_bound 30 = .ok (.imul, 1) := by decide +kernel
theorem dX8_bound_31 : decode cX8_bound 31 = .ok (.iload_n 2, 1) := by decide +kernel
theorem dX8_bound_32 : decode cX8_bound 32 = .ok (.iadd, 1) := by decide +kernel
theorem dX8_bound_33 : decode cX8_bound 33 = .ok (.iaload, 1) := by decide +kernel
theorem dX8_bound_34 : decode cX8_bound 34 = .ok (.goto 5, 3) := by decide +kernel
theorem dX8_bound_37 : decode cX8_bound 37 = .ok (.bipush (-3), 2) := by decide +kernel
theorem dX8_bound_39 : decode cX8_bound 39 = .ok (.ireturn, 1) := by decide +kernel
theorem dX8_reaches_0 : decode cX8_reaches 0 = .ok (.aload_n 0, 1) := by decide +kernel
theorem dX8_reaches_1 : decode cX8_reaches 1 = .ok (.getfield 13, 3) := by decide +kernel
theorem dX8_reaches_4 : decode cX8_reaches 4 = .ok (.bipush 7, 2) := by decide +kernel
theorem dX8_reaches_6 : decode cX8_reaches 6 = .ok (.iload_n 1, 1) := by decide +kernel
theorem dX8_reaches_7 : decode cX8_reaches 7 = .ok (.imul, 1) := by decide +kernel
theorem dX8_reaches_8 : decode cX8_reaches 8 = .ok (.iconst 3, 1) := by decide +kernel
theorem dX8_reaches_9 : decode cX8_reaches 9 = .ok (.iadd, 1) := by decide +kernel
theorem dX8_reaches_10 : decode cX8_reaches 10 = .ok (.iaload, 1) := by decide +kernel
theorem dX8_reaches_11 : decode cX8_reaches 11 = .ok (.istore_n 3, 1) := by decide +kernel
theorem dX8_reaches_12 : decode cX8_reaches 12 = .ok (.aload_n 0, 1) := by decide +kernel
theorem dX8_reaches_13 : decode cX8_reaches 13 = .ok (.getfield 13, 3) := by decide +kernel
theorem dX8_reaches_16 : decode cX8_reaches 16 = .ok (.bipush 7, 2) := by decide +kernel
theorem dX8_reaches_18 : decode cX8_reaches 18 = .ok (.iload_n 1, 1) := by decide +kernel
theorem dX8_reaches_19 : decode cX8_reaches 19 = .ok (.imul, 1) := by decide +kernel
theorem dX8_reaches_20 : decode cX8_reaches 20 = .ok (.iconst 4, 1) := by decide +kernel
theorem dX8_reaches_21 : decode cX8_reaches 21 = .ok (.iadd, 1) := by decide +kernel
theorem dX8_reaches_22 : decode cX8_reaches 22 = .ok (.iaload, 1) := by decide +kernel
theorem dX8_reaches_23 : decode cX8_reaches 23 = .ok (.istore 4, 2) := by decide +kernel
theorem dX8_reaches_25 : decode cX8_reaches 25 = .ok (.iload_n 2, 1) := by decide +kernel
theorem dX8_reaches_26 : decode cX8_reaches 26 = .ok (.bipush 10, 2) := by decide +kernel
theorem dX8_reaches_28 : decode cX8_reaches 28 = .ok (.irem, 1) := by decide +kernel
theorem dX8_reaches_29 : decode cX8_reaches 29 = .ok (.istore 5, 2) := by decide +kernel
theorem dX8_reaches_31 : decode cX8_reaches 31 = .ok (.iload_n 3, 1) := by decide +kernel
theorem dX8_reaches_32 : decode cX8_reaches 32 = .ok (.iconst (-1), 1) := by decide +kernel
theorem dX8_reaches_33 : decode cX8_reaches 33 = .ok (.if_icmp .eq 11, 3) := by decide +kernel
theorem dX8_reaches_36 : decode cX8_reaches 36 = .ok (.iload_n 3, 1) := by decide +kernel
theorem dX8_reaches_37 : decode cX8_reaches 37 = .ok (.iload_n 2, 1) := by decide +kernel
theorem dX8_reaches_38 : decode cX8_reaches 38 = .ok (.bipush 40, 2) := by decide +kernel
theorem dX8_reaches_40 : decode cX8_reaches 40 = .ok (.idiv, 1) := by decide +kernel
theorem dX8_reaches_41 : decode cX8_reaches 41 = .ok (.if_icmp .ne 57, 3) := by decide +kernel
theorem dX8_reaches_44 : decode cX8_reaches 44 = .ok (.iload 4, 2) := by decide +kernel
theorem dX8_reaches_46 : decode cX8_reaches 46 = .ok (.iconst (-1), 1) := by decide +kernel
theorem dX8_reaches_47 : decode cX8_reaches 47 = .ok (.if_icmp .eq 14, 3) := by decide +kernel
theorem dX8_reaches_50 : decode cX8_reaches 50 = .ok (.iload 4, 2) := by decide +kernel
theorem dX8_reaches_52 : decode cX8_reaches 52 = .ok (.iload_n 2, 1) := by decide +kernel
theorem dX8_reaches_53 : decode cX8_reaches 53 = .ok (.bipush 10, 2) := by decide +kernel
theorem dX8_reaches_55 : decode cX8_reaches 55 = .ok (.idiv, 1) := by decide +kernel
theorem dX8_reaches_56 : decode cX8_reaches 56 = .ok (.iconst 4, 1) := by decide +kernel
theorem dX8_reaches_57 : decode cX8_reaches 57 = .ok (.irem, 1) := by decide +kernel
theorem dX8_reaches_58 : decode cX8_reaches 58 = .ok (.if_icmp .ne 40, 3) := by decide +kernel
theorem dX8_reaches_61 : decode cX8_reaches 61 = .ok (.iload 5, 2) := by decide +kernel
theorem dX8_reaches_63 : decode cX8_reaches 63 = .ok (.aload_n 0, 1) := by decide +kernel
theorem dX8_reaches_64 : decode cX8_reaches 64 = .ok (.getfield 13, 3) := by decide +kernel
theorem dX8_reaches_67 : decode cX8_reaches 67 = .ok (.bipush 7, 2) := by decide +kernel
theorem dX8_reaches_69 : decode cX8_reaches 69 = .ok (.iload_n 1, 1) := by decide +kernel
theorem dX8_reaches_70 : decode cX8_reaches 70 = .ok (.imul, 1) := by decide +kernel
theorem dX8_reaches_71 : decode cX8_reaches 71 = .ok (.iconst 5, 1) := by decide +kernel
theorem dX8_reaches_72 : decode cX8_reaches 72 = .ok (.iadd, 1) := by decide +kernel
theorem dX8_reaches_73 : decode cX8_reaches 73 = .ok (.iaload, 1) := by decide +kernel
theorem dX8_reaches_74 : decode cX8_reaches 74 = .ok (.if_icmp .lt 24, 3) := by decide +kernel
theorem dX8_reaches_77 : decode cX8_reaches 77 = .ok (.iload 5, 2) := by decide +kernel
theorem dX8_reaches_79 : decode cX8_reaches 79 = .ok (.aload_n 0, 1) := by decide +kernel
theorem dX8_reaches_80 : decode cX8_reaches 80 = .ok (.getfield 13, 3) := by decide +kernel
theorem dX8_reaches_83 : decode cX8_reaches 83 = .ok (.bipush 7, 2) := by decide +kernel
theorem dX8_reaches_85 : decode cX8_reaches 85 = .ok (.iload_n 1, 1) := by decide +kernel
theorem dX8_reaches_86 : decode cX8_reaches 86 = .ok (.imul, 1) := by decide +kernel
theorem dX8_reaches_87 : decode cX8_reaches 87 = .ok (.bipush 6, 2) := by decide +kernel
theorem dX8_reaches_89 : decode cX8_reaches 89 = .ok (.iadd, 1) := by decide +kernel
theorem dX8_reaches_90 : decode cX8_reaches 90 = .ok (.iaload, 1) := by decide +kernel
theorem dX8_reaches_91 : decode cX8_reaches 91 = .ok (.if_icmp .gt 7, 3) := by decide +kernel
theorem dX8_reaches_94 : decode cX8_reaches 94 = .ok (.iconst 1, 1) := by decide +kernel
theorem dX8_reaches_95 : decode cX8_reaches 95 = .ok (.goto 4, 3) := by decide +kernel
theorem dX8_reaches_98 : decode cX8_reaches 98 = .ok (.iconst 0, 1) := by decide +kernel
theorem dX8_reaches_99 : decode cX8_reaches 99 = .ok (.ireturn, 1) := by decide +kernel
theorem dX8_isThere_0 : decode cX8_isThere 0 = .ok (.iload_n 1, 1) := by decide +kernel
theorem dX8_isThere_1 : decode cX8_isThere 1 = .ok (.aload_n 0, 1) := by decide +kernel
theorem dX8_isThere_2 : decode cX8_isThere 2 = .ok (.getfield 127, 3) := by decide +kernel
theorem dX8_isThere_5 : decode cX8_isThere 5 = .ok (.if_icmp .ge 18, 3) := by decide +kernel
theorem dX8_isThere_8 : decode cX8_isThere 8 = .ok (.aload_n 0, 1) := by decide +kernel
theorem dX8_isThere_9 : decode cX8_isThere 9 = .ok (.getfield 130, 3) := by decide +kernel
theorem dX8_isThere_12 : decode cX8_isThere 12 = .ok (.iload_n 1, 1) := by decide +kernel
theorem dX8_isThere_13 : decode cX8_isThere 13 = .ok (.ishr, 1) := by decide +kernel
theorem dX8_isThere_14 : decode cX8_isThere 14 = .ok (.iconst 1, 1) := by decide +kernel
theorem dX8_isThere_15 : decode cX8_isThere 15 = .ok (.iand, 1) := by decide +kernel
theorem dX8_isThere_16 : decode cX8_isThere 16 = .ok (.ifCond .ne 7, 3) := by decide +kernel
theorem dX8_isThere_19 : decode cX8_isThere 19 = .ok (.iconst 1, 1) := by decide +kernel
theorem dX8_isThere_20 : decode cX8_isThere 20 = .ok (.goto 4, 3) := by decide +kernel
theorem dX8_isThere_23 : decode cX8_isThere 23 = .ok (.iconst 0, 1) := by decide +kernel
theorem dX8_isThere_24 : decode cX8_isThere 24 = .ok (.ireturn, 1) := by decide +kernel
set_option maxRecDepth 20000 in
theorem ggX8_decides_X8_isThere : GoodIn wsX8_decides wsX8_isThere := goodIn_r _ [7, 8, 9, 14, 15, 16, 17, 18, 19, 20, 21, 22, 23, 24, 25, 26, 27, 28, 29, 30, 31, 32, 33, 34, 35, 36, 37, 38, 39, 40] (by decide +kernel) (by decide +kernel)
set_option maxRecDepth 20000 in
theorem gX8_decides_X8_isThere : GoodIn wsX8_decides (wsV RX8 133 RX8 yX8_isThere wsX8_isThere) := goodIn_app (goodIn_of _ (by decide +kernel)) ggX8_decides_X8_isThere
set_option maxRecDepth 20000 in
theorem ggX8_decides_X8_reaches : GoodIn wsX8_decides wsX8_reaches := goodIn_r _ [13, 2, 14, 15, 16, 17, 18, 19, 20, 21, 22, 23, 24, 25, 26, 27, 28, 29, 30, 31, 32, 33, 34, 35, 36, 37, 38, 39, 40] (by decide +kernel) (by decide +kernel)
set_option maxRecDepth 20000 in
theorem gX8_decides_X8_reaches : GoodIn wsX8_decides (wsV RX8 136 RX8 yX8_reaches wsX8_reaches) := goodIn_app (goodIn_of _ (by decide +kernel)) ggX8_decides_X8_reaches
theorem dX8_decides_0 : decode cX8_decides 0 = .ok (.iconst (-1), 1) := by decide +kernel
theorem dX8_decides_1 : decode cX8_decides 1 = .ok (.istore_n 3, 1) := by decide +kernel
theorem dX8_decides_2 : decode cX8_decides 2 = .ok (.iconst (-1), 1) := by decide +kernel
theorem dX8_decides_3 : decode cX8_decides 3 = .ok (.istore 4, 2) := by decide +kernel
theorem dX8_decides_5 : decode cX8_decides 5 = .ok (.iconst (-1), 1) := by decide +kernel
theorem dX8_decides_6 : decode cX8_decides 6 = .ok (.istore 5, 2) := by decide +kernel
theorem dX8_decides_8 : decode cX8_decides 8 = .ok (.iconst 0, 1) := by decide +kernel
theorem dX8_decides_9 : decode cX8_decides 9 = .ok (.istore 6, 2) := by decide +kernel
theorem dX8_decides_11 : decode cX8_decides 11 = .ok (.iload 6, 2) := by decide +kernel
theorem dX8_decides_13 : decode cX8_decides 13 = .ok (.aload_n 0, 1) := by decide +kernel
theorem dX8_decides_14 : decode cX8_decides 14 = .ok (.getfield 119, 3) := by decide +kernel
theorem dX8_decides_17 : decode cX8_decides 17 = .ok (.if_icmp .ge 141, 3) := by decide +kernel
theorem dX8_decides_20 : decode cX8_decides 20 = .ok (.aload_n 0, 1) := by decide +kernel
theorem dX8_decides_21 : decode cX8_decides 21 = .ok (.iload 6, 2) := by decide +kernel
theorem dX8_decides_23 : decode cX8_decides 23 = .ok (.invokevirtual 133, 3) := by decide +kernel
theorem dX8_decides_26 : decode cX8_decides 26 = .ok (.ifCond .eq 126, 3) := by decide +kernel
theorem dX8_decides_29 : decode cX8_decides 29 = .ok (.aload_n 0, 1) := by decide +kernel
theorem dX8_decides_30 : decode cX8_decides 30 = .ok (.iload 6, 2) := by decide +kernel
theorem dX8_decides_32 : decode cX8_decides 32 = .ok (.iload_n 2, 1) := by decide +kernel
theorem dX8_decides_33 : decode cX8_decides 33 = .ok (.invokevirtual 136, 3) := by decide +kernel
theorem dX8_decides_36 : decode cX8_decides 36 = .ok (.ifCond .eq 116, 3) := by decide +kernel
theorem dX8_decides_39 : decode cX8_decides 39 = .ok (.aload_n 0, 1) := by decide +kernel
theorem dX8_decides_40 : decode cX8_decides 40 = .ok (.getfield 13, 3) := by decide +kernel
theorem dX8_decides_43 : decode cX8_decides 43 = .ok (.bipush 7, 2) := by decide +kernel
theorem dX8_decides_45 : decode cX8_decides 45 = .ok (.iload 6, 2) := by decide +kernel
theorem dX8_decides_47 : decode cX8_decides 47 = .ok (.imul, 1) := by decide +kernel
theorem dX8_decides_48 : decode cX8_decides 48 = .ok (.iaload, 1) := by decide +kernel
theorem dX8_decides_49 : decode cX8_decides 49 = .ok (.istore 7, 2) := by decide +kernel
theorem dX8_decides_51 : decode cX8_decides 51 = .ok (.aload_n 0, 1) := by decide +kernel
theorem dX8_decides_52 : decode cX8_decides 52 = .ok (.getfield 13, 3) := by decide +kernel
theorem dX8_decides_55 : decode cX8_decides 55 = .ok (.bipush 7, 2) := by decide +kernel
theorem dX8_decides_57 : decode cX8_decides 57 = .ok (.iload 6, 2) := by decide +kernel
theorem dX8_decides_59 : decode cX8_decides 59 = .ok (.imul, 1) := by decide +kernel
theorem dX8_decides_60 : decode cX8_decides 60 = .ok (.iconst 1, 1) := by decide +kernel
theorem dX8_decides_61 : decode cX8_decides 61 = .ok (.iadd, 1) := by decide +kernel
theorem dX8_decides_62 : decode cX8_decides 62 = .ok (.iaload, 1) := by decide +kernel
theorem dX8_decides_63 : decode cX8_decides 63 = .ok (.iload_n 1, 1) := by decide +kernel
theorem dX8_decides_64 : decode cX8_decides 64 = .ok (.if_icmp .ne 7, 3) := by decide +kernel
theorem dX8_decides_67 : decode cX8_decides 67 = .ok (.iconst 1, 1) := by decide +kernel
theorem dX8_decides_68 : decode cX8_decides 68 = .ok (.goto 4, 3) := by decide +kernel
theorem dX8_decides_71 : decode cX8_decides 71 = .ok (.iconst 0, 1) := by decide +kernel
theorem dX8_decides_72 : decode cX8_decides 72 = .ok (.istore 8, 2) := by decide +kernel
theorem dX8_decides_74 : decode cX8_decides 74 = .ok (.iload 7, 2) := by decide +kernel
theorem dX8_decides_76 : decode cX8_decides 76 = .ok (.iconst 4, 1) := by decide +kernel
theorem dX8_decides_77 : decode cX8_decides 77 = .ok (.if_icmp .ne 11, 3) := by decide +kernel
theorem dX8_decides_80 : decode cX8_decides 80 = .ok (.iload 8, 2) := by decide +kernel
theorem dX8_decides_82 : decode cX8_decides 82 = .ok (.ifCond .eq 6, 3) := by decide +kernel
theorem dX8_decides_85 : decode cX8_decides 85 = .ok (.iload 6, 2) := by decide +kernel
theorem dX8_decides_87 : decode cX8_decides 87 = .ok (.ireturn, 1) := by decide +kernel
theorem dX8_decides_88 : decode cX8_decides 88 = .ok (.iload 7, 2) := by decide +kernel
theorem dX8_decides_90 : decode cX8_decides 90 = .ok (.iconst 2, 1) := by decide +kernel
theorem dX8_decides_91 : decode cX8_decides 91 = .ok (.if_icmp .ne 13, 3) := by decide +kernel
theorem dX8_decides_94 : decode cX8_decides 94 = .ok (.iload 8, 2) := by decide +kernel
theorem dX8_decides_96 : decode cX8_decides 96 = .ok (.ifCond .eq 8, 3) := by decide +kernel
theorem dX8_decides_99 : decode cX8_decides 99 = .ok (.iload 6, 2) := by decide +kernel
theorem dX8_decides_101 : decode cX8_decides 101 = .ok (.goto 4, 3) := by decide +kernel
theorem dX8_decides_104 : decode cX8_decides 104 = .ok (.iload_n 3, 1) := by decide +kernel
theorem dX8_decides_105 : decode cX8_decides 105 = .ok (.istore_n 3, 1) := by decide +kernel
theorem dX8_decides_106 : decode cX8_decides 106 = .ok (.iload 7, 2) := by decide +kernel
theorem dX8_decides_108 : decode cX8_decides 108 = .ok (.iconst 2, 1) := by decide +kernel
theorem dX8_decides_109 : decode cX8_decides 109 = .ok (.if_icmp .ne 19, 3) := by decide +kernel
theorem dX8_decides_112 : decode cX8_decides 112 = .ok (.iload 8, 2) := by decide +kernel
theorem dX8_decides_114 : decode cX8_decides 114 = .ok (.ifCond .ne 14, 3) := by decide +kernel
theorem dX8_decides_117 : decode cX8_decides 117 = .ok (.iload 4, 2) := by decide +kernel
theorem dX8_decides_119 : decode cX8_decides 119 = .ok (.iconst (-1), 1) := by decide +kernel
theorem dX8_decides_120 : decode cX8_decides 120 = .ok (.if_icmp .ne 8, 3) := by decide +kernel
theorem dX8_decides_123 : decode cX8_decides 123 = .ok (.iload 6, 2) := by decide +kernel
theorem dX8_decides_125 : decode cX8_decides 125 = .ok (.goto 5, 3) := by decide +kernel
theorem dX8_decides_128 : decode cX8_decides 128 = .ok (.iload 4, 2) := by decide +kernel
theorem dX8_decides_130 : decode cX8_decides 130 = .ok (.istore 4, 2) := by decide +kernel
theorem dX8_decides_132 : decode cX8_decides 132 = .ok (.iload 7, 2) := by decide +kernel
theorem dX8_decides_134 : decode cX8_decides 134 = .ok (.iconst 4, 1) := by decide +kernel
theorem dX8_decides_135 : decode cX8_decides 135 = .ok (.if_icmp .eq 13, 3) := by decide +kernel
theorem dX8_decides_138 : decode cX8_decides 138 = .ok (.iload 8, 2) := by decide +kernel
theorem dX8_decides_140 : decode cX8_decides 140 = .ok (.ifCond .eq 8, 3) := by decide +kernel
theorem dX8_decides_143 : decode cX8_decides 143 = .ok (.iload 6, 2) := by decide +kernel
theorem dX8_decides_145 : decode cX8_decides 145 = .ok (.goto 5, 3) := by decide +kernel
theorem dX8_decides_148 : decode cX8_decides 148 = .ok (.iload 5, 2) := by decide +kernel
theorem dX8_decides_150 : decode cX8_decides 150 = .ok (.istore 5, 2) := by decide +kernel
theorem dX8_decides_152 : decode cX8_decides 152 = .ok (.iinc 6 1, 3) := by decide +kernel
theorem dX8_decides_155 : decode cX8_decides 155 = .ok (.goto (-144), 3) := by decide +kernel
theorem dX8_decides_158 : decode cX8_decides 158 = .ok (.iload 4, 2) := by decide +kernel
theorem dX8_decides_160 : decode cX8_decides 160 = .ok (.iconst (-1), 1) := by decide +kernel
theorem dX8_decides_161 : decode cX8_decides 161 = .ok (.if_icmp .eq 13, 3) := by decide +kernel
theorem dX8_decides_164 : decode cX8_decides 164 = .ok (.iload_n 3, 1) := by decide +kernel
theorem dX8_decides_165 : decode cX8_decides 165 = .ok (.iconst (-1), 1) := by decide +kernel
theorem dX8_decides_166 : decode cX8_decides 166 = .ok (.if_icmp .ne 8, 3) := by decide +kernel
theorem dX8_decides_169 : decode cX8_decides 169 = .ok (.iload 4, 2) := by decide +kernel
theorem dX8_decides_171 : decode cX8_decides 171 = .ok (.goto 5, 3) := by decide +kernel
theorem dX8_decides_174 : decode cX8_decides 174 = .ok (.iload 5, 2) := by decide +kernel
theorem dX8_decides_176 : decode cX8_decides 176 = .ok (.ireturn, 1) := by decide +kernel
set_option maxRecDepth 20000 in
theorem ggX8_code_X8_decides : GoodIn wsX8_code wsX8_decides := goodIn_r _ [6, 7, 1, 8, 9, 10, 5, 11, 12, 13, 14, 15, 16, 17, 18, 19, 20, 21, 22, 23, 24, 25, 26, 27, 28, 29, 30, 31, 32, 33, 34, 35, 36, 37, 38, 39, 40, 41, 42, 43, 44] (by decide +kernel) (by decide +kernel)
set_option maxRecDepth 20000 in
theorem gX8_code_X8_decides : GoodIn wsX8_code (wsV RX8 139 RX8 yX8_decides wsX8_decides) := goodIn_app (goodIn_of _ (by decide +kernel)) ggX8_code_X8_decides
theorem dX8_code_0 : decode cX8_code 0 = .ok (.aload_n 0, 1) := by decide +kernel
theorem dX8_code_1 : decode cX8_code 1 = .ok (.iload_n 1, 1) := by decide +kernel
theorem dX8_code_2 : decode cX8_code 2 = .ok (.iload_n 2, 1) := by decide +kernel
theorem dX8_code_3 : decode cX8_code 3 = .ok (.invokevirtual 139, 3) := by decide +kernel
theorem dX8_code_6 : decode cX8_code 6 = .ok (.istore_n 3, 1) := by decide +kernel
theorem dX8_code_7 : decode cX8_code 7 = .ok (.iload_n 3, 1) := by decide +kernel
theorem dX8_code_8 : decode cX8_code 8 = .ok (.iconst (-1), 1) := by decide +kernel
theorem dX8_code_9 : decode cX8_code 9 = .ok (.if_icmp .eq 31, 3) := by decide +kernel
theorem dX8_code_12 : decode cX8_code 12 = .ok (.aload_n 0, 1) := by decide +kernel
theorem dX8_code_13 : decode cX8_code 13 = .ok (.getfield 13, 3) := by decide +kernel
theorem dX8_code_16 : decode cX8_code 16 = .ok (.bipush 7, 2) := by decide +kernel
theorem dX8_code_18 : decode cX8_code 18 = .ok (.iload_n 3, 1) := by decide +kernel
theorem dX8_code_19 : decode cX8_code 19 = .ok (.imul, 1) := by decide +kernel
theorem dX8_code_20 : decode cX8_code 20 = .ok (.iconst 1, 1) := by decide +kernel
theorem dX8_code_21 : decode cX8_code 21 = .ok (.iadd, 1) := by decide +kernel
theorem dX8_code_22 : decode cX8_code 22 = .ok (.iaload, 1) := by decide +kernel
theorem dX8_code_23 : decode cX8_code 23 = .ok (.iload_n 1, 1) := by decide +kernel
theorem dX8_code_24 : decode cX8_code 24 = .ok (.if_icmp .ne 16, 3) := by decide +kernel
theorem dX8_code_27 : decode cX8_code 27 = .ok (.aload_n 0, 1) := by decide +kernel
theorem dX8_code_28 : decode cX8_code 28 = .ok (.getfield 13, 3) := by decide +kernel
theorem dX8_code_31 : decode cX8_code 31 = .ok (.bipush 7, 2) := by decide +kernel
theorem dX8_code_33 : decode cX8_code 33 = .ok (.iload_n 3, 1) := by decide +kernel
theorem dX8_code_34 : decode cX8_code 34 = .ok (.imul, 1) := by decide +kernel
theorem dX8_code_35 : decode cX8_code 35 = .ok (.iaload, 1) := by decide +kernel
theorem dX8_code_36 : decode cX8_code 36 = .ok (.iconst 1, 1) := by decide +kernel
theorem dX8_code_37 : decode cX8_code 37 = .ok (.if_icmp .ne 5, 3) := by decide +kernel
theorem dX8_code_40 : decode cX8_code 40 = .ok (.iconst 0, 1) := by decide +kernel
theorem dX8_code_41 : decode cX8_code 41 = .ok (.ireturn, 1) := by decide +kernel
theorem dX8_code_42 : decode cX8_code 42 = .ok (.aload_n 0, 1) := by decide +kernel
theorem dX8_code_43 : decode cX8_code 43 = .ok (.getfield 13, 3) := by decide +kernel
theorem dX8_code_46 : decode cX8_code 46 = .ok (.bipush 7, 2) := by decide +kernel
theorem dX8_code_48 : decode cX8_code 48 = .ok (.iload_n 3, 1) := by decide +kernel
theorem dX8_code_49 : decode cX8_code 49 = .ok (.imul, 1) := by decide +kernel
theorem dX8_code_50 : decode cX8_code 50 = .ok (.iaload, 1) := by decide +kernel
theorem dX8_code_51 : decode cX8_code 51 = .ok (.iconst 3, 1) := by decide +kernel
theorem dX8_code_52 : decode cX8_code 52 = .ok (.if_icmp .ne 19, 3) := by decide +kernel
theorem dX8_code_55 : decode cX8_code 55 = .ok (.iconst 2, 1) := by decide +kernel
theorem dX8_code_56 : decode cX8_code 56 = .ok (.aload_n 0, 1) := by decide +kernel
theorem dX8_code_57 : decode cX8_code 57 = .ok (.getfield 13, 3) := by decide +kernel
theorem dX8_code_60 : decode cX8_code 60 = .ok (.bipush 7, 2) := by decide +kernel
theorem dX8_code_62 : decode cX8_code 62 = .ok (.iload_n 3, 1) := by decide +kernel
theorem dX8_code_63 : decode cX8_code 63 = .ok (.imul, 1) := by decide +kernel
theorem dX8_code_64 : decode cX8_code 64 = .ok (.iconst 2, 1) := by decide +kernel
theorem dX8_code_65 : decode cX8_code 65 = .ok (.iadd, 1) := by decide +kernel
theorem dX8_code_66 : decode cX8_code 66 = .ok (.iaload, 1) := by decide +kernel
theorem dX8_code_67 : decode cX8_code 67 = .ok (.iadd, 1) := by decide +kernel
theorem dX8_code_68 : decode cX8_code 68 = .ok (.goto 4, 3) := by decide +kernel
theorem dX8_code_71 : decode cX8_code 71 = .ok (.iconst 1, 1) := by decide +kernel
theorem dX8_code_72 : decode cX8_code 72 = .ok (.ireturn, 1) := by decide +kernel
theorem dX8_allThere_0 : decode cX8_allThere 0 = .ok (.aload_n 0, 1) := by decide +kernel
theorem dX8_allThere_1 : decode cX8_allThere 1 = .ok (.iconst 0, 1) := by decide +kernel
theorem dX8_allThere_2 : decode cX8_allThere 2 = .ok (.putfield 130, 3) := by decide +kernel
theorem dX8_allThere_5 : decode cX8_allThere 5 = .ok (.aload_n 0, 1) := by decide +kernel
theorem dX8_allThere_6 : decode cX8_allThere 6 = .ok (.aload_n 0, 1) := by decide +kernel
theorem dX8_allThere_7 : decode cX8_allThere 7 = .ok (.getfield 119, 3) := by decide +kernel
theorem dX8_allThere_10 : decode cX8_allThere 10 = .ok (.putfield 127, 3) := by decide +kernel
theorem dX8_allThere_13 : decode cX8_allThere 13 = .ok (.return_, 1) := by decide +kernel
set_option maxRecDepth 20000 in
theorem ggX8_may_X8_isGuild : GoodIn wsX8_may wsX8_isGuild := goodIn_r _ [4, 5, 6, 7, 3, 8] (by decide +kernel) (by decide +kernel)
set_option maxRecDepth 20000 in
theorem gX8_may_X8_isGuild : GoodIn wsX8_may (va_wsS RX8 142 yX8_isGuild wsX8_isGuild) := goodIn_app (goodIn_of _ (by decide +kernel)) ggX8_may_X8_isGuild
set_option maxRecDepth 20000 in
theorem ggX8_may_X8_isWork : GoodIn wsX8_may wsX8_isWork := goodIn_r _ [11, 12, 6, 7, 3, 8] (by decide +kernel) (by decide +kernel)
set_option maxRecDepth 20000 in
theorem gX8_may_X8_isWork : GoodIn wsX8_may (va_wsS RX8 145 yX8_isWork wsX8_isWork) := goodIn_app (goodIn_of _ (by decide +kernel)) ggX8_may_X8_isWork
set_option maxRecDepth 20000 in
theorem ggX8_may_X8_allThere : GoodIn wsX8_may wsX8_allThere := goodIn_r _ [16, 17, 18, 19, 37, 38, 39, 40, 41, 42, 43, 44, 45, 46, 47, 48, 49, 50, 51, 52, 53, 54, 55, 56, 57, 58, 59, 60, 61, 62, 63] (by decide +kernel) (by decide +kernel)
set_option maxRecDepth 20000 in
theorem gX8_may_X8_allThere : GoodIn wsX8_may (wsV RX8 148 RX8 yX8_allThere wsX8_allThere) := goodIn_app (goodIn_of _ (by decide +kernel)) ggX8_may_X8_allThere
set_option maxRecDepth 20000 in
theorem ggX8_may_X8_code : GoodIn wsX8_may wsX8_code := goodIn_r _ [23, 24, 25, 26, 27, 3, 28, 18, 29, 30, 31, 32, 19, 17, 33, 34, 35, 36, 37, 38, 39, 40, 41, 42, 43, 44, 45, 46, 47, 48, 49, 50, 51, 52, 53, 54, 55, 56, 57, 58, 59, 60, 61, 62, 63] (by decide +kernel) (by decide +kernel)
set_option maxRecDepth 20000 in
theorem gX8_may_X8_code : GoodIn wsX8_may (wsV RX8 151 RX8 yX8_code wsX8_code) := goodIn_app (goodIn_of _ (by decide +kernel)) ggX8_may_X8_code
theorem dX8_may_0 : decode cX8_may 0 = .ok (.iload_n 1, 1) := by decide +kernel
theorem dX8_may_1 : decode cX8_may 1 = .ok (.invokestatic 142, 3) := by decide +kernel
theorem dX8_may_4 : decode cX8_may 4 = .ok (.ifCond .eq 10, 3) := by decide +kernel
theorem dX8_may_7 : decode cX8_may 7 = .ok (.iload_n 2, 1) := by decide +kernel
theorem dX8_may_8 : decode cX8_may 8 = .ok (.invokestatic 145, 3) := by decide +kernel
theorem dX8_may_11 : decode cX8_may 11 = .ok (.ifCond .ne 6, 3) := by decide +kernel
theorem dX8_may_14 : decode cX8_may 14 = .ok (.bipush (-2), 2) := by decide +kernel
theorem dX8_may_16 : decode cX8_may 16 = .ok (.ireturn, 1) := by decide +kernel
theorem dX8_may_17 : decode cX8_may 17 = .ok (.aload_n 0, 1) := by decide +kernel
theorem dX8_may_18 : decode cX8_may 18 = .ok (.invokevirtual 148, 3) := by decide +kernel
theorem dX8_may_21 : decode cX8_may 21 = .ok (.aload_n 0, 1) := by decide +kernel
theorem dX8_may_22 : decode cX8_may 22 = .ok (.iload_n 1, 1) := by decide +kernel
theorem dX8_may_23 : decode cX8_may 23 = .ok (.iload_n 2, 1) := by decide +kernel
theorem dX8_may_24 : decode cX8_may 24 = .ok (.invokevirtual 151, 3) := by decide +kernel
theorem dX8_may_27 : decode cX8_may 27 = .ok (.ireturn, 1) := by decide +kernel
set_option maxRecDepth 20000 in
theorem ggX8_why_X8_isGuild : GoodIn wsX8_why wsX8_isGuild := goodIn_r _ [4, 5, 6, 7, 3, 8] (by decide +kernel) (by decide +kernel)
set_option maxRecDepth 20000 in
theorem gX8_why_X8_isGuild : GoodIn wsX8_why (va_wsS RX8 142 yX8_isGuild wsX8_isGuild) := goodIn_app (goodIn_of _ (by decide +kernel)) ggX8_why_X8_isGuild
set_option maxRecDepth 20000 in
theorem ggX8_why_X8_isWork : GoodIn wsX8_why wsX8_isWork := goodIn_r _ [11, 12, 6, 7, 3, 8] (by decide +kernel) (by decide +kernel)
set_option maxRecDepth 20000 in
theorem gX8_why_X8_isWork : GoodIn wsX8_why (va_wsS RX8 145 yX8_isWork wsX8_isWork) := goodIn_app (goodIn_of _ (by decide +kernel)) ggX8_why_X8_isWork
set_option maxRecDepth 20000 in
theorem ggX8_why_X8_allThere : GoodIn wsX8_why wsX8_allThere := goodIn_r _ [16, 17, 18, 19, 33, 34, 35, 36, 37, 38, 39, 40, 41, 42, 43, 44, 45, 46, 47, 48, 49, 50, 51, 52, 53, 54, 55, 56, 57, 58, 59] (by decide +kernel) (by decide +kernel)
set_option maxRecDepth 20000 in
theorem gX8_why_X8_allThere : GoodIn wsX8_why (wsV RX8 148 RX8 yX8_allThere wsX8_allThere) := goodIn_app (goodIn_of _ (by decide +kernel)) ggX8_why_X8_allThere
set_option maxRecDepth 20000 in
theorem ggX8_why_X8_decides : GoodIn wsX8_why wsX8_decides := goodIn_r _ [23, 18, 24, 25, 26, 27, 3, 28, 19, 17, 29, 30, 31, 32, 33, 34, 35, 36, 37, 38, 39, 40, 41, 42, 43, 44, 45, 46, 47, 48, 49, 50, 51, 52, 53, 54, 55, 56, 57, 58, 59] (by decide +kernel) (by decide +kernel)
set_option maxRecDepth 20000 in
theorem gX8_why_X8_decides : GoodIn wsX8_why (wsV RX8 139 RX8 yX8_decides wsX8_decides) := goodIn_app (goodIn_of _ (by decide +kernel)) ggX8_why_X8_decides
theorem dX8_why_0 : decode cX8_why 0 = .ok (.iload_n 1, 1) := by decide +kernel
theorem dX8_why_1 : decode cX8_why 1 = .ok (.invokestatic 142, 3) := by decide +kernel
theorem dX8_why_4 : decode cX8_why 4 = .ok (.ifCond .eq 10, 3) := by decide +kernel
theorem dX8_why_7 : decode cX8_why 7 = .ok (.iload_n 2, 1) := by decide +kernel
theorem dX8_why_8 : decode cX8_why 8 = .ok (.invokestatic 145, 3) := by decide +kernel
theorem dX8_why_11 : decode cX8_why 11 = .ok (.ifCond .ne 6, 3) := by decide +kernel
theorem dX8_why_14 : decode cX8_why 14 = .ok (.bipush (-2), 2) := by decide +kernel
theorem dX8_why_16 : decode cX8_why 16 = .ok (.ireturn, 1) := by decide +kernel
theorem dX8_why_17 : decode cX8_why 17 = .ok (.aload_n 0, 1) := by decide +kernel
theorem dX8_why_18 : decode cX8_why 18 = .ok (.invokevirtual 148, 3) := by decide +kernel
theorem dX8_why_21 : decode cX8_why 21 = .ok (.aload_n 0, 1) := by decide +kernel
theorem dX8_why_22 : decode cX8_why 22 = .ok (.iload_n 1, 1) := by decide +kernel
theorem dX8_why_23 : decode cX8_why 23 = .ok (.iload_n 2, 1) := by decide +kernel
theorem dX8_why_24 : decode cX8_why 24 = .ok (.invokevirtual 139, 3) := by decide +kernel
theorem dX8_why_27 : decode cX8_why 27 = .ok (.ireturn, 1) := by decide +kernel
set_option maxRecDepth 20000 in
theorem ggX8_whoMay_X8_code : GoodIn wsX8_whoMay wsX8_code := goodIn_r _ [5, 6, 7, 8, 9, 4, 10, 11, 12, 13, 14, 15, 16, 17, 18, 19, 20, 21, 22, 23, 24, 25, 26, 27, 28, 29, 30, 31, 32, 33, 34, 35, 36, 37, 38, 39, 40, 41, 42, 43, 44, 45, 46, 47, 48] (by decide +kernel) (by decide +kernel)
set_option maxRecDepth 20000 in
theorem gX8_whoMay_X8_code : GoodIn wsX8_whoMay (wsV RX8 151 RX8 yX8_code wsX8_code) := goodIn_app (goodIn_of _ (by decide +kernel)) ggX8_whoMay_X8_code
theorem dX8_whoMay_0 : decode cX8_whoMay 0 = .ok (.iconst 0, 1) := by decide +kernel
theorem dX8_whoMay_1 : decode cX8_whoMay 1 = .ok (.istore_n 2, 1) := by decide +kernel
theorem dX8_whoMay_2 : decode cX8_whoMay 2 = .ok (.iconst 0, 1) := by decide +kernel
theorem dX8_whoMay_3 : decode cX8_whoMay 3 = .ok (.istore_n 3, 1) := by decide +kernel
theorem dX8_whoMay_4 : decode cX8_whoMay 4 = .ok (.iload_n 3, 1) := by decide +kernel
theorem dX8_whoMay_5 : decode cX8_whoMay 5 = .ok (.bipush 6, 2) := by decide +kernel
theorem dX8_whoMay_7 : decode cX8_whoMay 7 = .ok (.if_icmp .ge 28, 3) := by decide +kernel
theorem dX8_whoMay_10 : decode cX8_whoMay 10 = .ok (.iload_n 2, 1) := by decide +kernel
theorem dX8_whoMay_11 : decode cX8_whoMay 11 = .ok (.aload_n 0, 1) := by decide +kernel
theorem dX8_whoMay_12 : decode cX8_whoMay 12 = .ok (.iload_n 3, 1) := by decide +kernel
theorem dX8_whoMay_13 : decode cX8_whoMay 13 = .ok (.iload_n 1, 1) := by decide +kernel
theorem dX8_whoMay_14 : decode cX8_whoMay 14 = .ok (.invokevirtual 151, 3) := by decide +kernel
theorem dX8_whoMay_17 : decode cX8_whoMay 17 = .ok (.ifCond .le 9, 3) := by decide +kernel
theorem dX8_whoMay_20 : decode cX8_whoMay 20 = .ok (.iconst 1, 1) := by decide +kernel
theorem dX8_whoMay_21 : decode cX8_whoMay 21 = .ok (.iload_n 3, 1) := by decide +kernel
theorem dX8_whoMay_22 : decode cX8_whoMay 22 = .ok (.ishl, 1) := by decide +kernel
theorem dX8_whoMay_23 : decode cX8_whoMay 23 = .ok (.goto 4, 3) := by decide +kernel
theorem dX8_whoMay_26 : decode cX8_whoMay 26 = .ok (.iconst 0, 1) := by decide +kernel
theorem dX8_whoMay_27 : decode cX8_whoMay 27 = .ok (.ior, 1) := by decide +kernel
theorem dX8_whoMay_28 : decode cX8_whoMay 28 = .ok (.istore_n 2, 1) := by decide +kernel
theorem dX8_whoMay_29 : decode cX8_whoMay 29 = .ok (.iinc 3 1, 3) := by decide +kernel
theorem dX8_whoMay_32 : decode cX8_whoMay 32 = .ok (.goto (-28), 3) := by decide +kernel
theorem dX8_whoMay_35 : decode cX8_whoMay 35 = .ok (.iload_n 2, 1) := by decide +kernel
theorem dX8_whoMay_36 : decode cX8_whoMay 36 = .ok (.ireturn, 1) := by decide +kernel
set_option maxRecDepth 20000 in
theorem ggX8_who_X8_isWork : GoodIn wsX8_who wsX8_isWork := goodIn_r _ [4, 5, 6, 7, 3, 8] (by decide +kernel) (by decide +kernel)
set_option maxRecDepth 20000 in
theorem gX8_who_X8_isWork : GoodIn wsX8_who (va_wsS RX8 145 yX8_isWork wsX8_isWork) := goodIn_app (goodIn_of _ (by decide +kernel)) ggX8_who_X8_isWork
set_option maxRecDepth 20000 in
theorem ggX8_who_X8_allThere : GoodIn wsX8_who wsX8_allThere := goodIn_r _ [12, 13, 14, 15, 37, 38, 39, 40, 41, 42, 43, 44, 45, 46, 47, 48, 49, 50, 51, 52, 53, 54, 55, 56, 57, 58, 59, 60, 61, 62, 63] (by decide +kernel) (by decide +kernel)
set_option maxRecDepth 20000 in
theorem gX8_who_X8_allThere : GoodIn wsX8_who (wsV RX8 148 RX8 yX8_allThere wsX8_allThere) := goodIn_app (goodIn_of _ (by decide +kernel)) ggX8_who_X8_allThere
set_option maxRecDepth 20000 in
theorem ggX8_who_X8_whoMay : GoodIn wsX8_who wsX8_whoMay := goodIn_r _ [19, 20, 21, 22, 3, 23, 24, 25, 26, 27, 28, 14, 29, 30, 31, 32, 15, 13, 33, 34, 35, 36, 37, 38, 39, 40, 41, 42, 43, 44, 45, 46, 47, 48, 49, 50, 51, 52, 53, 54, 55, 56, 57, 58, 59, 60, 61, 62, 63] (by decide +kernel) (by decide +kernel)
set_option maxRecDepth 20000 in
theorem gX8_who_X8_whoMay : GoodIn wsX8_who (wsV RX8 154 RX8 yX8_whoMay wsX8_whoMay) := goodIn_app (goodIn_of _ (by decide +kernel)) ggX8_who_X8_whoMay
theorem dX8_who_0 : decode cX8_who 0 = .ok (.iload_n 1, 1) := by decide +kernel
theorem dX8_who_1 : decode cX8_who 1 = .ok (.invokestatic 145, 3) := by decide +kernel
theorem dX8_who_4 : decode cX8_who 4 = .ok (.ifCond .ne 6, 3) := by decide +kernel
theorem dX8_who_7 : decode cX8_who 7 = .ok (.bipush (-2), 2) := by decide +kernel
theorem dX8_who_9 : decode cX8_who 9 = .ok (.ireturn, 1) := by decide +kernel
theorem dX8_who_10 : decode cX8_who 10 = .ok (.aload_n 0, 1) := by decide +kernel
theorem dX8_who_11 : decode cX8_who 11 = .ok (.invokevirtual 148, 3) := by decide +kernel
theorem dX8_who_14 : decode cX8_who 14 = .ok (.aload_n 0, 1) := by decide +kernel
theorem dX8_who_15 : decode cX8_who 15 = .ok (.iload_n 1, 1) := by decide +kernel
