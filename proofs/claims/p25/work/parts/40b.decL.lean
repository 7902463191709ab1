theorem dL_changed_155 : decode cL_changed 155 = .ok (.bipush 6, 2) := by decide +kernel
theorem dL_changed_157 : decode cL_changed 157 = .ok (.iadd, 1) := by decide +kernel
theorem dL_changed_158 : decode cL_changed 158 = .ok (.iaload, 1) := by decide +kernel
theorem dL_changed_159 : decode cL_changed 159 = .ok (.iconst 1, 1) := by decide +kernel
theorem dL_changed_160 : decode cL_changed 160 = .ok (.iadd, 1) := by decide +kernel
theorem dL_changed_161 : decode cL_changed 161 = .ok (.if_icmp .ne 35, 3) := by decide +kernel
theorem dL_changed_164 : decode cL_changed 164 = .ok (.aload_n 0, 1) := by decide +kernel
theorem dL_changed_165 : decode cL_changed 165 = .ok (.iload_n 2, 1) := by decide +kernel
theorem dL_changed_166 : decode cL_changed 166 = .ok (.bipush 7, 2) := by decide +kernel
theorem dL_changed_168 : decode cL_changed 168 = .ok (.invokevirtual 15, 3) := by decide +kernel
theorem dL_changed_171 : decode cL_changed 171 = .ok (.aload_n 1, 1) := by decide +kernel
theorem dL_changed_172 : decode cL_changed 172 = .ok (.iload 5, 2) := by decide +kernel
theorem dL_changed_174 : decode cL_changed 174 = .ok (.bipush 7, 2) := by decide +kernel
theorem dL_changed_176 : decode cL_changed 176 = .ok (.iadd, 1) := by decide +kernel
theorem dL_changed_177 : decode cL_changed 177 = .ok (.iaload, 1) := by decide +kernel
theorem dL_changed_178 : decode cL_changed 178 = .ok (.iload 8, 2) := by decide +kernel
theorem dL_changed_180 : decode cL_changed 180 = .ok (.ifCond .eq 7, 3) := by decide +kernel
theorem dL_changed_183 : decode cL_changed 183 = .ok (.iconst 1, 1) := by decide +kernel
theorem dL_changed_184 : decode cL_changed 184 = .ok (.goto 4, 3) := by decide +kernel
theorem dL_changed_187 : decode cL_changed 187 = .ok (.iconst 0, 1) := by decide +kernel
theorem dL_changed_188 : decode cL_changed 188 = .ok (.iadd, 1) := by decide +kernel
theorem dL_changed_189 : decode cL_changed 189 = .ok (.if_icmp .ne 7, 3) := by decide +kernel
theorem dL_changed_192 : decode cL_changed 192 = .ok (.iconst 1, 1) := by decide +kernel
theorem dL_changed_193 : decode cL_changed 193 = .ok (.goto 4, 3) := by decide +kernel
theorem dL_changed_196 : decode cL_changed 196 = .ok (.iconst 0, 1) := by decide +kernel
theorem dL_changed_197 : decode cL_changed 197 = .ok (.istore 10, 2) := by decide +kernel
theorem dL_changed_199 : decode cL_changed 199 = .ok (.iload 8, 2) := by decide +kernel
theorem dL_changed_201 : decode cL_changed 201 = .ok (.ifCond .eq 7, 3) := by decide +kernel
theorem dL_changed_204 : decode cL_changed 204 = .ok (.iconst 1, 1) := by decide +kernel
theorem dL_changed_205 : decode cL_changed 205 = .ok (.goto 4, 3) := by decide +kernel
theorem dL_changed_208 : decode cL_changed 208 = .ok (.iconst 0, 1) := by decide +kernel
theorem dL_changed_209 : decode cL_changed 209 = .ok (.istore 11, 2) := by decide +kernel
theorem dL_changed_211 : decode cL_changed 211 = .ok (.aload_n 0, 1) := by decide +kernel
theorem dL_changed_212 : decode cL_changed 212 = .ok (.iload 11, 2) := by decide +kernel
theorem dL_changed_214 : decode cL_changed 214 = .ok (.iconst 0, 1) := by decide +kernel
theorem dL_changed_215 : decode cL_changed 215 = .ok (.invokevirtual 28, 3) := by decide +kernel
theorem dL_changed_218 : decode cL_changed 218 = .ok (.iload_n 3, 1) := by decide +kernel
theorem dL_changed_219 : decode cL_changed 219 = .ok (.if_icmp .ne 58, 3) := by decide +kernel
theorem dL_changed_222 : decode cL_changed 222 = .ok (.aload_n 0, 1) := by decide +kernel
theorem dL_changed_223 : decode cL_changed 223 = .ok (.iload 11, 2) := by decide +kernel
theorem dL_changed_225 : decode cL_changed 225 = .ok (.iconst 1, 1) := by decide +kernel
theorem dL_changed_226 : decode cL_changed 226 = .ok (.invokevirtual 28, 3) := by decide +kernel
theorem dL_changed_229 : decode cL_changed 229 = .ok (.iload_n 2, 1) := by decide +kernel
theorem dL_changed_230 : decode cL_changed 230 = .ok (.if_icmp .ne 47, 3) := by decide +kernel
theorem dL_changed_233 : decode cL_changed 233 = .ok (.aload_n 0, 1) := by decide +kernel
theorem dL_changed_234 : decode cL_changed 234 = .ok (.iload 11, 2) := by decide +kernel
theorem dL_changed_236 : decode cL_changed 236 = .ok (.iconst 2, 1) := by decide +kernel
theorem dL_changed_237 : decode cL_changed 237 = .ok (.invokevirtual 28, 3) := by decide +kernel
theorem dL_changed_240 : decode cL_changed 240 = .ok (.aload_n 0, 1) := by decide +kernel
theorem dL_changed_241 : decode cL_changed 241 = .ok (.iconst 0, 1) := by decide +kernel
theorem dL_changed_242 : decode cL_changed 242 = .ok (.invokevirtual 9, 3) := by decide +kernel
theorem dL_changed_245 : decode cL_changed 245 = .ok (.if_icmp .ne 32, 3) := by decide +kernel
theorem dL_changed_248 : decode cL_changed 248 = .ok (.iload 8, 2) := by decide +kernel
theorem dL_changed_250 : decode cL_changed 250 = .ok (.ifCond .eq 23, 3) := by decide +kernel
theorem dL_changed_253 : decode cL_changed 253 = .ok (.aload_n 0, 1) := by decide +kernel
theorem dL_changed_254 : decode cL_changed 254 = .ok (.iconst 0, 1) := by decide +kernel
theorem dL_changed_255 : decode cL_changed 255 = .ok (.iconst 0, 1) := by decide +kernel
theorem dL_changed_256 : decode cL_changed 256 = .ok (.invokevirtual 28, 3) := by decide +kernel
theorem dL_changed_259 : decode cL_changed 259 = .ok (.iconst 3, 1) := by decide +kernel
theorem dL_changed_260 : decode cL_changed 260 = .ok (.if_icmp .ne 17, 3) := by decide +kernel
theorem dL_changed_263 : decode cL_changed 263 = .ok (.aload_n 0, 1) := by decide +kernel
theorem dL_changed_264 : decode cL_changed 264 = .ok (.iconst 0, 1) := by decide +kernel
theorem dL_changed_265 : decode cL_changed 265 = .ok (.iconst 1, 1) := by decide +kernel
theorem dL_changed_266 : decode cL_changed 266 = .ok (.invokevirtual 28, 3) := by decide +kernel
theorem dL_changed_269 : decode cL_changed 269 = .ok (.iload_n 2, 1) := by decide +kernel
theorem dL_changed_270 : decode cL_changed 270 = .ok (.if_icmp .ne 7, 3) := by decide +kernel
theorem dL_changed_273 : decode cL_changed 273 = .ok (.iconst 1, 1) := by decide +kernel
theorem dL_changed_274 : decode cL_changed 274 = .ok (.goto 4, 3) := by decide +kernel
theorem dL_changed_277 : decode cL_changed 277 = .ok (.iconst 0, 1) := by decide +kernel
theorem dL_changed_278 : decode cL_changed 278 = .ok (.istore 12, 2) := by decide +kernel
theorem dL_changed_280 : decode cL_changed 280 = .ok (.iload 9, 2) := by decide +kernel
theorem dL_changed_282 : decode cL_changed 282 = .ok (.ifCond .eq 17, 3) := by decide +kernel
theorem dL_changed_285 : decode cL_changed 285 = .ok (.iload 10, 2) := by decide +kernel
theorem dL_changed_287 : decode cL_changed 287 = .ok (.ifCond .eq 12, 3) := by decide +kernel
theorem dL_changed_290 : decode cL_changed 290 = .ok (.iload 12, 2) := by decide +kernel
theorem dL_changed_292 : decode cL_changed 292 = .ok (.ifCond .eq 7, 3) := by decide +kernel
theorem dL_changed_295 : decode cL_changed 295 = .ok (.iconst 1, 1) := by decide +kernel
theorem dL_changed_296 : decode cL_changed 296 = .ok (.goto 4, 3) := by decide +kernel
theorem dL_changed_299 : decode cL_changed 299 = .ok (.iconst 0, 1) := by decide +kernel
theorem dL_changed_300 : decode cL_changed 300 = .ok (.ireturn, 1) := by decide +kernel
set_option maxRecDepth 20000 in
theorem ggL_aged_X4_count : GoodIn wsL_aged wsX4_count := goodIn_r _ [5, 6, 7, 8, 9, 10, 11, 12, 13, 14, 15, 16, 17, 18, 19, 20, 21, 22, 23, 24, 25, 26, 27, 28, 29, 30, 31, 32, 54, 55, 56, 57, 58, 59, 60, 61, 62, 63, 64, 65, 66, 67, 68, 69, 70, 71, 72, 73, 74, 75, 76, 77, 78, 79, 80, 81, 82, 83, 84, 85, 86] (by decide +kernel) (by decide +kernel)
set_option maxRecDepth 20000 in
theorem gL_aged_X4_count : GoodIn wsL_aged (wsV RL 9 RX4 yX4_count wsX4_count) := goodIn_app (goodIn_of _ (by decide +kernel)) ggL_aged_X4_count
set_option maxRecDepth 20000 in
theorem ggL_aged_X4_of : GoodIn wsL_aged wsX4_of := goodIn_r _ [36, 9, 37, 38, 39, 13, 40, 16, 26, 41, 42, 43, 44, 45, 46, 47, 48, 49, 50, 51, 52, 53, 54, 55, 56, 57, 58, 59, 60, 67, 68, 69, 70, 71, 72, 73, 79, 80, 81, 82, 83, 84, 85, 86] (by decide +kernel) (by decide +kernel)
set_option maxRecDepth 20000 in
theorem gL_aged_X4_of : GoodIn wsL_aged (wsV RL 15 RX4 yX4_of wsX4_of) := goodIn_app (goodIn_of _ (by decide +kernel)) ggL_aged_X4_of
theorem dL_aged_0 : decode cL_aged 0 = .ok (.bipush 8, 2) := by decide +kernel
theorem dL_aged_2 : decode cL_aged 2 = .ok (.iload_n 2, 1) := by decide +kernel
theorem dL_aged_3 : decode cL_aged 3 = .ok (.imul, 1) := by decide +kernel
theorem dL_aged_4 : decode cL_aged 4 = .ok (.istore_n 3, 1) := by decide +kernel
theorem dL_aged_5 : decode cL_aged 5 = .ok (.aload_n 1, 1) := by decide +kernel
theorem dL_aged_6 : decode cL_aged 6 = .ok (.iload_n 3, 1) := by decide +kernel
theorem dL_aged_7 : decode cL_aged 7 = .ok (.iconst 5, 1) := by decide +kernel
theorem dL_aged_8 : decode cL_aged 8 = .ok (.iadd, 1) := by decide +kernel
theorem dL_aged_9 : decode cL_aged 9 = .ok (.iaload, 1) := by decide +kernel
theorem dL_aged_10 : decode cL_aged 10 = .ok (.iconst 1, 1) := by decide +kernel
theorem dL_aged_11 : decode cL_aged 11 = .ok (.iadd, 1) := by decide +kernel
theorem dL_aged_12 : decode cL_aged 12 = .ok (.aload_n 0, 1) := by decide +kernel
theorem dL_aged_13 : decode cL_aged 13 = .ok (.bipush 10, 2) := by decide +kernel
theorem dL_aged_15 : decode cL_aged 15 = .ok (.invokevirtual 9, 3) := by decide +kernel
theorem dL_aged_18 : decode cL_aged 18 = .ok (.if_icmp .lt 7, 3) := by decide +kernel
theorem dL_aged_21 : decode cL_aged 21 = .ok (.iconst 1, 1) := by decide +kernel
theorem dL_aged_22 : decode cL_aged 22 = .ok (.goto 4, 3) := by decide +kernel
theorem dL_aged_25 : decode cL_aged 25 = .ok (.iconst 0, 1) := by decide +kernel
theorem dL_aged_26 : decode cL_aged 26 = .ok (.istore 4, 2) := by decide +kernel
theorem dL_aged_28 : decode cL_aged 28 = .ok (.iload 4, 2) := by decide +kernel
theorem dL_aged_30 : decode cL_aged 30 = .ok (.ifCond .eq 13, 3) := by decide +kernel
theorem dL_aged_33 : decode cL_aged 33 = .ok (.aload_n 1, 1) := by decide +kernel
theorem dL_aged_34 : decode cL_aged 34 = .ok (.iload_n 3, 1) := by decide +kernel
theorem dL_aged_35 : decode cL_aged 35 = .ok (.iconst 2, 1) := by decide +kernel
theorem dL_aged_36 : decode cL_aged 36 = .ok (.iadd, 1) := by decide +kernel
theorem dL_aged_37 : decode cL_aged 37 = .ok (.iaload, 1) := by decide +kernel
theorem dL_aged_38 : decode cL_aged 38 = .ok (.iconst 2, 1) := by decide +kernel
theorem dL_aged_39 : decode cL_aged 39 = .ok (.idiv, 1) := by decide +kernel
theorem dL_aged_40 : decode cL_aged 40 = .ok (.goto 8, 3) := by decide +kernel
theorem dL_aged_43 : decode cL_aged 43 = .ok (.aload_n 1, 1) := by decide +kernel
theorem dL_aged_44 : decode cL_aged 44 = .ok (.iload_n 3, 1) := by decide +kernel
theorem dL_aged_45 : decode cL_aged 45 = .ok (.iconst 2, 1) := by decide +kernel
theorem dL_aged_46 : decode cL_aged 46 = .ok (.iadd, 1) := by decide +kernel
theorem dL_aged_47 : decode cL_aged 47 = .ok (.iaload, 1) := by decide +kernel
theorem dL_aged_48 : decode cL_aged 48 = .ok (.istore 5, 2) := by decide +kernel
theorem dL_aged_50 : decode cL_aged 50 = .ok (.aload_n 1, 1) := by decide +kernel
theorem dL_aged_51 : decode cL_aged 51 = .ok (.iload_n 3, 1) := by decide +kernel
theorem dL_aged_52 : decode cL_aged 52 = .ok (.iconst 3, 1) := by decide +kernel
theorem dL_aged_53 : decode cL_aged 53 = .ok (.iadd, 1) := by decide +kernel
theorem dL_aged_54 : decode cL_aged 54 = .ok (.iaload, 1) := by decide +kernel
theorem dL_aged_55 : decode cL_aged 55 = .ok (.iconst 1, 1) := by decide +kernel
theorem dL_aged_56 : decode cL_aged 56 = .ok (.if_icmp .ne 23, 3) := by decide +kernel
theorem dL_aged_59 : decode cL_aged 59 = .ok (.aload_n 1, 1) := by decide +kernel
theorem dL_aged_60 : decode cL_aged 60 = .ok (.iload_n 3, 1) := by decide +kernel
theorem dL_aged_61 : decode cL_aged 61 = .ok (.iconst 4, 1) := by decide +kernel
theorem dL_aged_62 : decode cL_aged 62 = .ok (.iadd, 1) := by decide +kernel
theorem dL_aged_63 : decode cL_aged 63 = .ok (.iaload, 1) := by decide +kernel
theorem dL_aged_64 : decode cL_aged 64 = .ok (.iconst 1, 1) := by decide +kernel
theorem dL_aged_65 : decode cL_aged 65 = .ok (.iadd, 1) := by decide +kernel
theorem dL_aged_66 : decode cL_aged 66 = .ok (.aload_n 0, 1) := by decide +kernel
theorem dL_aged_67 : decode cL_aged 67 = .ok (.bipush 13, 2) := by decide +kernel
theorem dL_aged_69 : decode cL_aged 69 = .ok (.invokevirtual 9, 3) := by decide +kernel
theorem dL_aged_72 : decode cL_aged 72 = .ok (.if_icmp .lt 7, 3) := by decide +kernel
theorem dL_aged_75 : decode cL_aged 75 = .ok (.iconst 1, 1) := by decide +kernel
theorem dL_aged_76 : decode cL_aged 76 = .ok (.goto 4, 3) := by decide +kernel
theorem dL_aged_79 : decode cL_aged 79 = .ok (.iconst 0, 1) := by decide +kernel
theorem dL_aged_80 : decode cL_aged 80 = .ok (.istore 6, 2) := by decide +kernel
theorem dL_aged_82 : decode cL_aged 82 = .ok (.aload_n 1, 1) := by decide +kernel
theorem dL_aged_83 : decode cL_aged 83 = .ok (.iload_n 3, 1) := by decide +kernel
theorem dL_aged_84 : decode cL_aged 84 = .ok (.iconst 3, 1) := by decide +kernel
theorem dL_aged_85 : decode cL_aged 85 = .ok (.iadd, 1) := by decide +kernel
theorem dL_aged_86 : decode cL_aged 86 = .ok (.iaload, 1) := by decide +kernel
theorem dL_aged_87 : decode cL_aged 87 = .ok (.iconst 1, 1) := by decide +kernel
theorem dL_aged_88 : decode cL_aged 88 = .ok (.if_icmp .ne 23, 3) := by decide +kernel
theorem dL_aged_91 : decode cL_aged 91 = .ok (.iload 5, 2) := by decide +kernel
theorem dL_aged_93 : decode cL_aged 93 = .ok (.aload_n 0, 1) := by decide +kernel
theorem dL_aged_94 : decode cL_aged 94 = .ok (.bipush 12, 2) := by decide +kernel
theorem dL_aged_96 : decode cL_aged 96 = .ok (.invokevirtual 9, 3) := by decide +kernel
theorem dL_aged_99 : decode cL_aged 99 = .ok (.if_icmp .lt 8, 3) := by decide +kernel
theorem dL_aged_102 : decode cL_aged 102 = .ok (.iload 6, 2) := by decide +kernel
theorem dL_aged_104 : decode cL_aged 104 = .ok (.ifCond .eq 7, 3) := by decide +kernel
theorem dL_aged_107 : decode cL_aged 107 = .ok (.iconst 1, 1) := by decide +kernel
theorem dL_aged_108 : decode cL_aged 108 = .ok (.goto 4, 3) := by decide +kernel
theorem dL_aged_111 : decode cL_aged 111 = .ok (.iconst 0, 1) := by decide +kernel
theorem dL_aged_112 : decode cL_aged 112 = .ok (.istore 7, 2) := by decide +kernel
theorem dL_aged_114 : decode cL_aged 114 = .ok (.iload 7, 2) := by decide +kernel
theorem dL_aged_116 : decode cL_aged 116 = .ok (.ifCond .eq 25, 3) := by decide +kernel
theorem dL_aged_119 : decode cL_aged 119 = .ok (.iload 5, 2) := by decide +kernel
theorem dL_aged_121 : decode cL_aged 121 = .ok (.aload_n 0, 1) := by decide +kernel
theorem dL_aged_122 : decode cL_aged 122 = .ok (.bipush 12, 2) := by decide +kernel
theorem dL_aged_124 : decode cL_aged 124 = .ok (.invokevirtual 9, 3) := by decide +kernel
theorem dL_aged_127 : decode cL_aged 127 = .ok (.if_icmp .lt 14, 3) := by decide +kernel
theorem dL_aged_130 : decode cL_aged 130 = .ok (.aload_n 0, 1) := by decide +kernel
theorem dL_aged_131 : decode cL_aged 131 = .ok (.bipush 12, 2) := by decide +kernel
theorem dL_aged_133 : decode cL_aged 133 = .ok (.invokevirtual 9, 3) := by decide +kernel
theorem dL_aged_136 : decode cL_aged 136 = .ok (.iconst 1, 1) := by decide +kernel
theorem dL_aged_137 : decode cL_aged 137 = .ok (.isub, 1) := by decide +kernel
theorem dL_aged_138 : decode cL_aged 138 = .ok (.goto 5, 3) := by decide +kernel
theorem dL_aged_141 : decode cL_aged 141 = .ok (.iload 5, 2) := by decide +kernel
theorem dL_aged_143 : decode cL_aged 143 = .ok (.istore 5, 2) := by decide +kernel
theorem dL_aged_145 : decode cL_aged 145 = .ok (.aload_n 0, 1) := by decide +kernel
theorem dL_aged_146 : decode cL_aged 146 = .ok (.iload_n 2, 1) := by decide +kernel
theorem dL_aged_147 : decode cL_aged 147 = .ok (.iconst 2, 1) := by decide +kernel
theorem dL_aged_148 : decode cL_aged 148 = .ok (.invokevirtual 15, 3) := by decide +kernel
theorem dL_aged_151 : decode cL_aged 151 = .ok (.iload 5, 2) := by decide +kernel
theorem dL_aged_153 : decode cL_aged 153 = .ok (.if_icmp .ne 55, 3) := by decide +kernel
theorem dL_aged_156 : decode cL_aged 156 = .ok (.aload_n 0, 1) := by decide +kernel
theorem dL_aged_157 : decode cL_aged 157 = .ok (.iload_n 2, 1) := by decide +kernel
theorem dL_aged_158 : decode cL_aged 158 = .ok (.iconst 5, 1) := by decide +kernel
theorem dL_aged_159 : decode cL_aged 159 = .ok (.invokevirtual 15, 3) := by decide +kernel
theorem dL_aged_162 : decode cL_aged 162 = .ok (.iload 4, 2) := by decide +kernel
theorem dL_aged_164 : decode cL_aged 164 = .ok (.ifCond .eq 7, 3) := by decide +kernel
theorem dL_aged_167 : decode cL_aged 167 = .ok (.iconst 0, 1) := by decide +kernel
theorem dL_aged_168 : decode cL_aged 168 = .ok (.goto 10, 3) := by decide +kernel
theorem dL_aged_171 : decode cL_aged 171 = .ok (.aload_n 1, 1) := by decide +kernel
theorem dL_aged_172 : decode cL_aged 172 = .ok (.iload_n 3, 1) := by decide +kernel
theorem dL_aged_173 : decode cL_aged 173 = .ok (.iconst 5, 1) := by decide +kernel
theorem dL_aged_174 : decode cL_aged 174 = .ok (.iadd, 1) := by decide +kernel
theorem dL_aged_175 : decode cL_aged 175 = .ok (.iaload, 1) := by decide +kernel
theorem dL_aged_176 : decode cL_aged 176 = .ok (.iconst 1, 1) := by decide +kernel
theorem dL_aged_177 : decode cL_aged 177 = .ok (.iadd, 1) := by decide +kernel
theorem dL_aged_178 : decode cL_aged 178 = .ok (.if_icmp .ne 30, 3) := by decide +kernel
theorem dL_aged_181 : decode cL_aged 181 = .ok (.aload_n 0, 1) := by decide +kernel
theorem dL_aged_182 : decode cL_aged 182 = .ok (.iload_n 2, 1) := by decide +kernel
theorem dL_aged_183 : decode cL_aged 183 = .ok (.iconst 3, 1) := by decide +kernel
theorem dL_aged_184 : decode cL_aged 184 = .ok (.invokevirtual 15, 3) := by decide +kernel
theorem dL_aged_187 : decode cL_aged 187 = .ok (.iload 7, 2) := by decide +kernel
theorem dL_aged_189 : decode cL_aged 189 = .ok (.ifCond .eq 7, 3) := by decide +kernel
theorem dL_aged_192 : decode cL_aged 192 = .ok (.iconst 0, 1) := by decide +kernel
theorem dL_aged_193 : decode cL_aged 193 = .ok (.goto 8, 3) := by decide +kernel
theorem dL_aged_196 : decode cL_aged 196 = .ok (.aload_n 1, 1) := by decide +kernel
theorem dL_aged_197 : decode cL_aged 197 = .ok (.iload_n 3, 1) := by decide +kernel
theorem dL_aged_198 : decode cL_aged 198 = .ok (.iconst 3, 1) := by decide +kernel
theorem dL_aged_199 : decode cL_aged 199 = .ok (.iadd, 1) := by decide +kernel
theorem dL_aged_200 : decode cL_aged 200 = .ok (.iaload, 1) := by decide +kernel
theorem dL_aged_201 : decode cL_aged 201 = .ok (.if_icmp .ne 7, 3) := by decide +kernel
theorem dL_aged_204 : decode cL_aged 204 = .ok (.iconst 1, 1) := by decide +kernel
theorem dL_aged_205 : decode cL_aged 205 = .ok (.goto 4, 3) := by decide +kernel
theorem dL_aged_208 : decode cL_aged 208 = .ok (.iconst 0, 1) := by decide +kernel
theorem dL_aged_209 : decode cL_aged 209 = .ok (.istore 8, 2) := by decide +kernel
theorem dL_aged_211 : decode cL_aged 211 = .ok (.iload 8, 2) := by decide +kernel
theorem dL_aged_213 : decode cL_aged 213 = .ok (.ifCond .eq 66, 3) := by decide +kernel
theorem dL_aged_216 : decode cL_aged 216 = .ok (.aload_n 0, 1) := by decide +kernel
theorem dL_aged_217 : decode cL_aged 217 = .ok (.iload_n 2, 1) := by decide +kernel
theorem dL_aged_218 : decode cL_aged 218 = .ok (.iconst 4, 1) := by decide +kernel
theorem dL_aged_219 : decode cL_aged 219 = .ok (.invokevirtual 15, 3) := by decide +kernel
theorem dL_aged_222 : decode cL_aged 222 = .ok (.iload 7, 2) := by decide +kernel
theorem dL_aged_224 : decode cL_aged 224 = .ok (.ifCond .ne 11, 3) := by decide +kernel
theorem dL_aged_227 : decode cL_aged 227 = .ok (.aload_n 1, 1) := by decide +kernel
theorem dL_aged_228 : decode cL_aged 228 = .ok (.iload_n 3, 1) := by decide +kernel
theorem dL_aged_229 : decode cL_aged 229 = .ok (.iconst 3, 1) := by decide +kernel
theorem dL_aged_230 : decode cL_aged 230 = .ok (.iadd, 1) := by decide +kernel
theorem dL_aged_231 : decode cL_aged 231 = .ok (.iaload, 1) := by decide +kernel
theorem dL_aged_232 : decode cL_aged 232 = .ok (.ifCond .ne 7, 3) := by decide +kernel
theorem dL_aged_235 : decode cL_aged 235 = .ok (.iconst 0, 1) := by decide +kernel
theorem dL_aged_236 : decode cL_aged 236 = .ok (.goto 10, 3) := by decide +kernel
theorem dL_aged_239 : decode cL_aged 239 = .ok (.aload_n 1, 1) := by decide +kernel
theorem dL_aged_240 : decode cL_aged 240 = .ok (.iload_n 3, 1) := by decide +kernel
theorem dL_aged_241 : decode cL_aged 241 = .ok (.iconst 4, 1) := by decide +kernel
theorem dL_aged_242 : decode cL_aged 242 = .ok (.iadd, 1) := by decide +kernel
theorem dL_aged_243 : decode cL_aged 243 = .ok (.iaload, 1) := by decide +kernel
theorem dL_aged_244 : decode cL_aged 244 = .ok (.iconst 1, 1) := by decide +kernel
theorem dL_aged_245 : decode cL_aged 245 = .ok (.iadd, 1) := by decide +kernel
theorem dL_aged_246 : decode cL_aged 246 = .ok (.if_icmp .ne 33, 3) := by decide +kernel
theorem dL_aged_249 : decode cL_aged 249 = .ok (.aload_n 0, 1) := by decide +kernel
theorem dL_aged_250 : decode cL_aged 250 = .ok (.iload_n 2, 1) := by decide +kernel
theorem dL_aged_251 : decode cL_aged 251 = .ok (.iconst 0, 1) := by decide +kernel
theorem dL_aged_252 : decode cL_aged 252 = .ok (.invokevirtual 15, 3) := by decide +kernel
theorem dL_aged_255 : decode cL_aged 255 = .ok (.aload_n 1, 1) := by decide +kernel
theorem dL_aged_256 : decode cL_aged 256 = .ok (.iload_n 3, 1) := by decide +kernel
theorem dL_aged_257 : decode cL_aged 257 = .ok (.iaload, 1) := by decide +kernel
theorem dL_aged_258 : decode cL_aged 258 = .ok (.if_icmp .ne 21, 3) := by decide +kernel
theorem dL_aged_261 : decode cL_aged 261 = .ok (.aload_n 0, 1) := by decide +kernel
theorem dL_aged_262 : decode cL_aged 262 = .ok (.iload_n 2, 1) := by decide +kernel
theorem dL_aged_263 : decode cL_aged 263 = .ok (.iconst 1, 1) := by decide +kernel
theorem dL_aged_264 : decode cL_aged 264 = .ok (.invokevirtual 15, 3) := by decide +kernel
theorem dL_aged_267 : decode cL_aged 267 = .ok (.aload_n 1, 1) := by decide +kernel
theorem dL_aged_268 : decode cL_aged 268 = .ok (.iload_n 3, 1) := by decide +kernel
theorem dL_aged_269 : decode cL_aged 269 = .ok (.iconst 1, 1) := by decide +kernel
theorem dL_aged_270 : decode cL_aged 270 = .ok (.iadd, 1) := by decide +kernel
theorem dL_aged_271 : decode cL_aged 271 = .ok (.iaload, 1) := by decide +kernel
theorem dL_aged_272 : decode cL_aged 272 = .ok (.if_icmp .ne 7, 3) := by decide +kernel
theorem dL_aged_275 : decode cL_aged 275 = .ok (.iconst 1, 1) := by decide +kernel
theorem dL_aged_276 : decode cL_aged 276 = .ok (.goto 4, 3) := by decide +kernel
theorem dL_aged_279 : decode cL_aged 279 = .ok (.iconst 0, 1) := by decide +kernel
theorem dL_aged_280 : decode cL_aged 280 = .ok (.ireturn, 1) := by decide +kernel
set_option maxRecDepth 20000 in
theorem ggL_passed_X4_count : GoodIn wsL_passed wsX4_count := goodIn_r _ [5, 6, 7, 8, 9, 10, 11, 12, 13, 14, 15, 16, 17, 18, 19, 20, 21, 22, 23, 24, 25, 26, 27, 28, 29, 30, 31, 32, 142, 143, 144, 145, 146, 147, 148, 149, 150, 151, 152, 153, 154, 155, 156, 157, 158, 159, 160, 161, 162, 163, 164, 165, 166, 167, 168, 169, 170, 171, 172, 173, 174] (by decide +kernel) (by decide +kernel)
set_option maxRecDepth 20000 in
theorem gL_passed_X4_count : GoodIn wsL_passed (wsV RL 9 RX4 yX4_count wsX4_count) := goodIn_app (goodIn_of _ (by decide +kernel)) ggL_passed_X4_count
set_option maxRecDepth 20000 in
theorem ggL_passed_X4_pass : GoodIn wsL_passed wsX4_pass := goodIn_r _ [36, 9, 37, 38, 39, 4, 40, 41, 8, 42, 43, 44, 13, 45, 21, 46, 47, 48, 49, 26, 16, 15, 17, 18, 19, 50, 51, 52, 53, 54, 55, 56, 57, 58, 59, 60, 61, 62, 63, 64, 65, 66, 67, 68, 69, 70, 71, 72, 73, 74, 75, 76, 77, 78, 79, 80, 81, 82, 83, 84, 85, 86, 87, 88, 89, 90, 91, 92, 93, 94, 95, 96, 97, 98, 99, 100, 101, 102, 103, 104, 105, 106, 107, 108, 109, 110, 111, 112, 113, 114, 115, 116, 142, 143, 144, 145, 146, 147, 148, 155, 156, 157, 158, 159, 160, 161, 167, 168, 169, 170, 171, 172, 173, 174, 162, 163, 164, 165, 166] (by decide +kernel) (by decide +kernel)
set_option maxRecDepth 20000 in
theorem gL_passed_X4_pass : GoodIn wsL_passed (wsV RL 35 RX4 yX4_pass wsX4_pass) := goodIn_app (goodIn_of _ (by decide +kernel)) ggL_passed_X4_pass
set_option maxRecDepth 20000 in
theorem ggL_passed_L_aged : GoodIn wsL_passed wsL_aged := goodIn_r _ [120, 1, 2, 3, 4, 5, 6, 7, 8, 9, 10, 11, 12, 13, 14, 15, 16, 17, 18, 19, 20, 21, 22, 23, 24, 25, 26, 27, 28, 29, 30, 31, 32, 121, 122, 123, 124, 125, 126, 127, 128, 129, 130, 131, 53, 132, 55, 56, 57, 58, 59, 60, 61, 62, 142, 143, 144, 145, 146, 147, 148, 149, 150, 151, 152, 153, 154, 155, 156, 157, 158, 159, 160, 161, 162, 163, 164, 165, 166, 167, 168, 169, 170, 171, 172, 173, 174] (by decide +kernel) (by decide +kernel)
set_option maxRecDepth 20000 in
theorem gL_passed_L_aged : GoodIn wsL_passed (va_wsS RL 38 yL_aged wsL_aged) := goodIn_app (goodIn_of _ (by decide +kernel)) ggL_passed_L_aged
set_option maxRecDepth 20000 in
theorem ggL_passed_X4_of : GoodIn wsL_passed wsX4_of := goodIn_r _ [124, 9, 125, 126, 127, 13, 128, 16, 26, 129, 130, 131, 53, 132, 55, 56, 57, 58, 59, 60, 61, 62, 142, 143, 144, 145, 146, 147, 148, 155, 156, 157, 158, 159, 160, 161, 167, 168, 169, 170, 171, 172, 173, 174] (by decide +kernel) (by decide +kernel)
set_option maxRecDepth 20000 in
theorem gL_passed_X4_of : GoodIn wsL_passed (wsV RL 15 RX4 yX4_of wsX4_of) := goodIn_app (goodIn_of _ (by decide +kernel)) ggL_passed_X4_of
set_option maxRecDepth 20000 in
theorem ggL_passed_X4_log : GoodIn wsL_passed wsX4_log := goodIn_r _ [136, 9, 137, 138, 139, 140, 66, 141, 72, 73, 68, 70, 71, 142, 143, 144, 145, 146, 147, 148, 155, 156, 157, 158, 159, 160, 161, 162, 163, 164, 165, 166] (by decide +kernel) (by decide +kernel)
set_option maxRecDepth 20000 in
theorem gL_passed_X4_log : GoodIn wsL_passed (wsV RL 28 RX4 yX4_log wsX4_log) := goodIn_app (goodIn_of _ (by decide +kernel)) ggL_passed_X4_log
theorem dL_passed_0 : decode cL_passed 0 = .ok (.aload_n 0, 1) := by decide +kernel
theorem dL_passed_1 : decode cL_passed 1 = .ok (.iconst 0, 1) := by decide +kernel
theorem dL_passed_2 : decode cL_passed 2 = .ok (.invokevirtual 9, 3) := by decide +kernel
theorem dL_passed_5 : decode cL_passed 5 = .ok (.istore_n 2, 1) := by decide +kernel
theorem dL_passed_6 : decode cL_passed 6 = .ok (.aload_n 0, 1) := by decide +kernel
theorem dL_passed_7 : decode cL_passed 7 = .ok (.iconst 1, 1) := by decide +kernel
theorem dL_passed_8 : decode cL_passed 8 = .ok (.invokevirtual 35, 3) := by decide +kernel
theorem dL_passed_11 : decode cL_passed 11 = .ok (.istore_n 3, 1) := by decide +kernel
theorem dL_passed_12 : decode cL_passed 12 = .ok (.iconst 0, 1) := by decide +kernel
theorem dL_passed_13 : decode cL_passed 13 = .ok (.istore 4, 2) := by decide +kernel
theorem dL_passed_15 : decode cL_passed 15 = .ok (.iconst 0, 1) := by decide +kernel
theorem dL_passed_16 : decode cL_passed 16 = .ok (.istore 5, 2) := by decide +kernel
theorem dL_passed_18 : decode cL_passed 18 = .ok (.iload 5, 2) := by decide +kernel
theorem dL_passed_20 : decode cL_passed 20 = .ok (.aload_n 0, 1) := by decide +kernel
theorem dL_passed_21 : decode cL_passed 21 = .ok (.iconst 1, 1) := by decide +kernel
theorem dL_passed_22 : decode cL_passed 22 = .ok (.invokevirtual 9, 3) := by decide +kernel
theorem dL_passed_25 : decode cL_passed 25 = .ok (.if_icmp .ge 43, 3) := by decide +kernel
theorem dL_passed_28 : decode cL_passed 28 = .ok (.aload_n 0, 1) := by decide +kernel
theorem dL_passed_29 : decode cL_passed 29 = .ok (.aload_n 1, 1) := by decide +kernel
theorem dL_passed_30 : decode cL_passed 30 = .ok (.iload 5, 2) := by decide +kernel
theorem dL_passed_32 : decode cL_passed 32 = .ok (.invokestatic 38, 3) := by decide +kernel
theorem dL_passed_35 : decode cL_passed 35 = .ok (.ifCond .ne 5, 3) := by decide +kernel
theorem dL_passed_38 : decode cL_passed 38 = .ok (.iconst 0, 1) := by decide +kernel
theorem dL_passed_39 : decode cL_passed 39 = .ok (.ireturn, 1) := by decide +kernel
theorem dL_passed_40 : decode cL_passed 40 = .ok (.iload 4, 2) := by decide +kernel
theorem dL_passed_42 : decode cL_passed 42 = .ok (.aload_n 1, 1) := by decide +kernel
theorem dL_passed_43 : decode cL_passed 43 = .ok (.bipush 8, 2) := by decide +kernel
theorem dL_passed_45 : decode cL_passed 45 = .ok (.iload 5, 2) := by decide +kernel
theorem dL_passed_47 : decode cL_passed 47 = .ok (.imul, 1) := by decide +kernel
theorem dL_passed_48 : decode cL_passed 48 = .ok (.iconst 3, 1) := by decide +kernel
theorem dL_passed_49 : decode cL_passed 49 = .ok (.iadd, 1) := by decide +kernel
theorem dL_passed_50 : decode cL_passed 50 = .ok (.iaload, 1) := by decide +kernel
theorem dL_passed_51 : decode cL_passed 51 = .ok (.aload_n 0, 1) := by decide +kernel
theorem dL_passed_52 : decode cL_passed 52 = .ok (.iload 5, 2) := by decide +kernel
theorem dL_passed_54 : decode cL_passed 54 = .ok (.iconst 3, 1) := by decide +kernel
theorem dL_passed_55 : decode cL_passed 55 = .ok (.invokevirtual 15, 3) := by decide +kernel
theorem dL_passed_58 : decode cL_passed 58 = .ok (.isub, 1) := by decide +kernel
theorem dL_passed_59 : decode cL_passed 59 = .ok (.iadd, 1) := by decide +kernel
theorem dL_passed_60 : decode cL_passed 60 = .ok (.istore 4, 2) := by decide +kernel
theorem dL_passed_62 : decode cL_passed 62 = .ok (.iinc 5 1, 3) := by decide +kernel
theorem dL_passed_65 : decode cL_passed 65 = .ok (.goto (-47), 3) := by decide +kernel
theorem dL_passed_68 : decode cL_passed 68 = .ok (.iconst 0, 1) := by decide +kernel
theorem dL_passed_69 : decode cL_passed 69 = .ok (.istore 5, 2) := by decide +kernel
theorem dL_passed_71 : decode cL_passed 71 = .ok (.iload 5, 2) := by decide +kernel
theorem dL_passed_73 : decode cL_passed 73 = .ok (.iload_n 3, 1) := by decide +kernel
theorem dL_passed_74 : decode cL_passed 74 = .ok (.if_icmp .ge 37, 3) := by decide +kernel
theorem dL_passed_77 : decode cL_passed 77 = .ok (.aload_n 0, 1) := by decide +kernel
theorem dL_passed_78 : decode cL_passed 78 = .ok (.iload 5, 2) := by decide +kernel
theorem dL_passed_80 : decode cL_passed 80 = .ok (.iconst 0, 1) := by decide +kernel
theorem dL_passed_81 : decode cL_passed 81 = .ok (.invokevirtual 28, 3) := by decide +kernel
theorem dL_passed_84 : decode cL_passed 84 = .ok (.iconst 4, 1) := by decide +kernel
theorem dL_passed_85 : decode cL_passed 85 = .ok (.if_icmp .ne 18, 3) := by decide +kernel
theorem dL_passed_88 : decode cL_passed 88 = .ok (.aload_n 0, 1) := by decide +kernel
theorem dL_passed_89 : decode cL_passed 89 = .ok (.aload_n 0, 1) := by decide +kernel
theorem dL_passed_90 : decode cL_passed 90 = .ok (.iload 5, 2) := by decide +kernel
theorem dL_passed_92 : decode cL_passed 92 = .ok (.iconst 1, 1) := by decide +kernel
theorem dL_passed_93 : decode cL_passed 93 = .ok (.invokevirtual 28, 3) := by decide +kernel
theorem dL_passed_96 : decode cL_passed 96 = .ok (.iconst 3, 1) := by decide +kernel
theorem dL_passed_97 : decode cL_passed 97 = .ok (.invokevirtual 15, 3) := by decide +kernel
theorem dL_passed_100 : decode cL_passed 100 = .ok (.ifCond .eq 5, 3) := by decide +kernel
theorem dL_passed_103 : decode cL_passed 103 = .ok (.iconst 0, 1) := by decide +kernel
theorem dL_passed_104 : decode cL_passed 104 = .ok (.ireturn, 1) := by decide +kernel
theorem dL_passed_105 : decode cL_passed 105 = .ok (.iinc 5 1, 3) := by decide +kernel
theorem dL_passed_108 : decode cL_passed 108 = .ok (.goto (-37), 3) := by decide +kernel
theorem dL_passed_111 : decode cL_passed 111 = .ok (.iload_n 3, 1) := by decide +kernel
theorem dL_passed_112 : decode cL_passed 112 = .ok (.iload 4, 2) := by decide +kernel
theorem dL_passed_114 : decode cL_passed 114 = .ok (.if_icmp .ne 18, 3) := by decide +kernel
theorem dL_passed_117 : decode cL_passed 117 = .ok (.aload_n 0, 1) := by decide +kernel
theorem dL_passed_118 : decode cL_passed 118 = .ok (.iconst 0, 1) := by decide +kernel
theorem dL_passed_119 : decode cL_passed 119 = .ok (.invokevirtual 9, 3) := by decide +kernel
theorem dL_passed_122 : decode cL_passed 122 = .ok (.iload_n 2, 1) := by decide +kernel
theorem dL_passed_123 : decode cL_passed 123 = .ok (.iconst 1, 1) := by decide +kernel
theorem dL_passed_124 : decode cL_passed 124 = .ok (.iadd, 1) := by decide +kernel
theorem dL_passed_125 : decode cL_passed 125 = .ok (.if_icmp .ne 7, 3) := by decide +kernel
theorem dL_passed_128 : decode cL_passed 128 = .ok (.iconst 1, 1) := by decide +kernel
theorem dL_passed_129 : decode cL_passed 129 = .ok (.goto 4, 3) := by decide +kernel
theorem dL_passed_132 : decode cL_passed 132 = .ok (.iconst 0, 1) := by decide +kernel
theorem dL_passed_133 : decode cL_passed 133 = .ok (.ireturn, 1) := by decide +kernel
set_option maxRecDepth 20000 in
theorem ggL_act_L_told : GoodIn wsL_act wsL_told := goodIn_r _ [4, 5, 6, 7, 8, 9, 10, 11, 12, 13, 14, 15, 16, 17, 18, 19, 20, 21, 22, 23, 24, 25, 26, 27, 28, 29, 30, 31, 32, 33, 34, 35, 36, 37, 38, 39, 40, 41, 42, 43, 44, 45, 46, 47, 48, 49, 50, 51, 52, 53, 54, 55, 56, 57, 58, 233, 234, 235, 236, 237, 238, 239, 240, 241, 242, 243, 244, 245, 246, 247, 248, 249, 250, 251, 252, 253, 254, 255, 256, 257, 258, 259, 260, 261, 262, 263, 264, 265] (by decide +kernel) (by decide +kernel)
set_option maxRecDepth 20000 in
theorem gL_act_L_told : GoodIn wsL_act (va_wsS RL 42 yL_told wsL_told) := goodIn_app (goodIn_of _ (by decide +kernel)) ggL_act_L_told
set_option maxRecDepth 20000 in
theorem ggL_act_X4_count : GoodIn wsL_act wsX4_count := goodIn_r _ [10, 11, 12, 13, 14, 15, 16, 17, 18, 19, 20, 21, 22, 23, 24, 25, 26, 27, 28, 29, 30, 31, 32, 33, 34, 35, 36, 37, 233, 234, 235, 236, 237, 238, 239, 240, 241, 242, 243, 244, 245, 246, 247, 248, 249, 250, 251, 252, 253, 254, 255, 256, 257, 258, 259, 260, 261, 262, 263, 264, 265] (by decide +kernel) (by decide +kernel)
set_option maxRecDepth 20000 in
theorem gL_act_X4_count : GoodIn wsL_act (wsV RL 9 RX4 yX4_count wsX4_count) := goodIn_app (goodIn_of _ (by decide +kernel)) ggL_act_X4_count
set_option maxRecDepth 20000 in
theorem ggL_act_L_low : GoodIn wsL_act wsL_low := goodIn_r _ [61, 62] (by decide +kernel) (by decide +kernel)
set_option maxRecDepth 20000 in
theorem gL_act_L_low : GoodIn wsL_act (va_wsS RL 46 yL_low wsL_low) := goodIn_app (goodIn_of _ (by decide +kernel)) ggL_act_L_low
set_option maxRecDepth 20000 in
theorem ggL_act_X4_landing : GoodIn wsL_act wsX4_landing := goodIn_r _ [66, 14, 67, 68, 69, 9, 70, 71, 13, 72, 73, 74, 18, 75, 26, 76, 77, 78, 79, 31, 21, 20, 22, 23, 24, 80, 81, 82, 49, 83, 51, 52, 53, 54, 55, 56, 57, 58, 84, 85, 86, 87, 88, 89, 90, 91, 92, 93, 94, 95, 96, 97, 98, 99, 100, 101, 102, 103, 104, 105, 106, 107, 108, 109, 110, 111, 112, 113, 114, 115, 116, 117, 118, 119, 233, 234, 235, 236, 237, 238, 239, 246, 247, 248, 249, 250, 251, 252, 258, 259, 260, 261, 262, 263, 264, 265, 253, 254, 255, 256, 257] (by decide +kernel) (by decide +kernel)
set_option maxRecDepth 20000 in
theorem gL_act_X4_landing : GoodIn wsL_act (wsV RL 49 RX4 yX4_landing wsX4_landing) := goodIn_app (goodIn_of _ (by decide +kernel)) ggL_act_X4_landing
set_option maxRecDepth 20000 in
theorem ggL_act_X4_of : GoodIn wsL_act wsX4_of := goodIn_r _ [41, 14, 42, 43, 44, 18, 45, 21, 31, 46, 47, 48, 49, 50, 51, 52, 53, 54, 55, 56, 57, 58, 233, 234, 235, 236, 237, 238, 239, 246, 247, 248, 249, 250, 251, 252, 258, 259, 260, 261, 262, 263, 264, 265] (by decide +kernel) (by decide +kernel)
set_option maxRecDepth 20000 in
theorem gL_act_X4_of : GoodIn wsL_act (wsV RL 15 RX4 yX4_of wsX4_of) := goodIn_app (goodIn_of _ (by decide +kernel)) ggL_act_X4_of
set_option maxRecDepth 20000 in
theorem ggL_act_X4_close : GoodIn wsL_act wsX4_close := goodIn_r _ [123, 14, 67, 68, 69, 9, 70, 71, 13, 72, 73, 74, 18, 75, 26, 76, 77, 78, 79, 31, 21, 20, 22, 23, 24, 80, 81, 82, 49, 83, 51, 52, 53, 54, 55, 56, 57, 58, 84, 85, 86, 87, 88, 89, 90, 91, 92, 93, 94, 124, 125, 126, 127, 32, 128, 43, 44, 45, 129, 130, 131, 132, 133, 134, 135, 136, 137, 138, 139, 140, 141, 142, 143, 144, 145, 146, 147, 148, 149, 150, 151, 103, 104, 105, 106, 107, 108, 109, 110, 111, 112, 113, 114, 115, 116, 117, 118, 119, 233, 234, 235, 236, 237, 238, 239, 246, 247, 248, 249, 250, 251, 252, 258, 259, 260, 261, 262, 263, 264, 265, 253, 254, 255, 256, 257] (by decide +kernel) (by decide +kernel)
set_option maxRecDepth 20000 in
theorem gL_act_X4_close : GoodIn wsL_act (wsV RL 52 RX4 yX4_close wsX4_close) := goodIn_app (goodIn_of _ (by decide +kernel)) ggL_act_X4_close
set_option maxRecDepth 20000 in
theorem ggL_act_X4_open : GoodIn wsL_act wsX4_open := goodIn_r _ [155, 14, 67, 68, 69, 9, 70, 71, 13, 72, 73, 74, 18, 75, 26, 76, 77, 78, 79, 31, 21, 20, 22, 23, 24, 80, 81, 82, 49, 83, 51, 52, 53, 54, 55, 56, 57, 58, 84, 85, 86, 87, 88, 89, 90, 91, 92, 93, 94, 156, 157, 158, 159, 32, 128, 43, 44, 45, 129, 130, 131, 132, 133, 134, 135, 136, 137, 138, 139, 140, 141, 142, 143, 144, 145, 146, 147, 148, 149, 150, 151, 103, 104, 105, 106, 107, 108, 109, 110, 111, 112, 113, 114, 115, 116, 117, 118, 119, 233, 234, 235, 236, 237, 238, 239, 246, 247, 248, 249, 250, 251, 252, 258, 259, 260, 261, 262, 263, 264, 265, 253, 254, 255, 256, 257] (by decide +kernel) (by decide +kernel)
set_option maxRecDepth 20000 in
theorem gL_act_X4_open : GoodIn wsL_act (wsV RL 55 RX4 yX4_open wsX4_open) := goodIn_app (goodIn_of _ (by decide +kernel)) ggL_act_X4_open
set_option maxRecDepth 20000 in
theorem ggL_act_L_changed : GoodIn wsL_act wsL_changed := goodIn_r _ [162, 163, 6, 7, 8, 9, 10, 11, 12, 13, 14, 15, 16, 17, 18, 19, 20, 21, 22, 23, 24, 25, 26, 27, 28, 29, 30, 31, 32, 33, 34, 35, 36, 37, 38, 39, 40, 41, 42, 43, 44, 45, 46, 47, 48, 49, 50, 51, 52, 53, 54, 55, 56, 57, 58, 164, 165, 166, 167, 168, 169, 170, 171, 87, 172, 93, 94, 89, 91, 92, 233, 234, 235, 236, 237, 238, 239, 240, 241, 242, 243, 244, 245, 246, 247, 248, 249, 250, 251, 252, 253, 254, 255, 256, 257, 258, 259, 260, 261, 262, 263, 264, 265] (by decide +kernel) (by decide +kernel)
set_option maxRecDepth 20000 in
theorem gL_act_L_changed : GoodIn wsL_act (va_wsS RL 58 yL_changed wsL_changed) := goodIn_app (goodIn_of _ (by decide +kernel)) ggL_act_L_changed
set_option maxRecDepth 20000 in
theorem ggL_act_X4_price : GoodIn wsL_act wsX4_price := goodIn_r _ [176, 14, 67, 68, 69, 9, 70, 71, 13, 72, 73, 74, 18, 75, 26, 76, 77, 78, 79, 31, 21, 20, 22, 23, 24, 80, 81, 82, 49, 83, 51, 52, 53, 54, 55, 56, 57, 58, 84, 85, 86, 87, 88, 89, 90, 91, 92, 93, 94, 177, 178, 179, 180, 107, 128, 43, 44, 45, 129, 130, 131, 132, 133, 134, 135, 136, 137, 138, 139, 140, 141, 142, 143, 144, 145, 146, 147, 148, 149, 150, 151, 103, 104, 105, 106, 108, 109, 110, 111, 112, 113, 114, 115, 116, 117, 118, 119, 233, 234, 235, 236, 237, 238, 239, 246, 247, 248, 249, 250, 251, 252, 258, 259, 260, 261, 262, 263, 264, 265, 253, 254, 255, 256, 257] (by decide +kernel) (by decide +kernel)
