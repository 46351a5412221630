theorem d_Law_answer_0 : decode b_Law_answer 0 = .ok (.aload_n 2, 1) := by decide +kernel
theorem d_Law_answer_1 : decode b_Law_answer 1 = .ok (.iconst 0, 1) := by decide +kernel
theorem d_Law_answer_2 : decode b_Law_answer 2 = .ok (.aload_n 0, 1) := by decide +kernel
theorem d_Law_answer_3 : decode b_Law_answer 3 = .ok (.iload_n 1, 1) := by decide +kernel
theorem d_Law_answer_4 : decode b_Law_answer 4 = .ok (.invokevirtual 7, 3) := by decide +kernel
theorem d_Law_answer_7 : decode b_Law_answer 7 = .ok (.i2l, 1) := by decide +kernel
theorem d_Law_answer_8 : decode b_Law_answer 8 = .ok (.lastore, 1) := by decide +kernel
theorem d_Law_answer_9 : decode b_Law_answer 9 = .ok (.goto 6, 3) := by decide +kernel
theorem d_Law_answer_12 : decode b_Law_answer 12 = .ok (.astore_n 3, 1) := by decide +kernel
theorem d_Law_answer_13 : decode b_Law_answer 13 = .ok (.iconst 1, 1) := by decide +kernel
theorem d_Law_answer_14 : decode b_Law_answer 14 = .ok (.ireturn, 1) := by decide +kernel
theorem d_Law_answer_15 : decode b_Law_answer 15 = .ok (.iconst 0, 1) := by decide +kernel
theorem d_Law_answer_16 : decode b_Law_answer 16 = .ok (.ireturn, 1) := by decide +kernel
theorem d_Law_row_0 : decode b_Law_row 0 = .ok (.aload_n 3, 1) := by decide +kernel
theorem d_Law_row_1 : decode b_Law_row 1 = .ok (.iconst 0, 1) := by decide +kernel
theorem d_Law_row_2 : decode b_Law_row 2 = .ok (.aload_n 0, 1) := by decide +kernel
theorem d_Law_row_3 : decode b_Law_row 3 = .ok (.iload_n 1, 1) := by decide +kernel
theorem d_Law_row_4 : decode b_Law_row 4 = .ok (.iload_n 2, 1) := by decide +kernel
theorem d_Law_row_5 : decode b_Law_row 5 = .ok (.invokevirtual 15, 3) := by decide +kernel
theorem d_Law_row_8 : decode b_Law_row 8 = .ok (.i2l, 1) := by decide +kernel
theorem d_Law_row_9 : decode b_Law_row 9 = .ok (.lastore, 1) := by decide +kernel
theorem d_Law_row_10 : decode b_Law_row 10 = .ok (.goto 7, 3) := by decide +kernel
theorem d_Law_row_13 : decode b_Law_row 13 = .ok (.astore 4, 2) := by decide +kernel
theorem d_Law_row_15 : decode b_Law_row 15 = .ok (.iconst 1, 1) := by decide +kernel
theorem d_Law_row_16 : decode b_Law_row 16 = .ok (.ireturn, 1) := by decide +kernel
theorem d_Law_row_17 : decode b_Law_row 17 = .ok (.iconst 0, 1) := by decide +kernel
theorem d_Law_row_18 : decode b_Law_row 18 = .ok (.ireturn, 1) := by decide +kernel
theorem d_Law_fetch_0 : decode b_Law_fetch 0 = .ok (.aload_n 3, 1) := by decide +kernel
theorem d_Law_fetch_1 : decode b_Law_fetch 1 = .ok (.iconst 0, 1) := by decide +kernel
theorem d_Law_fetch_2 : decode b_Law_fetch 2 = .ok (.aload_n 0, 1) := by decide +kernel
theorem d_Law_fetch_3 : decode b_Law_fetch 3 = .ok (.iload_n 1, 1) := by decide +kernel
theorem d_Law_fetch_4 : decode b_Law_fetch 4 = .ok (.iload_n 2, 1) := by decide +kernel
theorem d_Law_fetch_5 : decode b_Law_fetch 5 = .ok (.invokevirtual 21, 3) := by decide +kernel
theorem d_Law_fetch_8 : decode b_Law_fetch 8 = .ok (.i2l, 1) := by decide +kernel
theorem d_Law_fetch_9 : decode b_Law_fetch 9 = .ok (.lastore, 1) := by decide +kernel
theorem d_Law_fetch_10 : decode b_Law_fetch 10 = .ok (.goto 7, 3) := by decide +kernel
theorem d_Law_fetch_13 : decode b_Law_fetch 13 = .ok (.astore 4, 2) := by decide +kernel
theorem d_Law_fetch_15 : decode b_Law_fetch 15 = .ok (.iconst 1, 1) := by decide +kernel
theorem d_Law_fetch_16 : decode b_Law_fetch 16 = .ok (.ireturn, 1) := by decide +kernel
theorem d_Law_fetch_17 : decode b_Law_fetch 17 = .ok (.iconst 0, 1) := by decide +kernel
theorem d_Law_fetch_18 : decode b_Law_fetch 18 = .ok (.ireturn, 1) := by decide +kernel
theorem d_Law_law_0 : decode b_Law_law 0 = .ok (.new 8, 3) := by decide +kernel
theorem d_Law_law_3 : decode b_Law_law 3 = .ok (.dup, 1) := by decide +kernel
theorem d_Law_law_4 : decode b_Law_law 4 = .ok (.invokespecial 24, 3) := by decide +kernel
theorem d_Law_law_7 : decode b_Law_law 7 = .ok (.astore_n 1, 1) := by decide +kernel
theorem d_Law_law_8 : decode b_Law_law 8 = .ok (.new 25, 3) := by decide +kernel
theorem d_Law_law_11 : decode b_Law_law 11 = .ok (.dup, 1) := by decide +kernel
theorem d_Law_law_12 : decode b_Law_law 12 = .ok (.invokespecial 27, 3) := by decide +kernel
theorem d_Law_law_15 : decode b_Law_law 15 = .ok (.astore_n 2, 1) := by decide +kernel
theorem d_Law_law_16 : decode b_Law_law 16 = .ok (.iconst 1, 1) := by decide +kernel
theorem d_Law_law_17 : decode b_Law_law 17 = .ok (.newarray .long, 2) := by decide +kernel
theorem d_Law_law_19 : decode b_Law_law 19 = .ok (.astore_n 3, 1) := by decide +kernel
theorem d_Law_law_20 : decode b_Law_law 20 = .ok (.iconst 0, 1) := by decide +kernel
theorem d_Law_law_21 : decode b_Law_law 21 = .ok (.istore 4, 2) := by decide +kernel
theorem d_Law_law_23 : decode b_Law_law 23 = .ok (.iload 4, 2) := by decide +kernel
theorem d_Law_law_25 : decode b_Law_law 25 = .ok (.aload_n 0, 1) := by decide +kernel
theorem d_Law_law_26 : decode b_Law_law 26 = .ok (.arraylength, 1) := by decide +kernel
theorem d_Law_law_27 : decode b_Law_law 27 = .ok (.iconst 5, 1) := by decide +kernel
theorem d_Law_law_28 : decode b_Law_law 28 = .ok (.isub, 1) := by decide +kernel
theorem d_Law_law_29 : decode b_Law_law 29 = .ok (.if_icmp .gt 637, 3) := by decide +kernel
theorem d_Law_law_32 : decode b_Law_law 32 = .ok (.aload_n 0, 1) := by decide +kernel
theorem d_Law_law_33 : decode b_Law_law 33 = .ok (.iload 4, 2) := by decide +kernel
theorem d_Law_law_35 : decode b_Law_law 35 = .ok (.iaload, 1) := by decide +kernel
theorem d_Law_law_36 : decode b_Law_law 36 = .ok (.bipush 15, 2) := by decide +kernel
theorem d_Law_law_38 : decode b_Law_law 38 = .ok (.iand, 1) := by decide +kernel
theorem d_Law_law_39 : decode b_Law_law 39 = .ok (.tableswitch 621 0 10 #[57, 126, 175, 200, 261, 317, 342, 426, 510, 547, 584], 57) := by decide +kernel
theorem d_Law_law_96 : decode b_Law_law 96 = .ok (.aload_n 1, 1) := by decide +kernel
theorem d_Law_law_97 : decode b_Law_law 97 = .ok (.aload_n 0, 1) := by decide +kernel
theorem d_Law_law_98 : decode b_Law_law 98 = .ok (.iload 4, 2) := by decide +kernel
theorem d_Law_law_100 : decode b_Law_law 100 = .ok (.iconst 1, 1) := by decide +kernel
theorem d_Law_law_101 : decode b_Law_law 101 = .ok (.iadd, 1) := by decide +kernel
theorem d_Law_law_102 : decode b_Law_law 102 = .ok (.iaload, 1) := by decide +kernel
theorem d_Law_law_103 : decode b_Law_law 103 = .ok (.i2l, 1) := by decide +kernel
theorem d_Law_law_104 : decode b_Law_law 104 = .ok (.bipush 32, 2) := by decide +kernel
theorem d_Law_law_106 : decode b_Law_law 106 = .ok (.lshl, 1) := by decide +kernel
theorem d_Law_law_107 : decode b_Law_law 107 = .ok (.aload_n 0, 1) := by decide +kernel
theorem d_Law_law_108 : decode b_Law_law 108 = .ok (.iload 4, 2) := by decide +kernel
theorem d_Law_law_110 : decode b_Law_law 110 = .ok (.iconst 2, 1) := by decide +kernel
theorem d_Law_law_111 : decode b_Law_law 111 = .ok (.iadd, 1) := by decide +kernel
theorem d_Law_law_112 : decode b_Law_law 112 = .ok (.iaload, 1) := by decide +kernel
theorem d_Law_law_113 : decode b_Law_law 113 = .ok (.i2l, 1) := by decide +kernel
theorem d_Law_law_114 : decode b_Law_law 114 = .ok (.ldc2_w 28, 3) := by decide +kernel
theorem d_Law_law_117 : decode b_Law_law 117 = .ok (.land, 1) := by decide +kernel
theorem d_Law_law_118 : decode b_Law_law 118 = .ok (.lor, 1) := by decide +kernel
theorem d_Law_law_119 : decode b_Law_law 119 = .ok (.aload_n 0, 1) := by decide +kernel
theorem d_Law_law_120 : decode b_Law_law 120 = .ok (.iload 4, 2) := by decide +kernel
theorem d_Law_law_122 : decode b_Law_law 122 = .ok (.iconst 3, 1) := by decide +kernel
theorem d_Law_law_123 : decode b_Law_law 123 = .ok (.iadd, 1) := by decide +kernel
theorem d_Law_law_124 : decode b_Law_law 124 = .ok (.iaload, 1) := by decide +kernel
theorem d_Law_law_125 : decode b_Law_law 125 = .ok (.invokevirtual 30, 3) := by decide +kernel
theorem d_Law_law_128 : decode b_Law_law 128 = .ok (.aload_n 2, 1) := by decide +kernel
theorem d_Law_law_129 : decode b_Law_law 129 = .ok (.aload_n 0, 1) := by decide +kernel
theorem d_Law_law_130 : decode b_Law_law 130 = .ok (.iload 4, 2) := by decide +kernel
theorem d_Law_law_132 : decode b_Law_law 132 = .ok (.iconst 1, 1) := by decide +kernel
theorem d_Law_law_133 : decode b_Law_law 133 = .ok (.iadd, 1) := by decide +kernel
theorem d_Law_law_134 : decode b_Law_law 134 = .ok (.iaload, 1) := by decide +kernel
theorem d_Law_law_135 : decode b_Law_law 135 = .ok (.i2l, 1) := by decide +kernel
theorem d_Law_law_136 : decode b_Law_law 136 = .ok (.bipush 32, 2) := by decide +kernel
theorem d_Law_law_138 : decode b_Law_law 138 = .ok (.lshl, 1) := by decide +kernel
theorem d_Law_law_139 : decode b_Law_law 139 = .ok (.aload_n 0, 1) := by decide +kernel
theorem d_Law_law_140 : decode b_Law_law 140 = .ok (.iload 4, 2) := by decide +kernel
theorem d_Law_law_142 : decode b_Law_law 142 = .ok (.iconst 2, 1) := by decide +kernel
theorem d_Law_law_143 : decode b_Law_law 143 = .ok (.iadd, 1) := by decide +kernel
theorem d_Law_law_144 : decode b_Law_law 144 = .ok (.iaload, 1) := by decide +kernel
theorem d_Law_law_145 : decode b_Law_law 145 = .ok (.i2l, 1) := by decide +kernel
theorem d_Law_law_146 : decode b_Law_law 146 = .ok (.ldc2_w 28, 3) := by decide +kernel
theorem d_Law_law_149 : decode b_Law_law 149 = .ok (.land, 1) := by decide +kernel
theorem d_Law_law_150 : decode b_Law_law 150 = .ok (.lor, 1) := by decide +kernel
theorem d_Law_law_151 : decode b_Law_law 151 = .ok (.aload_n 0, 1) := by decide +kernel
theorem d_Law_law_152 : decode b_Law_law 152 = .ok (.iload 4, 2) := by decide +kernel
theorem d_Law_law_154 : decode b_Law_law 154 = .ok (.iconst 3, 1) := by decide +kernel
theorem d_Law_law_155 : decode b_Law_law 155 = .ok (.iadd, 1) := by decide +kernel
theorem d_Law_law_156 : decode b_Law_law 156 = .ok (.iaload, 1) := by decide +kernel
theorem d_Law_law_157 : decode b_Law_law 157 = .ok (.invokevirtual 34, 3) := by decide +kernel
theorem d_Law_law_160 : decode b_Law_law 160 = .ok (.if_icmp .eq 500, 3) := by decide +kernel
theorem d_Law_law_163 : decode b_Law_law 163 = .ok (.iconst 0, 1) := by decide +kernel
theorem d_Law_law_164 : decode b_Law_law 164 = .ok (.ireturn, 1) := by decide +kernel
theorem d_Law_law_165 : decode b_Law_law 165 = .ok (.aload_n 1, 1) := by decide +kernel
theorem d_Law_law_166 : decode b_Law_law 166 = .ok (.aload_n 0, 1) := by decide +kernel
theorem d_Law_law_167 : decode b_Law_law 167 = .ok (.iload 4, 2) := by decide +kernel
theorem d_Law_law_169 : decode b_Law_law 169 = .ok (.iconst 1, 1) := by decide +kernel
theorem d_Law_law_170 : decode b_Law_law 170 = .ok (.iadd, 1) := by decide +kernel
theorem d_Law_law_171 : decode b_Law_law 171 = .ok (.iaload, 1) := by decide +kernel
theorem d_Law_law_172 : decode b_Law_law 172 = .ok (.aload_n 0, 1) := by decide +kernel
theorem d_Law_law_173 : decode b_Law_law 173 = .ok (.iload 4, 2) := by decide +kernel
theorem d_Law_law_175 : decode b_Law_law 175 = .ok (.iconst 2, 1) := by decide +kernel
theorem d_Law_law_176 : decode b_Law_law 176 = .ok (.iadd, 1) := by decide +kernel
theorem d_Law_law_177 : decode b_Law_law 177 = .ok (.iaload, 1) := by decide +kernel
theorem d_Law_law_178 : decode b_Law_law 178 = .ok (.aload_n 0, 1) := by decide +kernel
theorem d_Law_law_179 : decode b_Law_law 179 = .ok (.iload 4, 2) := by decide +kernel
theorem d_Law_law_181 : decode b_Law_law 181 = .ok (.iconst 3, 1) := by decide +kernel
theorem d_Law_law_182 : decode b_Law_law 182 = .ok (.iadd, 1) := by decide +kernel
theorem d_Law_law_183 : decode b_Law_law 183 = .ok (.iaload, 1) := by decide +kernel
theorem d_Law_law_184 : decode b_Law_law 184 = .ok (.invokevirtual 35, 3) := by decide +kernel
theorem d_Law_law_187 : decode b_Law_law 187 = .ok (.aload_n 2, 1) := by decide +kernel
theorem d_Law_law_188 : decode b_Law_law 188 = .ok (.aload_n 0, 1) := by decide +kernel
theorem d_Law_law_189 : decode b_Law_law 189 = .ok (.iload 4, 2) := by decide +kernel
theorem d_Law_law_191 : decode b_Law_law 191 = .ok (.iconst 1, 1) := by decide +kernel
theorem d_Law_law_192 : decode b_Law_law 192 = .ok (.iadd, 1) := by decide +kernel
theorem d_Law_law_193 : decode b_Law_law 193 = .ok (.iaload, 1) := by decide +kernel
theorem d_Law_law_194 : decode b_Law_law 194 = .ok (.aload_n 0, 1) := by decide +kernel
theorem d_Law_law_195 : decode b_Law_law 195 = .ok (.iload 4, 2) := by decide +kernel
theorem d_Law_law_197 : decode b_Law_law 197 = .ok (.iconst 2, 1) := by decide +kernel
theorem d_Law_law_198 : decode b_Law_law 198 = .ok (.iadd, 1) := by decide +kernel
theorem d_Law_law_199 : decode b_Law_law 199 = .ok (.iaload, 1) := by decide +kernel
theorem d_Law_law_200 : decode b_Law_law 200 = .ok (.aload_n 0, 1) := by decide +kernel
theorem d_Law_law_201 : decode b_Law_law 201 = .ok (.iload 4, 2) := by decide +kernel
theorem d_Law_law_203 : decode b_Law_law 203 = .ok (.iconst 3, 1) := by decide +kernel
theorem d_Law_law_204 : decode b_Law_law 204 = .ok (.iadd, 1) := by decide +kernel
theorem d_Law_law_205 : decode b_Law_law 205 = .ok (.iaload, 1) := by decide +kernel
theorem d_Law_law_206 : decode b_Law_law 206 = .ok (.invokevirtual 39, 3) := by decide +kernel
theorem d_Law_law_209 : decode b_Law_law 209 = .ok (.if_icmp .eq 451, 3) := by decide +kernel
theorem d_Law_law_212 : decode b_Law_law 212 = .ok (.iconst 0, 1) := by decide +kernel
theorem d_Law_law_213 : decode b_Law_law 213 = .ok (.ireturn, 1) := by decide +kernel
theorem d_Law_law_214 : decode b_Law_law 214 = .ok (.aload_n 1, 1) := by decide +kernel
theorem d_Law_law_215 : decode b_Law_law 215 = .ok (.aload_n 0, 1) := by decide +kernel
theorem d_Law_law_216 : decode b_Law_law 216 = .ok (.iload 4, 2) := by decide +kernel
theorem d_Law_law_218 : decode b_Law_law 218 = .ok (.iconst 1, 1) := by decide +kernel
theorem d_Law_law_219 : decode b_Law_law 219 = .ok (.iadd, 1) := by decide +kernel
theorem d_Law_law_220 : decode b_Law_law 220 = .ok (.iaload, 1) := by decide +kernel
theorem d_Law_law_221 : decode b_Law_law 221 = .ok (.invokevirtual 40, 3) := by decide +kernel
theorem d_Law_law_224 : decode b_Law_law 224 = .ok (.aload_n 2, 1) := by decide +kernel
theorem d_Law_law_225 : decode b_Law_law 225 = .ok (.aload_n 0, 1) := by decide +kernel
theorem d_Law_law_226 : decode b_Law_law 226 = .ok (.iload 4, 2) := by decide +kernel
theorem d_Law_law_228 : decode b_Law_law 228 = .ok (.iconst 1, 1) := by decide +kernel
theorem d_Law_law_229 : decode b_Law_law 229 = .ok (.iadd, 1) := by decide +kernel
theorem d_Law_law_230 : decode b_Law_law 230 = .ok (.iaload, 1) := by decide +kernel
theorem d_Law_law_231 : decode b_Law_law 231 = .ok (.invokevirtual 44, 3) := by decide +kernel
theorem d_Law_law_234 : decode b_Law_law 234 = .ok (.if_icmp .eq 426, 3) := by decide +kernel
theorem d_Law_law_237 : decode b_Law_law 237 = .ok (.iconst 0, 1) := by decide +kernel
theorem d_Law_law_238 : decode b_Law_law 238 = .ok (.ireturn, 1) := by decide +kernel
theorem d_Law_law_239 : decode b_Law_law 239 = .ok (.aload_n 1, 1) := by decide +kernel
theorem d_Law_law_240 : decode b_Law_law 240 = .ok (.aload_n 0, 1) := by decide +kernel
theorem d_Law_law_241 : decode b_Law_law 241 = .ok (.iload 4, 2) := by decide +kernel
theorem d_Law_law_243 : decode b_Law_law 243 = .ok (.iconst 1, 1) := by decide +kernel
theorem d_Law_law_244 : decode b_Law_law 244 = .ok (.iadd, 1) := by decide +kernel
theorem d_Law_law_245 : decode b_Law_law 245 = .ok (.iaload, 1) := by decide +kernel
theorem d_Law_law_246 : decode b_Law_law 246 = .ok (.aload_n 0, 1) := by decide +kernel
theorem d_Law_law_247 : decode b_Law_law 247 = .ok (.iload 4, 2) := by decide +kernel
theorem d_Law_law_249 : decode b_Law_law 249 = .ok (.iconst 2, 1) := by decide +kernel
theorem d_Law_law_250 : decode b_Law_law 250 = .ok (.iadd, 1) := by decide +kernel
theorem d_Law_law_251 : decode b_Law_law 251 = .ok (.iaload, 1) := by decide +kernel
theorem d_Law_law_252 : decode b_Law_law 252 = .ok (.aload_n 0, 1) := by decide +kernel
theorem d_Law_law_253 : decode b_Law_law 253 = .ok (.iload 4, 2) := by decide +kernel
theorem d_Law_law_255 : decode b_Law_law 255 = .ok (.iconst 3, 1) := by decide +kernel
theorem d_Law_law_256 : decode b_Law_law 256 = .ok (.iadd, 1) := by decide +kernel
theorem d_Law_law_257 : decode b_Law_law 257 = .ok (.iaload, 1) := by decide +kernel
theorem d_Law_law_258 : decode b_Law_law 258 = .ok (.aload_n 0, 1) := by decide +kernel
theorem d_Law_law_259 : decode b_Law_law 259 = .ok (.iload 4, 2) := by decide +kernel
theorem d_Law_law_261 : decode b_Law_law 261 = .ok (.iconst 4, 1) := by decide +kernel
theorem d_Law_law_262 : decode b_Law_law 262 = .ok (.iadd, 1) := by decide +kernel
theorem d_Law_law_263 : decode b_Law_law 263 = .ok (.iaload, 1) := by decide +kernel
theorem d_Law_law_264 : decode b_Law_law 264 = .ok (.invokevirtual 45, 3) := by decide +kernel
theorem d_Law_law_267 : decode b_Law_law 267 = .ok (.aload_n 2, 1) := by decide +kernel
theorem d_Law_law_268 : decode b_Law_law 268 = .ok (.aload_n 0, 1) := by decide +kernel
theorem d_Law_law_269 : decode b_Law_law 269 = .ok (.iload 4, 2) := by decide +kernel
theorem d_Law_law_271 : decode b_Law_law 271 = .ok (.iconst 1, 1) := by decide +kernel
theorem d_Law_law_272 : decode b_Law_law 272 = .ok (.iadd, 1) := by decide +kernel
theorem d_Law_law_273 : decode b_Law_law 273 = .ok (.iaload, 1) := by decide +kernel
theorem d_Law_law_274 : decode b_Law_law 274 = .ok (.aload_n 0, 1) := by decide +kernel
theorem d_Law_law_275 : decode b_Law_law 275 = .ok (.iload 4, 2) := by decide +kernel
theorem d_Law_law_277 : decode b_Law_law 277 = .ok (.iconst 2, 1) := by decide +kernel
theorem d_Law_law_278 : decode b_Law_law 278 = .ok (.iadd, 1) := by decide +kernel
theorem d_Law_law_279 : decode b_Law_law 279 = .ok (.iaload, 1) := by decide +kernel
theorem d_Law_law_280 : decode b_Law_law 280 = .ok (.aload_n 0, 1) := by decide +kernel
theorem d_Law_law_281 : decode b_Law_law 281 = .ok (.iload 4, 2) := by decide +kernel
theorem d_Law_law_283 : decode b_Law_law 283 = .ok (.iconst 3, 1) := by decide +kernel
theorem d_Law_law_284 : decode b_Law_law 284 = .ok (.iadd, 1) := by decide +kernel
theorem d_Law_law_285 : decode b_Law_law 285 = .ok (.iaload, 1) := by decide +kernel
theorem d_Law_law_286 : decode b_Law_law 286 = .ok (.aload_n 0, 1) := by decide +kernel
theorem d_Law_law_287 : decode b_Law_law 287 = .ok (.iload 4, 2) := by decide +kernel
theorem d_Law_law_289 : decode b_Law_law 289 = .ok (.iconst 4, 1) := by decide +kernel
theorem d_Law_law_290 : decode b_Law_law 290 = .ok (.iadd, 1) := by decide +kernel
theorem d_Law_law_291 : decode b_Law_law 291 = .ok (.iaload, 1) := by decide +kernel
theorem d_Law_law_292 : decode b_Law_law 292 = .ok (.invokevirtual 49, 3) := by decide +kernel
theorem d_Law_law_295 : decode b_Law_law 295 = .ok (.if_icmp .eq 365, 3) := by decide +kernel
theorem d_Law_law_298 : decode b_Law_law 298 = .ok (.iconst 0, 1) := by decide +kernel
theorem d_Law_law_299 : decode b_Law_law 299 = .ok (.ireturn, 1) := by decide +kernel
theorem d_Law_law_300 : decode b_Law_law 300 = .ok (.aload_n 1, 1) := by decide +kernel
theorem d_Law_law_301 : decode b_Law_law 301 = .ok (.aload_n 0, 1) := by decide +kernel
theorem d_Law_law_302 : decode b_Law_law 302 = .ok (.iload 4, 2) := by decide +kernel
theorem d_Law_law_304 : decode b_Law_law 304 = .ok (.iconst 1, 1) := by decide +kernel
theorem d_Law_law_305 : decode b_Law_law 305 = .ok (.iadd, 1) := by decide +kernel
theorem d_Law_law_306 : decode b_Law_law 306 = .ok (.iaload, 1) := by decide +kernel
theorem d_Law_law_307 : decode b_Law_law 307 = .ok (.aload_n 3, 1) := by decide +kernel
theorem d_Law_law_308 : decode b_Law_law 308 = .ok (.invokestatic 50, 3) := by decide +kernel
theorem d_Law_law_311 : decode b_Law_law 311 = .ok (.istore 5, 2) := by decide +kernel
theorem d_Law_law_313 : decode b_Law_law 313 = .ok (.aload_n 2, 1) := by decide +kernel
theorem d_Law_law_314 : decode b_Law_law 314 = .ok (.aload_n 0, 1) := by decide +kernel
theorem d_Law_law_315 : decode b_Law_law 315 = .ok (.iload 4, 2) := by decide +kernel
theorem d_Law_law_317 : decode b_Law_law 317 = .ok (.iconst 1, 1) := by decide +kernel
theorem d_Law_law_318 : decode b_Law_law 318 = .ok (.iadd, 1) := by decide +kernel
theorem d_Law_law_319 : decode b_Law_law 319 = .ok (.iaload, 1) := by decide +kernel
theorem d_Law_law_320 : decode b_Law_law 320 = .ok (.invokevirtual 55, 3) := by decide +kernel
theorem d_Law_law_323 : decode b_Law_law 323 = .ok (.istore 6, 2) := by decide +kernel
theorem d_Law_law_325 : decode b_Law_law 325 = .ok (.aload_n 2, 1) := by decide +kernel
theorem d_Law_law_326 : decode b_Law_law 326 = .ok (.invokevirtual 56, 3) := by decide +kernel
theorem d_Law_law_329 : decode b_Law_law 329 = .ok (.iload 5, 2) := by decide +kernel
theorem d_Law_law_331 : decode b_Law_law 331 = .ok (.if_icmp .eq 5, 3) := by decide +kernel
theorem d_Law_law_334 : decode b_Law_law 334 = .ok (.iconst 0, 1) := by decide +kernel
theorem d_Law_law_335 : decode b_Law_law 335 = .ok (.ireturn, 1) := by decide +kernel
theorem d_Law_law_336 : decode b_Law_law 336 = .ok (.iload 5, 2) := by decide +kernel
theorem d_Law_law_338 : decode b_Law_law 338 = .ok (.ifCond .ne 15, 3) := by decide +kernel
theorem d_Law_law_341 : decode b_Law_law 341 = .ok (.aload_n 3, 1) := by decide +kernel
theorem d_Law_law_342 : decode b_Law_law 342 = .ok (.iconst 0, 1) := by decide +kernel
theorem d_Law_law_343 : decode b_Law_law 343 = .ok (.laload, 1) := by decide +kernel
theorem d_Law_law_344 : decode b_Law_law 344 = .ok (.iload 6, 2) := by decide +kernel
theorem d_Law_law_346 : decode b_Law_law 346 = .ok (.i2l, 1) := by decide +kernel
theorem d_Law_law_347 : decode b_Law_law 347 = .ok (.lcmp, 1) := by decide +kernel
theorem d_Law_law_348 : decode b_Law_law 348 = .ok (.ifCond .eq 5, 3) := by decide +kernel
theorem d_Law_law_351 : decode b_Law_law 351 = .ok (.iconst 0, 1) := by decide +kernel
theorem d_Law_law_352 : decode b_Law_law 352 = .ok (.ireturn, 1) := by decide +kernel
theorem d_Law_law_353 : decode b_Law_law 353 = .ok (.goto 307, 3) := by decide +kernel
theorem d_Law_law_356 : decode b_Law_law 356 = .ok (.aload_n 1, 1) := by decide +kernel
theorem d_Law_law_357 : decode b_Law_law 357 = .ok (.aload_n 0, 1) := by decide +kernel
theorem d_Law_law_358 : decode b_Law_law 358 = .ok (.iload 4, 2) := by decide +kernel
theorem d_Law_law_360 : decode b_Law_law 360 = .ok (.iconst 1, 1) := by decide +kernel
theorem d_Law_law_361 : decode b_Law_law 361 = .ok (.iadd, 1) := by decide +kernel
theorem d_Law_law_362 : decode b_Law_law 362 = .ok (.iaload, 1) := by decide +kernel
theorem d_Law_law_363 : decode b_Law_law 363 = .ok (.invokevirtual 60, 3) := by decide +kernel
theorem d_Law_law_366 : decode b_Law_law 366 = .ok (.aload_n 2, 1) := by decide +kernel
theorem d_Law_law_367 : decode b_Law_law 367 = .ok (.aload_n 0, 1) := by decide +kernel
theorem d_Law_law_368 : decode b_Law_law 368 = .ok (.iload 4, 2) := by decide +kernel
theorem d_Law_law_370 : decode b_Law_law 370 = .ok (.iconst 1, 1) := by decide +kernel
theorem d_Law_law_371 : decode b_Law_law 371 = .ok (.iadd, 1) := by decide +kernel
theorem d_Law_law_372 : decode b_Law_law 372 = .ok (.iaload, 1) := by decide +kernel
theorem d_Law_law_373 : decode b_Law_law 373 = .ok (.invokevirtual 63, 3) := by decide +kernel
theorem d_Law_law_376 : decode b_Law_law 376 = .ok (.if_icmp .eq 284, 3) := by decide +kernel
theorem d_Law_law_379 : decode b_Law_law 379 = .ok (.iconst 0, 1) := by decide +kernel
theorem d_Law_law_380 : decode b_Law_law 380 = .ok (.ireturn, 1) := by decide +kernel
theorem d_Law_law_381 : decode b_Law_law 381 = .ok (.aload_n 1, 1) := by decide +kernel
theorem d_Law_law_382 : decode b_Law_law 382 = .ok (.aload_n 0, 1) := by decide +kernel
theorem d_Law_law_383 : decode b_Law_law 383 = .ok (.iload 4, 2) := by decide +kernel
theorem d_Law_law_385 : decode b_Law_law 385 = .ok (.iconst 1, 1) := by decide +kernel
theorem d_Law_law_386 : decode b_Law_law 386 = .ok (.iadd, 1) := by decide +kernel
theorem d_Law_law_387 : decode b_Law_law 387 = .ok (.iaload, 1) := by decide +kernel
theorem d_Law_law_388 : decode b_Law_law 388 = .ok (.aload_n 0, 1) := by decide +kernel
theorem d_Law_law_389 : decode b_Law_law 389 = .ok (.iload 4, 2) := by decide +kernel
theorem d_Law_law_391 : decode b_Law_law 391 = .ok (.iconst 2, 1) := by decide +kernel
theorem d_Law_law_392 : decode b_Law_law 392 = .ok (.iadd, 1) := by decide +kernel
theorem d_Law_law_393 : decode b_Law_law 393 = .ok (.iaload, 1) := by decide +kernel
theorem d_Law_law_394 : decode b_Law_law 394 = .ok (.ifCond .eq 7, 3) := by decide +kernel
theorem d_Law_law_397 : decode b_Law_law 397 = .ok (.iconst 1, 1) := by decide +kernel
theorem d_Law_law_398 : decode b_Law_law 398 = .ok (.goto 4, 3) := by decide +kernel
theorem d_Law_law_401 : decode b_Law_law 401 = .ok (.iconst 0, 1) := by decide +kernel
theorem d_Law_law_402 : decode b_Law_law 402 = .ok (.aload_n 3, 1) := by decide +kernel
theorem d_Law_law_403 : decode b_Law_law 403 = .ok (.invokestatic 64, 3) := by decide +kernel
theorem d_Law_law_406 : decode b_Law_law 406 = .ok (.istore 5, 2) := by decide +kernel
theorem d_Law_law_408 : decode b_Law_law 408 = .ok (.aload_n 2, 1) := by decide +kernel
theorem d_Law_law_409 : decode b_Law_law 409 = .ok (.aload_n 0, 1) := by decide +kernel
theorem d_Law_law_410 : decode b_Law_law 410 = .ok (.iload 4, 2) := by decide +kernel
theorem d_Law_law_412 : decode b_Law_law 412 = .ok (.iconst 1, 1) := by decide +kernel
theorem d_Law_law_413 : decode b_Law_law 413 = .ok (.iadd, 1) := by decide +kernel
theorem d_Law_law_414 : decode b_Law_law 414 = .ok (.iaload, 1) := by decide +kernel
theorem d_Law_law_415 : decode b_Law_law 415 = .ok (.aload_n 0, 1) := by decide +kernel
theorem d_Law_law_416 : decode b_Law_law 416 = .ok (.iload 4, 2) := by decide +kernel
theorem d_Law_law_418 : decode b_Law_law 418 = .ok (.iconst 2, 1) := by decide +kernel
theorem d_Law_law_419 : decode b_Law_law 419 = .ok (.iadd, 1) := by decide +kernel
theorem d_Law_law_420 : decode b_Law_law 420 = .ok (.iaload, 1) := by decide +kernel
theorem d_Law_law_421 : decode b_Law_law 421 = .ok (.ifCond .eq 7, 3) := by decide +kernel
theorem d_Law_law_424 : decode b_Law_law 424 = .ok (.iconst 1, 1) := by decide +kernel
theorem d_Law_law_425 : decode b_Law_law 425 = .ok (.goto 4, 3) := by decide +kernel
theorem d_Law_law_428 : decode b_Law_law 428 = .ok (.iconst 0, 1) := by decide +kernel
theorem d_Law_law_429 : decode b_Law_law 429 = .ok (.invokevirtual 67, 3) := by decide +kernel
theorem d_Law_law_432 : decode b_Law_law 432 = .ok (.istore 6, 2) := by decide +kernel
theorem d_Law_law_434 : decode b_Law_law 434 = .ok (.aload_n 2, 1) := by decide +kernel
theorem d_Law_law_435 : decode b_Law_law 435 = .ok (.invokevirtual 56, 3) := by decide +kernel
theorem d_Law_law_438 : decode b_Law_law 438 = .ok (.iload 5, 2) := by decide +kernel
theorem d_Law_law_440 : decode b_Law_law 440 = .ok (.if_icmp .eq 5, 3) := by decide +kernel
theorem d_Law_law_443 : decode b_Law_law 443 = .ok (.iconst 0, 1) := by decide +kernel
theorem d_Law_law_444 : decode b_Law_law 444 = .ok (.ireturn, 1) := by decide +kernel
theorem d_Law_law_445 : decode b_Law_law 445 = .ok (.iload 5, 2) := by decide +kernel
theorem d_Law_law_447 : decode b_Law_law 447 = .ok (.ifCond .ne 15, 3) := by decide +kernel
theorem d_Law_law_450 : decode b_Law_law 450 = .ok (.aload_n 3, 1) := by decide +kernel
theorem d_Law_law_451 : decode b_Law_law 451 = .ok (.iconst 0, 1) := by decide +kernel
theorem d_Law_law_452 : decode b_Law_law 452 = .ok (.laload, 1) := by decide +kernel
theorem d_Law_law_453 : decode b_Law_law 453 = .ok (.iload 6, 2) := by decide +kernel
theorem d_Law_law_455 : decode b_Law_law 455 = .ok (.i2l, 1) := by decide +kernel
theorem d_Law_law_456 : decode b_Law_law 456 = .ok (.lcmp, 1) := by decide +kernel
theorem d_Law_law_457 : decode b_Law_law 457 = .ok (.ifCond .eq 5, 3) := by decide +kernel
theorem d_Law_law_460 : decode b_Law_law 460 = .ok (.iconst 0, 1) := by decide +kernel
theorem d_Law_law_461 : decode b_Law_law 461 = .ok (.ireturn, 1) := by decide +kernel
theorem d_Law_law_462 : decode b_Law_law 462 = .ok (.goto 198, 3) := by decide +kernel
theorem d_Law_law_465 : decode b_Law_law 465 = .ok (.aload_n 1, 1) := by decide +kernel
theorem d_Law_law_466 : decode b_Law_law 466 = .ok (.aload_n 0, 1) := by decide +kernel
theorem d_Law_law_467 : decode b_Law_law 467 = .ok (.iload 4, 2) := by decide +kernel
theorem d_Law_law_469 : decode b_Law_law 469 = .ok (.iconst 1, 1) := by decide +kernel
theorem d_Law_law_470 : decode b_Law_law 470 = .ok (.iadd, 1) := by decide +kernel
theorem d_Law_law_471 : decode b_Law_law 471 = .ok (.iaload, 1) := by decide +kernel
theorem d_Law_law_472 : decode b_Law_law 472 = .ok (.aload_n 0, 1) := by decide +kernel
theorem d_Law_law_473 : decode b_Law_law 473 = .ok (.iload 4, 2) := by decide +kernel
theorem d_Law_law_475 : decode b_Law_law 475 = .ok (.iconst 2, 1) := by decide +kernel
theorem d_Law_law_476 : decode b_Law_law 476 = .ok (.iadd, 1) := by decide +kernel
theorem d_Law_law_477 : decode b_Law_law 477 = .ok (.iaload, 1) := by decide +kernel
theorem d_Law_law_478 : decode b_Law_law 478 = .ok (.ifCond .eq 7, 3) := by decide +kernel
theorem d_Law_law_481 : decode b_Law_law 481 = .ok (.iconst 1, 1) := by decide +kernel
theorem d_Law_law_482 : decode b_Law_law 482 = .ok (.goto 4, 3) := by decide +kernel
theorem d_Law_law_485 : decode b_Law_law 485 = .ok (.iconst 0, 1) := by decide +kernel
theorem d_Law_law_486 : decode b_Law_law 486 = .ok (.aload_n 3, 1) := by decide +kernel
theorem d_Law_law_487 : decode b_Law_law 487 = .ok (.invokestatic 68, 3) := by decide +kernel
theorem d_Law_law_490 : decode b_Law_law 490 = .ok (.istore 5, 2) := by decide +kernel
theorem d_Law_law_492 : decode b_Law_law 492 = .ok (.aload_n 2, 1) := by decide +kernel
theorem d_Law_law_493 : decode b_Law_law 493 = .ok (.aload_n 0, 1) := by decide +kernel
theorem d_Law_law_494 : decode b_Law_law 494 = .ok (.iload 4, 2) := by decide +kernel
theorem d_Law_law_496 : decode b_Law_law 496 = .ok (.iconst 1, 1) := by decide +kernel
theorem d_Law_law_497 : decode b_Law_law 497 = .ok (.iadd, 1) := by decide +kernel
theorem d_Law_law_498 : decode b_Law_law 498 = .ok (.iaload, 1) := by decide +kernel
theorem d_Law_law_499 : decode b_Law_law 499 = .ok (.aload_n 0, 1) := by decide +kernel
theorem d_Law_law_500 : decode b_Law_law 500 = .ok (.iload 4, 2) := by decide +kernel
theorem d_Law_law_502 : decode b_Law_law 502 = .ok (.iconst 2, 1) := by decide +kernel
theorem d_Law_law_503 : decode b_Law_law 503 = .ok (.iadd, 1) := by decide +kernel
theorem d_Law_law_504 : decode b_Law_law 504 = .ok (.iaload, 1) := by decide +kernel
theorem d_Law_law_505 : decode b_Law_law 505 = .ok (.ifCond .eq 7, 3) := by decide +kernel
theorem d_Law_law_508 : decode b_Law_law 508 = .ok (.iconst 1, 1) := by decide +kernel
theorem d_Law_law_509 : decode b_Law_law 509 = .ok (.goto 4, 3) := by decide +kernel
theorem d_Law_law_512 : decode b_Law_law 512 = .ok (.iconst 0, 1) := by decide +kernel
theorem d_Law_law_513 : decode b_Law_law 513 = .ok (.invokevirtual 70, 3) := by decide +kernel
theorem d_Law_law_516 : decode b_Law_law 516 = .ok (.istore 6, 2) := by decide +kernel
theorem d_Law_law_518 : decode b_Law_law 518 = .ok (.aload_n 2, 1) := by decide +kernel
theorem d_Law_law_519 : decode b_Law_law 519 = .ok (.invokevirtual 56, 3) := by decide +kernel
theorem d_Law_law_522 : decode b_Law_law 522 = .ok (.iload 5, 2) := by decide +kernel
theorem d_Law_law_524 : decode b_Law_law 524 = .ok (.if_icmp .eq 5, 3) := by decide +kernel
theorem d_Law_law_527 : decode b_Law_law 527 = .ok (.iconst 0, 1) := by decide +kernel
theorem d_Law_law_528 : decode b_Law_law 528 = .ok (.ireturn, 1) := by decide +kernel
theorem d_Law_law_529 : decode b_Law_law 529 = .ok (.iload 5, 2) := by decide +kernel
theorem d_Law_law_531 : decode b_Law_law 531 = .ok (.ifCond .ne 15, 3) := by decide +kernel
theorem d_Law_law_534 : decode b_Law_law 534 = .ok (.aload_n 3, 1) := by decide +kernel
theorem d_Law_law_535 : decode b_Law_law 535 = .ok (.iconst 0, 1) := by decide +kernel
theorem d_Law_law_536 : decode b_Law_law 536 = .ok (.laload, 1) := by decide +kernel
theorem d_Law_law_537 : decode b_Law_law 537 = .ok (.iload 6, 2) := by decide +kernel
theorem d_Law_law_539 : decode b_Law_law 539 = .ok (.i2l, 1) := by decide +kernel
theorem d_Law_law_540 : decode b_Law_law 540 = .ok (.lcmp, 1) := by decide +kernel
theorem d_Law_law_541 : decode b_Law_law 541 = .ok (.ifCond .eq 5, 3) := by decide +kernel
theorem d_Law_law_544 : decode b_Law_law 544 = .ok (.iconst 0, 1) := by decide +kernel
theorem d_Law_law_545 : decode b_Law_law 545 = .ok (.ireturn, 1) := by decide +kernel
theorem d_Law_law_546 : decode b_Law_law 546 = .ok (.goto 114, 3) := by decide +kernel
theorem d_Law_law_549 : decode b_Law_law 549 = .ok (.aload_n 1, 1) := by decide +kernel
theorem d_Law_law_550 : decode b_Law_law 550 = .ok (.aload_n 0, 1) := by decide +kernel
theorem d_Law_law_551 : decode b_Law_law 551 = .ok (.iload 4, 2) := by decide +kernel
theorem d_Law_law_553 : decode b_Law_law 553 = .ok (.iconst 1, 1) := by decide +kernel
theorem d_Law_law_554 : decode b_Law_law 554 = .ok (.iadd, 1) := by decide +kernel
theorem d_Law_law_555 : decode b_Law_law 555 = .ok (.iaload, 1) := by decide +kernel
theorem d_Law_law_556 : decode b_Law_law 556 = .ok (.aload_n 0, 1) := by decide +kernel
theorem d_Law_law_557 : decode b_Law_law 557 = .ok (.iload 4, 2) := by decide +kernel
theorem d_Law_law_559 : decode b_Law_law 559 = .ok (.iconst 2, 1) := by decide +kernel
theorem d_Law_law_560 : decode b_Law_law 560 = .ok (.iadd, 1) := by decide +kernel
theorem d_Law_law_561 : decode b_Law_law 561 = .ok (.iaload, 1) := by decide +kernel
theorem d_Law_law_562 : decode b_Law_law 562 = .ok (.invokevirtual 71, 3) := by decide +kernel
theorem d_Law_law_565 : decode b_Law_law 565 = .ok (.aload_n 2, 1) := by decide +kernel
theorem d_Law_law_566 : decode b_Law_law 566 = .ok (.aload_n 0, 1) := by decide +kernel
theorem d_Law_law_567 : decode b_Law_law 567 = .ok (.iload 4, 2) := by decide +kernel
theorem d_Law_law_569 : decode b_Law_law 569 = .ok (.iconst 1, 1) := by decide +kernel
theorem d_Law_law_570 : decode b_Law_law 570 = .ok (.iadd, 1) := by decide +kernel
theorem d_Law_law_571 : decode b_Law_law 571 = .ok (.iaload, 1) := by decide +kernel
theorem d_Law_law_572 : decode b_Law_law 572 = .ok (.aload_n 0, 1) := by decide +kernel
theorem d_Law_law_573 : decode b_Law_law 573 = .ok (.iload 4, 2) := by decide +kernel
theorem d_Law_law_575 : decode b_Law_law 575 = .ok (.iconst 2, 1) := by decide +kernel
theorem d_Law_law_576 : decode b_Law_law 576 = .ok (.iadd, 1) := by decide +kernel
theorem d_Law_law_577 : decode b_Law_law 577 = .ok (.iaload, 1) := by decide +kernel
theorem d_Law_law_578 : decode b_Law_law 578 = .ok (.invokevirtual 75, 3) := by decide +kernel
theorem d_Law_law_581 : decode b_Law_law 581 = .ok (.if_icmp .eq 79, 3) := by decide +kernel
theorem d_Law_law_584 : decode b_Law_law 584 = .ok (.iconst 0, 1) := by decide +kernel
theorem d_Law_law_585 : decode b_Law_law 585 = .ok (.ireturn, 1) := by decide +kernel
theorem d_Law_law_586 : decode b_Law_law 586 = .ok (.aload_n 1, 1) := by decide +kernel
theorem d_Law_law_587 : decode b_Law_law 587 = .ok (.aload_n 0, 1) := by decide +kernel
theorem d_Law_law_588 : decode b_Law_law 588 = .ok (.iload 4, 2) := by decide +kernel
theorem d_Law_law_590 : decode b_Law_law 590 = .ok (.iconst 1, 1) := by decide +kernel
theorem d_Law_law_591 : decode b_Law_law 591 = .ok (.iadd, 1) := by decide +kernel
theorem d_Law_law_592 : decode b_Law_law 592 = .ok (.iaload, 1) := by decide +kernel
theorem d_Law_law_593 : decode b_Law_law 593 = .ok (.aload_n 0, 1) := by decide +kernel
theorem d_Law_law_594 : decode b_Law_law 594 = .ok (.iload 4, 2) := by decide +kernel
theorem d_Law_law_596 : decode b_Law_law 596 = .ok (.iconst 2, 1) := by decide +kernel
theorem d_Law_law_597 : decode b_Law_law 597 = .ok (.iadd, 1) := by decide +kernel
theorem d_Law_law_598 : decode b_Law_law 598 = .ok (.iaload, 1) := by decide +kernel
theorem d_Law_law_599 : decode b_Law_law 599 = .ok (.invokevirtual 76, 3) := by decide +kernel
theorem d_Law_law_602 : decode b_Law_law 602 = .ok (.aload_n 2, 1) := by decide +kernel
theorem d_Law_law_603 : decode b_Law_law 603 = .ok (.aload_n 0, 1) := by decide +kernel
theorem d_Law_law_604 : decode b_Law_law 604 = .ok (.iload 4, 2) := by decide +kernel
theorem d_Law_law_606 : decode b_Law_law 606 = .ok (.iconst 1, 1) := by decide +kernel
theorem d_Law_law_607 : decode b_Law_law 607 = .ok (.iadd, 1) := by decide +kernel
theorem d_Law_law_608 : decode b_Law_law 608 = .ok (.iaload, 1) := by decide +kernel
theorem d_Law_law_609 : decode b_Law_law 609 = .ok (.aload_n 0, 1) := by decide +kernel
theorem d_Law_law_610 : decode b_Law_law 610 = .ok (.iload 4, 2) := by decide +kernel
theorem d_Law_law_612 : decode b_Law_law 612 = .ok (.iconst 2, 1) := by decide +kernel
theorem d_Law_law_613 : decode b_Law_law 613 = .ok (.iadd, 1) := by decide +kernel
theorem d_Law_law_614 : decode b_Law_law 614 = .ok (.iaload, 1) := by decide +kernel
theorem d_Law_law_615 : decode b_Law_law 615 = .ok (.invokevirtual 80, 3) := by decide +kernel
theorem d_Law_law_618 : decode b_Law_law 618 = .ok (.if_icmp .eq 42, 3) := by decide +kernel
theorem d_Law_law_621 : decode b_Law_law 621 = .ok (.iconst 0, 1) := by decide +kernel
theorem d_Law_law_622 : decode b_Law_law 622 = .ok (.ireturn, 1) := by decide +kernel
theorem d_Law_law_623 : decode b_Law_law 623 = .ok (.aload_n 1, 1) := by decide +kernel
theorem d_Law_law_624 : decode b_Law_law 624 = .ok (.aload_n 0, 1) := by decide +kernel
theorem d_Law_law_625 : decode b_Law_law 625 = .ok (.iload 4, 2) := by decide +kernel
theorem d_Law_law_627 : decode b_Law_law 627 = .ok (.iconst 1, 1) := by decide +kernel
theorem d_Law_law_628 : decode b_Law_law 628 = .ok (.iadd, 1) := by decide +kernel
theorem d_Law_law_629 : decode b_Law_law 629 = .ok (.iaload, 1) := by decide +kernel
theorem d_Law_law_630 : decode b_Law_law 630 = .ok (.aload_n 0, 1) := by decide +kernel
theorem d_Law_law_631 : decode b_Law_law 631 = .ok (.iload 4, 2) := by decide +kernel
theorem d_Law_law_633 : decode b_Law_law 633 = .ok (.iconst 2, 1) := by decide +kernel
theorem d_Law_law_634 : decode b_Law_law 634 = .ok (.iadd, 1) := by decide +kernel
theorem d_Law_law_635 : decode b_Law_law 635 = .ok (.iaload, 1) := by decide +kernel
theorem d_Law_law_636 : decode b_Law_law 636 = .ok (.invokevirtual 81, 3) := by decide +kernel
theorem d_Law_law_639 : decode b_Law_law 639 = .ok (.aload_n 2, 1) := by decide +kernel
theorem d_Law_law_640 : decode b_Law_law 640 = .ok (.aload_n 0, 1) := by decide +kernel
theorem d_Law_law_641 : decode b_Law_law 641 = .ok (.iload 4, 2) := by decide +kernel
theorem d_Law_law_643 : decode b_Law_law 643 = .ok (.iconst 1, 1) := by decide +kernel
theorem d_Law_law_644 : decode b_Law_law 644 = .ok (.iadd, 1) := by decide +kernel
theorem d_Law_law_645 : decode b_Law_law 645 = .ok (.iaload, 1) := by decide +kernel
theorem d_Law_law_646 : decode b_Law_law 646 = .ok (.aload_n 0, 1) := by decide +kernel
theorem d_Law_law_647 : decode b_Law_law 647 = .ok (.iload 4, 2) := by decide +kernel
theorem d_Law_law_649 : decode b_Law_law 649 = .ok (.iconst 2, 1) := by decide +kernel
theorem d_Law_law_650 : decode b_Law_law 650 = .ok (.iadd, 1) := by decide +kernel
theorem d_Law_law_651 : decode b_Law_law 651 = .ok (.iaload, 1) := by decide +kernel
theorem d_Law_law_652 : decode b_Law_law 652 = .ok (.invokevirtual 84, 3) := by decide +kernel
theorem d_Law_law_655 : decode b_Law_law 655 = .ok (.if_icmp .eq 5, 3) := by decide +kernel
theorem d_Law_law_658 : decode b_Law_law 658 = .ok (.iconst 0, 1) := by decide +kernel
theorem d_Law_law_659 : decode b_Law_law 659 = .ok (.ireturn, 1) := by decide +kernel
theorem d_Law_law_660 : decode b_Law_law 660 = .ok (.iinc 4 5, 3) := by decide +kernel
theorem d_Law_law_663 : decode b_Law_law 663 = .ok (.goto (-640), 3) := by decide +kernel
theorem d_Law_law_666 : decode b_Law_law 666 = .ok (.iconst 1, 1) := by decide +kernel
theorem d_Law_law_667 : decode b_Law_law 667 = .ok (.ireturn, 1) := by decide +kernel
