abbrev b_A_law : ByteArray := code
theorem d_A_law_0 : decode b_A_law 0 = .ok (.new 8, 3) := by decide +kernel
theorem d_A_law_3 : decode b_A_law 3 = .ok (.dup, 1) := by decide +kernel
theorem d_A_law_4 : decode b_A_law 4 = .ok (.invokespecial 59, 3) := by decide +kernel
theorem d_A_law_7 : decode b_A_law 7 = .ok (.astore_n 1, 1) := by decide +kernel
theorem d_A_law_8 : decode b_A_law 8 = .ok (.new 60, 3) := by decide +kernel
theorem d_A_law_11 : decode b_A_law 11 = .ok (.dup, 1) := by decide +kernel
theorem d_A_law_12 : decode b_A_law 12 = .ok (.invokespecial 62, 3) := by decide +kernel
theorem d_A_law_15 : decode b_A_law 15 = .ok (.astore_n 2, 1) := by decide +kernel
theorem d_A_law_16 : decode b_A_law 16 = .ok (.iconst 1, 1) := by decide +kernel
theorem d_A_law_17 : decode b_A_law 17 = .ok (.newarray .long, 2) := by decide +kernel
theorem d_A_law_19 : decode b_A_law 19 = .ok (.astore_n 3, 1) := by decide +kernel
theorem d_A_law_20 : decode b_A_law 20 = .ok (.iconst 1, 1) := by decide +kernel
theorem d_A_law_21 : decode b_A_law 21 = .ok (.newarray .double, 2) := by decide +kernel
theorem d_A_law_23 : decode b_A_law 23 = .ok (.astore 4, 2) := by decide +kernel
theorem d_A_law_25 : decode b_A_law 25 = .ok (.iconst 0, 1) := by decide +kernel
theorem d_A_law_26 : decode b_A_law 26 = .ok (.istore 5, 2) := by decide +kernel
theorem d_A_law_28 : decode b_A_law 28 = .ok (.iload 5, 2) := by decide +kernel
theorem d_A_law_30 : decode b_A_law 30 = .ok (.aload_n 0, 1) := by decide +kernel
theorem d_A_law_31 : decode b_A_law 31 = .ok (.arraylength, 1) := by decide +kernel
theorem d_A_law_32 : decode b_A_law 32 = .ok (.bipush 6, 2) := by decide +kernel
theorem d_A_law_34 : decode b_A_law 34 = .ok (.isub, 1) := by decide +kernel
theorem d_A_law_35 : decode b_A_law 35 = .ok (.if_icmp .gt 1047, 3) := by decide +kernel
theorem d_A_law_38 : decode b_A_law 38 = .ok (.aload_n 0, 1) := by decide +kernel
theorem d_A_law_39 : decode b_A_law 39 = .ok (.iload 5, 2) := by decide +kernel
theorem d_A_law_41 : decode b_A_law 41 = .ok (.iaload, 1) := by decide +kernel
theorem d_A_law_42 : decode b_A_law 42 = .ok (.bipush 15, 2) := by decide +kernel
theorem d_A_law_44 : decode b_A_law 44 = .ok (.iand, 1) := by decide +kernel
theorem d_A_law_45 : decode b_A_law 45 = .ok (.tableswitch 1031 0 13 #[71, 163, 267, 377, 433, 544, 633, 701, 757, 837, 893, 906, 962, 975], 71) := by decide +kernel
theorem d_A_law_116 : decode b_A_law 116 = .ok (.aload_n 1, 1) := by decide +kernel
theorem d_A_law_117 : decode b_A_law 117 = .ok (.aload_n 0, 1) := by decide +kernel
theorem d_A_law_118 : decode b_A_law 118 = .ok (.iload 5, 2) := by decide +kernel
theorem d_A_law_120 : decode b_A_law 120 = .ok (.iconst 1, 1) := by decide +kernel
theorem d_A_law_121 : decode b_A_law 121 = .ok (.iadd, 1) := by decide +kernel
theorem d_A_law_122 : decode b_A_law 122 = .ok (.iaload, 1) := by decide +kernel
theorem d_A_law_123 : decode b_A_law 123 = .ok (.aload_n 0, 1) := by decide +kernel
theorem d_A_law_124 : decode b_A_law 124 = .ok (.iload 5, 2) := by decide +kernel
theorem d_A_law_126 : decode b_A_law 126 = .ok (.iconst 2, 1) := by decide +kernel
theorem d_A_law_127 : decode b_A_law 127 = .ok (.iadd, 1) := by decide +kernel
theorem d_A_law_128 : decode b_A_law 128 = .ok (.iaload, 1) := by decide +kernel
theorem d_A_law_129 : decode b_A_law 129 = .ok (.aload_n 0, 1) := by decide +kernel
theorem d_A_law_130 : decode b_A_law 130 = .ok (.iload 5, 2) := by decide +kernel
theorem d_A_law_132 : decode b_A_law 132 = .ok (.iconst 3, 1) := by decide +kernel
theorem d_A_law_133 : decode b_A_law 133 = .ok (.iadd, 1) := by decide +kernel
theorem d_A_law_134 : decode b_A_law 134 = .ok (.iaload, 1) := by decide +kernel
theorem d_A_law_135 : decode b_A_law 135 = .ok (.aload_n 0, 1) := by decide +kernel
theorem d_A_law_136 : decode b_A_law 136 = .ok (.iload 5, 2) := by decide +kernel
theorem d_A_law_138 : decode b_A_law 138 = .ok (.iconst 4, 1) := by decide +kernel
theorem d_A_law_139 : decode b_A_law 139 = .ok (.iadd, 1) := by decide +kernel
theorem d_A_law_140 : decode b_A_law 140 = .ok (.iaload, 1) := by decide +kernel
theorem d_A_law_141 : decode b_A_law 141 = .ok (.aload_n 3, 1) := by decide +kernel
theorem d_A_law_142 : decode b_A_law 142 = .ok (.invokestatic 63, 3) := by decide +kernel
theorem d_A_law_145 : decode b_A_law 145 = .ok (.istore 6, 2) := by decide +kernel
theorem d_A_law_147 : decode b_A_law 147 = .ok (.aload_n 2, 1) := by decide +kernel
theorem d_A_law_148 : decode b_A_law 148 = .ok (.aload_n 0, 1) := by decide +kernel
theorem d_A_law_149 : decode b_A_law 149 = .ok (.iload 5, 2) := by decide +kernel
theorem d_A_law_151 : decode b_A_law 151 = .ok (.iconst 1, 1) := by decide +kernel
theorem d_A_law_152 : decode b_A_law 152 = .ok (.iadd, 1) := by decide +kernel
theorem d_A_law_153 : decode b_A_law 153 = .ok (.iaload, 1) := by decide +kernel
theorem d_A_law_154 : decode b_A_law 154 = .ok (.aload_n 0, 1) := by decide +kernel
theorem d_A_law_155 : decode b_A_law 155 = .ok (.iload 5, 2) := by decide +kernel
theorem d_A_law_157 : decode b_A_law 157 = .ok (.iconst 2, 1) := by decide +kernel
theorem d_A_law_158 : decode b_A_law 158 = .ok (.iadd, 1) := by decide +kernel
theorem d_A_law_159 : decode b_A_law 159 = .ok (.iaload, 1) := by decide +kernel
theorem d_A_law_160 : decode b_A_law 160 = .ok (.aload_n 0, 1) := by decide +kernel
theorem d_A_law_161 : decode b_A_law 161 = .ok (.iload 5, 2) := by decide +kernel
theorem d_A_law_163 : decode b_A_law 163 = .ok (.iconst 3, 1) := by decide +kernel
theorem d_A_law_164 : decode b_A_law 164 = .ok (.iadd, 1) := by decide +kernel
theorem d_A_law_165 : decode b_A_law 165 = .ok (.iaload, 1) := by decide +kernel
theorem d_A_law_166 : decode b_A_law 166 = .ok (.aload_n 0, 1) := by decide +kernel
theorem d_A_law_167 : decode b_A_law 167 = .ok (.iload 5, 2) := by decide +kernel
theorem d_A_law_169 : decode b_A_law 169 = .ok (.iconst 4, 1) := by decide +kernel
theorem d_A_law_170 : decode b_A_law 170 = .ok (.iadd, 1) := by decide +kernel
theorem d_A_law_171 : decode b_A_law 171 = .ok (.iaload, 1) := by decide +kernel
theorem d_A_law_172 : decode b_A_law 172 = .ok (.invokevirtual 68, 3) := by decide +kernel
theorem d_A_law_175 : decode b_A_law 175 = .ok (.istore 7, 2) := by decide +kernel
theorem d_A_law_177 : decode b_A_law 177 = .ok (.aload_n 2, 1) := by decide +kernel
theorem d_A_law_178 : decode b_A_law 178 = .ok (.invokevirtual 69, 3) := by decide +kernel
theorem d_A_law_181 : decode b_A_law 181 = .ok (.iload 6, 2) := by decide +kernel
theorem d_A_law_183 : decode b_A_law 183 = .ok (.if_icmp .eq 5, 3) := by decide +kernel
theorem d_A_law_186 : decode b_A_law 186 = .ok (.iconst 0, 1) := by decide +kernel
theorem d_A_law_187 : decode b_A_law 187 = .ok (.ireturn, 1) := by decide +kernel
theorem d_A_law_188 : decode b_A_law 188 = .ok (.iload 6, 2) := by decide +kernel
theorem d_A_law_190 : decode b_A_law 190 = .ok (.ifCond .ne 15, 3) := by decide +kernel
theorem d_A_law_193 : decode b_A_law 193 = .ok (.aload_n 3, 1) := by decide +kernel
theorem d_A_law_194 : decode b_A_law 194 = .ok (.iconst 0, 1) := by decide +kernel
theorem d_A_law_195 : decode b_A_law 195 = .ok (.laload, 1) := by decide +kernel
theorem d_A_law_196 : decode b_A_law 196 = .ok (.iload 7, 2) := by decide +kernel
theorem d_A_law_198 : decode b_A_law 198 = .ok (.i2l, 1) := by decide +kernel
theorem d_A_law_199 : decode b_A_law 199 = .ok (.lcmp, 1) := by decide +kernel
theorem d_A_law_200 : decode b_A_law 200 = .ok (.ifCond .eq 5, 3) := by decide +kernel
theorem d_A_law_203 : decode b_A_law 203 = .ok (.iconst 0, 1) := by decide +kernel
theorem d_A_law_204 : decode b_A_law 204 = .ok (.ireturn, 1) := by decide +kernel
theorem d_A_law_205 : decode b_A_law 205 = .ok (.goto 871, 3) := by decide +kernel
theorem d_A_law_208 : decode b_A_law 208 = .ok (.aload_n 1, 1) := by decide +kernel
theorem d_A_law_209 : decode b_A_law 209 = .ok (.aload_n 0, 1) := by decide +kernel
theorem d_A_law_210 : decode b_A_law 210 = .ok (.iload 5, 2) := by decide +kernel
theorem d_A_law_212 : decode b_A_law 212 = .ok (.iconst 1, 1) := by decide +kernel
theorem d_A_law_213 : decode b_A_law 213 = .ok (.iadd, 1) := by decide +kernel
theorem d_A_law_214 : decode b_A_law 214 = .ok (.iaload, 1) := by decide +kernel
theorem d_A_law_215 : decode b_A_law 215 = .ok (.aload_n 0, 1) := by decide +kernel
theorem d_A_law_216 : decode b_A_law 216 = .ok (.iload 5, 2) := by decide +kernel
theorem d_A_law_218 : decode b_A_law 218 = .ok (.iconst 2, 1) := by decide +kernel
theorem d_A_law_219 : decode b_A_law 219 = .ok (.iadd, 1) := by decide +kernel
theorem d_A_law_220 : decode b_A_law 220 = .ok (.iaload, 1) := by decide +kernel
theorem d_A_law_221 : decode b_A_law 221 = .ok (.aload_n 0, 1) := by decide +kernel
theorem d_A_law_222 : decode b_A_law 222 = .ok (.iload 5, 2) := by decide +kernel
theorem d_A_law_224 : decode b_A_law 224 = .ok (.iconst 3, 1) := by decide +kernel
theorem d_A_law_225 : decode b_A_law 225 = .ok (.iadd, 1) := by decide +kernel
theorem d_A_law_226 : decode b_A_law 226 = .ok (.iaload, 1) := by decide +kernel
theorem d_A_law_227 : decode b_A_law 227 = .ok (.aload_n 0, 1) := by decide +kernel
theorem d_A_law_228 : decode b_A_law 228 = .ok (.iload 5, 2) := by decide +kernel
theorem d_A_law_230 : decode b_A_law 230 = .ok (.iconst 4, 1) := by decide +kernel
theorem d_A_law_231 : decode b_A_law 231 = .ok (.iadd, 1) := by decide +kernel
theorem d_A_law_232 : decode b_A_law 232 = .ok (.iaload, 1) := by decide +kernel
theorem d_A_law_233 : decode b_A_law 233 = .ok (.aload_n 0, 1) := by decide +kernel
theorem d_A_law_234 : decode b_A_law 234 = .ok (.iload 5, 2) := by decide +kernel
theorem d_A_law_236 : decode b_A_law 236 = .ok (.iconst 5, 1) := by decide +kernel
theorem d_A_law_237 : decode b_A_law 237 = .ok (.iadd, 1) := by decide +kernel
theorem d_A_law_238 : decode b_A_law 238 = .ok (.iaload, 1) := by decide +kernel
theorem d_A_law_239 : decode b_A_law 239 = .ok (.aload_n 3, 1) := by decide +kernel
theorem d_A_law_240 : decode b_A_law 240 = .ok (.invokestatic 73, 3) := by decide +kernel
theorem d_A_law_243 : decode b_A_law 243 = .ok (.istore 6, 2) := by decide +kernel
theorem d_A_law_245 : decode b_A_law 245 = .ok (.aload_n 2, 1) := by decide +kernel
theorem d_A_law_246 : decode b_A_law 246 = .ok (.aload_n 0, 1) := by decide +kernel
theorem d_A_law_247 : decode b_A_law 247 = .ok (.iload 5, 2) := by decide +kernel
theorem d_A_law_249 : decode b_A_law 249 = .ok (.iconst 1, 1) := by decide +kernel
theorem d_A_law_250 : decode b_A_law 250 = .ok (.iadd, 1) := by decide +kernel
theorem d_A_law_251 : decode b_A_law 251 = .ok (.iaload, 1) := by decide +kernel
theorem d_A_law_252 : decode b_A_law 252 = .ok (.aload_n 0, 1) := by decide +kernel
theorem d_A_law_253 : decode b_A_law 253 = .ok (.iload 5, 2) := by decide +kernel
theorem d_A_law_255 : decode b_A_law 255 = .ok (.iconst 2, 1) := by decide +kernel
theorem d_A_law_256 : decode b_A_law 256 = .ok (.iadd, 1) := by decide +kernel
theorem d_A_law_257 : decode b_A_law 257 = .ok (.iaload, 1) := by decide +kernel
theorem d_A_law_258 : decode b_A_law 258 = .ok (.aload_n 0, 1) := by decide +kernel
theorem d_A_law_259 : decode b_A_law 259 = .ok (.iload 5, 2) := by decide +kernel
theorem d_A_law_261 : decode b_A_law 261 = .ok (.iconst 3, 1) := by decide +kernel
theorem d_A_law_262 : decode b_A_law 262 = .ok (.iadd, 1) := by decide +kernel
theorem d_A_law_263 : decode b_A_law 263 = .ok (.iaload, 1) := by decide +kernel
theorem d_A_law_264 : decode b_A_law 264 = .ok (.aload_n 0, 1) := by decide +kernel
theorem d_A_law_265 : decode b_A_law 265 = .ok (.iload 5, 2) := by decide +kernel
theorem d_A_law_267 : decode b_A_law 267 = .ok (.iconst 4, 1) := by decide +kernel
theorem d_A_law_268 : decode b_A_law 268 = .ok (.iadd, 1) := by decide +kernel
theorem d_A_law_269 : decode b_A_law 269 = .ok (.iaload, 1) := by decide +kernel
theorem d_A_law_270 : decode b_A_law 270 = .ok (.aload_n 0, 1) := by decide +kernel
theorem d_A_law_271 : decode b_A_law 271 = .ok (.iload 5, 2) := by decide +kernel
theorem d_A_law_273 : decode b_A_law 273 = .ok (.iconst 5, 1) := by decide +kernel
theorem d_A_law_274 : decode b_A_law 274 = .ok (.iadd, 1) := by decide +kernel
theorem d_A_law_275 : decode b_A_law 275 = .ok (.iaload, 1) := by decide +kernel
theorem d_A_law_276 : decode b_A_law 276 = .ok (.invokevirtual 76, 3) := by decide +kernel
theorem d_A_law_279 : decode b_A_law 279 = .ok (.istore 7, 2) := by decide +kernel
theorem d_A_law_281 : decode b_A_law 281 = .ok (.aload_n 2, 1) := by decide +kernel
theorem d_A_law_282 : decode b_A_law 282 = .ok (.invokevirtual 69, 3) := by decide +kernel
theorem d_A_law_285 : decode b_A_law 285 = .ok (.iload 6, 2) := by decide +kernel
theorem d_A_law_287 : decode b_A_law 287 = .ok (.if_icmp .eq 5, 3) := by decide +kernel
theorem d_A_law_290 : decode b_A_law 290 = .ok (.iconst 0, 1) := by decide +kernel
theorem d_A_law_291 : decode b_A_law 291 = .ok (.ireturn, 1) := by decide +kernel
theorem d_A_law_292 : decode b_A_law 292 = .ok (.iload 6, 2) := by decide +kernel
theorem d_A_law_294 : decode b_A_law 294 = .ok (.ifCond .ne 15, 3) := by decide +kernel
theorem d_A_law_297 : decode b_A_law 297 = .ok (.aload_n 3, 1) := by decide +kernel
theorem d_A_law_298 : decode b_A_law 298 = .ok (.iconst 0, 1) := by decide +kernel
theorem d_A_law_299 : decode b_A_law 299 = .ok (.laload, 1) := by decide +kernel
theorem d_A_law_300 : decode b_A_law 300 = .ok (.iload 7, 2) := by decide +kernel
theorem d_A_law_302 : decode b_A_law 302 = .ok (.i2l, 1) := by decide +kernel
theorem d_A_law_303 : decode b_A_law 303 = .ok (.lcmp, 1) := by decide +kernel
theorem d_A_law_304 : decode b_A_law 304 = .ok (.ifCond .eq 5, 3) := by decide +kernel
theorem d_A_law_307 : decode b_A_law 307 = .ok (.iconst 0, 1) := by decide +kernel
theorem d_A_law_308 : decode b_A_law 308 = .ok (.ireturn, 1) := by decide +kernel
theorem d_A_law_309 : decode b_A_law 309 = .ok (.goto 767, 3) := by decide +kernel
theorem d_A_law_312 : decode b_A_law 312 = .ok (.aload_n 1, 1) := by decide +kernel
