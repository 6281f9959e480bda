theorem dL_0 : decode code 0 = .ok (.new 7, 3) := by decide +kernel
theorem dL_3 : decode code 3 = .ok (.dup, 1) := by decide +kernel
theorem dL_4 : decode code 4 = .ok (.invokespecial 9, 3) := by decide +kernel
theorem dL_7 : decode code 7 = .ok (.astore_n 1, 1) := by decide +kernel
theorem dL_8 : decode code 8 = .ok (.new 10, 3) := by decide +kernel
theorem dL_11 : decode code 11 = .ok (.dup, 1) := by decide +kernel
theorem dL_12 : decode code 12 = .ok (.invokespecial 12, 3) := by decide +kernel
theorem dL_15 : decode code 15 = .ok (.astore_n 2, 1) := by decide +kernel
theorem dL_16 : decode code 16 = .ok (.iconst 0, 1) := by decide +kernel
theorem dL_17 : decode code 17 = .ok (.istore_n 3, 1) := by decide +kernel
theorem dL_18 : decode code 18 = .ok (.iload_n 3, 1) := by decide +kernel
theorem dL_19 : decode code 19 = .ok (.aload_n 0, 1) := by decide +kernel
theorem dL_20 : decode code 20 = .ok (.arraylength, 1) := by decide +kernel
theorem dL_21 : decode code 21 = .ok (.bipush 6, 2) := by decide +kernel
theorem dL_23 : decode code 23 = .ok (.isub, 1) := by decide +kernel
theorem dL_24 : decode code 24 = .ok (.if_icmp .gt 340, 3) := by decide +kernel
theorem dL_27 : decode code 27 = .ok (.aload_n 0, 1) := by decide +kernel
theorem dL_28 : decode code 28 = .ok (.iload_n 3, 1) := by decide +kernel
theorem dL_29 : decode code 29 = .ok (.iaload, 1) := by decide +kernel
theorem dL_30 : decode code 30 = .ok (.bipush 15, 2) := by decide +kernel
theorem dL_32 : decode code 32 = .ok (.iand, 1) := by decide +kernel
theorem dL_33 : decode code 33 = .ok (.tableswitch 325 0 9 #[55, 118, 141, 154, 177, 200, 223, 246, 269, 292], 55) := by decide +kernel
theorem dL_88 : decode code 88 = .ok (.aload_n 1, 1) := by decide +kernel
theorem dL_89 : decode code 89 = .ok (.aload_n 0, 1) := by decide +kernel
theorem dL_90 : decode code 90 = .ok (.iload_n 3, 1) := by decide +kernel
theorem dL_91 : decode code 91 = .ok (.iconst 1, 1) := by decide +kernel
theorem dL_92 : decode code 92 = .ok (.iadd, 1) := by decide +kernel
theorem dL_93 : decode code 93 = .ok (.iaload, 1) := by decide +kernel
theorem dL_94 : decode code 94 = .ok (.aload_n 0, 1) := by decide +kernel
theorem dL_95 : decode code 95 = .ok (.iload_n 3, 1) := by decide +kernel
theorem dL_96 : decode code 96 = .ok (.iconst 2, 1) := by decide +kernel
theorem dL_97 : decode code 97 = .ok (.iadd, 1) := by decide +kernel
theorem dL_98 : decode code 98 = .ok (.iaload, 1) := by decide +kernel
theorem dL_99 : decode code 99 = .ok (.aload_n 0, 1) := by decide +kernel
theorem dL_100 : decode code 100 = .ok (.iload_n 3, 1) := by decide +kernel
theorem dL_101 : decode code 101 = .ok (.iconst 3, 1) := by decide +kernel
theorem dL_102 : decode code 102 = .ok (.iadd, 1) := by decide +kernel
theorem dL_103 : decode code 103 = .ok (.iaload, 1) := by decide +kernel
theorem dL_104 : decode code 104 = .ok (.aload_n 0, 1) := by decide +kernel
theorem dL_105 : decode code 105 = .ok (.iload_n 3, 1) := by decide +kernel
theorem dL_106 : decode code 106 = .ok (.iconst 4, 1) := by decide +kernel
theorem dL_107 : decode code 107 = .ok (.iadd, 1) := by decide +kernel
theorem dL_108 : decode code 108 = .ok (.iaload, 1) := by decide +kernel
theorem dL_109 : decode code 109 = .ok (.aload_n 0, 1) := by decide +kernel
theorem dL_110 : decode code 110 = .ok (.iload_n 3, 1) := by decide +kernel
theorem dL_111 : decode code 111 = .ok (.iconst 5, 1) := by decide +kernel
theorem dL_112 : decode code 112 = .ok (.iadd, 1) := by decide +kernel
theorem dL_113 : decode code 113 = .ok (.iaload, 1) := by decide +kernel
theorem dL_114 : decode code 114 = .ok (.invokevirtual 13, 3) := by decide +kernel
theorem dL_117 : decode code 117 = .ok (.aload_n 2, 1) := by decide +kernel
theorem dL_118 : decode code 118 = .ok (.aload_n 0, 1) := by decide +kernel
theorem dL_119 : decode code 119 = .ok (.iload_n 3, 1) := by decide +kernel
theorem dL_120 : decode code 120 = .ok (.iconst 1, 1) := by decide +kernel
theorem dL_121 : decode code 121 = .ok (.iadd, 1) := by decide +kernel
theorem dL_122 : decode code 122 = .ok (.iaload, 1) := by decide +kernel
theorem dL_123 : decode code 123 = .ok (.aload_n 0, 1) := by decide +kernel
theorem dL_124 : decode code 124 = .ok (.iload_n 3, 1) := by decide +kernel
theorem dL_125 : decode code 125 = .ok (.iconst 2, 1) := by decide +kernel
theorem dL_126 : decode code 126 = .ok (.iadd, 1) := by decide +kernel
theorem dL_127 : decode code 127 = .ok (.iaload, 1) := by decide +kernel
theorem dL_128 : decode code 128 = .ok (.aload_n 0, 1) := by decide +kernel
theorem dL_129 : decode code 129 = .ok (.iload_n 3, 1) := by decide +kernel
theorem dL_130 : decode code 130 = .ok (.iconst 3, 1) := by decide +kernel
theorem dL_131 : decode code 131 = .ok (.iadd, 1) := by decide +kernel
theorem dL_132 : decode code 132 = .ok (.iaload, 1) := by decide +kernel
theorem dL_133 : decode code 133 = .ok (.aload_n 0, 1) := by decide +kernel
theorem dL_134 : decode code 134 = .ok (.iload_n 3, 1) := by decide +kernel
theorem dL_135 : decode code 135 = .ok (.iconst 4, 1) := by decide +kernel
theorem dL_136 : decode code 136 = .ok (.iadd, 1) := by decide +kernel
theorem dL_137 : decode code 137 = .ok (.iaload, 1) := by decide +kernel
theorem dL_138 : decode code 138 = .ok (.aload_n 0, 1) := by decide +kernel
theorem dL_139 : decode code 139 = .ok (.iload_n 3, 1) := by decide +kernel
theorem dL_140 : decode code 140 = .ok (.iconst 5, 1) := by decide +kernel
theorem dL_141 : decode code 141 = .ok (.iadd, 1) := by decide +kernel
theorem dL_142 : decode code 142 = .ok (.iaload, 1) := by decide +kernel
theorem dL_143 : decode code 143 = .ok (.invokevirtual 17, 3) := by decide +kernel
theorem dL_146 : decode code 146 = .ok (.if_icmp .eq 212, 3) := by decide +kernel
theorem dL_149 : decode code 149 = .ok (.iconst 0, 1) := by decide +kernel
theorem dL_150 : decode code 150 = .ok (.ireturn, 1) := by decide +kernel
theorem dL_151 : decode code 151 = .ok (.aload_n 1, 1) := by decide +kernel
theorem dL_152 : decode code 152 = .ok (.aload_n 0, 1) := by decide +kernel
theorem dL_153 : decode code 153 = .ok (.iload_n 3, 1) := by decide +kernel
theorem dL_154 : decode code 154 = .ok (.iconst 1, 1) := by decide +kernel
theorem dL_155 : decode code 155 = .ok (.iadd, 1) := by decide +kernel
theorem dL_156 : decode code 156 = .ok (.iaload, 1) := by decide +kernel
theorem dL_157 : decode code 157 = .ok (.invokevirtual 18, 3) := by decide +kernel
theorem dL_160 : decode code 160 = .ok (.aload_n 2, 1) := by decide +kernel
theorem dL_161 : decode code 161 = .ok (.aload_n 0, 1) := by decide +kernel
theorem dL_162 : decode code 162 = .ok (.iload_n 3, 1) := by decide +kernel
theorem dL_163 : decode code 163 = .ok (.iconst 1, 1) := by decide +kernel
theorem dL_164 : decode code 164 = .ok (.iadd, 1) := by decide +kernel
theorem dL_165 : decode code 165 = .ok (.iaload, 1) := by decide +kernel
theorem dL_166 : decode code 166 = .ok (.invokevirtual 22, 3) := by decide +kernel
theorem dL_169 : decode code 169 = .ok (.if_icmp .eq 189, 3) := by decide +kernel
theorem dL_172 : decode code 172 = .ok (.iconst 0, 1) := by decide +kernel
theorem dL_173 : decode code 173 = .ok (.ireturn, 1) := by decide +kernel
theorem dL_174 : decode code 174 = .ok (.aload_n 1, 1) := by decide +kernel
theorem dL_175 : decode code 175 = .ok (.invokevirtual 23, 3) := by decide +kernel
theorem dL_178 : decode code 178 = .ok (.aload_n 2, 1) := by decide +kernel
theorem dL_179 : decode code 179 = .ok (.invokevirtual 27, 3) := by decide +kernel
theorem dL_182 : decode code 182 = .ok (.if_icmp .eq 176, 3) := by decide +kernel
theorem dL_185 : decode code 185 = .ok (.iconst 0, 1) := by decide +kernel
theorem dL_186 : decode code 186 = .ok (.ireturn, 1) := by decide +kernel
theorem dL_187 : decode code 187 = .ok (.aload_n 1, 1) := by decide +kernel
theorem dL_188 : decode code 188 = .ok (.aload_n 0, 1) := by decide +kernel
theorem dL_189 : decode code 189 = .ok (.iload_n 3, 1) := by decide +kernel
theorem dL_190 : decode code 190 = .ok (.iconst 1, 1) := by decide +kernel
theorem dL_191 : decode code 191 = .ok (.iadd, 1) := by decide +kernel
theorem dL_192 : decode code 192 = .ok (.iaload, 1) := by decide +kernel
theorem dL_193 : decode code 193 = .ok (.invokevirtual 28, 3) := by decide +kernel
theorem dL_196 : decode code 196 = .ok (.aload_n 2, 1) := by decide +kernel
theorem dL_197 : decode code 197 = .ok (.aload_n 0, 1) := by decide +kernel
theorem dL_198 : decode code 198 = .ok (.iload_n 3, 1) := by decide +kernel
theorem dL_199 : decode code 199 = .ok (.iconst 1, 1) := by decide +kernel
theorem dL_200 : decode code 200 = .ok (.iadd, 1) := by decide +kernel
theorem dL_201 : decode code 201 = .ok (.iaload, 1) := by decide +kernel
theorem dL_202 : decode code 202 = .ok (.invokevirtual 32, 3) := by decide +kernel
theorem dL_205 : decode code 205 = .ok (.if_icmp .eq 153, 3) := by decide +kernel
theorem dL_208 : decode code 208 = .ok (.iconst 0, 1) := by decide +kernel
theorem dL_209 : decode code 209 = .ok (.ireturn, 1) := by decide +kernel
theorem dL_210 : decode code 210 = .ok (.aload_n 1, 1) := by decide +kernel
theorem dL_211 : decode code 211 = .ok (.aload_n 0, 1) := by decide +kernel
theorem dL_212 : decode code 212 = .ok (.iload_n 3, 1) := by decide +kernel
theorem dL_213 : decode code 213 = .ok (.iconst 1, 1) := by decide +kernel
theorem dL_214 : decode code 214 = .ok (.iadd, 1) := by decide +kernel
theorem dL_215 : decode code 215 = .ok (.iaload, 1) := by decide +kernel
theorem dL_216 : decode code 216 = .ok (.invokevirtual 33, 3) := by decide +kernel
theorem dL_219 : decode code 219 = .ok (.aload_n 2, 1) := by decide +kernel
theorem dL_220 : decode code 220 = .ok (.aload_n 0, 1) := by decide +kernel
theorem dL_221 : decode code 221 = .ok (.iload_n 3, 1) := by decide +kernel
theorem dL_222 : decode code 222 = .ok (.iconst 1, 1) := by decide +kernel
theorem dL_223 : decode code 223 = .ok (.iadd, 1) := by decide +kernel
theorem dL_224 : decode code 224 = .ok (.iaload, 1) := by decide +kernel
theorem dL_225 : decode code 225 = .ok (.invokevirtual 36, 3) := by decide +kernel
theorem dL_228 : decode code 228 = .ok (.if_icmp .eq 130, 3) := by decide +kernel
theorem dL_231 : decode code 231 = .ok (.iconst 0, 1) := by decide +kernel
theorem dL_232 : decode code 232 = .ok (.ireturn, 1) := by decide +kernel
theorem dL_233 : decode code 233 = .ok (.aload_n 1, 1) := by decide +kernel
theorem dL_234 : decode code 234 = .ok (.aload_n 0, 1) := by decide +kernel
theorem dL_235 : decode code 235 = .ok (.iload_n 3, 1) := by decide +kernel
theorem dL_236 : decode code 236 = .ok (.iconst 1, 1) := by decide +kernel
theorem dL_237 : decode code 237 = .ok (.iadd, 1) := by decide +kernel
theorem dL_238 : decode code 238 = .ok (.iaload, 1) := by decide +kernel
theorem dL_239 : decode code 239 = .ok (.invokevirtual 37, 3) := by decide +kernel
theorem dL_242 : decode code 242 = .ok (.aload_n 2, 1) := by decide +kernel
theorem dL_243 : decode code 243 = .ok (.aload_n 0, 1) := by decide +kernel
theorem dL_244 : decode code 244 = .ok (.iload_n 3, 1) := by decide +kernel
theorem dL_245 : decode code 245 = .ok (.iconst 1, 1) := by decide +kernel
theorem dL_246 : decode code 246 = .ok (.iadd, 1) := by decide +kernel
theorem dL_247 : decode code 247 = .ok (.iaload, 1) := by decide +kernel
theorem dL_248 : decode code 248 = .ok (.invokevirtual 40, 3) := by decide +kernel
theorem dL_251 : decode code 251 = .ok (.if_icmp .eq 107, 3) := by decide +kernel
theorem dL_254 : decode code 254 = .ok (.iconst 0, 1) := by decide +kernel
theorem dL_255 : decode code 255 = .ok (.ireturn, 1) := by decide +kernel
theorem dL_256 : decode code 256 = .ok (.aload_n 1, 1) := by decide +kernel
theorem dL_257 : decode code 257 = .ok (.aload_n 0, 1) := by decide +kernel
theorem dL_258 : decode code 258 = .ok (.iload_n 3, 1) := by decide +kernel
theorem dL_259 : decode code 259 = .ok (.iconst 1, 1) := by decide +kernel
theorem dL_260 : decode code 260 = .ok (.iadd, 1) := by decide +kernel
theorem dL_261 : decode code 261 = .ok (.iaload, 1) := by decide +kernel
theorem dL_262 : decode code 262 = .ok (.invokevirtual 41, 3) := by decide +kernel
theorem dL_265 : decode code 265 = .ok (.aload_n 2, 1) := by decide +kernel
theorem dL_266 : decode code 266 = .ok (.aload_n 0, 1) := by decide +kernel
theorem dL_267 : decode code 267 = .ok (.iload_n 3, 1) := by decide +kernel
theorem dL_268 : decode code 268 = .ok (.iconst 1, 1) := by decide +kernel
theorem dL_269 : decode code 269 = .ok (.iadd, 1) := by decide +kernel
theorem dL_270 : decode code 270 = .ok (.iaload, 1) := by decide +kernel
theorem dL_271 : decode code 271 = .ok (.invokevirtual 44, 3) := by decide +kernel
theorem dL_274 : decode code 274 = .ok (.if_icmp .eq 84, 3) := by decide +kernel
theorem dL_277 : decode code 277 = .ok (.iconst 0, 1) := by decide +kernel
theorem dL_278 : decode code 278 = .ok (.ireturn, 1) := by decide +kernel
theorem dL_279 : decode code 279 = .ok (.aload_n 1, 1) := by decide +kernel
theorem dL_280 : decode code 280 = .ok (.aload_n 0, 1) := by decide +kernel
theorem dL_281 : decode code 281 = .ok (.iload_n 3, 1) := by decide +kernel
theorem dL_282 : decode code 282 = .ok (.iconst 1, 1) := by decide +kernel
theorem dL_283 : decode code 283 = .ok (.iadd, 1) := by decide +kernel
theorem dL_284 : decode code 284 = .ok (.iaload, 1) := by decide +kernel
theorem dL_285 : decode code 285 = .ok (.invokevirtual 45, 3) := by decide +kernel
theorem dL_288 : decode code 288 = .ok (.aload_n 2, 1) := by decide +kernel
theorem dL_289 : decode code 289 = .ok (.aload_n 0, 1) := by decide +kernel
theorem dL_290 : decode code 290 = .ok (.iload_n 3, 1) := by decide +kernel
theorem dL_291 : decode code 291 = .ok (.iconst 1, 1) := by decide +kernel
theorem dL_292 : decode code 292 = .ok (.iadd, 1) := by decide +kernel
theorem dL_293 : decode code 293 = .ok (.iaload, 1) := by decide +kernel
theorem dL_294 : decode code 294 = .ok (.invokevirtual 48, 3) := by decide +kernel
theorem dL_297 : decode code 297 = .ok (.if_icmp .eq 61, 3) := by decide +kernel
theorem dL_300 : decode code 300 = .ok (.iconst 0, 1) := by decide +kernel
theorem dL_301 : decode code 301 = .ok (.ireturn, 1) := by decide +kernel
theorem dL_302 : decode code 302 = .ok (.aload_n 1, 1) := by decide +kernel
theorem dL_303 : decode code 303 = .ok (.aload_n 0, 1) := by decide +kernel
theorem dL_304 : decode code 304 = .ok (.iload_n 3, 1) := by decide +kernel
theorem dL_305 : decode code 305 = .ok (.iconst 1, 1) := by decide +kernel
theorem dL_306 : decode code 306 = .ok (.iadd, 1) := by decide +kernel
theorem dL_307 : decode code 307 = .ok (.iaload, 1) := by decide +kernel
theorem dL_308 : decode code 308 = .ok (.invokevirtual 49, 3) := by decide +kernel
theorem dL_311 : decode code 311 = .ok (.aload_n 2, 1) := by decide +kernel
theorem dL_312 : decode code 312 = .ok (.aload_n 0, 1) := by decide +kernel
theorem dL_313 : decode code 313 = .ok (.iload_n 3, 1) := by decide +kernel
theorem dL_314 : decode code 314 = .ok (.iconst 1, 1) := by decide +kernel
theorem dL_315 : decode code 315 = .ok (.iadd, 1) := by decide +kernel
theorem dL_316 : decode code 316 = .ok (.iaload, 1) := by decide +kernel
theorem dL_317 : decode code 317 = .ok (.invokevirtual 52, 3) := by decide +kernel
theorem dL_320 : decode code 320 = .ok (.if_icmp .eq 38, 3) := by decide +kernel
theorem dL_323 : decode code 323 = .ok (.iconst 0, 1) := by decide +kernel
theorem dL_324 : decode code 324 = .ok (.ireturn, 1) := by decide +kernel
theorem dL_325 : decode code 325 = .ok (.aload_n 1, 1) := by decide +kernel
theorem dL_326 : decode code 326 = .ok (.aload_n 0, 1) := by decide +kernel
theorem dL_327 : decode code 327 = .ok (.iload_n 3, 1) := by decide +kernel
theorem dL_328 : decode code 328 = .ok (.iconst 1, 1) := by decide +kernel
theorem dL_329 : decode code 329 = .ok (.iadd, 1) := by decide +kernel
theorem dL_330 : decode code 330 = .ok (.iaload, 1) := by decide +kernel
theorem dL_331 : decode code 331 = .ok (.aload_n 0, 1) := by decide +kernel
theorem dL_332 : decode code 332 = .ok (.iload_n 3, 1) := by decide +kernel
theorem dL_333 : decode code 333 = .ok (.iconst 2, 1) := by decide +kernel
theorem dL_334 : decode code 334 = .ok (.iadd, 1) := by decide +kernel
theorem dL_335 : decode code 335 = .ok (.iaload, 1) := by decide +kernel
theorem dL_336 : decode code 336 = .ok (.invokevirtual 53, 3) := by decide +kernel
theorem dL_339 : decode code 339 = .ok (.aload_n 2, 1) := by decide +kernel
theorem dL_340 : decode code 340 = .ok (.aload_n 0, 1) := by decide +kernel
theorem dL_341 : decode code 341 = .ok (.iload_n 3, 1) := by decide +kernel
theorem dL_342 : decode code 342 = .ok (.iconst 1, 1) := by decide +kernel
theorem dL_343 : decode code 343 = .ok (.iadd, 1) := by decide +kernel
theorem dL_344 : decode code 344 = .ok (.iaload, 1) := by decide +kernel
theorem dL_345 : decode code 345 = .ok (.aload_n 0, 1) := by decide +kernel
theorem dL_346 : decode code 346 = .ok (.iload_n 3, 1) := by decide +kernel
theorem dL_347 : decode code 347 = .ok (.iconst 2, 1) := by decide +kernel
theorem dL_348 : decode code 348 = .ok (.iadd, 1) := by decide +kernel
theorem dL_349 : decode code 349 = .ok (.iaload, 1) := by decide +kernel
theorem dL_350 : decode code 350 = .ok (.invokevirtual 57, 3) := by decide +kernel
theorem dL_353 : decode code 353 = .ok (.if_icmp .eq 5, 3) := by decide +kernel
theorem dL_356 : decode code 356 = .ok (.iconst 0, 1) := by decide +kernel
theorem dL_357 : decode code 357 = .ok (.ireturn, 1) := by decide +kernel
theorem dL_358 : decode code 358 = .ok (.iinc 3 6, 3) := by decide +kernel
theorem dL_361 : decode code 361 = .ok (.goto (-343), 3) := by decide +kernel
theorem dL_364 : decode code 364 = .ok (.iconst 1, 1) := by decide +kernel
theorem dL_365 : decode code 365 = .ok (.ireturn, 1) := by decide +kernel
