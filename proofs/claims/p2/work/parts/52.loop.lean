abbrev xb_La_law : ByteArray := code
def xy_La_law : MethodName := ⟨"LayerDeskLaw", "law", "([I)Z"⟩
theorem xd_La_law_23 : decode xb_La_law 23 = .ok (.iload 4, 2) := by decide +kernel
theorem xd_La_law_25 : decode xb_La_law 25 = .ok (.aload_n 0, 1) := by decide +kernel
theorem xd_La_law_26 : decode xb_La_law 26 = .ok (.arraylength, 1) := by decide +kernel
theorem xd_La_law_27 : decode xb_La_law 27 = .ok (.iconst 5, 1) := by decide +kernel
theorem xd_La_law_28 : decode xb_La_law 28 = .ok (.isub, 1) := by decide +kernel
theorem xd_La_law_29 : decode xb_La_law 29 = .ok (.if_icmp .gt 518, 3) := by decide +kernel
theorem xd_La_law_32 : decode xb_La_law 32 = .ok (.aload_n 0, 1) := by decide +kernel
theorem xd_La_law_33 : decode xb_La_law 33 = .ok (.iload 4, 2) := by decide +kernel
theorem xd_La_law_35 : decode xb_La_law 35 = .ok (.iaload, 1) := by decide +kernel
theorem xd_La_law_36 : decode xb_La_law 36 = .ok (.bipush 15, 2) := by decide +kernel
theorem xd_La_law_38 : decode xb_La_law 38 = .ok (.iand, 1) := by decide +kernel
theorem xd_La_law_39 : decode xb_La_law 39 = .ok (.tableswitch 502 0 11 #[61, 88, 104, 172, 185, 210, 235, 260, 297, 358, 398, 462], 61) := by decide +kernel
theorem xd_La_law_100 : decode xb_La_law 100 = .ok (.aload_n 1, 1) := by decide +kernel
theorem xd_La_law_101 : decode xb_La_law 101 = .ok (.aload_n 0, 1) := by decide +kernel
theorem xd_La_law_102 : decode xb_La_law 102 = .ok (.iload 4, 2) := by decide +kernel
theorem xd_La_law_104 : decode xb_La_law 104 = .ok (.iconst 1, 1) := by decide +kernel
theorem xd_La_law_105 : decode xb_La_law 105 = .ok (.iadd, 1) := by decide +kernel
theorem xd_La_law_106 : decode xb_La_law 106 = .ok (.iaload, 1) := by decide +kernel
theorem xd_La_law_107 : decode xb_La_law 107 = .ok (.i2c, 1) := by decide +kernel
theorem xd_La_law_108 : decode xb_La_law 108 = .ok (.invokevirtual 38, 3) := by decide +kernel
theorem xd_La_law_111 : decode xb_La_law 111 = .ok (.aload_n 2, 1) := by decide +kernel
theorem xd_La_law_112 : decode xb_La_law 112 = .ok (.aload_n 0, 1) := by decide +kernel
theorem xd_La_law_113 : decode xb_La_law 113 = .ok (.iload 4, 2) := by decide +kernel
theorem xd_La_law_115 : decode xb_La_law 115 = .ok (.iconst 1, 1) := by decide +kernel
theorem xd_La_law_116 : decode xb_La_law 116 = .ok (.iadd, 1) := by decide +kernel
theorem xd_La_law_117 : decode xb_La_law 117 = .ok (.iaload, 1) := by decide +kernel
theorem xd_La_law_118 : decode xb_La_law 118 = .ok (.i2c, 1) := by decide +kernel
theorem xd_La_law_119 : decode xb_La_law 119 = .ok (.invokevirtual 42, 3) := by decide +kernel
theorem xd_La_law_122 : decode xb_La_law 122 = .ok (.if_icmp .eq 419, 3) := by decide +kernel
theorem xd_La_law_127 : decode xb_La_law 127 = .ok (.aload_n 1, 1) := by decide +kernel
theorem xd_La_law_128 : decode xb_La_law 128 = .ok (.aload_n 3, 1) := by decide +kernel
theorem xd_La_law_129 : decode xb_La_law 129 = .ok (.invokestatic 43, 3) := by decide +kernel
theorem xd_La_law_132 : decode xb_La_law 132 = .ok (.istore 5, 2) := by decide +kernel
theorem xd_La_law_134 : decode xb_La_law 134 = .ok (.aload_n 2, 1) := by decide +kernel
theorem xd_La_law_135 : decode xb_La_law 135 = .ok (.invokevirtual 48, 3) := by decide +kernel
theorem xd_La_law_138 : decode xb_La_law 138 = .ok (.istore 6, 2) := by decide +kernel
theorem xd_La_law_140 : decode xb_La_law 140 = .ok (.goto 401, 3) := by decide +kernel
theorem xd_La_law_143 : decode xb_La_law 143 = .ok (.aload_n 1, 1) := by decide +kernel
theorem xd_La_law_144 : decode xb_La_law 144 = .ok (.aload_n 0, 1) := by decide +kernel
theorem xd_La_law_145 : decode xb_La_law 145 = .ok (.iload 4, 2) := by decide +kernel
theorem xd_La_law_147 : decode xb_La_law 147 = .ok (.iconst 1, 1) := by decide +kernel
theorem xd_La_law_148 : decode xb_La_law 148 = .ok (.iadd, 1) := by decide +kernel
theorem xd_La_law_149 : decode xb_La_law 149 = .ok (.iaload, 1) := by decide +kernel
theorem xd_La_law_150 : decode xb_La_law 150 = .ok (.aload_n 0, 1) := by decide +kernel
theorem xd_La_law_151 : decode xb_La_law 151 = .ok (.iload 4, 2) := by decide +kernel
theorem xd_La_law_153 : decode xb_La_law 153 = .ok (.iconst 2, 1) := by decide +kernel
theorem xd_La_law_154 : decode xb_La_law 154 = .ok (.iadd, 1) := by decide +kernel
theorem xd_La_law_155 : decode xb_La_law 155 = .ok (.iaload, 1) := by decide +kernel
theorem xd_La_law_156 : decode xb_La_law 156 = .ok (.aload_n 0, 1) := by decide +kernel
theorem xd_La_law_157 : decode xb_La_law 157 = .ok (.iload 4, 2) := by decide +kernel
theorem xd_La_law_159 : decode xb_La_law 159 = .ok (.iconst 3, 1) := by decide +kernel
theorem xd_La_law_160 : decode xb_La_law 160 = .ok (.iadd, 1) := by decide +kernel
theorem xd_La_law_161 : decode xb_La_law 161 = .ok (.iaload, 1) := by decide +kernel
theorem xd_La_law_162 : decode xb_La_law 162 = .ok (.ifCond .eq 7, 3) := by decide +kernel
theorem xd_La_law_165 : decode xb_La_law 165 = .ok (.iconst 1, 1) := by decide +kernel
theorem xd_La_law_166 : decode xb_La_law 166 = .ok (.goto 4, 3) := by decide +kernel
theorem xd_La_law_169 : decode xb_La_law 169 = .ok (.iconst 0, 1) := by decide +kernel
theorem xd_La_law_170 : decode xb_La_law 170 = .ok (.aload_n 3, 1) := by decide +kernel
theorem xd_La_law_171 : decode xb_La_law 171 = .ok (.invokestatic 49, 3) := by decide +kernel
theorem xd_La_law_174 : decode xb_La_law 174 = .ok (.istore 5, 2) := by decide +kernel
theorem xd_La_law_176 : decode xb_La_law 176 = .ok (.aload_n 2, 1) := by decide +kernel
theorem xd_La_law_177 : decode xb_La_law 177 = .ok (.aload_n 0, 1) := by decide +kernel
theorem xd_La_law_178 : decode xb_La_law 178 = .ok (.iload 4, 2) := by decide +kernel
theorem xd_La_law_180 : decode xb_La_law 180 = .ok (.iconst 1, 1) := by decide +kernel
theorem xd_La_law_181 : decode xb_La_law 181 = .ok (.iadd, 1) := by decide +kernel
theorem xd_La_law_182 : decode xb_La_law 182 = .ok (.iaload, 1) := by decide +kernel
theorem xd_La_law_183 : decode xb_La_law 183 = .ok (.aload_n 0, 1) := by decide +kernel
theorem xd_La_law_184 : decode xb_La_law 184 = .ok (.iload 4, 2) := by decide +kernel
theorem xd_La_law_186 : decode xb_La_law 186 = .ok (.iconst 2, 1) := by decide +kernel
theorem xd_La_law_187 : decode xb_La_law 187 = .ok (.iadd, 1) := by decide +kernel
theorem xd_La_law_188 : decode xb_La_law 188 = .ok (.iaload, 1) := by decide +kernel
theorem xd_La_law_189 : decode xb_La_law 189 = .ok (.aload_n 0, 1) := by decide +kernel
theorem xd_La_law_190 : decode xb_La_law 190 = .ok (.iload 4, 2) := by decide +kernel
theorem xd_La_law_192 : decode xb_La_law 192 = .ok (.iconst 3, 1) := by decide +kernel
theorem xd_La_law_193 : decode xb_La_law 193 = .ok (.iadd, 1) := by decide +kernel
theorem xd_La_law_194 : decode xb_La_law 194 = .ok (.iaload, 1) := by decide +kernel
theorem xd_La_law_195 : decode xb_La_law 195 = .ok (.ifCond .eq 7, 3) := by decide +kernel
theorem xd_La_law_198 : decode xb_La_law 198 = .ok (.iconst 1, 1) := by decide +kernel
theorem xd_La_law_199 : decode xb_La_law 199 = .ok (.goto 4, 3) := by decide +kernel
theorem xd_La_law_202 : decode xb_La_law 202 = .ok (.iconst 0, 1) := by decide +kernel
theorem xd_La_law_203 : decode xb_La_law 203 = .ok (.invokevirtual 52, 3) := by decide +kernel
theorem xd_La_law_206 : decode xb_La_law 206 = .ok (.istore 6, 2) := by decide +kernel
theorem xd_La_law_208 : decode xb_La_law 208 = .ok (.goto 333, 3) := by decide +kernel
theorem xd_La_law_211 : decode xb_La_law 211 = .ok (.aload_n 1, 1) := by decide +kernel
theorem xd_La_law_212 : decode xb_La_law 212 = .ok (.invokevirtual 53, 3) := by decide +kernel
theorem xd_La_law_215 : decode xb_La_law 215 = .ok (.pop, 1) := by decide +kernel
theorem xd_La_law_216 : decode xb_La_law 216 = .ok (.aload_n 2, 1) := by decide +kernel
theorem xd_La_law_217 : decode xb_La_law 217 = .ok (.invokevirtual 56, 3) := by decide +kernel
theorem xd_La_law_220 : decode xb_La_law 220 = .ok (.pop, 1) := by decide +kernel
theorem xd_La_law_221 : decode xb_La_law 221 = .ok (.goto 320, 3) := by decide +kernel
theorem xd_La_law_224 : decode xb_La_law 224 = .ok (.aload_n 1, 1) := by decide +kernel
theorem xd_La_law_225 : decode xb_La_law 225 = .ok (.aload_n 0, 1) := by decide +kernel
theorem xd_La_law_226 : decode xb_La_law 226 = .ok (.iload 4, 2) := by decide +kernel
theorem xd_La_law_228 : decode xb_La_law 228 = .ok (.iconst 1, 1) := by decide +kernel
theorem xd_La_law_229 : decode xb_La_law 229 = .ok (.iadd, 1) := by decide +kernel
theorem xd_La_law_230 : decode xb_La_law 230 = .ok (.iaload, 1) := by decide +kernel
theorem xd_La_law_231 : decode xb_La_law 231 = .ok (.invokevirtual 57, 3) := by decide +kernel
theorem xd_La_law_234 : decode xb_La_law 234 = .ok (.pop, 1) := by decide +kernel
theorem xd_La_law_235 : decode xb_La_law 235 = .ok (.aload_n 2, 1) := by decide +kernel
theorem xd_La_law_236 : decode xb_La_law 236 = .ok (.aload_n 0, 1) := by decide +kernel
theorem xd_La_law_237 : decode xb_La_law 237 = .ok (.iload 4, 2) := by decide +kernel
theorem xd_La_law_239 : decode xb_La_law 239 = .ok (.iconst 1, 1) := by decide +kernel
theorem xd_La_law_240 : decode xb_La_law 240 = .ok (.iadd, 1) := by decide +kernel
theorem xd_La_law_241 : decode xb_La_law 241 = .ok (.iaload, 1) := by decide +kernel
theorem xd_La_law_242 : decode xb_La_law 242 = .ok (.invokevirtual 61, 3) := by decide +kernel
theorem xd_La_law_245 : decode xb_La_law 245 = .ok (.pop, 1) := by decide +kernel
theorem xd_La_law_246 : decode xb_La_law 246 = .ok (.goto 295, 3) := by decide +kernel
theorem xd_La_law_249 : decode xb_La_law 249 = .ok (.aload_n 1, 1) := by decide +kernel
theorem xd_La_law_250 : decode xb_La_law 250 = .ok (.aload_n 0, 1) := by decide +kernel
theorem xd_La_law_251 : decode xb_La_law 251 = .ok (.iload 4, 2) := by decide +kernel
theorem xd_La_law_253 : decode xb_La_law 253 = .ok (.iconst 1, 1) := by decide +kernel
theorem xd_La_law_254 : decode xb_La_law 254 = .ok (.iadd, 1) := by decide +kernel
theorem xd_La_law_255 : decode xb_La_law 255 = .ok (.iaload, 1) := by decide +kernel
theorem xd_La_law_256 : decode xb_La_law 256 = .ok (.invokevirtual 62, 3) := by decide +kernel
theorem xd_La_law_259 : decode xb_La_law 259 = .ok (.pop, 1) := by decide +kernel
theorem xd_La_law_260 : decode xb_La_law 260 = .ok (.aload_n 2, 1) := by decide +kernel
theorem xd_La_law_261 : decode xb_La_law 261 = .ok (.aload_n 0, 1) := by decide +kernel
theorem xd_La_law_262 : decode xb_La_law 262 = .ok (.iload 4, 2) := by decide +kernel
theorem xd_La_law_264 : decode xb_La_law 264 = .ok (.iconst 1, 1) := by decide +kernel
theorem xd_La_law_265 : decode xb_La_law 265 = .ok (.iadd, 1) := by decide +kernel
theorem xd_La_law_266 : decode xb_La_law 266 = .ok (.iaload, 1) := by decide +kernel
theorem xd_La_law_267 : decode xb_La_law 267 = .ok (.invokevirtual 66, 3) := by decide +kernel
theorem xd_La_law_270 : decode xb_La_law 270 = .ok (.pop, 1) := by decide +kernel
theorem xd_La_law_271 : decode xb_La_law 271 = .ok (.goto 270, 3) := by decide +kernel
theorem xd_La_law_274 : decode xb_La_law 274 = .ok (.aload_n 1, 1) := by decide +kernel
theorem xd_La_law_275 : decode xb_La_law 275 = .ok (.aload_n 0, 1) := by decide +kernel
theorem xd_La_law_276 : decode xb_La_law 276 = .ok (.iload 4, 2) := by decide +kernel
theorem xd_La_law_278 : decode xb_La_law 278 = .ok (.iconst 1, 1) := by decide +kernel
theorem xd_La_law_279 : decode xb_La_law 279 = .ok (.iadd, 1) := by decide +kernel
theorem xd_La_law_280 : decode xb_La_law 280 = .ok (.iaload, 1) := by decide +kernel
theorem xd_La_law_281 : decode xb_La_law 281 = .ok (.invokevirtual 67, 3) := by decide +kernel
theorem xd_La_law_284 : decode xb_La_law 284 = .ok (.pop, 1) := by decide +kernel
theorem xd_La_law_285 : decode xb_La_law 285 = .ok (.aload_n 2, 1) := by decide +kernel
theorem xd_La_law_286 : decode xb_La_law 286 = .ok (.aload_n 0, 1) := by decide +kernel
theorem xd_La_law_287 : decode xb_La_law 287 = .ok (.iload 4, 2) := by decide +kernel
theorem xd_La_law_289 : decode xb_La_law 289 = .ok (.iconst 1, 1) := by decide +kernel
theorem xd_La_law_290 : decode xb_La_law 290 = .ok (.iadd, 1) := by decide +kernel
theorem xd_La_law_291 : decode xb_La_law 291 = .ok (.iaload, 1) := by decide +kernel
theorem xd_La_law_292 : decode xb_La_law 292 = .ok (.invokevirtual 70, 3) := by decide +kernel
theorem xd_La_law_295 : decode xb_La_law 295 = .ok (.pop, 1) := by decide +kernel
theorem xd_La_law_296 : decode xb_La_law 296 = .ok (.goto 245, 3) := by decide +kernel
theorem xd_La_law_299 : decode xb_La_law 299 = .ok (.aload_n 1, 1) := by decide +kernel
theorem xd_La_law_300 : decode xb_La_law 300 = .ok (.aload_n 0, 1) := by decide +kernel
theorem xd_La_law_301 : decode xb_La_law 301 = .ok (.iload 4, 2) := by decide +kernel
theorem xd_La_law_303 : decode xb_La_law 303 = .ok (.iconst 1, 1) := by decide +kernel
theorem xd_La_law_304 : decode xb_La_law 304 = .ok (.iadd, 1) := by decide +kernel
theorem xd_La_law_305 : decode xb_La_law 305 = .ok (.iaload, 1) := by decide +kernel
theorem xd_La_law_306 : decode xb_La_law 306 = .ok (.aload_n 0, 1) := by decide +kernel
theorem xd_La_law_307 : decode xb_La_law 307 = .ok (.iload 4, 2) := by decide +kernel
theorem xd_La_law_309 : decode xb_La_law 309 = .ok (.iconst 2, 1) := by decide +kernel
theorem xd_La_law_310 : decode xb_La_law 310 = .ok (.iadd, 1) := by decide +kernel
theorem xd_La_law_311 : decode xb_La_law 311 = .ok (.iaload, 1) := by decide +kernel
theorem xd_La_law_312 : decode xb_La_law 312 = .ok (.invokevirtual 71, 3) := by decide +kernel
theorem xd_La_law_315 : decode xb_La_law 315 = .ok (.pop, 1) := by decide +kernel
theorem xd_La_law_316 : decode xb_La_law 316 = .ok (.aload_n 2, 1) := by decide +kernel
theorem xd_La_law_317 : decode xb_La_law 317 = .ok (.aload_n 0, 1) := by decide +kernel
theorem xd_La_law_318 : decode xb_La_law 318 = .ok (.iload 4, 2) := by decide +kernel
theorem xd_La_law_320 : decode xb_La_law 320 = .ok (.iconst 1, 1) := by decide +kernel
theorem xd_La_law_321 : decode xb_La_law 321 = .ok (.iadd, 1) := by decide +kernel
theorem xd_La_law_322 : decode xb_La_law 322 = .ok (.iaload, 1) := by decide +kernel
theorem xd_La_law_323 : decode xb_La_law 323 = .ok (.aload_n 0, 1) := by decide +kernel
theorem xd_La_law_324 : decode xb_La_law 324 = .ok (.iload 4, 2) := by decide +kernel
theorem xd_La_law_326 : decode xb_La_law 326 = .ok (.iconst 2, 1) := by decide +kernel
theorem xd_La_law_327 : decode xb_La_law 327 = .ok (.iadd, 1) := by decide +kernel
theorem xd_La_law_328 : decode xb_La_law 328 = .ok (.iaload, 1) := by decide +kernel
theorem xd_La_law_329 : decode xb_La_law 329 = .ok (.invokevirtual 74, 3) := by decide +kernel
theorem xd_La_law_332 : decode xb_La_law 332 = .ok (.pop, 1) := by decide +kernel
theorem xd_La_law_333 : decode xb_La_law 333 = .ok (.goto 208, 3) := by decide +kernel
theorem xd_La_law_336 : decode xb_La_law 336 = .ok (.aload_n 1, 1) := by decide +kernel
theorem xd_La_law_337 : decode xb_La_law 337 = .ok (.aload_n 0, 1) := by decide +kernel
theorem xd_La_law_338 : decode xb_La_law 338 = .ok (.iload 4, 2) := by decide +kernel
theorem xd_La_law_340 : decode xb_La_law 340 = .ok (.iconst 1, 1) := by decide +kernel
theorem xd_La_law_341 : decode xb_La_law 341 = .ok (.iadd, 1) := by decide +kernel
theorem xd_La_law_342 : decode xb_La_law 342 = .ok (.iaload, 1) := by decide +kernel
theorem xd_La_law_343 : decode xb_La_law 343 = .ok (.aload_n 0, 1) := by decide +kernel
theorem xd_La_law_344 : decode xb_La_law 344 = .ok (.iload 4, 2) := by decide +kernel
theorem xd_La_law_346 : decode xb_La_law 346 = .ok (.iconst 2, 1) := by decide +kernel
theorem xd_La_law_347 : decode xb_La_law 347 = .ok (.iadd, 1) := by decide +kernel
theorem xd_La_law_348 : decode xb_La_law 348 = .ok (.iaload, 1) := by decide +kernel
theorem xd_La_law_349 : decode xb_La_law 349 = .ok (.aload_n 0, 1) := by decide +kernel
theorem xd_La_law_350 : decode xb_La_law 350 = .ok (.iload 4, 2) := by decide +kernel
theorem xd_La_law_352 : decode xb_La_law 352 = .ok (.iconst 3, 1) := by decide +kernel
theorem xd_La_law_353 : decode xb_La_law 353 = .ok (.iadd, 1) := by decide +kernel
theorem xd_La_law_354 : decode xb_La_law 354 = .ok (.iaload, 1) := by decide +kernel
theorem xd_La_law_355 : decode xb_La_law 355 = .ok (.aload_n 0, 1) := by decide +kernel
theorem xd_La_law_356 : decode xb_La_law 356 = .ok (.iload 4, 2) := by decide +kernel
theorem xd_La_law_358 : decode xb_La_law 358 = .ok (.iconst 4, 1) := by decide +kernel
theorem xd_La_law_359 : decode xb_La_law 359 = .ok (.iadd, 1) := by decide +kernel
theorem xd_La_law_360 : decode xb_La_law 360 = .ok (.iaload, 1) := by decide +kernel
theorem xd_La_law_361 : decode xb_La_law 361 = .ok (.invokevirtual 75, 3) := by decide +kernel
theorem xd_La_law_364 : decode xb_La_law 364 = .ok (.pop, 1) := by decide +kernel
theorem xd_La_law_365 : decode xb_La_law 365 = .ok (.aload_n 2, 1) := by decide +kernel
theorem xd_La_law_366 : decode xb_La_law 366 = .ok (.aload_n 0, 1) := by decide +kernel
theorem xd_La_law_367 : decode xb_La_law 367 = .ok (.iload 4, 2) := by decide +kernel
theorem xd_La_law_369 : decode xb_La_law 369 = .ok (.iconst 1, 1) := by decide +kernel
theorem xd_La_law_370 : decode xb_La_law 370 = .ok (.iadd, 1) := by decide +kernel
theorem xd_La_law_371 : decode xb_La_law 371 = .ok (.iaload, 1) := by decide +kernel
theorem xd_La_law_372 : decode xb_La_law 372 = .ok (.aload_n 0, 1) := by decide +kernel
theorem xd_La_law_373 : decode xb_La_law 373 = .ok (.iload 4, 2) := by decide +kernel
theorem xd_La_law_375 : decode xb_La_law 375 = .ok (.iconst 2, 1) := by decide +kernel
theorem xd_La_law_376 : decode xb_La_law 376 = .ok (.iadd, 1) := by decide +kernel
theorem xd_La_law_377 : decode xb_La_law 377 = .ok (.iaload, 1) := by decide +kernel
theorem xd_La_law_378 : decode xb_La_law 378 = .ok (.aload_n 0, 1) := by decide +kernel
theorem xd_La_law_379 : decode xb_La_law 379 = .ok (.iload 4, 2) := by decide +kernel
theorem xd_La_law_381 : decode xb_La_law 381 = .ok (.iconst 3, 1) := by decide +kernel
theorem xd_La_law_382 : decode xb_La_law 382 = .ok (.iadd, 1) := by decide +kernel
theorem xd_La_law_383 : decode xb_La_law 383 = .ok (.iaload, 1) := by decide +kernel
theorem xd_La_law_384 : decode xb_La_law 384 = .ok (.aload_n 0, 1) := by decide +kernel
theorem xd_La_law_385 : decode xb_La_law 385 = .ok (.iload 4, 2) := by decide +kernel
theorem xd_La_law_387 : decode xb_La_law 387 = .ok (.iconst 4, 1) := by decide +kernel
theorem xd_La_law_388 : decode xb_La_law 388 = .ok (.iadd, 1) := by decide +kernel
theorem xd_La_law_389 : decode xb_La_law 389 = .ok (.iaload, 1) := by decide +kernel
theorem xd_La_law_390 : decode xb_La_law 390 = .ok (.invokevirtual 78, 3) := by decide +kernel
theorem xd_La_law_393 : decode xb_La_law 393 = .ok (.pop, 1) := by decide +kernel
theorem xd_La_law_394 : decode xb_La_law 394 = .ok (.goto 147, 3) := by decide +kernel
theorem xd_La_law_397 : decode xb_La_law 397 = .ok (.aload_n 1, 1) := by decide +kernel
theorem xd_La_law_398 : decode xb_La_law 398 = .ok (.aload_n 0, 1) := by decide +kernel
theorem xd_La_law_399 : decode xb_La_law 399 = .ok (.iload 4, 2) := by decide +kernel
theorem xd_La_law_401 : decode xb_La_law 401 = .ok (.iconst 1, 1) := by decide +kernel
theorem xd_La_law_402 : decode xb_La_law 402 = .ok (.iadd, 1) := by decide +kernel
theorem xd_La_law_403 : decode xb_La_law 403 = .ok (.iaload, 1) := by decide +kernel
theorem xd_La_law_404 : decode xb_La_law 404 = .ok (.aload_n 0, 1) := by decide +kernel
theorem xd_La_law_405 : decode xb_La_law 405 = .ok (.iload 4, 2) := by decide +kernel
theorem xd_La_law_407 : decode xb_La_law 407 = .ok (.iconst 2, 1) := by decide +kernel
theorem xd_La_law_408 : decode xb_La_law 408 = .ok (.iadd, 1) := by decide +kernel
theorem xd_La_law_409 : decode xb_La_law 409 = .ok (.iaload, 1) := by decide +kernel
theorem xd_La_law_410 : decode xb_La_law 410 = .ok (.aload_n 3, 1) := by decide +kernel
theorem xd_La_law_411 : decode xb_La_law 411 = .ok (.invokestatic 79, 3) := by decide +kernel
theorem xd_La_law_414 : decode xb_La_law 414 = .ok (.istore 5, 2) := by decide +kernel
theorem xd_La_law_416 : decode xb_La_law 416 = .ok (.aload_n 2, 1) := by decide +kernel
theorem xd_La_law_417 : decode xb_La_law 417 = .ok (.aload_n 0, 1) := by decide +kernel
theorem xd_La_law_418 : decode xb_La_law 418 = .ok (.iload 4, 2) := by decide +kernel
theorem xd_La_law_420 : decode xb_La_law 420 = .ok (.iconst 1, 1) := by decide +kernel
theorem xd_La_law_421 : decode xb_La_law 421 = .ok (.iadd, 1) := by decide +kernel
theorem xd_La_law_422 : decode xb_La_law 422 = .ok (.iaload, 1) := by decide +kernel
theorem xd_La_law_423 : decode xb_La_law 423 = .ok (.aload_n 0, 1) := by decide +kernel
theorem xd_La_law_424 : decode xb_La_law 424 = .ok (.iload 4, 2) := by decide +kernel
theorem xd_La_law_426 : decode xb_La_law 426 = .ok (.iconst 2, 1) := by decide +kernel
theorem xd_La_law_427 : decode xb_La_law 427 = .ok (.iadd, 1) := by decide +kernel
theorem xd_La_law_428 : decode xb_La_law 428 = .ok (.iaload, 1) := by decide +kernel
theorem xd_La_law_429 : decode xb_La_law 429 = .ok (.invokevirtual 82, 3) := by decide +kernel
theorem xd_La_law_432 : decode xb_La_law 432 = .ok (.istore 6, 2) := by decide +kernel
theorem xd_La_law_434 : decode xb_La_law 434 = .ok (.goto 107, 3) := by decide +kernel
theorem xd_La_law_437 : decode xb_La_law 437 = .ok (.aload_n 1, 1) := by decide +kernel
theorem xd_La_law_438 : decode xb_La_law 438 = .ok (.aload_n 0, 1) := by decide +kernel
theorem xd_La_law_439 : decode xb_La_law 439 = .ok (.iload 4, 2) := by decide +kernel
theorem xd_La_law_441 : decode xb_La_law 441 = .ok (.iconst 1, 1) := by decide +kernel
theorem xd_La_law_442 : decode xb_La_law 442 = .ok (.iadd, 1) := by decide +kernel
theorem xd_La_law_443 : decode xb_La_law 443 = .ok (.iaload, 1) := by decide +kernel
theorem xd_La_law_444 : decode xb_La_law 444 = .ok (.aload_n 0, 1) := by decide +kernel
theorem xd_La_law_445 : decode xb_La_law 445 = .ok (.iload 4, 2) := by decide +kernel
theorem xd_La_law_447 : decode xb_La_law 447 = .ok (.iconst 2, 1) := by decide +kernel
theorem xd_La_law_448 : decode xb_La_law 448 = .ok (.iadd, 1) := by decide +kernel
theorem xd_La_law_449 : decode xb_La_law 449 = .ok (.iaload, 1) := by decide +kernel
theorem xd_La_law_450 : decode xb_La_law 450 = .ok (.aload_n 0, 1) := by decide +kernel
theorem xd_La_law_451 : decode xb_La_law 451 = .ok (.iload 4, 2) := by decide +kernel
theorem xd_La_law_453 : decode xb_La_law 453 = .ok (.iconst 3, 1) := by decide +kernel
theorem xd_La_law_454 : decode xb_La_law 454 = .ok (.iadd, 1) := by decide +kernel
theorem xd_La_law_455 : decode xb_La_law 455 = .ok (.iaload, 1) := by decide +kernel
theorem xd_La_law_456 : decode xb_La_law 456 = .ok (.aload_n 0, 1) := by decide +kernel
theorem xd_La_law_457 : decode xb_La_law 457 = .ok (.iload 4, 2) := by decide +kernel
theorem xd_La_law_459 : decode xb_La_law 459 = .ok (.iconst 4, 1) := by decide +kernel
theorem xd_La_law_460 : decode xb_La_law 460 = .ok (.iadd, 1) := by decide +kernel
theorem xd_La_law_461 : decode xb_La_law 461 = .ok (.iaload, 1) := by decide +kernel
theorem xd_La_law_462 : decode xb_La_law 462 = .ok (.aload_n 3, 1) := by decide +kernel
theorem xd_La_law_463 : decode xb_La_law 463 = .ok (.invokestatic 83, 3) := by decide +kernel
theorem xd_La_law_466 : decode xb_La_law 466 = .ok (.istore 5, 2) := by decide +kernel
theorem xd_La_law_468 : decode xb_La_law 468 = .ok (.aload_n 2, 1) := by decide +kernel
theorem xd_La_law_469 : decode xb_La_law 469 = .ok (.aload_n 0, 1) := by decide +kernel
theorem xd_La_law_470 : decode xb_La_law 470 = .ok (.iload 4, 2) := by decide +kernel
theorem xd_La_law_472 : decode xb_La_law 472 = .ok (.iconst 1, 1) := by decide +kernel
theorem xd_La_law_473 : decode xb_La_law 473 = .ok (.iadd, 1) := by decide +kernel
theorem xd_La_law_474 : decode xb_La_law 474 = .ok (.iaload, 1) := by decide +kernel
theorem xd_La_law_475 : decode xb_La_law 475 = .ok (.aload_n 0, 1) := by decide +kernel
theorem xd_La_law_476 : decode xb_La_law 476 = .ok (.iload 4, 2) := by decide +kernel
theorem xd_La_law_478 : decode xb_La_law 478 = .ok (.iconst 2, 1) := by decide +kernel
theorem xd_La_law_479 : decode xb_La_law 479 = .ok (.iadd, 1) := by decide +kernel
theorem xd_La_law_480 : decode xb_La_law 480 = .ok (.iaload, 1) := by decide +kernel
theorem xd_La_law_481 : decode xb_La_law 481 = .ok (.aload_n 0, 1) := by decide +kernel
theorem xd_La_law_482 : decode xb_La_law 482 = .ok (.iload 4, 2) := by decide +kernel
theorem xd_La_law_484 : decode xb_La_law 484 = .ok (.iconst 3, 1) := by decide +kernel
theorem xd_La_law_485 : decode xb_La_law 485 = .ok (.iadd, 1) := by decide +kernel
theorem xd_La_law_486 : decode xb_La_law 486 = .ok (.iaload, 1) := by decide +kernel
theorem xd_La_law_487 : decode xb_La_law 487 = .ok (.aload_n 0, 1) := by decide +kernel
theorem xd_La_law_488 : decode xb_La_law 488 = .ok (.iload 4, 2) := by decide +kernel
theorem xd_La_law_490 : decode xb_La_law 490 = .ok (.iconst 4, 1) := by decide +kernel
theorem xd_La_law_491 : decode xb_La_law 491 = .ok (.iadd, 1) := by decide +kernel
theorem xd_La_law_492 : decode xb_La_law 492 = .ok (.iaload, 1) := by decide +kernel
theorem xd_La_law_493 : decode xb_La_law 493 = .ok (.invokevirtual 86, 3) := by decide +kernel
theorem xd_La_law_496 : decode xb_La_law 496 = .ok (.istore 6, 2) := by decide +kernel
theorem xd_La_law_498 : decode xb_La_law 498 = .ok (.goto 43, 3) := by decide +kernel
theorem xd_La_law_501 : decode xb_La_law 501 = .ok (.aload_n 1, 1) := by decide +kernel
theorem xd_La_law_502 : decode xb_La_law 502 = .ok (.aload_n 0, 1) := by decide +kernel
theorem xd_La_law_503 : decode xb_La_law 503 = .ok (.iload 4, 2) := by decide +kernel
theorem xd_La_law_505 : decode xb_La_law 505 = .ok (.iconst 1, 1) := by decide +kernel
theorem xd_La_law_506 : decode xb_La_law 506 = .ok (.iadd, 1) := by decide +kernel
theorem xd_La_law_507 : decode xb_La_law 507 = .ok (.iaload, 1) := by decide +kernel
theorem xd_La_law_508 : decode xb_La_law 508 = .ok (.aload_n 0, 1) := by decide +kernel
theorem xd_La_law_509 : decode xb_La_law 509 = .ok (.iload 4, 2) := by decide +kernel
theorem xd_La_law_511 : decode xb_La_law 511 = .ok (.iconst 2, 1) := by decide +kernel
theorem xd_La_law_512 : decode xb_La_law 512 = .ok (.iadd, 1) := by decide +kernel
theorem xd_La_law_513 : decode xb_La_law 513 = .ok (.iaload, 1) := by decide +kernel
theorem xd_La_law_514 : decode xb_La_law 514 = .ok (.aload_n 3, 1) := by decide +kernel
theorem xd_La_law_515 : decode xb_La_law 515 = .ok (.invokestatic 87, 3) := by decide +kernel
theorem xd_La_law_518 : decode xb_La_law 518 = .ok (.istore 5, 2) := by decide +kernel
theorem xd_La_law_520 : decode xb_La_law 520 = .ok (.aload_n 2, 1) := by decide +kernel
theorem xd_La_law_521 : decode xb_La_law 521 = .ok (.aload_n 0, 1) := by decide +kernel
theorem xd_La_law_522 : decode xb_La_law 522 = .ok (.iload 4, 2) := by decide +kernel
theorem xd_La_law_524 : decode xb_La_law 524 = .ok (.iconst 1, 1) := by decide +kernel
theorem xd_La_law_525 : decode xb_La_law 525 = .ok (.iadd, 1) := by decide +kernel
theorem xd_La_law_526 : decode xb_La_law 526 = .ok (.iaload, 1) := by decide +kernel
theorem xd_La_law_527 : decode xb_La_law 527 = .ok (.aload_n 0, 1) := by decide +kernel
theorem xd_La_law_528 : decode xb_La_law 528 = .ok (.iload 4, 2) := by decide +kernel
theorem xd_La_law_530 : decode xb_La_law 530 = .ok (.iconst 2, 1) := by decide +kernel
theorem xd_La_law_531 : decode xb_La_law 531 = .ok (.iadd, 1) := by decide +kernel
theorem xd_La_law_532 : decode xb_La_law 532 = .ok (.iaload, 1) := by decide +kernel
theorem xd_La_law_533 : decode xb_La_law 533 = .ok (.invokevirtual 89, 3) := by decide +kernel
theorem xd_La_law_536 : decode xb_La_law 536 = .ok (.istore 6, 2) := by decide +kernel
theorem xd_La_law_538 : decode xb_La_law 538 = .ok (.goto 3, 3) := by decide +kernel
theorem xd_La_law_541 : decode xb_La_law 541 = .ok (.iinc 4 5, 3) := by decide +kernel
theorem xd_La_law_544 : decode xb_La_law 544 = .ok (.goto (-521), 3) := by decide +kernel
theorem xd_La_law_547 : decode xb_La_law 547 = .ok (.iconst 1, 1) := by decide +kernel
theorem xd_La_law_548 : decode xb_La_law 548 = .ok (.ireturn, 1) := by decide +kernel
theorem za_0 : (Cond.code xy_De_write xb_De_write 2 (some .boolean)) ∈ wT := wT_t (List.mem_append_left _ (List.mem_of_getElem? (i := 121) rfl)) rfl
theorem za_1 : (Cond.methodLink "LayerDeskLaw" 38 xy_De_write) ∈ wT := wT_t (List.mem_append_left _ (List.mem_of_getElem? (i := 118) rfl)) rfl
theorem za_2 : (Cond.instanceMethod xy_De_write) ∈ wT := wT_t (List.mem_append_left _ (List.mem_of_getElem? (i := 119) rfl)) rfl
theorem za_3 : (Cond.selects "LayerDesk" xy_De_write xy_De_write) ∈ wT := wT_t (List.mem_append_left _ (List.mem_of_getElem? (i := 120) rfl)) rfl
theorem za_4 : (Cond.initialized "LayerDesk") ∈ wT := wT_t (List.mem_append_left _ (List.mem_of_getElem? (i := 1) rfl)) rfl
theorem za_5 : (Cond.code xy_Mo_write xb_Mo_write 2 (some .boolean)) ∈ wT := wT_t (List.mem_append_right _ (List.mem_append_right _ (List.mem_append_right _ (List.mem_append_left _ (List.mem_of_getElem? (i := 181) rfl))))) rfl
theorem za_6 : (Cond.methodLink "LayerDeskLaw" 42 xy_Mo_write) ∈ wT := wT_t (List.mem_append_right _ (List.mem_append_right _ (List.mem_append_right _ (List.mem_append_left _ (List.mem_of_getElem? (i := 178) rfl))))) rfl
theorem za_7 : (Cond.instanceMethod xy_Mo_write) ∈ wT := wT_t (List.mem_append_right _ (List.mem_append_right _ (List.mem_append_right _ (List.mem_append_left _ (List.mem_of_getElem? (i := 179) rfl))))) rfl
theorem za_8 : (Cond.selects "LayerDeskModel" xy_Mo_write xy_Mo_write) ∈ wT := wT_t (List.mem_append_right _ (List.mem_append_right _ (List.mem_append_right _ (List.mem_append_left _ (List.mem_of_getElem? (i := 180) rfl))))) rfl
theorem za_9 : (Cond.initialized "LayerDeskModel") ∈ wT := wT_t (List.mem_append_left _ (List.mem_of_getElem? (i := 5) rfl)) rfl
theorem za_10 : (Cond.codeWith xy_La_line xb_La_line 3 (some .int) [(0, 8, 11, 13), (0, 8, 14, 15)]) ∈ wT := wT_t (List.mem_append_left _ (List.mem_of_getElem? (i := 180) rfl)) rfl
theorem za_11 : (Cond.methodLink "LayerDeskLaw" 43 xy_La_line) ∈ wT := wT_t (List.mem_append_left _ (List.mem_of_getElem? (i := 178) rfl)) rfl
theorem za_12 : (Cond.static xy_La_line) ∈ wT := wT_t (List.mem_append_left _ (List.mem_of_getElem? (i := 179) rfl)) rfl
theorem za_13 : (Cond.initialized "LayerDeskLaw") ∈ wT := wT_t (List.mem_append_left _ (List.mem_of_getElem? (i := 0) rfl)) rfl
theorem za_14 : (Cond.code xy_Mo_line xb_Mo_line 2 (some .int)) ∈ wT := wT_t (List.mem_append_right _ (List.mem_append_right _ (List.mem_append_right _ (List.mem_append_left _ (List.mem_of_getElem? (i := 185) rfl))))) rfl
theorem za_15 : (Cond.methodLink "LayerDeskLaw" 48 xy_Mo_line) ∈ wT := wT_t (List.mem_append_right _ (List.mem_append_right _ (List.mem_append_right _ (List.mem_append_left _ (List.mem_of_getElem? (i := 182) rfl))))) rfl
theorem za_16 : (Cond.instanceMethod xy_Mo_line) ∈ wT := wT_t (List.mem_append_right _ (List.mem_append_right _ (List.mem_append_right _ (List.mem_append_left _ (List.mem_of_getElem? (i := 183) rfl))))) rfl
theorem za_17 : (Cond.selects "LayerDeskModel" xy_Mo_line xy_Mo_line) ∈ wT := wT_t (List.mem_append_right _ (List.mem_append_right _ (List.mem_append_right _ (List.mem_append_left _ (List.mem_of_getElem? (i := 184) rfl))))) rfl
theorem za_18 : (Cond.codeWith xy_La_layer xb_La_layer 6 (some .int) [(0, 12, 15, 13), (0, 12, 19, 21), (0, 12, 23, 15)]) ∈ wT := wT_t (List.mem_append_right _ (List.mem_append_right _ (List.mem_append_left _ (List.mem_of_getElem? (i := 50) rfl)))) rfl
theorem za_19 : (Cond.methodLink "LayerDeskLaw" 49 xy_La_layer) ∈ wT := wT_t (List.mem_append_right _ (List.mem_append_right _ (List.mem_append_left _ (List.mem_of_getElem? (i := 48) rfl)))) rfl
theorem za_20 : (Cond.static xy_La_layer) ∈ wT := wT_t (List.mem_append_right _ (List.mem_append_right _ (List.mem_append_left _ (List.mem_of_getElem? (i := 49) rfl)))) rfl
theorem za_21 : (Cond.code xy_Mo_layer xb_Mo_layer 7 (some .int)) ∈ wT := wT_t (List.mem_append_right _ (List.mem_append_right _ (List.mem_append_right _ (List.mem_append_right _ (List.mem_of_getElem? (i := 4) rfl))))) rfl
theorem za_22 : (Cond.methodLink "LayerDeskLaw" 52 xy_Mo_layer) ∈ wT := wT_t (List.mem_append_right _ (List.mem_append_right _ (List.mem_append_right _ (List.mem_append_right _ (List.mem_of_getElem? (i := 1) rfl))))) rfl
theorem za_23 : (Cond.instanceMethod xy_Mo_layer) ∈ wT := wT_t (List.mem_append_right _ (List.mem_append_right _ (List.mem_append_right _ (List.mem_append_right _ (List.mem_of_getElem? (i := 2) rfl))))) rfl
theorem za_24 : (Cond.selects "LayerDeskModel" xy_Mo_layer xy_Mo_layer) ∈ wT := wT_t (List.mem_append_right _ (List.mem_append_right _ (List.mem_append_right _ (List.mem_append_right _ (List.mem_of_getElem? (i := 3) rfl))))) rfl
theorem za_25 : (Cond.code xy_De_fault xb_De_fault 1 (some .int)) ∈ wT := wT_t (List.mem_append_left _ (List.mem_of_getElem? (i := 129) rfl)) rfl
theorem za_26 : (Cond.methodLink "LayerDeskLaw" 53 xy_De_fault) ∈ wT := wT_t (List.mem_append_left _ (List.mem_of_getElem? (i := 126) rfl)) rfl
theorem za_27 : (Cond.instanceMethod xy_De_fault) ∈ wT := wT_t (List.mem_append_left _ (List.mem_of_getElem? (i := 127) rfl)) rfl
theorem za_28 : (Cond.selects "LayerDesk" xy_De_fault xy_De_fault) ∈ wT := wT_t (List.mem_append_left _ (List.mem_of_getElem? (i := 128) rfl)) rfl
theorem za_29 : (Cond.code xy_Mo_fault xb_Mo_fault 1 (some .int)) ∈ wT := wT_t (List.mem_append_right _ (List.mem_append_right _ (List.mem_append_right _ (List.mem_append_right _ (List.mem_of_getElem? (i := 60) rfl))))) rfl
theorem za_30 : (Cond.methodLink "LayerDeskLaw" 56 xy_Mo_fault) ∈ wT := wT_t (List.mem_append_right _ (List.mem_append_right _ (List.mem_append_right _ (List.mem_append_right _ (List.mem_of_getElem? (i := 57) rfl))))) rfl
theorem za_31 : (Cond.instanceMethod xy_Mo_fault) ∈ wT := wT_t (List.mem_append_right _ (List.mem_append_right _ (List.mem_append_right _ (List.mem_append_right _ (List.mem_of_getElem? (i := 58) rfl))))) rfl
theorem za_32 : (Cond.selects "LayerDeskModel" xy_Mo_fault xy_Mo_fault) ∈ wT := wT_t (List.mem_append_right _ (List.mem_append_right _ (List.mem_append_right _ (List.mem_append_right _ (List.mem_of_getElem? (i := 59) rfl))))) rfl
theorem za_33 : (Cond.code xy_De_close xb_De_close 3 (some .boolean)) ∈ wT := wT_t (List.mem_append_left _ (List.mem_of_getElem? (i := 133) rfl)) rfl
theorem za_34 : (Cond.methodLink "LayerDeskLaw" 57 xy_De_close) ∈ wT := wT_t (List.mem_append_left _ (List.mem_of_getElem? (i := 130) rfl)) rfl
theorem za_35 : (Cond.instanceMethod xy_De_close) ∈ wT := wT_t (List.mem_append_left _ (List.mem_of_getElem? (i := 131) rfl)) rfl
theorem za_36 : (Cond.selects "LayerDesk" xy_De_close xy_De_close) ∈ wT := wT_t (List.mem_append_left _ (List.mem_of_getElem? (i := 132) rfl)) rfl
theorem za_37 : (Cond.code xy_Mo_close xb_Mo_close 3 (some .boolean)) ∈ wT := wT_t (List.mem_append_right _ (List.mem_append_right _ (List.mem_append_right _ (List.mem_append_right _ (List.mem_of_getElem? (i := 64) rfl))))) rfl
theorem za_38 : (Cond.methodLink "LayerDeskLaw" 61 xy_Mo_close) ∈ wT := wT_t (List.mem_append_right _ (List.mem_append_right _ (List.mem_append_right _ (List.mem_append_right _ (List.mem_of_getElem? (i := 61) rfl))))) rfl
theorem za_39 : (Cond.instanceMethod xy_Mo_close) ∈ wT := wT_t (List.mem_append_right _ (List.mem_append_right _ (List.mem_append_right _ (List.mem_append_right _ (List.mem_of_getElem? (i := 62) rfl))))) rfl
theorem za_40 : (Cond.selects "LayerDeskModel" xy_Mo_close xy_Mo_close) ∈ wT := wT_t (List.mem_append_right _ (List.mem_append_right _ (List.mem_append_right _ (List.mem_append_right _ (List.mem_of_getElem? (i := 63) rfl))))) rfl
theorem za_41 : (Cond.code xy_De_count xb_De_count 2 (some .int)) ∈ wT := wT_t (List.mem_append_left _ (List.mem_of_getElem? (i := 145) rfl)) rfl
theorem za_42 : (Cond.methodLink "LayerDeskLaw" 62 xy_De_count) ∈ wT := wT_t (List.mem_append_left _ (List.mem_of_getElem? (i := 142) rfl)) rfl
theorem za_43 : (Cond.instanceMethod xy_De_count) ∈ wT := wT_t (List.mem_append_left _ (List.mem_of_getElem? (i := 143) rfl)) rfl
theorem za_44 : (Cond.selects "LayerDesk" xy_De_count xy_De_count) ∈ wT := wT_t (List.mem_append_left _ (List.mem_of_getElem? (i := 144) rfl)) rfl
theorem za_45 : (Cond.code xy_Mo_count xb_Mo_count 4 (some .int)) ∈ wT := wT_t (List.mem_append_right _ (List.mem_append_right _ (List.mem_append_right _ (List.mem_append_right _ (List.mem_of_getElem? (i := 68) rfl))))) rfl
theorem za_46 : (Cond.methodLink "LayerDeskLaw" 66 xy_Mo_count) ∈ wT := wT_t (List.mem_append_right _ (List.mem_append_right _ (List.mem_append_right _ (List.mem_append_right _ (List.mem_of_getElem? (i := 65) rfl))))) rfl
theorem za_47 : (Cond.instanceMethod xy_Mo_count) ∈ wT := wT_t (List.mem_append_right _ (List.mem_append_right _ (List.mem_append_right _ (List.mem_append_right _ (List.mem_of_getElem? (i := 66) rfl))))) rfl
theorem za_48 : (Cond.selects "LayerDeskModel" xy_Mo_count xy_Mo_count) ∈ wT := wT_t (List.mem_append_right _ (List.mem_append_right _ (List.mem_append_right _ (List.mem_append_right _ (List.mem_of_getElem? (i := 67) rfl))))) rfl
theorem za_49 : (Cond.code xy_De_modules xb_De_modules 3 (some .int)) ∈ wT := wT_t (List.mem_append_left _ (List.mem_of_getElem? (i := 153) rfl)) rfl
theorem za_50 : (Cond.methodLink "LayerDeskLaw" 67 xy_De_modules) ∈ wT := wT_t (List.mem_append_left _ (List.mem_of_getElem? (i := 150) rfl)) rfl
theorem za_51 : (Cond.instanceMethod xy_De_modules) ∈ wT := wT_t (List.mem_append_left _ (List.mem_of_getElem? (i := 151) rfl)) rfl
theorem za_52 : (Cond.selects "LayerDesk" xy_De_modules xy_De_modules) ∈ wT := wT_t (List.mem_append_left _ (List.mem_of_getElem? (i := 152) rfl)) rfl
theorem za_53 : (Cond.code xy_Mo_modules xb_Mo_modules 2 (some .int)) ∈ wT := wT_t (List.mem_append_right _ (List.mem_append_right _ (List.mem_append_right _ (List.mem_append_right _ (List.mem_of_getElem? (i := 72) rfl))))) rfl
theorem za_54 : (Cond.methodLink "LayerDeskLaw" 70 xy_Mo_modules) ∈ wT := wT_t (List.mem_append_right _ (List.mem_append_right _ (List.mem_append_right _ (List.mem_append_right _ (List.mem_of_getElem? (i := 69) rfl))))) rfl
theorem za_55 : (Cond.instanceMethod xy_Mo_modules) ∈ wT := wT_t (List.mem_append_right _ (List.mem_append_right _ (List.mem_append_right _ (List.mem_append_right _ (List.mem_of_getElem? (i := 70) rfl))))) rfl
theorem za_56 : (Cond.selects "LayerDeskModel" xy_Mo_modules xy_Mo_modules) ∈ wT := wT_t (List.mem_append_right _ (List.mem_append_right _ (List.mem_append_right _ (List.mem_append_right _ (List.mem_of_getElem? (i := 71) rfl))))) rfl
theorem za_57 : (Cond.code xy_De_module xb_De_module 4 (some .int)) ∈ wT := wT_t (List.mem_append_left _ (List.mem_of_getElem? (i := 157) rfl)) rfl
theorem za_58 : (Cond.methodLink "LayerDeskLaw" 71 xy_De_module) ∈ wT := wT_t (List.mem_append_left _ (List.mem_of_getElem? (i := 154) rfl)) rfl
theorem za_59 : (Cond.instanceMethod xy_De_module) ∈ wT := wT_t (List.mem_append_left _ (List.mem_of_getElem? (i := 155) rfl)) rfl
theorem za_60 : (Cond.selects "LayerDesk" xy_De_module xy_De_module) ∈ wT := wT_t (List.mem_append_left _ (List.mem_of_getElem? (i := 156) rfl)) rfl
theorem za_61 : (Cond.code xy_Mo_module xb_Mo_module 3 (some .int)) ∈ wT := wT_t (List.mem_append_right _ (List.mem_append_right _ (List.mem_append_right _ (List.mem_append_right _ (List.mem_of_getElem? (i := 76) rfl))))) rfl
theorem za_62 : (Cond.methodLink "LayerDeskLaw" 74 xy_Mo_module) ∈ wT := wT_t (List.mem_append_right _ (List.mem_append_right _ (List.mem_append_right _ (List.mem_append_right _ (List.mem_of_getElem? (i := 73) rfl))))) rfl
theorem za_63 : (Cond.instanceMethod xy_Mo_module) ∈ wT := wT_t (List.mem_append_right _ (List.mem_append_right _ (List.mem_append_right _ (List.mem_append_right _ (List.mem_of_getElem? (i := 74) rfl))))) rfl
theorem za_64 : (Cond.selects "LayerDeskModel" xy_Mo_module xy_Mo_module) ∈ wT := wT_t (List.mem_append_right _ (List.mem_append_right _ (List.mem_append_right _ (List.mem_append_right _ (List.mem_of_getElem? (i := 75) rfl))))) rfl
theorem za_65 : (Cond.code xy_De_reads xb_De_reads 7 (some .boolean)) ∈ wT := wT_t (List.mem_append_left _ (List.mem_of_getElem? (i := 165) rfl)) rfl
theorem za_66 : (Cond.methodLink "LayerDeskLaw" 75 xy_De_reads) ∈ wT := wT_t (List.mem_append_left _ (List.mem_of_getElem? (i := 162) rfl)) rfl
theorem za_67 : (Cond.instanceMethod xy_De_reads) ∈ wT := wT_t (List.mem_append_left _ (List.mem_of_getElem? (i := 163) rfl)) rfl
theorem za_68 : (Cond.selects "LayerDesk" xy_De_reads xy_De_reads) ∈ wT := wT_t (List.mem_append_left _ (List.mem_of_getElem? (i := 164) rfl)) rfl
theorem za_69 : (Cond.code xy_Mo_reads xb_Mo_reads 6 (some .boolean)) ∈ wT := wT_t (List.mem_append_right _ (List.mem_append_right _ (List.mem_append_right _ (List.mem_append_right _ (List.mem_of_getElem? (i := 84) rfl))))) rfl
theorem za_70 : (Cond.methodLink "LayerDeskLaw" 78 xy_Mo_reads) ∈ wT := wT_t (List.mem_append_right _ (List.mem_append_right _ (List.mem_append_right _ (List.mem_append_right _ (List.mem_of_getElem? (i := 81) rfl))))) rfl
theorem za_71 : (Cond.instanceMethod xy_Mo_reads) ∈ wT := wT_t (List.mem_append_right _ (List.mem_append_right _ (List.mem_append_right _ (List.mem_append_right _ (List.mem_of_getElem? (i := 82) rfl))))) rfl
theorem za_72 : (Cond.selects "LayerDeskModel" xy_Mo_reads xy_Mo_reads) ∈ wT := wT_t (List.mem_append_right _ (List.mem_append_right _ (List.mem_append_right _ (List.mem_append_right _ (List.mem_of_getElem? (i := 83) rfl))))) rfl
theorem za_73 : (Cond.codeWith xy_La_load xb_La_load 5 (some .int) [(0, 10, 13, 13), (0, 10, 17, 21)]) ∈ wT := wT_t (List.mem_append_right _ (List.mem_append_right _ (List.mem_append_right _ (List.mem_append_left _ (List.mem_of_getElem? (i := 34) rfl))))) rfl
theorem za_74 : (Cond.methodLink "LayerDeskLaw" 79 xy_La_load) ∈ wT := wT_t (List.mem_append_right _ (List.mem_append_right _ (List.mem_append_right _ (List.mem_append_left _ (List.mem_of_getElem? (i := 32) rfl))))) rfl
theorem za_75 : (Cond.static xy_La_load) ∈ wT := wT_t (List.mem_append_right _ (List.mem_append_right _ (List.mem_append_right _ (List.mem_append_left _ (List.mem_of_getElem? (i := 33) rfl))))) rfl
theorem za_76 : (Cond.code xy_Mo_load xb_Mo_load 7 (some .int)) ∈ wT := wT_t (List.mem_append_right _ (List.mem_append_right _ (List.mem_append_right _ (List.mem_append_right _ (List.mem_of_getElem? (i := 92) rfl))))) rfl
theorem za_77 : (Cond.methodLink "LayerDeskLaw" 82 xy_Mo_load) ∈ wT := wT_t (List.mem_append_right _ (List.mem_append_right _ (List.mem_append_right _ (List.mem_append_right _ (List.mem_of_getElem? (i := 89) rfl))))) rfl
theorem za_78 : (Cond.instanceMethod xy_Mo_load) ∈ wT := wT_t (List.mem_append_right _ (List.mem_append_right _ (List.mem_append_right _ (List.mem_append_right _ (List.mem_of_getElem? (i := 90) rfl))))) rfl
theorem za_79 : (Cond.selects "LayerDeskModel" xy_Mo_load xy_Mo_load) ∈ wT := wT_t (List.mem_append_right _ (List.mem_append_right _ (List.mem_append_right _ (List.mem_append_right _ (List.mem_of_getElem? (i := 91) rfl))))) rfl
theorem za_80 : (Cond.codeWith xy_La_peek xb_La_peek 7 (some .int) [(0, 21, 24, 13), (0, 21, 28, 21)]) ∈ wT := wT_t (List.mem_append_right _ (List.mem_append_right _ (List.mem_append_right _ (List.mem_append_left _ (List.mem_of_getElem? (i := 55) rfl))))) rfl
theorem za_81 : (Cond.methodLink "LayerDeskLaw" 83 xy_La_peek) ∈ wT := wT_t (List.mem_append_right _ (List.mem_append_right _ (List.mem_append_right _ (List.mem_append_left _ (List.mem_of_getElem? (i := 53) rfl))))) rfl
theorem za_82 : (Cond.static xy_La_peek) ∈ wT := wT_t (List.mem_append_right _ (List.mem_append_right _ (List.mem_append_right _ (List.mem_append_left _ (List.mem_of_getElem? (i := 54) rfl))))) rfl
theorem za_83 : (Cond.code xy_Mo_peek xb_Mo_peek 8 (some .boolean)) ∈ wT := wT_t (List.mem_append_right _ (List.mem_append_right _ (List.mem_append_right _ (List.mem_append_right _ (List.mem_of_getElem? (i := 100) rfl))))) rfl
theorem za_84 : (Cond.methodLink "LayerDeskLaw" 86 xy_Mo_peek) ∈ wT := wT_t (List.mem_append_right _ (List.mem_append_right _ (List.mem_append_right _ (List.mem_append_right _ (List.mem_of_getElem? (i := 97) rfl))))) rfl
theorem za_85 : (Cond.instanceMethod xy_Mo_peek) ∈ wT := wT_t (List.mem_append_right _ (List.mem_append_right _ (List.mem_append_right _ (List.mem_append_right _ (List.mem_of_getElem? (i := 98) rfl))))) rfl
theorem za_86 : (Cond.selects "LayerDeskModel" xy_Mo_peek xy_Mo_peek) ∈ wT := wT_t (List.mem_append_right _ (List.mem_append_right _ (List.mem_append_right _ (List.mem_append_right _ (List.mem_of_getElem? (i := 99) rfl))))) rfl
theorem za_87 : (Cond.codeWith xy_La_provider xb_La_provider 5 (some .int) [(0, 10, 13, 13)]) ∈ wT := wT_t (List.mem_append_right _ (List.mem_append_right _ (List.mem_append_right _ (List.mem_append_left _ (List.mem_of_getElem? (i := 67) rfl))))) rfl
theorem za_88 : (Cond.methodLink "LayerDeskLaw" 87 xy_La_provider) ∈ wT := wT_t (List.mem_append_right _ (List.mem_append_right _ (List.mem_append_right _ (List.mem_append_left _ (List.mem_of_getElem? (i := 65) rfl))))) rfl
theorem za_89 : (Cond.static xy_La_provider) ∈ wT := wT_t (List.mem_append_right _ (List.mem_append_right _ (List.mem_append_right _ (List.mem_append_left _ (List.mem_of_getElem? (i := 66) rfl))))) rfl
theorem za_90 : (Cond.code xy_Mo_provider xb_Mo_provider 9 (some .int)) ∈ wT := wT_t (List.mem_append_right _ (List.mem_append_right _ (List.mem_append_right _ (List.mem_append_right _ (List.mem_of_getElem? (i := 104) rfl))))) rfl
theorem za_91 : (Cond.methodLink "LayerDeskLaw" 89 xy_Mo_provider) ∈ wT := wT_t (List.mem_append_right _ (List.mem_append_right _ (List.mem_append_right _ (List.mem_append_right _ (List.mem_of_getElem? (i := 101) rfl))))) rfl
theorem za_92 : (Cond.instanceMethod xy_Mo_provider) ∈ wT := wT_t (List.mem_append_right _ (List.mem_append_right _ (List.mem_append_right _ (List.mem_append_right _ (List.mem_of_getElem? (i := 102) rfl))))) rfl
theorem za_93 : (Cond.selects "LayerDeskModel" xy_Mo_provider xy_Mo_provider) ∈ wT := wT_t (List.mem_append_right _ (List.mem_append_right _ (List.mem_append_right _ (List.mem_append_right _ (List.mem_of_getElem? (i := 103) rfl))))) rfl
set_option maxHeartbeats 16000000 in
set_option maxRecDepth 100000 in
theorem x_loop {p : Program} {e : Env} {s : State} {m : MethodId} {below : List Frame} {meth : Method} {c : Code} (l : Launch) (hlt : l.stackTraces = false) {b0 L : Nat} {xs : Nat → Int32} (hL : L ≤ 2560) (hx : p.tables.exec = Jvm.exec) (hb : c.code = code) (hr : meth.sig.returnType = ret) (hml : c.maxLocals = 7) (hown : s.vm.findClass R_law = some m.cls) (hT : ∀ w ∈ wT, w.before #[Value.ref b0] s = true) (hX : va_X b0 L xs s s.heap) (hbl : b0 < s.heap.size) (hlocks : meth.locks = false) {D : va_G} {kA : Nat → ClassId} (hK : xK D kA s) {Z : zT} {A : Nat → Prop} (hZ : xZ Z A s s.heap) (hAe : A = fun z => s.heap.size ≤ z) (hA : ∀ z : Nat, s.heap.size ≤ z → A z) (hbA : ¬ A b0) {hm ob : Nat} {mm : Nat → Nat} {ad : Nat → Nat → Nat} {E : Nat → Nat → va_E} {RL : List (Nat × Nat)} {v : Nat → Int32} {g : Nat → Nat → Int32} {fo : Nat → Int64} {ls : Array Slot} {H : Heap} {locs : List Loc} (hl : lv_has ls 7 [(4, .int 0), (3, .ref ob), (2, .ref hm), (1, .ref (ad 0 0)), (0, .ref b0)]) (hP : va_P D xcl ((moW hm mm kA v g ++ [(ob, .inl (kA 3, 1, .inr (.inl fo)))]) ++ rp ad E RL) H) (hD : va_D A ((moW hm mm kA v g ++ [(ob, .inl (kA 3, 1, .inr (.inl fo)))]) ++ rp ad E RL)) (hS : va_S A s.heap H locs) (hCI : CI kA ad E RL 0 0 0 0 0) (hMI : MI v g) (hv2 : v 2 = nI 0) : W p l e room_1 s m #[Value.ref b0] below meth c H locs (40 + 110 * 0) (2000 + 600 * 0) (lw_Z below #[Value.ref b0] s) (F0 m 23 ls []) := by
  refine xlabC (σ := Nat × Nat × (Nat → Nat → Nat) × (Nat → Nat → va_E) × (List (Nat × Nat)) × (Nat → Int32) × (Nat → Nat → Int32) × (Nat → Int64) × Nat × Nat × Nat × Nat × Nat) (ml := 7) 23 (fun (i, k, ad, E, RL, v, g, fo, ml, nd, len, wn, cs) => [(4, .int (nI i)), (3, .ref ob), (2, .ref hm), (1, .ref (ad 0 0)), (0, .ref b0)]) (fun (i, k, ad, E, RL, v, g, fo, ml, nd, len, wn, cs) => []) (fun (i, k, ad, E, RL, v, g, fo, ml, nd, len, wn, cs) => (moW hm mm kA v g ++ [(ob, .inl (kA 3, 1, .inr (.inl fo)))]) ++ rp ad E RL) (fun (i, k, ad, E, RL, v, g, fo, ml, nd, len, wn, cs) => 40 + 110 * k) (fun (i, k, ad, E, RL, v, g, fo, ml, nd, len, wn, cs) => 2000 + 600 * k) (fun (i, k, ad, E, RL, v, g, fo, ml, nd, len, wn, cs) => (i = 5 * k) ∧ (i ≤ L ∨ i = 0) ∧ (CI kA ad E RL ml nd len wn cs) ∧ (MI v g) ∧ (v 2 = nI len)) (fun (i, k, ad, E, RL, v, g, fo, ml, nd, len, wn, cs) => 600 - k) ?_ (0, 0, ad, E, RL, v, g, fo, 0, 0, 0, 0, 0) _ _ _ (lv_sub hl [0, 1, 2, 3, 4] rfl) hP hD hS ⟨(show 0 = 5 * 0 from by first | assumption | omega), (show 0 ≤ L ∨ 0 = 0 from by first | assumption | omega), (show CI kA ad E RL 0 0 0 0 0 from hCI), (show MI v g from hMI), (show v 2 = nI 0 from hv2)⟩
  intro n9 ih1 a9 ls H locs hμ hl hP hD hS hI
  subst hμ
  obtain ⟨i, k, ad, E, RL, v, g, fo, ml, nd, len, wn, cs⟩ := a9
  obtain ⟨hik, hiL, hCI, hMI, hv2⟩ := hI
  have hik : i = 5 * k := hik
  have hiL : i ≤ L ∨ i = 0 := hiL
  have hCI : CI kA ad E RL ml nd len wn cs := hCI
  have hMI : MI v g := hMI
  have hv2 : v 2 = nI len := hv2
  have hl : lv_has ls 7 [(4, .int (nI i)), (3, .ref ob), (2, .ref hm), (1, .ref (ad 0 0)), (0, .ref b0)] := hl
  have hP : va_P D xcl ((moW hm mm kA v g ++ [(ob, .inl (kA 3, 1, .inr (.inl fo)))]) ++ rp ad E RL) H := hP
  have hD : va_D A ((moW hm mm kA v g ++ [(ob, .inl (kA 3, 1, .inr (.inl fo)))]) ++ rp ad E RL) := hD
  have hl40 : len ≤ 40 := by obtain ⟨_, _, _, h, _⟩ := hCI.2.2.1; exact h
  refine lv_iload hx hb xd_La_law_23 (lv_at hl 0 rfl) ?_
  refine lv_aload_n hx hb xd_La_law_25 rfl (lv_at hl 4 rfl) ?_
  refine va_slen hx hb hX hbl hbA hS xd_La_law_26 ?_
  refine W.eq (g2 := F0 m 27 ls [.int (nI L), .int (nI i)]) rfl ?_
  refine lv_iconst (v := 5) hx hb xd_La_law_27 (by decide) ?_
  refine lv_isub hx hb xd_La_law_28 ?_
  refine lv_icmp_gt (tgt := 547) hx hb xd_La_law_29 (by decide) (fun hc2 => ?_) (fun hc2 => ?_)
  · refine lv_iconst (v := 1) hx hb xd_La_law_547 (by decide) ?_
    refine va_forget (fun z hz => by have h := hS.2.2 z hz; rw [hAe] at h; exact h) ?_
    refine W.widen (k := 601024) (n := 7293034) (show 40 + 110 * k ≤ 601024 by omega) (show 2000 + 600 * k ≤ 7293034 by omega) ?_
    exact lw_ret hx hb hr hlocks xd_La_law_548
  · have hi5 : i + 5 ≤ L := x_gt hL (by omega) hc2
    refine lv_aload_n hx hb xd_La_law_32 rfl (lv_at hl 4 rfl) ?_
    refine lv_iload hx hb xd_La_law_33 (lv_at hl 0 rfl) ?_
    refine va_sld (i := nI i) hx hb hX hbl hbA hS (vp_in_nI (by omega) (by omega)) xd_La_law_35 ?_
    refine lv_bipush (v := 15) hx hb xd_La_law_36 (by decide) ?_
    refine lv_iand hx hb xd_La_law_38 ?_
    by_cases hw3 : ((xs (nI i).toNatClampNeg) &&& 15) = 0
    · refine lv_tableIn (off := 61) (tgt := 100) hx hb xd_La_law_39 (by rw [hw3]; decide) (by rw [hw3]; decide) (by rw [hw3]; rfl) (by decide) ?_
      refine lv_aload_n hx hb xd_La_law_100 rfl (lv_at hl 3 rfl) ?_
      refine lv_aload_n hx hb xd_La_law_101 rfl (lv_at hl 4 rfl) ?_
      refine lv_iload hx hb xd_La_law_102 (lv_at hl 0 rfl) ?_
      refine lv_iconst (v := 1) hx hb xd_La_law_104 (by decide) ?_
      refine lv_iadd hx hb xd_La_law_105 ?_
      refine xn_top (y := nI (i + 1)) (nI_add i 1) ?_
      refine va_sld (i := nI (i + 1)) hx hb hX hbl hbA hS (vp_in_nI (by omega) (by omega)) xd_La_law_106 ?_
      refine lv_i2c (v := (((xs (nI (i + 1)).toNatClampNeg)).toUInt32 % 65536).toInt32) hx hb xd_La_law_107 rfl ?_
      have hPc := xp_P (X := (moW hm mm kA v g ++ [(ob, .inl (kA 3, 1, .inr (.inl fo)))])) hP
      have hDc := xp_D (X := (moW hm mm kA v g ++ [(ob, .inl (kA 3, 1, .inr (.inl fo)))])) hD
      have hFc := va_freeP (X := (moW hm mm kA v g ++ [(ob, .inl (kA 3, 1, .inr (.inl fo)))])) (cx := []) hD hS hA [] rfl
      obtain ⟨lf, hc0⟩ := hCI.2.1
      refine va_calli (va_runV (As := [.int ((((xs (nI (i + 1)).toNatClampNeg)).toUInt32 % 65536).toInt32)]) (rest := []) ⟨hx, hb, hml, hown, hT⟩ (xc_De_write l D kA H.size ad E RL ml nd len wn cs ((((xs (nI (i + 1)).toNatClampNeg)).toUInt32 % 65536).toInt32) hCI) (cwV 1 hT (wT_V za_1 za_2 za_3 za_4 za_0) rfl rfl rfl (by decide +kernel) ⟨Nat.le_of_ble_eq_true rfl, Nat.le_of_ble_eq_true rfl⟩) (px_preV hK hPc hDc (hCI.1 0 (by omega)) hc0 rfl) rfl rfl hl.1 rfl (lv_room (Nat.le_of_ble_eq_true rfl)) xd_La_law_108 ⟨(show 40 + 110 * k + 0 ≤ 601024 by omega), (show 2000 + 600 * k + 0 ≤ 7293034 by omega)⟩) hS (fun q _ h => hFc q h) hFc (fun r4 u t H1 locs ht hvm hpost hB hz1 hk1 hS => ?_)
      obtain ⟨hP1, hD1⟩ := hB
      rw [ht] at hP1
      obtain ⟨hP, hD⟩ := va_joinP (X := (moW hm mm kA v g ++ [(ob, .inl (kA 3, 1, .inr (.inl fo)))])) (cx := []) (wr := (moW hm mm kA v g ++ [(ob, .inl (kA 3, 1, .inr (.inl fo)))])) (rx := []) hP hD [] [0, 1, 2, 3, 4, 5, 6, 7, 8, 9, 10, 11, 12, 13, 14, 15, 16, 17, 18, 19, 20, 21, 22, 23, 24, 25, 26] rfl rfl (by decide) (by decide) hk1 hFc hP1 hD1
      generalize H1 = H at hP hS ⊢
      obtain ⟨E5, rfl⟩ : ∃ z, z = u := ⟨_, rfl⟩
      have hP : va_P D xcl ((moW hm mm kA v g ++ [(ob, .inl (kA 3, 1, .inr (.inl fo)))]) ++ rp ad E5 RL) H := hP
      have hD : va_D A ((moW hm mm kA v g ++ [(ob, .inl (kA 3, 1, .inr (.inl fo)))]) ++ rp ad E5 RL) := hD
      obtain ⟨len6, hCI, hap⟩ := hpost
      refine lv_aload_n hx hb xd_La_law_111 rfl (lv_at hl 2 rfl) ?_
      refine lv_aload_n hx hb xd_La_law_112 rfl (lv_at hl 4 rfl) ?_
      refine lv_iload hx hb xd_La_law_113 (lv_at hl 0 rfl) ?_
      refine lv_iconst (v := 1) hx hb xd_La_law_115 (by decide) ?_
      refine lv_iadd hx hb xd_La_law_116 ?_
      refine xn_top (y := nI (i + 1)) (nI_add i 1) ?_
      refine va_sld (i := nI (i + 1)) hx hb hX hbl hbA hS (vp_in_nI (by omega) (by omega)) xd_La_law_117 ?_
      refine lv_i2c (v := (((xs (nI (i + 1)).toNatClampNeg)).toUInt32 % 65536).toInt32) hx hb xd_La_law_118 rfl ?_
      have hPc := xp_PL (xp_PL hP)
      have hDc := xp_DL (xp_DL hD)
      have hFc := va_free (wc := moW hm mm kA v g) hD hS hA [0, 1, 2, 3, 4, 5, 6, 7, 8, 9, 10, 11, 12, 13, 14, 15, 16, 17, 18, 19, 20, 21, 22, 23, 24, 25] rfl
      refine va_calli (va_runV (As := [.int ((((xs (nI (i + 1)).toNatClampNeg)).toUInt32 % 65536).toInt32)]) (rest := [.int r4]) ⟨hx, hb, hml, hown, hT⟩ (xc_Mo_write l D kA H.size hm mm v g ((((xs (nI (i + 1)).toNatClampNeg)).toUInt32 % 65536).toInt32) len hMI hv2 hl40) (cwV 1 hT (wT_V za_6 za_7 za_8 za_9 za_5) rfl rfl rfl (by decide +kernel) ⟨Nat.le_of_ble_eq_true rfl, Nat.le_of_ble_eq_true rfl⟩) (x_preV hK hPc hDc 0 rfl rfl) rfl rfl hl.1 rfl (lv_room (Nat.le_of_ble_eq_true rfl)) xd_La_law_119 ⟨(show 40 + 110 * k + 0 ≤ 601024 by omega), (show 2000 + 600 * k + 0 ≤ 7293034 by omega)⟩) hS (fun q _ h => hFc q h) hFc (fun r7 u t H1 locs ht hvm hpost hB hz1 hk1 hS => ?_)
      obtain ⟨v8, g9⟩ := u
      obtain ⟨hP1, hD1⟩ := hB
      rw [ht] at hP1
      obtain ⟨hP, hD⟩ := va_joinQ (X := (moW hm mm kA v g ++ [(ob, .inl (kA 3, 1, .inr (.inl fo)))])) (cx := moW hm mm kA v g) (wr := [(ob, .inl (kA 3, 1, .inr (.inl fo)))]) (w1 := moW hm mm kA v8 g9) hP hD [0, 1, 2, 3, 4, 5, 6, 7, 8, 9, 10, 11, 12, 13, 14, 15, 16, 17, 18, 19, 20, 21, 22, 23, 24, 25] [26] rfl rfl (by decide) (by decide) hk1 hFc hP1 hD1
      have hP := xp_swP hP
      have hD := xp_swD hD
      generalize H1 = H at hP hS ⊢
      have hP : va_P D xcl ((moW hm mm kA v8 g9 ++ [(ob, .inl (kA 3, 1, .inr (.inl fo)))]) ++ rp ad E5 RL) H := hP
      have hD : va_D A ((moW hm mm kA v8 g9 ++ [(ob, .inl (kA 3, 1, .inr (.inl fo)))]) ++ rp ad E5 RL) := hD
      obtain ⟨hMI, hw9⟩ := hpost
      have hweq : r4 = r7 ∧ v8 2 = nI len6 := by
        rcases hap with ⟨e1, e2, e3⟩ | ⟨e1, e2, e3, e4, e5⟩ <;> rcases hw9 with ⟨f1, f2, f3⟩ | ⟨f1, f2, f3, f4, f5⟩
        · exact ⟨by rw [e1, f2], f1.trans (by rw [e2])⟩
        · exfalso; rcases e3 with e3 | e3 | e3; exact f4 e3; exact f5 e3; omega
        · exfalso; rcases f3 with f3 | f3 | f3; exact e4 f3; exact e5 f3; omega
        · exact ⟨by rw [e1, f2], f1.trans (by rw [e2])⟩
      have hv2 := hweq.2
      refine lv_icmp_eq (tgt := 541) hx hb xd_La_law_122 (by decide) (fun _ => ?_) (fun hc10 => absurd hweq.1 hc10)
      refine W.widen (k := 40 + 110 * (k + 1)) (n := 2000 + 600 * (k + 1)) (show 40 + 110 * k ≤ 40 + 110 * (k + 1) by omega) (show 2000 + 600 * k ≤ 2000 + 600 * (k + 1) by omega) ?_
      refine lv_iinc (k := 0) (x := (nI i)) (v := (nI (i + 5))) hx hb xd_La_law_541 hl rfl (xb_inc i 5) (Nat.le_of_ble_eq_true rfl) rfl (fun ls hl => ?_)
      have hl : lv_has ls 7 [(4, .int (nI (i + 5))), (3, .ref ob), (2, .ref hm), (1, .ref (ad 0 0)), (0, .ref b0)] := hl
      refine lv_goto (tgt := 23) hx hb xd_La_law_544 (by decide) ?_
      exact ih1 (i + 5, k + 1, ad, E5, RL, v8, g9, fo, ml, nd, len6, wn, cs) _ _ _ (show 600 - (k + 1) < 600 - k by omega) (lv_sub hl [0, 1, 2, 3, 4] rfl) hP hD hS ⟨(show (i + 5) = 5 * (k + 1) from by first | assumption | omega), (show (i + 5) ≤ L ∨ (i + 5) = 0 from by first | assumption | omega), (show CI kA ad E5 RL ml nd len6 wn cs from hCI), (show MI v8 g9 from hMI), (show v8 2 = nI len6 from hv2)⟩
    by_cases hw11 : ((xs (nI i).toNatClampNeg) &&& 15) = 1
    · refine lv_tableIn (off := 88) (tgt := 127) hx hb xd_La_law_39 (by rw [hw11]; decide) (by rw [hw11]; decide) (by rw [hw11]; rfl) (by decide) ?_
      refine lv_aload_n hx hb xd_La_law_127 rfl (lv_at hl 3 rfl) ?_
      refine lv_aload_n hx hb xd_La_law_128 rfl (lv_at hl 1 rfl) ?_
      have hPc : va_P D xcl ((ob, .inl (kA 3, 1, .inr (.inl fo))) :: rp ad E RL) H := xp_P (X := moW hm mm kA v g) (Y := [(ob, .inl (kA 3, 1, .inr (.inl fo)))] ++ rp ad E RL) (by rw [← List.append_assoc]; exact hP)
      have hDc : va_D A ((ob, .inl (kA 3, 1, .inr (.inl fo))) :: rp ad E RL) := xp_D (X := moW hm mm kA v g) (Y := [(ob, .inl (kA 3, 1, .inr (.inl fo)))] ++ rp ad E RL) (by rw [← List.append_assoc]; exact hD)
      have hFc := va_freeP (X := (moW hm mm kA v g ++ [(ob, .inl (kA 3, 1, .inr (.inl fo)))])) (cx := [(ob, .inl (kA 3, 1, .inr (.inl fo)))]) hD hS hA [26] rfl
      refine va_calli (vx_runSW (As := [.ref (ad 0 0), .ref ob]) (rest := []) ⟨hx, hb, hml, hown, hT⟩ (xc_La_line l hlt D kA H.size ad E RL Z ml nd len wn cs ob fo hCI) (vx_cwSW 2 hT (wT_S za_11 za_12 za_13 za_10) rfl rfl rfl (by decide +kernel) ⟨Nat.le_of_ble_eq_true rfl, Nat.le_of_ble_eq_true rfl⟩) (x_preSZ hK hPc hDc hFc (hZ.kept hS)) rfl rfl hl.1 rfl (lv_room (Nat.le_of_ble_eq_true rfl)) xd_La_law_129 ⟨(show 40 + 110 * k + 14 ≤ 601024 by omega), (show 2000 + 600 * k + 72 ≤ 7293034 by omega)⟩) hS (fun q _ h => hFc q h) hFc (fun r12 u t H1 locs ht hvm hpost hB hz1 hk1 hS => ?_)
      obtain ⟨⟨ad13, E14, RL15⟩, fo16⟩ := u
      obtain ⟨hP1, hD1⟩ := hB
      rw [ht] at hP1
      obtain ⟨hP, hD⟩ := va_joinP (X := (moW hm mm kA v g ++ [(ob, .inl (kA 3, 1, .inr (.inl fo)))])) (cx := [(ob, .inl (kA 3, 1, .inr (.inl fo)))]) (wr := moW hm mm kA v g) (rx := [(ob, .inl (kA 3, 1, .inr (.inl fo16)))]) (pl1 := rp ad13 E14 RL15) hP hD [26] [0, 1, 2, 3, 4, 5, 6, 7, 8, 9, 10, 11, 12, 13, 14, 15, 16, 17, 18, 19, 20, 21, 22, 23, 24, 25] rfl rfl (by decide) (by decide) hk1 hFc hP1 hD1
      generalize H1 = H at hP hS ⊢
      obtain ⟨⟨ml17, nd18, wn19, cs20, hCI⟩, haz⟩ := hpost
      have haz : ad13 0 0 = ad 0 0 := haz
      rw [← haz] at hl
      have hCI : CI kA ad13 E14 RL15 ml17 nd18 0 wn19 cs20 := hCI
      have hl : lv_has ls 7 [(4, .int (nI i)), (3, .ref ob), (2, .ref hm), (1, .ref (ad13 0 0)), (0, .ref b0)] := hl
      have hP : va_P D xcl ((moW hm mm kA v g ++ [(ob, .inl (kA 3, 1, .inr (.inl fo16)))]) ++ rp ad13 E14 RL15) H := hP
      have hD : va_D A ((moW hm mm kA v g ++ [(ob, .inl (kA 3, 1, .inr (.inl fo16)))]) ++ rp ad13 E14 RL15) := hD
      refine lv_istore hx hb xd_La_law_132 hl (Nat.le_of_ble_eq_true rfl) rfl (fun ls hl => ?_)
      have hl : lv_has ls 7 [(5, .int r12), (4, .int (nI i)), (3, .ref ob), (2, .ref hm), (1, .ref (ad13 0 0)), (0, .ref b0)] := hl
      refine lv_aload_n hx hb xd_La_law_134 rfl (lv_at hl 3 rfl) ?_
      have hPc := xp_PL (xp_PL hP)
      have hDc := xp_DL (xp_DL hD)
      have hFc := va_free (wc := moW hm mm kA v g) hD hS hA [0, 1, 2, 3, 4, 5, 6, 7, 8, 9, 10, 11, 12, 13, 14, 15, 16, 17, 18, 19, 20, 21, 22, 23, 24, 25] rfl
      refine va_calli (va_runV (As := []) (rest := []) ⟨hx, hb, hml, hown, hT⟩ (xc_Mo_line l D kA H.size hm mm v g len hMI hv2 hl40) (cwV 0 hT (wT_V za_15 za_16 za_17 za_9 za_14) rfl rfl rfl (by decide +kernel) ⟨Nat.le_of_ble_eq_true rfl, Nat.le_of_ble_eq_true rfl⟩) (x_preV hK hPc hDc 0 rfl rfl) rfl rfl hl.1 rfl (lv_room (Nat.le_of_ble_eq_true rfl)) xd_La_law_135 ⟨(show 40 + 110 * k + 14 + 0 ≤ 601024 by omega), (show 2000 + 600 * k + 72 + 0 ≤ 7293034 by omega)⟩) hS (fun q _ h => hFc q h) hFc (fun r21 u t H1 locs ht hvm hpost hB hz1 hk1 hS => ?_)
      obtain ⟨v22, g23⟩ := u
      obtain ⟨hP1, hD1⟩ := hB
      rw [ht] at hP1
      obtain ⟨hP, hD⟩ := va_joinQ (X := (moW hm mm kA v g ++ [(ob, .inl (kA 3, 1, .inr (.inl fo16)))])) (cx := moW hm mm kA v g) (wr := [(ob, .inl (kA 3, 1, .inr (.inl fo16)))]) (w1 := moW hm mm kA v22 g23) hP hD [0, 1, 2, 3, 4, 5, 6, 7, 8, 9, 10, 11, 12, 13, 14, 15, 16, 17, 18, 19, 20, 21, 22, 23, 24, 25] [26] rfl rfl (by decide) (by decide) hk1 hFc hP1 hD1
      have hP := xp_swP hP
      have hD := xp_swD hD
      generalize H1 = H at hP hS ⊢
      have hP : va_P D xcl ((moW hm mm kA v22 g23 ++ [(ob, .inl (kA 3, 1, .inr (.inl fo16)))]) ++ rp ad13 E14 RL15) H := hP
      have hD : va_D A ((moW hm mm kA v22 g23 ++ [(ob, .inl (kA 3, 1, .inr (.inl fo16)))]) ++ rp ad13 E14 RL15) := hD
      obtain ⟨hMI, hw9⟩ := hpost
      have hv2 : v22 2 = nI 0 := hw9
      refine lv_istore hx hb xd_La_law_138 hl (Nat.le_of_ble_eq_true rfl) rfl (fun ls hl => ?_)
      have hl : lv_has ls 7 [(6, .int r21), (5, .int r12), (4, .int (nI i)), (3, .ref ob), (2, .ref hm), (1, .ref (ad13 0 0)), (0, .ref b0)] := hl
      refine lv_goto (tgt := 541) hx hb xd_La_law_140 (by decide) ?_
      refine W.widen (k := 40 + 110 * (k + 1)) (n := 2000 + 600 * (k + 1)) (show 40 + 110 * k + 14 ≤ 40 + 110 * (k + 1) by omega) (show 2000 + 600 * k + 72 ≤ 2000 + 600 * (k + 1) by omega) ?_
      refine lv_iinc (k := 2) (x := (nI i)) (v := (nI (i + 5))) hx hb xd_La_law_541 hl rfl (xb_inc i 5) (Nat.le_of_ble_eq_true rfl) rfl (fun ls hl => ?_)
      have hl : lv_has ls 7 [(4, .int (nI (i + 5))), (6, .int r21), (5, .int r12), (3, .ref ob), (2, .ref hm), (1, .ref (ad13 0 0)), (0, .ref b0)] := hl
      refine lv_goto (tgt := 23) hx hb xd_La_law_544 (by decide) ?_
      exact ih1 (i + 5, k + 1, ad13, E14, RL15, v22, g23, fo16, ml17, nd18, 0, wn19, cs20) _ _ _ (show 600 - (k + 1) < 600 - k by omega) (lv_sub hl [0, 3, 4, 5, 6] rfl) hP hD hS ⟨(show (i + 5) = 5 * (k + 1) from by first | assumption | omega), (show (i + 5) ≤ L ∨ (i + 5) = 0 from by first | assumption | omega), (show CI kA ad13 E14 RL15 ml17 nd18 0 wn19 cs20 from hCI), (show MI v22 g23 from hMI), (show v22 2 = nI 0 from hv2)⟩
    by_cases hw24 : ((xs (nI i).toNatClampNeg) &&& 15) = 2
    · refine lv_tableIn (off := 104) (tgt := 143) hx hb xd_La_law_39 (by rw [hw24]; decide) (by rw [hw24]; decide) (by rw [hw24]; rfl) (by decide) ?_
      refine lv_aload_n hx hb xd_La_law_143 rfl (lv_at hl 3 rfl) ?_
      refine lv_aload_n hx hb xd_La_law_144 rfl (lv_at hl 4 rfl) ?_
      refine lv_iload hx hb xd_La_law_145 (lv_at hl 0 rfl) ?_
      refine lv_iconst (v := 1) hx hb xd_La_law_147 (by decide) ?_
      refine lv_iadd hx hb xd_La_law_148 ?_
      refine xn_top (y := nI (i + 1)) (nI_add i 1) ?_
      refine va_sld (i := nI (i + 1)) hx hb hX hbl hbA hS (vp_in_nI (by omega) (by omega)) xd_La_law_149 ?_
      refine lv_aload_n hx hb xd_La_law_150 rfl (lv_at hl 4 rfl) ?_
      refine lv_iload hx hb xd_La_law_151 (lv_at hl 0 rfl) ?_
      refine lv_iconst (v := 2) hx hb xd_La_law_153 (by decide) ?_
      refine lv_iadd hx hb xd_La_law_154 ?_
      refine xn_top (y := nI (i + 2)) (nI_add i 2) ?_
      refine va_sld (i := nI (i + 2)) hx hb hX hbl hbA hS (vp_in_nI (by omega) (by omega)) xd_La_law_155 ?_
      refine lv_aload_n hx hb xd_La_law_156 rfl (lv_at hl 4 rfl) ?_
      refine lv_iload hx hb xd_La_law_157 (lv_at hl 0 rfl) ?_
      refine lv_iconst (v := 3) hx hb xd_La_law_159 (by decide) ?_
      refine lv_iadd hx hb xd_La_law_160 ?_
      refine xn_top (y := nI (i + 3)) (nI_add i 3) ?_
      refine va_sld (i := nI (i + 3)) hx hb hX hbl hbA hS (vp_in_nI (by omega) (by omega)) xd_La_law_161 ?_
      refine lv_if_eq (tgt := 169) hx hb xd_La_law_162 (by decide) (fun hc25 => ?_) (fun hc25 => ?_)
      · refine lv_iconst (v := 0) hx hb xd_La_law_169 (by decide) ?_
        refine lv_aload_n hx hb xd_La_law_170 rfl (lv_at hl 1 rfl) ?_
        have hPc : va_P D xcl ((ob, .inl (kA 3, 1, .inr (.inl fo))) :: rp ad E RL) H := xp_P (X := moW hm mm kA v g) (Y := [(ob, .inl (kA 3, 1, .inr (.inl fo)))] ++ rp ad E RL) (by rw [← List.append_assoc]; exact hP)
        have hDc : va_D A ((ob, .inl (kA 3, 1, .inr (.inl fo))) :: rp ad E RL) := xp_D (X := moW hm mm kA v g) (Y := [(ob, .inl (kA 3, 1, .inr (.inl fo)))] ++ rp ad E RL) (by rw [← List.append_assoc]; exact hD)
        have hFc := va_freeP (X := (moW hm mm kA v g ++ [(ob, .inl (kA 3, 1, .inr (.inl fo)))])) (cx := [(ob, .inl (kA 3, 1, .inr (.inl fo)))]) hD hS hA [26] rfl
        refine va_calli (vx_runSW (As := [.ref (ad 0 0), .int (xs (nI (i + 1)).toNatClampNeg), .int (xs (nI (i + 2)).toNatClampNeg), .int 0, .ref ob]) (rest := []) ⟨hx, hb, hml, hown, hT⟩ (xc_La_layer l hlt D kA H.size ad E RL Z ml nd len wn cs ob fo (xs (nI (i + 1)).toNatClampNeg) (xs (nI (i + 2)).toNatClampNeg) 0 hCI) (vx_cwSW 5 hT (wT_S za_19 za_20 za_13 za_18) rfl rfl rfl (by decide +kernel) ⟨Nat.le_of_ble_eq_true rfl, Nat.le_of_ble_eq_true rfl⟩) (x_preSZ hK hPc hDc hFc (hZ.kept hS)) rfl rfl hl.1 rfl (lv_room (Nat.le_of_ble_eq_true rfl)) xd_La_law_171 ⟨(show 40 + 110 * k + 101 ≤ 601024 by omega), (show 2000 + 600 * k + 430 ≤ 7293034 by omega)⟩) hS (fun q _ h => hFc q h) hFc (fun r26 u t H1 locs ht hvm hpost hB hz1 hk1 hS => ?_)
        obtain ⟨⟨ad27, E28, RL29⟩, fo30⟩ := u
        obtain ⟨hP1, hD1⟩ := hB
        rw [ht] at hP1
        obtain ⟨hP, hD⟩ := va_joinP (X := (moW hm mm kA v g ++ [(ob, .inl (kA 3, 1, .inr (.inl fo)))])) (cx := [(ob, .inl (kA 3, 1, .inr (.inl fo)))]) (wr := moW hm mm kA v g) (rx := [(ob, .inl (kA 3, 1, .inr (.inl fo30)))]) (pl1 := rp ad27 E28 RL29) hP hD [26] [0, 1, 2, 3, 4, 5, 6, 7, 8, 9, 10, 11, 12, 13, 14, 15, 16, 17, 18, 19, 20, 21, 22, 23, 24, 25] rfl rfl (by decide) (by decide) hk1 hFc hP1 hD1
        generalize H1 = H at hP hS ⊢
        obtain ⟨⟨ml31, nd32, wn33, cs34, hCI⟩, haz⟩ := hpost
        have haz : ad27 0 0 = ad 0 0 := haz
        rw [← haz] at hl
        have hCI : CI kA ad27 E28 RL29 ml31 nd32 0 wn33 cs34 := hCI
        have hl : lv_has ls 7 [(4, .int (nI i)), (3, .ref ob), (2, .ref hm), (1, .ref (ad27 0 0)), (0, .ref b0)] := hl
        have hP : va_P D xcl ((moW hm mm kA v g ++ [(ob, .inl (kA 3, 1, .inr (.inl fo30)))]) ++ rp ad27 E28 RL29) H := hP
        have hD : va_D A ((moW hm mm kA v g ++ [(ob, .inl (kA 3, 1, .inr (.inl fo30)))]) ++ rp ad27 E28 RL29) := hD
        refine lv_istore hx hb xd_La_law_174 hl (Nat.le_of_ble_eq_true rfl) rfl (fun ls hl => ?_)
        have hl : lv_has ls 7 [(5, .int r26), (4, .int (nI i)), (3, .ref ob), (2, .ref hm), (1, .ref (ad27 0 0)), (0, .ref b0)] := hl
        refine lv_aload_n hx hb xd_La_law_176 rfl (lv_at hl 3 rfl) ?_
        refine lv_aload_n hx hb xd_La_law_177 rfl (lv_at hl 5 rfl) ?_
        refine lv_iload hx hb xd_La_law_178 (lv_at hl 1 rfl) ?_
        refine lv_iconst (v := 1) hx hb xd_La_law_180 (by decide) ?_
        refine lv_iadd hx hb xd_La_law_181 ?_
        refine xn_top (y := nI (i + 1)) (nI_add i 1) ?_
        refine va_sld (i := nI (i + 1)) hx hb hX hbl hbA hS (vp_in_nI (by omega) (by omega)) xd_La_law_182 ?_
        refine lv_aload_n hx hb xd_La_law_183 rfl (lv_at hl 5 rfl) ?_
        refine lv_iload hx hb xd_La_law_184 (lv_at hl 1 rfl) ?_
        refine lv_iconst (v := 2) hx hb xd_La_law_186 (by decide) ?_
        refine lv_iadd hx hb xd_La_law_187 ?_
        refine xn_top (y := nI (i + 2)) (nI_add i 2) ?_
        refine va_sld (i := nI (i + 2)) hx hb hX hbl hbA hS (vp_in_nI (by omega) (by omega)) xd_La_law_188 ?_
        refine lv_aload_n hx hb xd_La_law_189 rfl (lv_at hl 5 rfl) ?_
        refine lv_iload hx hb xd_La_law_190 (lv_at hl 1 rfl) ?_
        refine lv_iconst (v := 3) hx hb xd_La_law_192 (by decide) ?_
        refine lv_iadd hx hb xd_La_law_193 ?_
        refine xn_top (y := nI (i + 3)) (nI_add i 3) ?_
        refine va_sld (i := nI (i + 3)) hx hb hX hbl hbA hS (vp_in_nI (by omega) (by omega)) xd_La_law_194 ?_
        refine lv_if_eq (tgt := 202) hx hb xd_La_law_195 (by decide) (fun hc35 => ?_) (fun hc35 => ?_)
        · refine lv_iconst (v := 0) hx hb xd_La_law_202 (by decide) ?_
          have hPc := xp_PL (xp_PL hP)
          have hDc := xp_DL (xp_DL hD)
          have hFc := va_free (wc := moW hm mm kA v g) hD hS hA [0, 1, 2, 3, 4, 5, 6, 7, 8, 9, 10, 11, 12, 13, 14, 15, 16, 17, 18, 19, 20, 21, 22, 23, 24, 25] rfl
          refine va_calli (va_runV (As := [.int (xs (nI (i + 1)).toNatClampNeg), .int (xs (nI (i + 2)).toNatClampNeg), .int 0]) (rest := []) ⟨hx, hb, hml, hown, hT⟩ (xc_Mo_layer l D kA H.size hm mm v g (xs (nI (i + 1)).toNatClampNeg) (xs (nI (i + 2)).toNatClampNeg) 0 len hMI hv2 hl40) (cwV 3 hT (wT_V za_22 za_23 za_24 za_9 za_21) rfl rfl rfl (by decide +kernel) ⟨Nat.le_of_ble_eq_true rfl, Nat.le_of_ble_eq_true rfl⟩) (x_preV hK hPc hDc 0 rfl rfl) rfl rfl hl.1 rfl (lv_room (Nat.le_of_ble_eq_true rfl)) xd_La_law_203 ⟨(show 40 + 110 * k + 101 + 0 ≤ 601024 by omega), (show 2000 + 600 * k + 430 + 0 ≤ 7293034 by omega)⟩) hS (fun q _ h => hFc q h) hFc (fun r36 u t H1 locs ht hvm hpost hB hz1 hk1 hS => ?_)
          obtain ⟨v37, g38⟩ := u
          obtain ⟨hP1, hD1⟩ := hB
          rw [ht] at hP1
          obtain ⟨hP, hD⟩ := va_joinQ (X := (moW hm mm kA v g ++ [(ob, .inl (kA 3, 1, .inr (.inl fo30)))])) (cx := moW hm mm kA v g) (wr := [(ob, .inl (kA 3, 1, .inr (.inl fo30)))]) (w1 := moW hm mm kA v37 g38) hP hD [0, 1, 2, 3, 4, 5, 6, 7, 8, 9, 10, 11, 12, 13, 14, 15, 16, 17, 18, 19, 20, 21, 22, 23, 24, 25] [26] rfl rfl (by decide) (by decide) hk1 hFc hP1 hD1
          have hP := xp_swP hP
          have hD := xp_swD hD
          generalize H1 = H at hP hS ⊢
          have hP : va_P D xcl ((moW hm mm kA v37 g38 ++ [(ob, .inl (kA 3, 1, .inr (.inl fo30)))]) ++ rp ad27 E28 RL29) H := hP
          have hD : va_D A ((moW hm mm kA v37 g38 ++ [(ob, .inl (kA 3, 1, .inr (.inl fo30)))]) ++ rp ad27 E28 RL29) := hD
          obtain ⟨hMI, hw9⟩ := hpost
          have hv2 : v37 2 = nI 0 := hw9
          refine lv_istore hx hb xd_La_law_206 hl (Nat.le_of_ble_eq_true rfl) rfl (fun ls hl => ?_)
          have hl : lv_has ls 7 [(6, .int r36), (5, .int r26), (4, .int (nI i)), (3, .ref ob), (2, .ref hm), (1, .ref (ad27 0 0)), (0, .ref b0)] := hl
          refine lv_goto (tgt := 541) hx hb xd_La_law_208 (by decide) ?_
          refine W.widen (k := 40 + 110 * (k + 1)) (n := 2000 + 600 * (k + 1)) (show 40 + 110 * k + 101 ≤ 40 + 110 * (k + 1) by omega) (show 2000 + 600 * k + 430 ≤ 2000 + 600 * (k + 1) by omega) ?_
          refine lv_iinc (k := 2) (x := (nI i)) (v := (nI (i + 5))) hx hb xd_La_law_541 hl rfl (xb_inc i 5) (Nat.le_of_ble_eq_true rfl) rfl (fun ls hl => ?_)
          have hl : lv_has ls 7 [(4, .int (nI (i + 5))), (6, .int r36), (5, .int r26), (3, .ref ob), (2, .ref hm), (1, .ref (ad27 0 0)), (0, .ref b0)] := hl
          refine lv_goto (tgt := 23) hx hb xd_La_law_544 (by decide) ?_
          exact ih1 (i + 5, k + 1, ad27, E28, RL29, v37, g38, fo30, ml31, nd32, 0, wn33, cs34) _ _ _ (show 600 - (k + 1) < 600 - k by omega) (lv_sub hl [0, 3, 4, 5, 6] rfl) hP hD hS ⟨(show (i + 5) = 5 * (k + 1) from by first | assumption | omega), (show (i + 5) ≤ L ∨ (i + 5) = 0 from by first | assumption | omega), (show CI kA ad27 E28 RL29 ml31 nd32 0 wn33 cs34 from hCI), (show MI v37 g38 from hMI), (show v37 2 = nI 0 from hv2)⟩
        · refine lv_iconst (v := 1) hx hb xd_La_law_198 (by decide) ?_
          refine lv_goto (tgt := 203) hx hb xd_La_law_199 (by decide) ?_
          have hPc := xp_PL (xp_PL hP)
          have hDc := xp_DL (xp_DL hD)
          have hFc := va_free (wc := moW hm mm kA v g) hD hS hA [0, 1, 2, 3, 4, 5, 6, 7, 8, 9, 10, 11, 12, 13, 14, 15, 16, 17, 18, 19, 20, 21, 22, 23, 24, 25] rfl
          refine va_calli (va_runV (As := [.int (xs (nI (i + 1)).toNatClampNeg), .int (xs (nI (i + 2)).toNatClampNeg), .int 1]) (rest := []) ⟨hx, hb, hml, hown, hT⟩ (xc_Mo_layer l D kA H.size hm mm v g (xs (nI (i + 1)).toNatClampNeg) (xs (nI (i + 2)).toNatClampNeg) 1 len hMI hv2 hl40) (cwV 3 hT (wT_V za_22 za_23 za_24 za_9 za_21) rfl rfl rfl (by decide +kernel) ⟨Nat.le_of_ble_eq_true rfl, Nat.le_of_ble_eq_true rfl⟩) (x_preV hK hPc hDc 0 rfl rfl) rfl rfl hl.1 rfl (lv_room (Nat.le_of_ble_eq_true rfl)) xd_La_law_203 ⟨(show 40 + 110 * k + 101 + 0 ≤ 601024 by omega), (show 2000 + 600 * k + 430 + 0 ≤ 7293034 by omega)⟩) hS (fun q _ h => hFc q h) hFc (fun r39 u t H1 locs ht hvm hpost hB hz1 hk1 hS => ?_)
          obtain ⟨v40, g41⟩ := u
          obtain ⟨hP1, hD1⟩ := hB
          rw [ht] at hP1
          obtain ⟨hP, hD⟩ := va_joinQ (X := (moW hm mm kA v g ++ [(ob, .inl (kA 3, 1, .inr (.inl fo30)))])) (cx := moW hm mm kA v g) (wr := [(ob, .inl (kA 3, 1, .inr (.inl fo30)))]) (w1 := moW hm mm kA v40 g41) hP hD [0, 1, 2, 3, 4, 5, 6, 7, 8, 9, 10, 11, 12, 13, 14, 15, 16, 17, 18, 19, 20, 21, 22, 23, 24, 25] [26] rfl rfl (by decide) (by decide) hk1 hFc hP1 hD1
          have hP := xp_swP hP
          have hD := xp_swD hD
          generalize H1 = H at hP hS ⊢
          have hP : va_P D xcl ((moW hm mm kA v40 g41 ++ [(ob, .inl (kA 3, 1, .inr (.inl fo30)))]) ++ rp ad27 E28 RL29) H := hP
          have hD : va_D A ((moW hm mm kA v40 g41 ++ [(ob, .inl (kA 3, 1, .inr (.inl fo30)))]) ++ rp ad27 E28 RL29) := hD
          obtain ⟨hMI, hw9⟩ := hpost
          have hv2 : v40 2 = nI 0 := hw9
          refine lv_istore hx hb xd_La_law_206 hl (Nat.le_of_ble_eq_true rfl) rfl (fun ls hl => ?_)
          have hl : lv_has ls 7 [(6, .int r39), (5, .int r26), (4, .int (nI i)), (3, .ref ob), (2, .ref hm), (1, .ref (ad27 0 0)), (0, .ref b0)] := hl
          refine lv_goto (tgt := 541) hx hb xd_La_law_208 (by decide) ?_
          refine W.widen (k := 40 + 110 * (k + 1)) (n := 2000 + 600 * (k + 1)) (show 40 + 110 * k + 101 ≤ 40 + 110 * (k + 1) by omega) (show 2000 + 600 * k + 430 ≤ 2000 + 600 * (k + 1) by omega) ?_
          refine lv_iinc (k := 2) (x := (nI i)) (v := (nI (i + 5))) hx hb xd_La_law_541 hl rfl (xb_inc i 5) (Nat.le_of_ble_eq_true rfl) rfl (fun ls hl => ?_)
          have hl : lv_has ls 7 [(4, .int (nI (i + 5))), (6, .int r39), (5, .int r26), (3, .ref ob), (2, .ref hm), (1, .ref (ad27 0 0)), (0, .ref b0)] := hl
          refine lv_goto (tgt := 23) hx hb xd_La_law_544 (by decide) ?_
          exact ih1 (i + 5, k + 1, ad27, E28, RL29, v40, g41, fo30, ml31, nd32, 0, wn33, cs34) _ _ _ (show 600 - (k + 1) < 600 - k by omega) (lv_sub hl [0, 3, 4, 5, 6] rfl) hP hD hS ⟨(show (i + 5) = 5 * (k + 1) from by first | assumption | omega), (show (i + 5) ≤ L ∨ (i + 5) = 0 from by first | assumption | omega), (show CI kA ad27 E28 RL29 ml31 nd32 0 wn33 cs34 from hCI), (show MI v40 g41 from hMI), (show v40 2 = nI 0 from hv2)⟩
      · refine lv_iconst (v := 1) hx hb xd_La_law_165 (by decide) ?_
        refine lv_goto (tgt := 170) hx hb xd_La_law_166 (by decide) ?_
        refine lv_aload_n hx hb xd_La_law_170 rfl (lv_at hl 1 rfl) ?_
        have hPc : va_P D xcl ((ob, .inl (kA 3, 1, .inr (.inl fo))) :: rp ad E RL) H := xp_P (X := moW hm mm kA v g) (Y := [(ob, .inl (kA 3, 1, .inr (.inl fo)))] ++ rp ad E RL) (by rw [← List.append_assoc]; exact hP)
        have hDc : va_D A ((ob, .inl (kA 3, 1, .inr (.inl fo))) :: rp ad E RL) := xp_D (X := moW hm mm kA v g) (Y := [(ob, .inl (kA 3, 1, .inr (.inl fo)))] ++ rp ad E RL) (by rw [← List.append_assoc]; exact hD)
        have hFc := va_freeP (X := (moW hm mm kA v g ++ [(ob, .inl (kA 3, 1, .inr (.inl fo)))])) (cx := [(ob, .inl (kA 3, 1, .inr (.inl fo)))]) hD hS hA [26] rfl
        refine va_calli (vx_runSW (As := [.ref (ad 0 0), .int (xs (nI (i + 1)).toNatClampNeg), .int (xs (nI (i + 2)).toNatClampNeg), .int 1, .ref ob]) (rest := []) ⟨hx, hb, hml, hown, hT⟩ (xc_La_layer l hlt D kA H.size ad E RL Z ml nd len wn cs ob fo (xs (nI (i + 1)).toNatClampNeg) (xs (nI (i + 2)).toNatClampNeg) 1 hCI) (vx_cwSW 5 hT (wT_S za_19 za_20 za_13 za_18) rfl rfl rfl (by decide +kernel) ⟨Nat.le_of_ble_eq_true rfl, Nat.le_of_ble_eq_true rfl⟩) (x_preSZ hK hPc hDc hFc (hZ.kept hS)) rfl rfl hl.1 rfl (lv_room (Nat.le_of_ble_eq_true rfl)) xd_La_law_171 ⟨(show 40 + 110 * k + 101 ≤ 601024 by omega), (show 2000 + 600 * k + 430 ≤ 7293034 by omega)⟩) hS (fun q _ h => hFc q h) hFc (fun r42 u t H1 locs ht hvm hpost hB hz1 hk1 hS => ?_)
        obtain ⟨⟨ad43, E44, RL45⟩, fo46⟩ := u
        obtain ⟨hP1, hD1⟩ := hB
        rw [ht] at hP1
        obtain ⟨hP, hD⟩ := va_joinP (X := (moW hm mm kA v g ++ [(ob, .inl (kA 3, 1, .inr (.inl fo)))])) (cx := [(ob, .inl (kA 3, 1, .inr (.inl fo)))]) (wr := moW hm mm kA v g) (rx := [(ob, .inl (kA 3, 1, .inr (.inl fo46)))]) (pl1 := rp ad43 E44 RL45) hP hD [26] [0, 1, 2, 3, 4, 5, 6, 7, 8, 9, 10, 11, 12, 13, 14, 15, 16, 17, 18, 19, 20, 21, 22, 23, 24, 25] rfl rfl (by decide) (by decide) hk1 hFc hP1 hD1
        generalize H1 = H at hP hS ⊢
        obtain ⟨⟨ml47, nd48, wn49, cs50, hCI⟩, haz⟩ := hpost
        have haz : ad43 0 0 = ad 0 0 := haz
        rw [← haz] at hl
        have hCI : CI kA ad43 E44 RL45 ml47 nd48 0 wn49 cs50 := hCI
        have hl : lv_has ls 7 [(4, .int (nI i)), (3, .ref ob), (2, .ref hm), (1, .ref (ad43 0 0)), (0, .ref b0)] := hl
        have hP : va_P D xcl ((moW hm mm kA v g ++ [(ob, .inl (kA 3, 1, .inr (.inl fo46)))]) ++ rp ad43 E44 RL45) H := hP
        have hD : va_D A ((moW hm mm kA v g ++ [(ob, .inl (kA 3, 1, .inr (.inl fo46)))]) ++ rp ad43 E44 RL45) := hD
        refine lv_istore hx hb xd_La_law_174 hl (Nat.le_of_ble_eq_true rfl) rfl (fun ls hl => ?_)
        have hl : lv_has ls 7 [(5, .int r42), (4, .int (nI i)), (3, .ref ob), (2, .ref hm), (1, .ref (ad43 0 0)), (0, .ref b0)] := hl
        refine lv_aload_n hx hb xd_La_law_176 rfl (lv_at hl 3 rfl) ?_
        refine lv_aload_n hx hb xd_La_law_177 rfl (lv_at hl 5 rfl) ?_
        refine lv_iload hx hb xd_La_law_178 (lv_at hl 1 rfl) ?_
        refine lv_iconst (v := 1) hx hb xd_La_law_180 (by decide) ?_
        refine lv_iadd hx hb xd_La_law_181 ?_
        refine xn_top (y := nI (i + 1)) (nI_add i 1) ?_
        refine va_sld (i := nI (i + 1)) hx hb hX hbl hbA hS (vp_in_nI (by omega) (by omega)) xd_La_law_182 ?_
        refine lv_aload_n hx hb xd_La_law_183 rfl (lv_at hl 5 rfl) ?_
        refine lv_iload hx hb xd_La_law_184 (lv_at hl 1 rfl) ?_
        refine lv_iconst (v := 2) hx hb xd_La_law_186 (by decide) ?_
        refine lv_iadd hx hb xd_La_law_187 ?_
        refine xn_top (y := nI (i + 2)) (nI_add i 2) ?_
        refine va_sld (i := nI (i + 2)) hx hb hX hbl hbA hS (vp_in_nI (by omega) (by omega)) xd_La_law_188 ?_
        refine lv_aload_n hx hb xd_La_law_189 rfl (lv_at hl 5 rfl) ?_
        refine lv_iload hx hb xd_La_law_190 (lv_at hl 1 rfl) ?_
        refine lv_iconst (v := 3) hx hb xd_La_law_192 (by decide) ?_
        refine lv_iadd hx hb xd_La_law_193 ?_
        refine xn_top (y := nI (i + 3)) (nI_add i 3) ?_
        refine va_sld (i := nI (i + 3)) hx hb hX hbl hbA hS (vp_in_nI (by omega) (by omega)) xd_La_law_194 ?_
        refine lv_if_eq (tgt := 202) hx hb xd_La_law_195 (by decide) (fun hc51 => ?_) (fun hc51 => ?_)
        · refine lv_iconst (v := 0) hx hb xd_La_law_202 (by decide) ?_
          have hPc := xp_PL (xp_PL hP)
          have hDc := xp_DL (xp_DL hD)
          have hFc := va_free (wc := moW hm mm kA v g) hD hS hA [0, 1, 2, 3, 4, 5, 6, 7, 8, 9, 10, 11, 12, 13, 14, 15, 16, 17, 18, 19, 20, 21, 22, 23, 24, 25] rfl
          refine va_calli (va_runV (As := [.int (xs (nI (i + 1)).toNatClampNeg), .int (xs (nI (i + 2)).toNatClampNeg), .int 0]) (rest := []) ⟨hx, hb, hml, hown, hT⟩ (xc_Mo_layer l D kA H.size hm mm v g (xs (nI (i + 1)).toNatClampNeg) (xs (nI (i + 2)).toNatClampNeg) 0 len hMI hv2 hl40) (cwV 3 hT (wT_V za_22 za_23 za_24 za_9 za_21) rfl rfl rfl (by decide +kernel) ⟨Nat.le_of_ble_eq_true rfl, Nat.le_of_ble_eq_true rfl⟩) (x_preV hK hPc hDc 0 rfl rfl) rfl rfl hl.1 rfl (lv_room (Nat.le_of_ble_eq_true rfl)) xd_La_law_203 ⟨(show 40 + 110 * k + 101 + 0 ≤ 601024 by omega), (show 2000 + 600 * k + 430 + 0 ≤ 7293034 by omega)⟩) hS (fun q _ h => hFc q h) hFc (fun r52 u t H1 locs ht hvm hpost hB hz1 hk1 hS => ?_)
          obtain ⟨v53, g54⟩ := u
          obtain ⟨hP1, hD1⟩ := hB
          rw [ht] at hP1
          obtain ⟨hP, hD⟩ := va_joinQ (X := (moW hm mm kA v g ++ [(ob, .inl (kA 3, 1, .inr (.inl fo46)))])) (cx := moW hm mm kA v g) (wr := [(ob, .inl (kA 3, 1, .inr (.inl fo46)))]) (w1 := moW hm mm kA v53 g54) hP hD [0, 1, 2, 3, 4, 5, 6, 7, 8, 9, 10, 11, 12, 13, 14, 15, 16, 17, 18, 19, 20, 21, 22, 23, 24, 25] [26] rfl rfl (by decide) (by decide) hk1 hFc hP1 hD1
          have hP := xp_swP hP
          have hD := xp_swD hD
          generalize H1 = H at hP hS ⊢
          have hP : va_P D xcl ((moW hm mm kA v53 g54 ++ [(ob, .inl (kA 3, 1, .inr (.inl fo46)))]) ++ rp ad43 E44 RL45) H := hP
          have hD : va_D A ((moW hm mm kA v53 g54 ++ [(ob, .inl (kA 3, 1, .inr (.inl fo46)))]) ++ rp ad43 E44 RL45) := hD
          obtain ⟨hMI, hw9⟩ := hpost
          have hv2 : v53 2 = nI 0 := hw9
          refine lv_istore hx hb xd_La_law_206 hl (Nat.le_of_ble_eq_true rfl) rfl (fun ls hl => ?_)
          have hl : lv_has ls 7 [(6, .int r52), (5, .int r42), (4, .int (nI i)), (3, .ref ob), (2, .ref hm), (1, .ref (ad43 0 0)), (0, .ref b0)] := hl
          refine lv_goto (tgt := 541) hx hb xd_La_law_208 (by decide) ?_
          refine W.widen (k := 40 + 110 * (k + 1)) (n := 2000 + 600 * (k + 1)) (show 40 + 110 * k + 101 ≤ 40 + 110 * (k + 1) by omega) (show 2000 + 600 * k + 430 ≤ 2000 + 600 * (k + 1) by omega) ?_
          refine lv_iinc (k := 2) (x := (nI i)) (v := (nI (i + 5))) hx hb xd_La_law_541 hl rfl (xb_inc i 5) (Nat.le_of_ble_eq_true rfl) rfl (fun ls hl => ?_)
          have hl : lv_has ls 7 [(4, .int (nI (i + 5))), (6, .int r52), (5, .int r42), (3, .ref ob), (2, .ref hm), (1, .ref (ad43 0 0)), (0, .ref b0)] := hl
          refine lv_goto (tgt := 23) hx hb xd_La_law_544 (by decide) ?_
          exact ih1 (i + 5, k + 1, ad43, E44, RL45, v53, g54, fo46, ml47, nd48, 0, wn49, cs50) _ _ _ (show 600 - (k + 1) < 600 - k by omega) (lv_sub hl [0, 3, 4, 5, 6] rfl) hP hD hS ⟨(show (i + 5) = 5 * (k + 1) from by first | assumption | omega), (show (i + 5) ≤ L ∨ (i + 5) = 0 from by first | assumption | omega), (show CI kA ad43 E44 RL45 ml47 nd48 0 wn49 cs50 from hCI), (show MI v53 g54 from hMI), (show v53 2 = nI 0 from hv2)⟩
        · refine lv_iconst (v := 1) hx hb xd_La_law_198 (by decide) ?_
          refine lv_goto (tgt := 203) hx hb xd_La_law_199 (by decide) ?_
          have hPc := xp_PL (xp_PL hP)
          have hDc := xp_DL (xp_DL hD)
          have hFc := va_free (wc := moW hm mm kA v g) hD hS hA [0, 1, 2, 3, 4, 5, 6, 7, 8, 9, 10, 11, 12, 13, 14, 15, 16, 17, 18, 19, 20, 21, 22, 23, 24, 25] rfl
          refine va_calli (va_runV (As := [.int (xs (nI (i + 1)).toNatClampNeg), .int (xs (nI (i + 2)).toNatClampNeg), .int 1]) (rest := []) ⟨hx, hb, hml, hown, hT⟩ (xc_Mo_layer l D kA H.size hm mm v g (xs (nI (i + 1)).toNatClampNeg) (xs (nI (i + 2)).toNatClampNeg) 1 len hMI hv2 hl40) (cwV 3 hT (wT_V za_22 za_23 za_24 za_9 za_21) rfl rfl rfl (by decide +kernel) ⟨Nat.le_of_ble_eq_true rfl, Nat.le_of_ble_eq_true rfl⟩) (x_preV hK hPc hDc 0 rfl rfl) rfl rfl hl.1 rfl (lv_room (Nat.le_of_ble_eq_true rfl)) xd_La_law_203 ⟨(show 40 + 110 * k + 101 + 0 ≤ 601024 by omega), (show 2000 + 600 * k + 430 + 0 ≤ 7293034 by omega)⟩) hS (fun q _ h => hFc q h) hFc (fun r55 u t H1 locs ht hvm hpost hB hz1 hk1 hS => ?_)
          obtain ⟨v56, g57⟩ := u
          obtain ⟨hP1, hD1⟩ := hB
          rw [ht] at hP1
          obtain ⟨hP, hD⟩ := va_joinQ (X := (moW hm mm kA v g ++ [(ob, .inl (kA 3, 1, .inr (.inl fo46)))])) (cx := moW hm mm kA v g) (wr := [(ob, .inl (kA 3, 1, .inr (.inl fo46)))]) (w1 := moW hm mm kA v56 g57) hP hD [0, 1, 2, 3, 4, 5, 6, 7, 8, 9, 10, 11, 12, 13, 14, 15, 16, 17, 18, 19, 20, 21, 22, 23, 24, 25] [26] rfl rfl (by decide) (by decide) hk1 hFc hP1 hD1
          have hP := xp_swP hP
          have hD := xp_swD hD
          generalize H1 = H at hP hS ⊢
          have hP : va_P D xcl ((moW hm mm kA v56 g57 ++ [(ob, .inl (kA 3, 1, .inr (.inl fo46)))]) ++ rp ad43 E44 RL45) H := hP
          have hD : va_D A ((moW hm mm kA v56 g57 ++ [(ob, .inl (kA 3, 1, .inr (.inl fo46)))]) ++ rp ad43 E44 RL45) := hD
          obtain ⟨hMI, hw9⟩ := hpost
          have hv2 : v56 2 = nI 0 := hw9
          refine lv_istore hx hb xd_La_law_206 hl (Nat.le_of_ble_eq_true rfl) rfl (fun ls hl => ?_)
          have hl : lv_has ls 7 [(6, .int r55), (5, .int r42), (4, .int (nI i)), (3, .ref ob), (2, .ref hm), (1, .ref (ad43 0 0)), (0, .ref b0)] := hl
          refine lv_goto (tgt := 541) hx hb xd_La_law_208 (by decide) ?_
          refine W.widen (k := 40 + 110 * (k + 1)) (n := 2000 + 600 * (k + 1)) (show 40 + 110 * k + 101 ≤ 40 + 110 * (k + 1) by omega) (show 2000 + 600 * k + 430 ≤ 2000 + 600 * (k + 1) by omega) ?_
          refine lv_iinc (k := 2) (x := (nI i)) (v := (nI (i + 5))) hx hb xd_La_law_541 hl rfl (xb_inc i 5) (Nat.le_of_ble_eq_true rfl) rfl (fun ls hl => ?_)
          have hl : lv_has ls 7 [(4, .int (nI (i + 5))), (6, .int r55), (5, .int r42), (3, .ref ob), (2, .ref hm), (1, .ref (ad43 0 0)), (0, .ref b0)] := hl
          refine lv_goto (tgt := 23) hx hb xd_La_law_544 (by decide) ?_
          exact ih1 (i + 5, k + 1, ad43, E44, RL45, v56, g57, fo46, ml47, nd48, 0, wn49, cs50) _ _ _ (show 600 - (k + 1) < 600 - k by omega) (lv_sub hl [0, 3, 4, 5, 6] rfl) hP hD hS ⟨(show (i + 5) = 5 * (k + 1) from by first | assumption | omega), (show (i + 5) ≤ L ∨ (i + 5) = 0 from by first | assumption | omega), (show CI kA ad43 E44 RL45 ml47 nd48 0 wn49 cs50 from hCI), (show MI v56 g57 from hMI), (show v56 2 = nI 0 from hv2)⟩
    by_cases hw58 : ((xs (nI i).toNatClampNeg) &&& 15) = 3
    · refine lv_tableIn (off := 172) (tgt := 211) hx hb xd_La_law_39 (by rw [hw58]; decide) (by rw [hw58]; decide) (by rw [hw58]; rfl) (by decide) ?_
      refine lv_aload_n hx hb xd_La_law_211 rfl (lv_at hl 3 rfl) ?_
      have hPc := xp_P (X := (moW hm mm kA v g ++ [(ob, .inl (kA 3, 1, .inr (.inl fo)))])) hP
      have hDc := xp_D (X := (moW hm mm kA v g ++ [(ob, .inl (kA 3, 1, .inr (.inl fo)))])) hD
      have hFc := va_freeP (X := (moW hm mm kA v g ++ [(ob, .inl (kA 3, 1, .inr (.inl fo)))])) (cx := []) hD hS hA [] rfl
      obtain ⟨lf, hc0⟩ := hCI.2.1
      refine va_calli (va_runV (As := []) (rest := []) ⟨hx, hb, hml, hown, hT⟩ (xc_De_fault l D kA H.size ad E RL ml nd len wn cs hCI) (cwV 0 hT (wT_V za_26 za_27 za_28 za_4 za_25) rfl rfl rfl (by decide +kernel) ⟨Nat.le_of_ble_eq_true rfl, Nat.le_of_ble_eq_true rfl⟩) (px_preV hK hPc hDc (hCI.1 0 (by omega)) hc0 rfl) rfl rfl hl.1 rfl (lv_room (Nat.le_of_ble_eq_true rfl)) xd_La_law_212 ⟨(show 40 + 110 * k + 0 ≤ 601024 by omega), (show 2000 + 600 * k + 0 ≤ 7293034 by omega)⟩) hS (fun q _ h => hFc q h) hFc (fun r59 u t H1 locs ht hvm hpost hB hz1 hk1 hS => ?_)
      obtain ⟨hP1, hD1⟩ := hB
      rw [ht] at hP1
      obtain ⟨hP, hD⟩ := va_joinP (X := (moW hm mm kA v g ++ [(ob, .inl (kA 3, 1, .inr (.inl fo)))])) (cx := []) (wr := (moW hm mm kA v g ++ [(ob, .inl (kA 3, 1, .inr (.inl fo)))])) (rx := []) hP hD [] [0, 1, 2, 3, 4, 5, 6, 7, 8, 9, 10, 11, 12, 13, 14, 15, 16, 17, 18, 19, 20, 21, 22, 23, 24, 25, 26] rfl rfl (by decide) (by decide) hk1 hFc hP1 hD1
      generalize H1 = H at hP hS ⊢
      have hP : va_P D xcl ((moW hm mm kA v g ++ [(ob, .inl (kA 3, 1, .inr (.inl fo)))]) ++ rp ad E RL) H := hP
      have hD : va_D A ((moW hm mm kA v g ++ [(ob, .inl (kA 3, 1, .inr (.inl fo)))]) ++ rp ad E RL) := hD
      refine lv_pop hx hb xd_La_law_215 rfl ?_
      refine lv_aload_n hx hb xd_La_law_216 rfl (lv_at hl 2 rfl) ?_
      have hPc := xp_PL (xp_PL hP)
      have hDc := xp_DL (xp_DL hD)
      have hFc := va_free (wc := moW hm mm kA v g) hD hS hA [0, 1, 2, 3, 4, 5, 6, 7, 8, 9, 10, 11, 12, 13, 14, 15, 16, 17, 18, 19, 20, 21, 22, 23, 24, 25] rfl
      refine va_calli (va_runV (As := []) (rest := []) ⟨hx, hb, hml, hown, hT⟩ (xc_Mo_fault l D kA H.size hm mm v g hMI) (cwV 0 hT (wT_V za_30 za_31 za_32 za_9 za_29) rfl rfl rfl (by decide +kernel) ⟨Nat.le_of_ble_eq_true rfl, Nat.le_of_ble_eq_true rfl⟩) (x_preV hK hPc hDc 0 rfl rfl) rfl rfl hl.1 rfl (lv_room (Nat.le_of_ble_eq_true rfl)) xd_La_law_217 ⟨(show 40 + 110 * k + 0 ≤ 601024 by omega), (show 2000 + 600 * k + 0 ≤ 7293034 by omega)⟩) hS (fun q _ h => hFc q h) hFc (fun r60 u t H1 locs ht hvm hpost hB hz1 hk1 hS => ?_)
      obtain ⟨v61, g62⟩ := u
      obtain ⟨hP1, hD1⟩ := hB
      rw [ht] at hP1
      obtain ⟨hP, hD⟩ := va_joinQ (X := (moW hm mm kA v g ++ [(ob, .inl (kA 3, 1, .inr (.inl fo)))])) (cx := moW hm mm kA v g) (wr := [(ob, .inl (kA 3, 1, .inr (.inl fo)))]) (w1 := moW hm mm kA v61 g62) hP hD [0, 1, 2, 3, 4, 5, 6, 7, 8, 9, 10, 11, 12, 13, 14, 15, 16, 17, 18, 19, 20, 21, 22, 23, 24, 25] [26] rfl rfl (by decide) (by decide) hk1 hFc hP1 hD1
      have hP := xp_swP hP
      have hD := xp_swD hD
      generalize H1 = H at hP hS ⊢
      have hP : va_P D xcl ((moW hm mm kA v61 g62 ++ [(ob, .inl (kA 3, 1, .inr (.inl fo)))]) ++ rp ad E RL) H := hP
      have hD : va_D A ((moW hm mm kA v61 g62 ++ [(ob, .inl (kA 3, 1, .inr (.inl fo)))]) ++ rp ad E RL) := hD
      obtain ⟨hMI, hw9⟩ := hpost
      have hv2 : v61 2 = nI len := hw9.trans hv2
      refine lv_pop hx hb xd_La_law_220 rfl ?_
      refine lv_goto (tgt := 541) hx hb xd_La_law_221 (by decide) ?_
      refine W.widen (k := 40 + 110 * (k + 1)) (n := 2000 + 600 * (k + 1)) (show 40 + 110 * k ≤ 40 + 110 * (k + 1) by omega) (show 2000 + 600 * k ≤ 2000 + 600 * (k + 1) by omega) ?_
      refine lv_iinc (k := 0) (x := (nI i)) (v := (nI (i + 5))) hx hb xd_La_law_541 hl rfl (xb_inc i 5) (Nat.le_of_ble_eq_true rfl) rfl (fun ls hl => ?_)
      have hl : lv_has ls 7 [(4, .int (nI (i + 5))), (3, .ref ob), (2, .ref hm), (1, .ref (ad 0 0)), (0, .ref b0)] := hl
      refine lv_goto (tgt := 23) hx hb xd_La_law_544 (by decide) ?_
      exact ih1 (i + 5, k + 1, ad, E, RL, v61, g62, fo, ml, nd, len, wn, cs) _ _ _ (show 600 - (k + 1) < 600 - k by omega) (lv_sub hl [0, 1, 2, 3, 4] rfl) hP hD hS ⟨(show (i + 5) = 5 * (k + 1) from by first | assumption | omega), (show (i + 5) ≤ L ∨ (i + 5) = 0 from by first | assumption | omega), (show CI kA ad E RL ml nd len wn cs from hCI), (show MI v61 g62 from hMI), (show v61 2 = nI len from hv2)⟩
    by_cases hw63 : ((xs (nI i).toNatClampNeg) &&& 15) = 4
    · refine lv_tableIn (off := 185) (tgt := 224) hx hb xd_La_law_39 (by rw [hw63]; decide) (by rw [hw63]; decide) (by rw [hw63]; rfl) (by decide) ?_
      refine lv_aload_n hx hb xd_La_law_224 rfl (lv_at hl 3 rfl) ?_
      refine lv_aload_n hx hb xd_La_law_225 rfl (lv_at hl 4 rfl) ?_
      refine lv_iload hx hb xd_La_law_226 (lv_at hl 0 rfl) ?_
      refine lv_iconst (v := 1) hx hb xd_La_law_228 (by decide) ?_
      refine lv_iadd hx hb xd_La_law_229 ?_
      refine xn_top (y := nI (i + 1)) (nI_add i 1) ?_
      refine va_sld (i := nI (i + 1)) hx hb hX hbl hbA hS (vp_in_nI (by omega) (by omega)) xd_La_law_230 ?_
      have hPc := xp_P (X := (moW hm mm kA v g ++ [(ob, .inl (kA 3, 1, .inr (.inl fo)))])) hP
      have hDc := xp_D (X := (moW hm mm kA v g ++ [(ob, .inl (kA 3, 1, .inr (.inl fo)))])) hD
      have hFc := va_freeP (X := (moW hm mm kA v g ++ [(ob, .inl (kA 3, 1, .inr (.inl fo)))])) (cx := []) hD hS hA [] rfl
      obtain ⟨lf, hc0⟩ := hCI.2.1
      refine va_calli (va_runV (As := [.int (xs (nI (i + 1)).toNatClampNeg)]) (rest := []) ⟨hx, hb, hml, hown, hT⟩ (xc_De_close l D kA H.size ad E RL ml nd len wn cs (xs (nI (i + 1)).toNatClampNeg) hCI) (cwV 1 hT (wT_V za_34 za_35 za_36 za_4 za_33) rfl rfl rfl (by decide +kernel) ⟨Nat.le_of_ble_eq_true rfl, Nat.le_of_ble_eq_true rfl⟩) (px_preV hK hPc hDc (hCI.1 0 (by omega)) hc0 rfl) rfl rfl hl.1 rfl (lv_room (Nat.le_of_ble_eq_true rfl)) xd_La_law_231 ⟨(show 40 + 110 * k + 0 ≤ 601024 by omega), (show 2000 + 600 * k + 0 ≤ 7293034 by omega)⟩) hS (fun q _ h => hFc q h) hFc (fun r64 u t H1 locs ht hvm hpost hB hz1 hk1 hS => ?_)
      obtain ⟨hP1, hD1⟩ := hB
      rw [ht] at hP1
      obtain ⟨hP, hD⟩ := va_joinP (X := (moW hm mm kA v g ++ [(ob, .inl (kA 3, 1, .inr (.inl fo)))])) (cx := []) (wr := (moW hm mm kA v g ++ [(ob, .inl (kA 3, 1, .inr (.inl fo)))])) (rx := []) hP hD [] [0, 1, 2, 3, 4, 5, 6, 7, 8, 9, 10, 11, 12, 13, 14, 15, 16, 17, 18, 19, 20, 21, 22, 23, 24, 25, 26] rfl rfl (by decide) (by decide) hk1 hFc hP1 hD1
      generalize H1 = H at hP hS ⊢
      obtain ⟨E65, rfl⟩ : ∃ z, z = u := ⟨_, rfl⟩
      have hP : va_P D xcl ((moW hm mm kA v g ++ [(ob, .inl (kA 3, 1, .inr (.inl fo)))]) ++ rp ad E65 RL) H := hP
      have hD : va_D A ((moW hm mm kA v g ++ [(ob, .inl (kA 3, 1, .inr (.inl fo)))]) ++ rp ad E65 RL) := hD
      have hCI := hpost.2
      refine lv_pop hx hb xd_La_law_234 rfl ?_
      refine lv_aload_n hx hb xd_La_law_235 rfl (lv_at hl 2 rfl) ?_
      refine lv_aload_n hx hb xd_La_law_236 rfl (lv_at hl 4 rfl) ?_
      refine lv_iload hx hb xd_La_law_237 (lv_at hl 0 rfl) ?_
      refine lv_iconst (v := 1) hx hb xd_La_law_239 (by decide) ?_
      refine lv_iadd hx hb xd_La_law_240 ?_
      refine xn_top (y := nI (i + 1)) (nI_add i 1) ?_
      refine va_sld (i := nI (i + 1)) hx hb hX hbl hbA hS (vp_in_nI (by omega) (by omega)) xd_La_law_241 ?_
      have hPc := xp_PL (xp_PL hP)
      have hDc := xp_DL (xp_DL hD)
      have hFc := va_free (wc := moW hm mm kA v g) hD hS hA [0, 1, 2, 3, 4, 5, 6, 7, 8, 9, 10, 11, 12, 13, 14, 15, 16, 17, 18, 19, 20, 21, 22, 23, 24, 25] rfl
      refine va_calli (va_runV (As := [.int (xs (nI (i + 1)).toNatClampNeg)]) (rest := []) ⟨hx, hb, hml, hown, hT⟩ (xc_Mo_close l D kA H.size hm mm v g (xs (nI (i + 1)).toNatClampNeg) hMI) (cwV 1 hT (wT_V za_38 za_39 za_40 za_9 za_37) rfl rfl rfl (by decide +kernel) ⟨Nat.le_of_ble_eq_true rfl, Nat.le_of_ble_eq_true rfl⟩) (x_preV hK hPc hDc 0 rfl rfl) rfl rfl hl.1 rfl (lv_room (Nat.le_of_ble_eq_true rfl)) xd_La_law_242 ⟨(show 40 + 110 * k + 0 ≤ 601024 by omega), (show 2000 + 600 * k + 0 ≤ 7293034 by omega)⟩) hS (fun q _ h => hFc q h) hFc (fun r66 u t H1 locs ht hvm hpost hB hz1 hk1 hS => ?_)
      obtain ⟨v67, g68⟩ := u
      obtain ⟨hP1, hD1⟩ := hB
      rw [ht] at hP1
      obtain ⟨hP, hD⟩ := va_joinQ (X := (moW hm mm kA v g ++ [(ob, .inl (kA 3, 1, .inr (.inl fo)))])) (cx := moW hm mm kA v g) (wr := [(ob, .inl (kA 3, 1, .inr (.inl fo)))]) (w1 := moW hm mm kA v67 g68) hP hD [0, 1, 2, 3, 4, 5, 6, 7, 8, 9, 10, 11, 12, 13, 14, 15, 16, 17, 18, 19, 20, 21, 22, 23, 24, 25] [26] rfl rfl (by decide) (by decide) hk1 hFc hP1 hD1
      have hP := xp_swP hP
      have hD := xp_swD hD
      generalize H1 = H at hP hS ⊢
      have hP : va_P D xcl ((moW hm mm kA v67 g68 ++ [(ob, .inl (kA 3, 1, .inr (.inl fo)))]) ++ rp ad E65 RL) H := hP
      have hD : va_D A ((moW hm mm kA v67 g68 ++ [(ob, .inl (kA 3, 1, .inr (.inl fo)))]) ++ rp ad E65 RL) := hD
      obtain ⟨hMI, hw9⟩ := hpost
      have hv2 : v67 2 = nI len := hw9.trans hv2
      refine lv_pop hx hb xd_La_law_245 rfl ?_
      refine lv_goto (tgt := 541) hx hb xd_La_law_246 (by decide) ?_
      refine W.widen (k := 40 + 110 * (k + 1)) (n := 2000 + 600 * (k + 1)) (show 40 + 110 * k ≤ 40 + 110 * (k + 1) by omega) (show 2000 + 600 * k ≤ 2000 + 600 * (k + 1) by omega) ?_
      refine lv_iinc (k := 0) (x := (nI i)) (v := (nI (i + 5))) hx hb xd_La_law_541 hl rfl (xb_inc i 5) (Nat.le_of_ble_eq_true rfl) rfl (fun ls hl => ?_)
      have hl : lv_has ls 7 [(4, .int (nI (i + 5))), (3, .ref ob), (2, .ref hm), (1, .ref (ad 0 0)), (0, .ref b0)] := hl
      refine lv_goto (tgt := 23) hx hb xd_La_law_544 (by decide) ?_
      exact ih1 (i + 5, k + 1, ad, E65, RL, v67, g68, fo, ml, nd, len, wn, cs) _ _ _ (show 600 - (k + 1) < 600 - k by omega) (lv_sub hl [0, 1, 2, 3, 4] rfl) hP hD hS ⟨(show (i + 5) = 5 * (k + 1) from by first | assumption | omega), (show (i + 5) ≤ L ∨ (i + 5) = 0 from by first | assumption | omega), (show CI kA ad E65 RL ml nd len wn cs from hCI), (show MI v67 g68 from hMI), (show v67 2 = nI len from hv2)⟩
    by_cases hw69 : ((xs (nI i).toNatClampNeg) &&& 15) = 5
    · refine lv_tableIn (off := 210) (tgt := 249) hx hb xd_La_law_39 (by rw [hw69]; decide) (by rw [hw69]; decide) (by rw [hw69]; rfl) (by decide) ?_
      refine lv_aload_n hx hb xd_La_law_249 rfl (lv_at hl 3 rfl) ?_
      refine lv_aload_n hx hb xd_La_law_250 rfl (lv_at hl 4 rfl) ?_
      refine lv_iload hx hb xd_La_law_251 (lv_at hl 0 rfl) ?_
      refine lv_iconst (v := 1) hx hb xd_La_law_253 (by decide) ?_
      refine lv_iadd hx hb xd_La_law_254 ?_
      refine xn_top (y := nI (i + 1)) (nI_add i 1) ?_
      refine va_sld (i := nI (i + 1)) hx hb hX hbl hbA hS (vp_in_nI (by omega) (by omega)) xd_La_law_255 ?_
      have hPc := xp_P (X := (moW hm mm kA v g ++ [(ob, .inl (kA 3, 1, .inr (.inl fo)))])) hP
      have hDc := xp_D (X := (moW hm mm kA v g ++ [(ob, .inl (kA 3, 1, .inr (.inl fo)))])) hD
      have hFc := va_freeP (X := (moW hm mm kA v g ++ [(ob, .inl (kA 3, 1, .inr (.inl fo)))])) (cx := []) hD hS hA [] rfl
      obtain ⟨lf, hc0⟩ := hCI.2.1
      refine va_calli (va_runV (As := [.int (xs (nI (i + 1)).toNatClampNeg)]) (rest := []) ⟨hx, hb, hml, hown, hT⟩ (xc_De_count l D kA H.size ad E RL ml nd len wn cs (xs (nI (i + 1)).toNatClampNeg) hCI) (cwV 1 hT (wT_V za_42 za_43 za_44 za_4 za_41) rfl rfl rfl (by decide +kernel) ⟨Nat.le_of_ble_eq_true rfl, Nat.le_of_ble_eq_true rfl⟩) (px_preV hK hPc hDc (hCI.1 0 (by omega)) hc0 rfl) rfl rfl hl.1 rfl (lv_room (Nat.le_of_ble_eq_true rfl)) xd_La_law_256 ⟨(show 40 + 110 * k + 0 ≤ 601024 by omega), (show 2000 + 600 * k + 0 ≤ 7293034 by omega)⟩) hS (fun q _ h => hFc q h) hFc (fun r70 u t H1 locs ht hvm hpost hB hz1 hk1 hS => ?_)
      obtain ⟨hP1, hD1⟩ := hB
      rw [ht] at hP1
      obtain ⟨hP, hD⟩ := va_joinP (X := (moW hm mm kA v g ++ [(ob, .inl (kA 3, 1, .inr (.inl fo)))])) (cx := []) (wr := (moW hm mm kA v g ++ [(ob, .inl (kA 3, 1, .inr (.inl fo)))])) (rx := []) hP hD [] [0, 1, 2, 3, 4, 5, 6, 7, 8, 9, 10, 11, 12, 13, 14, 15, 16, 17, 18, 19, 20, 21, 22, 23, 24, 25, 26] rfl rfl (by decide) (by decide) hk1 hFc hP1 hD1
      generalize H1 = H at hP hS ⊢
      have hP : va_P D xcl ((moW hm mm kA v g ++ [(ob, .inl (kA 3, 1, .inr (.inl fo)))]) ++ rp ad E RL) H := hP
      have hD : va_D A ((moW hm mm kA v g ++ [(ob, .inl (kA 3, 1, .inr (.inl fo)))]) ++ rp ad E RL) := hD
      refine lv_pop hx hb xd_La_law_259 rfl ?_
      refine lv_aload_n hx hb xd_La_law_260 rfl (lv_at hl 2 rfl) ?_
      refine lv_aload_n hx hb xd_La_law_261 rfl (lv_at hl 4 rfl) ?_
      refine lv_iload hx hb xd_La_law_262 (lv_at hl 0 rfl) ?_
      refine lv_iconst (v := 1) hx hb xd_La_law_264 (by decide) ?_
      refine lv_iadd hx hb xd_La_law_265 ?_
      refine xn_top (y := nI (i + 1)) (nI_add i 1) ?_
      refine va_sld (i := nI (i + 1)) hx hb hX hbl hbA hS (vp_in_nI (by omega) (by omega)) xd_La_law_266 ?_
      have hPc := xp_PL (xp_PL hP)
      have hDc := xp_DL (xp_DL hD)
      have hFc := va_free (wc := moW hm mm kA v g) hD hS hA [0, 1, 2, 3, 4, 5, 6, 7, 8, 9, 10, 11, 12, 13, 14, 15, 16, 17, 18, 19, 20, 21, 22, 23, 24, 25] rfl
      refine va_calli (va_runV (As := [.int (xs (nI (i + 1)).toNatClampNeg)]) (rest := []) ⟨hx, hb, hml, hown, hT⟩ (xc_Mo_count l D kA H.size hm mm v g (xs (nI (i + 1)).toNatClampNeg) hMI) (cwV 1 hT (wT_V za_46 za_47 za_48 za_9 za_45) rfl rfl rfl (by decide +kernel) ⟨Nat.le_of_ble_eq_true rfl, Nat.le_of_ble_eq_true rfl⟩) (x_preV hK hPc hDc 0 rfl rfl) rfl rfl hl.1 rfl (lv_room (Nat.le_of_ble_eq_true rfl)) xd_La_law_267 ⟨(show 40 + 110 * k + 0 ≤ 601024 by omega), (show 2000 + 600 * k + 0 ≤ 7293034 by omega)⟩) hS (fun q _ h => hFc q h) hFc (fun r71 u t H1 locs ht hvm hpost hB hz1 hk1 hS => ?_)
      obtain ⟨v72, g73⟩ := u
      obtain ⟨hP1, hD1⟩ := hB
      rw [ht] at hP1
      obtain ⟨hP, hD⟩ := va_joinQ (X := (moW hm mm kA v g ++ [(ob, .inl (kA 3, 1, .inr (.inl fo)))])) (cx := moW hm mm kA v g) (wr := [(ob, .inl (kA 3, 1, .inr (.inl fo)))]) (w1 := moW hm mm kA v72 g73) hP hD [0, 1, 2, 3, 4, 5, 6, 7, 8, 9, 10, 11, 12, 13, 14, 15, 16, 17, 18, 19, 20, 21, 22, 23, 24, 25] [26] rfl rfl (by decide) (by decide) hk1 hFc hP1 hD1
      have hP := xp_swP hP
      have hD := xp_swD hD
      generalize H1 = H at hP hS ⊢
      have hP : va_P D xcl ((moW hm mm kA v72 g73 ++ [(ob, .inl (kA 3, 1, .inr (.inl fo)))]) ++ rp ad E RL) H := hP
      have hD : va_D A ((moW hm mm kA v72 g73 ++ [(ob, .inl (kA 3, 1, .inr (.inl fo)))]) ++ rp ad E RL) := hD
      obtain ⟨hMI, hw9⟩ := hpost
      have hv2 : v72 2 = nI len := hw9.trans hv2
      refine lv_pop hx hb xd_La_law_270 rfl ?_
      refine lv_goto (tgt := 541) hx hb xd_La_law_271 (by decide) ?_
      refine W.widen (k := 40 + 110 * (k + 1)) (n := 2000 + 600 * (k + 1)) (show 40 + 110 * k ≤ 40 + 110 * (k + 1) by omega) (show 2000 + 600 * k ≤ 2000 + 600 * (k + 1) by omega) ?_
      refine lv_iinc (k := 0) (x := (nI i)) (v := (nI (i + 5))) hx hb xd_La_law_541 hl rfl (xb_inc i 5) (Nat.le_of_ble_eq_true rfl) rfl (fun ls hl => ?_)
      have hl : lv_has ls 7 [(4, .int (nI (i + 5))), (3, .ref ob), (2, .ref hm), (1, .ref (ad 0 0)), (0, .ref b0)] := hl
      refine lv_goto (tgt := 23) hx hb xd_La_law_544 (by decide) ?_
      exact ih1 (i + 5, k + 1, ad, E, RL, v72, g73, fo, ml, nd, len, wn, cs) _ _ _ (show 600 - (k + 1) < 600 - k by omega) (lv_sub hl [0, 1, 2, 3, 4] rfl) hP hD hS ⟨(show (i + 5) = 5 * (k + 1) from by first | assumption | omega), (show (i + 5) ≤ L ∨ (i + 5) = 0 from by first | assumption | omega), (show CI kA ad E RL ml nd len wn cs from hCI), (show MI v72 g73 from hMI), (show v72 2 = nI len from hv2)⟩
    by_cases hw74 : ((xs (nI i).toNatClampNeg) &&& 15) = 6
    · refine lv_tableIn (off := 235) (tgt := 274) hx hb xd_La_law_39 (by rw [hw74]; decide) (by rw [hw74]; decide) (by rw [hw74]; rfl) (by decide) ?_
      refine lv_aload_n hx hb xd_La_law_274 rfl (lv_at hl 3 rfl) ?_
      refine lv_aload_n hx hb xd_La_law_275 rfl (lv_at hl 4 rfl) ?_
      refine lv_iload hx hb xd_La_law_276 (lv_at hl 0 rfl) ?_
      refine lv_iconst (v := 1) hx hb xd_La_law_278 (by decide) ?_
      refine lv_iadd hx hb xd_La_law_279 ?_
      refine xn_top (y := nI (i + 1)) (nI_add i 1) ?_
      refine va_sld (i := nI (i + 1)) hx hb hX hbl hbA hS (vp_in_nI (by omega) (by omega)) xd_La_law_280 ?_
      have hPc := xp_P (X := (moW hm mm kA v g ++ [(ob, .inl (kA 3, 1, .inr (.inl fo)))])) hP
      have hDc := xp_D (X := (moW hm mm kA v g ++ [(ob, .inl (kA 3, 1, .inr (.inl fo)))])) hD
      have hFc := va_freeP (X := (moW hm mm kA v g ++ [(ob, .inl (kA 3, 1, .inr (.inl fo)))])) (cx := []) hD hS hA [] rfl
      obtain ⟨lf, hc0⟩ := hCI.2.1
      refine va_calli (va_runV (As := [.int (xs (nI (i + 1)).toNatClampNeg)]) (rest := []) ⟨hx, hb, hml, hown, hT⟩ (xc_De_modules l D kA H.size ad E RL ml nd len wn cs (xs (nI (i + 1)).toNatClampNeg) hCI) (cwV 1 hT (wT_V za_50 za_51 za_52 za_4 za_49) rfl rfl rfl (by decide +kernel) ⟨Nat.le_of_ble_eq_true rfl, Nat.le_of_ble_eq_true rfl⟩) (px_preV hK hPc hDc (hCI.1 0 (by omega)) hc0 rfl) rfl rfl hl.1 rfl (lv_room (Nat.le_of_ble_eq_true rfl)) xd_La_law_281 ⟨(show 40 + 110 * k + 0 ≤ 601024 by omega), (show 2000 + 600 * k + 0 ≤ 7293034 by omega)⟩) hS (fun q _ h => hFc q h) hFc (fun r75 u t H1 locs ht hvm hpost hB hz1 hk1 hS => ?_)
      obtain ⟨hP1, hD1⟩ := hB
      rw [ht] at hP1
      obtain ⟨hP, hD⟩ := va_joinP (X := (moW hm mm kA v g ++ [(ob, .inl (kA 3, 1, .inr (.inl fo)))])) (cx := []) (wr := (moW hm mm kA v g ++ [(ob, .inl (kA 3, 1, .inr (.inl fo)))])) (rx := []) hP hD [] [0, 1, 2, 3, 4, 5, 6, 7, 8, 9, 10, 11, 12, 13, 14, 15, 16, 17, 18, 19, 20, 21, 22, 23, 24, 25, 26] rfl rfl (by decide) (by decide) hk1 hFc hP1 hD1
      generalize H1 = H at hP hS ⊢
      have hP : va_P D xcl ((moW hm mm kA v g ++ [(ob, .inl (kA 3, 1, .inr (.inl fo)))]) ++ rp ad E RL) H := hP
      have hD : va_D A ((moW hm mm kA v g ++ [(ob, .inl (kA 3, 1, .inr (.inl fo)))]) ++ rp ad E RL) := hD
      refine lv_pop hx hb xd_La_law_284 rfl ?_
      refine lv_aload_n hx hb xd_La_law_285 rfl (lv_at hl 2 rfl) ?_
      refine lv_aload_n hx hb xd_La_law_286 rfl (lv_at hl 4 rfl) ?_
      refine lv_iload hx hb xd_La_law_287 (lv_at hl 0 rfl) ?_
      refine lv_iconst (v := 1) hx hb xd_La_law_289 (by decide) ?_
      refine lv_iadd hx hb xd_La_law_290 ?_
      refine xn_top (y := nI (i + 1)) (nI_add i 1) ?_
      refine va_sld (i := nI (i + 1)) hx hb hX hbl hbA hS (vp_in_nI (by omega) (by omega)) xd_La_law_291 ?_
      have hPc := xp_PL (xp_PL hP)
      have hDc := xp_DL (xp_DL hD)
      have hFc := va_free (wc := moW hm mm kA v g) hD hS hA [0, 1, 2, 3, 4, 5, 6, 7, 8, 9, 10, 11, 12, 13, 14, 15, 16, 17, 18, 19, 20, 21, 22, 23, 24, 25] rfl
      refine va_calli (va_runV (As := [.int (xs (nI (i + 1)).toNatClampNeg)]) (rest := []) ⟨hx, hb, hml, hown, hT⟩ (xc_Mo_modules l D kA H.size hm mm v g (xs (nI (i + 1)).toNatClampNeg) hMI) (cwV 1 hT (wT_V za_54 za_55 za_56 za_9 za_53) rfl rfl rfl (by decide +kernel) ⟨Nat.le_of_ble_eq_true rfl, Nat.le_of_ble_eq_true rfl⟩) (x_preV hK hPc hDc 0 rfl rfl) rfl rfl hl.1 rfl (lv_room (Nat.le_of_ble_eq_true rfl)) xd_La_law_292 ⟨(show 40 + 110 * k + 0 ≤ 601024 by omega), (show 2000 + 600 * k + 0 ≤ 7293034 by omega)⟩) hS (fun q _ h => hFc q h) hFc (fun r76 u t H1 locs ht hvm hpost hB hz1 hk1 hS => ?_)
      obtain ⟨v77, g78⟩ := u
      obtain ⟨hP1, hD1⟩ := hB
      rw [ht] at hP1
      obtain ⟨hP, hD⟩ := va_joinQ (X := (moW hm mm kA v g ++ [(ob, .inl (kA 3, 1, .inr (.inl fo)))])) (cx := moW hm mm kA v g) (wr := [(ob, .inl (kA 3, 1, .inr (.inl fo)))]) (w1 := moW hm mm kA v77 g78) hP hD [0, 1, 2, 3, 4, 5, 6, 7, 8, 9, 10, 11, 12, 13, 14, 15, 16, 17, 18, 19, 20, 21, 22, 23, 24, 25] [26] rfl rfl (by decide) (by decide) hk1 hFc hP1 hD1
      have hP := xp_swP hP
      have hD := xp_swD hD
      generalize H1 = H at hP hS ⊢
      have hP : va_P D xcl ((moW hm mm kA v77 g78 ++ [(ob, .inl (kA 3, 1, .inr (.inl fo)))]) ++ rp ad E RL) H := hP
      have hD : va_D A ((moW hm mm kA v77 g78 ++ [(ob, .inl (kA 3, 1, .inr (.inl fo)))]) ++ rp ad E RL) := hD
      obtain ⟨hMI, hw9⟩ := hpost
      have hv2 : v77 2 = nI len := hw9.trans hv2
      refine lv_pop hx hb xd_La_law_295 rfl ?_
      refine lv_goto (tgt := 541) hx hb xd_La_law_296 (by decide) ?_
      refine W.widen (k := 40 + 110 * (k + 1)) (n := 2000 + 600 * (k + 1)) (show 40 + 110 * k ≤ 40 + 110 * (k + 1) by omega) (show 2000 + 600 * k ≤ 2000 + 600 * (k + 1) by omega) ?_
      refine lv_iinc (k := 0) (x := (nI i)) (v := (nI (i + 5))) hx hb xd_La_law_541 hl rfl (xb_inc i 5) (Nat.le_of_ble_eq_true rfl) rfl (fun ls hl => ?_)
      have hl : lv_has ls 7 [(4, .int (nI (i + 5))), (3, .ref ob), (2, .ref hm), (1, .ref (ad 0 0)), (0, .ref b0)] := hl
      refine lv_goto (tgt := 23) hx hb xd_La_law_544 (by decide) ?_
      exact ih1 (i + 5, k + 1, ad, E, RL, v77, g78, fo, ml, nd, len, wn, cs) _ _ _ (show 600 - (k + 1) < 600 - k by omega) (lv_sub hl [0, 1, 2, 3, 4] rfl) hP hD hS ⟨(show (i + 5) = 5 * (k + 1) from by first | assumption | omega), (show (i + 5) ≤ L ∨ (i + 5) = 0 from by first | assumption | omega), (show CI kA ad E RL ml nd len wn cs from hCI), (show MI v77 g78 from hMI), (show v77 2 = nI len from hv2)⟩
    by_cases hw79 : ((xs (nI i).toNatClampNeg) &&& 15) = 7
    · refine lv_tableIn (off := 260) (tgt := 299) hx hb xd_La_law_39 (by rw [hw79]; decide) (by rw [hw79]; decide) (by rw [hw79]; rfl) (by decide) ?_
      refine lv_aload_n hx hb xd_La_law_299 rfl (lv_at hl 3 rfl) ?_
      refine lv_aload_n hx hb xd_La_law_300 rfl (lv_at hl 4 rfl) ?_
      refine lv_iload hx hb xd_La_law_301 (lv_at hl 0 rfl) ?_
      refine lv_iconst (v := 1) hx hb xd_La_law_303 (by decide) ?_
      refine lv_iadd hx hb xd_La_law_304 ?_
      refine xn_top (y := nI (i + 1)) (nI_add i 1) ?_
      refine va_sld (i := nI (i + 1)) hx hb hX hbl hbA hS (vp_in_nI (by omega) (by omega)) xd_La_law_305 ?_
      refine lv_aload_n hx hb xd_La_law_306 rfl (lv_at hl 4 rfl) ?_
      refine lv_iload hx hb xd_La_law_307 (lv_at hl 0 rfl) ?_
      refine lv_iconst (v := 2) hx hb xd_La_law_309 (by decide) ?_
      refine lv_iadd hx hb xd_La_law_310 ?_
      refine xn_top (y := nI (i + 2)) (nI_add i 2) ?_
      refine va_sld (i := nI (i + 2)) hx hb hX hbl hbA hS (vp_in_nI (by omega) (by omega)) xd_La_law_311 ?_
      have hPc := xp_P (X := (moW hm mm kA v g ++ [(ob, .inl (kA 3, 1, .inr (.inl fo)))])) hP
      have hDc := xp_D (X := (moW hm mm kA v g ++ [(ob, .inl (kA 3, 1, .inr (.inl fo)))])) hD
      have hFc := va_freeP (X := (moW hm mm kA v g ++ [(ob, .inl (kA 3, 1, .inr (.inl fo)))])) (cx := []) hD hS hA [] rfl
      obtain ⟨lf, hc0⟩ := hCI.2.1
      refine va_calli (va_runV (As := [.int (xs (nI (i + 1)).toNatClampNeg), .int (xs (nI (i + 2)).toNatClampNeg)]) (rest := []) ⟨hx, hb, hml, hown, hT⟩ (xc_De_module l D kA H.size ad E RL ml nd len wn cs (xs (nI (i + 1)).toNatClampNeg) (xs (nI (i + 2)).toNatClampNeg) hCI) (cwV 2 hT (wT_V za_58 za_59 za_60 za_4 za_57) rfl rfl rfl (by decide +kernel) ⟨Nat.le_of_ble_eq_true rfl, Nat.le_of_ble_eq_true rfl⟩) (px_preV hK hPc hDc (hCI.1 0 (by omega)) hc0 rfl) rfl rfl hl.1 rfl (lv_room (Nat.le_of_ble_eq_true rfl)) xd_La_law_312 ⟨(show 40 + 110 * k + 0 ≤ 601024 by omega), (show 2000 + 600 * k + 0 ≤ 7293034 by omega)⟩) hS (fun q _ h => hFc q h) hFc (fun r80 u t H1 locs ht hvm hpost hB hz1 hk1 hS => ?_)
      obtain ⟨hP1, hD1⟩ := hB
      rw [ht] at hP1
      obtain ⟨hP, hD⟩ := va_joinP (X := (moW hm mm kA v g ++ [(ob, .inl (kA 3, 1, .inr (.inl fo)))])) (cx := []) (wr := (moW hm mm kA v g ++ [(ob, .inl (kA 3, 1, .inr (.inl fo)))])) (rx := []) hP hD [] [0, 1, 2, 3, 4, 5, 6, 7, 8, 9, 10, 11, 12, 13, 14, 15, 16, 17, 18, 19, 20, 21, 22, 23, 24, 25, 26] rfl rfl (by decide) (by decide) hk1 hFc hP1 hD1
      generalize H1 = H at hP hS ⊢
      have hP : va_P D xcl ((moW hm mm kA v g ++ [(ob, .inl (kA 3, 1, .inr (.inl fo)))]) ++ rp ad E RL) H := hP
      have hD : va_D A ((moW hm mm kA v g ++ [(ob, .inl (kA 3, 1, .inr (.inl fo)))]) ++ rp ad E RL) := hD
      refine lv_pop hx hb xd_La_law_315 rfl ?_
      refine lv_aload_n hx hb xd_La_law_316 rfl (lv_at hl 2 rfl) ?_
      refine lv_aload_n hx hb xd_La_law_317 rfl (lv_at hl 4 rfl) ?_
      refine lv_iload hx hb xd_La_law_318 (lv_at hl 0 rfl) ?_
      refine lv_iconst (v := 1) hx hb xd_La_law_320 (by decide) ?_
      refine lv_iadd hx hb xd_La_law_321 ?_
      refine xn_top (y := nI (i + 1)) (nI_add i 1) ?_
      refine va_sld (i := nI (i + 1)) hx hb hX hbl hbA hS (vp_in_nI (by omega) (by omega)) xd_La_law_322 ?_
      refine lv_aload_n hx hb xd_La_law_323 rfl (lv_at hl 4 rfl) ?_
      refine lv_iload hx hb xd_La_law_324 (lv_at hl 0 rfl) ?_
      refine lv_iconst (v := 2) hx hb xd_La_law_326 (by decide) ?_
      refine lv_iadd hx hb xd_La_law_327 ?_
      refine xn_top (y := nI (i + 2)) (nI_add i 2) ?_
      refine va_sld (i := nI (i + 2)) hx hb hX hbl hbA hS (vp_in_nI (by omega) (by omega)) xd_La_law_328 ?_
      have hPc := xp_PL (xp_PL hP)
      have hDc := xp_DL (xp_DL hD)
      have hFc := va_free (wc := moW hm mm kA v g) hD hS hA [0, 1, 2, 3, 4, 5, 6, 7, 8, 9, 10, 11, 12, 13, 14, 15, 16, 17, 18, 19, 20, 21, 22, 23, 24, 25] rfl
      refine va_calli (va_runV (As := [.int (xs (nI (i + 1)).toNatClampNeg), .int (xs (nI (i + 2)).toNatClampNeg)]) (rest := []) ⟨hx, hb, hml, hown, hT⟩ (xc_Mo_module l D kA H.size hm mm v g (xs (nI (i + 1)).toNatClampNeg) (xs (nI (i + 2)).toNatClampNeg) hMI) (cwV 2 hT (wT_V za_62 za_63 za_64 za_9 za_61) rfl rfl rfl (by decide +kernel) ⟨Nat.le_of_ble_eq_true rfl, Nat.le_of_ble_eq_true rfl⟩) (x_preV hK hPc hDc 0 rfl rfl) rfl rfl hl.1 rfl (lv_room (Nat.le_of_ble_eq_true rfl)) xd_La_law_329 ⟨(show 40 + 110 * k + 0 ≤ 601024 by omega), (show 2000 + 600 * k + 0 ≤ 7293034 by omega)⟩) hS (fun q _ h => hFc q h) hFc (fun r81 u t H1 locs ht hvm hpost hB hz1 hk1 hS => ?_)
      obtain ⟨v82, g83⟩ := u
      obtain ⟨hP1, hD1⟩ := hB
      rw [ht] at hP1
      obtain ⟨hP, hD⟩ := va_joinQ (X := (moW hm mm kA v g ++ [(ob, .inl (kA 3, 1, .inr (.inl fo)))])) (cx := moW hm mm kA v g) (wr := [(ob, .inl (kA 3, 1, .inr (.inl fo)))]) (w1 := moW hm mm kA v82 g83) hP hD [0, 1, 2, 3, 4, 5, 6, 7, 8, 9, 10, 11, 12, 13, 14, 15, 16, 17, 18, 19, 20, 21, 22, 23, 24, 25] [26] rfl rfl (by decide) (by decide) hk1 hFc hP1 hD1
      have hP := xp_swP hP
      have hD := xp_swD hD
      generalize H1 = H at hP hS ⊢
      have hP : va_P D xcl ((moW hm mm kA v82 g83 ++ [(ob, .inl (kA 3, 1, .inr (.inl fo)))]) ++ rp ad E RL) H := hP
      have hD : va_D A ((moW hm mm kA v82 g83 ++ [(ob, .inl (kA 3, 1, .inr (.inl fo)))]) ++ rp ad E RL) := hD
      obtain ⟨hMI, hw9⟩ := hpost
      have hv2 : v82 2 = nI len := hw9.trans hv2
      refine lv_pop hx hb xd_La_law_332 rfl ?_
      refine lv_goto (tgt := 541) hx hb xd_La_law_333 (by decide) ?_
      refine W.widen (k := 40 + 110 * (k + 1)) (n := 2000 + 600 * (k + 1)) (show 40 + 110 * k ≤ 40 + 110 * (k + 1) by omega) (show 2000 + 600 * k ≤ 2000 + 600 * (k + 1) by omega) ?_
      refine lv_iinc (k := 0) (x := (nI i)) (v := (nI (i + 5))) hx hb xd_La_law_541 hl rfl (xb_inc i 5) (Nat.le_of_ble_eq_true rfl) rfl (fun ls hl => ?_)
      have hl : lv_has ls 7 [(4, .int (nI (i + 5))), (3, .ref ob), (2, .ref hm), (1, .ref (ad 0 0)), (0, .ref b0)] := hl
      refine lv_goto (tgt := 23) hx hb xd_La_law_544 (by decide) ?_
      exact ih1 (i + 5, k + 1, ad, E, RL, v82, g83, fo, ml, nd, len, wn, cs) _ _ _ (show 600 - (k + 1) < 600 - k by omega) (lv_sub hl [0, 1, 2, 3, 4] rfl) hP hD hS ⟨(show (i + 5) = 5 * (k + 1) from by first | assumption | omega), (show (i + 5) ≤ L ∨ (i + 5) = 0 from by first | assumption | omega), (show CI kA ad E RL ml nd len wn cs from hCI), (show MI v82 g83 from hMI), (show v82 2 = nI len from hv2)⟩
    by_cases hw84 : ((xs (nI i).toNatClampNeg) &&& 15) = 8
    · refine lv_tableIn (off := 297) (tgt := 336) hx hb xd_La_law_39 (by rw [hw84]; decide) (by rw [hw84]; decide) (by rw [hw84]; rfl) (by decide) ?_
      refine lv_aload_n hx hb xd_La_law_336 rfl (lv_at hl 3 rfl) ?_
      refine lv_aload_n hx hb xd_La_law_337 rfl (lv_at hl 4 rfl) ?_
      refine lv_iload hx hb xd_La_law_338 (lv_at hl 0 rfl) ?_
      refine lv_iconst (v := 1) hx hb xd_La_law_340 (by decide) ?_
      refine lv_iadd hx hb xd_La_law_341 ?_
      refine xn_top (y := nI (i + 1)) (nI_add i 1) ?_
      refine va_sld (i := nI (i + 1)) hx hb hX hbl hbA hS (vp_in_nI (by omega) (by omega)) xd_La_law_342 ?_
      refine lv_aload_n hx hb xd_La_law_343 rfl (lv_at hl 4 rfl) ?_
      refine lv_iload hx hb xd_La_law_344 (lv_at hl 0 rfl) ?_
      refine lv_iconst (v := 2) hx hb xd_La_law_346 (by decide) ?_
      refine lv_iadd hx hb xd_La_law_347 ?_
      refine xn_top (y := nI (i + 2)) (nI_add i 2) ?_
      refine va_sld (i := nI (i + 2)) hx hb hX hbl hbA hS (vp_in_nI (by omega) (by omega)) xd_La_law_348 ?_
      refine lv_aload_n hx hb xd_La_law_349 rfl (lv_at hl 4 rfl) ?_
      refine lv_iload hx hb xd_La_law_350 (lv_at hl 0 rfl) ?_
      refine lv_iconst (v := 3) hx hb xd_La_law_352 (by decide) ?_
      refine lv_iadd hx hb xd_La_law_353 ?_
      refine xn_top (y := nI (i + 3)) (nI_add i 3) ?_
      refine va_sld (i := nI (i + 3)) hx hb hX hbl hbA hS (vp_in_nI (by omega) (by omega)) xd_La_law_354 ?_
      refine lv_aload_n hx hb xd_La_law_355 rfl (lv_at hl 4 rfl) ?_
      refine lv_iload hx hb xd_La_law_356 (lv_at hl 0 rfl) ?_
      refine lv_iconst (v := 4) hx hb xd_La_law_358 (by decide) ?_
      refine lv_iadd hx hb xd_La_law_359 ?_
      refine xn_top (y := nI (i + 4)) (nI_add i 4) ?_
      refine va_sld (i := nI (i + 4)) hx hb hX hbl hbA hS (vp_in_nI (by omega) (by omega)) xd_La_law_360 ?_
      have hPc := xp_P (X := (moW hm mm kA v g ++ [(ob, .inl (kA 3, 1, .inr (.inl fo)))])) hP
      have hDc := xp_D (X := (moW hm mm kA v g ++ [(ob, .inl (kA 3, 1, .inr (.inl fo)))])) hD
      have hFc := va_freeP (X := (moW hm mm kA v g ++ [(ob, .inl (kA 3, 1, .inr (.inl fo)))])) (cx := []) hD hS hA [] rfl
      obtain ⟨lf, hc0⟩ := hCI.2.1
      refine va_calli (va_runV (As := [.int (xs (nI (i + 1)).toNatClampNeg), .int (xs (nI (i + 2)).toNatClampNeg), .int (xs (nI (i + 3)).toNatClampNeg), .int (xs (nI (i + 4)).toNatClampNeg)]) (rest := []) ⟨hx, hb, hml, hown, hT⟩ (xc_De_reads l D kA H.size ad E RL ml nd len wn cs (xs (nI (i + 1)).toNatClampNeg) (xs (nI (i + 2)).toNatClampNeg) (xs (nI (i + 3)).toNatClampNeg) (xs (nI (i + 4)).toNatClampNeg) hCI) (cwV 4 hT (wT_V za_66 za_67 za_68 za_4 za_65) rfl rfl rfl (by decide +kernel) ⟨Nat.le_of_ble_eq_true rfl, Nat.le_of_ble_eq_true rfl⟩) (px_preV hK hPc hDc (hCI.1 0 (by omega)) hc0 rfl) rfl rfl hl.1 rfl (lv_room (Nat.le_of_ble_eq_true rfl)) xd_La_law_361 ⟨(show 40 + 110 * k + 0 ≤ 601024 by omega), (show 2000 + 600 * k + 0 ≤ 7293034 by omega)⟩) hS (fun q _ h => hFc q h) hFc (fun r85 u t H1 locs ht hvm hpost hB hz1 hk1 hS => ?_)
      obtain ⟨hP1, hD1⟩ := hB
      rw [ht] at hP1
      obtain ⟨hP, hD⟩ := va_joinP (X := (moW hm mm kA v g ++ [(ob, .inl (kA 3, 1, .inr (.inl fo)))])) (cx := []) (wr := (moW hm mm kA v g ++ [(ob, .inl (kA 3, 1, .inr (.inl fo)))])) (rx := []) hP hD [] [0, 1, 2, 3, 4, 5, 6, 7, 8, 9, 10, 11, 12, 13, 14, 15, 16, 17, 18, 19, 20, 21, 22, 23, 24, 25, 26] rfl rfl (by decide) (by decide) hk1 hFc hP1 hD1
      generalize H1 = H at hP hS ⊢
      have hP : va_P D xcl ((moW hm mm kA v g ++ [(ob, .inl (kA 3, 1, .inr (.inl fo)))]) ++ rp ad E RL) H := hP
      have hD : va_D A ((moW hm mm kA v g ++ [(ob, .inl (kA 3, 1, .inr (.inl fo)))]) ++ rp ad E RL) := hD
      refine lv_pop hx hb xd_La_law_364 rfl ?_
      refine lv_aload_n hx hb xd_La_law_365 rfl (lv_at hl 2 rfl) ?_
      refine lv_aload_n hx hb xd_La_law_366 rfl (lv_at hl 4 rfl) ?_
      refine lv_iload hx hb xd_La_law_367 (lv_at hl 0 rfl) ?_
      refine lv_iconst (v := 1) hx hb xd_La_law_369 (by decide) ?_
      refine lv_iadd hx hb xd_La_law_370 ?_
      refine xn_top (y := nI (i + 1)) (nI_add i 1) ?_
      refine va_sld (i := nI (i + 1)) hx hb hX hbl hbA hS (vp_in_nI (by omega) (by omega)) xd_La_law_371 ?_
      refine lv_aload_n hx hb xd_La_law_372 rfl (lv_at hl 4 rfl) ?_
      refine lv_iload hx hb xd_La_law_373 (lv_at hl 0 rfl) ?_
      refine lv_iconst (v := 2) hx hb xd_La_law_375 (by decide) ?_
      refine lv_iadd hx hb xd_La_law_376 ?_
      refine xn_top (y := nI (i + 2)) (nI_add i 2) ?_
      refine va_sld (i := nI (i + 2)) hx hb hX hbl hbA hS (vp_in_nI (by omega) (by omega)) xd_La_law_377 ?_
      refine lv_aload_n hx hb xd_La_law_378 rfl (lv_at hl 4 rfl) ?_
      refine lv_iload hx hb xd_La_law_379 (lv_at hl 0 rfl) ?_
      refine lv_iconst (v := 3) hx hb xd_La_law_381 (by decide) ?_
      refine lv_iadd hx hb xd_La_law_382 ?_
      refine xn_top (y := nI (i + 3)) (nI_add i 3) ?_
      refine va_sld (i := nI (i + 3)) hx hb hX hbl hbA hS (vp_in_nI (by omega) (by omega)) xd_La_law_383 ?_
      refine lv_aload_n hx hb xd_La_law_384 rfl (lv_at hl 4 rfl) ?_
      refine lv_iload hx hb xd_La_law_385 (lv_at hl 0 rfl) ?_
      refine lv_iconst (v := 4) hx hb xd_La_law_387 (by decide) ?_
      refine lv_iadd hx hb xd_La_law_388 ?_
      refine xn_top (y := nI (i + 4)) (nI_add i 4) ?_
      refine va_sld (i := nI (i + 4)) hx hb hX hbl hbA hS (vp_in_nI (by omega) (by omega)) xd_La_law_389 ?_
      have hPc := xp_PL (xp_PL hP)
      have hDc := xp_DL (xp_DL hD)
      have hFc := va_free (wc := moW hm mm kA v g) hD hS hA [0, 1, 2, 3, 4, 5, 6, 7, 8, 9, 10, 11, 12, 13, 14, 15, 16, 17, 18, 19, 20, 21, 22, 23, 24, 25] rfl
      refine va_calli (va_runV (As := [.int (xs (nI (i + 1)).toNatClampNeg), .int (xs (nI (i + 2)).toNatClampNeg), .int (xs (nI (i + 3)).toNatClampNeg), .int (xs (nI (i + 4)).toNatClampNeg)]) (rest := []) ⟨hx, hb, hml, hown, hT⟩ (xc_Mo_reads l D kA H.size hm mm v g (xs (nI (i + 1)).toNatClampNeg) (xs (nI (i + 2)).toNatClampNeg) (xs (nI (i + 3)).toNatClampNeg) (xs (nI (i + 4)).toNatClampNeg) hMI) (cwV 4 hT (wT_V za_70 za_71 za_72 za_9 za_69) rfl rfl rfl (by decide +kernel) ⟨Nat.le_of_ble_eq_true rfl, Nat.le_of_ble_eq_true rfl⟩) (x_preV hK hPc hDc 0 rfl rfl) rfl rfl hl.1 rfl (lv_room (Nat.le_of_ble_eq_true rfl)) xd_La_law_390 ⟨(show 40 + 110 * k + 0 ≤ 601024 by omega), (show 2000 + 600 * k + 0 ≤ 7293034 by omega)⟩) hS (fun q _ h => hFc q h) hFc (fun r86 u t H1 locs ht hvm hpost hB hz1 hk1 hS => ?_)
      obtain ⟨v87, g88⟩ := u
      obtain ⟨hP1, hD1⟩ := hB
      rw [ht] at hP1
      obtain ⟨hP, hD⟩ := va_joinQ (X := (moW hm mm kA v g ++ [(ob, .inl (kA 3, 1, .inr (.inl fo)))])) (cx := moW hm mm kA v g) (wr := [(ob, .inl (kA 3, 1, .inr (.inl fo)))]) (w1 := moW hm mm kA v87 g88) hP hD [0, 1, 2, 3, 4, 5, 6, 7, 8, 9, 10, 11, 12, 13, 14, 15, 16, 17, 18, 19, 20, 21, 22, 23, 24, 25] [26] rfl rfl (by decide) (by decide) hk1 hFc hP1 hD1
      have hP := xp_swP hP
      have hD := xp_swD hD
      generalize H1 = H at hP hS ⊢
      have hP : va_P D xcl ((moW hm mm kA v87 g88 ++ [(ob, .inl (kA 3, 1, .inr (.inl fo)))]) ++ rp ad E RL) H := hP
      have hD : va_D A ((moW hm mm kA v87 g88 ++ [(ob, .inl (kA 3, 1, .inr (.inl fo)))]) ++ rp ad E RL) := hD
      obtain ⟨hMI, hw9⟩ := hpost
      have hv2 : v87 2 = nI len := hw9.trans hv2
      refine lv_pop hx hb xd_La_law_393 rfl ?_
      refine lv_goto (tgt := 541) hx hb xd_La_law_394 (by decide) ?_
      refine W.widen (k := 40 + 110 * (k + 1)) (n := 2000 + 600 * (k + 1)) (show 40 + 110 * k ≤ 40 + 110 * (k + 1) by omega) (show 2000 + 600 * k ≤ 2000 + 600 * (k + 1) by omega) ?_
      refine lv_iinc (k := 0) (x := (nI i)) (v := (nI (i + 5))) hx hb xd_La_law_541 hl rfl (xb_inc i 5) (Nat.le_of_ble_eq_true rfl) rfl (fun ls hl => ?_)
      have hl : lv_has ls 7 [(4, .int (nI (i + 5))), (3, .ref ob), (2, .ref hm), (1, .ref (ad 0 0)), (0, .ref b0)] := hl
      refine lv_goto (tgt := 23) hx hb xd_La_law_544 (by decide) ?_
      exact ih1 (i + 5, k + 1, ad, E, RL, v87, g88, fo, ml, nd, len, wn, cs) _ _ _ (show 600 - (k + 1) < 600 - k by omega) (lv_sub hl [0, 1, 2, 3, 4] rfl) hP hD hS ⟨(show (i + 5) = 5 * (k + 1) from by first | assumption | omega), (show (i + 5) ≤ L ∨ (i + 5) = 0 from by first | assumption | omega), (show CI kA ad E RL ml nd len wn cs from hCI), (show MI v87 g88 from hMI), (show v87 2 = nI len from hv2)⟩
    by_cases hw89 : ((xs (nI i).toNatClampNeg) &&& 15) = 9
    · refine lv_tableIn (off := 358) (tgt := 397) hx hb xd_La_law_39 (by rw [hw89]; decide) (by rw [hw89]; decide) (by rw [hw89]; rfl) (by decide) ?_
      refine lv_aload_n hx hb xd_La_law_397 rfl (lv_at hl 3 rfl) ?_
      refine lv_aload_n hx hb xd_La_law_398 rfl (lv_at hl 4 rfl) ?_
      refine lv_iload hx hb xd_La_law_399 (lv_at hl 0 rfl) ?_
      refine lv_iconst (v := 1) hx hb xd_La_law_401 (by decide) ?_
      refine lv_iadd hx hb xd_La_law_402 ?_
      refine xn_top (y := nI (i + 1)) (nI_add i 1) ?_
      refine va_sld (i := nI (i + 1)) hx hb hX hbl hbA hS (vp_in_nI (by omega) (by omega)) xd_La_law_403 ?_
      refine lv_aload_n hx hb xd_La_law_404 rfl (lv_at hl 4 rfl) ?_
      refine lv_iload hx hb xd_La_law_405 (lv_at hl 0 rfl) ?_
      refine lv_iconst (v := 2) hx hb xd_La_law_407 (by decide) ?_
      refine lv_iadd hx hb xd_La_law_408 ?_
      refine xn_top (y := nI (i + 2)) (nI_add i 2) ?_
      refine va_sld (i := nI (i + 2)) hx hb hX hbl hbA hS (vp_in_nI (by omega) (by omega)) xd_La_law_409 ?_
      refine lv_aload_n hx hb xd_La_law_410 rfl (lv_at hl 1 rfl) ?_
      have hPc : va_P D xcl ((ob, .inl (kA 3, 1, .inr (.inl fo))) :: rp ad E RL) H := xp_P (X := moW hm mm kA v g) (Y := [(ob, .inl (kA 3, 1, .inr (.inl fo)))] ++ rp ad E RL) (by rw [← List.append_assoc]; exact hP)
      have hDc : va_D A ((ob, .inl (kA 3, 1, .inr (.inl fo))) :: rp ad E RL) := xp_D (X := moW hm mm kA v g) (Y := [(ob, .inl (kA 3, 1, .inr (.inl fo)))] ++ rp ad E RL) (by rw [← List.append_assoc]; exact hD)
      have hFc := va_freeP (X := (moW hm mm kA v g ++ [(ob, .inl (kA 3, 1, .inr (.inl fo)))])) (cx := [(ob, .inl (kA 3, 1, .inr (.inl fo)))]) hD hS hA [26] rfl
      refine va_calli (vx_runSW (As := [.ref (ad 0 0), .int (xs (nI (i + 1)).toNatClampNeg), .int (xs (nI (i + 2)).toNatClampNeg), .ref ob]) (rest := []) ⟨hx, hb, hml, hown, hT⟩ (xc_La_load l hlt D kA H.size ad E RL Z ml nd len wn cs ob fo (xs (nI (i + 1)).toNatClampNeg) (xs (nI (i + 2)).toNatClampNeg) hCI) (vx_cwSW 4 hT (wT_S za_74 za_75 za_13 za_73) rfl rfl rfl (by decide +kernel) ⟨Nat.le_of_ble_eq_true rfl, Nat.le_of_ble_eq_true rfl⟩) (x_preSZ hK hPc hDc hFc (hZ.kept hS)) rfl rfl hl.1 rfl (lv_room (Nat.le_of_ble_eq_true rfl)) xd_La_law_411 ⟨(show 40 + 110 * k + 1 ≤ 601024 by omega), (show 2000 + 600 * k + 6 ≤ 7293034 by omega)⟩) hS (fun q _ h => hFc q h) hFc (fun r90 u t H1 locs ht hvm hpost hB hz1 hk1 hS => ?_)
      obtain ⟨⟨ad91, E92, RL93⟩, fo94⟩ := u
      obtain ⟨hP1, hD1⟩ := hB
      rw [ht] at hP1
      obtain ⟨hP, hD⟩ := va_joinP (X := (moW hm mm kA v g ++ [(ob, .inl (kA 3, 1, .inr (.inl fo)))])) (cx := [(ob, .inl (kA 3, 1, .inr (.inl fo)))]) (wr := moW hm mm kA v g) (rx := [(ob, .inl (kA 3, 1, .inr (.inl fo94)))]) (pl1 := rp ad91 E92 RL93) hP hD [26] [0, 1, 2, 3, 4, 5, 6, 7, 8, 9, 10, 11, 12, 13, 14, 15, 16, 17, 18, 19, 20, 21, 22, 23, 24, 25] rfl rfl (by decide) (by decide) hk1 hFc hP1 hD1
      generalize H1 = H at hP hS ⊢
      obtain ⟨⟨ml95, nd96, wn97, cs98, hCI⟩, haz⟩ := hpost
      have haz : ad91 0 0 = ad 0 0 := haz
      rw [← haz] at hl
      have hCI : CI kA ad91 E92 RL93 ml95 nd96 0 wn97 cs98 := hCI
      have hl : lv_has ls 7 [(4, .int (nI i)), (3, .ref ob), (2, .ref hm), (1, .ref (ad91 0 0)), (0, .ref b0)] := hl
      have hP : va_P D xcl ((moW hm mm kA v g ++ [(ob, .inl (kA 3, 1, .inr (.inl fo94)))]) ++ rp ad91 E92 RL93) H := hP
      have hD : va_D A ((moW hm mm kA v g ++ [(ob, .inl (kA 3, 1, .inr (.inl fo94)))]) ++ rp ad91 E92 RL93) := hD
      refine lv_istore hx hb xd_La_law_414 hl (Nat.le_of_ble_eq_true rfl) rfl (fun ls hl => ?_)
      have hl : lv_has ls 7 [(5, .int r90), (4, .int (nI i)), (3, .ref ob), (2, .ref hm), (1, .ref (ad91 0 0)), (0, .ref b0)] := hl
      refine lv_aload_n hx hb xd_La_law_416 rfl (lv_at hl 3 rfl) ?_
      refine lv_aload_n hx hb xd_La_law_417 rfl (lv_at hl 5 rfl) ?_
      refine lv_iload hx hb xd_La_law_418 (lv_at hl 1 rfl) ?_
      refine lv_iconst (v := 1) hx hb xd_La_law_420 (by decide) ?_
      refine lv_iadd hx hb xd_La_law_421 ?_
      refine xn_top (y := nI (i + 1)) (nI_add i 1) ?_
      refine va_sld (i := nI (i + 1)) hx hb hX hbl hbA hS (vp_in_nI (by omega) (by omega)) xd_La_law_422 ?_
      refine lv_aload_n hx hb xd_La_law_423 rfl (lv_at hl 5 rfl) ?_
      refine lv_iload hx hb xd_La_law_424 (lv_at hl 1 rfl) ?_
      refine lv_iconst (v := 2) hx hb xd_La_law_426 (by decide) ?_
      refine lv_iadd hx hb xd_La_law_427 ?_
      refine xn_top (y := nI (i + 2)) (nI_add i 2) ?_
      refine va_sld (i := nI (i + 2)) hx hb hX hbl hbA hS (vp_in_nI (by omega) (by omega)) xd_La_law_428 ?_
      have hPc := xp_PL (xp_PL hP)
      have hDc := xp_DL (xp_DL hD)
      have hFc := va_free (wc := moW hm mm kA v g) hD hS hA [0, 1, 2, 3, 4, 5, 6, 7, 8, 9, 10, 11, 12, 13, 14, 15, 16, 17, 18, 19, 20, 21, 22, 23, 24, 25] rfl
      refine va_calli (va_runV (As := [.int (xs (nI (i + 1)).toNatClampNeg), .int (xs (nI (i + 2)).toNatClampNeg)]) (rest := []) ⟨hx, hb, hml, hown, hT⟩ (xc_Mo_load l D kA H.size hm mm v g (xs (nI (i + 1)).toNatClampNeg) (xs (nI (i + 2)).toNatClampNeg) len hMI hv2 hl40) (cwV 2 hT (wT_V za_77 za_78 za_79 za_9 za_76) rfl rfl rfl (by decide +kernel) ⟨Nat.le_of_ble_eq_true rfl, Nat.le_of_ble_eq_true rfl⟩) (x_preV hK hPc hDc 0 rfl rfl) rfl rfl hl.1 rfl (lv_room (Nat.le_of_ble_eq_true rfl)) xd_La_law_429 ⟨(show 40 + 110 * k + 1 + 0 ≤ 601024 by omega), (show 2000 + 600 * k + 6 + 0 ≤ 7293034 by omega)⟩) hS (fun q _ h => hFc q h) hFc (fun r99 u t H1 locs ht hvm hpost hB hz1 hk1 hS => ?_)
      obtain ⟨v100, g101⟩ := u
      obtain ⟨hP1, hD1⟩ := hB
      rw [ht] at hP1
      obtain ⟨hP, hD⟩ := va_joinQ (X := (moW hm mm kA v g ++ [(ob, .inl (kA 3, 1, .inr (.inl fo94)))])) (cx := moW hm mm kA v g) (wr := [(ob, .inl (kA 3, 1, .inr (.inl fo94)))]) (w1 := moW hm mm kA v100 g101) hP hD [0, 1, 2, 3, 4, 5, 6, 7, 8, 9, 10, 11, 12, 13, 14, 15, 16, 17, 18, 19, 20, 21, 22, 23, 24, 25] [26] rfl rfl (by decide) (by decide) hk1 hFc hP1 hD1
      have hP := xp_swP hP
      have hD := xp_swD hD
      generalize H1 = H at hP hS ⊢
      have hP : va_P D xcl ((moW hm mm kA v100 g101 ++ [(ob, .inl (kA 3, 1, .inr (.inl fo94)))]) ++ rp ad91 E92 RL93) H := hP
      have hD : va_D A ((moW hm mm kA v100 g101 ++ [(ob, .inl (kA 3, 1, .inr (.inl fo94)))]) ++ rp ad91 E92 RL93) := hD
      obtain ⟨hMI, hw9⟩ := hpost
      have hv2 : v100 2 = nI 0 := hw9
      refine lv_istore hx hb xd_La_law_432 hl (Nat.le_of_ble_eq_true rfl) rfl (fun ls hl => ?_)
      have hl : lv_has ls 7 [(6, .int r99), (5, .int r90), (4, .int (nI i)), (3, .ref ob), (2, .ref hm), (1, .ref (ad91 0 0)), (0, .ref b0)] := hl
      refine lv_goto (tgt := 541) hx hb xd_La_law_434 (by decide) ?_
      refine W.widen (k := 40 + 110 * (k + 1)) (n := 2000 + 600 * (k + 1)) (show 40 + 110 * k + 1 ≤ 40 + 110 * (k + 1) by omega) (show 2000 + 600 * k + 6 ≤ 2000 + 600 * (k + 1) by omega) ?_
      refine lv_iinc (k := 2) (x := (nI i)) (v := (nI (i + 5))) hx hb xd_La_law_541 hl rfl (xb_inc i 5) (Nat.le_of_ble_eq_true rfl) rfl (fun ls hl => ?_)
      have hl : lv_has ls 7 [(4, .int (nI (i + 5))), (6, .int r99), (5, .int r90), (3, .ref ob), (2, .ref hm), (1, .ref (ad91 0 0)), (0, .ref b0)] := hl
      refine lv_goto (tgt := 23) hx hb xd_La_law_544 (by decide) ?_
      exact ih1 (i + 5, k + 1, ad91, E92, RL93, v100, g101, fo94, ml95, nd96, 0, wn97, cs98) _ _ _ (show 600 - (k + 1) < 600 - k by omega) (lv_sub hl [0, 3, 4, 5, 6] rfl) hP hD hS ⟨(show (i + 5) = 5 * (k + 1) from by first | assumption | omega), (show (i + 5) ≤ L ∨ (i + 5) = 0 from by first | assumption | omega), (show CI kA ad91 E92 RL93 ml95 nd96 0 wn97 cs98 from hCI), (show MI v100 g101 from hMI), (show v100 2 = nI 0 from hv2)⟩
    by_cases hw102 : ((xs (nI i).toNatClampNeg) &&& 15) = 10
    · refine lv_tableIn (off := 398) (tgt := 437) hx hb xd_La_law_39 (by rw [hw102]; decide) (by rw [hw102]; decide) (by rw [hw102]; rfl) (by decide) ?_
      refine lv_aload_n hx hb xd_La_law_437 rfl (lv_at hl 3 rfl) ?_
      refine lv_aload_n hx hb xd_La_law_438 rfl (lv_at hl 4 rfl) ?_
      refine lv_iload hx hb xd_La_law_439 (lv_at hl 0 rfl) ?_
      refine lv_iconst (v := 1) hx hb xd_La_law_441 (by decide) ?_
      refine lv_iadd hx hb xd_La_law_442 ?_
      refine xn_top (y := nI (i + 1)) (nI_add i 1) ?_
      refine va_sld (i := nI (i + 1)) hx hb hX hbl hbA hS (vp_in_nI (by omega) (by omega)) xd_La_law_443 ?_
      refine lv_aload_n hx hb xd_La_law_444 rfl (lv_at hl 4 rfl) ?_
      refine lv_iload hx hb xd_La_law_445 (lv_at hl 0 rfl) ?_
      refine lv_iconst (v := 2) hx hb xd_La_law_447 (by decide) ?_
      refine lv_iadd hx hb xd_La_law_448 ?_
      refine xn_top (y := nI (i + 2)) (nI_add i 2) ?_
      refine va_sld (i := nI (i + 2)) hx hb hX hbl hbA hS (vp_in_nI (by omega) (by omega)) xd_La_law_449 ?_
      refine lv_aload_n hx hb xd_La_law_450 rfl (lv_at hl 4 rfl) ?_
      refine lv_iload hx hb xd_La_law_451 (lv_at hl 0 rfl) ?_
      refine lv_iconst (v := 3) hx hb xd_La_law_453 (by decide) ?_
      refine lv_iadd hx hb xd_La_law_454 ?_
      refine xn_top (y := nI (i + 3)) (nI_add i 3) ?_
      refine va_sld (i := nI (i + 3)) hx hb hX hbl hbA hS (vp_in_nI (by omega) (by omega)) xd_La_law_455 ?_
      refine lv_aload_n hx hb xd_La_law_456 rfl (lv_at hl 4 rfl) ?_
      refine lv_iload hx hb xd_La_law_457 (lv_at hl 0 rfl) ?_
      refine lv_iconst (v := 4) hx hb xd_La_law_459 (by decide) ?_
      refine lv_iadd hx hb xd_La_law_460 ?_
      refine xn_top (y := nI (i + 4)) (nI_add i 4) ?_
      refine va_sld (i := nI (i + 4)) hx hb hX hbl hbA hS (vp_in_nI (by omega) (by omega)) xd_La_law_461 ?_
      refine lv_aload_n hx hb xd_La_law_462 rfl (lv_at hl 1 rfl) ?_
      have hPc : va_P D xcl ((ob, .inl (kA 3, 1, .inr (.inl fo))) :: rp ad E RL) H := xp_P (X := moW hm mm kA v g) (Y := [(ob, .inl (kA 3, 1, .inr (.inl fo)))] ++ rp ad E RL) (by rw [← List.append_assoc]; exact hP)
      have hDc : va_D A ((ob, .inl (kA 3, 1, .inr (.inl fo))) :: rp ad E RL) := xp_D (X := moW hm mm kA v g) (Y := [(ob, .inl (kA 3, 1, .inr (.inl fo)))] ++ rp ad E RL) (by rw [← List.append_assoc]; exact hD)
      have hFc := va_freeP (X := (moW hm mm kA v g ++ [(ob, .inl (kA 3, 1, .inr (.inl fo)))])) (cx := [(ob, .inl (kA 3, 1, .inr (.inl fo)))]) hD hS hA [26] rfl
      refine va_calli (vx_runSW (As := [.ref (ad 0 0), .int (xs (nI (i + 1)).toNatClampNeg), .int (xs (nI (i + 2)).toNatClampNeg), .int (xs (nI (i + 3)).toNatClampNeg), .int (xs (nI (i + 4)).toNatClampNeg), .ref ob]) (rest := []) ⟨hx, hb, hml, hown, hT⟩ (xc_La_peek l hlt D kA H.size ad E RL Z ml nd len wn cs ob fo (xs (nI (i + 1)).toNatClampNeg) (xs (nI (i + 2)).toNatClampNeg) (xs (nI (i + 3)).toNatClampNeg) (xs (nI (i + 4)).toNatClampNeg) hCI) (vx_cwSW 6 hT (wT_S za_81 za_82 za_13 za_80) rfl rfl rfl (by decide +kernel) ⟨Nat.le_of_ble_eq_true rfl, Nat.le_of_ble_eq_true rfl⟩) (x_preSZ hK hPc hDc hFc (hZ.kept hS)) rfl rfl hl.1 rfl (lv_room (Nat.le_of_ble_eq_true rfl)) xd_La_law_463 ⟨(show 40 + 110 * k + 1 ≤ 601024 by omega), (show 2000 + 600 * k + 6 ≤ 7293034 by omega)⟩) hS (fun q _ h => hFc q h) hFc (fun r103 u t H1 locs ht hvm hpost hB hz1 hk1 hS => ?_)
      obtain ⟨⟨ad104, E105, RL106⟩, fo107⟩ := u
      obtain ⟨hP1, hD1⟩ := hB
      rw [ht] at hP1
      obtain ⟨hP, hD⟩ := va_joinP (X := (moW hm mm kA v g ++ [(ob, .inl (kA 3, 1, .inr (.inl fo)))])) (cx := [(ob, .inl (kA 3, 1, .inr (.inl fo)))]) (wr := moW hm mm kA v g) (rx := [(ob, .inl (kA 3, 1, .inr (.inl fo107)))]) (pl1 := rp ad104 E105 RL106) hP hD [26] [0, 1, 2, 3, 4, 5, 6, 7, 8, 9, 10, 11, 12, 13, 14, 15, 16, 17, 18, 19, 20, 21, 22, 23, 24, 25] rfl rfl (by decide) (by decide) hk1 hFc hP1 hD1
      generalize H1 = H at hP hS ⊢
      obtain ⟨⟨ml108, nd109, wn110, cs111, hCI⟩, haz⟩ := hpost
      have haz : ad104 0 0 = ad 0 0 := haz
      rw [← haz] at hl
      have hCI : CI kA ad104 E105 RL106 ml108 nd109 0 wn110 cs111 := hCI
      have hl : lv_has ls 7 [(4, .int (nI i)), (3, .ref ob), (2, .ref hm), (1, .ref (ad104 0 0)), (0, .ref b0)] := hl
      have hP : va_P D xcl ((moW hm mm kA v g ++ [(ob, .inl (kA 3, 1, .inr (.inl fo107)))]) ++ rp ad104 E105 RL106) H := hP
      have hD : va_D A ((moW hm mm kA v g ++ [(ob, .inl (kA 3, 1, .inr (.inl fo107)))]) ++ rp ad104 E105 RL106) := hD
      refine lv_istore hx hb xd_La_law_466 hl (Nat.le_of_ble_eq_true rfl) rfl (fun ls hl => ?_)
      have hl : lv_has ls 7 [(5, .int r103), (4, .int (nI i)), (3, .ref ob), (2, .ref hm), (1, .ref (ad104 0 0)), (0, .ref b0)] := hl
      refine lv_aload_n hx hb xd_La_law_468 rfl (lv_at hl 3 rfl) ?_
      refine lv_aload_n hx hb xd_La_law_469 rfl (lv_at hl 5 rfl) ?_
      refine lv_iload hx hb xd_La_law_470 (lv_at hl 1 rfl) ?_
      refine lv_iconst (v := 1) hx hb xd_La_law_472 (by decide) ?_
      refine lv_iadd hx hb xd_La_law_473 ?_
      refine xn_top (y := nI (i + 1)) (nI_add i 1) ?_
      refine va_sld (i := nI (i + 1)) hx hb hX hbl hbA hS (vp_in_nI (by omega) (by omega)) xd_La_law_474 ?_
      refine lv_aload_n hx hb xd_La_law_475 rfl (lv_at hl 5 rfl) ?_
      refine lv_iload hx hb xd_La_law_476 (lv_at hl 1 rfl) ?_
      refine lv_iconst (v := 2) hx hb xd_La_law_478 (by decide) ?_
      refine lv_iadd hx hb xd_La_law_479 ?_
      refine xn_top (y := nI (i + 2)) (nI_add i 2) ?_
      refine va_sld (i := nI (i + 2)) hx hb hX hbl hbA hS (vp_in_nI (by omega) (by omega)) xd_La_law_480 ?_
      refine lv_aload_n hx hb xd_La_law_481 rfl (lv_at hl 5 rfl) ?_
      refine lv_iload hx hb xd_La_law_482 (lv_at hl 1 rfl) ?_
      refine lv_iconst (v := 3) hx hb xd_La_law_484 (by decide) ?_
      refine lv_iadd hx hb xd_La_law_485 ?_
      refine xn_top (y := nI (i + 3)) (nI_add i 3) ?_
      refine va_sld (i := nI (i + 3)) hx hb hX hbl hbA hS (vp_in_nI (by omega) (by omega)) xd_La_law_486 ?_
      refine lv_aload_n hx hb xd_La_law_487 rfl (lv_at hl 5 rfl) ?_
      refine lv_iload hx hb xd_La_law_488 (lv_at hl 1 rfl) ?_
      refine lv_iconst (v := 4) hx hb xd_La_law_490 (by decide) ?_
      refine lv_iadd hx hb xd_La_law_491 ?_
      refine xn_top (y := nI (i + 4)) (nI_add i 4) ?_
      refine va_sld (i := nI (i + 4)) hx hb hX hbl hbA hS (vp_in_nI (by omega) (by omega)) xd_La_law_492 ?_
      have hPc := xp_PL (xp_PL hP)
      have hDc := xp_DL (xp_DL hD)
      have hFc := va_free (wc := moW hm mm kA v g) hD hS hA [0, 1, 2, 3, 4, 5, 6, 7, 8, 9, 10, 11, 12, 13, 14, 15, 16, 17, 18, 19, 20, 21, 22, 23, 24, 25] rfl
      refine va_calli (va_runV (As := [.int (xs (nI (i + 1)).toNatClampNeg), .int (xs (nI (i + 2)).toNatClampNeg), .int (xs (nI (i + 3)).toNatClampNeg), .int (xs (nI (i + 4)).toNatClampNeg)]) (rest := []) ⟨hx, hb, hml, hown, hT⟩ (xc_Mo_peek l D kA H.size hm mm v g (xs (nI (i + 1)).toNatClampNeg) (xs (nI (i + 2)).toNatClampNeg) (xs (nI (i + 3)).toNatClampNeg) (xs (nI (i + 4)).toNatClampNeg) len hMI hv2 hl40) (cwV 4 hT (wT_V za_84 za_85 za_86 za_9 za_83) rfl rfl rfl (by decide +kernel) ⟨Nat.le_of_ble_eq_true rfl, Nat.le_of_ble_eq_true rfl⟩) (x_preV hK hPc hDc 0 rfl rfl) rfl rfl hl.1 rfl (lv_room (Nat.le_of_ble_eq_true rfl)) xd_La_law_493 ⟨(show 40 + 110 * k + 1 + 0 ≤ 601024 by omega), (show 2000 + 600 * k + 6 + 0 ≤ 7293034 by omega)⟩) hS (fun q _ h => hFc q h) hFc (fun r112 u t H1 locs ht hvm hpost hB hz1 hk1 hS => ?_)
      obtain ⟨v113, g114⟩ := u
      obtain ⟨hP1, hD1⟩ := hB
      rw [ht] at hP1
      obtain ⟨hP, hD⟩ := va_joinQ (X := (moW hm mm kA v g ++ [(ob, .inl (kA 3, 1, .inr (.inl fo107)))])) (cx := moW hm mm kA v g) (wr := [(ob, .inl (kA 3, 1, .inr (.inl fo107)))]) (w1 := moW hm mm kA v113 g114) hP hD [0, 1, 2, 3, 4, 5, 6, 7, 8, 9, 10, 11, 12, 13, 14, 15, 16, 17, 18, 19, 20, 21, 22, 23, 24, 25] [26] rfl rfl (by decide) (by decide) hk1 hFc hP1 hD1
      have hP := xp_swP hP
      have hD := xp_swD hD
      generalize H1 = H at hP hS ⊢
      have hP : va_P D xcl ((moW hm mm kA v113 g114 ++ [(ob, .inl (kA 3, 1, .inr (.inl fo107)))]) ++ rp ad104 E105 RL106) H := hP
      have hD : va_D A ((moW hm mm kA v113 g114 ++ [(ob, .inl (kA 3, 1, .inr (.inl fo107)))]) ++ rp ad104 E105 RL106) := hD
      obtain ⟨hMI, hw9⟩ := hpost
      have hv2 : v113 2 = nI 0 := hw9
      refine lv_istore hx hb xd_La_law_496 hl (Nat.le_of_ble_eq_true rfl) rfl (fun ls hl => ?_)
      have hl : lv_has ls 7 [(6, .int r112), (5, .int r103), (4, .int (nI i)), (3, .ref ob), (2, .ref hm), (1, .ref (ad104 0 0)), (0, .ref b0)] := hl
      refine lv_goto (tgt := 541) hx hb xd_La_law_498 (by decide) ?_
      refine W.widen (k := 40 + 110 * (k + 1)) (n := 2000 + 600 * (k + 1)) (show 40 + 110 * k + 1 ≤ 40 + 110 * (k + 1) by omega) (show 2000 + 600 * k + 6 ≤ 2000 + 600 * (k + 1) by omega) ?_
      refine lv_iinc (k := 2) (x := (nI i)) (v := (nI (i + 5))) hx hb xd_La_law_541 hl rfl (xb_inc i 5) (Nat.le_of_ble_eq_true rfl) rfl (fun ls hl => ?_)
      have hl : lv_has ls 7 [(4, .int (nI (i + 5))), (6, .int r112), (5, .int r103), (3, .ref ob), (2, .ref hm), (1, .ref (ad104 0 0)), (0, .ref b0)] := hl
      refine lv_goto (tgt := 23) hx hb xd_La_law_544 (by decide) ?_
      exact ih1 (i + 5, k + 1, ad104, E105, RL106, v113, g114, fo107, ml108, nd109, 0, wn110, cs111) _ _ _ (show 600 - (k + 1) < 600 - k by omega) (lv_sub hl [0, 3, 4, 5, 6] rfl) hP hD hS ⟨(show (i + 5) = 5 * (k + 1) from by first | assumption | omega), (show (i + 5) ≤ L ∨ (i + 5) = 0 from by first | assumption | omega), (show CI kA ad104 E105 RL106 ml108 nd109 0 wn110 cs111 from hCI), (show MI v113 g114 from hMI), (show v113 2 = nI 0 from hv2)⟩
    by_cases hw115 : ((xs (nI i).toNatClampNeg) &&& 15) = 11
    · refine lv_tableIn (off := 462) (tgt := 501) hx hb xd_La_law_39 (by rw [hw115]; decide) (by rw [hw115]; decide) (by rw [hw115]; rfl) (by decide) ?_
      refine lv_aload_n hx hb xd_La_law_501 rfl (lv_at hl 3 rfl) ?_
      refine lv_aload_n hx hb xd_La_law_502 rfl (lv_at hl 4 rfl) ?_
      refine lv_iload hx hb xd_La_law_503 (lv_at hl 0 rfl) ?_
      refine lv_iconst (v := 1) hx hb xd_La_law_505 (by decide) ?_
      refine lv_iadd hx hb xd_La_law_506 ?_
      refine xn_top (y := nI (i + 1)) (nI_add i 1) ?_
      refine va_sld (i := nI (i + 1)) hx hb hX hbl hbA hS (vp_in_nI (by omega) (by omega)) xd_La_law_507 ?_
      refine lv_aload_n hx hb xd_La_law_508 rfl (lv_at hl 4 rfl) ?_
      refine lv_iload hx hb xd_La_law_509 (lv_at hl 0 rfl) ?_
      refine lv_iconst (v := 2) hx hb xd_La_law_511 (by decide) ?_
      refine lv_iadd hx hb xd_La_law_512 ?_
      refine xn_top (y := nI (i + 2)) (nI_add i 2) ?_
      refine va_sld (i := nI (i + 2)) hx hb hX hbl hbA hS (vp_in_nI (by omega) (by omega)) xd_La_law_513 ?_
      refine lv_aload_n hx hb xd_La_law_514 rfl (lv_at hl 1 rfl) ?_
      have hPc : va_P D xcl ((ob, .inl (kA 3, 1, .inr (.inl fo))) :: rp ad E RL) H := xp_P (X := moW hm mm kA v g) (Y := [(ob, .inl (kA 3, 1, .inr (.inl fo)))] ++ rp ad E RL) (by rw [← List.append_assoc]; exact hP)
      have hDc : va_D A ((ob, .inl (kA 3, 1, .inr (.inl fo))) :: rp ad E RL) := xp_D (X := moW hm mm kA v g) (Y := [(ob, .inl (kA 3, 1, .inr (.inl fo)))] ++ rp ad E RL) (by rw [← List.append_assoc]; exact hD)
      have hFc := va_freeP (X := (moW hm mm kA v g ++ [(ob, .inl (kA 3, 1, .inr (.inl fo)))])) (cx := [(ob, .inl (kA 3, 1, .inr (.inl fo)))]) hD hS hA [26] rfl
      refine va_calli (vx_runSW (As := [.ref (ad 0 0), .int (xs (nI (i + 1)).toNatClampNeg), .int (xs (nI (i + 2)).toNatClampNeg), .ref ob]) (rest := []) ⟨hx, hb, hml, hown, hT⟩ (xc_La_provider l hlt D kA H.size ad E RL Z ml nd len wn cs ob fo (xs (nI (i + 1)).toNatClampNeg) (xs (nI (i + 2)).toNatClampNeg) hCI) (vx_cwSW 4 hT (wT_S za_88 za_89 za_13 za_87) rfl rfl rfl (by decide +kernel) ⟨Nat.le_of_ble_eq_true rfl, Nat.le_of_ble_eq_true rfl⟩) (x_preSZ hK hPc hDc hFc (hZ.kept hS)) rfl rfl hl.1 rfl (lv_room (Nat.le_of_ble_eq_true rfl)) xd_La_law_515 ⟨(show 40 + 110 * k + 1 ≤ 601024 by omega), (show 2000 + 600 * k + 6 ≤ 7293034 by omega)⟩) hS (fun q _ h => hFc q h) hFc (fun r116 u t H1 locs ht hvm hpost hB hz1 hk1 hS => ?_)
      obtain ⟨⟨ad117, E118, RL119⟩, fo120⟩ := u
      obtain ⟨hP1, hD1⟩ := hB
      rw [ht] at hP1
      obtain ⟨hP, hD⟩ := va_joinP (X := (moW hm mm kA v g ++ [(ob, .inl (kA 3, 1, .inr (.inl fo)))])) (cx := [(ob, .inl (kA 3, 1, .inr (.inl fo)))]) (wr := moW hm mm kA v g) (rx := [(ob, .inl (kA 3, 1, .inr (.inl fo120)))]) (pl1 := rp ad117 E118 RL119) hP hD [26] [0, 1, 2, 3, 4, 5, 6, 7, 8, 9, 10, 11, 12, 13, 14, 15, 16, 17, 18, 19, 20, 21, 22, 23, 24, 25] rfl rfl (by decide) (by decide) hk1 hFc hP1 hD1
      generalize H1 = H at hP hS ⊢
      obtain ⟨⟨ml121, nd122, wn123, cs124, hCI⟩, haz⟩ := hpost
      have haz : ad117 0 0 = ad 0 0 := haz
      rw [← haz] at hl
      have hCI : CI kA ad117 E118 RL119 ml121 nd122 0 wn123 cs124 := hCI
      have hl : lv_has ls 7 [(4, .int (nI i)), (3, .ref ob), (2, .ref hm), (1, .ref (ad117 0 0)), (0, .ref b0)] := hl
      have hP : va_P D xcl ((moW hm mm kA v g ++ [(ob, .inl (kA 3, 1, .inr (.inl fo120)))]) ++ rp ad117 E118 RL119) H := hP
      have hD : va_D A ((moW hm mm kA v g ++ [(ob, .inl (kA 3, 1, .inr (.inl fo120)))]) ++ rp ad117 E118 RL119) := hD
      refine lv_istore hx hb xd_La_law_518 hl (Nat.le_of_ble_eq_true rfl) rfl (fun ls hl => ?_)
      have hl : lv_has ls 7 [(5, .int r116), (4, .int (nI i)), (3, .ref ob), (2, .ref hm), (1, .ref (ad117 0 0)), (0, .ref b0)] := hl
      refine lv_aload_n hx hb xd_La_law_520 rfl (lv_at hl 3 rfl) ?_
      refine lv_aload_n hx hb xd_La_law_521 rfl (lv_at hl 5 rfl) ?_
      refine lv_iload hx hb xd_La_law_522 (lv_at hl 1 rfl) ?_
      refine lv_iconst (v := 1) hx hb xd_La_law_524 (by decide) ?_
      refine lv_iadd hx hb xd_La_law_525 ?_
      refine xn_top (y := nI (i + 1)) (nI_add i 1) ?_
      refine va_sld (i := nI (i + 1)) hx hb hX hbl hbA hS (vp_in_nI (by omega) (by omega)) xd_La_law_526 ?_
      refine lv_aload_n hx hb xd_La_law_527 rfl (lv_at hl 5 rfl) ?_
      refine lv_iload hx hb xd_La_law_528 (lv_at hl 1 rfl) ?_
      refine lv_iconst (v := 2) hx hb xd_La_law_530 (by decide) ?_
      refine lv_iadd hx hb xd_La_law_531 ?_
      refine xn_top (y := nI (i + 2)) (nI_add i 2) ?_
      refine va_sld (i := nI (i + 2)) hx hb hX hbl hbA hS (vp_in_nI (by omega) (by omega)) xd_La_law_532 ?_
      have hPc := xp_PL (xp_PL hP)
      have hDc := xp_DL (xp_DL hD)
      have hFc := va_free (wc := moW hm mm kA v g) hD hS hA [0, 1, 2, 3, 4, 5, 6, 7, 8, 9, 10, 11, 12, 13, 14, 15, 16, 17, 18, 19, 20, 21, 22, 23, 24, 25] rfl
      refine va_calli (va_runV (As := [.int (xs (nI (i + 1)).toNatClampNeg), .int (xs (nI (i + 2)).toNatClampNeg)]) (rest := []) ⟨hx, hb, hml, hown, hT⟩ (xc_Mo_provider l D kA H.size hm mm v g (xs (nI (i + 1)).toNatClampNeg) (xs (nI (i + 2)).toNatClampNeg) len hMI hv2 hl40) (cwV 2 hT (wT_V za_91 za_92 za_93 za_9 za_90) rfl rfl rfl (by decide +kernel) ⟨Nat.le_of_ble_eq_true rfl, Nat.le_of_ble_eq_true rfl⟩) (x_preV hK hPc hDc 0 rfl rfl) rfl rfl hl.1 rfl (lv_room (Nat.le_of_ble_eq_true rfl)) xd_La_law_533 ⟨(show 40 + 110 * k + 1 + 0 ≤ 601024 by omega), (show 2000 + 600 * k + 6 + 0 ≤ 7293034 by omega)⟩) hS (fun q _ h => hFc q h) hFc (fun r125 u t H1 locs ht hvm hpost hB hz1 hk1 hS => ?_)
      obtain ⟨v126, g127⟩ := u
      obtain ⟨hP1, hD1⟩ := hB
      rw [ht] at hP1
      obtain ⟨hP, hD⟩ := va_joinQ (X := (moW hm mm kA v g ++ [(ob, .inl (kA 3, 1, .inr (.inl fo120)))])) (cx := moW hm mm kA v g) (wr := [(ob, .inl (kA 3, 1, .inr (.inl fo120)))]) (w1 := moW hm mm kA v126 g127) hP hD [0, 1, 2, 3, 4, 5, 6, 7, 8, 9, 10, 11, 12, 13, 14, 15, 16, 17, 18, 19, 20, 21, 22, 23, 24, 25] [26] rfl rfl (by decide) (by decide) hk1 hFc hP1 hD1
      have hP := xp_swP hP
      have hD := xp_swD hD
      generalize H1 = H at hP hS ⊢
      have hP : va_P D xcl ((moW hm mm kA v126 g127 ++ [(ob, .inl (kA 3, 1, .inr (.inl fo120)))]) ++ rp ad117 E118 RL119) H := hP
      have hD : va_D A ((moW hm mm kA v126 g127 ++ [(ob, .inl (kA 3, 1, .inr (.inl fo120)))]) ++ rp ad117 E118 RL119) := hD
      obtain ⟨hMI, hw9⟩ := hpost
      have hv2 : v126 2 = nI 0 := hw9
      refine lv_istore hx hb xd_La_law_536 hl (Nat.le_of_ble_eq_true rfl) rfl (fun ls hl => ?_)
      have hl : lv_has ls 7 [(6, .int r125), (5, .int r116), (4, .int (nI i)), (3, .ref ob), (2, .ref hm), (1, .ref (ad117 0 0)), (0, .ref b0)] := hl
      refine lv_goto (tgt := 541) hx hb xd_La_law_538 (by decide) ?_
      refine W.widen (k := 40 + 110 * (k + 1)) (n := 2000 + 600 * (k + 1)) (show 40 + 110 * k + 1 ≤ 40 + 110 * (k + 1) by omega) (show 2000 + 600 * k + 6 ≤ 2000 + 600 * (k + 1) by omega) ?_
      refine lv_iinc (k := 2) (x := (nI i)) (v := (nI (i + 5))) hx hb xd_La_law_541 hl rfl (xb_inc i 5) (Nat.le_of_ble_eq_true rfl) rfl (fun ls hl => ?_)
      have hl : lv_has ls 7 [(4, .int (nI (i + 5))), (6, .int r125), (5, .int r116), (3, .ref ob), (2, .ref hm), (1, .ref (ad117 0 0)), (0, .ref b0)] := hl
      refine lv_goto (tgt := 23) hx hb xd_La_law_544 (by decide) ?_
      exact ih1 (i + 5, k + 1, ad117, E118, RL119, v126, g127, fo120, ml121, nd122, 0, wn123, cs124) _ _ _ (show 600 - (k + 1) < 600 - k by omega) (lv_sub hl [0, 3, 4, 5, 6] rfl) hP hD hS ⟨(show (i + 5) = 5 * (k + 1) from by first | assumption | omega), (show (i + 5) ≤ L ∨ (i + 5) = 0 from by first | assumption | omega), (show CI kA ad117 E118 RL119 ml121 nd122 0 wn123 cs124 from hCI), (show MI v126 g127 from hMI), (show v126 2 = nI 0 from hv2)⟩
    refine lv_tableOut (tgt := 541) hx hb xd_La_law_39 (by have a0 := lv_neT hw3 (show (0 : Int32).toInt = 0 by decide); have a1 := lv_neT hw11 (show (1 : Int32).toInt = 1 by decide); have a2 := lv_neT hw24 (show (2 : Int32).toInt = 2 by decide); have a3 := lv_neT hw58 (show (3 : Int32).toInt = 3 by decide); have a4 := lv_neT hw63 (show (4 : Int32).toInt = 4 by decide); have a5 := lv_neT hw69 (show (5 : Int32).toInt = 5 by decide); have a6 := lv_neT hw74 (show (6 : Int32).toInt = 6 by decide); have a7 := lv_neT hw79 (show (7 : Int32).toInt = 7 by decide); have a8 := lv_neT hw84 (show (8 : Int32).toInt = 8 by decide); have a9 := lv_neT hw89 (show (9 : Int32).toInt = 9 by decide); have a10 := lv_neT hw102 (show (10 : Int32).toInt = 10 by decide); have a11 := lv_neT hw115 (show (11 : Int32).toInt = 11 by decide); omega) (by decide) ?_
    refine W.widen (k := 40 + 110 * (k + 1)) (n := 2000 + 600 * (k + 1)) (show 40 + 110 * k ≤ 40 + 110 * (k + 1) by omega) (show 2000 + 600 * k ≤ 2000 + 600 * (k + 1) by omega) ?_
    refine lv_iinc (k := 0) (x := (nI i)) (v := (nI (i + 5))) hx hb xd_La_law_541 hl rfl (xb_inc i 5) (Nat.le_of_ble_eq_true rfl) rfl (fun ls hl => ?_)
    have hl : lv_has ls 7 [(4, .int (nI (i + 5))), (3, .ref ob), (2, .ref hm), (1, .ref (ad 0 0)), (0, .ref b0)] := hl
    refine lv_goto (tgt := 23) hx hb xd_La_law_544 (by decide) ?_
    exact ih1 (i + 5, k + 1, ad, E, RL, v, g, fo, ml, nd, len, wn, cs) _ _ _ (show 600 - (k + 1) < 600 - k by omega) (lv_sub hl [0, 1, 2, 3, 4] rfl) hP hD hS ⟨(show (i + 5) = 5 * (k + 1) from by first | assumption | omega), (show (i + 5) ≤ L ∨ (i + 5) = 0 from by first | assumption | omega), (show CI kA ad E RL ml nd len wn cs from hCI), (show MI v g from hMI), (show v 2 = nI len from hv2)⟩
