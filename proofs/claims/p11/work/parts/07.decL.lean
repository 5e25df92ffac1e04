/-! DECODE ROWS, by program -/
theorem d_Law_law_0 : decode code 0 = .ok (.new 8, 3) := by decide +kernel
theorem d_Law_law_3 : decode code 3 = .ok (.dup, 1) := by decide +kernel
theorem d_Law_law_4 : decode code 4 = .ok (.invokespecial 15, 3) := by decide +kernel
theorem d_Law_law_7 : decode code 7 = .ok (.astore_n 1, 1) := by decide +kernel
theorem d_Law_law_8 : decode code 8 = .ok (.new 16, 3) := by decide +kernel
theorem d_Law_law_11 : decode code 11 = .ok (.dup, 1) := by decide +kernel
theorem d_Law_law_12 : decode code 12 = .ok (.invokespecial 18, 3) := by decide +kernel
theorem d_Law_law_15 : decode code 15 = .ok (.astore_n 2, 1) := by decide +kernel
theorem d_Law_law_16 : decode code 16 = .ok (.iconst 1, 1) := by decide +kernel
theorem d_Law_law_17 : decode code 17 = .ok (.newarray .long, 2) := by decide +kernel
theorem d_Law_law_19 : decode code 19 = .ok (.astore_n 3, 1) := by decide +kernel
theorem d_Law_law_20 : decode code 20 = .ok (.iconst 0, 1) := by decide +kernel
theorem d_Law_law_21 : decode code 21 = .ok (.istore 4, 2) := by decide +kernel
theorem d_Law_law_23 : decode code 23 = .ok (.iload 4, 2) := by decide +kernel
theorem d_Law_law_25 : decode code 25 = .ok (.aload_n 0, 1) := by decide +kernel
theorem d_Law_law_26 : decode code 26 = .ok (.arraylength, 1) := by decide +kernel
theorem d_Law_law_27 : decode code 27 = .ok (.bipush 7, 2) := by decide +kernel
theorem d_Law_law_29 : decode code 29 = .ok (.isub, 1) := by decide +kernel
theorem d_Law_law_30 : decode code 30 = .ok (.if_icmp .gt 690, 3) := by decide +kernel
theorem d_Law_law_33 : decode code 33 = .ok (.aload_n 0, 1) := by decide +kernel
theorem d_Law_law_34 : decode code 34 = .ok (.iload 4, 2) := by decide +kernel
theorem d_Law_law_36 : decode code 36 = .ok (.iaload, 1) := by decide +kernel
theorem d_Law_law_37 : decode code 37 = .ok (.bipush 15, 2) := by decide +kernel
theorem d_Law_law_39 : decode code 39 = .ok (.iand, 1) := by decide +kernel
theorem d_Law_law_40 : decode code 40 = .ok (.tableswitch 674 0 10 #[60, 183, 290, 347, 384, 409, 466, 506, 543, 612, 649], 60) := by decide +kernel
theorem d_Law_law_100 : decode code 100 = .ok (.aload_n 1, 1) := by decide +kernel
theorem d_Law_law_101 : decode code 101 = .ok (.aload_n 0, 1) := by decide +kernel
theorem d_Law_law_102 : decode code 102 = .ok (.iload 4, 2) := by decide +kernel
theorem d_Law_law_104 : decode code 104 = .ok (.iconst 1, 1) := by decide +kernel
theorem d_Law_law_105 : decode code 105 = .ok (.iadd, 1) := by decide +kernel
theorem d_Law_law_106 : decode code 106 = .ok (.iaload, 1) := by decide +kernel
theorem d_Law_law_107 : decode code 107 = .ok (.aload_n 0, 1) := by decide +kernel
theorem d_Law_law_108 : decode code 108 = .ok (.iload 4, 2) := by decide +kernel
theorem d_Law_law_110 : decode code 110 = .ok (.iconst 2, 1) := by decide +kernel
theorem d_Law_law_111 : decode code 111 = .ok (.iadd, 1) := by decide +kernel
theorem d_Law_law_112 : decode code 112 = .ok (.iaload, 1) := by decide +kernel
theorem d_Law_law_113 : decode code 113 = .ok (.aload_n 0, 1) := by decide +kernel
theorem d_Law_law_114 : decode code 114 = .ok (.iload 4, 2) := by decide +kernel
theorem d_Law_law_116 : decode code 116 = .ok (.iconst 3, 1) := by decide +kernel
theorem d_Law_law_117 : decode code 117 = .ok (.iadd, 1) := by decide +kernel
theorem d_Law_law_118 : decode code 118 = .ok (.iaload, 1) := by decide +kernel
theorem d_Law_law_119 : decode code 119 = .ok (.aload_n 0, 1) := by decide +kernel
theorem d_Law_law_120 : decode code 120 = .ok (.iload 4, 2) := by decide +kernel
theorem d_Law_law_122 : decode code 122 = .ok (.iconst 4, 1) := by decide +kernel
theorem d_Law_law_123 : decode code 123 = .ok (.iadd, 1) := by decide +kernel
theorem d_Law_law_124 : decode code 124 = .ok (.iaload, 1) := by decide +kernel
theorem d_Law_law_125 : decode code 125 = .ok (.i2l, 1) := by decide +kernel
theorem d_Law_law_126 : decode code 126 = .ok (.bipush 32, 2) := by decide +kernel
theorem d_Law_law_128 : decode code 128 = .ok (.lshl, 1) := by decide +kernel
theorem d_Law_law_129 : decode code 129 = .ok (.aload_n 0, 1) := by decide +kernel
theorem d_Law_law_130 : decode code 130 = .ok (.iload 4, 2) := by decide +kernel
theorem d_Law_law_132 : decode code 132 = .ok (.iconst 5, 1) := by decide +kernel
theorem d_Law_law_133 : decode code 133 = .ok (.iadd, 1) := by decide +kernel
theorem d_Law_law_134 : decode code 134 = .ok (.iaload, 1) := by decide +kernel
theorem d_Law_law_135 : decode code 135 = .ok (.i2l, 1) := by decide +kernel
theorem d_Law_law_136 : decode code 136 = .ok (.ldc2_w 19, 3) := by decide +kernel
theorem d_Law_law_139 : decode code 139 = .ok (.land, 1) := by decide +kernel
theorem d_Law_law_140 : decode code 140 = .ok (.lor, 1) := by decide +kernel
theorem d_Law_law_141 : decode code 141 = .ok (.aload_n 0, 1) := by decide +kernel
theorem d_Law_law_142 : decode code 142 = .ok (.iload 4, 2) := by decide +kernel
theorem d_Law_law_144 : decode code 144 = .ok (.bipush 6, 2) := by decide +kernel
theorem d_Law_law_146 : decode code 146 = .ok (.iadd, 1) := by decide +kernel
theorem d_Law_law_147 : decode code 147 = .ok (.iaload, 1) := by decide +kernel
theorem d_Law_law_148 : decode code 148 = .ok (.ifCond .eq 7, 3) := by decide +kernel
theorem d_Law_law_151 : decode code 151 = .ok (.iconst 1, 1) := by decide +kernel
theorem d_Law_law_152 : decode code 152 = .ok (.goto 4, 3) := by decide +kernel
theorem d_Law_law_155 : decode code 155 = .ok (.iconst 0, 1) := by decide +kernel
theorem d_Law_law_156 : decode code 156 = .ok (.invokevirtual 21, 3) := by decide +kernel
theorem d_Law_law_159 : decode code 159 = .ok (.pop, 1) := by decide +kernel
theorem d_Law_law_160 : decode code 160 = .ok (.aload_n 2, 1) := by decide +kernel
theorem d_Law_law_161 : decode code 161 = .ok (.aload_n 0, 1) := by decide +kernel
theorem d_Law_law_162 : decode code 162 = .ok (.iload 4, 2) := by decide +kernel
theorem d_Law_law_164 : decode code 164 = .ok (.iconst 1, 1) := by decide +kernel
theorem d_Law_law_165 : decode code 165 = .ok (.iadd, 1) := by decide +kernel
theorem d_Law_law_166 : decode code 166 = .ok (.iaload, 1) := by decide +kernel
theorem d_Law_law_167 : decode code 167 = .ok (.aload_n 0, 1) := by decide +kernel
theorem d_Law_law_168 : decode code 168 = .ok (.iload 4, 2) := by decide +kernel
theorem d_Law_law_170 : decode code 170 = .ok (.iconst 2, 1) := by decide +kernel
theorem d_Law_law_171 : decode code 171 = .ok (.iadd, 1) := by decide +kernel
theorem d_Law_law_172 : decode code 172 = .ok (.iaload, 1) := by decide +kernel
theorem d_Law_law_173 : decode code 173 = .ok (.aload_n 0, 1) := by decide +kernel
theorem d_Law_law_174 : decode code 174 = .ok (.iload 4, 2) := by decide +kernel
theorem d_Law_law_176 : decode code 176 = .ok (.iconst 3, 1) := by decide +kernel
theorem d_Law_law_177 : decode code 177 = .ok (.iadd, 1) := by decide +kernel
theorem d_Law_law_178 : decode code 178 = .ok (.iaload, 1) := by decide +kernel
theorem d_Law_law_179 : decode code 179 = .ok (.aload_n 0, 1) := by decide +kernel
theorem d_Law_law_180 : decode code 180 = .ok (.iload 4, 2) := by decide +kernel
theorem d_Law_law_182 : decode code 182 = .ok (.iconst 4, 1) := by decide +kernel
theorem d_Law_law_183 : decode code 183 = .ok (.iadd, 1) := by decide +kernel
theorem d_Law_law_184 : decode code 184 = .ok (.iaload, 1) := by decide +kernel
theorem d_Law_law_185 : decode code 185 = .ok (.i2l, 1) := by decide +kernel
theorem d_Law_law_186 : decode code 186 = .ok (.bipush 32, 2) := by decide +kernel
theorem d_Law_law_188 : decode code 188 = .ok (.lshl, 1) := by decide +kernel
theorem d_Law_law_189 : decode code 189 = .ok (.aload_n 0, 1) := by decide +kernel
theorem d_Law_law_190 : decode code 190 = .ok (.iload 4, 2) := by decide +kernel
theorem d_Law_law_192 : decode code 192 = .ok (.iconst 5, 1) := by decide +kernel
theorem d_Law_law_193 : decode code 193 = .ok (.iadd, 1) := by decide +kernel
theorem d_Law_law_194 : decode code 194 = .ok (.iaload, 1) := by decide +kernel
theorem d_Law_law_195 : decode code 195 = .ok (.i2l, 1) := by decide +kernel
theorem d_Law_law_196 : decode code 196 = .ok (.ldc2_w 19, 3) := by decide +kernel
theorem d_Law_law_199 : decode code 199 = .ok (.land, 1) := by decide +kernel
theorem d_Law_law_200 : decode code 200 = .ok (.lor, 1) := by decide +kernel
theorem d_Law_law_201 : decode code 201 = .ok (.aload_n 0, 1) := by decide +kernel
theorem d_Law_law_202 : decode code 202 = .ok (.iload 4, 2) := by decide +kernel
theorem d_Law_law_204 : decode code 204 = .ok (.bipush 6, 2) := by decide +kernel
theorem d_Law_law_206 : decode code 206 = .ok (.iadd, 1) := by decide +kernel
theorem d_Law_law_207 : decode code 207 = .ok (.iaload, 1) := by decide +kernel
theorem d_Law_law_208 : decode code 208 = .ok (.ifCond .eq 7, 3) := by decide +kernel
theorem d_Law_law_211 : decode code 211 = .ok (.iconst 1, 1) := by decide +kernel
theorem d_Law_law_212 : decode code 212 = .ok (.goto 4, 3) := by decide +kernel
theorem d_Law_law_215 : decode code 215 = .ok (.iconst 0, 1) := by decide +kernel
theorem d_Law_law_216 : decode code 216 = .ok (.invokevirtual 25, 3) := by decide +kernel
theorem d_Law_law_219 : decode code 219 = .ok (.pop, 1) := by decide +kernel
theorem d_Law_law_220 : decode code 220 = .ok (.goto 494, 3) := by decide +kernel
theorem d_Law_law_223 : decode code 223 = .ok (.aload_n 1, 1) := by decide +kernel
theorem d_Law_law_224 : decode code 224 = .ok (.aload_n 0, 1) := by decide +kernel
theorem d_Law_law_225 : decode code 225 = .ok (.iload 4, 2) := by decide +kernel
theorem d_Law_law_227 : decode code 227 = .ok (.iconst 1, 1) := by decide +kernel
theorem d_Law_law_228 : decode code 228 = .ok (.iadd, 1) := by decide +kernel
theorem d_Law_law_229 : decode code 229 = .ok (.iaload, 1) := by decide +kernel
theorem d_Law_law_230 : decode code 230 = .ok (.aload_n 0, 1) := by decide +kernel
theorem d_Law_law_231 : decode code 231 = .ok (.iload 4, 2) := by decide +kernel
theorem d_Law_law_233 : decode code 233 = .ok (.iconst 2, 1) := by decide +kernel
theorem d_Law_law_234 : decode code 234 = .ok (.iadd, 1) := by decide +kernel
theorem d_Law_law_235 : decode code 235 = .ok (.iaload, 1) := by decide +kernel
theorem d_Law_law_236 : decode code 236 = .ok (.aload_n 0, 1) := by decide +kernel
theorem d_Law_law_237 : decode code 237 = .ok (.iload 4, 2) := by decide +kernel
theorem d_Law_law_239 : decode code 239 = .ok (.iconst 3, 1) := by decide +kernel
theorem d_Law_law_240 : decode code 240 = .ok (.iadd, 1) := by decide +kernel
theorem d_Law_law_241 : decode code 241 = .ok (.iaload, 1) := by decide +kernel
theorem d_Law_law_242 : decode code 242 = .ok (.aload_n 0, 1) := by decide +kernel
theorem d_Law_law_243 : decode code 243 = .ok (.iload 4, 2) := by decide +kernel
theorem d_Law_law_245 : decode code 245 = .ok (.iconst 4, 1) := by decide +kernel
theorem d_Law_law_246 : decode code 246 = .ok (.iadd, 1) := by decide +kernel
theorem d_Law_law_247 : decode code 247 = .ok (.iaload, 1) := by decide +kernel
theorem d_Law_law_248 : decode code 248 = .ok (.aload_n 0, 1) := by decide +kernel
theorem d_Law_law_249 : decode code 249 = .ok (.iload 4, 2) := by decide +kernel
theorem d_Law_law_251 : decode code 251 = .ok (.iconst 5, 1) := by decide +kernel
theorem d_Law_law_252 : decode code 252 = .ok (.iadd, 1) := by decide +kernel
theorem d_Law_law_253 : decode code 253 = .ok (.iaload, 1) := by decide +kernel
theorem d_Law_law_254 : decode code 254 = .ok (.i2l, 1) := by decide +kernel
theorem d_Law_law_255 : decode code 255 = .ok (.bipush 32, 2) := by decide +kernel
theorem d_Law_law_257 : decode code 257 = .ok (.lshl, 1) := by decide +kernel
theorem d_Law_law_258 : decode code 258 = .ok (.aload_n 0, 1) := by decide +kernel
theorem d_Law_law_259 : decode code 259 = .ok (.iload 4, 2) := by decide +kernel
theorem d_Law_law_261 : decode code 261 = .ok (.bipush 6, 2) := by decide +kernel
theorem d_Law_law_263 : decode code 263 = .ok (.iadd, 1) := by decide +kernel
theorem d_Law_law_264 : decode code 264 = .ok (.iaload, 1) := by decide +kernel
theorem d_Law_law_265 : decode code 265 = .ok (.i2l, 1) := by decide +kernel
theorem d_Law_law_266 : decode code 266 = .ok (.ldc2_w 19, 3) := by decide +kernel
theorem d_Law_law_269 : decode code 269 = .ok (.land, 1) := by decide +kernel
theorem d_Law_law_270 : decode code 270 = .ok (.lor, 1) := by decide +kernel
theorem d_Law_law_271 : decode code 271 = .ok (.invokevirtual 26, 3) := by decide +kernel
theorem d_Law_law_274 : decode code 274 = .ok (.pop, 1) := by decide +kernel
theorem d_Law_law_275 : decode code 275 = .ok (.aload_n 2, 1) := by decide +kernel
theorem d_Law_law_276 : decode code 276 = .ok (.aload_n 0, 1) := by decide +kernel
theorem d_Law_law_277 : decode code 277 = .ok (.iload 4, 2) := by decide +kernel
theorem d_Law_law_279 : decode code 279 = .ok (.iconst 1, 1) := by decide +kernel
theorem d_Law_law_280 : decode code 280 = .ok (.iadd, 1) := by decide +kernel
theorem d_Law_law_281 : decode code 281 = .ok (.iaload, 1) := by decide +kernel
theorem d_Law_law_282 : decode code 282 = .ok (.aload_n 0, 1) := by decide +kernel
theorem d_Law_law_283 : decode code 283 = .ok (.iload 4, 2) := by decide +kernel
theorem d_Law_law_285 : decode code 285 = .ok (.iconst 2, 1) := by decide +kernel
theorem d_Law_law_286 : decode code 286 = .ok (.iadd, 1) := by decide +kernel
theorem d_Law_law_287 : decode code 287 = .ok (.iaload, 1) := by decide +kernel
theorem d_Law_law_288 : decode code 288 = .ok (.aload_n 0, 1) := by decide +kernel
theorem d_Law_law_289 : decode code 289 = .ok (.iload 4, 2) := by decide +kernel
theorem d_Law_law_291 : decode code 291 = .ok (.iconst 3, 1) := by decide +kernel
theorem d_Law_law_292 : decode code 292 = .ok (.iadd, 1) := by decide +kernel
theorem d_Law_law_293 : decode code 293 = .ok (.iaload, 1) := by decide +kernel
theorem d_Law_law_294 : decode code 294 = .ok (.aload_n 0, 1) := by decide +kernel
theorem d_Law_law_295 : decode code 295 = .ok (.iload 4, 2) := by decide +kernel
theorem d_Law_law_297 : decode code 297 = .ok (.iconst 4, 1) := by decide +kernel
theorem d_Law_law_298 : decode code 298 = .ok (.iadd, 1) := by decide +kernel
theorem d_Law_law_299 : decode code 299 = .ok (.iaload, 1) := by decide +kernel
theorem d_Law_law_300 : decode code 300 = .ok (.aload_n 0, 1) := by decide +kernel
theorem d_Law_law_301 : decode code 301 = .ok (.iload 4, 2) := by decide +kernel
theorem d_Law_law_303 : decode code 303 = .ok (.iconst 5, 1) := by decide +kernel
theorem d_Law_law_304 : decode code 304 = .ok (.iadd, 1) := by decide +kernel
theorem d_Law_law_305 : decode code 305 = .ok (.iaload, 1) := by decide +kernel
theorem d_Law_law_306 : decode code 306 = .ok (.i2l, 1) := by decide +kernel
theorem d_Law_law_307 : decode code 307 = .ok (.bipush 32, 2) := by decide +kernel
theorem d_Law_law_309 : decode code 309 = .ok (.lshl, 1) := by decide +kernel
theorem d_Law_law_310 : decode code 310 = .ok (.aload_n 0, 1) := by decide +kernel
theorem d_Law_law_311 : decode code 311 = .ok (.iload 4, 2) := by decide +kernel
theorem d_Law_law_313 : decode code 313 = .ok (.bipush 6, 2) := by decide +kernel
theorem d_Law_law_315 : decode code 315 = .ok (.iadd, 1) := by decide +kernel
theorem d_Law_law_316 : decode code 316 = .ok (.iaload, 1) := by decide +kernel
theorem d_Law_law_317 : decode code 317 = .ok (.i2l, 1) := by decide +kernel
theorem d_Law_law_318 : decode code 318 = .ok (.ldc2_w 19, 3) := by decide +kernel
theorem d_Law_law_321 : decode code 321 = .ok (.land, 1) := by decide +kernel
theorem d_Law_law_322 : decode code 322 = .ok (.lor, 1) := by decide +kernel
theorem d_Law_law_323 : decode code 323 = .ok (.invokevirtual 30, 3) := by decide +kernel
theorem d_Law_law_326 : decode code 326 = .ok (.pop, 1) := by decide +kernel
theorem d_Law_law_327 : decode code 327 = .ok (.goto 387, 3) := by decide +kernel
theorem d_Law_law_330 : decode code 330 = .ok (.aload_n 1, 1) := by decide +kernel
theorem d_Law_law_331 : decode code 331 = .ok (.aload_n 0, 1) := by decide +kernel
theorem d_Law_law_332 : decode code 332 = .ok (.iload 4, 2) := by decide +kernel
theorem d_Law_law_334 : decode code 334 = .ok (.iconst 1, 1) := by decide +kernel
theorem d_Law_law_335 : decode code 335 = .ok (.iadd, 1) := by decide +kernel
theorem d_Law_law_336 : decode code 336 = .ok (.iaload, 1) := by decide +kernel
theorem d_Law_law_337 : decode code 337 = .ok (.i2l, 1) := by decide +kernel
theorem d_Law_law_338 : decode code 338 = .ok (.bipush 32, 2) := by decide +kernel
theorem d_Law_law_340 : decode code 340 = .ok (.lshl, 1) := by decide +kernel
theorem d_Law_law_341 : decode code 341 = .ok (.aload_n 0, 1) := by decide +kernel
theorem d_Law_law_342 : decode code 342 = .ok (.iload 4, 2) := by decide +kernel
theorem d_Law_law_344 : decode code 344 = .ok (.iconst 2, 1) := by decide +kernel
theorem d_Law_law_345 : decode code 345 = .ok (.iadd, 1) := by decide +kernel
theorem d_Law_law_346 : decode code 346 = .ok (.iaload, 1) := by decide +kernel
theorem d_Law_law_347 : decode code 347 = .ok (.i2l, 1) := by decide +kernel
theorem d_Law_law_348 : decode code 348 = .ok (.ldc2_w 19, 3) := by decide +kernel
theorem d_Law_law_351 : decode code 351 = .ok (.land, 1) := by decide +kernel
theorem d_Law_law_352 : decode code 352 = .ok (.lor, 1) := by decide +kernel
theorem d_Law_law_353 : decode code 353 = .ok (.invokevirtual 31, 3) := by decide +kernel
theorem d_Law_law_356 : decode code 356 = .ok (.pop, 1) := by decide +kernel
theorem d_Law_law_357 : decode code 357 = .ok (.aload_n 2, 1) := by decide +kernel
theorem d_Law_law_358 : decode code 358 = .ok (.aload_n 0, 1) := by decide +kernel
theorem d_Law_law_359 : decode code 359 = .ok (.iload 4, 2) := by decide +kernel
theorem d_Law_law_361 : decode code 361 = .ok (.iconst 1, 1) := by decide +kernel
theorem d_Law_law_362 : decode code 362 = .ok (.iadd, 1) := by decide +kernel
theorem d_Law_law_363 : decode code 363 = .ok (.iaload, 1) := by decide +kernel
theorem d_Law_law_364 : decode code 364 = .ok (.i2l, 1) := by decide +kernel
theorem d_Law_law_365 : decode code 365 = .ok (.bipush 32, 2) := by decide +kernel
theorem d_Law_law_367 : decode code 367 = .ok (.lshl, 1) := by decide +kernel
theorem d_Law_law_368 : decode code 368 = .ok (.aload_n 0, 1) := by decide +kernel
theorem d_Law_law_369 : decode code 369 = .ok (.iload 4, 2) := by decide +kernel
theorem d_Law_law_371 : decode code 371 = .ok (.iconst 2, 1) := by decide +kernel
theorem d_Law_law_372 : decode code 372 = .ok (.iadd, 1) := by decide +kernel
theorem d_Law_law_373 : decode code 373 = .ok (.iaload, 1) := by decide +kernel
theorem d_Law_law_374 : decode code 374 = .ok (.i2l, 1) := by decide +kernel
theorem d_Law_law_375 : decode code 375 = .ok (.ldc2_w 19, 3) := by decide +kernel
theorem d_Law_law_378 : decode code 378 = .ok (.land, 1) := by decide +kernel
theorem d_Law_law_379 : decode code 379 = .ok (.lor, 1) := by decide +kernel
theorem d_Law_law_380 : decode code 380 = .ok (.invokevirtual 35, 3) := by decide +kernel
theorem d_Law_law_383 : decode code 383 = .ok (.pop, 1) := by decide +kernel
theorem d_Law_law_384 : decode code 384 = .ok (.goto 330, 3) := by decide +kernel
theorem d_Law_law_387 : decode code 387 = .ok (.aload_n 1, 1) := by decide +kernel
theorem d_Law_law_388 : decode code 388 = .ok (.aload_n 0, 1) := by decide +kernel
theorem d_Law_law_389 : decode code 389 = .ok (.iload 4, 2) := by decide +kernel
theorem d_Law_law_391 : decode code 391 = .ok (.iconst 1, 1) := by decide +kernel
theorem d_Law_law_392 : decode code 392 = .ok (.iadd, 1) := by decide +kernel
theorem d_Law_law_393 : decode code 393 = .ok (.iaload, 1) := by decide +kernel
theorem d_Law_law_394 : decode code 394 = .ok (.aload_n 0, 1) := by decide +kernel
theorem d_Law_law_395 : decode code 395 = .ok (.iload 4, 2) := by decide +kernel
theorem d_Law_law_397 : decode code 397 = .ok (.iconst 2, 1) := by decide +kernel
theorem d_Law_law_398 : decode code 398 = .ok (.iadd, 1) := by decide +kernel
theorem d_Law_law_399 : decode code 399 = .ok (.iaload, 1) := by decide +kernel
theorem d_Law_law_400 : decode code 400 = .ok (.invokevirtual 36, 3) := by decide +kernel
theorem d_Law_law_403 : decode code 403 = .ok (.pop, 1) := by decide +kernel
theorem d_Law_law_404 : decode code 404 = .ok (.aload_n 2, 1) := by decide +kernel
theorem d_Law_law_405 : decode code 405 = .ok (.aload_n 0, 1) := by decide +kernel
theorem d_Law_law_406 : decode code 406 = .ok (.iload 4, 2) := by decide +kernel
theorem d_Law_law_408 : decode code 408 = .ok (.iconst 1, 1) := by decide +kernel
theorem d_Law_law_409 : decode code 409 = .ok (.iadd, 1) := by decide +kernel
theorem d_Law_law_410 : decode code 410 = .ok (.iaload, 1) := by decide +kernel
theorem d_Law_law_411 : decode code 411 = .ok (.aload_n 0, 1) := by decide +kernel
theorem d_Law_law_412 : decode code 412 = .ok (.iload 4, 2) := by decide +kernel
theorem d_Law_law_414 : decode code 414 = .ok (.iconst 2, 1) := by decide +kernel
theorem d_Law_law_415 : decode code 415 = .ok (.iadd, 1) := by decide +kernel
theorem d_Law_law_416 : decode code 416 = .ok (.iaload, 1) := by decide +kernel
theorem d_Law_law_417 : decode code 417 = .ok (.invokevirtual 40, 3) := by decide +kernel
theorem d_Law_law_420 : decode code 420 = .ok (.pop, 1) := by decide +kernel
theorem d_Law_law_421 : decode code 421 = .ok (.goto 293, 3) := by decide +kernel
theorem d_Law_law_424 : decode code 424 = .ok (.aload_n 1, 1) := by decide +kernel
theorem d_Law_law_425 : decode code 425 = .ok (.aload_n 0, 1) := by decide +kernel
theorem d_Law_law_426 : decode code 426 = .ok (.iload 4, 2) := by decide +kernel
theorem d_Law_law_428 : decode code 428 = .ok (.iconst 1, 1) := by decide +kernel
theorem d_Law_law_429 : decode code 429 = .ok (.iadd, 1) := by decide +kernel
theorem d_Law_law_430 : decode code 430 = .ok (.iaload, 1) := by decide +kernel
theorem d_Law_law_431 : decode code 431 = .ok (.invokevirtual 41, 3) := by decide +kernel
theorem d_Law_law_434 : decode code 434 = .ok (.pop, 1) := by decide +kernel
theorem d_Law_law_435 : decode code 435 = .ok (.aload_n 2, 1) := by decide +kernel
theorem d_Law_law_436 : decode code 436 = .ok (.aload_n 0, 1) := by decide +kernel
theorem d_Law_law_437 : decode code 437 = .ok (.iload 4, 2) := by decide +kernel
theorem d_Law_law_439 : decode code 439 = .ok (.iconst 1, 1) := by decide +kernel
theorem d_Law_law_440 : decode code 440 = .ok (.iadd, 1) := by decide +kernel
theorem d_Law_law_441 : decode code 441 = .ok (.iaload, 1) := by decide +kernel
theorem d_Law_law_442 : decode code 442 = .ok (.invokevirtual 45, 3) := by decide +kernel
theorem d_Law_law_445 : decode code 445 = .ok (.pop, 1) := by decide +kernel
theorem d_Law_law_446 : decode code 446 = .ok (.goto 268, 3) := by decide +kernel
theorem d_Law_law_449 : decode code 449 = .ok (.aload_n 1, 1) := by decide +kernel
theorem d_Law_law_450 : decode code 450 = .ok (.aload_n 0, 1) := by decide +kernel
theorem d_Law_law_451 : decode code 451 = .ok (.iload 4, 2) := by decide +kernel
theorem d_Law_law_453 : decode code 453 = .ok (.iconst 1, 1) := by decide +kernel
theorem d_Law_law_454 : decode code 454 = .ok (.iadd, 1) := by decide +kernel
theorem d_Law_law_455 : decode code 455 = .ok (.iaload, 1) := by decide +kernel
theorem d_Law_law_456 : decode code 456 = .ok (.i2l, 1) := by decide +kernel
theorem d_Law_law_457 : decode code 457 = .ok (.bipush 32, 2) := by decide +kernel
theorem d_Law_law_459 : decode code 459 = .ok (.lshl, 1) := by decide +kernel
theorem d_Law_law_460 : decode code 460 = .ok (.aload_n 0, 1) := by decide +kernel
theorem d_Law_law_461 : decode code 461 = .ok (.iload 4, 2) := by decide +kernel
theorem d_Law_law_463 : decode code 463 = .ok (.iconst 2, 1) := by decide +kernel
theorem d_Law_law_464 : decode code 464 = .ok (.iadd, 1) := by decide +kernel
theorem d_Law_law_465 : decode code 465 = .ok (.iaload, 1) := by decide +kernel
theorem d_Law_law_466 : decode code 466 = .ok (.i2l, 1) := by decide +kernel
theorem d_Law_law_467 : decode code 467 = .ok (.ldc2_w 19, 3) := by decide +kernel
theorem d_Law_law_470 : decode code 470 = .ok (.land, 1) := by decide +kernel
theorem d_Law_law_471 : decode code 471 = .ok (.lor, 1) := by decide +kernel
theorem d_Law_law_472 : decode code 472 = .ok (.invokevirtual 46, 3) := by decide +kernel
theorem d_Law_law_475 : decode code 475 = .ok (.pop, 1) := by decide +kernel
theorem d_Law_law_476 : decode code 476 = .ok (.aload_n 2, 1) := by decide +kernel
theorem d_Law_law_477 : decode code 477 = .ok (.aload_n 0, 1) := by decide +kernel
theorem d_Law_law_478 : decode code 478 = .ok (.iload 4, 2) := by decide +kernel
theorem d_Law_law_480 : decode code 480 = .ok (.iconst 1, 1) := by decide +kernel
theorem d_Law_law_481 : decode code 481 = .ok (.iadd, 1) := by decide +kernel
theorem d_Law_law_482 : decode code 482 = .ok (.iaload, 1) := by decide +kernel
theorem d_Law_law_483 : decode code 483 = .ok (.i2l, 1) := by decide +kernel
theorem d_Law_law_484 : decode code 484 = .ok (.bipush 32, 2) := by decide +kernel
theorem d_Law_law_486 : decode code 486 = .ok (.lshl, 1) := by decide +kernel
theorem d_Law_law_487 : decode code 487 = .ok (.aload_n 0, 1) := by decide +kernel
theorem d_Law_law_488 : decode code 488 = .ok (.iload 4, 2) := by decide +kernel
theorem d_Law_law_490 : decode code 490 = .ok (.iconst 2, 1) := by decide +kernel
theorem d_Law_law_491 : decode code 491 = .ok (.iadd, 1) := by decide +kernel
theorem d_Law_law_492 : decode code 492 = .ok (.iaload, 1) := by decide +kernel
theorem d_Law_law_493 : decode code 493 = .ok (.i2l, 1) := by decide +kernel
theorem d_Law_law_494 : decode code 494 = .ok (.ldc2_w 19, 3) := by decide +kernel
theorem d_Law_law_497 : decode code 497 = .ok (.land, 1) := by decide +kernel
theorem d_Law_law_498 : decode code 498 = .ok (.lor, 1) := by decide +kernel
theorem d_Law_law_499 : decode code 499 = .ok (.invokevirtual 49, 3) := by decide +kernel
theorem d_Law_law_502 : decode code 502 = .ok (.pop, 1) := by decide +kernel
theorem d_Law_law_503 : decode code 503 = .ok (.goto 211, 3) := by decide +kernel
theorem d_Law_law_506 : decode code 506 = .ok (.aload_n 1, 1) := by decide +kernel
theorem d_Law_law_507 : decode code 507 = .ok (.aload_n 0, 1) := by decide +kernel
theorem d_Law_law_508 : decode code 508 = .ok (.iload 4, 2) := by decide +kernel
theorem d_Law_law_510 : decode code 510 = .ok (.iconst 1, 1) := by decide +kernel
theorem d_Law_law_511 : decode code 511 = .ok (.iadd, 1) := by decide +kernel
theorem d_Law_law_512 : decode code 512 = .ok (.iaload, 1) := by decide +kernel
theorem d_Law_law_513 : decode code 513 = .ok (.aload_n 0, 1) := by decide +kernel
theorem d_Law_law_514 : decode code 514 = .ok (.iload 4, 2) := by decide +kernel
theorem d_Law_law_516 : decode code 516 = .ok (.iconst 2, 1) := by decide +kernel
theorem d_Law_law_517 : decode code 517 = .ok (.iadd, 1) := by decide +kernel
theorem d_Law_law_518 : decode code 518 = .ok (.iaload, 1) := by decide +kernel
theorem d_Law_law_519 : decode code 519 = .ok (.aload_n 3, 1) := by decide +kernel
theorem d_Law_law_520 : decode code 520 = .ok (.invokestatic 50, 3) := by decide +kernel
theorem d_Law_law_523 : decode code 523 = .ok (.istore 5, 2) := by decide +kernel
theorem d_Law_law_525 : decode code 525 = .ok (.aload_n 2, 1) := by decide +kernel
theorem d_Law_law_526 : decode code 526 = .ok (.aload_n 0, 1) := by decide +kernel
theorem d_Law_law_527 : decode code 527 = .ok (.iload 4, 2) := by decide +kernel
theorem d_Law_law_529 : decode code 529 = .ok (.iconst 1, 1) := by decide +kernel
theorem d_Law_law_530 : decode code 530 = .ok (.iadd, 1) := by decide +kernel
theorem d_Law_law_531 : decode code 531 = .ok (.iaload, 1) := by decide +kernel
theorem d_Law_law_532 : decode code 532 = .ok (.aload_n 0, 1) := by decide +kernel
theorem d_Law_law_533 : decode code 533 = .ok (.iload 4, 2) := by decide +kernel
theorem d_Law_law_535 : decode code 535 = .ok (.iconst 2, 1) := by decide +kernel
theorem d_Law_law_536 : decode code 536 = .ok (.iadd, 1) := by decide +kernel
theorem d_Law_law_537 : decode code 537 = .ok (.iaload, 1) := by decide +kernel
theorem d_Law_law_538 : decode code 538 = .ok (.invokevirtual 55, 3) := by decide +kernel
theorem d_Law_law_541 : decode code 541 = .ok (.lstore 6, 2) := by decide +kernel
theorem d_Law_law_543 : decode code 543 = .ok (.goto 171, 3) := by decide +kernel
theorem d_Law_law_546 : decode code 546 = .ok (.aload_n 1, 1) := by decide +kernel
theorem d_Law_law_547 : decode code 547 = .ok (.aload_n 0, 1) := by decide +kernel
theorem d_Law_law_548 : decode code 548 = .ok (.iload 4, 2) := by decide +kernel
theorem d_Law_law_550 : decode code 550 = .ok (.iconst 1, 1) := by decide +kernel
theorem d_Law_law_551 : decode code 551 = .ok (.iadd, 1) := by decide +kernel
theorem d_Law_law_552 : decode code 552 = .ok (.iaload, 1) := by decide +kernel
theorem d_Law_law_553 : decode code 553 = .ok (.aload_n 0, 1) := by decide +kernel
theorem d_Law_law_554 : decode code 554 = .ok (.iload 4, 2) := by decide +kernel
theorem d_Law_law_556 : decode code 556 = .ok (.iconst 2, 1) := by decide +kernel
theorem d_Law_law_557 : decode code 557 = .ok (.iadd, 1) := by decide +kernel
theorem d_Law_law_558 : decode code 558 = .ok (.iaload, 1) := by decide +kernel
theorem d_Law_law_559 : decode code 559 = .ok (.invokevirtual 56, 3) := by decide +kernel
theorem d_Law_law_562 : decode code 562 = .ok (.pop2, 1) := by decide +kernel
theorem d_Law_law_563 : decode code 563 = .ok (.aload_n 2, 1) := by decide +kernel
theorem d_Law_law_564 : decode code 564 = .ok (.aload_n 0, 1) := by decide +kernel
theorem d_Law_law_565 : decode code 565 = .ok (.iload 4, 2) := by decide +kernel
theorem d_Law_law_567 : decode code 567 = .ok (.iconst 1, 1) := by decide +kernel
theorem d_Law_law_568 : decode code 568 = .ok (.iadd, 1) := by decide +kernel
theorem d_Law_law_569 : decode code 569 = .ok (.iaload, 1) := by decide +kernel
theorem d_Law_law_570 : decode code 570 = .ok (.aload_n 0, 1) := by decide +kernel
theorem d_Law_law_571 : decode code 571 = .ok (.iload 4, 2) := by decide +kernel
theorem d_Law_law_573 : decode code 573 = .ok (.iconst 2, 1) := by decide +kernel
theorem d_Law_law_574 : decode code 574 = .ok (.iadd, 1) := by decide +kernel
theorem d_Law_law_575 : decode code 575 = .ok (.iaload, 1) := by decide +kernel
theorem d_Law_law_576 : decode code 576 = .ok (.invokevirtual 59, 3) := by decide +kernel
theorem d_Law_law_579 : decode code 579 = .ok (.pop2, 1) := by decide +kernel
theorem d_Law_law_580 : decode code 580 = .ok (.goto 134, 3) := by decide +kernel
theorem d_Law_law_583 : decode code 583 = .ok (.aload_n 1, 1) := by decide +kernel
theorem d_Law_law_584 : decode code 584 = .ok (.aload_n 0, 1) := by decide +kernel
theorem d_Law_law_585 : decode code 585 = .ok (.iload 4, 2) := by decide +kernel
theorem d_Law_law_587 : decode code 587 = .ok (.iconst 1, 1) := by decide +kernel
theorem d_Law_law_588 : decode code 588 = .ok (.iadd, 1) := by decide +kernel
theorem d_Law_law_589 : decode code 589 = .ok (.iaload, 1) := by decide +kernel
theorem d_Law_law_590 : decode code 590 = .ok (.aload_n 0, 1) := by decide +kernel
theorem d_Law_law_591 : decode code 591 = .ok (.iload 4, 2) := by decide +kernel
theorem d_Law_law_593 : decode code 593 = .ok (.iconst 2, 1) := by decide +kernel
theorem d_Law_law_594 : decode code 594 = .ok (.iadd, 1) := by decide +kernel
theorem d_Law_law_595 : decode code 595 = .ok (.iaload, 1) := by decide +kernel
theorem d_Law_law_596 : decode code 596 = .ok (.i2l, 1) := by decide +kernel
theorem d_Law_law_597 : decode code 597 = .ok (.bipush 32, 2) := by decide +kernel
theorem d_Law_law_599 : decode code 599 = .ok (.lshl, 1) := by decide +kernel
theorem d_Law_law_600 : decode code 600 = .ok (.aload_n 0, 1) := by decide +kernel
theorem d_Law_law_601 : decode code 601 = .ok (.iload 4, 2) := by decide +kernel
theorem d_Law_law_603 : decode code 603 = .ok (.iconst 3, 1) := by decide +kernel
theorem d_Law_law_604 : decode code 604 = .ok (.iadd, 1) := by decide +kernel
theorem d_Law_law_605 : decode code 605 = .ok (.iaload, 1) := by decide +kernel
theorem d_Law_law_606 : decode code 606 = .ok (.i2l, 1) := by decide +kernel
theorem d_Law_law_607 : decode code 607 = .ok (.ldc2_w 19, 3) := by decide +kernel
theorem d_Law_law_610 : decode code 610 = .ok (.land, 1) := by decide +kernel
theorem d_Law_law_611 : decode code 611 = .ok (.lor, 1) := by decide +kernel
theorem d_Law_law_612 : decode code 612 = .ok (.invokevirtual 60, 3) := by decide +kernel
theorem d_Law_law_615 : decode code 615 = .ok (.pop, 1) := by decide +kernel
theorem d_Law_law_616 : decode code 616 = .ok (.aload_n 2, 1) := by decide +kernel
theorem d_Law_law_617 : decode code 617 = .ok (.aload_n 0, 1) := by decide +kernel
theorem d_Law_law_618 : decode code 618 = .ok (.iload 4, 2) := by decide +kernel
theorem d_Law_law_620 : decode code 620 = .ok (.iconst 1, 1) := by decide +kernel
theorem d_Law_law_621 : decode code 621 = .ok (.iadd, 1) := by decide +kernel
theorem d_Law_law_622 : decode code 622 = .ok (.iaload, 1) := by decide +kernel
theorem d_Law_law_623 : decode code 623 = .ok (.aload_n 0, 1) := by decide +kernel
theorem d_Law_law_624 : decode code 624 = .ok (.iload 4, 2) := by decide +kernel
theorem d_Law_law_626 : decode code 626 = .ok (.iconst 2, 1) := by decide +kernel
theorem d_Law_law_627 : decode code 627 = .ok (.iadd, 1) := by decide +kernel
theorem d_Law_law_628 : decode code 628 = .ok (.iaload, 1) := by decide +kernel
theorem d_Law_law_629 : decode code 629 = .ok (.i2l, 1) := by decide +kernel
theorem d_Law_law_630 : decode code 630 = .ok (.bipush 32, 2) := by decide +kernel
theorem d_Law_law_632 : decode code 632 = .ok (.lshl, 1) := by decide +kernel
theorem d_Law_law_633 : decode code 633 = .ok (.aload_n 0, 1) := by decide +kernel
theorem d_Law_law_634 : decode code 634 = .ok (.iload 4, 2) := by decide +kernel
theorem d_Law_law_636 : decode code 636 = .ok (.iconst 3, 1) := by decide +kernel
theorem d_Law_law_637 : decode code 637 = .ok (.iadd, 1) := by decide +kernel
theorem d_Law_law_638 : decode code 638 = .ok (.iaload, 1) := by decide +kernel
theorem d_Law_law_639 : decode code 639 = .ok (.i2l, 1) := by decide +kernel
theorem d_Law_law_640 : decode code 640 = .ok (.ldc2_w 19, 3) := by decide +kernel
theorem d_Law_law_643 : decode code 643 = .ok (.land, 1) := by decide +kernel
theorem d_Law_law_644 : decode code 644 = .ok (.lor, 1) := by decide +kernel
theorem d_Law_law_645 : decode code 645 = .ok (.invokevirtual 64, 3) := by decide +kernel
theorem d_Law_law_648 : decode code 648 = .ok (.pop, 1) := by decide +kernel
theorem d_Law_law_649 : decode code 649 = .ok (.goto 65, 3) := by decide +kernel
theorem d_Law_law_652 : decode code 652 = .ok (.aload_n 1, 1) := by decide +kernel
theorem d_Law_law_653 : decode code 653 = .ok (.aload_n 0, 1) := by decide +kernel
theorem d_Law_law_654 : decode code 654 = .ok (.iload 4, 2) := by decide +kernel
theorem d_Law_law_656 : decode code 656 = .ok (.iconst 1, 1) := by decide +kernel
theorem d_Law_law_657 : decode code 657 = .ok (.iadd, 1) := by decide +kernel
theorem d_Law_law_658 : decode code 658 = .ok (.iaload, 1) := by decide +kernel
theorem d_Law_law_659 : decode code 659 = .ok (.aload_n 0, 1) := by decide +kernel
theorem d_Law_law_660 : decode code 660 = .ok (.iload 4, 2) := by decide +kernel
theorem d_Law_law_662 : decode code 662 = .ok (.iconst 2, 1) := by decide +kernel
theorem d_Law_law_663 : decode code 663 = .ok (.iadd, 1) := by decide +kernel
theorem d_Law_law_664 : decode code 664 = .ok (.iaload, 1) := by decide +kernel
theorem d_Law_law_665 : decode code 665 = .ok (.invokevirtual 65, 3) := by decide +kernel
theorem d_Law_law_668 : decode code 668 = .ok (.aload_n 2, 1) := by decide +kernel
theorem d_Law_law_669 : decode code 669 = .ok (.aload_n 0, 1) := by decide +kernel
theorem d_Law_law_670 : decode code 670 = .ok (.iload 4, 2) := by decide +kernel
theorem d_Law_law_672 : decode code 672 = .ok (.iconst 1, 1) := by decide +kernel
theorem d_Law_law_673 : decode code 673 = .ok (.iadd, 1) := by decide +kernel
theorem d_Law_law_674 : decode code 674 = .ok (.iaload, 1) := by decide +kernel
theorem d_Law_law_675 : decode code 675 = .ok (.aload_n 0, 1) := by decide +kernel
theorem d_Law_law_676 : decode code 676 = .ok (.iload 4, 2) := by decide +kernel
theorem d_Law_law_678 : decode code 678 = .ok (.iconst 2, 1) := by decide +kernel
theorem d_Law_law_679 : decode code 679 = .ok (.iadd, 1) := by decide +kernel
theorem d_Law_law_680 : decode code 680 = .ok (.iaload, 1) := by decide +kernel
theorem d_Law_law_681 : decode code 681 = .ok (.invokevirtual 68, 3) := by decide +kernel
theorem d_Law_law_684 : decode code 684 = .ok (.if_icmp .eq 30, 3) := by decide +kernel
theorem d_Law_law_687 : decode code 687 = .ok (.iconst 0, 1) := by decide +kernel
theorem d_Law_law_688 : decode code 688 = .ok (.ireturn, 1) := by decide +kernel
theorem d_Law_law_689 : decode code 689 = .ok (.aload_n 1, 1) := by decide +kernel
theorem d_Law_law_690 : decode code 690 = .ok (.aload_n 0, 1) := by decide +kernel
theorem d_Law_law_691 : decode code 691 = .ok (.iload 4, 2) := by decide +kernel
theorem d_Law_law_693 : decode code 693 = .ok (.iconst 1, 1) := by decide +kernel
theorem d_Law_law_694 : decode code 694 = .ok (.iadd, 1) := by decide +kernel
theorem d_Law_law_695 : decode code 695 = .ok (.iaload, 1) := by decide +kernel
theorem d_Law_law_696 : decode code 696 = .ok (.invokevirtual 69, 3) := by decide +kernel
theorem d_Law_law_699 : decode code 699 = .ok (.pop, 1) := by decide +kernel
theorem d_Law_law_700 : decode code 700 = .ok (.aload_n 2, 1) := by decide +kernel
theorem d_Law_law_701 : decode code 701 = .ok (.aload_n 0, 1) := by decide +kernel
theorem d_Law_law_702 : decode code 702 = .ok (.iload 4, 2) := by decide +kernel
theorem d_Law_law_704 : decode code 704 = .ok (.iconst 1, 1) := by decide +kernel
theorem d_Law_law_705 : decode code 705 = .ok (.iadd, 1) := by decide +kernel
theorem d_Law_law_706 : decode code 706 = .ok (.iaload, 1) := by decide +kernel
theorem d_Law_law_707 : decode code 707 = .ok (.invokevirtual 72, 3) := by decide +kernel
theorem d_Law_law_710 : decode code 710 = .ok (.pop, 1) := by decide +kernel
theorem d_Law_law_711 : decode code 711 = .ok (.goto 3, 3) := by decide +kernel
theorem d_Law_law_714 : decode code 714 = .ok (.iinc 4 7, 3) := by decide +kernel
theorem d_Law_law_717 : decode code 717 = .ok (.goto (-694), 3) := by decide +kernel
theorem d_Law_law_720 : decode code 720 = .ok (.iconst 1, 1) := by decide +kernel
theorem d_Law_law_721 : decode code 721 = .ok (.ireturn, 1) := by decide +kernel
