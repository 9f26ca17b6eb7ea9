theorem d_law_0 : decode code 0 = .ok (.new 7, 3) := by decide +kernel
theorem d_law_3 : decode code 3 = .ok (.dup, 1) := by decide +kernel
theorem d_law_4 : decode code 4 = .ok (.invokespecial 9, 3) := by decide +kernel
theorem d_law_7 : decode code 7 = .ok (.astore_n 1, 1) := by decide +kernel
theorem d_law_8 : decode code 8 = .ok (.new 10, 3) := by decide +kernel
theorem d_law_11 : decode code 11 = .ok (.dup, 1) := by decide +kernel
theorem d_law_12 : decode code 12 = .ok (.invokespecial 12, 3) := by decide +kernel
theorem d_law_15 : decode code 15 = .ok (.astore_n 2, 1) := by decide +kernel
theorem d_law_16 : decode code 16 = .ok (.iconst 0, 1) := by decide +kernel
theorem d_law_17 : decode code 17 = .ok (.istore_n 3, 1) := by decide +kernel
theorem d_law_18 : decode code 18 = .ok (.iload_n 3, 1) := by decide +kernel
theorem d_law_19 : decode code 19 = .ok (.aload_n 0, 1) := by decide +kernel
theorem d_law_20 : decode code 20 = .ok (.arraylength, 1) := by decide +kernel
theorem d_law_21 : decode code 21 = .ok (.bipush 6, 2) := by decide +kernel
theorem d_law_23 : decode code 23 = .ok (.isub, 1) := by decide +kernel
theorem d_law_24 : decode code 24 = .ok (.if_icmp .gt 515, 3) := by decide +kernel
theorem d_law_27 : decode code 27 = .ok (.aload_n 0, 1) := by decide +kernel
theorem d_law_28 : decode code 28 = .ok (.iload_n 3, 1) := by decide +kernel
theorem d_law_29 : decode code 29 = .ok (.iaload, 1) := by decide +kernel
theorem d_law_30 : decode code 30 = .ok (.bipush 15, 2) := by decide +kernel
theorem d_law_32 : decode code 32 = .ok (.iand, 1) := by decide +kernel
theorem d_law_33 : decode code 33 = .ok (.tableswitch 500 0 14 #[75, 118, 141, 164, 177, 200, 223, 246, 289, 312, 335, 378, 441, 464, 477], 75) := by decide +kernel
theorem d_law_108 : decode code 108 = .ok (.aload_n 1, 1) := by decide +kernel
theorem d_law_109 : decode code 109 = .ok (.aload_n 0, 1) := by decide +kernel
theorem d_law_110 : decode code 110 = .ok (.iload_n 3, 1) := by decide +kernel
theorem d_law_111 : decode code 111 = .ok (.iconst 1, 1) := by decide +kernel
theorem d_law_112 : decode code 112 = .ok (.iadd, 1) := by decide +kernel
theorem d_law_113 : decode code 113 = .ok (.iaload, 1) := by decide +kernel
theorem d_law_114 : decode code 114 = .ok (.aload_n 0, 1) := by decide +kernel
theorem d_law_115 : decode code 115 = .ok (.iload_n 3, 1) := by decide +kernel
theorem d_law_116 : decode code 116 = .ok (.iconst 2, 1) := by decide +kernel
theorem d_law_117 : decode code 117 = .ok (.iadd, 1) := by decide +kernel
theorem d_law_118 : decode code 118 = .ok (.iaload, 1) := by decide +kernel
theorem d_law_119 : decode code 119 = .ok (.aload_n 0, 1) := by decide +kernel
theorem d_law_120 : decode code 120 = .ok (.iload_n 3, 1) := by decide +kernel
theorem d_law_121 : decode code 121 = .ok (.iconst 3, 1) := by decide +kernel
theorem d_law_122 : decode code 122 = .ok (.iadd, 1) := by decide +kernel
theorem d_law_123 : decode code 123 = .ok (.iaload, 1) := by decide +kernel
theorem d_law_124 : decode code 124 = .ok (.invokevirtual 13, 3) := by decide +kernel
theorem d_law_127 : decode code 127 = .ok (.pop, 1) := by decide +kernel
theorem d_law_128 : decode code 128 = .ok (.aload_n 2, 1) := by decide +kernel
theorem d_law_129 : decode code 129 = .ok (.aload_n 0, 1) := by decide +kernel
theorem d_law_130 : decode code 130 = .ok (.iload_n 3, 1) := by decide +kernel
theorem d_law_131 : decode code 131 = .ok (.iconst 1, 1) := by decide +kernel
theorem d_law_132 : decode code 132 = .ok (.iadd, 1) := by decide +kernel
theorem d_law_133 : decode code 133 = .ok (.iaload, 1) := by decide +kernel
theorem d_law_134 : decode code 134 = .ok (.aload_n 0, 1) := by decide +kernel
theorem d_law_135 : decode code 135 = .ok (.iload_n 3, 1) := by decide +kernel
theorem d_law_136 : decode code 136 = .ok (.iconst 2, 1) := by decide +kernel
theorem d_law_137 : decode code 137 = .ok (.iadd, 1) := by decide +kernel
theorem d_law_138 : decode code 138 = .ok (.iaload, 1) := by decide +kernel
theorem d_law_139 : decode code 139 = .ok (.aload_n 0, 1) := by decide +kernel
theorem d_law_140 : decode code 140 = .ok (.iload_n 3, 1) := by decide +kernel
theorem d_law_141 : decode code 141 = .ok (.iconst 3, 1) := by decide +kernel
theorem d_law_142 : decode code 142 = .ok (.iadd, 1) := by decide +kernel
theorem d_law_143 : decode code 143 = .ok (.iaload, 1) := by decide +kernel
theorem d_law_144 : decode code 144 = .ok (.invokevirtual 17, 3) := by decide +kernel
theorem d_law_147 : decode code 147 = .ok (.pop, 1) := by decide +kernel
theorem d_law_148 : decode code 148 = .ok (.goto 385, 3) := by decide +kernel
theorem d_law_151 : decode code 151 = .ok (.aload_n 1, 1) := by decide +kernel
theorem d_law_152 : decode code 152 = .ok (.aload_n 0, 1) := by decide +kernel
theorem d_law_153 : decode code 153 = .ok (.iload_n 3, 1) := by decide +kernel
theorem d_law_154 : decode code 154 = .ok (.iconst 1, 1) := by decide +kernel
theorem d_law_155 : decode code 155 = .ok (.iadd, 1) := by decide +kernel
theorem d_law_156 : decode code 156 = .ok (.iaload, 1) := by decide +kernel
theorem d_law_157 : decode code 157 = .ok (.invokevirtual 18, 3) := by decide +kernel
theorem d_law_160 : decode code 160 = .ok (.pop, 1) := by decide +kernel
theorem d_law_161 : decode code 161 = .ok (.aload_n 2, 1) := by decide +kernel
theorem d_law_162 : decode code 162 = .ok (.aload_n 0, 1) := by decide +kernel
theorem d_law_163 : decode code 163 = .ok (.iload_n 3, 1) := by decide +kernel
theorem d_law_164 : decode code 164 = .ok (.iconst 1, 1) := by decide +kernel
theorem d_law_165 : decode code 165 = .ok (.iadd, 1) := by decide +kernel
theorem d_law_166 : decode code 166 = .ok (.iaload, 1) := by decide +kernel
theorem d_law_167 : decode code 167 = .ok (.invokevirtual 22, 3) := by decide +kernel
theorem d_law_170 : decode code 170 = .ok (.pop, 1) := by decide +kernel
theorem d_law_171 : decode code 171 = .ok (.goto 362, 3) := by decide +kernel
theorem d_law_174 : decode code 174 = .ok (.aload_n 1, 1) := by decide +kernel
theorem d_law_175 : decode code 175 = .ok (.aload_n 0, 1) := by decide +kernel
theorem d_law_176 : decode code 176 = .ok (.iload_n 3, 1) := by decide +kernel
theorem d_law_177 : decode code 177 = .ok (.iconst 1, 1) := by decide +kernel
theorem d_law_178 : decode code 178 = .ok (.iadd, 1) := by decide +kernel
theorem d_law_179 : decode code 179 = .ok (.iaload, 1) := by decide +kernel
theorem d_law_180 : decode code 180 = .ok (.invokevirtual 23, 3) := by decide +kernel
theorem d_law_183 : decode code 183 = .ok (.pop, 1) := by decide +kernel
theorem d_law_184 : decode code 184 = .ok (.aload_n 2, 1) := by decide +kernel
theorem d_law_185 : decode code 185 = .ok (.aload_n 0, 1) := by decide +kernel
theorem d_law_186 : decode code 186 = .ok (.iload_n 3, 1) := by decide +kernel
theorem d_law_187 : decode code 187 = .ok (.iconst 1, 1) := by decide +kernel
theorem d_law_188 : decode code 188 = .ok (.iadd, 1) := by decide +kernel
theorem d_law_189 : decode code 189 = .ok (.iaload, 1) := by decide +kernel
theorem d_law_190 : decode code 190 = .ok (.invokevirtual 26, 3) := by decide +kernel
theorem d_law_193 : decode code 193 = .ok (.pop, 1) := by decide +kernel
theorem d_law_194 : decode code 194 = .ok (.goto 339, 3) := by decide +kernel
theorem d_law_197 : decode code 197 = .ok (.aload_n 1, 1) := by decide +kernel
theorem d_law_198 : decode code 198 = .ok (.invokevirtual 27, 3) := by decide +kernel
theorem d_law_201 : decode code 201 = .ok (.pop, 1) := by decide +kernel
theorem d_law_202 : decode code 202 = .ok (.aload_n 2, 1) := by decide +kernel
theorem d_law_203 : decode code 203 = .ok (.invokevirtual 31, 3) := by decide +kernel
theorem d_law_206 : decode code 206 = .ok (.pop, 1) := by decide +kernel
theorem d_law_207 : decode code 207 = .ok (.goto 326, 3) := by decide +kernel
theorem d_law_210 : decode code 210 = .ok (.aload_n 1, 1) := by decide +kernel
theorem d_law_211 : decode code 211 = .ok (.aload_n 0, 1) := by decide +kernel
theorem d_law_212 : decode code 212 = .ok (.iload_n 3, 1) := by decide +kernel
theorem d_law_213 : decode code 213 = .ok (.iconst 1, 1) := by decide +kernel
theorem d_law_214 : decode code 214 = .ok (.iadd, 1) := by decide +kernel
theorem d_law_215 : decode code 215 = .ok (.iaload, 1) := by decide +kernel
theorem d_law_216 : decode code 216 = .ok (.invokevirtual 32, 3) := by decide +kernel
theorem d_law_219 : decode code 219 = .ok (.pop, 1) := by decide +kernel
theorem d_law_220 : decode code 220 = .ok (.aload_n 2, 1) := by decide +kernel
theorem d_law_221 : decode code 221 = .ok (.aload_n 0, 1) := by decide +kernel
theorem d_law_222 : decode code 222 = .ok (.iload_n 3, 1) := by decide +kernel
theorem d_law_223 : decode code 223 = .ok (.iconst 1, 1) := by decide +kernel
theorem d_law_224 : decode code 224 = .ok (.iadd, 1) := by decide +kernel
theorem d_law_225 : decode code 225 = .ok (.iaload, 1) := by decide +kernel
theorem d_law_226 : decode code 226 = .ok (.invokevirtual 35, 3) := by decide +kernel
theorem d_law_229 : decode code 229 = .ok (.pop, 1) := by decide +kernel
theorem d_law_230 : decode code 230 = .ok (.goto 303, 3) := by decide +kernel
theorem d_law_233 : decode code 233 = .ok (.aload_n 1, 1) := by decide +kernel
theorem d_law_234 : decode code 234 = .ok (.aload_n 0, 1) := by decide +kernel
theorem d_law_235 : decode code 235 = .ok (.iload_n 3, 1) := by decide +kernel
theorem d_law_236 : decode code 236 = .ok (.iconst 1, 1) := by decide +kernel
theorem d_law_237 : decode code 237 = .ok (.iadd, 1) := by decide +kernel
theorem d_law_238 : decode code 238 = .ok (.iaload, 1) := by decide +kernel
theorem d_law_239 : decode code 239 = .ok (.invokevirtual 36, 3) := by decide +kernel
theorem d_law_242 : decode code 242 = .ok (.pop, 1) := by decide +kernel
theorem d_law_243 : decode code 243 = .ok (.aload_n 2, 1) := by decide +kernel
theorem d_law_244 : decode code 244 = .ok (.aload_n 0, 1) := by decide +kernel
theorem d_law_245 : decode code 245 = .ok (.iload_n 3, 1) := by decide +kernel
theorem d_law_246 : decode code 246 = .ok (.iconst 1, 1) := by decide +kernel
theorem d_law_247 : decode code 247 = .ok (.iadd, 1) := by decide +kernel
theorem d_law_248 : decode code 248 = .ok (.iaload, 1) := by decide +kernel
theorem d_law_249 : decode code 249 = .ok (.invokevirtual 39, 3) := by decide +kernel
theorem d_law_252 : decode code 252 = .ok (.pop, 1) := by decide +kernel
theorem d_law_253 : decode code 253 = .ok (.goto 280, 3) := by decide +kernel
theorem d_law_256 : decode code 256 = .ok (.aload_n 1, 1) := by decide +kernel
theorem d_law_257 : decode code 257 = .ok (.aload_n 0, 1) := by decide +kernel
theorem d_law_258 : decode code 258 = .ok (.iload_n 3, 1) := by decide +kernel
theorem d_law_259 : decode code 259 = .ok (.iconst 1, 1) := by decide +kernel
theorem d_law_260 : decode code 260 = .ok (.iadd, 1) := by decide +kernel
theorem d_law_261 : decode code 261 = .ok (.iaload, 1) := by decide +kernel
theorem d_law_262 : decode code 262 = .ok (.invokevirtual 40, 3) := by decide +kernel
theorem d_law_265 : decode code 265 = .ok (.pop, 1) := by decide +kernel
theorem d_law_266 : decode code 266 = .ok (.aload_n 2, 1) := by decide +kernel
theorem d_law_267 : decode code 267 = .ok (.aload_n 0, 1) := by decide +kernel
theorem d_law_268 : decode code 268 = .ok (.iload_n 3, 1) := by decide +kernel
theorem d_law_269 : decode code 269 = .ok (.iconst 1, 1) := by decide +kernel
theorem d_law_270 : decode code 270 = .ok (.iadd, 1) := by decide +kernel
theorem d_law_271 : decode code 271 = .ok (.iaload, 1) := by decide +kernel
theorem d_law_272 : decode code 272 = .ok (.invokevirtual 43, 3) := by decide +kernel
theorem d_law_275 : decode code 275 = .ok (.pop, 1) := by decide +kernel
theorem d_law_276 : decode code 276 = .ok (.goto 257, 3) := by decide +kernel
theorem d_law_279 : decode code 279 = .ok (.aload_n 1, 1) := by decide +kernel
theorem d_law_280 : decode code 280 = .ok (.aload_n 0, 1) := by decide +kernel
theorem d_law_281 : decode code 281 = .ok (.iload_n 3, 1) := by decide +kernel
theorem d_law_282 : decode code 282 = .ok (.iconst 1, 1) := by decide +kernel
theorem d_law_283 : decode code 283 = .ok (.iadd, 1) := by decide +kernel
theorem d_law_284 : decode code 284 = .ok (.iaload, 1) := by decide +kernel
theorem d_law_285 : decode code 285 = .ok (.aload_n 0, 1) := by decide +kernel
theorem d_law_286 : decode code 286 = .ok (.iload_n 3, 1) := by decide +kernel
theorem d_law_287 : decode code 287 = .ok (.iconst 2, 1) := by decide +kernel
theorem d_law_288 : decode code 288 = .ok (.iadd, 1) := by decide +kernel
theorem d_law_289 : decode code 289 = .ok (.iaload, 1) := by decide +kernel
theorem d_law_290 : decode code 290 = .ok (.aload_n 0, 1) := by decide +kernel
theorem d_law_291 : decode code 291 = .ok (.iload_n 3, 1) := by decide +kernel
theorem d_law_292 : decode code 292 = .ok (.iconst 3, 1) := by decide +kernel
theorem d_law_293 : decode code 293 = .ok (.iadd, 1) := by decide +kernel
theorem d_law_294 : decode code 294 = .ok (.iaload, 1) := by decide +kernel
theorem d_law_295 : decode code 295 = .ok (.invokevirtual 44, 3) := by decide +kernel
theorem d_law_298 : decode code 298 = .ok (.pop, 1) := by decide +kernel
theorem d_law_299 : decode code 299 = .ok (.aload_n 2, 1) := by decide +kernel
theorem d_law_300 : decode code 300 = .ok (.aload_n 0, 1) := by decide +kernel
theorem d_law_301 : decode code 301 = .ok (.iload_n 3, 1) := by decide +kernel
theorem d_law_302 : decode code 302 = .ok (.iconst 1, 1) := by decide +kernel
theorem d_law_303 : decode code 303 = .ok (.iadd, 1) := by decide +kernel
theorem d_law_304 : decode code 304 = .ok (.iaload, 1) := by decide +kernel
theorem d_law_305 : decode code 305 = .ok (.aload_n 0, 1) := by decide +kernel
theorem d_law_306 : decode code 306 = .ok (.iload_n 3, 1) := by decide +kernel
theorem d_law_307 : decode code 307 = .ok (.iconst 2, 1) := by decide +kernel
theorem d_law_308 : decode code 308 = .ok (.iadd, 1) := by decide +kernel
theorem d_law_309 : decode code 309 = .ok (.iaload, 1) := by decide +kernel
theorem d_law_310 : decode code 310 = .ok (.aload_n 0, 1) := by decide +kernel
theorem d_law_311 : decode code 311 = .ok (.iload_n 3, 1) := by decide +kernel
theorem d_law_312 : decode code 312 = .ok (.iconst 3, 1) := by decide +kernel
theorem d_law_313 : decode code 313 = .ok (.iadd, 1) := by decide +kernel
theorem d_law_314 : decode code 314 = .ok (.iaload, 1) := by decide +kernel
theorem d_law_315 : decode code 315 = .ok (.invokevirtual 47, 3) := by decide +kernel
theorem d_law_318 : decode code 318 = .ok (.pop, 1) := by decide +kernel
theorem d_law_319 : decode code 319 = .ok (.goto 214, 3) := by decide +kernel
theorem d_law_322 : decode code 322 = .ok (.aload_n 1, 1) := by decide +kernel
theorem d_law_323 : decode code 323 = .ok (.aload_n 0, 1) := by decide +kernel
theorem d_law_324 : decode code 324 = .ok (.iload_n 3, 1) := by decide +kernel
theorem d_law_325 : decode code 325 = .ok (.iconst 1, 1) := by decide +kernel
theorem d_law_326 : decode code 326 = .ok (.iadd, 1) := by decide +kernel
theorem d_law_327 : decode code 327 = .ok (.iaload, 1) := by decide +kernel
theorem d_law_328 : decode code 328 = .ok (.invokevirtual 48, 3) := by decide +kernel
theorem d_law_331 : decode code 331 = .ok (.pop, 1) := by decide +kernel
theorem d_law_332 : decode code 332 = .ok (.aload_n 2, 1) := by decide +kernel
theorem d_law_333 : decode code 333 = .ok (.aload_n 0, 1) := by decide +kernel
theorem d_law_334 : decode code 334 = .ok (.iload_n 3, 1) := by decide +kernel
theorem d_law_335 : decode code 335 = .ok (.iconst 1, 1) := by decide +kernel
theorem d_law_336 : decode code 336 = .ok (.iadd, 1) := by decide +kernel
theorem d_law_337 : decode code 337 = .ok (.iaload, 1) := by decide +kernel
theorem d_law_338 : decode code 338 = .ok (.invokevirtual 51, 3) := by decide +kernel
theorem d_law_341 : decode code 341 = .ok (.pop, 1) := by decide +kernel
theorem d_law_342 : decode code 342 = .ok (.goto 191, 3) := by decide +kernel
theorem d_law_345 : decode code 345 = .ok (.aload_n 1, 1) := by decide +kernel
theorem d_law_346 : decode code 346 = .ok (.aload_n 0, 1) := by decide +kernel
theorem d_law_347 : decode code 347 = .ok (.iload_n 3, 1) := by decide +kernel
theorem d_law_348 : decode code 348 = .ok (.iconst 1, 1) := by decide +kernel
theorem d_law_349 : decode code 349 = .ok (.iadd, 1) := by decide +kernel
theorem d_law_350 : decode code 350 = .ok (.iaload, 1) := by decide +kernel
theorem d_law_351 : decode code 351 = .ok (.invokevirtual 52, 3) := by decide +kernel
theorem d_law_354 : decode code 354 = .ok (.aload_n 2, 1) := by decide +kernel
theorem d_law_355 : decode code 355 = .ok (.aload_n 0, 1) := by decide +kernel
theorem d_law_356 : decode code 356 = .ok (.iload_n 3, 1) := by decide +kernel
theorem d_law_357 : decode code 357 = .ok (.iconst 1, 1) := by decide +kernel
theorem d_law_358 : decode code 358 = .ok (.iadd, 1) := by decide +kernel
theorem d_law_359 : decode code 359 = .ok (.iaload, 1) := by decide +kernel
theorem d_law_360 : decode code 360 = .ok (.invokevirtual 56, 3) := by decide +kernel
theorem d_law_363 : decode code 363 = .ok (.if_icmp .eq 170, 3) := by decide +kernel
theorem d_law_366 : decode code 366 = .ok (.iconst 0, 1) := by decide +kernel
theorem d_law_367 : decode code 367 = .ok (.ireturn, 1) := by decide +kernel
theorem d_law_368 : decode code 368 = .ok (.aload_n 1, 1) := by decide +kernel
theorem d_law_369 : decode code 369 = .ok (.aload_n 0, 1) := by decide +kernel
theorem d_law_370 : decode code 370 = .ok (.iload_n 3, 1) := by decide +kernel
theorem d_law_371 : decode code 371 = .ok (.iconst 1, 1) := by decide +kernel
theorem d_law_372 : decode code 372 = .ok (.iadd, 1) := by decide +kernel
theorem d_law_373 : decode code 373 = .ok (.iaload, 1) := by decide +kernel
theorem d_law_374 : decode code 374 = .ok (.aload_n 0, 1) := by decide +kernel
theorem d_law_375 : decode code 375 = .ok (.iload_n 3, 1) := by decide +kernel
theorem d_law_376 : decode code 376 = .ok (.iconst 2, 1) := by decide +kernel
theorem d_law_377 : decode code 377 = .ok (.iadd, 1) := by decide +kernel
theorem d_law_378 : decode code 378 = .ok (.iaload, 1) := by decide +kernel
theorem d_law_379 : decode code 379 = .ok (.aload_n 0, 1) := by decide +kernel
theorem d_law_380 : decode code 380 = .ok (.iload_n 3, 1) := by decide +kernel
theorem d_law_381 : decode code 381 = .ok (.iconst 3, 1) := by decide +kernel
theorem d_law_382 : decode code 382 = .ok (.iadd, 1) := by decide +kernel
theorem d_law_383 : decode code 383 = .ok (.iaload, 1) := by decide +kernel
theorem d_law_384 : decode code 384 = .ok (.invokevirtual 57, 3) := by decide +kernel
theorem d_law_387 : decode code 387 = .ok (.pop, 1) := by decide +kernel
theorem d_law_388 : decode code 388 = .ok (.aload_n 2, 1) := by decide +kernel
theorem d_law_389 : decode code 389 = .ok (.aload_n 0, 1) := by decide +kernel
theorem d_law_390 : decode code 390 = .ok (.iload_n 3, 1) := by decide +kernel
theorem d_law_391 : decode code 391 = .ok (.iconst 1, 1) := by decide +kernel
theorem d_law_392 : decode code 392 = .ok (.iadd, 1) := by decide +kernel
theorem d_law_393 : decode code 393 = .ok (.iaload, 1) := by decide +kernel
theorem d_law_394 : decode code 394 = .ok (.aload_n 0, 1) := by decide +kernel
theorem d_law_395 : decode code 395 = .ok (.iload_n 3, 1) := by decide +kernel
theorem d_law_396 : decode code 396 = .ok (.iconst 2, 1) := by decide +kernel
theorem d_law_397 : decode code 397 = .ok (.iadd, 1) := by decide +kernel
theorem d_law_398 : decode code 398 = .ok (.iaload, 1) := by decide +kernel
theorem d_law_399 : decode code 399 = .ok (.aload_n 0, 1) := by decide +kernel
theorem d_law_400 : decode code 400 = .ok (.iload_n 3, 1) := by decide +kernel
theorem d_law_401 : decode code 401 = .ok (.iconst 3, 1) := by decide +kernel
theorem d_law_402 : decode code 402 = .ok (.iadd, 1) := by decide +kernel
theorem d_law_403 : decode code 403 = .ok (.iaload, 1) := by decide +kernel
theorem d_law_404 : decode code 404 = .ok (.invokevirtual 61, 3) := by decide +kernel
theorem d_law_407 : decode code 407 = .ok (.pop, 1) := by decide +kernel
theorem d_law_408 : decode code 408 = .ok (.goto 125, 3) := by decide +kernel
theorem d_law_411 : decode code 411 = .ok (.aload_n 1, 1) := by decide +kernel
theorem d_law_412 : decode code 412 = .ok (.aload_n 0, 1) := by decide +kernel
theorem d_law_413 : decode code 413 = .ok (.iload_n 3, 1) := by decide +kernel
theorem d_law_414 : decode code 414 = .ok (.iconst 1, 1) := by decide +kernel
theorem d_law_415 : decode code 415 = .ok (.iadd, 1) := by decide +kernel
theorem d_law_416 : decode code 416 = .ok (.iaload, 1) := by decide +kernel
theorem d_law_417 : decode code 417 = .ok (.aload_n 0, 1) := by decide +kernel
theorem d_law_418 : decode code 418 = .ok (.iload_n 3, 1) := by decide +kernel
theorem d_law_419 : decode code 419 = .ok (.iconst 2, 1) := by decide +kernel
theorem d_law_420 : decode code 420 = .ok (.iadd, 1) := by decide +kernel
theorem d_law_421 : decode code 421 = .ok (.iaload, 1) := by decide +kernel
theorem d_law_422 : decode code 422 = .ok (.aload_n 0, 1) := by decide +kernel
theorem d_law_423 : decode code 423 = .ok (.iload_n 3, 1) := by decide +kernel
theorem d_law_424 : decode code 424 = .ok (.iconst 3, 1) := by decide +kernel
theorem d_law_425 : decode code 425 = .ok (.iadd, 1) := by decide +kernel
theorem d_law_426 : decode code 426 = .ok (.iaload, 1) := by decide +kernel
theorem d_law_427 : decode code 427 = .ok (.aload_n 0, 1) := by decide +kernel
theorem d_law_428 : decode code 428 = .ok (.iload_n 3, 1) := by decide +kernel
theorem d_law_429 : decode code 429 = .ok (.iconst 4, 1) := by decide +kernel
theorem d_law_430 : decode code 430 = .ok (.iadd, 1) := by decide +kernel
theorem d_law_431 : decode code 431 = .ok (.iaload, 1) := by decide +kernel
theorem d_law_432 : decode code 432 = .ok (.aload_n 0, 1) := by decide +kernel
theorem d_law_433 : decode code 433 = .ok (.iload_n 3, 1) := by decide +kernel
theorem d_law_434 : decode code 434 = .ok (.iconst 5, 1) := by decide +kernel
theorem d_law_435 : decode code 435 = .ok (.iadd, 1) := by decide +kernel
theorem d_law_436 : decode code 436 = .ok (.iaload, 1) := by decide +kernel
theorem d_law_437 : decode code 437 = .ok (.invokevirtual 62, 3) := by decide +kernel
theorem d_law_440 : decode code 440 = .ok (.pop, 1) := by decide +kernel
theorem d_law_441 : decode code 441 = .ok (.aload_n 2, 1) := by decide +kernel
theorem d_law_442 : decode code 442 = .ok (.aload_n 0, 1) := by decide +kernel
theorem d_law_443 : decode code 443 = .ok (.iload_n 3, 1) := by decide +kernel
theorem d_law_444 : decode code 444 = .ok (.iconst 1, 1) := by decide +kernel
theorem d_law_445 : decode code 445 = .ok (.iadd, 1) := by decide +kernel
theorem d_law_446 : decode code 446 = .ok (.iaload, 1) := by decide +kernel
theorem d_law_447 : decode code 447 = .ok (.aload_n 0, 1) := by decide +kernel
theorem d_law_448 : decode code 448 = .ok (.iload_n 3, 1) := by decide +kernel
theorem d_law_449 : decode code 449 = .ok (.iconst 2, 1) := by decide +kernel
theorem d_law_450 : decode code 450 = .ok (.iadd, 1) := by decide +kernel
theorem d_law_451 : decode code 451 = .ok (.iaload, 1) := by decide +kernel
theorem d_law_452 : decode code 452 = .ok (.aload_n 0, 1) := by decide +kernel
theorem d_law_453 : decode code 453 = .ok (.iload_n 3, 1) := by decide +kernel
theorem d_law_454 : decode code 454 = .ok (.iconst 3, 1) := by decide +kernel
theorem d_law_455 : decode code 455 = .ok (.iadd, 1) := by decide +kernel
theorem d_law_456 : decode code 456 = .ok (.iaload, 1) := by decide +kernel
theorem d_law_457 : decode code 457 = .ok (.aload_n 0, 1) := by decide +kernel
theorem d_law_458 : decode code 458 = .ok (.iload_n 3, 1) := by decide +kernel
theorem d_law_459 : decode code 459 = .ok (.iconst 4, 1) := by decide +kernel
theorem d_law_460 : decode code 460 = .ok (.iadd, 1) := by decide +kernel
theorem d_law_461 : decode code 461 = .ok (.iaload, 1) := by decide +kernel
theorem d_law_462 : decode code 462 = .ok (.aload_n 0, 1) := by decide +kernel
theorem d_law_463 : decode code 463 = .ok (.iload_n 3, 1) := by decide +kernel
theorem d_law_464 : decode code 464 = .ok (.iconst 5, 1) := by decide +kernel
theorem d_law_465 : decode code 465 = .ok (.iadd, 1) := by decide +kernel
theorem d_law_466 : decode code 466 = .ok (.iaload, 1) := by decide +kernel
theorem d_law_467 : decode code 467 = .ok (.invokevirtual 66, 3) := by decide +kernel
theorem d_law_470 : decode code 470 = .ok (.pop, 1) := by decide +kernel
theorem d_law_471 : decode code 471 = .ok (.goto 62, 3) := by decide +kernel
theorem d_law_474 : decode code 474 = .ok (.aload_n 1, 1) := by decide +kernel
theorem d_law_475 : decode code 475 = .ok (.aload_n 0, 1) := by decide +kernel
theorem d_law_476 : decode code 476 = .ok (.iload_n 3, 1) := by decide +kernel
theorem d_law_477 : decode code 477 = .ok (.iconst 1, 1) := by decide +kernel
theorem d_law_478 : decode code 478 = .ok (.iadd, 1) := by decide +kernel
theorem d_law_479 : decode code 479 = .ok (.iaload, 1) := by decide +kernel
theorem d_law_480 : decode code 480 = .ok (.invokevirtual 67, 3) := by decide +kernel
theorem d_law_483 : decode code 483 = .ok (.pop, 1) := by decide +kernel
theorem d_law_484 : decode code 484 = .ok (.aload_n 2, 1) := by decide +kernel
theorem d_law_485 : decode code 485 = .ok (.aload_n 0, 1) := by decide +kernel
theorem d_law_486 : decode code 486 = .ok (.iload_n 3, 1) := by decide +kernel
theorem d_law_487 : decode code 487 = .ok (.iconst 1, 1) := by decide +kernel
theorem d_law_488 : decode code 488 = .ok (.iadd, 1) := by decide +kernel
theorem d_law_489 : decode code 489 = .ok (.iaload, 1) := by decide +kernel
theorem d_law_490 : decode code 490 = .ok (.invokevirtual 70, 3) := by decide +kernel
theorem d_law_493 : decode code 493 = .ok (.pop, 1) := by decide +kernel
theorem d_law_494 : decode code 494 = .ok (.goto 39, 3) := by decide +kernel
theorem d_law_497 : decode code 497 = .ok (.aload_n 1, 1) := by decide +kernel
theorem d_law_498 : decode code 498 = .ok (.invokevirtual 71, 3) := by decide +kernel
theorem d_law_501 : decode code 501 = .ok (.pop, 1) := by decide +kernel
theorem d_law_502 : decode code 502 = .ok (.aload_n 2, 1) := by decide +kernel
theorem d_law_503 : decode code 503 = .ok (.invokevirtual 74, 3) := by decide +kernel
theorem d_law_506 : decode code 506 = .ok (.pop, 1) := by decide +kernel
theorem d_law_507 : decode code 507 = .ok (.goto 26, 3) := by decide +kernel
theorem d_law_510 : decode code 510 = .ok (.aload_n 1, 1) := by decide +kernel
theorem d_law_511 : decode code 511 = .ok (.aload_n 0, 1) := by decide +kernel
theorem d_law_512 : decode code 512 = .ok (.iload_n 3, 1) := by decide +kernel
theorem d_law_513 : decode code 513 = .ok (.iconst 1, 1) := by decide +kernel
theorem d_law_514 : decode code 514 = .ok (.iadd, 1) := by decide +kernel
theorem d_law_515 : decode code 515 = .ok (.iaload, 1) := by decide +kernel
theorem d_law_516 : decode code 516 = .ok (.invokevirtual 75, 3) := by decide +kernel
theorem d_law_519 : decode code 519 = .ok (.pop, 1) := by decide +kernel
theorem d_law_520 : decode code 520 = .ok (.aload_n 2, 1) := by decide +kernel
theorem d_law_521 : decode code 521 = .ok (.aload_n 0, 1) := by decide +kernel
theorem d_law_522 : decode code 522 = .ok (.iload_n 3, 1) := by decide +kernel
theorem d_law_523 : decode code 523 = .ok (.iconst 1, 1) := by decide +kernel
theorem d_law_524 : decode code 524 = .ok (.iadd, 1) := by decide +kernel
theorem d_law_525 : decode code 525 = .ok (.iaload, 1) := by decide +kernel
theorem d_law_526 : decode code 526 = .ok (.invokevirtual 78, 3) := by decide +kernel
theorem d_law_529 : decode code 529 = .ok (.pop, 1) := by decide +kernel
theorem d_law_530 : decode code 530 = .ok (.goto 3, 3) := by decide +kernel
theorem d_law_533 : decode code 533 = .ok (.iinc 3 6, 3) := by decide +kernel
theorem d_law_536 : decode code 536 = .ok (.goto (-518), 3) := by decide +kernel
theorem d_law_539 : decode code 539 = .ok (.iconst 1, 1) := by decide +kernel
theorem d_law_540 : decode code 540 = .ok (.ireturn, 1) := by decide +kernel
theorem ak {args : Array Value} {s : State} {ty : FieldType} (h : (Cond.arrayClass ty).before args s = true) (hra : ∀ c, s.vm.findClass ("[" ++ ty.toString) = some c → va_RA s c ty) : ∃ cA : ClassId, ArrOfT s cA ty ∧ va_RA s cA ty := by
  obtain ⟨cA, kA, comp, h1, h2, h3⟩ := Cond.arrayClass_spec h
  exact ⟨cA, fun n z => ⟨fun k h => (by cases h), kA, h2, comp, h3⟩, hra cA h1⟩
theorem nil_P {D : va_G} {cl : List vw_C} {H : Heap} : va_P D cl [] H := fun k q h => by simp at h
theorem nil_D {A : Nat → Prop} : va_D A [] := ⟨fun i j p q h => by simp at h, fun k q h => by simp at h⟩
theorem ap_of {A : Nat → Prop} {a b : va_W} (h : va_D A (a ++ b)) : ap a b := by
  intro i j x y hx hy e
  have hi := (List.getElem?_eq_some_iff.mp hx).1
  have h1 : (a ++ b)[i]? = some x := by rw [List.getElem?_append_left hi]; exact hx
  have h2 : (a ++ b)[a.length + j]? = some y := by rw [List.getElem?_append_right (Nat.le_add_right _ _)]; rw [Nat.add_sub_cancel_left]; exact hy
  have h3 := h.1 i (a.length + j) x y h1 h2 e
  omega
theorem cmp01 {r0 r1 : Int32} {P : Prop} (h0 : r0 = 0 ∨ r0 = 1) (h1 : r0 = 1 ↔ P) (h2 : 0 ≤ r1.toInt ∧ r1.toInt ≤ 1) (h3 : r1.toInt = 1 ↔ P) : r0 = r1 := by
  have e : r1 = 0 ∨ r1 = 1 := by
    rcases (show r1.toInt = 0 ∨ r1.toInt = 1 by omega) with e | e
    · exact Or.inl (Int32.toInt_inj.mp e)
    · exact Or.inr (Int32.toInt_inj.mp e)
  have e1 : r1.toInt = 1 ↔ r1 = 1 := ⟨fun h => Int32.toInt_inj.mp h, fun h => by rw [h]; rfl⟩
  rcases h0 with a | a <;> rcases e with b | b <;> subst a <;> subst b
  · rfl
  · exact absurd (h1.mpr (h3.mp (by rfl))) (by decide)
  · exact absurd (h3.mpr (h1.mp rfl)) (by decide)
  · rfl
theorem q_ad {x : Int32} : bI (f_M_isAddress x) = 0 ↔ ¬ (0 ≤ x.toInt ∧ x.toInt ≤ 3999) := by
  rw [bI_0]; unfold f_M_isAddress
  simp only [Int32.lt_iff_toInt_lt, Int32.le_iff_toInt_le, show (0 : Int32).toInt = 0 from rfl, show (4000 : Int32).toInt = 4000 from rfl]
  repeat' split
  all_goals simp
  all_goals omega
theorem q_rg {x : Int32} : bI (f_M_isRegister x) = 0 ↔ ¬ (0 ≤ x.toInt ∧ x.toInt ≤ 8) := by
  rw [bI_0]; unfold f_M_isRegister
  simp only [Int32.lt_iff_toInt_lt, Int32.le_iff_toInt_le, show (0 : Int32).toInt = 0 from rfl, show (9 : Int32).toInt = 9 from rfl]
  repeat' split
  all_goals simp
  all_goals omega
theorem q_ww {x y : Int32} : bI (f_W_isWord x y) = 0 ↔ ¬ ((0 ≤ x.toInt ∧ x.toInt ≤ 1) ∧ (0 ≤ y.toInt ∧ y.toInt ≤ 1073741823)) := by
  rw [bI_0]; unfold f_W_isWord
  simp only [Int32.lt_iff_toInt_lt, Int32.le_iff_toInt_le, ← Int32.toInt_inj, show (0 : Int32).toInt = 0 from rfl, show (1 : Int32).toInt = 1 from rfl, show (1073741823 : Int32).toInt = 1073741823 from rfl]
  repeat' split
  all_goals simp
  all_goals omega
theorem q_ix {x : Int32} : bI (f_M_isIndex x) = 0 ↔ ¬ (1 ≤ x.toInt ∧ x.toInt ≤ 6) := by
  rw [bI_0]; unfold f_M_isIndex
  simp only [Int32.lt_iff_toInt_lt, show (1 : Int32).toInt = 1 from rfl, show (6 : Int32).toInt = 6 from rfl]
  repeat' split
  all_goals simp
  all_goals omega
theorem q_sh {x : Int32} : bI (f_M_isShort x) = 0 ↔ ¬ ((1 ≤ x.toInt ∧ x.toInt ≤ 6) ∨ x.toInt = 8) := by
  rw [bI_0]; unfold f_M_isShort
  have e8 : x = (8 : Int32) ↔ x.toInt = 8 := Int32.toInt_inj.symm
  simp only [q_ix, e8]
  repeat' split
  all_goals simp
  all_goals omega
theorem E_poke (a1 a2 a3 : Int32) {r0 r1 : Int32} (h0 : r0 = f_cpoke a1 a2 a3) (h1 : (0 ≤ r1.toInt ∧ r1.toInt ≤ 1) ∧ (r1.toInt = 1 ↔ ((0 ≤ a1.toInt ∧ a1.toInt ≤ 3999) ∧ (0 ≤ a2.toInt ∧ a2.toInt ≤ 1) ∧ (0 ≤ a3.toInt ∧ a3.toInt ≤ 1073741823)))) : r0 = r1 := by
  subst h0
  refine cmp01 ?_ ?_ h1.1 h1.2
  · unfold f_cpoke
    (repeat' split) <;> first | exact Or.inl rfl | exact Or.inr rfl
  · unfold f_cpoke
    simp only [q_ad, q_ww]
    (repeat' split) <;> first | exact ⟨fun h => absurd h (by decide), fun h => by exfalso; omega⟩ | exact ⟨fun _ => by omega, fun _ => rfl⟩
theorem E_set (a1 a2 a3 : Int32) {r0 r1 : Int32} (h0 : r0 = f_cset a1 a2 a3) (h1 : (0 ≤ r1.toInt ∧ r1.toInt ≤ 1) ∧ (r1.toInt = 1 ↔ ((0 ≤ a1.toInt ∧ a1.toInt ≤ 8) ∧ (0 ≤ a2.toInt ∧ a2.toInt ≤ 1 ∧ (a1.toInt = 8 → a2.toInt ≤ 0)) ∧ (0 ≤ a3.toInt ∧ a3.toInt ≤ 1073741823 ∧ ((a1.toInt ≠ 0 ∧ a1.toInt ≠ 7) → a3.toInt ≤ 4095))))) : r0 = r1 := by
  subst h0
  refine cmp01 ?_ ?_ h1.1 h1.2
  · unfold f_cset
    (repeat' split) <;> first | exact Or.inl rfl | exact Or.inr rfl
  · unfold f_cset
    have e8 : a1 = (8 : Int32) ↔ a1.toInt = 8 := Int32.toInt_inj.symm
    have e0 : a2 = (0 : Int32) ↔ a2.toInt = 0 := Int32.toInt_inj.symm
    have el : a3 ≤ (4095 : Int32) ↔ a3.toInt ≤ 4095 := Int32.le_iff_toInt_le
    simp only [q_rg, q_ww, q_sh, e8, e0, el]
    (repeat' split) <;> first | exact ⟨fun h => absurd h (by decide), fun h => by exfalso; omega⟩ | exact ⟨fun _ => by omega, fun _ => rfl⟩
theorem E_go (a1 : Int32) {r0 r1 : Int32} (h0 : r0 = f_cgo a1) (h1 : (0 ≤ r1.toInt ∧ r1.toInt ≤ 1) ∧ (r1.toInt = 1 ↔ (0 ≤ a1.toInt ∧ a1.toInt ≤ 3999))) : r0 = r1 := by
  subst h0
  refine cmp01 ?_ ?_ h1.1 h1.2
  · unfold f_cgo
    (repeat' split) <;> first | exact Or.inl rfl | exact Or.inr rfl
  · unfold f_cgo
    simp only [q_ad]
    (repeat' split) <;> first | exact ⟨fun h => absurd h (by decide), fun h => by exfalso; omega⟩ | exact ⟨fun _ => by omega, fun _ => rfl⟩
theorem E_feed {L r u r' u' : Int32} (h : P_feed L r u) (h' : P_feed L r' u') : r = r' ∧ u = u' := by
  unfold P_feed at h h'
  by_cases q : L.toInt ≤ 3980
  · have a := h.1 q; have b := h'.1 q
    exact ⟨Int32.toInt_inj.mp (by omega), Int32.toInt_inj.mp (by omega)⟩
  · have a := h.2 (by omega); have b := h'.2 (by omega)
    exact ⟨Int32.toInt_inj.mp (by omega), Int32.toInt_inj.mp (by omega)⟩
theorem E_end {L n r u r' u' : Int32} (h : P_end L n r u) (h' : P_end L n r' u') : r = r' ∧ u = u' := by
  unfold P_end at h h'
  by_cases q : 0 ≤ n.toInt ∧ n.toInt ≤ 20 ∧ 20 ≤ L.toInt
  · have a := h.1 q; have b := h'.1 q
    exact ⟨Int32.toInt_inj.mp (by omega), Int32.toInt_inj.mp (by omega)⟩
  · have a := h.2 q; have b := h'.2 q
    exact ⟨Int32.toInt_inj.mp (by omega), Int32.toInt_inj.mp (by omega)⟩
theorem E_asm {u u' : Int32} (h : u.toInt = 0) (h' : u'.toInt = 0) : u = u' := Int32.toInt_inj.mp (by omega)
/-! THE CLAIM OUT OF ONE WALK OF THE LAW'S BODY. Your part is whole_start (and what it stands on); all else here is the same for every law, but numbers. -/
def R_law : String := "SignMachineLaw"
def lw_P (b : Addr) (xs : List Int32) (args : Array Value) (s : State) : Prop := args = #[.ref b] ∧ s.IntsAt b xs ∧ xs.length ≤ 3072 ∧ (Jvm.Cond.and given_1 narrow_1).before args s = true
def lw_Q (_ : Array Value) (s : State) (o : Outcome) (t : State) : Prop := o = .returned (some (.int 1)) ∧ Framed s o t [] 111712 8767114
def lw_Z (below : List Frame) (a : Array Value) (s : State) : State → Prop := fun t => ∃ o, t.status = .running ∧ Ended t below o ∧ lw_Q a s o t
/-- the law's own end, with 1 on the stack, nothing written that was there before, its room as the claim has it -/
theorem lw_ret {p : Program} {l : Launch} {e : Env} {s : State} {m : MethodId} {below : List Frame} {meth : Method} {c : Code} {b : Nat} (hx : p.tables.exec = Jvm.exec) (hb : c.code = code) (hr : meth.sig.returnType = ret) (hlocks : meth.locks = false) {pc : Nat} {H : Heap} {ls : Array Slot} (hdg : decode code pc = .ok (.ireturn, 1)) : W p l e room_1 s m #[Value.ref b] below meth c H [] 111712 8767114 (lw_Z below #[Value.ref b] s) (F0 m pc ls [.int 1]) := by
  intro T hT X
  obtain ⟨fs, hret, hrun, hended, hW, hframe⟩ := X.leave (v := some (.int 1)) (hlocks := hlocks) (fun h => by rw [hr] at h; cases h)
  have hmeth' : T.vm.method? m = some meth := X.method'
  refine ⟨T.setFrames fs, ?_, .returned (some (.int 1)), hrun, hended, rfl, ⟨_, rfl⟩, hW, hframe⟩
  jvm_step X.here [X.here.top, hx, hb, hdg, hmeth', hr, ret, narrow_b1]
  (try refine ⟨rfl, ?_⟩); (try refine ⟨rfl, ?_⟩)
  first | (intro acts; rw [hret _ acts rfl rfl rfl]) | rw [hret _ _ rfl rfl rfl]
  exact Steps.refl _
/-- what holds at the law's entry: the machine, the code, the tables' words (any of lw_tbl by 'hts w (by decide +kernel)'), the script of L ints xs at the cell b, what the Statement gives of the start (any of its parts by flat_of_before) -/
def lw_At (p : Program) (s : State) (m : MethodId) (meth : Method) (c : Code) (b L : Nat) (xs : Nat → Int32) : Prop :=
  p.tables.exec = Jvm.exec ∧ c.code = code ∧ meth.sig.returnType = ret ∧ c.maxLocals = 4 ∧ s.vm.findClass R_law = some m.cls ∧ (∀ w ∈ lw_tbl, w.before #[Value.ref b] s = true) ∧ va_X b L xs s s.heap ∧ b < s.heap.size ∧ meth.locks = false ∧ (Jvm.Cond.and given_1 narrow_1).before #[Value.ref b] s = true
set_option maxHeartbeats 8000000 in
set_option maxRecDepth 100000 in
theorem whole_start {p : Program} {e : Env} {s : State} {m : MethodId} {below : List Frame} {meth : Method} {c : Code} (l : Launch) {b L : Nat} {xs : Nat → Int32} (hL : L ≤ 3072) (C0 : lw_At p s m meth c b L xs) : W p l e room_1 s m #[Value.ref b] below meth c s.heap [] 0 0 (lw_Z below #[Value.ref b] s) (entryFrame m ([Value.ref b] : List Value).toArray 4) := by
  obtain ⟨hx, hb, hr, hml, hown, hts, hX, hbl, hlocks, hgv⟩ := id C0
  have hk : ∀ w ∈ tb, w.before #[Value.ref b] s = true := fun w h => hts w (List.mem_filter.mp h).1
  have hA : ∀ q : Nat, s.heap.size ≤ q → (fun q : Nat => s.heap.size ≤ q) q := fun _ h => h
  have hbA : ¬ (fun q : Nat => s.heap.size ≤ q) b := Nat.not_le.mpr hbl
  obtain ⟨c0, iS0, hKn0⟩ := u_known (C := "SignMachine") (T := F_S) (N := 2) (n := 2) hk fi_S (hk _ k_135)
  obtain ⟨c1, iS1, hKn1⟩ := u_known (C := "SignMachine$Machine") (T := F_M) (N := 14) (n := 14) hk fi_M (hk _ k_143)
  obtain ⟨c2, iS2, hKn2⟩ := u_known (C := "SignMachine$Tape") (T := F_T) (N := 2) (n := 2) hk fi_T (hk _ k_149)
  obtain ⟨c3, iS3, hKn3⟩ := u_known (C := "SignMachine$Assembler") (T := F_A) (N := 15) (n := 15) hk fi_A (hk _ k_523)
  obtain ⟨c4, iS4, hKn4⟩ := u_known (C := "SignMachine$Source") (T := F_R) (N := 9) (n := 9) hk fi_R (hk _ k_529)
  obtain ⟨c5, iS5, hKn5⟩ := u_known (C := "SignMachine$Names") (T := F_N) (N := 7) (n := 7) hk fi_N (hk _ k_571)
  obtain ⟨c6, iS6, hKn6⟩ := u_known (C := "SignMachine$Output") (T := F_O) (N := 7) (n := 7) hk fi_O (hk _ k_602)
  obtain ⟨c7, iS7, hKn7⟩ := u_known (C := "SignMachineModel") (T := F_X) (N := 64) (n := 64) hk fi_X (hk _ k_1116)
  obtain ⟨D, hKc⟩ : ∃ D : va_G, ∀ (k : Nat) (q : vw_C), classes[k]? = some q → u_Kn s q.1 q.2.1 q.2.2 (D.1 k) (D.2 k) := by
    refine ⟨(fun k => if k = 0 then c0 else if k = 1 then c1 else if k = 2 then c2 else if k = 3 then c3 else if k = 4 then c4 else if k = 5 then c5 else if k = 6 then c6 else c7, fun k => if k = 0 then iS0 else if k = 1 then iS1 else if k = 2 then iS2 else if k = 3 then iS3 else if k = 4 then iS4 else if k = 5 then iS5 else if k = 6 then iS6 else iS7), ?_⟩
    intro k q hq
    match k, hq with
    | 0, hq => cases hq; exact hKn0
    | 1, hq => cases hq; exact hKn1
    | 2, hq => cases hq; exact hKn2
    | 3, hq => cases hq; exact hKn3
    | 4, hq => cases hq; exact hKn4
    | 5, hq => cases hq; exact hKn5
    | 6, hq => cases hq; exact hKn6
    | 7, hq => cases hq; exact hKn7
    | k + 8, hq => simp [classes] at hq
  obtain ⟨cI, hcI⟩ := ak (hk _ k_162) (fun _ h => h)
  obtain ⟨cJ, hcJ⟩ := ak (hk _ k_599) (fun _ h => h)
  obtain ⟨cZ, hcZ⟩ := ak (hk _ k_600) (fun _ h => h)
  obtain ⟨cB, hcB⟩ := ak (hk _ k_569) (fun _ h => h)
  have hK : KK D cI cJ cZ cB s := by
    refine ⟨⟨hKc, fun k q h => ?_⟩, fun w hw => ?_⟩
    · match k, h with
      | 0, h => cases h; exact hcI
      | 1, h => cases h; exact hcJ
      | 2, h => cases h; exact hcZ
      | 3, h => cases h; exact hcB
      | k + 4, h => simp [tys4] at h
    · have h1 := List.mem_filter.mp hw
      have h2 := h1.2
      have h3 := hts w h1.1
      cases w <;> first | exact va_Nw.of rfl h3 | exact absurd h2 (by simp [isN])
  have hS : va_S (fun q : Nat => s.heap.size ≤ q) s.heap s.heap [] := va_S.rf
  have hP : va_P D classes [] s.heap := nil_P
  have hD : va_D (fun q : Nat => s.heap.size ≤ q) [] := nil_D
  have hl := lv_entry ([.ref b]) (n := 4) (Nat.le_of_ble_eq_true rfl)
  rw [lg_entry_eq]
  generalize (lg_sl ([.ref b]) ++ List.replicate (4 - (lg_sl ([.ref b])).length) Slot.unset).toArray = ls at hl ⊢
  have hl : lv_has ls 4 [(0, .ref b)] := hl
  obtain ⟨K, hCN⟩ := mkCN hts hk hgv (A := fun q : Nat => s.heap.size ≤ q) (fun a h q => absurd h (Nat.not_lt.mpr q))
  refine va_new (ci := 0) (fs := [.null, .null]) (C := "SignMachine") (T := F_S) (N := 2) hx hb hk fi_S ft_S ft_S_ok hown (hk _ k_134) (hk _ k_135) (hk _ k_116) hK.1 hP hD hS hA rfl (by decide +kernel) (Nat.le_of_ble_eq_true rfl) (Nat.le_of_ble_eq_true rfl) d_law_0 (fun o0 H hP hD hS => ?_)
  have hP : va_P D classes ((wS94 cI cJ cZ cB o0 )) H := hP
  have hD : va_D (fun q : Nat => s.heap.size ≤ q) ((wS94 cI cJ cZ cB o0 )) := hD
  refine W.widen (k := 1) (n := 2) (by decide) (by decide) ?_
  refine lv_dup hx hb d_law_3 rfl ?_
  have hPc := hP.sub (ws' := (wS94 cI cJ cZ cB o0 )) [0] rfl
  have hDc := hD.sub (ws' := (wS94 cI cJ cZ cB o0 )) [0] (by decide) rfl
  have hFc := va_free (wc := (wS94 cI cJ cZ cB o0 )) hD hS hA [0] rfl
  refine va_callv (va_runI (As := []) (rest := [.ref o0]) ⟨hx, hb, hml, hown, hk⟩ (c_S_init_1 l D cI cJ cZ cB o0 H.size ) (iP_S_init_1 hk k_136 ⟨Nat.le_of_ble_eq_true rfl, Nat.le_of_ble_eq_true rfl⟩) (pM_i hK hPc hDc) rfl rfl hl.1 rfl (lv_room (Nat.le_of_ble_eq_true rfl)) d_law_4 ⟨Nat.le_of_ble_eq_true rfl, Nat.le_of_ble_eq_true rfl⟩) hS (fun q _ h => hFc q h) hFc (fun u t H locs ht hvm hw hB hz1 hk1 hS => ?_)
  obtain ⟨o0_1, o0_2, o0_3, o0_4, o0_5⟩ := u
  obtain ⟨hP1, hD1⟩ := hB
  rw [ht] at hP1
  obtain ⟨hP, hD⟩ := va_join (wr := []) (w1 := (wS104 cI cJ cZ cB o0 o0_1 o0_2 o0_3 o0_4 o0_5 (0 : Int32) (0 : Int32) (0 : Int32) (0 : Int32) (0 : Int32) (0 : Int32) (0 : Int32) (0 : Int32) (0 : Int32) (0 : Int32) (fun _ => 0) (fun _ => 0) (0 : Int32) (0 : Int32))) hP hD [0] [] rfl rfl (by decide) (by decide) hk1 hFc hP1 hD1
  have hP : va_P D classes ((wS104 cI cJ cZ cB o0 o0_1 o0_2 o0_3 o0_4 o0_5 (0 : Int32) (0 : Int32) (0 : Int32) (0 : Int32) (0 : Int32) (0 : Int32) (0 : Int32) (0 : Int32) (0 : Int32) (0 : Int32) (fun _ => 0) (fun _ => 0) (0 : Int32) (0 : Int32))) H := hP
  have hD : va_D (fun q : Nat => s.heap.size ≤ q) ((wS104 cI cJ cZ cB o0 o0_1 o0_2 o0_3 o0_4 o0_5 (0 : Int32) (0 : Int32) (0 : Int32) (0 : Int32) (0 : Int32) (0 : Int32) (0 : Int32) (0 : Int32) (0 : Int32) (0 : Int32) (fun _ => 0) (fun _ => 0) (0 : Int32) (0 : Int32))) := hD
  refine W.widen (k := 6) (n := 4029) (by decide) (by decide) ?_
  refine lv_astore_n (lv' := [(1, .ref o0), (0, .ref b)]) hx hb d_law_7 rfl hl (by decide) rfl (fun ls hl => ?_)
  refine va_new (ci := 7) (fs := [.null, .null, .null, .null, .int 0, .int 0, .int 0, .int 0, .int 0, .null, .null, .null, .int 0, .int 0, .int 0, .int 0, .int 0, .int 0, .int 0, .null, .null, .null, .int 0, .int 0, .int 0, .int 0, .int 0, .int 0, .int 0, .int 0, .int 0, .int 0, .int 0, .null, .null, .null, .int 0, .null, .null, .int 0, .long 0, .null, .null, .null, .int 0, .null, .null, .null, .null, .int 0, .null, .int 0, .null, .int 0, .int 0, .long 0, .int 0, .int 0, .int 0, .int 0, .int 0, .int 0, .long 0, .null]) (C := "SignMachineModel") (T := F_X) (N := 64) hx hb hk fi_X ft_X ft_X_ok hown (hk _ k_1115) (hk _ k_1116) (hk _ k_119) hK.1 hP hD hS hA rfl (by decide +kernel) (Nat.le_of_ble_eq_true rfl) (Nat.le_of_ble_eq_true rfl) d_law_8 (fun o1 H hP hD hS => ?_)
  have hP : va_P D classes ((wS104 cI cJ cZ cB o0 o0_1 o0_2 o0_3 o0_4 o0_5 (0 : Int32) (0 : Int32) (0 : Int32) (0 : Int32) (0 : Int32) (0 : Int32) (0 : Int32) (0 : Int32) (0 : Int32) (0 : Int32) (fun _ => 0) (fun _ => 0) (0 : Int32) (0 : Int32)) ++ (wS0 cI cJ cZ cB o1 (0 : Int32) (0 : Int32) (0 : Int32) (0 : Int32) (0 : Int32) (0 : Int32) (0 : Int32) (0 : Int32) (0 : Int32) (0 : Int32) (0 : Int32) (0 : Int32) (0 : Int32) (0 : Int32) (0 : Int32) (0 : Int32) (0 : Int32) (0 : Int32) (0 : Int32) (0 : Int32) (0 : Int32) (0 : Int32) (0 : Int32) (0 : Int32) (0 : Int32) (0 : Int64) (0 : Int32) (0 : Int32) (0 : Int32) (0 : Int32) (0 : Int32) (0 : Int64) (0 : Int32) (0 : Int32) (0 : Int32) (0 : Int32) (0 : Int32) (0 : Int32) (0 : Int64))) H := hP
  have hD : va_D (fun q : Nat => s.heap.size ≤ q) ((wS104 cI cJ cZ cB o0 o0_1 o0_2 o0_3 o0_4 o0_5 (0 : Int32) (0 : Int32) (0 : Int32) (0 : Int32) (0 : Int32) (0 : Int32) (0 : Int32) (0 : Int32) (0 : Int32) (0 : Int32) (fun _ => 0) (fun _ => 0) (0 : Int32) (0 : Int32)) ++ (wS0 cI cJ cZ cB o1 (0 : Int32) (0 : Int32) (0 : Int32) (0 : Int32) (0 : Int32) (0 : Int32) (0 : Int32) (0 : Int32) (0 : Int32) (0 : Int32) (0 : Int32) (0 : Int32) (0 : Int32) (0 : Int32) (0 : Int32) (0 : Int32) (0 : Int32) (0 : Int32) (0 : Int32) (0 : Int32) (0 : Int32) (0 : Int32) (0 : Int32) (0 : Int32) (0 : Int32) (0 : Int64) (0 : Int32) (0 : Int32) (0 : Int32) (0 : Int32) (0 : Int32) (0 : Int64) (0 : Int32) (0 : Int32) (0 : Int32) (0 : Int32) (0 : Int32) (0 : Int32) (0 : Int64))) := hD
  refine W.widen (k := 7) (n := 4093) (by decide) (by decide) ?_
  refine lv_dup hx hb d_law_11 rfl ?_
  have hPc := hP.sub (ws' := (wS0 cI cJ cZ cB o1 (0 : Int32) (0 : Int32) (0 : Int32) (0 : Int32) (0 : Int32) (0 : Int32) (0 : Int32) (0 : Int32) (0 : Int32) (0 : Int32) (0 : Int32) (0 : Int32) (0 : Int32) (0 : Int32) (0 : Int32) (0 : Int32) (0 : Int32) (0 : Int32) (0 : Int32) (0 : Int32) (0 : Int32) (0 : Int32) (0 : Int32) (0 : Int32) (0 : Int32) (0 : Int64) (0 : Int32) (0 : Int32) (0 : Int32) (0 : Int32) (0 : Int32) (0 : Int64) (0 : Int32) (0 : Int32) (0 : Int32) (0 : Int32) (0 : Int32) (0 : Int32) (0 : Int64))) [6] rfl
  have hDc := hD.sub (ws' := (wS0 cI cJ cZ cB o1 (0 : Int32) (0 : Int32) (0 : Int32) (0 : Int32) (0 : Int32) (0 : Int32) (0 : Int32) (0 : Int32) (0 : Int32) (0 : Int32) (0 : Int32) (0 : Int32) (0 : Int32) (0 : Int32) (0 : Int32) (0 : Int32) (0 : Int32) (0 : Int32) (0 : Int32) (0 : Int32) (0 : Int32) (0 : Int32) (0 : Int32) (0 : Int32) (0 : Int32) (0 : Int64) (0 : Int32) (0 : Int32) (0 : Int32) (0 : Int32) (0 : Int32) (0 : Int64) (0 : Int32) (0 : Int32) (0 : Int32) (0 : Int32) (0 : Int32) (0 : Int32) (0 : Int64))) [6] (by decide) rfl
  have hFc := va_free (wc := (wS0 cI cJ cZ cB o1 (0 : Int32) (0 : Int32) (0 : Int32) (0 : Int32) (0 : Int32) (0 : Int32) (0 : Int32) (0 : Int32) (0 : Int32) (0 : Int32) (0 : Int32) (0 : Int32) (0 : Int32) (0 : Int32) (0 : Int32) (0 : Int32) (0 : Int32) (0 : Int32) (0 : Int32) (0 : Int32) (0 : Int32) (0 : Int32) (0 : Int32) (0 : Int32) (0 : Int32) (0 : Int64) (0 : Int32) (0 : Int32) (0 : Int32) (0 : Int32) (0 : Int32) (0 : Int64) (0 : Int32) (0 : Int32) (0 : Int32) (0 : Int32) (0 : Int32) (0 : Int32) (0 : Int64))) hD hS hA [6] rfl
  refine va_callv (va_runI (As := []) (rest := [.ref o1]) ⟨hx, hb, hml, hown, hk⟩ (c_X_init_1 l D cI cJ cZ cB o1 H.size ) (iP_X_init_1 hk k_1117 ⟨Nat.le_of_ble_eq_true rfl, Nat.le_of_ble_eq_true rfl⟩) (pM_i hK hPc hDc) rfl rfl hl.1 rfl (lv_room (Nat.le_of_ble_eq_true rfl)) d_law_12 ⟨Nat.le_of_ble_eq_true rfl, Nat.le_of_ble_eq_true rfl⟩) hS (fun q _ h => hFc q h) hFc (fun u t H locs ht hvm hw hB hz1 hk1 hS => ?_)
  obtain ⟨o1_1, o1_2, o1_3, o1_4, o1_5, o1_6, o1_7, o1_8, o1_9, o1_10, o1_11, o1_12, o1_13, o1_14, o1_15, o1_16, o1_17, o1_18, o1_19, o1_20, o1_21, o1_22, o1_23, o1_24, o1_25⟩ := u
  obtain ⟨hP1, hD1⟩ := hB
  rw [ht] at hP1
  obtain ⟨hP, hD⟩ := va_join (wr := (wS104 cI cJ cZ cB o0 o0_1 o0_2 o0_3 o0_4 o0_5 (0 : Int32) (0 : Int32) (0 : Int32) (0 : Int32) (0 : Int32) (0 : Int32) (0 : Int32) (0 : Int32) (0 : Int32) (0 : Int32) (fun _ => 0) (fun _ => 0) (0 : Int32) (0 : Int32))) (w1 := (wS50 cI cJ cZ cB o1 o1_1 o1_2 o1_3 o1_4 o1_5 o1_6 o1_7 o1_8 o1_9 o1_10 o1_11 o1_12 o1_13 o1_14 o1_15 o1_16 o1_17 o1_18 o1_19 o1_20 o1_21 o1_22 o1_23 o1_24 o1_25 (0 : Int32) (0 : Int32) (0 : Int32) (0 : Int32) (0 : Int32) (0 : Int32) (0 : Int32) (0 : Int32) (0 : Int32) (0 : Int32) (0 : Int32) (0 : Int32) (0 : Int32) (0 : Int32) (0 : Int32) (0 : Int32) (0 : Int32) (0 : Int32) (0 : Int32) (-1 : Int32) (0 : Int32) (0 : Int32) (0 : Int32) (0 : Int32) (0 : Int32) (0 : Int64) (0 : Int32) (0 : Int32) (0 : Int32) (0 : Int32) (0 : Int32) (0 : Int64) (0 : Int32) (0 : Int32) (0 : Int32) (0 : Int32) (0 : Int32) (0 : Int32) (0 : Int64) (fun _ => 0) (fun _ => 0) (fun _ => 0) (fun _ => 0) (fun _ => 0) (fun _ => 0) (fun _ => 0) (fun _ => 0) (fun _ => 0) (fun _ => 0) (fun _ => 0) (fun _ => 0) (fun _ => 0) (fun _ => 0) (fun _ => 0) (fun _ => 0) (fun _ => 0) (fun _ => 0) (fun _ => 0) (fun _ => 0) (fun _ => 0) (fun _ => 0) (fun _ => 0) (fun _ => 0) (fun _ => 0))) hP hD [6] [0, 1, 2, 3, 4, 5] rfl rfl (by decide) (by decide) hk1 hFc hP1 hD1
  have hP : va_P D classes ((wS104 cI cJ cZ cB o0 o0_1 o0_2 o0_3 o0_4 o0_5 (0 : Int32) (0 : Int32) (0 : Int32) (0 : Int32) (0 : Int32) (0 : Int32) (0 : Int32) (0 : Int32) (0 : Int32) (0 : Int32) (fun _ => 0) (fun _ => 0) (0 : Int32) (0 : Int32)) ++ (wS50 cI cJ cZ cB o1 o1_1 o1_2 o1_3 o1_4 o1_5 o1_6 o1_7 o1_8 o1_9 o1_10 o1_11 o1_12 o1_13 o1_14 o1_15 o1_16 o1_17 o1_18 o1_19 o1_20 o1_21 o1_22 o1_23 o1_24 o1_25 (0 : Int32) (0 : Int32) (0 : Int32) (0 : Int32) (0 : Int32) (0 : Int32) (0 : Int32) (0 : Int32) (0 : Int32) (0 : Int32) (0 : Int32) (0 : Int32) (0 : Int32) (0 : Int32) (0 : Int32) (0 : Int32) (0 : Int32) (0 : Int32) (0 : Int32) (-1 : Int32) (0 : Int32) (0 : Int32) (0 : Int32) (0 : Int32) (0 : Int32) (0 : Int64) (0 : Int32) (0 : Int32) (0 : Int32) (0 : Int32) (0 : Int32) (0 : Int64) (0 : Int32) (0 : Int32) (0 : Int32) (0 : Int32) (0 : Int32) (0 : Int32) (0 : Int64) (fun _ => 0) (fun _ => 0) (fun _ => 0) (fun _ => 0) (fun _ => 0) (fun _ => 0) (fun _ => 0) (fun _ => 0) (fun _ => 0) (fun _ => 0) (fun _ => 0) (fun _ => 0) (fun _ => 0) (fun _ => 0) (fun _ => 0) (fun _ => 0) (fun _ => 0) (fun _ => 0) (fun _ => 0) (fun _ => 0) (fun _ => 0) (fun _ => 0) (fun _ => 0) (fun _ => 0) (fun _ => 0))) H := hP
  have hD : va_D (fun q : Nat => s.heap.size ≤ q) ((wS104 cI cJ cZ cB o0 o0_1 o0_2 o0_3 o0_4 o0_5 (0 : Int32) (0 : Int32) (0 : Int32) (0 : Int32) (0 : Int32) (0 : Int32) (0 : Int32) (0 : Int32) (0 : Int32) (0 : Int32) (fun _ => 0) (fun _ => 0) (0 : Int32) (0 : Int32)) ++ (wS50 cI cJ cZ cB o1 o1_1 o1_2 o1_3 o1_4 o1_5 o1_6 o1_7 o1_8 o1_9 o1_10 o1_11 o1_12 o1_13 o1_14 o1_15 o1_16 o1_17 o1_18 o1_19 o1_20 o1_21 o1_22 o1_23 o1_24 o1_25 (0 : Int32) (0 : Int32) (0 : Int32) (0 : Int32) (0 : Int32) (0 : Int32) (0 : Int32) (0 : Int32) (0 : Int32) (0 : Int32) (0 : Int32) (0 : Int32) (0 : Int32) (0 : Int32) (0 : Int32) (0 : Int32) (0 : Int32) (0 : Int32) (0 : Int32) (-1 : Int32) (0 : Int32) (0 : Int32) (0 : Int32) (0 : Int32) (0 : Int32) (0 : Int64) (0 : Int32) (0 : Int32) (0 : Int32) (0 : Int32) (0 : Int32) (0 : Int64) (0 : Int32) (0 : Int32) (0 : Int32) (0 : Int32) (0 : Int32) (0 : Int32) (0 : Int64) (fun _ => 0) (fun _ => 0) (fun _ => 0) (fun _ => 0) (fun _ => 0) (fun _ => 0) (fun _ => 0) (fun _ => 0) (fun _ => 0) (fun _ => 0) (fun _ => 0) (fun _ => 0) (fun _ => 0) (fun _ => 0) (fun _ => 0) (fun _ => 0) (fun _ => 0) (fun _ => 0) (fun _ => 0) (fun _ => 0) (fun _ => 0) (fun _ => 0) (fun _ => 0) (fun _ => 0) (fun _ => 0))) := hD
  refine W.widen (k := 32) (n := 66087) (by decide) (by decide) ?_
  refine lv_astore_n (lv' := [(2, .ref o1), (1, .ref o0), (0, .ref b)]) hx hb d_law_15 rfl hl (by decide) rfl (fun ls hl => ?_)
  refine lv_iconst (v := 0) hx hb d_law_16 (by decide) ?_
  refine lv_istore_n (lv' := [(3, .int (0 : Int32)), (2, .ref o1), (1, .ref o0), (0, .ref b)]) hx hb d_law_17 rfl hl (by decide) rfl (fun ls hl => ?_)
  have LP : ∀ (n j : Nat) (L1 : Int32) (Wc Wx : va_W) (H : Heap) (locs : List Loc) (ls : Array Slot), j + n = 513 → 6 * j ≤ 3072 → isC K cI cJ cZ cB o0 L1 Wc → isR cI cJ cZ cB o1 L1 Wx → va_P D classes Wc H → va_P D classes Wx H → va_D (fun q : Nat => s.heap.size ≤ q) Wc → va_D (fun q : Nat => s.heap.size ≤ q) Wx → ap Wc Wx → va_S (fun q : Nat => s.heap.size ≤ q) s.heap H locs → lv_has ls 4 [(3, .int (nI (6 * j))), (2, .ref o1), (1, .ref o0), (0, .ref b)] → W p l e room_1 s m #[Value.ref b] below meth c H locs (32 + 16 * j) (66087 + 9873 * j) (lw_Z below #[Value.ref b] s) (F0 m 18 ls []) := by
    intro n
    induction n with
    | zero => intro j L1 Wc Wx H locs ls hn hj; exfalso; omega
    | succ n ih =>
      intro j L1 Wc Wx H locs ls hn hj hC hR hPc hPx hDc hDx hap hS hl
      refine lv_iload_n hx hb d_law_18 rfl (lv_at hl 0 rfl) ?_
      refine lv_aload_n hx hb d_law_19 rfl (lv_at hl 3 rfl) ?_
      refine va_slen hx hb hX hbl hbA hS d_law_20 ?_
      refine lv_bipush (v := 6) hx hb d_law_21 (by decide) ?_
      refine lv_isub hx hb d_law_23 ?_
      refine lv_icmp_gt (tgt := 539) hx hb d_law_24 (by decide) (fun h1 => ?_) (fun h1 => ?_)
      · refine lv_iconst (v := 1) hx hb d_law_539 (by decide) ?_
        refine va_forget (fun q hq => hS.2.2 q hq) ?_
        refine W.widen (k := 111712) (n := 8767114) (by omega) (by omega) ?_
        exact lw_ret hx hb hr hlocks d_law_540
      · have hgo := lgo hL hj h1
        have NX : ∀ (L1 : Int32) (Wc Wx : va_W) (H : Heap) (locs : List Loc) (ls : Array Slot), isC K cI cJ cZ cB o0 L1 Wc → isR cI cJ cZ cB o1 L1 Wx → va_P D classes Wc H → va_P D classes Wx H → va_D (fun q : Nat => s.heap.size ≤ q) Wc → va_D (fun q : Nat => s.heap.size ≤ q) Wx → ap Wc Wx → va_S (fun q : Nat => s.heap.size ≤ q) s.heap H locs → lv_has ls 4 [(3, .int (nI (6 * j))), (2, .ref o1), (1, .ref o0), (0, .ref b)] → W p l e room_1 s m #[Value.ref b] below meth c H locs (32 + 16 * (j + 1)) (66087 + 9873 * (j + 1)) (lw_Z below #[Value.ref b] s) (F0 m 533 ls []) := by
          intro L1 Wc Wx H locs ls hC hR hPc hPx hDc hDx hap hS hl
          refine lv_iinc (v := nI (6 * (j + 1))) (lv' := [(3, .int (nI (6 * (j + 1)))), (2, .ref o1), (1, .ref o0), (0, .ref b)]) hx hb d_law_533 hl (k := 0) rfl (ni6 (by omega)) (by decide) rfl (fun ls hl => ?_)
          refine lv_goto (tgt := 18) hx hb d_law_536 (by decide) ?_
          exact ih (j + 1) L1 Wc Wx H locs ls (by omega) (by omega) hC hR hPc hPx hDc hDx hap hS hl
        refine lv_aload_n hx hb d_law_27 rfl (lv_at hl 3 rfl) ?_
        refine lv_iload_n hx hb d_law_28 rfl (lv_at hl 0 rfl) ?_
        refine va_sld hx hb hX hbl hbA hS (lin0 hL hgo) d_law_29 ?_
        refine lv_bipush (v := 15) hx hb d_law_30 (by decide) ?_
        refine lv_iand hx hb d_law_32 ?_
        generalize hsw : ((xs ((nI (6 * j))).toNatClampNeg) &&& (15 : Int32)) = sv
        by_cases cs0 : sv = (0 : Int32)
        · refine lv_tableIn (off := 75) (tgt := 108) hx hb d_law_33 (by rw [cs0]; decide) (by rw [cs0]; decide) (by rw [cs0]; rfl) (by decide) ?_
          refine lv_aload_n hx hb d_law_108 rfl (lv_at hl 2 rfl) ?_
          refine lv_aload_n hx hb d_law_109 rfl (lv_at hl 3 rfl) ?_
          refine lv_iload_n hx hb d_law_110 rfl (lv_at hl 0 rfl) ?_
          refine lv_iconst (v := 1) hx hb d_law_111 (by decide) ?_
          refine lv_iadd hx hb d_law_112 ?_
          refine va_sld hx hb hX hbl hbA hS (lin hL hgo (by decide)) d_law_113 ?_
          refine lv_aload_n hx hb d_law_114 rfl (lv_at hl 3 rfl) ?_
          refine lv_iload_n hx hb d_law_115 rfl (lv_at hl 0 rfl) ?_
          refine lv_iconst (v := 2) hx hb d_law_116 (by decide) ?_
          refine lv_iadd hx hb d_law_117 ?_
          refine va_sld hx hb hX hbl hbA hS (lin hL hgo (by decide)) d_law_118 ?_
          refine lv_aload_n hx hb d_law_119 rfl (lv_at hl 3 rfl) ?_
          refine lv_iload_n hx hb d_law_120 rfl (lv_at hl 0 rfl) ?_
          refine lv_iconst (v := 3) hx hb d_law_121 (by decide) ?_
          refine lv_iadd hx hb d_law_122 ?_
          refine va_sld hx hb hX hbl hbA hS (lin hL hgo (by decide)) d_law_123 ?_
          obtain ⟨fs0, he0⟩ := isC_hd hC
          have hF := fr_all hDc hS hA
          refine va_calli (va_runV (C := "SignMachine") (As := [.int (xs (((nI (6 * j)) + (1 : Int32))).toNatClampNeg), .int (xs (((nI (6 * j)) + (2 : Int32))).toNatClampNeg), .int (xs (((nI (6 * j)) + (3 : Int32))).toNatClampNeg)]) (rest := []) ⟨hx, hb, hml, hown, hk⟩ (C_poke l K D cI cJ cZ cB o0 _ Wc H.size (isR_L hR) hC (xs (((nI (6 * j)) + (1 : Int32))).toNatClampNeg) (xs (((nI (6 * j)) + (2 : Int32))).toNatClampNeg) (xs (((nI (6 * j)) + (3 : Int32))).toNatClampNeg)) (v_S_poke_b11 hk k_217 ⟨Nat.le_of_ble_eq_true rfl, Nat.le_of_ble_eq_true rfl⟩) (pMC_v hK hPc hDc hCN hS hA (ci := 0) (q0 := 0) rfl he0 rfl) rfl rfl hl.1 rfl (lv_room (Nat.le_of_ble_eq_true rfl)) d_law_124 ⟨(show 32 + 16 * j + 0 ≤ 111712 from by omega), (show 66087 + 9873 * j + 0 ≤ 8767114 from by omega)⟩) hS (fun q _ h => hF q h) hF (fun r0 uL0 t H locs ht hvm hw0 hB hz1 hk1 hS => ?_)
          obtain ⟨W9, h9, hP9, hD9⟩ := hB
          rw [ht] at hP9
          obtain ⟨hPx, hDc, hap⟩ := two hPx hap hF hk1 hD9
          have hC := h9
          have hPc := hP9
          clear h9 hP9 hD9 hF
          refine W.widen (k := 32 + 16 * j + 0) (n := 66087 + 9873 * j + 0) (by omega) (by omega) ?_
          refine lv_pop hx hb d_law_127 rfl ?_
          refine lv_aload_n hx hb d_law_128 rfl (lv_at hl 1 rfl) ?_
          refine lv_aload_n hx hb d_law_129 rfl (lv_at hl 3 rfl) ?_
          refine lv_iload_n hx hb d_law_130 rfl (lv_at hl 0 rfl) ?_
          refine lv_iconst (v := 1) hx hb d_law_131 (by decide) ?_
          refine lv_iadd hx hb d_law_132 ?_
          refine va_sld hx hb hX hbl hbA hS (lin hL hgo (by decide)) d_law_133 ?_
          refine lv_aload_n hx hb d_law_134 rfl (lv_at hl 3 rfl) ?_
          refine lv_iload_n hx hb d_law_135 rfl (lv_at hl 0 rfl) ?_
          refine lv_iconst (v := 2) hx hb d_law_136 (by decide) ?_
          refine lv_iadd hx hb d_law_137 ?_
          refine va_sld hx hb hX hbl hbA hS (lin hL hgo (by decide)) d_law_138 ?_
          refine lv_aload_n hx hb d_law_139 rfl (lv_at hl 3 rfl) ?_
          refine lv_iload_n hx hb d_law_140 rfl (lv_at hl 0 rfl) ?_
          refine lv_iconst (v := 3) hx hb d_law_141 (by decide) ?_
          refine lv_iadd hx hb d_law_142 ?_
          refine va_sld hx hb hX hbl hbA hS (lin hL hgo (by decide)) d_law_143 ?_
          obtain ⟨fs1, he1⟩ := isR_hd hR
          have hF := fr_all hDx hS hA
          refine va_calli (va_runV (C := "SignMachineModel") (As := [.int (xs (((nI (6 * j)) + (1 : Int32))).toNatClampNeg), .int (xs (((nI (6 * j)) + (2 : Int32))).toNatClampNeg), .int (xs (((nI (6 * j)) + (3 : Int32))).toNatClampNeg)]) (rest := []) ⟨hx, hb, hml, hown, hk⟩ (R_poke l D cI cJ cZ cB o1 _ Wx H.size hR (xs (((nI (6 * j)) + (1 : Int32))).toNatClampNeg) (xs (((nI (6 * j)) + (2 : Int32))).toNatClampNeg) (xs (((nI (6 * j)) + (3 : Int32))).toNatClampNeg)) (v_X_poke hk k_1314 ⟨Nat.le_of_ble_eq_true rfl, Nat.le_of_ble_eq_true rfl⟩) (pM_v hK hPx hDx (ci := 7) (q0 := 0) rfl he1 rfl) rfl rfl hl.1 rfl (lv_room (Nat.le_of_ble_eq_true rfl)) d_law_144 ⟨(show 32 + 16 * j + 0 ≤ 111712 from by omega), (show 66087 + 9873 * j + 0 ≤ 8767114 from by omega)⟩) hS (fun q _ h => hF q h) hF (fun r1 uL1 t H locs ht hvm hw1 hB hz1 hk1 hS => ?_)
          obtain ⟨W9, h9, hP9, hD9⟩ := hB
          rw [ht] at hP9
          obtain ⟨hPc, hDx, hap2⟩ := two hPc hap.symm hF hk1 hD9
          have hap := hap2.symm
          have hR := h9
          have hPx := hP9
          clear h9 hP9 hD9 hF hap2
          have hL9 := hw0.1.trans hw1.1.symm
          rw [hL9] at hC
          refine W.widen (k := 32 + 16 * j + 0) (n := 66087 + 9873 * j + 0) (by omega) (by omega) ?_
          refine lv_pop hx hb d_law_147 rfl ?_
          refine lv_goto (tgt := 533) hx hb d_law_148 (by decide) ?_
          refine W.widen (k := 32 + 16 * (j + 1)) (n := 66087 + 9873 * (j + 1)) (by omega) (by omega) ?_
          exact NX _ _ _ _ _ ls hC hR hPc hPx hDc hDx hap hS hl
        · by_cases cs1 : sv = (1 : Int32)
          · refine lv_tableIn (off := 118) (tgt := 151) hx hb d_law_33 (by rw [cs1]; decide) (by rw [cs1]; decide) (by rw [cs1]; rfl) (by decide) ?_
            refine lv_aload_n hx hb d_law_151 rfl (lv_at hl 2 rfl) ?_
            refine lv_aload_n hx hb d_law_152 rfl (lv_at hl 3 rfl) ?_
            refine lv_iload_n hx hb d_law_153 rfl (lv_at hl 0 rfl) ?_
            refine lv_iconst (v := 1) hx hb d_law_154 (by decide) ?_
            refine lv_iadd hx hb d_law_155 ?_
            refine va_sld hx hb hX hbl hbA hS (lin hL hgo (by decide)) d_law_156 ?_
            obtain ⟨fs0, he0⟩ := isC_hd hC
            have hF := fr_all hDc hS hA
            refine va_calli (va_runV (C := "SignMachine") (As := [.int (xs (((nI (6 * j)) + (1 : Int32))).toNatClampNeg)]) (rest := []) ⟨hx, hb, hml, hown, hk⟩ (C_peekSign l K D cI cJ cZ cB o0 _ Wc H.size (isR_L hR) hC (xs (((nI (6 * j)) + (1 : Int32))).toNatClampNeg)) (v_S_peekSign_b11 hk k_236 ⟨Nat.le_of_ble_eq_true rfl, Nat.le_of_ble_eq_true rfl⟩) (pMC_v hK hPc hDc hCN hS hA (ci := 0) (q0 := 0) rfl he0 rfl) rfl rfl hl.1 rfl (lv_room (Nat.le_of_ble_eq_true rfl)) d_law_157 ⟨(show 32 + 16 * j + 0 ≤ 111712 from by omega), (show 66087 + 9873 * j + 0 ≤ 8767114 from by omega)⟩) hS (fun q _ h => hF q h) hF (fun r0 uL0 t H locs ht hvm hw0 hB hz1 hk1 hS => ?_)
            obtain ⟨W9, h9, hP9, hD9⟩ := hB
            rw [ht] at hP9
            obtain ⟨hPx, hDc, hap⟩ := two hPx hap hF hk1 hD9
            have hC := h9
            have hPc := hP9
            clear h9 hP9 hD9 hF
            refine W.widen (k := 32 + 16 * j + 0) (n := 66087 + 9873 * j + 0) (by omega) (by omega) ?_
            refine lv_pop hx hb d_law_160 rfl ?_
            refine lv_aload_n hx hb d_law_161 rfl (lv_at hl 1 rfl) ?_
            refine lv_aload_n hx hb d_law_162 rfl (lv_at hl 3 rfl) ?_
            refine lv_iload_n hx hb d_law_163 rfl (lv_at hl 0 rfl) ?_
            refine lv_iconst (v := 1) hx hb d_law_164 (by decide) ?_
            refine lv_iadd hx hb d_law_165 ?_
            refine va_sld hx hb hX hbl hbA hS (lin hL hgo (by decide)) d_law_166 ?_
            obtain ⟨fs1, he1⟩ := isR_hd hR
            have hF := fr_all hDx hS hA
            refine va_calli (va_runV (C := "SignMachineModel") (As := [.int (xs (((nI (6 * j)) + (1 : Int32))).toNatClampNeg)]) (rest := []) ⟨hx, hb, hml, hown, hk⟩ (R_peekSign l D cI cJ cZ cB o1 _ Wx H.size hR (xs (((nI (6 * j)) + (1 : Int32))).toNatClampNeg)) (v_X_peekSign hk k_1323 ⟨Nat.le_of_ble_eq_true rfl, Nat.le_of_ble_eq_true rfl⟩) (pM_v hK hPx hDx (ci := 7) (q0 := 0) rfl he1 rfl) rfl rfl hl.1 rfl (lv_room (Nat.le_of_ble_eq_true rfl)) d_law_167 ⟨(show 32 + 16 * j + 0 ≤ 111712 from by omega), (show 66087 + 9873 * j + 0 ≤ 8767114 from by omega)⟩) hS (fun q _ h => hF q h) hF (fun r1 uL1 t H locs ht hvm hw1 hB hz1 hk1 hS => ?_)
            obtain ⟨W9, h9, hP9, hD9⟩ := hB
            rw [ht] at hP9
            obtain ⟨hPc, hDx, hap2⟩ := two hPc hap.symm hF hk1 hD9
            have hap := hap2.symm
            have hR := h9
            have hPx := hP9
            clear h9 hP9 hD9 hF hap2
            have hL9 := hw0.trans hw1.symm
            rw [hL9] at hC
            refine W.widen (k := 32 + 16 * j + 0) (n := 66087 + 9873 * j + 0) (by omega) (by omega) ?_
            refine lv_pop hx hb d_law_170 rfl ?_
            refine lv_goto (tgt := 533) hx hb d_law_171 (by decide) ?_
            refine W.widen (k := 32 + 16 * (j + 1)) (n := 66087 + 9873 * (j + 1)) (by omega) (by omega) ?_
            exact NX _ _ _ _ _ ls hC hR hPc hPx hDc hDx hap hS hl
          · by_cases cs2 : sv = (2 : Int32)
            · refine lv_tableIn (off := 141) (tgt := 174) hx hb d_law_33 (by rw [cs2]; decide) (by rw [cs2]; decide) (by rw [cs2]; rfl) (by decide) ?_
              refine lv_aload_n hx hb d_law_174 rfl (lv_at hl 2 rfl) ?_
              refine lv_aload_n hx hb d_law_175 rfl (lv_at hl 3 rfl) ?_
              refine lv_iload_n hx hb d_law_176 rfl (lv_at hl 0 rfl) ?_
              refine lv_iconst (v := 1) hx hb d_law_177 (by decide) ?_
              refine lv_iadd hx hb d_law_178 ?_
              refine va_sld hx hb hX hbl hbA hS (lin hL hgo (by decide)) d_law_179 ?_
              obtain ⟨fs0, he0⟩ := isC_hd hC
              have hF := fr_all hDc hS hA
              refine va_calli (va_runV (C := "SignMachine") (As := [.int (xs (((nI (6 * j)) + (1 : Int32))).toNatClampNeg)]) (rest := []) ⟨hx, hb, hml, hown, hk⟩ (C_peekSize l K D cI cJ cZ cB o0 _ Wc H.size (isR_L hR) hC (xs (((nI (6 * j)) + (1 : Int32))).toNatClampNeg)) (v_S_peekSize_b11 hk k_247 ⟨Nat.le_of_ble_eq_true rfl, Nat.le_of_ble_eq_true rfl⟩) (pMC_v hK hPc hDc hCN hS hA (ci := 0) (q0 := 0) rfl he0 rfl) rfl rfl hl.1 rfl (lv_room (Nat.le_of_ble_eq_true rfl)) d_law_180 ⟨(show 32 + 16 * j + 0 ≤ 111712 from by omega), (show 66087 + 9873 * j + 0 ≤ 8767114 from by omega)⟩) hS (fun q _ h => hF q h) hF (fun r0 uL0 t H locs ht hvm hw0 hB hz1 hk1 hS => ?_)
              obtain ⟨W9, h9, hP9, hD9⟩ := hB
              rw [ht] at hP9
              obtain ⟨hPx, hDc, hap⟩ := two hPx hap hF hk1 hD9
              have hC := h9
              have hPc := hP9
              clear h9 hP9 hD9 hF
              refine W.widen (k := 32 + 16 * j + 0) (n := 66087 + 9873 * j + 0) (by omega) (by omega) ?_
              refine lv_pop hx hb d_law_183 rfl ?_
              refine lv_aload_n hx hb d_law_184 rfl (lv_at hl 1 rfl) ?_
              refine lv_aload_n hx hb d_law_185 rfl (lv_at hl 3 rfl) ?_
              refine lv_iload_n hx hb d_law_186 rfl (lv_at hl 0 rfl) ?_
              refine lv_iconst (v := 1) hx hb d_law_187 (by decide) ?_
              refine lv_iadd hx hb d_law_188 ?_
              refine va_sld hx hb hX hbl hbA hS (lin hL hgo (by decide)) d_law_189 ?_
              obtain ⟨fs1, he1⟩ := isR_hd hR
              have hF := fr_all hDx hS hA
              refine va_calli (va_runV (C := "SignMachineModel") (As := [.int (xs (((nI (6 * j)) + (1 : Int32))).toNatClampNeg)]) (rest := []) ⟨hx, hb, hml, hown, hk⟩ (R_peekSize l D cI cJ cZ cB o1 _ Wx H.size hR (xs (((nI (6 * j)) + (1 : Int32))).toNatClampNeg)) (v_X_peekSize hk k_1327 ⟨Nat.le_of_ble_eq_true rfl, Nat.le_of_ble_eq_true rfl⟩) (pM_v hK hPx hDx (ci := 7) (q0 := 0) rfl he1 rfl) rfl rfl hl.1 rfl (lv_room (Nat.le_of_ble_eq_true rfl)) d_law_190 ⟨(show 32 + 16 * j + 0 ≤ 111712 from by omega), (show 66087 + 9873 * j + 0 ≤ 8767114 from by omega)⟩) hS (fun q _ h => hF q h) hF (fun r1 uL1 t H locs ht hvm hw1 hB hz1 hk1 hS => ?_)
              obtain ⟨W9, h9, hP9, hD9⟩ := hB
              rw [ht] at hP9
              obtain ⟨hPc, hDx, hap2⟩ := two hPc hap.symm hF hk1 hD9
              have hap := hap2.symm
              have hR := h9
              have hPx := hP9
              clear h9 hP9 hD9 hF hap2
              have hL9 := hw0.trans hw1.symm
              rw [hL9] at hC
              refine W.widen (k := 32 + 16 * j + 0) (n := 66087 + 9873 * j + 0) (by omega) (by omega) ?_
              refine lv_pop hx hb d_law_193 rfl ?_
              refine lv_goto (tgt := 533) hx hb d_law_194 (by decide) ?_
              refine W.widen (k := 32 + 16 * (j + 1)) (n := 66087 + 9873 * (j + 1)) (by omega) (by omega) ?_
              exact NX _ _ _ _ _ ls hC hR hPc hPx hDc hDx hap hS hl
            · by_cases cs3 : sv = (3 : Int32)
              · refine lv_tableIn (off := 164) (tgt := 197) hx hb d_law_33 (by rw [cs3]; decide) (by rw [cs3]; decide) (by rw [cs3]; rfl) (by decide) ?_
                refine lv_aload_n hx hb d_law_197 rfl (lv_at hl 2 rfl) ?_
                obtain ⟨fs0, he0⟩ := isC_hd hC
                have hF := fr_all hDc hS hA
                refine va_calli (va_runV (C := "SignMachine") (As := []) (rest := []) ⟨hx, hb, hml, hown, hk⟩ (C_step l K D cI cJ cZ cB o0 _ Wc H.size (isR_L hR) hC ) (v_S_step_b11 hk k_254 ⟨Nat.le_of_ble_eq_true rfl, Nat.le_of_ble_eq_true rfl⟩) (pMC_v hK hPc hDc hCN hS hA (ci := 0) (q0 := 0) rfl he0 rfl) rfl rfl hl.1 rfl (lv_room (Nat.le_of_ble_eq_true rfl)) d_law_198 ⟨(show 32 + 16 * j + 1 ≤ 111712 from by omega), (show 66087 + 9873 * j + 4000 ≤ 8767114 from by omega)⟩) hS (fun q _ h => hF q h) hF (fun r0 uL0 t H locs ht hvm hw0 hB hz1 hk1 hS => ?_)
                obtain ⟨W9, h9, hP9, hD9⟩ := hB
                rw [ht] at hP9
                obtain ⟨hPx, hDc, hap⟩ := two hPx hap hF hk1 hD9
                have hC := h9
                have hPc := hP9
                clear h9 hP9 hD9 hF
                refine W.widen (k := 32 + 16 * j + 1) (n := 66087 + 9873 * j + 4000) (by omega) (by omega) ?_
                refine lv_pop hx hb d_law_201 rfl ?_
                refine lv_aload_n hx hb d_law_202 rfl (lv_at hl 1 rfl) ?_
                obtain ⟨fs1, he1⟩ := isR_hd hR
                have hF := fr_all hDx hS hA
                refine va_calli (va_runV (C := "SignMachineModel") (As := []) (rest := []) ⟨hx, hb, hml, hown, hk⟩ (R_step l D cI cJ cZ cB o1 _ Wx H.size hR ) (v_X_step hk k_1364 ⟨Nat.le_of_ble_eq_true rfl, Nat.le_of_ble_eq_true rfl⟩) (pM_v hK hPx hDx (ci := 7) (q0 := 0) rfl he1 rfl) rfl rfl hl.1 rfl (lv_room (Nat.le_of_ble_eq_true rfl)) d_law_203 ⟨(show 32 + 16 * j + 1 + 0 ≤ 111712 from by omega), (show 66087 + 9873 * j + 4000 + 0 ≤ 8767114 from by omega)⟩) hS (fun q _ h => hF q h) hF (fun r1 uL1 t H locs ht hvm hw1 hB hz1 hk1 hS => ?_)
                obtain ⟨W9, h9, hP9, hD9⟩ := hB
                rw [ht] at hP9
                obtain ⟨hPc, hDx, hap2⟩ := two hPc hap.symm hF hk1 hD9
                have hap := hap2.symm
                have hR := h9
                have hPx := hP9
                clear h9 hP9 hD9 hF hap2
                have hL9 := hw0.trans hw1.symm
                rw [hL9] at hC
                refine W.widen (k := 32 + 16 * j + 1) (n := 66087 + 9873 * j + 4000) (by omega) (by omega) ?_
                refine lv_pop hx hb d_law_206 rfl ?_
                refine lv_goto (tgt := 533) hx hb d_law_207 (by decide) ?_
                refine W.widen (k := 32 + 16 * (j + 1)) (n := 66087 + 9873 * (j + 1)) (by omega) (by omega) ?_
                exact NX _ _ _ _ _ ls hC hR hPc hPx hDc hDx hap hS hl
              · by_cases cs4 : sv = (4 : Int32)
                · refine lv_tableIn (off := 177) (tgt := 210) hx hb d_law_33 (by rw [cs4]; decide) (by rw [cs4]; decide) (by rw [cs4]; rfl) (by decide) ?_
                  refine lv_aload_n hx hb d_law_210 rfl (lv_at hl 2 rfl) ?_
                  refine lv_aload_n hx hb d_law_211 rfl (lv_at hl 3 rfl) ?_
                  refine lv_iload_n hx hb d_law_212 rfl (lv_at hl 0 rfl) ?_
                  refine lv_iconst (v := 1) hx hb d_law_213 (by decide) ?_
                  refine lv_iadd hx hb d_law_214 ?_
                  refine va_sld hx hb hX hbl hbA hS (lin hL hgo (by decide)) d_law_215 ?_
                  obtain ⟨fs0, he0⟩ := isC_hd hC
                  have hF := fr_all hDc hS hA
                  refine va_calli (va_runV (C := "SignMachine") (As := [.int (xs (((nI (6 * j)) + (1 : Int32))).toNatClampNeg)]) (rest := []) ⟨hx, hb, hml, hown, hk⟩ (C_run l K D cI cJ cZ cB o0 _ Wc H.size (isR_L hR) hC (xs (((nI (6 * j)) + (1 : Int32))).toNatClampNeg)) (v_S_run_b11 hk k_471 ⟨Nat.le_of_ble_eq_true rfl, Nat.le_of_ble_eq_true rfl⟩) (pMC_v hK hPc hDc hCN hS hA (ci := 0) (q0 := 0) rfl he0 rfl) rfl rfl hl.1 rfl (lv_room (Nat.le_of_ble_eq_true rfl)) d_law_216 ⟨(show 32 + 16 * j + 2 ≤ 111712 from by omega), (show 66087 + 9873 * j + 8000 ≤ 8767114 from by omega)⟩) hS (fun q _ h => hF q h) hF (fun r0 uL0 t H locs ht hvm hw0 hB hz1 hk1 hS => ?_)
                  obtain ⟨W9, h9, hP9, hD9⟩ := hB
                  rw [ht] at hP9
                  obtain ⟨hPx, hDc, hap⟩ := two hPx hap hF hk1 hD9
                  have hC := h9
                  have hPc := hP9
                  clear h9 hP9 hD9 hF
                  refine W.widen (k := 32 + 16 * j + 2) (n := 66087 + 9873 * j + 8000) (by omega) (by omega) ?_
                  refine lv_pop hx hb d_law_219 rfl ?_
                  refine lv_aload_n hx hb d_law_220 rfl (lv_at hl 1 rfl) ?_
                  refine lv_aload_n hx hb d_law_221 rfl (lv_at hl 3 rfl) ?_
                  refine lv_iload_n hx hb d_law_222 rfl (lv_at hl 0 rfl) ?_
                  refine lv_iconst (v := 1) hx hb d_law_223 (by decide) ?_
                  refine lv_iadd hx hb d_law_224 ?_
                  refine va_sld hx hb hX hbl hbA hS (lin hL hgo (by decide)) d_law_225 ?_
                  obtain ⟨fs1, he1⟩ := isR_hd hR
                  have hF := fr_all hDx hS hA
                  refine va_calli (va_runV (C := "SignMachineModel") (As := [.int (xs (((nI (6 * j)) + (1 : Int32))).toNatClampNeg)]) (rest := []) ⟨hx, hb, hml, hown, hk⟩ (R_run l D cI cJ cZ cB o1 _ Wx H.size hR (xs (((nI (6 * j)) + (1 : Int32))).toNatClampNeg)) (v_X_run hk k_1503 ⟨Nat.le_of_ble_eq_true rfl, Nat.le_of_ble_eq_true rfl⟩) (pM_v hK hPx hDx (ci := 7) (q0 := 0) rfl he1 rfl) rfl rfl hl.1 rfl (lv_room (Nat.le_of_ble_eq_true rfl)) d_law_226 ⟨(show 32 + 16 * j + 2 + 0 ≤ 111712 from by omega), (show 66087 + 9873 * j + 8000 + 0 ≤ 8767114 from by omega)⟩) hS (fun q _ h => hF q h) hF (fun r1 uL1 t H locs ht hvm hw1 hB hz1 hk1 hS => ?_)
                  obtain ⟨W9, h9, hP9, hD9⟩ := hB
                  rw [ht] at hP9
                  obtain ⟨hPc, hDx, hap2⟩ := two hPc hap.symm hF hk1 hD9
                  have hap := hap2.symm
                  have hR := h9
                  have hPx := hP9
                  clear h9 hP9 hD9 hF hap2
                  have hL9 := hw0.trans hw1.symm
                  rw [hL9] at hC
                  refine W.widen (k := 32 + 16 * j + 2) (n := 66087 + 9873 * j + 8000) (by omega) (by omega) ?_
                  refine lv_pop hx hb d_law_229 rfl ?_
                  refine lv_goto (tgt := 533) hx hb d_law_230 (by decide) ?_
                  refine W.widen (k := 32 + 16 * (j + 1)) (n := 66087 + 9873 * (j + 1)) (by omega) (by omega) ?_
                  exact NX _ _ _ _ _ ls hC hR hPc hPx hDc hDx hap hS hl
                · by_cases cs5 : sv = (5 : Int32)
                  · refine lv_tableIn (off := 200) (tgt := 233) hx hb d_law_33 (by rw [cs5]; decide) (by rw [cs5]; decide) (by rw [cs5]; rfl) (by decide) ?_
                    refine lv_aload_n hx hb d_law_233 rfl (lv_at hl 2 rfl) ?_
                    refine lv_aload_n hx hb d_law_234 rfl (lv_at hl 3 rfl) ?_
                    refine lv_iload_n hx hb d_law_235 rfl (lv_at hl 0 rfl) ?_
                    refine lv_iconst (v := 1) hx hb d_law_236 (by decide) ?_
                    refine lv_iadd hx hb d_law_237 ?_
                    refine va_sld hx hb hX hbl hbA hS (lin hL hgo (by decide)) d_law_238 ?_
                    obtain ⟨fs0, he0⟩ := isC_hd hC
                    have hF := fr_all hDc hS hA
                    refine va_calli (va_runV (C := "SignMachine") (As := [.int (xs (((nI (6 * j)) + (1 : Int32))).toNatClampNeg)]) (rest := []) ⟨hx, hb, hml, hown, hk⟩ (C_registerSign l K D cI cJ cZ cB o0 _ Wc H.size (isR_L hR) hC (xs (((nI (6 * j)) + (1 : Int32))).toNatClampNeg)) (v_S_registerSign_b11 hk k_475 ⟨Nat.le_of_ble_eq_true rfl, Nat.le_of_ble_eq_true rfl⟩) (pMC_v hK hPc hDc hCN hS hA (ci := 0) (q0 := 0) rfl he0 rfl) rfl rfl hl.1 rfl (lv_room (Nat.le_of_ble_eq_true rfl)) d_law_239 ⟨(show 32 + 16 * j + 0 ≤ 111712 from by omega), (show 66087 + 9873 * j + 0 ≤ 8767114 from by omega)⟩) hS (fun q _ h => hF q h) hF (fun r0 uL0 t H locs ht hvm hw0 hB hz1 hk1 hS => ?_)
                    obtain ⟨W9, h9, hP9, hD9⟩ := hB
                    rw [ht] at hP9
                    obtain ⟨hPx, hDc, hap⟩ := two hPx hap hF hk1 hD9
                    have hC := h9
                    have hPc := hP9
                    clear h9 hP9 hD9 hF
                    refine W.widen (k := 32 + 16 * j + 0) (n := 66087 + 9873 * j + 0) (by omega) (by omega) ?_
                    refine lv_pop hx hb d_law_242 rfl ?_
                    refine lv_aload_n hx hb d_law_243 rfl (lv_at hl 1 rfl) ?_
                    refine lv_aload_n hx hb d_law_244 rfl (lv_at hl 3 rfl) ?_
                    refine lv_iload_n hx hb d_law_245 rfl (lv_at hl 0 rfl) ?_
                    refine lv_iconst (v := 1) hx hb d_law_246 (by decide) ?_
                    refine lv_iadd hx hb d_law_247 ?_
                    refine va_sld hx hb hX hbl hbA hS (lin hL hgo (by decide)) d_law_248 ?_
                    obtain ⟨fs1, he1⟩ := isR_hd hR
                    have hF := fr_all hDx hS hA
                    refine va_calli (va_runV (C := "SignMachineModel") (As := [.int (xs (((nI (6 * j)) + (1 : Int32))).toNatClampNeg)]) (rest := []) ⟨hx, hb, hml, hown, hk⟩ (R_registerSign l D cI cJ cZ cB o1 _ Wx H.size hR (xs (((nI (6 * j)) + (1 : Int32))).toNatClampNeg)) (v_X_registerSign hk k_1331 ⟨Nat.le_of_ble_eq_true rfl, Nat.le_of_ble_eq_true rfl⟩) (pM_v hK hPx hDx (ci := 7) (q0 := 0) rfl he1 rfl) rfl rfl hl.1 rfl (lv_room (Nat.le_of_ble_eq_true rfl)) d_law_249 ⟨(show 32 + 16 * j + 0 ≤ 111712 from by omega), (show 66087 + 9873 * j + 0 ≤ 8767114 from by omega)⟩) hS (fun q _ h => hF q h) hF (fun r1 uL1 t H locs ht hvm hw1 hB hz1 hk1 hS => ?_)
                    obtain ⟨W9, h9, hP9, hD9⟩ := hB
                    rw [ht] at hP9
                    obtain ⟨hPc, hDx, hap2⟩ := two hPc hap.symm hF hk1 hD9
                    have hap := hap2.symm
                    have hR := h9
                    have hPx := hP9
                    clear h9 hP9 hD9 hF hap2
                    have hL9 := hw0.trans hw1.symm
                    rw [hL9] at hC
                    refine W.widen (k := 32 + 16 * j + 0) (n := 66087 + 9873 * j + 0) (by omega) (by omega) ?_
                    refine lv_pop hx hb d_law_252 rfl ?_
                    refine lv_goto (tgt := 533) hx hb d_law_253 (by decide) ?_
                    refine W.widen (k := 32 + 16 * (j + 1)) (n := 66087 + 9873 * (j + 1)) (by omega) (by omega) ?_
                    exact NX _ _ _ _ _ ls hC hR hPc hPx hDc hDx hap hS hl
                  · by_cases cs6 : sv = (6 : Int32)
                    · refine lv_tableIn (off := 223) (tgt := 256) hx hb d_law_33 (by rw [cs6]; decide) (by rw [cs6]; decide) (by rw [cs6]; rfl) (by decide) ?_
                      refine lv_aload_n hx hb d_law_256 rfl (lv_at hl 2 rfl) ?_
                      refine lv_aload_n hx hb d_law_257 rfl (lv_at hl 3 rfl) ?_
                      refine lv_iload_n hx hb d_law_258 rfl (lv_at hl 0 rfl) ?_
                      refine lv_iconst (v := 1) hx hb d_law_259 (by decide) ?_
                      refine lv_iadd hx hb d_law_260 ?_
                      refine va_sld hx hb hX hbl hbA hS (lin hL hgo (by decide)) d_law_261 ?_
                      obtain ⟨fs0, he0⟩ := isC_hd hC
                      have hF := fr_all hDc hS hA
                      refine va_calli (va_runV (C := "SignMachine") (As := [.int (xs (((nI (6 * j)) + (1 : Int32))).toNatClampNeg)]) (rest := []) ⟨hx, hb, hml, hown, hk⟩ (C_registerSize l K D cI cJ cZ cB o0 _ Wc H.size (isR_L hR) hC (xs (((nI (6 * j)) + (1 : Int32))).toNatClampNeg)) (v_S_registerSize_b11 hk k_483 ⟨Nat.le_of_ble_eq_true rfl, Nat.le_of_ble_eq_true rfl⟩) (pMC_v hK hPc hDc hCN hS hA (ci := 0) (q0 := 0) rfl he0 rfl) rfl rfl hl.1 rfl (lv_room (Nat.le_of_ble_eq_true rfl)) d_law_262 ⟨(show 32 + 16 * j + 0 ≤ 111712 from by omega), (show 66087 + 9873 * j + 0 ≤ 8767114 from by omega)⟩) hS (fun q _ h => hF q h) hF (fun r0 uL0 t H locs ht hvm hw0 hB hz1 hk1 hS => ?_)
                      obtain ⟨W9, h9, hP9, hD9⟩ := hB
                      rw [ht] at hP9
                      obtain ⟨hPx, hDc, hap⟩ := two hPx hap hF hk1 hD9
                      have hC := h9
                      have hPc := hP9
                      clear h9 hP9 hD9 hF
                      refine W.widen (k := 32 + 16 * j + 0) (n := 66087 + 9873 * j + 0) (by omega) (by omega) ?_
                      refine lv_pop hx hb d_law_265 rfl ?_
                      refine lv_aload_n hx hb d_law_266 rfl (lv_at hl 1 rfl) ?_
                      refine lv_aload_n hx hb d_law_267 rfl (lv_at hl 3 rfl) ?_
                      refine lv_iload_n hx hb d_law_268 rfl (lv_at hl 0 rfl) ?_
                      refine lv_iconst (v := 1) hx hb d_law_269 (by decide) ?_
                      refine lv_iadd hx hb d_law_270 ?_
                      refine va_sld hx hb hX hbl hbA hS (lin hL hgo (by decide)) d_law_271 ?_
                      obtain ⟨fs1, he1⟩ := isR_hd hR
                      have hF := fr_all hDx hS hA
                      refine va_calli (va_runV (C := "SignMachineModel") (As := [.int (xs (((nI (6 * j)) + (1 : Int32))).toNatClampNeg)]) (rest := []) ⟨hx, hb, hml, hown, hk⟩ (R_registerSize l D cI cJ cZ cB o1 _ Wx H.size hR (xs (((nI (6 * j)) + (1 : Int32))).toNatClampNeg)) (v_X_registerSize hk k_1336 ⟨Nat.le_of_ble_eq_true rfl, Nat.le_of_ble_eq_true rfl⟩) (pM_v hK hPx hDx (ci := 7) (q0 := 0) rfl he1 rfl) rfl rfl hl.1 rfl (lv_room (Nat.le_of_ble_eq_true rfl)) d_law_272 ⟨(show 32 + 16 * j + 0 ≤ 111712 from by omega), (show 66087 + 9873 * j + 0 ≤ 8767114 from by omega)⟩) hS (fun q _ h => hF q h) hF (fun r1 uL1 t H locs ht hvm hw1 hB hz1 hk1 hS => ?_)
                      obtain ⟨W9, h9, hP9, hD9⟩ := hB
                      rw [ht] at hP9
                      obtain ⟨hPc, hDx, hap2⟩ := two hPc hap.symm hF hk1 hD9
                      have hap := hap2.symm
                      have hR := h9
                      have hPx := hP9
                      clear h9 hP9 hD9 hF hap2
                      have hL9 := hw0.trans hw1.symm
                      rw [hL9] at hC
                      refine W.widen (k := 32 + 16 * j + 0) (n := 66087 + 9873 * j + 0) (by omega) (by omega) ?_
                      refine lv_pop hx hb d_law_275 rfl ?_
                      refine lv_goto (tgt := 533) hx hb d_law_276 (by decide) ?_
                      refine W.widen (k := 32 + 16 * (j + 1)) (n := 66087 + 9873 * (j + 1)) (by omega) (by omega) ?_
                      exact NX _ _ _ _ _ ls hC hR hPc hPx hDc hDx hap hS hl
                    · by_cases cs7 : sv = (7 : Int32)
                      · refine lv_tableIn (off := 246) (tgt := 279) hx hb d_law_33 (by rw [cs7]; decide) (by rw [cs7]; decide) (by rw [cs7]; rfl) (by decide) ?_
                        refine lv_aload_n hx hb d_law_279 rfl (lv_at hl 2 rfl) ?_
                        refine lv_aload_n hx hb d_law_280 rfl (lv_at hl 3 rfl) ?_
                        refine lv_iload_n hx hb d_law_281 rfl (lv_at hl 0 rfl) ?_
                        refine lv_iconst (v := 1) hx hb d_law_282 (by decide) ?_
                        refine lv_iadd hx hb d_law_283 ?_
                        refine va_sld hx hb hX hbl hbA hS (lin hL hgo (by decide)) d_law_284 ?_
                        refine lv_aload_n hx hb d_law_285 rfl (lv_at hl 3 rfl) ?_
                        refine lv_iload_n hx hb d_law_286 rfl (lv_at hl 0 rfl) ?_
                        refine lv_iconst (v := 2) hx hb d_law_287 (by decide) ?_
                        refine lv_iadd hx hb d_law_288 ?_
                        refine va_sld hx hb hX hbl hbA hS (lin hL hgo (by decide)) d_law_289 ?_
                        refine lv_aload_n hx hb d_law_290 rfl (lv_at hl 3 rfl) ?_
                        refine lv_iload_n hx hb d_law_291 rfl (lv_at hl 0 rfl) ?_
                        refine lv_iconst (v := 3) hx hb d_law_292 (by decide) ?_
                        refine lv_iadd hx hb d_law_293 ?_
                        refine va_sld hx hb hX hbl hbA hS (lin hL hgo (by decide)) d_law_294 ?_
                        obtain ⟨fs0, he0⟩ := isC_hd hC
                        have hF := fr_all hDc hS hA
                        refine va_calli (va_runV (C := "SignMachine") (As := [.int (xs (((nI (6 * j)) + (1 : Int32))).toNatClampNeg), .int (xs (((nI (6 * j)) + (2 : Int32))).toNatClampNeg), .int (xs (((nI (6 * j)) + (3 : Int32))).toNatClampNeg)]) (rest := []) ⟨hx, hb, hml, hown, hk⟩ (C_set l K D cI cJ cZ cB o0 _ Wc H.size (isR_L hR) hC (xs (((nI (6 * j)) + (1 : Int32))).toNatClampNeg) (xs (((nI (6 * j)) + (2 : Int32))).toNatClampNeg) (xs (((nI (6 * j)) + (3 : Int32))).toNatClampNeg)) (v_S_set_b11 hk k_487 ⟨Nat.le_of_ble_eq_true rfl, Nat.le_of_ble_eq_true rfl⟩) (pMC_v hK hPc hDc hCN hS hA (ci := 0) (q0 := 0) rfl he0 rfl) rfl rfl hl.1 rfl (lv_room (Nat.le_of_ble_eq_true rfl)) d_law_295 ⟨(show 32 + 16 * j + 0 ≤ 111712 from by omega), (show 66087 + 9873 * j + 0 ≤ 8767114 from by omega)⟩) hS (fun q _ h => hF q h) hF (fun r0 uL0 t H locs ht hvm hw0 hB hz1 hk1 hS => ?_)
                        obtain ⟨W9, h9, hP9, hD9⟩ := hB
                        rw [ht] at hP9
                        obtain ⟨hPx, hDc, hap⟩ := two hPx hap hF hk1 hD9
                        have hC := h9
                        have hPc := hP9
                        clear h9 hP9 hD9 hF
                        refine W.widen (k := 32 + 16 * j + 0) (n := 66087 + 9873 * j + 0) (by omega) (by omega) ?_
                        refine lv_pop hx hb d_law_298 rfl ?_
                        refine lv_aload_n hx hb d_law_299 rfl (lv_at hl 1 rfl) ?_
                        refine lv_aload_n hx hb d_law_300 rfl (lv_at hl 3 rfl) ?_
                        refine lv_iload_n hx hb d_law_301 rfl (lv_at hl 0 rfl) ?_
                        refine lv_iconst (v := 1) hx hb d_law_302 (by decide) ?_
                        refine lv_iadd hx hb d_law_303 ?_
                        refine va_sld hx hb hX hbl hbA hS (lin hL hgo (by decide)) d_law_304 ?_
                        refine lv_aload_n hx hb d_law_305 rfl (lv_at hl 3 rfl) ?_
                        refine lv_iload_n hx hb d_law_306 rfl (lv_at hl 0 rfl) ?_
                        refine lv_iconst (v := 2) hx hb d_law_307 (by decide) ?_
                        refine lv_iadd hx hb d_law_308 ?_
                        refine va_sld hx hb hX hbl hbA hS (lin hL hgo (by decide)) d_law_309 ?_
                        refine lv_aload_n hx hb d_law_310 rfl (lv_at hl 3 rfl) ?_
                        refine lv_iload_n hx hb d_law_311 rfl (lv_at hl 0 rfl) ?_
                        refine lv_iconst (v := 3) hx hb d_law_312 (by decide) ?_
                        refine lv_iadd hx hb d_law_313 ?_
                        refine va_sld hx hb hX hbl hbA hS (lin hL hgo (by decide)) d_law_314 ?_
                        obtain ⟨fs1, he1⟩ := isR_hd hR
                        have hF := fr_all hDx hS hA
                        refine va_calli (va_runV (C := "SignMachineModel") (As := [.int (xs (((nI (6 * j)) + (1 : Int32))).toNatClampNeg), .int (xs (((nI (6 * j)) + (2 : Int32))).toNatClampNeg), .int (xs (((nI (6 * j)) + (3 : Int32))).toNatClampNeg)]) (rest := []) ⟨hx, hb, hml, hown, hk⟩ (R_set l D cI cJ cZ cB o1 _ Wx H.size hR (xs (((nI (6 * j)) + (1 : Int32))).toNatClampNeg) (xs (((nI (6 * j)) + (2 : Int32))).toNatClampNeg) (xs (((nI (6 * j)) + (3 : Int32))).toNatClampNeg)) (v_X_set hk k_1340 ⟨Nat.le_of_ble_eq_true rfl, Nat.le_of_ble_eq_true rfl⟩) (pM_v hK hPx hDx (ci := 7) (q0 := 0) rfl he1 rfl) rfl rfl hl.1 rfl (lv_room (Nat.le_of_ble_eq_true rfl)) d_law_315 ⟨(show 32 + 16 * j + 0 ≤ 111712 from by omega), (show 66087 + 9873 * j + 0 ≤ 8767114 from by omega)⟩) hS (fun q _ h => hF q h) hF (fun r1 uL1 t H locs ht hvm hw1 hB hz1 hk1 hS => ?_)
                        obtain ⟨W9, h9, hP9, hD9⟩ := hB
                        rw [ht] at hP9
                        obtain ⟨hPc, hDx, hap2⟩ := two hPc hap.symm hF hk1 hD9
                        have hap := hap2.symm
                        have hR := h9
                        have hPx := hP9
                        clear h9 hP9 hD9 hF hap2
                        have hL9 := hw0.1.trans hw1.1.symm
                        rw [hL9] at hC
                        refine W.widen (k := 32 + 16 * j + 0) (n := 66087 + 9873 * j + 0) (by omega) (by omega) ?_
                        refine lv_pop hx hb d_law_318 rfl ?_
                        refine lv_goto (tgt := 533) hx hb d_law_319 (by decide) ?_
                        refine W.widen (k := 32 + 16 * (j + 1)) (n := 66087 + 9873 * (j + 1)) (by omega) (by omega) ?_
                        exact NX _ _ _ _ _ ls hC hR hPc hPx hDc hDx hap hS hl
                      · by_cases cs8 : sv = (8 : Int32)
                        · refine lv_tableIn (off := 289) (tgt := 322) hx hb d_law_33 (by rw [cs8]; decide) (by rw [cs8]; decide) (by rw [cs8]; rfl) (by decide) ?_
                          refine lv_aload_n hx hb d_law_322 rfl (lv_at hl 2 rfl) ?_
                          refine lv_aload_n hx hb d_law_323 rfl (lv_at hl 3 rfl) ?_
                          refine lv_iload_n hx hb d_law_324 rfl (lv_at hl 0 rfl) ?_
                          refine lv_iconst (v := 1) hx hb d_law_325 (by decide) ?_
                          refine lv_iadd hx hb d_law_326 ?_
                          refine va_sld hx hb hX hbl hbA hS (lin hL hgo (by decide)) d_law_327 ?_
                          obtain ⟨fs0, he0⟩ := isC_hd hC
                          have hF := fr_all hDc hS hA
                          refine va_calli (va_runV (C := "SignMachine") (As := [.int (xs (((nI (6 * j)) + (1 : Int32))).toNatClampNeg)]) (rest := []) ⟨hx, hb, hml, hown, hk⟩ (C_state l K D cI cJ cZ cB o0 _ Wc H.size (isR_L hR) hC (xs (((nI (6 * j)) + (1 : Int32))).toNatClampNeg)) (v_S_state_b11 hk k_495 ⟨Nat.le_of_ble_eq_true rfl, Nat.le_of_ble_eq_true rfl⟩) (pMC_v hK hPc hDc hCN hS hA (ci := 0) (q0 := 0) rfl he0 rfl) rfl rfl hl.1 rfl (lv_room (Nat.le_of_ble_eq_true rfl)) d_law_328 ⟨(show 32 + 16 * j + 0 ≤ 111712 from by omega), (show 66087 + 9873 * j + 0 ≤ 8767114 from by omega)⟩) hS (fun q _ h => hF q h) hF (fun r0 uL0 t H locs ht hvm hw0 hB hz1 hk1 hS => ?_)
                          obtain ⟨W9, h9, hP9, hD9⟩ := hB
                          rw [ht] at hP9
                          obtain ⟨hPx, hDc, hap⟩ := two hPx hap hF hk1 hD9
                          have hC := h9
                          have hPc := hP9
                          clear h9 hP9 hD9 hF
                          refine W.widen (k := 32 + 16 * j + 0) (n := 66087 + 9873 * j + 0) (by omega) (by omega) ?_
                          refine lv_pop hx hb d_law_331 rfl ?_
                          refine lv_aload_n hx hb d_law_332 rfl (lv_at hl 1 rfl) ?_
                          refine lv_aload_n hx hb d_law_333 rfl (lv_at hl 3 rfl) ?_
                          refine lv_iload_n hx hb d_law_334 rfl (lv_at hl 0 rfl) ?_
                          refine lv_iconst (v := 1) hx hb d_law_335 (by decide) ?_
                          refine lv_iadd hx hb d_law_336 ?_
                          refine va_sld hx hb hX hbl hbA hS (lin hL hgo (by decide)) d_law_337 ?_
                          obtain ⟨fs1, he1⟩ := isR_hd hR
                          have hF := fr_all hDx hS hA
                          refine va_calli (va_runV (C := "SignMachineModel") (As := [.int (xs (((nI (6 * j)) + (1 : Int32))).toNatClampNeg)]) (rest := []) ⟨hx, hb, hml, hown, hk⟩ (R_state l D cI cJ cZ cB o1 _ Wx H.size hR (xs (((nI (6 * j)) + (1 : Int32))).toNatClampNeg)) (v_X_state hk k_1348 ⟨Nat.le_of_ble_eq_true rfl, Nat.le_of_ble_eq_true rfl⟩) (pM_v hK hPx hDx (ci := 7) (q0 := 0) rfl he1 rfl) rfl rfl hl.1 rfl (lv_room (Nat.le_of_ble_eq_true rfl)) d_law_338 ⟨(show 32 + 16 * j + 0 ≤ 111712 from by omega), (show 66087 + 9873 * j + 0 ≤ 8767114 from by omega)⟩) hS (fun q _ h => hF q h) hF (fun r1 uL1 t H locs ht hvm hw1 hB hz1 hk1 hS => ?_)
                          obtain ⟨W9, h9, hP9, hD9⟩ := hB
                          rw [ht] at hP9
                          obtain ⟨hPc, hDx, hap2⟩ := two hPc hap.symm hF hk1 hD9
                          have hap := hap2.symm
                          have hR := h9
                          have hPx := hP9
                          clear h9 hP9 hD9 hF hap2
                          have hL9 := hw0.trans hw1.symm
                          rw [hL9] at hC
                          refine W.widen (k := 32 + 16 * j + 0) (n := 66087 + 9873 * j + 0) (by omega) (by omega) ?_
                          refine lv_pop hx hb d_law_341 rfl ?_
                          refine lv_goto (tgt := 533) hx hb d_law_342 (by decide) ?_
                          refine W.widen (k := 32 + 16 * (j + 1)) (n := 66087 + 9873 * (j + 1)) (by omega) (by omega) ?_
                          exact NX _ _ _ _ _ ls hC hR hPc hPx hDc hDx hap hS hl
                        · by_cases cs9 : sv = (9 : Int32)
                          · refine lv_tableIn (off := 312) (tgt := 345) hx hb d_law_33 (by rw [cs9]; decide) (by rw [cs9]; decide) (by rw [cs9]; rfl) (by decide) ?_
                            refine lv_aload_n hx hb d_law_345 rfl (lv_at hl 2 rfl) ?_
                            refine lv_aload_n hx hb d_law_346 rfl (lv_at hl 3 rfl) ?_
                            refine lv_iload_n hx hb d_law_347 rfl (lv_at hl 0 rfl) ?_
                            refine lv_iconst (v := 1) hx hb d_law_348 (by decide) ?_
                            refine lv_iadd hx hb d_law_349 ?_
                            refine va_sld hx hb hX hbl hbA hS (lin hL hgo (by decide)) d_law_350 ?_
                            obtain ⟨fs0, he0⟩ := isC_hd hC
                            have hF := fr_all hDc hS hA
                            refine va_calli (va_runV (C := "SignMachine") (As := [.int (xs (((nI (6 * j)) + (1 : Int32))).toNatClampNeg)]) (rest := []) ⟨hx, hb, hml, hown, hk⟩ (C_go l K D cI cJ cZ cB o0 _ Wc H.size (isR_L hR) hC (xs (((nI (6 * j)) + (1 : Int32))).toNatClampNeg)) (v_S_go_b11 hk k_500 ⟨Nat.le_of_ble_eq_true rfl, Nat.le_of_ble_eq_true rfl⟩) (pMC_v hK hPc hDc hCN hS hA (ci := 0) (q0 := 0) rfl he0 rfl) rfl rfl hl.1 rfl (lv_room (Nat.le_of_ble_eq_true rfl)) d_law_351 ⟨(show 32 + 16 * j + 0 ≤ 111712 from by omega), (show 66087 + 9873 * j + 0 ≤ 8767114 from by omega)⟩) hS (fun q _ h => hF q h) hF (fun r0 uL0 t H locs ht hvm hw0 hB hz1 hk1 hS => ?_)
                            obtain ⟨W9, h9, hP9, hD9⟩ := hB
                            rw [ht] at hP9
                            obtain ⟨hPx, hDc, hap⟩ := two hPx hap hF hk1 hD9
                            have hC := h9
                            have hPc := hP9
                            clear h9 hP9 hD9 hF
                            refine W.widen (k := 32 + 16 * j + 0) (n := 66087 + 9873 * j + 0) (by omega) (by omega) ?_
                            refine lv_aload_n hx hb d_law_354 rfl (lv_at hl 1 rfl) ?_
                            refine lv_aload_n hx hb d_law_355 rfl (lv_at hl 3 rfl) ?_
                            refine lv_iload_n hx hb d_law_356 rfl (lv_at hl 0 rfl) ?_
                            refine lv_iconst (v := 1) hx hb d_law_357 (by decide) ?_
                            refine lv_iadd hx hb d_law_358 ?_
                            refine va_sld hx hb hX hbl hbA hS (lin hL hgo (by decide)) d_law_359 ?_
                            obtain ⟨fs1, he1⟩ := isR_hd hR
                            have hF := fr_all hDx hS hA
                            refine va_calli (va_runV (C := "SignMachineModel") (As := [.int (xs (((nI (6 * j)) + (1 : Int32))).toNatClampNeg)]) (rest := [.int r0]) ⟨hx, hb, hml, hown, hk⟩ (R_go l D cI cJ cZ cB o1 _ Wx H.size hR (xs (((nI (6 * j)) + (1 : Int32))).toNatClampNeg)) (v_X_go hk k_1352 ⟨Nat.le_of_ble_eq_true rfl, Nat.le_of_ble_eq_true rfl⟩) (pM_v hK hPx hDx (ci := 7) (q0 := 0) rfl he1 rfl) rfl rfl hl.1 rfl (lv_room (Nat.le_of_ble_eq_true rfl)) d_law_360 ⟨(show 32 + 16 * j + 0 ≤ 111712 from by omega), (show 66087 + 9873 * j + 0 ≤ 8767114 from by omega)⟩) hS (fun q _ h => hF q h) hF (fun r1 uL1 t H locs ht hvm hw1 hB hz1 hk1 hS => ?_)
                            obtain ⟨W9, h9, hP9, hD9⟩ := hB
                            rw [ht] at hP9
                            obtain ⟨hPc, hDx, hap2⟩ := two hPc hap.symm hF hk1 hD9
                            have hap := hap2.symm
                            have hR := h9
                            have hPx := hP9
                            clear h9 hP9 hD9 hF hap2
                            have hL9 := hw0.1.trans hw1.1.symm
                            rw [hL9] at hC
                            refine W.widen (k := 32 + 16 * j + 0) (n := 66087 + 9873 * j + 0) (by omega) (by omega) ?_
                            have heq : r0 = r1 := E_go _ hw0.2 hw1.2
                            refine lv_icmp_eq (tgt := 533) hx hb d_law_363 (by decide) (fun h2 => ?_) (fun h2 => absurd heq h2)
                            refine W.widen (k := 32 + 16 * (j + 1)) (n := 66087 + 9873 * (j + 1)) (by omega) (by omega) ?_
                            exact NX _ _ _ _ _ ls hC hR hPc hPx hDc hDx hap hS hl
                          · by_cases cs10 : sv = (10 : Int32)
                            · refine lv_tableIn (off := 335) (tgt := 368) hx hb d_law_33 (by rw [cs10]; decide) (by rw [cs10]; decide) (by rw [cs10]; rfl) (by decide) ?_
                              refine lv_aload_n hx hb d_law_368 rfl (lv_at hl 2 rfl) ?_
                              refine lv_aload_n hx hb d_law_369 rfl (lv_at hl 3 rfl) ?_
                              refine lv_iload_n hx hb d_law_370 rfl (lv_at hl 0 rfl) ?_
                              refine lv_iconst (v := 1) hx hb d_law_371 (by decide) ?_
                              refine lv_iadd hx hb d_law_372 ?_
                              refine va_sld hx hb hX hbl hbA hS (lin hL hgo (by decide)) d_law_373 ?_
                              refine lv_aload_n hx hb d_law_374 rfl (lv_at hl 3 rfl) ?_
                              refine lv_iload_n hx hb d_law_375 rfl (lv_at hl 0 rfl) ?_
                              refine lv_iconst (v := 2) hx hb d_law_376 (by decide) ?_
                              refine lv_iadd hx hb d_law_377 ?_
                              refine va_sld hx hb hX hbl hbA hS (lin hL hgo (by decide)) d_law_378 ?_
                              refine lv_aload_n hx hb d_law_379 rfl (lv_at hl 3 rfl) ?_
                              refine lv_iload_n hx hb d_law_380 rfl (lv_at hl 0 rfl) ?_
                              refine lv_iconst (v := 3) hx hb d_law_381 (by decide) ?_
                              refine lv_iadd hx hb d_law_382 ?_
                              refine va_sld hx hb hX hbl hbA hS (lin hL hgo (by decide)) d_law_383 ?_
                              obtain ⟨fs0, he0⟩ := isC_hd hC
                              have hF := fr_all hDc hS hA
                              refine va_calli (va_runV (C := "SignMachine") (As := [.int (xs (((nI (6 * j)) + (1 : Int32))).toNatClampNeg), .int (xs (((nI (6 * j)) + (2 : Int32))).toNatClampNeg), .int (xs (((nI (6 * j)) + (3 : Int32))).toNatClampNeg)]) (rest := []) ⟨hx, hb, hml, hown, hk⟩ (C_tape l K D cI cJ cZ cB o0 _ Wc H.size (isR_L hR) hC (xs (((nI (6 * j)) + (1 : Int32))).toNatClampNeg) (xs (((nI (6 * j)) + (2 : Int32))).toNatClampNeg) (xs (((nI (6 * j)) + (3 : Int32))).toNatClampNeg)) (v_S_tape_b11 hk k_504 ⟨Nat.le_of_ble_eq_true rfl, Nat.le_of_ble_eq_true rfl⟩) (pMC_v hK hPc hDc hCN hS hA (ci := 0) (q0 := 0) rfl he0 rfl) rfl rfl hl.1 rfl (lv_room (Nat.le_of_ble_eq_true rfl)) d_law_384 ⟨(show 32 + 16 * j + 0 ≤ 111712 from by omega), (show 66087 + 9873 * j + 0 ≤ 8767114 from by omega)⟩) hS (fun q _ h => hF q h) hF (fun r0 uL0 t H locs ht hvm hw0 hB hz1 hk1 hS => ?_)
                              obtain ⟨W9, h9, hP9, hD9⟩ := hB
                              rw [ht] at hP9
                              obtain ⟨hPx, hDc, hap⟩ := two hPx hap hF hk1 hD9
                              have hC := h9
                              have hPc := hP9
                              clear h9 hP9 hD9 hF
                              refine W.widen (k := 32 + 16 * j + 0) (n := 66087 + 9873 * j + 0) (by omega) (by omega) ?_
                              refine lv_pop hx hb d_law_387 rfl ?_
                              refine lv_aload_n hx hb d_law_388 rfl (lv_at hl 1 rfl) ?_
                              refine lv_aload_n hx hb d_law_389 rfl (lv_at hl 3 rfl) ?_
                              refine lv_iload_n hx hb d_law_390 rfl (lv_at hl 0 rfl) ?_
                              refine lv_iconst (v := 1) hx hb d_law_391 (by decide) ?_
                              refine lv_iadd hx hb d_law_392 ?_
                              refine va_sld hx hb hX hbl hbA hS (lin hL hgo (by decide)) d_law_393 ?_
                              refine lv_aload_n hx hb d_law_394 rfl (lv_at hl 3 rfl) ?_
                              refine lv_iload_n hx hb d_law_395 rfl (lv_at hl 0 rfl) ?_
                              refine lv_iconst (v := 2) hx hb d_law_396 (by decide) ?_
                              refine lv_iadd hx hb d_law_397 ?_
                              refine va_sld hx hb hX hbl hbA hS (lin hL hgo (by decide)) d_law_398 ?_
                              refine lv_aload_n hx hb d_law_399 rfl (lv_at hl 3 rfl) ?_
                              refine lv_iload_n hx hb d_law_400 rfl (lv_at hl 0 rfl) ?_
                              refine lv_iconst (v := 3) hx hb d_law_401 (by decide) ?_
                              refine lv_iadd hx hb d_law_402 ?_
                              refine va_sld hx hb hX hbl hbA hS (lin hL hgo (by decide)) d_law_403 ?_
                              obtain ⟨fs1, he1⟩ := isR_hd hR
                              have hF := fr_all hDx hS hA
                              refine va_calli (va_runV (C := "SignMachineModel") (As := [.int (xs (((nI (6 * j)) + (1 : Int32))).toNatClampNeg), .int (xs (((nI (6 * j)) + (2 : Int32))).toNatClampNeg), .int (xs (((nI (6 * j)) + (3 : Int32))).toNatClampNeg)]) (rest := []) ⟨hx, hb, hml, hown, hk⟩ (R_tape l D cI cJ cZ cB o1 _ Wx H.size hR (xs (((nI (6 * j)) + (1 : Int32))).toNatClampNeg) (xs (((nI (6 * j)) + (2 : Int32))).toNatClampNeg) (xs (((nI (6 * j)) + (3 : Int32))).toNatClampNeg)) (v_X_tape hk k_1356 ⟨Nat.le_of_ble_eq_true rfl, Nat.le_of_ble_eq_true rfl⟩) (pM_v hK hPx hDx (ci := 7) (q0 := 0) rfl he1 rfl) rfl rfl hl.1 rfl (lv_room (Nat.le_of_ble_eq_true rfl)) d_law_404 ⟨(show 32 + 16 * j + 0 ≤ 111712 from by omega), (show 66087 + 9873 * j + 0 ≤ 8767114 from by omega)⟩) hS (fun q _ h => hF q h) hF (fun r1 uL1 t H locs ht hvm hw1 hB hz1 hk1 hS => ?_)
                              obtain ⟨W9, h9, hP9, hD9⟩ := hB
                              rw [ht] at hP9
                              obtain ⟨hPc, hDx, hap2⟩ := two hPc hap.symm hF hk1 hD9
                              have hap := hap2.symm
                              have hR := h9
                              have hPx := hP9
                              clear h9 hP9 hD9 hF hap2
                              have hL9 := hw0.trans hw1.symm
                              rw [hL9] at hC
                              refine W.widen (k := 32 + 16 * j + 0) (n := 66087 + 9873 * j + 0) (by omega) (by omega) ?_
                              refine lv_pop hx hb d_law_407 rfl ?_
                              refine lv_goto (tgt := 533) hx hb d_law_408 (by decide) ?_
                              refine W.widen (k := 32 + 16 * (j + 1)) (n := 66087 + 9873 * (j + 1)) (by omega) (by omega) ?_
                              exact NX _ _ _ _ _ ls hC hR hPc hPx hDc hDx hap hS hl
                            · by_cases cs11 : sv = (11 : Int32)
                              · refine lv_tableIn (off := 378) (tgt := 411) hx hb d_law_33 (by rw [cs11]; decide) (by rw [cs11]; decide) (by rw [cs11]; rfl) (by decide) ?_
                                refine lv_aload_n hx hb d_law_411 rfl (lv_at hl 2 rfl) ?_
                                refine lv_aload_n hx hb d_law_412 rfl (lv_at hl 3 rfl) ?_
                                refine lv_iload_n hx hb d_law_413 rfl (lv_at hl 0 rfl) ?_
                                refine lv_iconst (v := 1) hx hb d_law_414 (by decide) ?_
                                refine lv_iadd hx hb d_law_415 ?_
                                refine va_sld hx hb hX hbl hbA hS (lin hL hgo (by decide)) d_law_416 ?_
                                refine lv_aload_n hx hb d_law_417 rfl (lv_at hl 3 rfl) ?_
                                refine lv_iload_n hx hb d_law_418 rfl (lv_at hl 0 rfl) ?_
                                refine lv_iconst (v := 2) hx hb d_law_419 (by decide) ?_
                                refine lv_iadd hx hb d_law_420 ?_
                                refine va_sld hx hb hX hbl hbA hS (lin hL hgo (by decide)) d_law_421 ?_
                                refine lv_aload_n hx hb d_law_422 rfl (lv_at hl 3 rfl) ?_
                                refine lv_iload_n hx hb d_law_423 rfl (lv_at hl 0 rfl) ?_
                                refine lv_iconst (v := 3) hx hb d_law_424 (by decide) ?_
                                refine lv_iadd hx hb d_law_425 ?_
                                refine va_sld hx hb hX hbl hbA hS (lin hL hgo (by decide)) d_law_426 ?_
                                refine lv_aload_n hx hb d_law_427 rfl (lv_at hl 3 rfl) ?_
                                refine lv_iload_n hx hb d_law_428 rfl (lv_at hl 0 rfl) ?_
                                refine lv_iconst (v := 4) hx hb d_law_429 (by decide) ?_
                                refine lv_iadd hx hb d_law_430 ?_
                                refine va_sld hx hb hX hbl hbA hS (lin hL hgo (by decide)) d_law_431 ?_
                                refine lv_aload_n hx hb d_law_432 rfl (lv_at hl 3 rfl) ?_
                                refine lv_iload_n hx hb d_law_433 rfl (lv_at hl 0 rfl) ?_
                                refine lv_iconst (v := 5) hx hb d_law_434 (by decide) ?_
                                refine lv_iadd hx hb d_law_435 ?_
                                refine va_sld hx hb hX hbl hbA hS (lin hL hgo (by decide)) d_law_436 ?_
                                obtain ⟨fs0, he0⟩ := isC_hd hC
                                have hF := fr_all hDc hS hA
                                refine va_calli (va_runV (C := "SignMachine") (As := [.int (xs (((nI (6 * j)) + (1 : Int32))).toNatClampNeg), .int (xs (((nI (6 * j)) + (2 : Int32))).toNatClampNeg), .int (xs (((nI (6 * j)) + (3 : Int32))).toNatClampNeg), .int (xs (((nI (6 * j)) + (4 : Int32))).toNatClampNeg), .int (xs (((nI (6 * j)) + (5 : Int32))).toNatClampNeg)]) (rest := []) ⟨hx, hb, hml, hown, hk⟩ (C_feed l K D cI cJ cZ cB o0 _ Wc H.size (isR_L hR) hC (xs (((nI (6 * j)) + (1 : Int32))).toNatClampNeg) (xs (((nI (6 * j)) + (2 : Int32))).toNatClampNeg) (xs (((nI (6 * j)) + (3 : Int32))).toNatClampNeg) (xs (((nI (6 * j)) + (4 : Int32))).toNatClampNeg) (xs (((nI (6 * j)) + (5 : Int32))).toNatClampNeg)) (v_S_feed_b11 hk k_514 ⟨Nat.le_of_ble_eq_true rfl, Nat.le_of_ble_eq_true rfl⟩) (pMC_v hK hPc hDc hCN hS hA (ci := 0) (q0 := 0) rfl he0 rfl) rfl rfl hl.1 rfl (lv_room (Nat.le_of_ble_eq_true rfl)) d_law_437 ⟨(show 32 + 16 * j + 16 ≤ 111712 from by omega), (show 66087 + 9873 * j + 9873 ≤ 8767114 from by omega)⟩) hS (fun q _ h => hF q h) hF (fun r0 uL0 t H locs ht hvm hw0 hB hz1 hk1 hS => ?_)
                                obtain ⟨W9, h9, hP9, hD9⟩ := hB
                                rw [ht] at hP9
                                obtain ⟨hPx, hDc, hap⟩ := two hPx hap hF hk1 hD9
                                have hC := h9
                                have hPc := hP9
                                clear h9 hP9 hD9 hF
                                refine W.widen (k := 32 + 16 * j + 16) (n := 66087 + 9873 * j + 9873) (by omega) (by omega) ?_
                                refine lv_pop hx hb d_law_440 rfl ?_
                                refine lv_aload_n hx hb d_law_441 rfl (lv_at hl 1 rfl) ?_
                                refine lv_aload_n hx hb d_law_442 rfl (lv_at hl 3 rfl) ?_
                                refine lv_iload_n hx hb d_law_443 rfl (lv_at hl 0 rfl) ?_
                                refine lv_iconst (v := 1) hx hb d_law_444 (by decide) ?_
                                refine lv_iadd hx hb d_law_445 ?_
                                refine va_sld hx hb hX hbl hbA hS (lin hL hgo (by decide)) d_law_446 ?_
                                refine lv_aload_n hx hb d_law_447 rfl (lv_at hl 3 rfl) ?_
                                refine lv_iload_n hx hb d_law_448 rfl (lv_at hl 0 rfl) ?_
                                refine lv_iconst (v := 2) hx hb d_law_449 (by decide) ?_
                                refine lv_iadd hx hb d_law_450 ?_
                                refine va_sld hx hb hX hbl hbA hS (lin hL hgo (by decide)) d_law_451 ?_
                                refine lv_aload_n hx hb d_law_452 rfl (lv_at hl 3 rfl) ?_
                                refine lv_iload_n hx hb d_law_453 rfl (lv_at hl 0 rfl) ?_
                                refine lv_iconst (v := 3) hx hb d_law_454 (by decide) ?_
                                refine lv_iadd hx hb d_law_455 ?_
                                refine va_sld hx hb hX hbl hbA hS (lin hL hgo (by decide)) d_law_456 ?_
                                refine lv_aload_n hx hb d_law_457 rfl (lv_at hl 3 rfl) ?_
                                refine lv_iload_n hx hb d_law_458 rfl (lv_at hl 0 rfl) ?_
                                refine lv_iconst (v := 4) hx hb d_law_459 (by decide) ?_
                                refine lv_iadd hx hb d_law_460 ?_
                                refine va_sld hx hb hX hbl hbA hS (lin hL hgo (by decide)) d_law_461 ?_
                                refine lv_aload_n hx hb d_law_462 rfl (lv_at hl 3 rfl) ?_
                                refine lv_iload_n hx hb d_law_463 rfl (lv_at hl 0 rfl) ?_
                                refine lv_iconst (v := 5) hx hb d_law_464 (by decide) ?_
                                refine lv_iadd hx hb d_law_465 ?_
                                refine va_sld hx hb hX hbl hbA hS (lin hL hgo (by decide)) d_law_466 ?_
                                obtain ⟨fs1, he1⟩ := isR_hd hR
                                have hF := fr_all hDx hS hA
                                refine va_calli (va_runV (C := "SignMachineModel") (As := [.int (xs (((nI (6 * j)) + (1 : Int32))).toNatClampNeg), .int (xs (((nI (6 * j)) + (2 : Int32))).toNatClampNeg), .int (xs (((nI (6 * j)) + (3 : Int32))).toNatClampNeg), .int (xs (((nI (6 * j)) + (4 : Int32))).toNatClampNeg), .int (xs (((nI (6 * j)) + (5 : Int32))).toNatClampNeg)]) (rest := []) ⟨hx, hb, hml, hown, hk⟩ (R_feed l D cI cJ cZ cB o1 _ Wx H.size hR (xs (((nI (6 * j)) + (1 : Int32))).toNatClampNeg) (xs (((nI (6 * j)) + (2 : Int32))).toNatClampNeg) (xs (((nI (6 * j)) + (3 : Int32))).toNatClampNeg) (xs (((nI (6 * j)) + (4 : Int32))).toNatClampNeg) (xs (((nI (6 * j)) + (5 : Int32))).toNatClampNeg)) (v_X_feed hk k_1508 ⟨Nat.le_of_ble_eq_true rfl, Nat.le_of_ble_eq_true rfl⟩) (pM_v hK hPx hDx (ci := 7) (q0 := 0) rfl he1 rfl) rfl rfl hl.1 rfl (lv_room (Nat.le_of_ble_eq_true rfl)) d_law_467 ⟨(show 32 + 16 * j + 16 + 0 ≤ 111712 from by omega), (show 66087 + 9873 * j + 9873 + 0 ≤ 8767114 from by omega)⟩) hS (fun q _ h => hF q h) hF (fun r1 uL1 t H locs ht hvm hw1 hB hz1 hk1 hS => ?_)
                                obtain ⟨W9, h9, hP9, hD9⟩ := hB
                                rw [ht] at hP9
                                obtain ⟨hPc, hDx, hap2⟩ := two hPc hap.symm hF hk1 hD9
                                have hap := hap2.symm
                                have hR := h9
                                have hPx := hP9
                                clear h9 hP9 hD9 hF hap2
                                have hE9 := E_feed hw0 hw1
                                have hL9 := hE9.2
                                rw [hL9] at hC
                                refine W.widen (k := 32 + 16 * j + 16) (n := 66087 + 9873 * j + 9873) (by omega) (by omega) ?_
                                refine lv_pop hx hb d_law_470 rfl ?_
                                refine lv_goto (tgt := 533) hx hb d_law_471 (by decide) ?_
                                refine W.widen (k := 32 + 16 * (j + 1)) (n := 66087 + 9873 * (j + 1)) (by omega) (by omega) ?_
                                exact NX _ _ _ _ _ ls hC hR hPc hPx hDc hDx hap hS hl
                              · by_cases cs12 : sv = (12 : Int32)
                                · refine lv_tableIn (off := 441) (tgt := 474) hx hb d_law_33 (by rw [cs12]; decide) (by rw [cs12]; decide) (by rw [cs12]; rfl) (by decide) ?_
                                  refine lv_aload_n hx hb d_law_474 rfl (lv_at hl 2 rfl) ?_
                                  refine lv_aload_n hx hb d_law_475 rfl (lv_at hl 3 rfl) ?_
                                  refine lv_iload_n hx hb d_law_476 rfl (lv_at hl 0 rfl) ?_
                                  refine lv_iconst (v := 1) hx hb d_law_477 (by decide) ?_
                                  refine lv_iadd hx hb d_law_478 ?_
                                  refine va_sld hx hb hX hbl hbA hS (lin hL hgo (by decide)) d_law_479 ?_
                                  obtain ⟨fs0, he0⟩ := isC_hd hC
                                  have hF := fr_all hDc hS hA
                                  refine va_calli (va_runV (C := "SignMachine") (As := [.int (xs (((nI (6 * j)) + (1 : Int32))).toNatClampNeg)]) (rest := []) ⟨hx, hb, hml, hown, hk⟩ (C_end l K D cI cJ cZ cB o0 _ Wc H.size (isR_L hR) hC (xs (((nI (6 * j)) + (1 : Int32))).toNatClampNeg)) (v_S_end_b11 hk k_691 ⟨Nat.le_of_ble_eq_true rfl, Nat.le_of_ble_eq_true rfl⟩) (pMC_v hK hPc hDc hCN hS hA (ci := 0) (q0 := 0) rfl he0 rfl) rfl rfl hl.1 rfl (lv_room (Nat.le_of_ble_eq_true rfl)) d_law_480 ⟨(show 32 + 16 * j + 16 ≤ 111712 from by omega), (show 66087 + 9873 * j + 9873 ≤ 8767114 from by omega)⟩) hS (fun q _ h => hF q h) hF (fun r0 uL0 t H locs ht hvm hw0 hB hz1 hk1 hS => ?_)
                                  obtain ⟨W9, h9, hP9, hD9⟩ := hB
                                  rw [ht] at hP9
                                  obtain ⟨hPx, hDc, hap⟩ := two hPx hap hF hk1 hD9
                                  have hC := h9
                                  have hPc := hP9
                                  clear h9 hP9 hD9 hF
                                  refine W.widen (k := 32 + 16 * j + 16) (n := 66087 + 9873 * j + 9873) (by omega) (by omega) ?_
                                  refine lv_pop hx hb d_law_483 rfl ?_
                                  refine lv_aload_n hx hb d_law_484 rfl (lv_at hl 1 rfl) ?_
                                  refine lv_aload_n hx hb d_law_485 rfl (lv_at hl 3 rfl) ?_
                                  refine lv_iload_n hx hb d_law_486 rfl (lv_at hl 0 rfl) ?_
                                  refine lv_iconst (v := 1) hx hb d_law_487 (by decide) ?_
                                  refine lv_iadd hx hb d_law_488 ?_
                                  refine va_sld hx hb hX hbl hbA hS (lin hL hgo (by decide)) d_law_489 ?_
                                  obtain ⟨fs1, he1⟩ := isR_hd hR
                                  have hF := fr_all hDx hS hA
                                  refine va_calli (va_runV (C := "SignMachineModel") (As := [.int (xs (((nI (6 * j)) + (1 : Int32))).toNatClampNeg)]) (rest := []) ⟨hx, hb, hml, hown, hk⟩ (R_end l D cI cJ cZ cB o1 _ Wx H.size hR (xs (((nI (6 * j)) + (1 : Int32))).toNatClampNeg)) (v_X_end hk k_1512 ⟨Nat.le_of_ble_eq_true rfl, Nat.le_of_ble_eq_true rfl⟩) (pM_v hK hPx hDx (ci := 7) (q0 := 0) rfl he1 rfl) rfl rfl hl.1 rfl (lv_room (Nat.le_of_ble_eq_true rfl)) d_law_490 ⟨(show 32 + 16 * j + 16 + 0 ≤ 111712 from by omega), (show 66087 + 9873 * j + 9873 + 0 ≤ 8767114 from by omega)⟩) hS (fun q _ h => hF q h) hF (fun r1 uL1 t H locs ht hvm hw1 hB hz1 hk1 hS => ?_)
                                  obtain ⟨W9, h9, hP9, hD9⟩ := hB
                                  rw [ht] at hP9
                                  obtain ⟨hPc, hDx, hap2⟩ := two hPc hap.symm hF hk1 hD9
                                  have hap := hap2.symm
                                  have hR := h9
                                  have hPx := hP9
                                  clear h9 hP9 hD9 hF hap2
                                  have hE9 := E_end hw0 hw1
                                  have hL9 := hE9.2
                                  rw [hL9] at hC
                                  refine W.widen (k := 32 + 16 * j + 16) (n := 66087 + 9873 * j + 9873) (by omega) (by omega) ?_
                                  refine lv_pop hx hb d_law_493 rfl ?_
                                  refine lv_goto (tgt := 533) hx hb d_law_494 (by decide) ?_
                                  refine W.widen (k := 32 + 16 * (j + 1)) (n := 66087 + 9873 * (j + 1)) (by omega) (by omega) ?_
                                  exact NX _ _ _ _ _ ls hC hR hPc hPx hDc hDx hap hS hl
                                · by_cases cs13 : sv = (13 : Int32)
                                  · refine lv_tableIn (off := 464) (tgt := 497) hx hb d_law_33 (by rw [cs13]; decide) (by rw [cs13]; decide) (by rw [cs13]; rfl) (by decide) ?_
                                    refine lv_aload_n hx hb d_law_497 rfl (lv_at hl 2 rfl) ?_
                                    obtain ⟨fs0, he0⟩ := isC_hd hC
                                    have hF := fr_all hDc hS hA
                                    refine va_calli (va_runV (C := "SignMachine") (As := []) (rest := []) ⟨hx, hb, hml, hown, hk⟩ (C_assemble l K D cI cJ cZ cB o0 _ Wc H.size (isR_L hR) hC ) (v_S_assemble_b11 hk k_695 ⟨Nat.le_of_ble_eq_true rfl, Nat.le_of_ble_eq_true rfl⟩) (pMC_v hK hPc hDc hCN hS hA (ci := 0) (q0 := 0) rfl he0 rfl) rfl rfl hl.1 rfl (lv_room (Nat.le_of_ble_eq_true rfl)) d_law_498 ⟨(show 32 + 16 * j + 16 ≤ 111712 from by omega), (show 66087 + 9873 * j + 9873 ≤ 8767114 from by omega)⟩) hS (fun q _ h => hF q h) hF (fun r0 uL0 t H locs ht hvm hw0 hB hz1 hk1 hS => ?_)
                                    obtain ⟨W9, h9, hP9, hD9⟩ := hB
                                    rw [ht] at hP9
                                    obtain ⟨hPx, hDc, hap⟩ := two hPx hap hF hk1 hD9
                                    have hC := h9
                                    have hPc := hP9
                                    clear h9 hP9 hD9 hF
                                    refine W.widen (k := 32 + 16 * j + 16) (n := 66087 + 9873 * j + 9873) (by omega) (by omega) ?_
                                    refine lv_pop hx hb d_law_501 rfl ?_
                                    refine lv_aload_n hx hb d_law_502 rfl (lv_at hl 1 rfl) ?_
                                    obtain ⟨fs1, he1⟩ := isR_hd hR
                                    have hF := fr_all hDx hS hA
                                    refine va_calli (va_runV (C := "SignMachineModel") (As := []) (rest := []) ⟨hx, hb, hml, hown, hk⟩ (R_assemble l D cI cJ cZ cB o1 _ Wx H.size hR ) (v_X_assemble hk k_1517 ⟨Nat.le_of_ble_eq_true rfl, Nat.le_of_ble_eq_true rfl⟩) (pM_v hK hPx hDx (ci := 7) (q0 := 0) rfl he1 rfl) rfl rfl hl.1 rfl (lv_room (Nat.le_of_ble_eq_true rfl)) d_law_503 ⟨(show 32 + 16 * j + 16 + 0 ≤ 111712 from by omega), (show 66087 + 9873 * j + 9873 + 0 ≤ 8767114 from by omega)⟩) hS (fun q _ h => hF q h) hF (fun r1 uL1 t H locs ht hvm hw1 hB hz1 hk1 hS => ?_)
                                    obtain ⟨W9, h9, hP9, hD9⟩ := hB
                                    rw [ht] at hP9
                                    obtain ⟨hPc, hDx, hap2⟩ := two hPc hap.symm hF hk1 hD9
                                    have hap := hap2.symm
                                    have hR := h9
                                    have hPx := hP9
                                    clear h9 hP9 hD9 hF hap2
                                    have hL9 := E_asm hw0 hw1
                                    rw [hL9] at hC
                                    refine W.widen (k := 32 + 16 * j + 16) (n := 66087 + 9873 * j + 9873) (by omega) (by omega) ?_
                                    refine lv_pop hx hb d_law_506 rfl ?_
                                    refine lv_goto (tgt := 533) hx hb d_law_507 (by decide) ?_
                                    refine W.widen (k := 32 + 16 * (j + 1)) (n := 66087 + 9873 * (j + 1)) (by omega) (by omega) ?_
                                    exact NX _ _ _ _ _ ls hC hR hPc hPx hDc hDx hap hS hl
                                  · by_cases cs14 : sv = (14 : Int32)
                                    · refine lv_tableIn (off := 477) (tgt := 510) hx hb d_law_33 (by rw [cs14]; decide) (by rw [cs14]; decide) (by rw [cs14]; rfl) (by decide) ?_
                                      refine lv_aload_n hx hb d_law_510 rfl (lv_at hl 2 rfl) ?_
                                      refine lv_aload_n hx hb d_law_511 rfl (lv_at hl 3 rfl) ?_
                                      refine lv_iload_n hx hb d_law_512 rfl (lv_at hl 0 rfl) ?_
                                      refine lv_iconst (v := 1) hx hb d_law_513 (by decide) ?_
                                      refine lv_iadd hx hb d_law_514 ?_
                                      refine va_sld hx hb hX hbl hbA hS (lin hL hgo (by decide)) d_law_515 ?_
                                      obtain ⟨fs0, he0⟩ := isC_hd hC
                                      have hF := fr_all hDc hS hA
                                      refine va_calli (va_runV (C := "SignMachine") (As := [.int (xs (((nI (6 * j)) + (1 : Int32))).toNatClampNeg)]) (rest := []) ⟨hx, hb, hml, hown, hk⟩ (C_about l K D cI cJ cZ cB o0 _ Wc H.size (isR_L hR) hC (xs (((nI (6 * j)) + (1 : Int32))).toNatClampNeg)) (v_S_about_b11 hk k_1111 ⟨Nat.le_of_ble_eq_true rfl, Nat.le_of_ble_eq_true rfl⟩) (pMC_v hK hPc hDc hCN hS hA (ci := 0) (q0 := 0) rfl he0 rfl) rfl rfl hl.1 rfl (lv_room (Nat.le_of_ble_eq_true rfl)) d_law_516 ⟨(show 32 + 16 * j + 16 ≤ 111712 from by omega), (show 66087 + 9873 * j + 9873 ≤ 8767114 from by omega)⟩) hS (fun q _ h => hF q h) hF (fun r0 uL0 t H locs ht hvm hw0 hB hz1 hk1 hS => ?_)
                                      obtain ⟨W9, h9, hP9, hD9⟩ := hB
                                      rw [ht] at hP9
                                      obtain ⟨hPx, hDc, hap⟩ := two hPx hap hF hk1 hD9
                                      have hC := h9
                                      have hPc := hP9
                                      clear h9 hP9 hD9 hF
                                      refine W.widen (k := 32 + 16 * j + 16) (n := 66087 + 9873 * j + 9873) (by omega) (by omega) ?_
                                      refine lv_pop hx hb d_law_519 rfl ?_
                                      refine lv_aload_n hx hb d_law_520 rfl (lv_at hl 1 rfl) ?_
                                      refine lv_aload_n hx hb d_law_521 rfl (lv_at hl 3 rfl) ?_
                                      refine lv_iload_n hx hb d_law_522 rfl (lv_at hl 0 rfl) ?_
                                      refine lv_iconst (v := 1) hx hb d_law_523 (by decide) ?_
                                      refine lv_iadd hx hb d_law_524 ?_
                                      refine va_sld hx hb hX hbl hbA hS (lin hL hgo (by decide)) d_law_525 ?_
                                      obtain ⟨fs1, he1⟩ := isR_hd hR
                                      have hF := fr_all hDx hS hA
                                      refine va_calli (va_runV (C := "SignMachineModel") (As := [.int (xs (((nI (6 * j)) + (1 : Int32))).toNatClampNeg)]) (rest := []) ⟨hx, hb, hml, hown, hk⟩ (R_about l D cI cJ cZ cB o1 _ Wx H.size hR (xs (((nI (6 * j)) + (1 : Int32))).toNatClampNeg)) (v_X_about hk k_1707 ⟨Nat.le_of_ble_eq_true rfl, Nat.le_of_ble_eq_true rfl⟩) (pM_v hK hPx hDx (ci := 7) (q0 := 0) rfl he1 rfl) rfl rfl hl.1 rfl (lv_room (Nat.le_of_ble_eq_true rfl)) d_law_526 ⟨(show 32 + 16 * j + 16 + 0 ≤ 111712 from by omega), (show 66087 + 9873 * j + 9873 + 0 ≤ 8767114 from by omega)⟩) hS (fun q _ h => hF q h) hF (fun r1 uL1 t H locs ht hvm hw1 hB hz1 hk1 hS => ?_)
                                      obtain ⟨W9, h9, hP9, hD9⟩ := hB
                                      rw [ht] at hP9
                                      obtain ⟨hPc, hDx, hap2⟩ := two hPc hap.symm hF hk1 hD9
                                      have hap := hap2.symm
                                      have hR := h9
                                      have hPx := hP9
                                      clear h9 hP9 hD9 hF hap2
                                      have hL9 := hw0.trans hw1.symm
                                      rw [hL9] at hC
                                      refine W.widen (k := 32 + 16 * j + 16) (n := 66087 + 9873 * j + 9873) (by omega) (by omega) ?_
                                      refine lv_pop hx hb d_law_529 rfl ?_
                                      refine lv_goto (tgt := 533) hx hb d_law_530 (by decide) ?_
                                      refine W.widen (k := 32 + 16 * (j + 1)) (n := 66087 + 9873 * (j + 1)) (by omega) (by omega) ?_
                                      exact NX _ _ _ _ _ ls hC hR hPc hPx hDc hDx hap hS hl
                                    · refine lv_tableOut (tgt := 533) hx hb d_law_33 (by have e0 := lv_neT cs0 (a := 0) rfl; have e1 := lv_neT cs1 (a := 1) rfl; have e2 := lv_neT cs2 (a := 2) rfl; have e3 := lv_neT cs3 (a := 3) rfl; have e4 := lv_neT cs4 (a := 4) rfl; have e5 := lv_neT cs5 (a := 5) rfl; have e6 := lv_neT cs6 (a := 6) rfl; have e7 := lv_neT cs7 (a := 7) rfl; have e8 := lv_neT cs8 (a := 8) rfl; have e9 := lv_neT cs9 (a := 9) rfl; have e10 := lv_neT cs10 (a := 10) rfl; have e11 := lv_neT cs11 (a := 11) rfl; have e12 := lv_neT cs12 (a := 12) rfl; have e13 := lv_neT cs13 (a := 13) rfl; have e14 := lv_neT cs14 (a := 14) rfl; omega) (by decide) ?_
                                      refine W.widen (k := 32 + 16 * (j + 1)) (n := 66087 + 9873 * (j + 1)) (by omega) (by omega) ?_
                                      exact NX _ _ _ _ _ ls hC hR hPc hPx hDc hDx hap hS hl
  have hPc := hP.sub (ws' := (wS104 cI cJ cZ cB o0 o0_1 o0_2 o0_3 o0_4 o0_5 (0 : Int32) (0 : Int32) (0 : Int32) (0 : Int32) (0 : Int32) (0 : Int32) (0 : Int32) (0 : Int32) (0 : Int32) (0 : Int32) (fun _ => 0) (fun _ => 0) (0 : Int32) (0 : Int32))) [0, 1, 2, 3, 4, 5] rfl
  have hPx := hP.sub (ws' := (wS50 cI cJ cZ cB o1 o1_1 o1_2 o1_3 o1_4 o1_5 o1_6 o1_7 o1_8 o1_9 o1_10 o1_11 o1_12 o1_13 o1_14 o1_15 o1_16 o1_17 o1_18 o1_19 o1_20 o1_21 o1_22 o1_23 o1_24 o1_25 (0 : Int32) (0 : Int32) (0 : Int32) (0 : Int32) (0 : Int32) (0 : Int32) (0 : Int32) (0 : Int32) (0 : Int32) (0 : Int32) (0 : Int32) (0 : Int32) (0 : Int32) (0 : Int32) (0 : Int32) (0 : Int32) (0 : Int32) (0 : Int32) (0 : Int32) (-1 : Int32) (0 : Int32) (0 : Int32) (0 : Int32) (0 : Int32) (0 : Int32) (0 : Int64) (0 : Int32) (0 : Int32) (0 : Int32) (0 : Int32) (0 : Int32) (0 : Int64) (0 : Int32) (0 : Int32) (0 : Int32) (0 : Int32) (0 : Int32) (0 : Int32) (0 : Int64) (fun _ => 0) (fun _ => 0) (fun _ => 0) (fun _ => 0) (fun _ => 0) (fun _ => 0) (fun _ => 0) (fun _ => 0) (fun _ => 0) (fun _ => 0) (fun _ => 0) (fun _ => 0) (fun _ => 0) (fun _ => 0) (fun _ => 0) (fun _ => 0) (fun _ => 0) (fun _ => 0) (fun _ => 0) (fun _ => 0) (fun _ => 0) (fun _ => 0) (fun _ => 0) (fun _ => 0) (fun _ => 0))) [6, 7, 8, 9, 10, 11, 12, 13, 14, 15, 16, 17, 18, 19, 20, 21, 22, 23, 24, 25, 26, 27, 28, 29, 30, 31] rfl
  have hDc := hD.sub (ws' := (wS104 cI cJ cZ cB o0 o0_1 o0_2 o0_3 o0_4 o0_5 (0 : Int32) (0 : Int32) (0 : Int32) (0 : Int32) (0 : Int32) (0 : Int32) (0 : Int32) (0 : Int32) (0 : Int32) (0 : Int32) (fun _ => 0) (fun _ => 0) (0 : Int32) (0 : Int32))) [0, 1, 2, 3, 4, 5] (by decide) rfl
  have hDx := hD.sub (ws' := (wS50 cI cJ cZ cB o1 o1_1 o1_2 o1_3 o1_4 o1_5 o1_6 o1_7 o1_8 o1_9 o1_10 o1_11 o1_12 o1_13 o1_14 o1_15 o1_16 o1_17 o1_18 o1_19 o1_20 o1_21 o1_22 o1_23 o1_24 o1_25 (0 : Int32) (0 : Int32) (0 : Int32) (0 : Int32) (0 : Int32) (0 : Int32) (0 : Int32) (0 : Int32) (0 : Int32) (0 : Int32) (0 : Int32) (0 : Int32) (0 : Int32) (0 : Int32) (0 : Int32) (0 : Int32) (0 : Int32) (0 : Int32) (0 : Int32) (-1 : Int32) (0 : Int32) (0 : Int32) (0 : Int32) (0 : Int32) (0 : Int32) (0 : Int64) (0 : Int32) (0 : Int32) (0 : Int32) (0 : Int32) (0 : Int32) (0 : Int64) (0 : Int32) (0 : Int32) (0 : Int32) (0 : Int32) (0 : Int32) (0 : Int32) (0 : Int64) (fun _ => 0) (fun _ => 0) (fun _ => 0) (fun _ => 0) (fun _ => 0) (fun _ => 0) (fun _ => 0) (fun _ => 0) (fun _ => 0) (fun _ => 0) (fun _ => 0) (fun _ => 0) (fun _ => 0) (fun _ => 0) (fun _ => 0) (fun _ => 0) (fun _ => 0) (fun _ => 0) (fun _ => 0) (fun _ => 0) (fun _ => 0) (fun _ => 0) (fun _ => 0) (fun _ => 0) (fun _ => 0))) [6, 7, 8, 9, 10, 11, 12, 13, 14, 15, 16, 17, 18, 19, 20, 21, 22, 23, 24, 25, 26, 27, 28, 29, 30, 31] (by decide) rfl
  have hap : ap (wS104 cI cJ cZ cB o0 o0_1 o0_2 o0_3 o0_4 o0_5 (0 : Int32) (0 : Int32) (0 : Int32) (0 : Int32) (0 : Int32) (0 : Int32) (0 : Int32) (0 : Int32) (0 : Int32) (0 : Int32) (fun _ => 0) (fun _ => 0) (0 : Int32) (0 : Int32)) (wS50 cI cJ cZ cB o1 o1_1 o1_2 o1_3 o1_4 o1_5 o1_6 o1_7 o1_8 o1_9 o1_10 o1_11 o1_12 o1_13 o1_14 o1_15 o1_16 o1_17 o1_18 o1_19 o1_20 o1_21 o1_22 o1_23 o1_24 o1_25 (0 : Int32) (0 : Int32) (0 : Int32) (0 : Int32) (0 : Int32) (0 : Int32) (0 : Int32) (0 : Int32) (0 : Int32) (0 : Int32) (0 : Int32) (0 : Int32) (0 : Int32) (0 : Int32) (0 : Int32) (0 : Int32) (0 : Int32) (0 : Int32) (0 : Int32) (-1 : Int32) (0 : Int32) (0 : Int32) (0 : Int32) (0 : Int32) (0 : Int32) (0 : Int64) (0 : Int32) (0 : Int32) (0 : Int32) (0 : Int32) (0 : Int32) (0 : Int64) (0 : Int32) (0 : Int32) (0 : Int32) (0 : Int32) (0 : Int32) (0 : Int32) (0 : Int64) (fun _ => 0) (fun _ => 0) (fun _ => 0) (fun _ => 0) (fun _ => 0) (fun _ => 0) (fun _ => 0) (fun _ => 0) (fun _ => 0) (fun _ => 0) (fun _ => 0) (fun _ => 0) (fun _ => 0) (fun _ => 0) (fun _ => 0) (fun _ => 0) (fun _ => 0) (fun _ => 0) (fun _ => 0) (fun _ => 0) (fun _ => 0) (fun _ => 0) (fun _ => 0) (fun _ => 0) (fun _ => 0)) := ap_of hD
  have hR : isR cI cJ cZ cB o1 (0 : Int32) (wS50 cI cJ cZ cB o1 o1_1 o1_2 o1_3 o1_4 o1_5 o1_6 o1_7 o1_8 o1_9 o1_10 o1_11 o1_12 o1_13 o1_14 o1_15 o1_16 o1_17 o1_18 o1_19 o1_20 o1_21 o1_22 o1_23 o1_24 o1_25 (0 : Int32) (0 : Int32) (0 : Int32) (0 : Int32) (0 : Int32) (0 : Int32) (0 : Int32) (0 : Int32) (0 : Int32) (0 : Int32) (0 : Int32) (0 : Int32) (0 : Int32) (0 : Int32) (0 : Int32) (0 : Int32) (0 : Int32) (0 : Int32) (0 : Int32) (-1 : Int32) (0 : Int32) (0 : Int32) (0 : Int32) (0 : Int32) (0 : Int32) (0 : Int64) (0 : Int32) (0 : Int32) (0 : Int32) (0 : Int32) (0 : Int32) (0 : Int64) (0 : Int32) (0 : Int32) (0 : Int32) (0 : Int32) (0 : Int32) (0 : Int32) (0 : Int64) (fun _ => 0) (fun _ => 0) (fun _ => 0) (fun _ => 0) (fun _ => 0) (fun _ => 0) (fun _ => 0) (fun _ => 0) (fun _ => 0) (fun _ => 0) (fun _ => 0) (fun _ => 0) (fun _ => 0) (fun _ => 0) (fun _ => 0) (fun _ => 0) (fun _ => 0) (fun _ => 0) (fun _ => 0) (fun _ => 0) (fun _ => 0) (fun _ => 0) (fun _ => 0) (fun _ => 0) (fun _ => 0)) := ⟨_, _, _, _, _, _, _, _, _, _, _, _, _, _, _, _, _, _, _, _, _, _, _, _, _, _, _, _, _, _, _, _, _, _, _, _, _, _, _, _, _, _, _, _, _, _, _, _, _, _, _, _, _, _, _, _, _, _, _, _, _, _, _, _, _, _, _, _, _, _, _, _, _, _, _, _, _, _, _, _, _, _, _, _, _, _, _, _, (show 0 ≤ (0 : Int32).toInt ∧ (0 : Int32).toInt ≤ 4000 from by decide), (show 0 ≤ (0 : Int32).toInt ∧ (0 : Int32).toInt ≤ 63 from by decide), (show 0 ≤ (0 : Int32).toInt ∧ (0 : Int32).toInt ≤ 63 from by decide), (show 0 ≤ (0 : Int32).toInt ∧ (0 : Int32).toInt ≤ 63 from by decide), (show (-8190) ≤ (0 : Int32).toInt ∧ (0 : Int32).toInt ≤ 8190 from by decide), (show 0 ≤ (0 : Int32).toInt ∧ (0 : Int32).toInt ≤ 1 from by decide), (show 0 ≤ (0 : Int32).toInt ∧ (0 : Int32).toInt ≤ 1 from by decide), (show 0 ≤ (0 : Int32).toInt ∧ (0 : Int32).toInt ≤ 1073741823 from by decide), (show 0 ≤ (0 : Int32).toInt ∧ (0 : Int32).toInt ≤ 4000 from by decide), (show 0 ≤ (0 : Int32).toInt ∧ (0 : Int32).toInt ≤ 4000 from by decide), (show 0 ≤ (0 : Int32).toInt ∧ (0 : Int32).toInt ≤ 4000 from by decide), (show 0 ≤ (0 : Int32).toInt ∧ (0 : Int32).toInt ≤ 4000 from by decide), (show 0 ≤ (0 : Int32).toInt ∧ (0 : Int32).toInt ≤ 6 from by decide), (show (-1073741823) ≤ (0 : Int32).toInt ∧ (0 : Int32).toInt ≤ 1073741823 from by decide), (show 0 ≤ (0 : Int32).toInt ∧ (0 : Int32).toInt ≤ 1 from by decide), (show 0 ≤ (0 : Int32).toInt ∧ (0 : Int32).toInt ≤ 60 from by decide), (show (-1) ≤ (0 : Int32).toInt ∧ (0 : Int32).toInt ≤ 9 from by decide), (show (-1073741823) ≤ (0 : Int64).toInt ∧ (0 : Int64).toInt ≤ 1073741823 from by decide), (show 0 ≤ (0 : Int32).toInt ∧ (0 : Int32).toInt ≤ 4200 from by decide), (show 0 ≤ (0 : Int32).toInt ∧ (0 : Int32).toInt ≤ 4100 from by decide), (show 0 ≤ (0 : Int32).toInt ∧ (0 : Int32).toInt ≤ 110 from by decide), (show 0 ≤ (0 : Int32).toInt ∧ (0 : Int32).toInt ≤ 40 from by decide), (show 0 ≤ (0 : Int32).toInt ∧ (0 : Int32).toInt ≤ 3 from by decide), (show 0 ≤ (0 : Int32).toInt ∧ (0 : Int32).toInt ≤ 1 from by decide), (show 0 ≤ (0 : Int32).toInt ∧ (0 : Int32).toInt ≤ 1073741823 from by decide), (show 0 ≤ (0 : Int32).toInt ∧ (0 : Int32).toInt ≤ 1 from by decide), (show (-10) ≤ (0 : Int32).toInt ∧ (0 : Int32).toInt ≤ 139 from by decide), (show 0 ≤ (0 : Int32).toInt ∧ (0 : Int32).toInt ≤ 3 from by decide), (fun i => (show (0 ≤ ((0 : Int32)).toInt ∧ ((0 : Int32)).toInt ≤ 1) from by decide)), (fun i => (show (0 ≤ ((0 : Int32)).toInt ∧ ((0 : Int32)).toInt ≤ 1073741823) from by decide)), (fun i => (show (0 ≤ ((0 : Int32)).toInt ∧ ((0 : Int32)).toInt ≤ 1) from by decide)), (fun i => (show ((0 ≤ ((0 : Int32)).toInt ∧ ((0 : Int32)).toInt ≤ 1073741823) ∧ ((1 ≤ (i : Int) ∧ (i : Int) ≤ 6) → ((0 : Int32)).toInt ≤ 4095)) from by exact ⟨by decide, fun _ => by decide⟩)), (fun i => (show (0 ≤ ((0 : Int32)).toInt ∧ ((0 : Int32)).toInt ≤ 1) from by decide)), (fun i => (show (0 ≤ ((0 : Int32)).toInt ∧ ((0 : Int32)).toInt ≤ 1073741823) from by decide)), (fun i => (show (0 ≤ ((0 : Int32)).toInt ∧ ((0 : Int32)).toInt ≤ 40) from by decide)), (fun i => (show (0 ≤ ((0 : Int32)).toInt ∧ ((0 : Int32)).toInt ≤ 63) from by decide)), (fun i => (show (0 ≤ ((0 : Int32)).toInt ∧ ((0 : Int32)).toInt ≤ 63) from by decide)), (fun i => (show (-1073741823 ≤ ((0 : Int64)).toInt ∧ ((0 : Int64)).toInt ≤ 1073741823) from by decide)), (fun i => (show (-1073741823 ≤ ((0 : Int64)).toInt ∧ ((0 : Int64)).toInt ≤ 1073741823) from by decide)), (fun i => (show (0 ≤ ((0 : Int32)).toInt ∧ ((0 : Int32)).toInt ≤ 3999) from by decide)), (fun i => (show (0 ≤ ((0 : Int32)).toInt ∧ ((0 : Int32)).toInt ≤ 1) from by decide)), (fun i => (show (0 ≤ ((0 : Int32)).toInt ∧ ((0 : Int32)).toInt ≤ 1073741823) from by decide)), (fun i => (show (0 ≤ ((0 : Int32)).toInt ∧ ((0 : Int32)).toInt ≤ 4199) from by decide)), (fun i => (show ((-10 ≤ ((0 : Int32)).toInt ∧ ((0 : Int32)).toInt ≤ 139) ∧ (((0 : Int32)).toInt ≤ 59 ∨ 100 ≤ ((0 : Int32)).toInt)) from by decide)), (fun i => (show ((0 ≤ ((0 : Int32)).toInt ∧ ((0 : Int32)).toInt ≤ 139) ∧ (((0 : Int32)).toInt ≤ 59 ∨ 100 ≤ ((0 : Int32)).toInt)) from by decide)), (fun i => (show (-1073741824 ≤ ((0 : Int64)).toInt ∧ ((0 : Int64)).toInt ≤ 1073741823) from by decide)), (fun i => (show (-1073741823 ≤ ((0 : Int64)).toInt ∧ ((0 : Int64)).toInt ≤ 1073741823) from by decide)), rfl⟩
  have hC : isC K cI cJ cZ cB o0 (0 : Int32) (wS104 cI cJ cZ cB o0 o0_1 o0_2 o0_3 o0_4 o0_5 (0 : Int32) (0 : Int32) (0 : Int32) (0 : Int32) (0 : Int32) (0 : Int32) (0 : Int32) (0 : Int32) (0 : Int32) (0 : Int32) (fun _ => 0) (fun _ => 0) (0 : Int32) (0 : Int32)) := isC_0 (p0 := o0) (m0 := o0_1) (m1 := o0_2) (m2 := o0_3) (m3 := o0_4) (m4 := o0_5) (Mx0_4 := false) (Mx0_5 := (0 : Int32)) (Mx0_6 := (0 : Int32)) (Mx0_7 := (0 : Int32)) (Mx0_8 := (0 : Int32)) (Mx0_9 := (0 : Int32)) (Mx0_10 := (0 : Int32)) (Mx0_11 := (0 : Int32)) (Mx0_12 := (0 : Int32)) (Mx0_13 := (0 : Int32)) (My1 := (fun _ => 0)) (My2 := (fun _ => 0)) (Mx3_0 := (0 : Int32)) (Mx4_0 := (0 : Int32))
  exact LP 513 0 _ _ _ H locs ls (by omega) (by omega) hC hR hPc hPx hDc hDx hap hS hl
