/-! the law, instruction by instruction -/
theorem d_law_0 : decode code 0 = .ok (.new 7, 3) := by decide +kernel
theorem d_law_3 : decode code 3 = .ok (.dup, 1) := by decide +kernel
theorem d_law_4 : decode code 4 = .ok (.invokespecial 9, 3) := by decide +kernel
theorem d_law_7 : decode code 7 = .ok (.astore_n 1, 1) := by decide +kernel
theorem d_law_8 : decode code 8 = .ok (.new 10, 3) := by decide +kernel
theorem d_law_11 : decode code 11 = .ok (.dup, 1) := by decide +kernel
theorem d_law_12 : decode code 12 = .ok (.invokespecial 12, 3) := by decide +kernel
theorem d_law_15 : decode code 15 = .ok (.astore_n 2, 1) := by decide +kernel
theorem d_law_16 : decode code 16 = .ok (.iconst 0, 1) := by decide +kernel
theorem d_law_17 : decode code 17 = .ok (.istore_n 3, 1) := by decide +kernel
theorem d_law_18 : decode code 18 = .ok (.iload_n 3, 1) := by decide +kernel
theorem d_law_19 : decode code 19 = .ok (.aload_n 0, 1) := by decide +kernel
theorem d_law_20 : decode code 20 = .ok (.arraylength, 1) := by decide +kernel
theorem d_law_21 : decode code 21 = .ok (.bipush 9, 2) := by decide +kernel
theorem d_law_23 : decode code 23 = .ok (.isub, 1) := by decide +kernel
theorem d_law_24 : decode code 24 = .ok (.if_icmp .gt 1030, 3) := by decide +kernel
theorem d_law_27 : decode code 27 = .ok (.aload_n 0, 1) := by decide +kernel
theorem d_law_28 : decode code 28 = .ok (.iload_n 3, 1) := by decide +kernel
theorem d_law_29 : decode code 29 = .ok (.iaload, 1) := by decide +kernel
theorem d_law_30 : decode code 30 = .ok (.bipush 31, 2) := by decide +kernel
theorem d_law_32 : decode code 32 = .ok (.iand, 1) := by decide +kernel
theorem d_law_33 : decode code 33 = .ok (.tableswitch 1015 0 21 #[103, 156, 179, 192, 205, 218, 271, 386, 419, 442, 485, 518, 551, 604, 647, 680, 713, 756, 843, 886, 929, 992], 103) := by decide +kernel
theorem d_law_136 : decode code 136 = .ok (.aload_n 1, 1) := by decide +kernel
theorem d_law_137 : decode code 137 = .ok (.aload_n 0, 1) := by decide +kernel
theorem d_law_138 : decode code 138 = .ok (.iload_n 3, 1) := by decide +kernel
theorem d_law_139 : decode code 139 = .ok (.iconst 1, 1) := by decide +kernel
theorem d_law_140 : decode code 140 = .ok (.iadd, 1) := by decide +kernel
theorem d_law_141 : decode code 141 = .ok (.iaload, 1) := by decide +kernel
theorem d_law_142 : decode code 142 = .ok (.i2l, 1) := by decide +kernel
theorem d_law_143 : decode code 143 = .ok (.bipush 32, 2) := by decide +kernel
theorem d_law_145 : decode code 145 = .ok (.lshl, 1) := by decide +kernel
theorem d_law_146 : decode code 146 = .ok (.aload_n 0, 1) := by decide +kernel
theorem d_law_147 : decode code 147 = .ok (.iload_n 3, 1) := by decide +kernel
theorem d_law_148 : decode code 148 = .ok (.iconst 2, 1) := by decide +kernel
theorem d_law_149 : decode code 149 = .ok (.iadd, 1) := by decide +kernel
theorem d_law_150 : decode code 150 = .ok (.iaload, 1) := by decide +kernel
theorem d_law_151 : decode code 151 = .ok (.i2l, 1) := by decide +kernel
theorem d_law_152 : decode code 152 = .ok (.ldc2_w 13, 3) := by decide +kernel
theorem d_law_155 : decode code 155 = .ok (.land, 1) := by decide +kernel
theorem d_law_156 : decode code 156 = .ok (.lor, 1) := by decide +kernel
theorem d_law_157 : decode code 157 = .ok (.invokevirtual 15, 3) := by decide +kernel
theorem d_law_160 : decode code 160 = .ok (.aload_n 2, 1) := by decide +kernel
theorem d_law_161 : decode code 161 = .ok (.aload_n 0, 1) := by decide +kernel
theorem d_law_162 : decode code 162 = .ok (.iload_n 3, 1) := by decide +kernel
theorem d_law_163 : decode code 163 = .ok (.iconst 1, 1) := by decide +kernel
theorem d_law_164 : decode code 164 = .ok (.iadd, 1) := by decide +kernel
theorem d_law_165 : decode code 165 = .ok (.iaload, 1) := by decide +kernel
theorem d_law_166 : decode code 166 = .ok (.i2l, 1) := by decide +kernel
theorem d_law_167 : decode code 167 = .ok (.bipush 32, 2) := by decide +kernel
theorem d_law_169 : decode code 169 = .ok (.lshl, 1) := by decide +kernel
theorem d_law_170 : decode code 170 = .ok (.aload_n 0, 1) := by decide +kernel
theorem d_law_171 : decode code 171 = .ok (.iload_n 3, 1) := by decide +kernel
theorem d_law_172 : decode code 172 = .ok (.iconst 2, 1) := by decide +kernel
theorem d_law_173 : decode code 173 = .ok (.iadd, 1) := by decide +kernel
theorem d_law_174 : decode code 174 = .ok (.iaload, 1) := by decide +kernel
theorem d_law_175 : decode code 175 = .ok (.i2l, 1) := by decide +kernel
theorem d_law_176 : decode code 176 = .ok (.ldc2_w 13, 3) := by decide +kernel
theorem d_law_179 : decode code 179 = .ok (.land, 1) := by decide +kernel
theorem d_law_180 : decode code 180 = .ok (.lor, 1) := by decide +kernel
theorem d_law_181 : decode code 181 = .ok (.invokevirtual 19, 3) := by decide +kernel
theorem d_law_184 : decode code 184 = .ok (.if_icmp .eq 864, 3) := by decide +kernel
theorem d_law_187 : decode code 187 = .ok (.iconst 0, 1) := by decide +kernel
theorem d_law_188 : decode code 188 = .ok (.ireturn, 1) := by decide +kernel
theorem d_law_189 : decode code 189 = .ok (.aload_n 1, 1) := by decide +kernel
theorem d_law_190 : decode code 190 = .ok (.aload_n 0, 1) := by decide +kernel
theorem d_law_191 : decode code 191 = .ok (.iload_n 3, 1) := by decide +kernel
theorem d_law_192 : decode code 192 = .ok (.iconst 1, 1) := by decide +kernel
theorem d_law_193 : decode code 193 = .ok (.iadd, 1) := by decide +kernel
theorem d_law_194 : decode code 194 = .ok (.iaload, 1) := by decide +kernel
theorem d_law_195 : decode code 195 = .ok (.invokevirtual 20, 3) := by decide +kernel
theorem d_law_198 : decode code 198 = .ok (.aload_n 2, 1) := by decide +kernel
theorem d_law_199 : decode code 199 = .ok (.aload_n 0, 1) := by decide +kernel
theorem d_law_200 : decode code 200 = .ok (.iload_n 3, 1) := by decide +kernel
theorem d_law_201 : decode code 201 = .ok (.iconst 1, 1) := by decide +kernel
theorem d_law_202 : decode code 202 = .ok (.iadd, 1) := by decide +kernel
theorem d_law_203 : decode code 203 = .ok (.iaload, 1) := by decide +kernel
theorem d_law_204 : decode code 204 = .ok (.invokevirtual 24, 3) := by decide +kernel
theorem d_law_207 : decode code 207 = .ok (.if_icmp .eq 841, 3) := by decide +kernel
theorem d_law_210 : decode code 210 = .ok (.iconst 0, 1) := by decide +kernel
theorem d_law_211 : decode code 211 = .ok (.ireturn, 1) := by decide +kernel
theorem d_law_212 : decode code 212 = .ok (.aload_n 1, 1) := by decide +kernel
theorem d_law_213 : decode code 213 = .ok (.invokevirtual 25, 3) := by decide +kernel
theorem d_law_216 : decode code 216 = .ok (.aload_n 2, 1) := by decide +kernel
theorem d_law_217 : decode code 217 = .ok (.invokevirtual 29, 3) := by decide +kernel
theorem d_law_220 : decode code 220 = .ok (.if_icmp .eq 828, 3) := by decide +kernel
theorem d_law_223 : decode code 223 = .ok (.iconst 0, 1) := by decide +kernel
theorem d_law_224 : decode code 224 = .ok (.ireturn, 1) := by decide +kernel
theorem d_law_225 : decode code 225 = .ok (.aload_n 1, 1) := by decide +kernel
theorem d_law_226 : decode code 226 = .ok (.invokevirtual 30, 3) := by decide +kernel
theorem d_law_229 : decode code 229 = .ok (.aload_n 2, 1) := by decide +kernel
theorem d_law_230 : decode code 230 = .ok (.invokevirtual 33, 3) := by decide +kernel
theorem d_law_233 : decode code 233 = .ok (.if_icmp .eq 815, 3) := by decide +kernel
theorem d_law_236 : decode code 236 = .ok (.iconst 0, 1) := by decide +kernel
theorem d_law_237 : decode code 237 = .ok (.ireturn, 1) := by decide +kernel
theorem d_law_238 : decode code 238 = .ok (.aload_n 1, 1) := by decide +kernel
theorem d_law_239 : decode code 239 = .ok (.invokevirtual 34, 3) := by decide +kernel
theorem d_law_242 : decode code 242 = .ok (.aload_n 2, 1) := by decide +kernel
theorem d_law_243 : decode code 243 = .ok (.invokevirtual 37, 3) := by decide +kernel
theorem d_law_246 : decode code 246 = .ok (.if_icmp .eq 802, 3) := by decide +kernel
theorem d_law_249 : decode code 249 = .ok (.iconst 0, 1) := by decide +kernel
theorem d_law_250 : decode code 250 = .ok (.ireturn, 1) := by decide +kernel
theorem d_law_251 : decode code 251 = .ok (.aload_n 1, 1) := by decide +kernel
theorem d_law_252 : decode code 252 = .ok (.aload_n 0, 1) := by decide +kernel
theorem d_law_253 : decode code 253 = .ok (.iload_n 3, 1) := by decide +kernel
theorem d_law_254 : decode code 254 = .ok (.iconst 1, 1) := by decide +kernel
theorem d_law_255 : decode code 255 = .ok (.iadd, 1) := by decide +kernel
theorem d_law_256 : decode code 256 = .ok (.iaload, 1) := by decide +kernel
theorem d_law_257 : decode code 257 = .ok (.aload_n 0, 1) := by decide +kernel
theorem d_law_258 : decode code 258 = .ok (.iload_n 3, 1) := by decide +kernel
theorem d_law_259 : decode code 259 = .ok (.iconst 2, 1) := by decide +kernel
theorem d_law_260 : decode code 260 = .ok (.iadd, 1) := by decide +kernel
theorem d_law_261 : decode code 261 = .ok (.iaload, 1) := by decide +kernel
theorem d_law_262 : decode code 262 = .ok (.aload_n 0, 1) := by decide +kernel
theorem d_law_263 : decode code 263 = .ok (.iload_n 3, 1) := by decide +kernel
theorem d_law_264 : decode code 264 = .ok (.iconst 3, 1) := by decide +kernel
theorem d_law_265 : decode code 265 = .ok (.iadd, 1) := by decide +kernel
theorem d_law_266 : decode code 266 = .ok (.iaload, 1) := by decide +kernel
theorem d_law_267 : decode code 267 = .ok (.aload_n 0, 1) := by decide +kernel
theorem d_law_268 : decode code 268 = .ok (.iload_n 3, 1) := by decide +kernel
theorem d_law_269 : decode code 269 = .ok (.iconst 4, 1) := by decide +kernel
theorem d_law_270 : decode code 270 = .ok (.iadd, 1) := by decide +kernel
theorem d_law_271 : decode code 271 = .ok (.iaload, 1) := by decide +kernel
theorem d_law_272 : decode code 272 = .ok (.invokevirtual 38, 3) := by decide +kernel
theorem d_law_275 : decode code 275 = .ok (.aload_n 2, 1) := by decide +kernel
theorem d_law_276 : decode code 276 = .ok (.aload_n 0, 1) := by decide +kernel
theorem d_law_277 : decode code 277 = .ok (.iload_n 3, 1) := by decide +kernel
theorem d_law_278 : decode code 278 = .ok (.iconst 1, 1) := by decide +kernel
theorem d_law_279 : decode code 279 = .ok (.iadd, 1) := by decide +kernel
theorem d_law_280 : decode code 280 = .ok (.iaload, 1) := by decide +kernel
theorem d_law_281 : decode code 281 = .ok (.aload_n 0, 1) := by decide +kernel
theorem d_law_282 : decode code 282 = .ok (.iload_n 3, 1) := by decide +kernel
theorem d_law_283 : decode code 283 = .ok (.iconst 2, 1) := by decide +kernel
theorem d_law_284 : decode code 284 = .ok (.iadd, 1) := by decide +kernel
theorem d_law_285 : decode code 285 = .ok (.iaload, 1) := by decide +kernel
theorem d_law_286 : decode code 286 = .ok (.aload_n 0, 1) := by decide +kernel
theorem d_law_287 : decode code 287 = .ok (.iload_n 3, 1) := by decide +kernel
theorem d_law_288 : decode code 288 = .ok (.iconst 3, 1) := by decide +kernel
theorem d_law_289 : decode code 289 = .ok (.iadd, 1) := by decide +kernel
theorem d_law_290 : decode code 290 = .ok (.iaload, 1) := by decide +kernel
theorem d_law_291 : decode code 291 = .ok (.aload_n 0, 1) := by decide +kernel
theorem d_law_292 : decode code 292 = .ok (.iload_n 3, 1) := by decide +kernel
theorem d_law_293 : decode code 293 = .ok (.iconst 4, 1) := by decide +kernel
theorem d_law_294 : decode code 294 = .ok (.iadd, 1) := by decide +kernel
theorem d_law_295 : decode code 295 = .ok (.iaload, 1) := by decide +kernel
theorem d_law_296 : decode code 296 = .ok (.invokevirtual 42, 3) := by decide +kernel
theorem d_law_299 : decode code 299 = .ok (.if_icmp .eq 749, 3) := by decide +kernel
theorem d_law_302 : decode code 302 = .ok (.iconst 0, 1) := by decide +kernel
theorem d_law_303 : decode code 303 = .ok (.ireturn, 1) := by decide +kernel
theorem d_law_304 : decode code 304 = .ok (.aload_n 1, 1) := by decide +kernel
theorem d_law_305 : decode code 305 = .ok (.aload_n 0, 1) := by decide +kernel
theorem d_law_306 : decode code 306 = .ok (.iload_n 3, 1) := by decide +kernel
theorem d_law_307 : decode code 307 = .ok (.iconst 1, 1) := by decide +kernel
theorem d_law_308 : decode code 308 = .ok (.iadd, 1) := by decide +kernel
theorem d_law_309 : decode code 309 = .ok (.iaload, 1) := by decide +kernel
theorem d_law_310 : decode code 310 = .ok (.aload_n 0, 1) := by decide +kernel
theorem d_law_311 : decode code 311 = .ok (.iload_n 3, 1) := by decide +kernel
theorem d_law_312 : decode code 312 = .ok (.iconst 2, 1) := by decide +kernel
theorem d_law_313 : decode code 313 = .ok (.iadd, 1) := by decide +kernel
theorem d_law_314 : decode code 314 = .ok (.iaload, 1) := by decide +kernel
theorem d_law_315 : decode code 315 = .ok (.aload_n 0, 1) := by decide +kernel
theorem d_law_316 : decode code 316 = .ok (.iload_n 3, 1) := by decide +kernel
theorem d_law_317 : decode code 317 = .ok (.iconst 3, 1) := by decide +kernel
theorem d_law_318 : decode code 318 = .ok (.iadd, 1) := by decide +kernel
theorem d_law_319 : decode code 319 = .ok (.iaload, 1) := by decide +kernel
theorem d_law_320 : decode code 320 = .ok (.aload_n 0, 1) := by decide +kernel
theorem d_law_321 : decode code 321 = .ok (.iload_n 3, 1) := by decide +kernel
theorem d_law_322 : decode code 322 = .ok (.iconst 4, 1) := by decide +kernel
theorem d_law_323 : decode code 323 = .ok (.iadd, 1) := by decide +kernel
theorem d_law_324 : decode code 324 = .ok (.iaload, 1) := by decide +kernel
theorem d_law_325 : decode code 325 = .ok (.aload_n 0, 1) := by decide +kernel
theorem d_law_326 : decode code 326 = .ok (.iload_n 3, 1) := by decide +kernel
theorem d_law_327 : decode code 327 = .ok (.iconst 5, 1) := by decide +kernel
theorem d_law_328 : decode code 328 = .ok (.iadd, 1) := by decide +kernel
theorem d_law_329 : decode code 329 = .ok (.iaload, 1) := by decide +kernel
theorem d_law_330 : decode code 330 = .ok (.aload_n 0, 1) := by decide +kernel
theorem d_law_331 : decode code 331 = .ok (.iload_n 3, 1) := by decide +kernel
theorem d_law_332 : decode code 332 = .ok (.bipush 6, 2) := by decide +kernel
theorem d_law_334 : decode code 334 = .ok (.iadd, 1) := by decide +kernel
theorem d_law_335 : decode code 335 = .ok (.iaload, 1) := by decide +kernel
theorem d_law_336 : decode code 336 = .ok (.aload_n 0, 1) := by decide +kernel
theorem d_law_337 : decode code 337 = .ok (.iload_n 3, 1) := by decide +kernel
theorem d_law_338 : decode code 338 = .ok (.bipush 7, 2) := by decide +kernel
theorem d_law_340 : decode code 340 = .ok (.iadd, 1) := by decide +kernel
theorem d_law_341 : decode code 341 = .ok (.iaload, 1) := by decide +kernel
theorem d_law_342 : decode code 342 = .ok (.aload_n 0, 1) := by decide +kernel
theorem d_law_343 : decode code 343 = .ok (.iload_n 3, 1) := by decide +kernel
theorem d_law_344 : decode code 344 = .ok (.bipush 8, 2) := by decide +kernel
theorem d_law_346 : decode code 346 = .ok (.iadd, 1) := by decide +kernel
theorem d_law_347 : decode code 347 = .ok (.iaload, 1) := by decide +kernel
theorem d_law_348 : decode code 348 = .ok (.ifCond .eq 7, 3) := by decide +kernel
theorem d_law_351 : decode code 351 = .ok (.iconst 1, 1) := by decide +kernel
theorem d_law_352 : decode code 352 = .ok (.goto 4, 3) := by decide +kernel
theorem d_law_355 : decode code 355 = .ok (.iconst 0, 1) := by decide +kernel
theorem d_law_356 : decode code 356 = .ok (.invokevirtual 43, 3) := by decide +kernel
theorem d_law_359 : decode code 359 = .ok (.aload_n 2, 1) := by decide +kernel
theorem d_law_360 : decode code 360 = .ok (.aload_n 0, 1) := by decide +kernel
theorem d_law_361 : decode code 361 = .ok (.iload_n 3, 1) := by decide +kernel
theorem d_law_362 : decode code 362 = .ok (.iconst 1, 1) := by decide +kernel
theorem d_law_363 : decode code 363 = .ok (.iadd, 1) := by decide +kernel
theorem d_law_364 : decode code 364 = .ok (.iaload, 1) := by decide +kernel
theorem d_law_365 : decode code 365 = .ok (.aload_n 0, 1) := by decide +kernel
theorem d_law_366 : decode code 366 = .ok (.iload_n 3, 1) := by decide +kernel
theorem d_law_367 : decode code 367 = .ok (.iconst 2, 1) := by decide +kernel
theorem d_law_368 : decode code 368 = .ok (.iadd, 1) := by decide +kernel
theorem d_law_369 : decode code 369 = .ok (.iaload, 1) := by decide +kernel
theorem d_law_370 : decode code 370 = .ok (.aload_n 0, 1) := by decide +kernel
theorem d_law_371 : decode code 371 = .ok (.iload_n 3, 1) := by decide +kernel
theorem d_law_372 : decode code 372 = .ok (.iconst 3, 1) := by decide +kernel
theorem d_law_373 : decode code 373 = .ok (.iadd, 1) := by decide +kernel
theorem d_law_374 : decode code 374 = .ok (.iaload, 1) := by decide +kernel
theorem d_law_375 : decode code 375 = .ok (.aload_n 0, 1) := by decide +kernel
theorem d_law_376 : decode code 376 = .ok (.iload_n 3, 1) := by decide +kernel
theorem d_law_377 : decode code 377 = .ok (.iconst 4, 1) := by decide +kernel
theorem d_law_378 : decode code 378 = .ok (.iadd, 1) := by decide +kernel
theorem d_law_379 : decode code 379 = .ok (.iaload, 1) := by decide +kernel
theorem d_law_380 : decode code 380 = .ok (.aload_n 0, 1) := by decide +kernel
theorem d_law_381 : decode code 381 = .ok (.iload_n 3, 1) := by decide +kernel
theorem d_law_382 : decode code 382 = .ok (.iconst 5, 1) := by decide +kernel
theorem d_law_383 : decode code 383 = .ok (.iadd, 1) := by decide +kernel
theorem d_law_384 : decode code 384 = .ok (.iaload, 1) := by decide +kernel
theorem d_law_385 : decode code 385 = .ok (.aload_n 0, 1) := by decide +kernel
theorem d_law_386 : decode code 386 = .ok (.iload_n 3, 1) := by decide +kernel
theorem d_law_387 : decode code 387 = .ok (.bipush 6, 2) := by decide +kernel
theorem d_law_389 : decode code 389 = .ok (.iadd, 1) := by decide +kernel
theorem d_law_390 : decode code 390 = .ok (.iaload, 1) := by decide +kernel
theorem d_law_391 : decode code 391 = .ok (.aload_n 0, 1) := by decide +kernel
theorem d_law_392 : decode code 392 = .ok (.iload_n 3, 1) := by decide +kernel
theorem d_law_393 : decode code 393 = .ok (.bipush 7, 2) := by decide +kernel
theorem d_law_395 : decode code 395 = .ok (.iadd, 1) := by decide +kernel
theorem d_law_396 : decode code 396 = .ok (.iaload, 1) := by decide +kernel
theorem d_law_397 : decode code 397 = .ok (.aload_n 0, 1) := by decide +kernel
theorem d_law_398 : decode code 398 = .ok (.iload_n 3, 1) := by decide +kernel
theorem d_law_399 : decode code 399 = .ok (.bipush 8, 2) := by decide +kernel
theorem d_law_401 : decode code 401 = .ok (.iadd, 1) := by decide +kernel
theorem d_law_402 : decode code 402 = .ok (.iaload, 1) := by decide +kernel
theorem d_law_403 : decode code 403 = .ok (.ifCond .eq 7, 3) := by decide +kernel
theorem d_law_406 : decode code 406 = .ok (.iconst 1, 1) := by decide +kernel
theorem d_law_407 : decode code 407 = .ok (.goto 4, 3) := by decide +kernel
theorem d_law_410 : decode code 410 = .ok (.iconst 0, 1) := by decide +kernel
theorem d_law_411 : decode code 411 = .ok (.invokevirtual 47, 3) := by decide +kernel
theorem d_law_414 : decode code 414 = .ok (.if_icmp .eq 634, 3) := by decide +kernel
theorem d_law_417 : decode code 417 = .ok (.iconst 0, 1) := by decide +kernel
theorem d_law_418 : decode code 418 = .ok (.ireturn, 1) := by decide +kernel
theorem d_law_419 : decode code 419 = .ok (.aload_n 1, 1) := by decide +kernel
theorem d_law_420 : decode code 420 = .ok (.aload_n 0, 1) := by decide +kernel
theorem d_law_421 : decode code 421 = .ok (.iload_n 3, 1) := by decide +kernel
theorem d_law_422 : decode code 422 = .ok (.iconst 1, 1) := by decide +kernel
theorem d_law_423 : decode code 423 = .ok (.iadd, 1) := by decide +kernel
theorem d_law_424 : decode code 424 = .ok (.iaload, 1) := by decide +kernel
theorem d_law_425 : decode code 425 = .ok (.aload_n 0, 1) := by decide +kernel
theorem d_law_426 : decode code 426 = .ok (.iload_n 3, 1) := by decide +kernel
theorem d_law_427 : decode code 427 = .ok (.iconst 2, 1) := by decide +kernel
theorem d_law_428 : decode code 428 = .ok (.iadd, 1) := by decide +kernel
theorem d_law_429 : decode code 429 = .ok (.iaload, 1) := by decide +kernel
theorem d_law_430 : decode code 430 = .ok (.invokevirtual 48, 3) := by decide +kernel
theorem d_law_433 : decode code 433 = .ok (.aload_n 2, 1) := by decide +kernel
theorem d_law_434 : decode code 434 = .ok (.aload_n 0, 1) := by decide +kernel
theorem d_law_435 : decode code 435 = .ok (.iload_n 3, 1) := by decide +kernel
theorem d_law_436 : decode code 436 = .ok (.iconst 1, 1) := by decide +kernel
theorem d_law_437 : decode code 437 = .ok (.iadd, 1) := by decide +kernel
theorem d_law_438 : decode code 438 = .ok (.iaload, 1) := by decide +kernel
theorem d_law_439 : decode code 439 = .ok (.aload_n 0, 1) := by decide +kernel
theorem d_law_440 : decode code 440 = .ok (.iload_n 3, 1) := by decide +kernel
theorem d_law_441 : decode code 441 = .ok (.iconst 2, 1) := by decide +kernel
theorem d_law_442 : decode code 442 = .ok (.iadd, 1) := by decide +kernel
theorem d_law_443 : decode code 443 = .ok (.iaload, 1) := by decide +kernel
theorem d_law_444 : decode code 444 = .ok (.invokevirtual 52, 3) := by decide +kernel
theorem d_law_447 : decode code 447 = .ok (.if_icmp .eq 601, 3) := by decide +kernel
theorem d_law_450 : decode code 450 = .ok (.iconst 0, 1) := by decide +kernel
theorem d_law_451 : decode code 451 = .ok (.ireturn, 1) := by decide +kernel
theorem d_law_452 : decode code 452 = .ok (.aload_n 1, 1) := by decide +kernel
theorem d_law_453 : decode code 453 = .ok (.aload_n 0, 1) := by decide +kernel
theorem d_law_454 : decode code 454 = .ok (.iload_n 3, 1) := by decide +kernel
theorem d_law_455 : decode code 455 = .ok (.iconst 1, 1) := by decide +kernel
theorem d_law_456 : decode code 456 = .ok (.iadd, 1) := by decide +kernel
theorem d_law_457 : decode code 457 = .ok (.iaload, 1) := by decide +kernel
theorem d_law_458 : decode code 458 = .ok (.invokevirtual 53, 3) := by decide +kernel
theorem d_law_461 : decode code 461 = .ok (.aload_n 2, 1) := by decide +kernel
theorem d_law_462 : decode code 462 = .ok (.aload_n 0, 1) := by decide +kernel
theorem d_law_463 : decode code 463 = .ok (.iload_n 3, 1) := by decide +kernel
theorem d_law_464 : decode code 464 = .ok (.iconst 1, 1) := by decide +kernel
theorem d_law_465 : decode code 465 = .ok (.iadd, 1) := by decide +kernel
theorem d_law_466 : decode code 466 = .ok (.iaload, 1) := by decide +kernel
theorem d_law_467 : decode code 467 = .ok (.invokevirtual 56, 3) := by decide +kernel
theorem d_law_470 : decode code 470 = .ok (.if_icmp .eq 578, 3) := by decide +kernel
theorem d_law_473 : decode code 473 = .ok (.iconst 0, 1) := by decide +kernel
theorem d_law_474 : decode code 474 = .ok (.ireturn, 1) := by decide +kernel
theorem d_law_475 : decode code 475 = .ok (.aload_n 1, 1) := by decide +kernel
theorem d_law_476 : decode code 476 = .ok (.aload_n 0, 1) := by decide +kernel
theorem d_law_477 : decode code 477 = .ok (.iload_n 3, 1) := by decide +kernel
theorem d_law_478 : decode code 478 = .ok (.iconst 1, 1) := by decide +kernel
theorem d_law_479 : decode code 479 = .ok (.iadd, 1) := by decide +kernel
theorem d_law_480 : decode code 480 = .ok (.iaload, 1) := by decide +kernel
theorem d_law_481 : decode code 481 = .ok (.aload_n 0, 1) := by decide +kernel
theorem d_law_482 : decode code 482 = .ok (.iload_n 3, 1) := by decide +kernel
theorem d_law_483 : decode code 483 = .ok (.iconst 2, 1) := by decide +kernel
theorem d_law_484 : decode code 484 = .ok (.iadd, 1) := by decide +kernel
theorem d_law_485 : decode code 485 = .ok (.iaload, 1) := by decide +kernel
theorem d_law_486 : decode code 486 = .ok (.aload_n 0, 1) := by decide +kernel
theorem d_law_487 : decode code 487 = .ok (.iload_n 3, 1) := by decide +kernel
theorem d_law_488 : decode code 488 = .ok (.iconst 3, 1) := by decide +kernel
theorem d_law_489 : decode code 489 = .ok (.iadd, 1) := by decide +kernel
theorem d_law_490 : decode code 490 = .ok (.iaload, 1) := by decide +kernel
theorem d_law_491 : decode code 491 = .ok (.invokevirtual 57, 3) := by decide +kernel
theorem d_law_494 : decode code 494 = .ok (.aload_n 2, 1) := by decide +kernel
theorem d_law_495 : decode code 495 = .ok (.aload_n 0, 1) := by decide +kernel
theorem d_law_496 : decode code 496 = .ok (.iload_n 3, 1) := by decide +kernel
theorem d_law_497 : decode code 497 = .ok (.iconst 1, 1) := by decide +kernel
theorem d_law_498 : decode code 498 = .ok (.iadd, 1) := by decide +kernel
theorem d_law_499 : decode code 499 = .ok (.iaload, 1) := by decide +kernel
theorem d_law_500 : decode code 500 = .ok (.aload_n 0, 1) := by decide +kernel
theorem d_law_501 : decode code 501 = .ok (.iload_n 3, 1) := by decide +kernel
theorem d_law_502 : decode code 502 = .ok (.iconst 2, 1) := by decide +kernel
theorem d_law_503 : decode code 503 = .ok (.iadd, 1) := by decide +kernel
theorem d_law_504 : decode code 504 = .ok (.iaload, 1) := by decide +kernel
theorem d_law_505 : decode code 505 = .ok (.aload_n 0, 1) := by decide +kernel
theorem d_law_506 : decode code 506 = .ok (.iload_n 3, 1) := by decide +kernel
theorem d_law_507 : decode code 507 = .ok (.iconst 3, 1) := by decide +kernel
theorem d_law_508 : decode code 508 = .ok (.iadd, 1) := by decide +kernel
theorem d_law_509 : decode code 509 = .ok (.iaload, 1) := by decide +kernel
theorem d_law_510 : decode code 510 = .ok (.invokevirtual 61, 3) := by decide +kernel
theorem d_law_513 : decode code 513 = .ok (.if_icmp .eq 535, 3) := by decide +kernel
theorem d_law_516 : decode code 516 = .ok (.iconst 0, 1) := by decide +kernel
theorem d_law_517 : decode code 517 = .ok (.ireturn, 1) := by decide +kernel
theorem d_law_518 : decode code 518 = .ok (.aload_n 1, 1) := by decide +kernel
theorem d_law_519 : decode code 519 = .ok (.aload_n 0, 1) := by decide +kernel
theorem d_law_520 : decode code 520 = .ok (.iload_n 3, 1) := by decide +kernel
theorem d_law_521 : decode code 521 = .ok (.iconst 1, 1) := by decide +kernel
theorem d_law_522 : decode code 522 = .ok (.iadd, 1) := by decide +kernel
theorem d_law_523 : decode code 523 = .ok (.iaload, 1) := by decide +kernel
theorem d_law_524 : decode code 524 = .ok (.aload_n 0, 1) := by decide +kernel
theorem d_law_525 : decode code 525 = .ok (.iload_n 3, 1) := by decide +kernel
theorem d_law_526 : decode code 526 = .ok (.iconst 2, 1) := by decide +kernel
theorem d_law_527 : decode code 527 = .ok (.iadd, 1) := by decide +kernel
theorem d_law_528 : decode code 528 = .ok (.iaload, 1) := by decide +kernel
theorem d_law_529 : decode code 529 = .ok (.invokevirtual 62, 3) := by decide +kernel
theorem d_law_532 : decode code 532 = .ok (.aload_n 2, 1) := by decide +kernel
theorem d_law_533 : decode code 533 = .ok (.aload_n 0, 1) := by decide +kernel
theorem d_law_534 : decode code 534 = .ok (.iload_n 3, 1) := by decide +kernel
theorem d_law_535 : decode code 535 = .ok (.iconst 1, 1) := by decide +kernel
theorem d_law_536 : decode code 536 = .ok (.iadd, 1) := by decide +kernel
theorem d_law_537 : decode code 537 = .ok (.iaload, 1) := by decide +kernel
theorem d_law_538 : decode code 538 = .ok (.aload_n 0, 1) := by decide +kernel
theorem d_law_539 : decode code 539 = .ok (.iload_n 3, 1) := by decide +kernel
theorem d_law_540 : decode code 540 = .ok (.iconst 2, 1) := by decide +kernel
theorem d_law_541 : decode code 541 = .ok (.iadd, 1) := by decide +kernel
theorem d_law_542 : decode code 542 = .ok (.iaload, 1) := by decide +kernel
theorem d_law_543 : decode code 543 = .ok (.invokevirtual 65, 3) := by decide +kernel
theorem d_law_546 : decode code 546 = .ok (.if_icmp .eq 502, 3) := by decide +kernel
theorem d_law_549 : decode code 549 = .ok (.iconst 0, 1) := by decide +kernel
theorem d_law_550 : decode code 550 = .ok (.ireturn, 1) := by decide +kernel
theorem d_law_551 : decode code 551 = .ok (.aload_n 1, 1) := by decide +kernel
theorem d_law_552 : decode code 552 = .ok (.aload_n 0, 1) := by decide +kernel
theorem d_law_553 : decode code 553 = .ok (.iload_n 3, 1) := by decide +kernel
theorem d_law_554 : decode code 554 = .ok (.iconst 1, 1) := by decide +kernel
theorem d_law_555 : decode code 555 = .ok (.iadd, 1) := by decide +kernel
theorem d_law_556 : decode code 556 = .ok (.iaload, 1) := by decide +kernel
theorem d_law_557 : decode code 557 = .ok (.aload_n 0, 1) := by decide +kernel
theorem d_law_558 : decode code 558 = .ok (.iload_n 3, 1) := by decide +kernel
theorem d_law_559 : decode code 559 = .ok (.iconst 2, 1) := by decide +kernel
theorem d_law_560 : decode code 560 = .ok (.iadd, 1) := by decide +kernel
theorem d_law_561 : decode code 561 = .ok (.iaload, 1) := by decide +kernel
theorem d_law_562 : decode code 562 = .ok (.invokevirtual 66, 3) := by decide +kernel
theorem d_law_565 : decode code 565 = .ok (.aload_n 2, 1) := by decide +kernel
theorem d_law_566 : decode code 566 = .ok (.aload_n 0, 1) := by decide +kernel
theorem d_law_567 : decode code 567 = .ok (.iload_n 3, 1) := by decide +kernel
theorem d_law_568 : decode code 568 = .ok (.iconst 1, 1) := by decide +kernel
theorem d_law_569 : decode code 569 = .ok (.iadd, 1) := by decide +kernel
theorem d_law_570 : decode code 570 = .ok (.iaload, 1) := by decide +kernel
theorem d_law_571 : decode code 571 = .ok (.aload_n 0, 1) := by decide +kernel
theorem d_law_572 : decode code 572 = .ok (.iload_n 3, 1) := by decide +kernel
theorem d_law_573 : decode code 573 = .ok (.iconst 2, 1) := by decide +kernel
theorem d_law_574 : decode code 574 = .ok (.iadd, 1) := by decide +kernel
theorem d_law_575 : decode code 575 = .ok (.iaload, 1) := by decide +kernel
theorem d_law_576 : decode code 576 = .ok (.invokevirtual 69, 3) := by decide +kernel
theorem d_law_579 : decode code 579 = .ok (.if_icmp .eq 469, 3) := by decide +kernel
theorem d_law_582 : decode code 582 = .ok (.iconst 0, 1) := by decide +kernel
theorem d_law_583 : decode code 583 = .ok (.ireturn, 1) := by decide +kernel
theorem d_law_584 : decode code 584 = .ok (.aload_n 1, 1) := by decide +kernel
theorem d_law_585 : decode code 585 = .ok (.aload_n 0, 1) := by decide +kernel
theorem d_law_586 : decode code 586 = .ok (.iload_n 3, 1) := by decide +kernel
theorem d_law_587 : decode code 587 = .ok (.iconst 1, 1) := by decide +kernel
theorem d_law_588 : decode code 588 = .ok (.iadd, 1) := by decide +kernel
theorem d_law_589 : decode code 589 = .ok (.iaload, 1) := by decide +kernel
theorem d_law_590 : decode code 590 = .ok (.aload_n 0, 1) := by decide +kernel
theorem d_law_591 : decode code 591 = .ok (.iload_n 3, 1) := by decide +kernel
theorem d_law_592 : decode code 592 = .ok (.iconst 2, 1) := by decide +kernel
theorem d_law_593 : decode code 593 = .ok (.iadd, 1) := by decide +kernel
theorem d_law_594 : decode code 594 = .ok (.iaload, 1) := by decide +kernel
theorem d_law_595 : decode code 595 = .ok (.aload_n 0, 1) := by decide +kernel
theorem d_law_596 : decode code 596 = .ok (.iload_n 3, 1) := by decide +kernel
theorem d_law_597 : decode code 597 = .ok (.iconst 3, 1) := by decide +kernel
theorem d_law_598 : decode code 598 = .ok (.iadd, 1) := by decide +kernel
theorem d_law_599 : decode code 599 = .ok (.iaload, 1) := by decide +kernel
theorem d_law_600 : decode code 600 = .ok (.aload_n 0, 1) := by decide +kernel
theorem d_law_601 : decode code 601 = .ok (.iload_n 3, 1) := by decide +kernel
theorem d_law_602 : decode code 602 = .ok (.iconst 4, 1) := by decide +kernel
theorem d_law_603 : decode code 603 = .ok (.iadd, 1) := by decide +kernel
theorem d_law_604 : decode code 604 = .ok (.iaload, 1) := by decide +kernel
theorem d_law_605 : decode code 605 = .ok (.invokevirtual 70, 3) := by decide +kernel
theorem d_law_608 : decode code 608 = .ok (.aload_n 2, 1) := by decide +kernel
theorem d_law_609 : decode code 609 = .ok (.aload_n 0, 1) := by decide +kernel
theorem d_law_610 : decode code 610 = .ok (.iload_n 3, 1) := by decide +kernel
theorem d_law_611 : decode code 611 = .ok (.iconst 1, 1) := by decide +kernel
theorem d_law_612 : decode code 612 = .ok (.iadd, 1) := by decide +kernel
theorem d_law_613 : decode code 613 = .ok (.iaload, 1) := by decide +kernel
theorem d_law_614 : decode code 614 = .ok (.aload_n 0, 1) := by decide +kernel
theorem d_law_615 : decode code 615 = .ok (.iload_n 3, 1) := by decide +kernel
theorem d_law_616 : decode code 616 = .ok (.iconst 2, 1) := by decide +kernel
theorem d_law_617 : decode code 617 = .ok (.iadd, 1) := by decide +kernel
theorem d_law_618 : decode code 618 = .ok (.iaload, 1) := by decide +kernel
theorem d_law_619 : decode code 619 = .ok (.aload_n 0, 1) := by decide +kernel
theorem d_law_620 : decode code 620 = .ok (.iload_n 3, 1) := by decide +kernel
theorem d_law_621 : decode code 621 = .ok (.iconst 3, 1) := by decide +kernel
theorem d_law_622 : decode code 622 = .ok (.iadd, 1) := by decide +kernel
theorem d_law_623 : decode code 623 = .ok (.iaload, 1) := by decide +kernel
theorem d_law_624 : decode code 624 = .ok (.aload_n 0, 1) := by decide +kernel
theorem d_law_625 : decode code 625 = .ok (.iload_n 3, 1) := by decide +kernel
theorem d_law_626 : decode code 626 = .ok (.iconst 4, 1) := by decide +kernel
theorem d_law_627 : decode code 627 = .ok (.iadd, 1) := by decide +kernel
theorem d_law_628 : decode code 628 = .ok (.iaload, 1) := by decide +kernel
theorem d_law_629 : decode code 629 = .ok (.invokevirtual 73, 3) := by decide +kernel
theorem d_law_632 : decode code 632 = .ok (.if_icmp .eq 416, 3) := by decide +kernel
theorem d_law_635 : decode code 635 = .ok (.iconst 0, 1) := by decide +kernel
theorem d_law_636 : decode code 636 = .ok (.ireturn, 1) := by decide +kernel
theorem d_law_637 : decode code 637 = .ok (.aload_n 1, 1) := by decide +kernel
theorem d_law_638 : decode code 638 = .ok (.aload_n 0, 1) := by decide +kernel
theorem d_law_639 : decode code 639 = .ok (.iload_n 3, 1) := by decide +kernel
theorem d_law_640 : decode code 640 = .ok (.iconst 1, 1) := by decide +kernel
theorem d_law_641 : decode code 641 = .ok (.iadd, 1) := by decide +kernel
theorem d_law_642 : decode code 642 = .ok (.iaload, 1) := by decide +kernel
theorem d_law_643 : decode code 643 = .ok (.aload_n 0, 1) := by decide +kernel
theorem d_law_644 : decode code 644 = .ok (.iload_n 3, 1) := by decide +kernel
theorem d_law_645 : decode code 645 = .ok (.iconst 2, 1) := by decide +kernel
theorem d_law_646 : decode code 646 = .ok (.iadd, 1) := by decide +kernel
theorem d_law_647 : decode code 647 = .ok (.iaload, 1) := by decide +kernel
theorem d_law_648 : decode code 648 = .ok (.aload_n 0, 1) := by decide +kernel
theorem d_law_649 : decode code 649 = .ok (.iload_n 3, 1) := by decide +kernel
theorem d_law_650 : decode code 650 = .ok (.iconst 3, 1) := by decide +kernel
theorem d_law_651 : decode code 651 = .ok (.iadd, 1) := by decide +kernel
theorem d_law_652 : decode code 652 = .ok (.iaload, 1) := by decide +kernel
theorem d_law_653 : decode code 653 = .ok (.invokevirtual 74, 3) := by decide +kernel
theorem d_law_656 : decode code 656 = .ok (.aload_n 2, 1) := by decide +kernel
theorem d_law_657 : decode code 657 = .ok (.aload_n 0, 1) := by decide +kernel
theorem d_law_658 : decode code 658 = .ok (.iload_n 3, 1) := by decide +kernel
theorem d_law_659 : decode code 659 = .ok (.iconst 1, 1) := by decide +kernel
theorem d_law_660 : decode code 660 = .ok (.iadd, 1) := by decide +kernel
theorem d_law_661 : decode code 661 = .ok (.iaload, 1) := by decide +kernel
theorem d_law_662 : decode code 662 = .ok (.aload_n 0, 1) := by decide +kernel
theorem d_law_663 : decode code 663 = .ok (.iload_n 3, 1) := by decide +kernel
theorem d_law_664 : decode code 664 = .ok (.iconst 2, 1) := by decide +kernel
theorem d_law_665 : decode code 665 = .ok (.iadd, 1) := by decide +kernel
theorem d_law_666 : decode code 666 = .ok (.iaload, 1) := by decide +kernel
theorem d_law_667 : decode code 667 = .ok (.aload_n 0, 1) := by decide +kernel
theorem d_law_668 : decode code 668 = .ok (.iload_n 3, 1) := by decide +kernel
theorem d_law_669 : decode code 669 = .ok (.iconst 3, 1) := by decide +kernel
theorem d_law_670 : decode code 670 = .ok (.iadd, 1) := by decide +kernel
theorem d_law_671 : decode code 671 = .ok (.iaload, 1) := by decide +kernel
theorem d_law_672 : decode code 672 = .ok (.invokevirtual 77, 3) := by decide +kernel
theorem d_law_675 : decode code 675 = .ok (.if_icmp .eq 373, 3) := by decide +kernel
theorem d_law_678 : decode code 678 = .ok (.iconst 0, 1) := by decide +kernel
theorem d_law_679 : decode code 679 = .ok (.ireturn, 1) := by decide +kernel
theorem d_law_680 : decode code 680 = .ok (.aload_n 1, 1) := by decide +kernel
theorem d_law_681 : decode code 681 = .ok (.aload_n 0, 1) := by decide +kernel
theorem d_law_682 : decode code 682 = .ok (.iload_n 3, 1) := by decide +kernel
theorem d_law_683 : decode code 683 = .ok (.iconst 1, 1) := by decide +kernel
theorem d_law_684 : decode code 684 = .ok (.iadd, 1) := by decide +kernel
theorem d_law_685 : decode code 685 = .ok (.iaload, 1) := by decide +kernel
theorem d_law_686 : decode code 686 = .ok (.aload_n 0, 1) := by decide +kernel
theorem d_law_687 : decode code 687 = .ok (.iload_n 3, 1) := by decide +kernel
theorem d_law_688 : decode code 688 = .ok (.iconst 2, 1) := by decide +kernel
theorem d_law_689 : decode code 689 = .ok (.iadd, 1) := by decide +kernel
theorem d_law_690 : decode code 690 = .ok (.iaload, 1) := by decide +kernel
theorem d_law_691 : decode code 691 = .ok (.invokevirtual 78, 3) := by decide +kernel
theorem d_law_694 : decode code 694 = .ok (.aload_n 2, 1) := by decide +kernel
theorem d_law_695 : decode code 695 = .ok (.aload_n 0, 1) := by decide +kernel
theorem d_law_696 : decode code 696 = .ok (.iload_n 3, 1) := by decide +kernel
theorem d_law_697 : decode code 697 = .ok (.iconst 1, 1) := by decide +kernel
theorem d_law_698 : decode code 698 = .ok (.iadd, 1) := by decide +kernel
theorem d_law_699 : decode code 699 = .ok (.iaload, 1) := by decide +kernel
theorem d_law_700 : decode code 700 = .ok (.aload_n 0, 1) := by decide +kernel
theorem d_law_701 : decode code 701 = .ok (.iload_n 3, 1) := by decide +kernel
theorem d_law_702 : decode code 702 = .ok (.iconst 2, 1) := by decide +kernel
theorem d_law_703 : decode code 703 = .ok (.iadd, 1) := by decide +kernel
theorem d_law_704 : decode code 704 = .ok (.iaload, 1) := by decide +kernel
theorem d_law_705 : decode code 705 = .ok (.invokevirtual 81, 3) := by decide +kernel
theorem d_law_708 : decode code 708 = .ok (.if_icmp .eq 340, 3) := by decide +kernel
theorem d_law_711 : decode code 711 = .ok (.iconst 0, 1) := by decide +kernel
theorem d_law_712 : decode code 712 = .ok (.ireturn, 1) := by decide +kernel
theorem d_law_713 : decode code 713 = .ok (.aload_n 1, 1) := by decide +kernel
theorem d_law_714 : decode code 714 = .ok (.aload_n 0, 1) := by decide +kernel
theorem d_law_715 : decode code 715 = .ok (.iload_n 3, 1) := by decide +kernel
theorem d_law_716 : decode code 716 = .ok (.iconst 1, 1) := by decide +kernel
theorem d_law_717 : decode code 717 = .ok (.iadd, 1) := by decide +kernel
theorem d_law_718 : decode code 718 = .ok (.iaload, 1) := by decide +kernel
theorem d_law_719 : decode code 719 = .ok (.aload_n 0, 1) := by decide +kernel
theorem d_law_720 : decode code 720 = .ok (.iload_n 3, 1) := by decide +kernel
theorem d_law_721 : decode code 721 = .ok (.iconst 2, 1) := by decide +kernel
theorem d_law_722 : decode code 722 = .ok (.iadd, 1) := by decide +kernel
theorem d_law_723 : decode code 723 = .ok (.iaload, 1) := by decide +kernel
theorem d_law_724 : decode code 724 = .ok (.invokevirtual 82, 3) := by decide +kernel
theorem d_law_727 : decode code 727 = .ok (.aload_n 2, 1) := by decide +kernel
theorem d_law_728 : decode code 728 = .ok (.aload_n 0, 1) := by decide +kernel
theorem d_law_729 : decode code 729 = .ok (.iload_n 3, 1) := by decide +kernel
theorem d_law_730 : decode code 730 = .ok (.iconst 1, 1) := by decide +kernel
theorem d_law_731 : decode code 731 = .ok (.iadd, 1) := by decide +kernel
theorem d_law_732 : decode code 732 = .ok (.iaload, 1) := by decide +kernel
theorem d_law_733 : decode code 733 = .ok (.aload_n 0, 1) := by decide +kernel
theorem d_law_734 : decode code 734 = .ok (.iload_n 3, 1) := by decide +kernel
theorem d_law_735 : decode code 735 = .ok (.iconst 2, 1) := by decide +kernel
theorem d_law_736 : decode code 736 = .ok (.iadd, 1) := by decide +kernel
theorem d_law_737 : decode code 737 = .ok (.iaload, 1) := by decide +kernel
theorem d_law_738 : decode code 738 = .ok (.invokevirtual 85, 3) := by decide +kernel
theorem d_law_741 : decode code 741 = .ok (.if_icmp .eq 307, 3) := by decide +kernel
theorem d_law_744 : decode code 744 = .ok (.iconst 0, 1) := by decide +kernel
theorem d_law_745 : decode code 745 = .ok (.ireturn, 1) := by decide +kernel
theorem d_law_746 : decode code 746 = .ok (.aload_n 1, 1) := by decide +kernel
theorem d_law_747 : decode code 747 = .ok (.aload_n 0, 1) := by decide +kernel
theorem d_law_748 : decode code 748 = .ok (.iload_n 3, 1) := by decide +kernel
theorem d_law_749 : decode code 749 = .ok (.iconst 1, 1) := by decide +kernel
theorem d_law_750 : decode code 750 = .ok (.iadd, 1) := by decide +kernel
theorem d_law_751 : decode code 751 = .ok (.iaload, 1) := by decide +kernel
theorem d_law_752 : decode code 752 = .ok (.aload_n 0, 1) := by decide +kernel
theorem d_law_753 : decode code 753 = .ok (.iload_n 3, 1) := by decide +kernel
theorem d_law_754 : decode code 754 = .ok (.iconst 2, 1) := by decide +kernel
theorem d_law_755 : decode code 755 = .ok (.iadd, 1) := by decide +kernel
theorem d_law_756 : decode code 756 = .ok (.iaload, 1) := by decide +kernel
theorem d_law_757 : decode code 757 = .ok (.aload_n 0, 1) := by decide +kernel
theorem d_law_758 : decode code 758 = .ok (.iload_n 3, 1) := by decide +kernel
theorem d_law_759 : decode code 759 = .ok (.iconst 3, 1) := by decide +kernel
theorem d_law_760 : decode code 760 = .ok (.iadd, 1) := by decide +kernel
theorem d_law_761 : decode code 761 = .ok (.iaload, 1) := by decide +kernel
theorem d_law_762 : decode code 762 = .ok (.invokevirtual 86, 3) := by decide +kernel
theorem d_law_765 : decode code 765 = .ok (.aload_n 2, 1) := by decide +kernel
theorem d_law_766 : decode code 766 = .ok (.aload_n 0, 1) := by decide +kernel
theorem d_law_767 : decode code 767 = .ok (.iload_n 3, 1) := by decide +kernel
theorem d_law_768 : decode code 768 = .ok (.iconst 1, 1) := by decide +kernel
theorem d_law_769 : decode code 769 = .ok (.iadd, 1) := by decide +kernel
theorem d_law_770 : decode code 770 = .ok (.iaload, 1) := by decide +kernel
theorem d_law_771 : decode code 771 = .ok (.aload_n 0, 1) := by decide +kernel
theorem d_law_772 : decode code 772 = .ok (.iload_n 3, 1) := by decide +kernel
theorem d_law_773 : decode code 773 = .ok (.iconst 2, 1) := by decide +kernel
theorem d_law_774 : decode code 774 = .ok (.iadd, 1) := by decide +kernel
theorem d_law_775 : decode code 775 = .ok (.iaload, 1) := by decide +kernel
theorem d_law_776 : decode code 776 = .ok (.aload_n 0, 1) := by decide +kernel
theorem d_law_777 : decode code 777 = .ok (.iload_n 3, 1) := by decide +kernel
theorem d_law_778 : decode code 778 = .ok (.iconst 3, 1) := by decide +kernel
theorem d_law_779 : decode code 779 = .ok (.iadd, 1) := by decide +kernel
theorem d_law_780 : decode code 780 = .ok (.iaload, 1) := by decide +kernel
theorem d_law_781 : decode code 781 = .ok (.invokevirtual 89, 3) := by decide +kernel
theorem d_law_784 : decode code 784 = .ok (.if_icmp .eq 264, 3) := by decide +kernel
theorem d_law_787 : decode code 787 = .ok (.iconst 0, 1) := by decide +kernel
theorem d_law_788 : decode code 788 = .ok (.ireturn, 1) := by decide +kernel
theorem d_law_789 : decode code 789 = .ok (.aload_n 1, 1) := by decide +kernel
theorem d_law_790 : decode code 790 = .ok (.aload_n 0, 1) := by decide +kernel
theorem d_law_791 : decode code 791 = .ok (.iload_n 3, 1) := by decide +kernel
theorem d_law_792 : decode code 792 = .ok (.iconst 1, 1) := by decide +kernel
theorem d_law_793 : decode code 793 = .ok (.iadd, 1) := by decide +kernel
theorem d_law_794 : decode code 794 = .ok (.iaload, 1) := by decide +kernel
theorem d_law_795 : decode code 795 = .ok (.aload_n 0, 1) := by decide +kernel
theorem d_law_796 : decode code 796 = .ok (.iload_n 3, 1) := by decide +kernel
theorem d_law_797 : decode code 797 = .ok (.iconst 2, 1) := by decide +kernel
theorem d_law_798 : decode code 798 = .ok (.iadd, 1) := by decide +kernel
theorem d_law_799 : decode code 799 = .ok (.iaload, 1) := by decide +kernel
theorem d_law_800 : decode code 800 = .ok (.aload_n 0, 1) := by decide +kernel
theorem d_law_801 : decode code 801 = .ok (.iload_n 3, 1) := by decide +kernel
theorem d_law_802 : decode code 802 = .ok (.iconst 3, 1) := by decide +kernel
theorem d_law_803 : decode code 803 = .ok (.iadd, 1) := by decide +kernel
theorem d_law_804 : decode code 804 = .ok (.iaload, 1) := by decide +kernel
theorem d_law_805 : decode code 805 = .ok (.aload_n 0, 1) := by decide +kernel
theorem d_law_806 : decode code 806 = .ok (.iload_n 3, 1) := by decide +kernel
theorem d_law_807 : decode code 807 = .ok (.iconst 4, 1) := by decide +kernel
theorem d_law_808 : decode code 808 = .ok (.iadd, 1) := by decide +kernel
theorem d_law_809 : decode code 809 = .ok (.iaload, 1) := by decide +kernel
theorem d_law_810 : decode code 810 = .ok (.aload_n 0, 1) := by decide +kernel
theorem d_law_811 : decode code 811 = .ok (.iload_n 3, 1) := by decide +kernel
theorem d_law_812 : decode code 812 = .ok (.iconst 5, 1) := by decide +kernel
theorem d_law_813 : decode code 813 = .ok (.iadd, 1) := by decide +kernel
theorem d_law_814 : decode code 814 = .ok (.iaload, 1) := by decide +kernel
theorem d_law_815 : decode code 815 = .ok (.aload_n 0, 1) := by decide +kernel
theorem d_law_816 : decode code 816 = .ok (.iload_n 3, 1) := by decide +kernel
theorem d_law_817 : decode code 817 = .ok (.bipush 6, 2) := by decide +kernel
theorem d_law_819 : decode code 819 = .ok (.iadd, 1) := by decide +kernel
theorem d_law_820 : decode code 820 = .ok (.iaload, 1) := by decide +kernel
theorem d_law_821 : decode code 821 = .ok (.aload_n 0, 1) := by decide +kernel
theorem d_law_822 : decode code 822 = .ok (.iload_n 3, 1) := by decide +kernel
theorem d_law_823 : decode code 823 = .ok (.bipush 7, 2) := by decide +kernel
theorem d_law_825 : decode code 825 = .ok (.iadd, 1) := by decide +kernel
theorem d_law_826 : decode code 826 = .ok (.iaload, 1) := by decide +kernel
theorem d_law_827 : decode code 827 = .ok (.invokevirtual 90, 3) := by decide +kernel
theorem d_law_830 : decode code 830 = .ok (.aload_n 2, 1) := by decide +kernel
theorem d_law_831 : decode code 831 = .ok (.aload_n 0, 1) := by decide +kernel
theorem d_law_832 : decode code 832 = .ok (.iload_n 3, 1) := by decide +kernel
theorem d_law_833 : decode code 833 = .ok (.iconst 1, 1) := by decide +kernel
theorem d_law_834 : decode code 834 = .ok (.iadd, 1) := by decide +kernel
theorem d_law_835 : decode code 835 = .ok (.iaload, 1) := by decide +kernel
theorem d_law_836 : decode code 836 = .ok (.aload_n 0, 1) := by decide +kernel
theorem d_law_837 : decode code 837 = .ok (.iload_n 3, 1) := by decide +kernel
theorem d_law_838 : decode code 838 = .ok (.iconst 2, 1) := by decide +kernel
theorem d_law_839 : decode code 839 = .ok (.iadd, 1) := by decide +kernel
theorem d_law_840 : decode code 840 = .ok (.iaload, 1) := by decide +kernel
theorem d_law_841 : decode code 841 = .ok (.aload_n 0, 1) := by decide +kernel
theorem d_law_842 : decode code 842 = .ok (.iload_n 3, 1) := by decide +kernel
theorem d_law_843 : decode code 843 = .ok (.iconst 3, 1) := by decide +kernel
theorem d_law_844 : decode code 844 = .ok (.iadd, 1) := by decide +kernel
theorem d_law_845 : decode code 845 = .ok (.iaload, 1) := by decide +kernel
theorem d_law_846 : decode code 846 = .ok (.aload_n 0, 1) := by decide +kernel
theorem d_law_847 : decode code 847 = .ok (.iload_n 3, 1) := by decide +kernel
theorem d_law_848 : decode code 848 = .ok (.iconst 4, 1) := by decide +kernel
theorem d_law_849 : decode code 849 = .ok (.iadd, 1) := by decide +kernel
theorem d_law_850 : decode code 850 = .ok (.iaload, 1) := by decide +kernel
theorem d_law_851 : decode code 851 = .ok (.aload_n 0, 1) := by decide +kernel
theorem d_law_852 : decode code 852 = .ok (.iload_n 3, 1) := by decide +kernel
theorem d_law_853 : decode code 853 = .ok (.iconst 5, 1) := by decide +kernel
theorem d_law_854 : decode code 854 = .ok (.iadd, 1) := by decide +kernel
theorem d_law_855 : decode code 855 = .ok (.iaload, 1) := by decide +kernel
theorem d_law_856 : decode code 856 = .ok (.aload_n 0, 1) := by decide +kernel
theorem d_law_857 : decode code 857 = .ok (.iload_n 3, 1) := by decide +kernel
theorem d_law_858 : decode code 858 = .ok (.bipush 6, 2) := by decide +kernel
theorem d_law_860 : decode code 860 = .ok (.iadd, 1) := by decide +kernel
theorem d_law_861 : decode code 861 = .ok (.iaload, 1) := by decide +kernel
theorem d_law_862 : decode code 862 = .ok (.aload_n 0, 1) := by decide +kernel
theorem d_law_863 : decode code 863 = .ok (.iload_n 3, 1) := by decide +kernel
theorem d_law_864 : decode code 864 = .ok (.bipush 7, 2) := by decide +kernel
theorem d_law_866 : decode code 866 = .ok (.iadd, 1) := by decide +kernel
theorem d_law_867 : decode code 867 = .ok (.iaload, 1) := by decide +kernel
theorem d_law_868 : decode code 868 = .ok (.invokevirtual 94, 3) := by decide +kernel
theorem d_law_871 : decode code 871 = .ok (.if_icmp .eq 177, 3) := by decide +kernel
theorem d_law_874 : decode code 874 = .ok (.iconst 0, 1) := by decide +kernel
theorem d_law_875 : decode code 875 = .ok (.ireturn, 1) := by decide +kernel
theorem d_law_876 : decode code 876 = .ok (.aload_n 1, 1) := by decide +kernel
theorem d_law_877 : decode code 877 = .ok (.aload_n 0, 1) := by decide +kernel
theorem d_law_878 : decode code 878 = .ok (.iload_n 3, 1) := by decide +kernel
theorem d_law_879 : decode code 879 = .ok (.iconst 1, 1) := by decide +kernel
theorem d_law_880 : decode code 880 = .ok (.iadd, 1) := by decide +kernel
theorem d_law_881 : decode code 881 = .ok (.iaload, 1) := by decide +kernel
theorem d_law_882 : decode code 882 = .ok (.aload_n 0, 1) := by decide +kernel
theorem d_law_883 : decode code 883 = .ok (.iload_n 3, 1) := by decide +kernel
theorem d_law_884 : decode code 884 = .ok (.iconst 2, 1) := by decide +kernel
theorem d_law_885 : decode code 885 = .ok (.iadd, 1) := by decide +kernel
theorem d_law_886 : decode code 886 = .ok (.iaload, 1) := by decide +kernel
theorem d_law_887 : decode code 887 = .ok (.aload_n 0, 1) := by decide +kernel
theorem d_law_888 : decode code 888 = .ok (.iload_n 3, 1) := by decide +kernel
theorem d_law_889 : decode code 889 = .ok (.iconst 3, 1) := by decide +kernel
theorem d_law_890 : decode code 890 = .ok (.iadd, 1) := by decide +kernel
theorem d_law_891 : decode code 891 = .ok (.iaload, 1) := by decide +kernel
theorem d_law_892 : decode code 892 = .ok (.invokevirtual 95, 3) := by decide +kernel
theorem d_law_895 : decode code 895 = .ok (.aload_n 2, 1) := by decide +kernel
theorem d_law_896 : decode code 896 = .ok (.aload_n 0, 1) := by decide +kernel
theorem d_law_897 : decode code 897 = .ok (.iload_n 3, 1) := by decide +kernel
theorem d_law_898 : decode code 898 = .ok (.iconst 1, 1) := by decide +kernel
theorem d_law_899 : decode code 899 = .ok (.iadd, 1) := by decide +kernel
theorem d_law_900 : decode code 900 = .ok (.iaload, 1) := by decide +kernel
theorem d_law_901 : decode code 901 = .ok (.aload_n 0, 1) := by decide +kernel
theorem d_law_902 : decode code 902 = .ok (.iload_n 3, 1) := by decide +kernel
theorem d_law_903 : decode code 903 = .ok (.iconst 2, 1) := by decide +kernel
theorem d_law_904 : decode code 904 = .ok (.iadd, 1) := by decide +kernel
theorem d_law_905 : decode code 905 = .ok (.iaload, 1) := by decide +kernel
theorem d_law_906 : decode code 906 = .ok (.aload_n 0, 1) := by decide +kernel
theorem d_law_907 : decode code 907 = .ok (.iload_n 3, 1) := by decide +kernel
theorem d_law_908 : decode code 908 = .ok (.iconst 3, 1) := by decide +kernel
theorem d_law_909 : decode code 909 = .ok (.iadd, 1) := by decide +kernel
theorem d_law_910 : decode code 910 = .ok (.iaload, 1) := by decide +kernel
theorem d_law_911 : decode code 911 = .ok (.invokevirtual 98, 3) := by decide +kernel
theorem d_law_914 : decode code 914 = .ok (.if_icmp .eq 134, 3) := by decide +kernel
theorem d_law_917 : decode code 917 = .ok (.iconst 0, 1) := by decide +kernel
theorem d_law_918 : decode code 918 = .ok (.ireturn, 1) := by decide +kernel
theorem d_law_919 : decode code 919 = .ok (.aload_n 1, 1) := by decide +kernel
theorem d_law_920 : decode code 920 = .ok (.aload_n 0, 1) := by decide +kernel
theorem d_law_921 : decode code 921 = .ok (.iload_n 3, 1) := by decide +kernel
theorem d_law_922 : decode code 922 = .ok (.iconst 1, 1) := by decide +kernel
theorem d_law_923 : decode code 923 = .ok (.iadd, 1) := by decide +kernel
theorem d_law_924 : decode code 924 = .ok (.iaload, 1) := by decide +kernel
theorem d_law_925 : decode code 925 = .ok (.aload_n 0, 1) := by decide +kernel
theorem d_law_926 : decode code 926 = .ok (.iload_n 3, 1) := by decide +kernel
theorem d_law_927 : decode code 927 = .ok (.iconst 2, 1) := by decide +kernel
theorem d_law_928 : decode code 928 = .ok (.iadd, 1) := by decide +kernel
theorem d_law_929 : decode code 929 = .ok (.iaload, 1) := by decide +kernel
theorem d_law_930 : decode code 930 = .ok (.aload_n 0, 1) := by decide +kernel
theorem d_law_931 : decode code 931 = .ok (.iload_n 3, 1) := by decide +kernel
theorem d_law_932 : decode code 932 = .ok (.iconst 3, 1) := by decide +kernel
theorem d_law_933 : decode code 933 = .ok (.iadd, 1) := by decide +kernel
theorem d_law_934 : decode code 934 = .ok (.iaload, 1) := by decide +kernel
theorem d_law_935 : decode code 935 = .ok (.invokevirtual 99, 3) := by decide +kernel
theorem d_law_938 : decode code 938 = .ok (.aload_n 2, 1) := by decide +kernel
theorem d_law_939 : decode code 939 = .ok (.aload_n 0, 1) := by decide +kernel
theorem d_law_940 : decode code 940 = .ok (.iload_n 3, 1) := by decide +kernel
theorem d_law_941 : decode code 941 = .ok (.iconst 1, 1) := by decide +kernel
theorem d_law_942 : decode code 942 = .ok (.iadd, 1) := by decide +kernel
theorem d_law_943 : decode code 943 = .ok (.iaload, 1) := by decide +kernel
theorem d_law_944 : decode code 944 = .ok (.aload_n 0, 1) := by decide +kernel
theorem d_law_945 : decode code 945 = .ok (.iload_n 3, 1) := by decide +kernel
theorem d_law_946 : decode code 946 = .ok (.iconst 2, 1) := by decide +kernel
theorem d_law_947 : decode code 947 = .ok (.iadd, 1) := by decide +kernel
theorem d_law_948 : decode code 948 = .ok (.iaload, 1) := by decide +kernel
theorem d_law_949 : decode code 949 = .ok (.aload_n 0, 1) := by decide +kernel
theorem d_law_950 : decode code 950 = .ok (.iload_n 3, 1) := by decide +kernel
theorem d_law_951 : decode code 951 = .ok (.iconst 3, 1) := by decide +kernel
theorem d_law_952 : decode code 952 = .ok (.iadd, 1) := by decide +kernel
theorem d_law_953 : decode code 953 = .ok (.iaload, 1) := by decide +kernel
theorem d_law_954 : decode code 954 = .ok (.invokevirtual 102, 3) := by decide +kernel
theorem d_law_957 : decode code 957 = .ok (.if_icmp .eq 91, 3) := by decide +kernel
theorem d_law_960 : decode code 960 = .ok (.iconst 0, 1) := by decide +kernel
theorem d_law_961 : decode code 961 = .ok (.ireturn, 1) := by decide +kernel
theorem d_law_962 : decode code 962 = .ok (.aload_n 1, 1) := by decide +kernel
theorem d_law_963 : decode code 963 = .ok (.aload_n 0, 1) := by decide +kernel
theorem d_law_964 : decode code 964 = .ok (.iload_n 3, 1) := by decide +kernel
theorem d_law_965 : decode code 965 = .ok (.iconst 1, 1) := by decide +kernel
theorem d_law_966 : decode code 966 = .ok (.iadd, 1) := by decide +kernel
theorem d_law_967 : decode code 967 = .ok (.iaload, 1) := by decide +kernel
theorem d_law_968 : decode code 968 = .ok (.aload_n 0, 1) := by decide +kernel
theorem d_law_969 : decode code 969 = .ok (.iload_n 3, 1) := by decide +kernel
theorem d_law_970 : decode code 970 = .ok (.iconst 2, 1) := by decide +kernel
theorem d_law_971 : decode code 971 = .ok (.iadd, 1) := by decide +kernel
theorem d_law_972 : decode code 972 = .ok (.iaload, 1) := by decide +kernel
theorem d_law_973 : decode code 973 = .ok (.aload_n 0, 1) := by decide +kernel
theorem d_law_974 : decode code 974 = .ok (.iload_n 3, 1) := by decide +kernel
theorem d_law_975 : decode code 975 = .ok (.iconst 3, 1) := by decide +kernel
theorem d_law_976 : decode code 976 = .ok (.iadd, 1) := by decide +kernel
theorem d_law_977 : decode code 977 = .ok (.iaload, 1) := by decide +kernel
theorem d_law_978 : decode code 978 = .ok (.aload_n 0, 1) := by decide +kernel
theorem d_law_979 : decode code 979 = .ok (.iload_n 3, 1) := by decide +kernel
theorem d_law_980 : decode code 980 = .ok (.iconst 4, 1) := by decide +kernel
theorem d_law_981 : decode code 981 = .ok (.iadd, 1) := by decide +kernel
theorem d_law_982 : decode code 982 = .ok (.iaload, 1) := by decide +kernel
theorem d_law_983 : decode code 983 = .ok (.aload_n 0, 1) := by decide +kernel
theorem d_law_984 : decode code 984 = .ok (.iload_n 3, 1) := by decide +kernel
theorem d_law_985 : decode code 985 = .ok (.iconst 5, 1) := by decide +kernel
theorem d_law_986 : decode code 986 = .ok (.iadd, 1) := by decide +kernel
theorem d_law_987 : decode code 987 = .ok (.iaload, 1) := by decide +kernel
theorem d_law_988 : decode code 988 = .ok (.invokevirtual 103, 3) := by decide +kernel
theorem d_law_991 : decode code 991 = .ok (.aload_n 2, 1) := by decide +kernel
theorem d_law_992 : decode code 992 = .ok (.aload_n 0, 1) := by decide +kernel
theorem d_law_993 : decode code 993 = .ok (.iload_n 3, 1) := by decide +kernel
theorem d_law_994 : decode code 994 = .ok (.iconst 1, 1) := by decide +kernel
theorem d_law_995 : decode code 995 = .ok (.iadd, 1) := by decide +kernel
theorem d_law_996 : decode code 996 = .ok (.iaload, 1) := by decide +kernel
theorem d_law_997 : decode code 997 = .ok (.aload_n 0, 1) := by decide +kernel
theorem d_law_998 : decode code 998 = .ok (.iload_n 3, 1) := by decide +kernel
theorem d_law_999 : decode code 999 = .ok (.iconst 2, 1) := by decide +kernel
theorem d_law_1000 : decode code 1000 = .ok (.iadd, 1) := by decide +kernel
theorem d_law_1001 : decode code 1001 = .ok (.iaload, 1) := by decide +kernel
theorem d_law_1002 : decode code 1002 = .ok (.aload_n 0, 1) := by decide +kernel
theorem d_law_1003 : decode code 1003 = .ok (.iload_n 3, 1) := by decide +kernel
theorem d_law_1004 : decode code 1004 = .ok (.iconst 3, 1) := by decide +kernel
theorem d_law_1005 : decode code 1005 = .ok (.iadd, 1) := by decide +kernel
theorem d_law_1006 : decode code 1006 = .ok (.iaload, 1) := by decide +kernel
theorem d_law_1007 : decode code 1007 = .ok (.aload_n 0, 1) := by decide +kernel
theorem d_law_1008 : decode code 1008 = .ok (.iload_n 3, 1) := by decide +kernel
theorem d_law_1009 : decode code 1009 = .ok (.iconst 4, 1) := by decide +kernel
theorem d_law_1010 : decode code 1010 = .ok (.iadd, 1) := by decide +kernel
theorem d_law_1011 : decode code 1011 = .ok (.iaload, 1) := by decide +kernel
theorem d_law_1012 : decode code 1012 = .ok (.aload_n 0, 1) := by decide +kernel
theorem d_law_1013 : decode code 1013 = .ok (.iload_n 3, 1) := by decide +kernel
theorem d_law_1014 : decode code 1014 = .ok (.iconst 5, 1) := by decide +kernel
theorem d_law_1015 : decode code 1015 = .ok (.iadd, 1) := by decide +kernel
theorem d_law_1016 : decode code 1016 = .ok (.iaload, 1) := by decide +kernel
theorem d_law_1017 : decode code 1017 = .ok (.invokevirtual 107, 3) := by decide +kernel
theorem d_law_1020 : decode code 1020 = .ok (.if_icmp .eq 28, 3) := by decide +kernel
theorem d_law_1023 : decode code 1023 = .ok (.iconst 0, 1) := by decide +kernel
theorem d_law_1024 : decode code 1024 = .ok (.ireturn, 1) := by decide +kernel
theorem d_law_1025 : decode code 1025 = .ok (.aload_n 1, 1) := by decide +kernel
theorem d_law_1026 : decode code 1026 = .ok (.aload_n 0, 1) := by decide +kernel
theorem d_law_1027 : decode code 1027 = .ok (.iload_n 3, 1) := by decide +kernel
theorem d_law_1028 : decode code 1028 = .ok (.iconst 1, 1) := by decide +kernel
theorem d_law_1029 : decode code 1029 = .ok (.iadd, 1) := by decide +kernel
theorem d_law_1030 : decode code 1030 = .ok (.iaload, 1) := by decide +kernel
theorem d_law_1031 : decode code 1031 = .ok (.invokevirtual 108, 3) := by decide +kernel
theorem d_law_1034 : decode code 1034 = .ok (.aload_n 2, 1) := by decide +kernel
theorem d_law_1035 : decode code 1035 = .ok (.aload_n 0, 1) := by decide +kernel
theorem d_law_1036 : decode code 1036 = .ok (.iload_n 3, 1) := by decide +kernel
theorem d_law_1037 : decode code 1037 = .ok (.iconst 1, 1) := by decide +kernel
theorem d_law_1038 : decode code 1038 = .ok (.iadd, 1) := by decide +kernel
theorem d_law_1039 : decode code 1039 = .ok (.iaload, 1) := by decide +kernel
theorem d_law_1040 : decode code 1040 = .ok (.invokevirtual 111, 3) := by decide +kernel
theorem d_law_1043 : decode code 1043 = .ok (.if_icmp .eq 5, 3) := by decide +kernel
theorem d_law_1046 : decode code 1046 = .ok (.iconst 0, 1) := by decide +kernel
theorem d_law_1047 : decode code 1047 = .ok (.ireturn, 1) := by decide +kernel
theorem d_law_1048 : decode code 1048 = .ok (.iinc 3 9, 3) := by decide +kernel
theorem d_law_1051 : decode code 1051 = .ok (.goto (-1033), 3) := by decide +kernel
theorem d_law_1054 : decode code 1054 = .ok (.iconst 1, 1) := by decide +kernel
theorem d_law_1055 : decode code 1055 = .ok (.ireturn, 1) := by decide +kernel
