abbrev bLw : ByteArray := code
theorem dLw_0 : decode bLw 0 = .ok (.new 8, 3) := by decide +kernel
theorem dLw_3 : decode bLw 3 = .ok (.dup, 1) := by decide +kernel
theorem dLw_4 : decode bLw 4 = .ok (.invokespecial 15, 3) := by decide +kernel
theorem dLw_7 : decode bLw 7 = .ok (.astore_n 1, 1) := by decide +kernel
theorem dLw_8 : decode bLw 8 = .ok (.new 16, 3) := by decide +kernel
theorem dLw_11 : decode bLw 11 = .ok (.dup, 1) := by decide +kernel
theorem dLw_12 : decode bLw 12 = .ok (.invokespecial 18, 3) := by decide +kernel
theorem dLw_15 : decode bLw 15 = .ok (.astore_n 2, 1) := by decide +kernel
theorem dLw_16 : decode bLw 16 = .ok (.iconst 1, 1) := by decide +kernel
theorem dLw_17 : decode bLw 17 = .ok (.newarray .long, 2) := by decide +kernel
theorem dLw_19 : decode bLw 19 = .ok (.astore_n 3, 1) := by decide +kernel
theorem dLw_20 : decode bLw 20 = .ok (.iconst 0, 1) := by decide +kernel
theorem dLw_21 : decode bLw 21 = .ok (.istore 4, 2) := by decide +kernel
theorem dLw_23 : decode bLw 23 = .ok (.iload 4, 2) := by decide +kernel
theorem dLw_25 : decode bLw 25 = .ok (.aload_n 0, 1) := by decide +kernel
theorem dLw_26 : decode bLw 26 = .ok (.arraylength, 1) := by decide +kernel
theorem dLw_27 : decode bLw 27 = .ok (.bipush 7, 2) := by decide +kernel
theorem dLw_29 : decode bLw 29 = .ok (.isub, 1) := by decide +kernel
theorem dLw_30 : decode bLw 30 = .ok (.if_icmp .gt 1102, 3) := by decide +kernel
theorem dLw_33 : decode bLw 33 = .ok (.aload_n 0, 1) := by decide +kernel
theorem dLw_34 : decode bLw 34 = .ok (.iload 4, 2) := by decide +kernel
theorem dLw_36 : decode bLw 36 = .ok (.iaload, 1) := by decide +kernel
theorem dLw_37 : decode bLw 37 = .ok (.bipush 31, 2) := by decide +kernel
theorem dLw_39 : decode bLw 39 = .ok (.iand, 1) := by decide +kernel
theorem dLw_40 : decode bLw 40 = .ok (.tableswitch 1086 0 28 #[132, 205, 230, 243, 256, 305, 358, 383, 420, 445, 506, 567, 580, 593, 630, 655, 728, 741, 766, 791, 816, 841, 894, 907, 920, 933, 1020, 1048, 1073], 132) := by decide +kernel
theorem dLw_172 : decode bLw 172 = .ok (.aload_n 1, 1) := by decide +kernel
theorem dLw_173 : decode bLw 173 = .ok (.aload_n 0, 1) := by decide +kernel
theorem dLw_174 : decode bLw 174 = .ok (.iload 4, 2) := by decide +kernel
theorem dLw_176 : decode bLw 176 = .ok (.iconst 1, 1) := by decide +kernel
theorem dLw_177 : decode bLw 177 = .ok (.iadd, 1) := by decide +kernel
theorem dLw_178 : decode bLw 178 = .ok (.iaload, 1) := by decide +kernel
theorem dLw_179 : decode bLw 179 = .ok (.aload_n 0, 1) := by decide +kernel
theorem dLw_180 : decode bLw 180 = .ok (.iload 4, 2) := by decide +kernel
theorem dLw_182 : decode bLw 182 = .ok (.iconst 2, 1) := by decide +kernel
theorem dLw_183 : decode bLw 183 = .ok (.iadd, 1) := by decide +kernel
theorem dLw_184 : decode bLw 184 = .ok (.iaload, 1) := by decide +kernel
theorem dLw_185 : decode bLw 185 = .ok (.aload_n 0, 1) := by decide +kernel
theorem dLw_186 : decode bLw 186 = .ok (.iload 4, 2) := by decide +kernel
theorem dLw_188 : decode bLw 188 = .ok (.iconst 3, 1) := by decide +kernel
theorem dLw_189 : decode bLw 189 = .ok (.iadd, 1) := by decide +kernel
theorem dLw_190 : decode bLw 190 = .ok (.iaload, 1) := by decide +kernel
theorem dLw_191 : decode bLw 191 = .ok (.aload_n 0, 1) := by decide +kernel
theorem dLw_192 : decode bLw 192 = .ok (.iload 4, 2) := by decide +kernel
theorem dLw_194 : decode bLw 194 = .ok (.iconst 4, 1) := by decide +kernel
theorem dLw_195 : decode bLw 195 = .ok (.iadd, 1) := by decide +kernel
theorem dLw_196 : decode bLw 196 = .ok (.iaload, 1) := by decide +kernel
theorem dLw_197 : decode bLw 197 = .ok (.aload_n 0, 1) := by decide +kernel
theorem dLw_198 : decode bLw 198 = .ok (.iload 4, 2) := by decide +kernel
theorem dLw_200 : decode bLw 200 = .ok (.iconst 5, 1) := by decide +kernel
theorem dLw_201 : decode bLw 201 = .ok (.iadd, 1) := by decide +kernel
theorem dLw_202 : decode bLw 202 = .ok (.iaload, 1) := by decide +kernel
theorem dLw_203 : decode bLw 203 = .ok (.invokevirtual 19, 3) := by decide +kernel
theorem dLw_206 : decode bLw 206 = .ok (.pop, 1) := by decide +kernel
theorem dLw_207 : decode bLw 207 = .ok (.aload_n 2, 1) := by decide +kernel
theorem dLw_208 : decode bLw 208 = .ok (.aload_n 0, 1) := by decide +kernel
theorem dLw_209 : decode bLw 209 = .ok (.iload 4, 2) := by decide +kernel
theorem dLw_211 : decode bLw 211 = .ok (.iconst 1, 1) := by decide +kernel
theorem dLw_212 : decode bLw 212 = .ok (.iadd, 1) := by decide +kernel
theorem dLw_213 : decode bLw 213 = .ok (.iaload, 1) := by decide +kernel
theorem dLw_214 : decode bLw 214 = .ok (.aload_n 0, 1) := by decide +kernel
theorem dLw_215 : decode bLw 215 = .ok (.iload 4, 2) := by decide +kernel
theorem dLw_217 : decode bLw 217 = .ok (.iconst 2, 1) := by decide +kernel
theorem dLw_218 : decode bLw 218 = .ok (.iadd, 1) := by decide +kernel
theorem dLw_219 : decode bLw 219 = .ok (.iaload, 1) := by decide +kernel
theorem dLw_220 : decode bLw 220 = .ok (.aload_n 0, 1) := by decide +kernel
theorem dLw_221 : decode bLw 221 = .ok (.iload 4, 2) := by decide +kernel
theorem dLw_223 : decode bLw 223 = .ok (.iconst 3, 1) := by decide +kernel
theorem dLw_224 : decode bLw 224 = .ok (.iadd, 1) := by decide +kernel
theorem dLw_225 : decode bLw 225 = .ok (.iaload, 1) := by decide +kernel
theorem dLw_226 : decode bLw 226 = .ok (.aload_n 0, 1) := by decide +kernel
theorem dLw_227 : decode bLw 227 = .ok (.iload 4, 2) := by decide +kernel
theorem dLw_229 : decode bLw 229 = .ok (.iconst 4, 1) := by decide +kernel
theorem dLw_230 : decode bLw 230 = .ok (.iadd, 1) := by decide +kernel
theorem dLw_231 : decode bLw 231 = .ok (.iaload, 1) := by decide +kernel
theorem dLw_232 : decode bLw 232 = .ok (.aload_n 0, 1) := by decide +kernel
theorem dLw_233 : decode bLw 233 = .ok (.iload 4, 2) := by decide +kernel
theorem dLw_235 : decode bLw 235 = .ok (.iconst 5, 1) := by decide +kernel
theorem dLw_236 : decode bLw 236 = .ok (.iadd, 1) := by decide +kernel
theorem dLw_237 : decode bLw 237 = .ok (.iaload, 1) := by decide +kernel
theorem dLw_238 : decode bLw 238 = .ok (.invokevirtual 23, 3) := by decide +kernel
theorem dLw_241 : decode bLw 241 = .ok (.pop, 1) := by decide +kernel
theorem dLw_242 : decode bLw 242 = .ok (.goto 884, 3) := by decide +kernel
theorem dLw_245 : decode bLw 245 = .ok (.aload_n 1, 1) := by decide +kernel
theorem dLw_246 : decode bLw 246 = .ok (.aload_n 0, 1) := by decide +kernel
theorem dLw_247 : decode bLw 247 = .ok (.iload 4, 2) := by decide +kernel
theorem dLw_249 : decode bLw 249 = .ok (.iconst 1, 1) := by decide +kernel
theorem dLw_250 : decode bLw 250 = .ok (.iadd, 1) := by decide +kernel
theorem dLw_251 : decode bLw 251 = .ok (.iaload, 1) := by decide +kernel
theorem dLw_252 : decode bLw 252 = .ok (.invokevirtual 24, 3) := by decide +kernel
theorem dLw_255 : decode bLw 255 = .ok (.pop, 1) := by decide +kernel
theorem dLw_256 : decode bLw 256 = .ok (.aload_n 2, 1) := by decide +kernel
theorem dLw_257 : decode bLw 257 = .ok (.aload_n 0, 1) := by decide +kernel
theorem dLw_258 : decode bLw 258 = .ok (.iload 4, 2) := by decide +kernel
theorem dLw_260 : decode bLw 260 = .ok (.iconst 1, 1) := by decide +kernel
theorem dLw_261 : decode bLw 261 = .ok (.iadd, 1) := by decide +kernel
theorem dLw_262 : decode bLw 262 = .ok (.iaload, 1) := by decide +kernel
theorem dLw_263 : decode bLw 263 = .ok (.invokevirtual 27, 3) := by decide +kernel
theorem dLw_266 : decode bLw 266 = .ok (.pop, 1) := by decide +kernel
theorem dLw_267 : decode bLw 267 = .ok (.goto 859, 3) := by decide +kernel
theorem dLw_270 : decode bLw 270 = .ok (.aload_n 1, 1) := by decide +kernel
theorem dLw_271 : decode bLw 271 = .ok (.invokevirtual 28, 3) := by decide +kernel
theorem dLw_274 : decode bLw 274 = .ok (.pop, 1) := by decide +kernel
theorem dLw_275 : decode bLw 275 = .ok (.aload_n 2, 1) := by decide +kernel
theorem dLw_276 : decode bLw 276 = .ok (.invokevirtual 32, 3) := by decide +kernel
theorem dLw_279 : decode bLw 279 = .ok (.pop, 1) := by decide +kernel
theorem dLw_280 : decode bLw 280 = .ok (.goto 846, 3) := by decide +kernel
theorem dLw_283 : decode bLw 283 = .ok (.aload_n 1, 1) := by decide +kernel
theorem dLw_284 : decode bLw 284 = .ok (.invokevirtual 33, 3) := by decide +kernel
theorem dLw_287 : decode bLw 287 = .ok (.pop, 1) := by decide +kernel
theorem dLw_288 : decode bLw 288 = .ok (.aload_n 2, 1) := by decide +kernel
theorem dLw_289 : decode bLw 289 = .ok (.invokevirtual 36, 3) := by decide +kernel
theorem dLw_292 : decode bLw 292 = .ok (.pop, 1) := by decide +kernel
theorem dLw_293 : decode bLw 293 = .ok (.goto 833, 3) := by decide +kernel
theorem dLw_296 : decode bLw 296 = .ok (.aload_n 1, 1) := by decide +kernel
theorem dLw_297 : decode bLw 297 = .ok (.aload_n 0, 1) := by decide +kernel
theorem dLw_298 : decode bLw 298 = .ok (.iload 4, 2) := by decide +kernel
theorem dLw_300 : decode bLw 300 = .ok (.iconst 1, 1) := by decide +kernel
theorem dLw_301 : decode bLw 301 = .ok (.iadd, 1) := by decide +kernel
theorem dLw_302 : decode bLw 302 = .ok (.iaload, 1) := by decide +kernel
theorem dLw_303 : decode bLw 303 = .ok (.aload_n 0, 1) := by decide +kernel
theorem dLw_304 : decode bLw 304 = .ok (.iload 4, 2) := by decide +kernel
theorem dLw_306 : decode bLw 306 = .ok (.iconst 2, 1) := by decide +kernel
theorem dLw_307 : decode bLw 307 = .ok (.iadd, 1) := by decide +kernel
theorem dLw_308 : decode bLw 308 = .ok (.iaload, 1) := by decide +kernel
theorem dLw_309 : decode bLw 309 = .ok (.aload_n 0, 1) := by decide +kernel
theorem dLw_310 : decode bLw 310 = .ok (.iload 4, 2) := by decide +kernel
theorem dLw_312 : decode bLw 312 = .ok (.iconst 3, 1) := by decide +kernel
theorem dLw_313 : decode bLw 313 = .ok (.iadd, 1) := by decide +kernel
theorem dLw_314 : decode bLw 314 = .ok (.iaload, 1) := by decide +kernel
theorem dLw_315 : decode bLw 315 = .ok (.invokevirtual 37, 3) := by decide +kernel
theorem dLw_318 : decode bLw 318 = .ok (.pop, 1) := by decide +kernel
theorem dLw_319 : decode bLw 319 = .ok (.aload_n 2, 1) := by decide +kernel
theorem dLw_320 : decode bLw 320 = .ok (.aload_n 0, 1) := by decide +kernel
theorem dLw_321 : decode bLw 321 = .ok (.iload 4, 2) := by decide +kernel
theorem dLw_323 : decode bLw 323 = .ok (.iconst 1, 1) := by decide +kernel
theorem dLw_324 : decode bLw 324 = .ok (.iadd, 1) := by decide +kernel
theorem dLw_325 : decode bLw 325 = .ok (.iaload, 1) := by decide +kernel
theorem dLw_326 : decode bLw 326 = .ok (.aload_n 0, 1) := by decide +kernel
theorem dLw_327 : decode bLw 327 = .ok (.iload 4, 2) := by decide +kernel
theorem dLw_329 : decode bLw 329 = .ok (.iconst 2, 1) := by decide +kernel
theorem dLw_330 : decode bLw 330 = .ok (.iadd, 1) := by decide +kernel
theorem dLw_331 : decode bLw 331 = .ok (.iaload, 1) := by decide +kernel
theorem dLw_332 : decode bLw 332 = .ok (.aload_n 0, 1) := by decide +kernel
theorem dLw_333 : decode bLw 333 = .ok (.iload 4, 2) := by decide +kernel
theorem dLw_335 : decode bLw 335 = .ok (.iconst 3, 1) := by decide +kernel
theorem dLw_336 : decode bLw 336 = .ok (.iadd, 1) := by decide +kernel
theorem dLw_337 : decode bLw 337 = .ok (.iaload, 1) := by decide +kernel
theorem dLw_338 : decode bLw 338 = .ok (.invokevirtual 41, 3) := by decide +kernel
theorem dLw_341 : decode bLw 341 = .ok (.pop, 1) := by decide +kernel
theorem dLw_342 : decode bLw 342 = .ok (.goto 784, 3) := by decide +kernel
theorem dLw_345 : decode bLw 345 = .ok (.aload_n 1, 1) := by decide +kernel
theorem dLw_346 : decode bLw 346 = .ok (.aload_n 0, 1) := by decide +kernel
theorem dLw_347 : decode bLw 347 = .ok (.iload 4, 2) := by decide +kernel
theorem dLw_349 : decode bLw 349 = .ok (.iconst 1, 1) := by decide +kernel
theorem dLw_350 : decode bLw 350 = .ok (.iadd, 1) := by decide +kernel
theorem dLw_351 : decode bLw 351 = .ok (.iaload, 1) := by decide +kernel
theorem dLw_352 : decode bLw 352 = .ok (.aload_n 0, 1) := by decide +kernel
theorem dLw_353 : decode bLw 353 = .ok (.iload 4, 2) := by decide +kernel
theorem dLw_355 : decode bLw 355 = .ok (.iconst 2, 1) := by decide +kernel
theorem dLw_356 : decode bLw 356 = .ok (.iadd, 1) := by decide +kernel
theorem dLw_357 : decode bLw 357 = .ok (.iaload, 1) := by decide +kernel
theorem dLw_358 : decode bLw 358 = .ok (.ifCond .eq 7, 3) := by decide +kernel
theorem dLw_361 : decode bLw 361 = .ok (.iconst 1, 1) := by decide +kernel
theorem dLw_362 : decode bLw 362 = .ok (.goto 4, 3) := by decide +kernel
theorem dLw_365 : decode bLw 365 = .ok (.iconst 0, 1) := by decide +kernel
theorem dLw_366 : decode bLw 366 = .ok (.invokevirtual 42, 3) := by decide +kernel
theorem dLw_369 : decode bLw 369 = .ok (.pop, 1) := by decide +kernel
theorem dLw_370 : decode bLw 370 = .ok (.aload_n 2, 1) := by decide +kernel
theorem dLw_371 : decode bLw 371 = .ok (.aload_n 0, 1) := by decide +kernel
theorem dLw_372 : decode bLw 372 = .ok (.iload 4, 2) := by decide +kernel
theorem dLw_374 : decode bLw 374 = .ok (.iconst 1, 1) := by decide +kernel
theorem dLw_375 : decode bLw 375 = .ok (.iadd, 1) := by decide +kernel
theorem dLw_376 : decode bLw 376 = .ok (.iaload, 1) := by decide +kernel
theorem dLw_377 : decode bLw 377 = .ok (.aload_n 0, 1) := by decide +kernel
theorem dLw_378 : decode bLw 378 = .ok (.iload 4, 2) := by decide +kernel
theorem dLw_380 : decode bLw 380 = .ok (.iconst 2, 1) := by decide +kernel
theorem dLw_381 : decode bLw 381 = .ok (.iadd, 1) := by decide +kernel
theorem dLw_382 : decode bLw 382 = .ok (.iaload, 1) := by decide +kernel
theorem dLw_383 : decode bLw 383 = .ok (.ifCond .eq 7, 3) := by decide +kernel
theorem dLw_386 : decode bLw 386 = .ok (.iconst 1, 1) := by decide +kernel
theorem dLw_387 : decode bLw 387 = .ok (.goto 4, 3) := by decide +kernel
theorem dLw_390 : decode bLw 390 = .ok (.iconst 0, 1) := by decide +kernel
theorem dLw_391 : decode bLw 391 = .ok (.invokevirtual 46, 3) := by decide +kernel
theorem dLw_394 : decode bLw 394 = .ok (.pop, 1) := by decide +kernel
theorem dLw_395 : decode bLw 395 = .ok (.goto 731, 3) := by decide +kernel
theorem dLw_398 : decode bLw 398 = .ok (.aload_n 1, 1) := by decide +kernel
theorem dLw_399 : decode bLw 399 = .ok (.aload_n 0, 1) := by decide +kernel
theorem dLw_400 : decode bLw 400 = .ok (.iload 4, 2) := by decide +kernel
theorem dLw_402 : decode bLw 402 = .ok (.iconst 1, 1) := by decide +kernel
theorem dLw_403 : decode bLw 403 = .ok (.iadd, 1) := by decide +kernel
theorem dLw_404 : decode bLw 404 = .ok (.iaload, 1) := by decide +kernel
theorem dLw_405 : decode bLw 405 = .ok (.invokevirtual 47, 3) := by decide +kernel
theorem dLw_408 : decode bLw 408 = .ok (.pop, 1) := by decide +kernel
theorem dLw_409 : decode bLw 409 = .ok (.aload_n 2, 1) := by decide +kernel
theorem dLw_410 : decode bLw 410 = .ok (.aload_n 0, 1) := by decide +kernel
theorem dLw_411 : decode bLw 411 = .ok (.iload 4, 2) := by decide +kernel
theorem dLw_413 : decode bLw 413 = .ok (.iconst 1, 1) := by decide +kernel
theorem dLw_414 : decode bLw 414 = .ok (.iadd, 1) := by decide +kernel
theorem dLw_415 : decode bLw 415 = .ok (.iaload, 1) := by decide +kernel
theorem dLw_416 : decode bLw 416 = .ok (.invokevirtual 50, 3) := by decide +kernel
theorem dLw_419 : decode bLw 419 = .ok (.pop, 1) := by decide +kernel
theorem dLw_420 : decode bLw 420 = .ok (.goto 706, 3) := by decide +kernel
theorem dLw_423 : decode bLw 423 = .ok (.aload_n 1, 1) := by decide +kernel
theorem dLw_424 : decode bLw 424 = .ok (.aload_n 0, 1) := by decide +kernel
theorem dLw_425 : decode bLw 425 = .ok (.iload 4, 2) := by decide +kernel
theorem dLw_427 : decode bLw 427 = .ok (.iconst 1, 1) := by decide +kernel
theorem dLw_428 : decode bLw 428 = .ok (.iadd, 1) := by decide +kernel
theorem dLw_429 : decode bLw 429 = .ok (.iaload, 1) := by decide +kernel
theorem dLw_430 : decode bLw 430 = .ok (.aload_n 0, 1) := by decide +kernel
theorem dLw_431 : decode bLw 431 = .ok (.iload 4, 2) := by decide +kernel
theorem dLw_433 : decode bLw 433 = .ok (.iconst 2, 1) := by decide +kernel
theorem dLw_434 : decode bLw 434 = .ok (.iadd, 1) := by decide +kernel
theorem dLw_435 : decode bLw 435 = .ok (.iaload, 1) := by decide +kernel
theorem dLw_436 : decode bLw 436 = .ok (.invokevirtual 51, 3) := by decide +kernel
theorem dLw_439 : decode bLw 439 = .ok (.pop, 1) := by decide +kernel
theorem dLw_440 : decode bLw 440 = .ok (.aload_n 2, 1) := by decide +kernel
theorem dLw_441 : decode bLw 441 = .ok (.aload_n 0, 1) := by decide +kernel
theorem dLw_442 : decode bLw 442 = .ok (.iload 4, 2) := by decide +kernel
theorem dLw_444 : decode bLw 444 = .ok (.iconst 1, 1) := by decide +kernel
theorem dLw_445 : decode bLw 445 = .ok (.iadd, 1) := by decide +kernel
theorem dLw_446 : decode bLw 446 = .ok (.iaload, 1) := by decide +kernel
theorem dLw_447 : decode bLw 447 = .ok (.aload_n 0, 1) := by decide +kernel
theorem dLw_448 : decode bLw 448 = .ok (.iload 4, 2) := by decide +kernel
theorem dLw_450 : decode bLw 450 = .ok (.iconst 2, 1) := by decide +kernel
theorem dLw_451 : decode bLw 451 = .ok (.iadd, 1) := by decide +kernel
theorem dLw_452 : decode bLw 452 = .ok (.iaload, 1) := by decide +kernel
theorem dLw_453 : decode bLw 453 = .ok (.invokevirtual 55, 3) := by decide +kernel
theorem dLw_456 : decode bLw 456 = .ok (.pop, 1) := by decide +kernel
theorem dLw_457 : decode bLw 457 = .ok (.goto 669, 3) := by decide +kernel
theorem dLw_460 : decode bLw 460 = .ok (.aload_n 1, 1) := by decide +kernel
theorem dLw_461 : decode bLw 461 = .ok (.aload_n 0, 1) := by decide +kernel
theorem dLw_462 : decode bLw 462 = .ok (.iload 4, 2) := by decide +kernel
theorem dLw_464 : decode bLw 464 = .ok (.iconst 1, 1) := by decide +kernel
theorem dLw_465 : decode bLw 465 = .ok (.iadd, 1) := by decide +kernel
theorem dLw_466 : decode bLw 466 = .ok (.iaload, 1) := by decide +kernel
theorem dLw_467 : decode bLw 467 = .ok (.invokevirtual 56, 3) := by decide +kernel
theorem dLw_470 : decode bLw 470 = .ok (.pop, 1) := by decide +kernel
theorem dLw_471 : decode bLw 471 = .ok (.aload_n 2, 1) := by decide +kernel
theorem dLw_472 : decode bLw 472 = .ok (.aload_n 0, 1) := by decide +kernel
theorem dLw_473 : decode bLw 473 = .ok (.iload 4, 2) := by decide +kernel
theorem dLw_475 : decode bLw 475 = .ok (.iconst 1, 1) := by decide +kernel
theorem dLw_476 : decode bLw 476 = .ok (.iadd, 1) := by decide +kernel
theorem dLw_477 : decode bLw 477 = .ok (.iaload, 1) := by decide +kernel
theorem dLw_478 : decode bLw 478 = .ok (.invokevirtual 59, 3) := by decide +kernel
theorem dLw_481 : decode bLw 481 = .ok (.pop, 1) := by decide +kernel
theorem dLw_482 : decode bLw 482 = .ok (.goto 644, 3) := by decide +kernel
theorem dLw_485 : decode bLw 485 = .ok (.aload_n 1, 1) := by decide +kernel
theorem dLw_486 : decode bLw 486 = .ok (.aload_n 0, 1) := by decide +kernel
theorem dLw_487 : decode bLw 487 = .ok (.iload 4, 2) := by decide +kernel
theorem dLw_489 : decode bLw 489 = .ok (.iconst 1, 1) := by decide +kernel
theorem dLw_490 : decode bLw 490 = .ok (.iadd, 1) := by decide +kernel
theorem dLw_491 : decode bLw 491 = .ok (.iaload, 1) := by decide +kernel
theorem dLw_492 : decode bLw 492 = .ok (.aload_n 0, 1) := by decide +kernel
theorem dLw_493 : decode bLw 493 = .ok (.iload 4, 2) := by decide +kernel
theorem dLw_495 : decode bLw 495 = .ok (.iconst 2, 1) := by decide +kernel
theorem dLw_496 : decode bLw 496 = .ok (.iadd, 1) := by decide +kernel
theorem dLw_497 : decode bLw 497 = .ok (.iaload, 1) := by decide +kernel
theorem dLw_498 : decode bLw 498 = .ok (.aload_n 0, 1) := by decide +kernel
theorem dLw_499 : decode bLw 499 = .ok (.iload 4, 2) := by decide +kernel
theorem dLw_501 : decode bLw 501 = .ok (.iconst 3, 1) := by decide +kernel
theorem dLw_502 : decode bLw 502 = .ok (.iadd, 1) := by decide +kernel
theorem dLw_503 : decode bLw 503 = .ok (.iaload, 1) := by decide +kernel
theorem dLw_504 : decode bLw 504 = .ok (.aload_n 0, 1) := by decide +kernel
theorem dLw_505 : decode bLw 505 = .ok (.iload 4, 2) := by decide +kernel
theorem dLw_507 : decode bLw 507 = .ok (.iconst 4, 1) := by decide +kernel
theorem dLw_508 : decode bLw 508 = .ok (.iadd, 1) := by decide +kernel
theorem dLw_509 : decode bLw 509 = .ok (.iaload, 1) := by decide +kernel
theorem dLw_510 : decode bLw 510 = .ok (.invokevirtual 60, 3) := by decide +kernel
theorem dLw_513 : decode bLw 513 = .ok (.pop, 1) := by decide +kernel
theorem dLw_514 : decode bLw 514 = .ok (.aload_n 2, 1) := by decide +kernel
theorem dLw_515 : decode bLw 515 = .ok (.aload_n 0, 1) := by decide +kernel
theorem dLw_516 : decode bLw 516 = .ok (.iload 4, 2) := by decide +kernel
theorem dLw_518 : decode bLw 518 = .ok (.iconst 1, 1) := by decide +kernel
theorem dLw_519 : decode bLw 519 = .ok (.iadd, 1) := by decide +kernel
theorem dLw_520 : decode bLw 520 = .ok (.iaload, 1) := by decide +kernel
theorem dLw_521 : decode bLw 521 = .ok (.aload_n 0, 1) := by decide +kernel
theorem dLw_522 : decode bLw 522 = .ok (.iload 4, 2) := by decide +kernel
theorem dLw_524 : decode bLw 524 = .ok (.iconst 2, 1) := by decide +kernel
theorem dLw_525 : decode bLw 525 = .ok (.iadd, 1) := by decide +kernel
theorem dLw_526 : decode bLw 526 = .ok (.iaload, 1) := by decide +kernel
theorem dLw_527 : decode bLw 527 = .ok (.aload_n 0, 1) := by decide +kernel
theorem dLw_528 : decode bLw 528 = .ok (.iload 4, 2) := by decide +kernel
theorem dLw_530 : decode bLw 530 = .ok (.iconst 3, 1) := by decide +kernel
theorem dLw_531 : decode bLw 531 = .ok (.iadd, 1) := by decide +kernel
theorem dLw_532 : decode bLw 532 = .ok (.iaload, 1) := by decide +kernel
theorem dLw_533 : decode bLw 533 = .ok (.aload_n 0, 1) := by decide +kernel
theorem dLw_534 : decode bLw 534 = .ok (.iload 4, 2) := by decide +kernel
theorem dLw_536 : decode bLw 536 = .ok (.iconst 4, 1) := by decide +kernel
theorem dLw_537 : decode bLw 537 = .ok (.iadd, 1) := by decide +kernel
theorem dLw_538 : decode bLw 538 = .ok (.iaload, 1) := by decide +kernel
theorem dLw_539 : decode bLw 539 = .ok (.invokevirtual 64, 3) := by decide +kernel
theorem dLw_542 : decode bLw 542 = .ok (.pop, 1) := by decide +kernel
theorem dLw_543 : decode bLw 543 = .ok (.goto 583, 3) := by decide +kernel
theorem dLw_546 : decode bLw 546 = .ok (.aload_n 1, 1) := by decide +kernel
theorem dLw_547 : decode bLw 547 = .ok (.aload_n 0, 1) := by decide +kernel
theorem dLw_548 : decode bLw 548 = .ok (.iload 4, 2) := by decide +kernel
theorem dLw_550 : decode bLw 550 = .ok (.iconst 1, 1) := by decide +kernel
theorem dLw_551 : decode bLw 551 = .ok (.iadd, 1) := by decide +kernel
theorem dLw_552 : decode bLw 552 = .ok (.iaload, 1) := by decide +kernel
theorem dLw_553 : decode bLw 553 = .ok (.aload_n 0, 1) := by decide +kernel
theorem dLw_554 : decode bLw 554 = .ok (.iload 4, 2) := by decide +kernel
theorem dLw_556 : decode bLw 556 = .ok (.iconst 2, 1) := by decide +kernel
theorem dLw_557 : decode bLw 557 = .ok (.iadd, 1) := by decide +kernel
theorem dLw_558 : decode bLw 558 = .ok (.iaload, 1) := by decide +kernel
theorem dLw_559 : decode bLw 559 = .ok (.aload_n 0, 1) := by decide +kernel
theorem dLw_560 : decode bLw 560 = .ok (.iload 4, 2) := by decide +kernel
theorem dLw_562 : decode bLw 562 = .ok (.iconst 3, 1) := by decide +kernel
theorem dLw_563 : decode bLw 563 = .ok (.iadd, 1) := by decide +kernel
theorem dLw_564 : decode bLw 564 = .ok (.iaload, 1) := by decide +kernel
theorem dLw_565 : decode bLw 565 = .ok (.aload_n 0, 1) := by decide +kernel
theorem dLw_566 : decode bLw 566 = .ok (.iload 4, 2) := by decide +kernel
theorem dLw_568 : decode bLw 568 = .ok (.iconst 4, 1) := by decide +kernel
theorem dLw_569 : decode bLw 569 = .ok (.iadd, 1) := by decide +kernel
theorem dLw_570 : decode bLw 570 = .ok (.iaload, 1) := by decide +kernel
theorem dLw_571 : decode bLw 571 = .ok (.invokevirtual 65, 3) := by decide +kernel
theorem dLw_574 : decode bLw 574 = .ok (.pop, 1) := by decide +kernel
theorem dLw_575 : decode bLw 575 = .ok (.aload_n 2, 1) := by decide +kernel
theorem dLw_576 : decode bLw 576 = .ok (.aload_n 0, 1) := by decide +kernel
theorem dLw_577 : decode bLw 577 = .ok (.iload 4, 2) := by decide +kernel
theorem dLw_579 : decode bLw 579 = .ok (.iconst 1, 1) := by decide +kernel
theorem dLw_580 : decode bLw 580 = .ok (.iadd, 1) := by decide +kernel
theorem dLw_581 : decode bLw 581 = .ok (.iaload, 1) := by decide +kernel
theorem dLw_582 : decode bLw 582 = .ok (.aload_n 0, 1) := by decide +kernel
theorem dLw_583 : decode bLw 583 = .ok (.iload 4, 2) := by decide +kernel
theorem dLw_585 : decode bLw 585 = .ok (.iconst 2, 1) := by decide +kernel
theorem dLw_586 : decode bLw 586 = .ok (.iadd, 1) := by decide +kernel
theorem dLw_587 : decode bLw 587 = .ok (.iaload, 1) := by decide +kernel
theorem dLw_588 : decode bLw 588 = .ok (.aload_n 0, 1) := by decide +kernel
theorem dLw_589 : decode bLw 589 = .ok (.iload 4, 2) := by decide +kernel
theorem dLw_591 : decode bLw 591 = .ok (.iconst 3, 1) := by decide +kernel
theorem dLw_592 : decode bLw 592 = .ok (.iadd, 1) := by decide +kernel
theorem dLw_593 : decode bLw 593 = .ok (.iaload, 1) := by decide +kernel
theorem dLw_594 : decode bLw 594 = .ok (.aload_n 0, 1) := by decide +kernel
theorem dLw_595 : decode bLw 595 = .ok (.iload 4, 2) := by decide +kernel
theorem dLw_597 : decode bLw 597 = .ok (.iconst 4, 1) := by decide +kernel
theorem dLw_598 : decode bLw 598 = .ok (.iadd, 1) := by decide +kernel
theorem dLw_599 : decode bLw 599 = .ok (.iaload, 1) := by decide +kernel
theorem dLw_600 : decode bLw 600 = .ok (.invokevirtual 69, 3) := by decide +kernel
theorem dLw_603 : decode bLw 603 = .ok (.pop, 1) := by decide +kernel
theorem dLw_604 : decode bLw 604 = .ok (.goto 522, 3) := by decide +kernel
theorem dLw_607 : decode bLw 607 = .ok (.aload_n 1, 1) := by decide +kernel
theorem dLw_608 : decode bLw 608 = .ok (.invokevirtual 70, 3) := by decide +kernel
theorem dLw_611 : decode bLw 611 = .ok (.pop, 1) := by decide +kernel
theorem dLw_612 : decode bLw 612 = .ok (.aload_n 2, 1) := by decide +kernel
theorem dLw_613 : decode bLw 613 = .ok (.invokevirtual 73, 3) := by decide +kernel
theorem dLw_616 : decode bLw 616 = .ok (.pop, 1) := by decide +kernel
theorem dLw_617 : decode bLw 617 = .ok (.goto 509, 3) := by decide +kernel
theorem dLw_620 : decode bLw 620 = .ok (.aload_n 1, 1) := by decide +kernel
theorem dLw_621 : decode bLw 621 = .ok (.invokevirtual 74, 3) := by decide +kernel
theorem dLw_624 : decode bLw 624 = .ok (.pop, 1) := by decide +kernel
theorem dLw_625 : decode bLw 625 = .ok (.aload_n 2, 1) := by decide +kernel
theorem dLw_626 : decode bLw 626 = .ok (.invokevirtual 77, 3) := by decide +kernel
theorem dLw_629 : decode bLw 629 = .ok (.pop, 1) := by decide +kernel
theorem dLw_630 : decode bLw 630 = .ok (.goto 496, 3) := by decide +kernel
theorem dLw_633 : decode bLw 633 = .ok (.aload_n 1, 1) := by decide +kernel
theorem dLw_634 : decode bLw 634 = .ok (.aload_n 0, 1) := by decide +kernel
theorem dLw_635 : decode bLw 635 = .ok (.iload 4, 2) := by decide +kernel
theorem dLw_637 : decode bLw 637 = .ok (.iconst 1, 1) := by decide +kernel
theorem dLw_638 : decode bLw 638 = .ok (.iadd, 1) := by decide +kernel
theorem dLw_639 : decode bLw 639 = .ok (.iaload, 1) := by decide +kernel
theorem dLw_640 : decode bLw 640 = .ok (.aload_n 0, 1) := by decide +kernel
theorem dLw_641 : decode bLw 641 = .ok (.iload 4, 2) := by decide +kernel
theorem dLw_643 : decode bLw 643 = .ok (.iconst 2, 1) := by decide +kernel
theorem dLw_644 : decode bLw 644 = .ok (.iadd, 1) := by decide +kernel
theorem dLw_645 : decode bLw 645 = .ok (.iaload, 1) := by decide +kernel
theorem dLw_646 : decode bLw 646 = .ok (.invokevirtual 78, 3) := by decide +kernel
theorem dLw_649 : decode bLw 649 = .ok (.pop, 1) := by decide +kernel
theorem dLw_650 : decode bLw 650 = .ok (.aload_n 2, 1) := by decide +kernel
theorem dLw_651 : decode bLw 651 = .ok (.aload_n 0, 1) := by decide +kernel
theorem dLw_652 : decode bLw 652 = .ok (.iload 4, 2) := by decide +kernel
theorem dLw_654 : decode bLw 654 = .ok (.iconst 1, 1) := by decide +kernel
theorem dLw_655 : decode bLw 655 = .ok (.iadd, 1) := by decide +kernel
theorem dLw_656 : decode bLw 656 = .ok (.iaload, 1) := by decide +kernel
theorem dLw_657 : decode bLw 657 = .ok (.aload_n 0, 1) := by decide +kernel
theorem dLw_658 : decode bLw 658 = .ok (.iload 4, 2) := by decide +kernel
theorem dLw_660 : decode bLw 660 = .ok (.iconst 2, 1) := by decide +kernel
theorem dLw_661 : decode bLw 661 = .ok (.iadd, 1) := by decide +kernel
theorem dLw_662 : decode bLw 662 = .ok (.iaload, 1) := by decide +kernel
theorem dLw_663 : decode bLw 663 = .ok (.invokevirtual 81, 3) := by decide +kernel
theorem dLw_666 : decode bLw 666 = .ok (.pop, 1) := by decide +kernel
theorem dLw_667 : decode bLw 667 = .ok (.goto 459, 3) := by decide +kernel
theorem dLw_670 : decode bLw 670 = .ok (.aload_n 1, 1) := by decide +kernel
theorem dLw_671 : decode bLw 671 = .ok (.aload_n 0, 1) := by decide +kernel
theorem dLw_672 : decode bLw 672 = .ok (.iload 4, 2) := by decide +kernel
theorem dLw_674 : decode bLw 674 = .ok (.iconst 1, 1) := by decide +kernel
theorem dLw_675 : decode bLw 675 = .ok (.iadd, 1) := by decide +kernel
theorem dLw_676 : decode bLw 676 = .ok (.iaload, 1) := by decide +kernel
theorem dLw_677 : decode bLw 677 = .ok (.invokevirtual 82, 3) := by decide +kernel
theorem dLw_680 : decode bLw 680 = .ok (.pop, 1) := by decide +kernel
theorem dLw_681 : decode bLw 681 = .ok (.aload_n 2, 1) := by decide +kernel
theorem dLw_682 : decode bLw 682 = .ok (.aload_n 0, 1) := by decide +kernel
theorem dLw_683 : decode bLw 683 = .ok (.iload 4, 2) := by decide +kernel
theorem dLw_685 : decode bLw 685 = .ok (.iconst 1, 1) := by decide +kernel
theorem dLw_686 : decode bLw 686 = .ok (.iadd, 1) := by decide +kernel
theorem dLw_687 : decode bLw 687 = .ok (.iaload, 1) := by decide +kernel
theorem dLw_688 : decode bLw 688 = .ok (.invokevirtual 85, 3) := by decide +kernel
theorem dLw_691 : decode bLw 691 = .ok (.pop, 1) := by decide +kernel
theorem dLw_692 : decode bLw 692 = .ok (.goto 434, 3) := by decide +kernel
theorem dLw_695 : decode bLw 695 = .ok (.aload_n 1, 1) := by decide +kernel
theorem dLw_696 : decode bLw 696 = .ok (.aload_n 0, 1) := by decide +kernel
theorem dLw_697 : decode bLw 697 = .ok (.iload 4, 2) := by decide +kernel
theorem dLw_699 : decode bLw 699 = .ok (.iconst 1, 1) := by decide +kernel
theorem dLw_700 : decode bLw 700 = .ok (.iadd, 1) := by decide +kernel
theorem dLw_701 : decode bLw 701 = .ok (.iaload, 1) := by decide +kernel
theorem dLw_702 : decode bLw 702 = .ok (.aload_n 0, 1) := by decide +kernel
theorem dLw_703 : decode bLw 703 = .ok (.iload 4, 2) := by decide +kernel
theorem dLw_705 : decode bLw 705 = .ok (.iconst 2, 1) := by decide +kernel
theorem dLw_706 : decode bLw 706 = .ok (.iadd, 1) := by decide +kernel
theorem dLw_707 : decode bLw 707 = .ok (.iaload, 1) := by decide +kernel
theorem dLw_708 : decode bLw 708 = .ok (.aload_n 0, 1) := by decide +kernel
theorem dLw_709 : decode bLw 709 = .ok (.iload 4, 2) := by decide +kernel
theorem dLw_711 : decode bLw 711 = .ok (.iconst 3, 1) := by decide +kernel
theorem dLw_712 : decode bLw 712 = .ok (.iadd, 1) := by decide +kernel
theorem dLw_713 : decode bLw 713 = .ok (.iaload, 1) := by decide +kernel
theorem dLw_714 : decode bLw 714 = .ok (.aload_n 0, 1) := by decide +kernel
theorem dLw_715 : decode bLw 715 = .ok (.iload 4, 2) := by decide +kernel
theorem dLw_717 : decode bLw 717 = .ok (.iconst 4, 1) := by decide +kernel
theorem dLw_718 : decode bLw 718 = .ok (.iadd, 1) := by decide +kernel
theorem dLw_719 : decode bLw 719 = .ok (.iaload, 1) := by decide +kernel
theorem dLw_720 : decode bLw 720 = .ok (.aload_n 0, 1) := by decide +kernel
theorem dLw_721 : decode bLw 721 = .ok (.iload 4, 2) := by decide +kernel
theorem dLw_723 : decode bLw 723 = .ok (.iconst 5, 1) := by decide +kernel
theorem dLw_724 : decode bLw 724 = .ok (.iadd, 1) := by decide +kernel
theorem dLw_725 : decode bLw 725 = .ok (.iaload, 1) := by decide +kernel
theorem dLw_726 : decode bLw 726 = .ok (.invokevirtual 86, 3) := by decide +kernel
theorem dLw_729 : decode bLw 729 = .ok (.pop, 1) := by decide +kernel
theorem dLw_730 : decode bLw 730 = .ok (.aload_n 2, 1) := by decide +kernel
theorem dLw_731 : decode bLw 731 = .ok (.aload_n 0, 1) := by decide +kernel
theorem dLw_732 : decode bLw 732 = .ok (.iload 4, 2) := by decide +kernel
theorem dLw_734 : decode bLw 734 = .ok (.iconst 1, 1) := by decide +kernel
theorem dLw_735 : decode bLw 735 = .ok (.iadd, 1) := by decide +kernel
theorem dLw_736 : decode bLw 736 = .ok (.iaload, 1) := by decide +kernel
theorem dLw_737 : decode bLw 737 = .ok (.aload_n 0, 1) := by decide +kernel
theorem dLw_738 : decode bLw 738 = .ok (.iload 4, 2) := by decide +kernel
theorem dLw_740 : decode bLw 740 = .ok (.iconst 2, 1) := by decide +kernel
theorem dLw_741 : decode bLw 741 = .ok (.iadd, 1) := by decide +kernel
theorem dLw_742 : decode bLw 742 = .ok (.iaload, 1) := by decide +kernel
theorem dLw_743 : decode bLw 743 = .ok (.aload_n 0, 1) := by decide +kernel
theorem dLw_744 : decode bLw 744 = .ok (.iload 4, 2) := by decide +kernel
theorem dLw_746 : decode bLw 746 = .ok (.iconst 3, 1) := by decide +kernel
theorem dLw_747 : decode bLw 747 = .ok (.iadd, 1) := by decide +kernel
theorem dLw_748 : decode bLw 748 = .ok (.iaload, 1) := by decide +kernel
theorem dLw_749 : decode bLw 749 = .ok (.aload_n 0, 1) := by decide +kernel
theorem dLw_750 : decode bLw 750 = .ok (.iload 4, 2) := by decide +kernel
theorem dLw_752 : decode bLw 752 = .ok (.iconst 4, 1) := by decide +kernel
theorem dLw_753 : decode bLw 753 = .ok (.iadd, 1) := by decide +kernel
theorem dLw_754 : decode bLw 754 = .ok (.iaload, 1) := by decide +kernel
theorem dLw_755 : decode bLw 755 = .ok (.aload_n 0, 1) := by decide +kernel
theorem dLw_756 : decode bLw 756 = .ok (.iload 4, 2) := by decide +kernel
theorem dLw_758 : decode bLw 758 = .ok (.iconst 5, 1) := by decide +kernel
theorem dLw_759 : decode bLw 759 = .ok (.iadd, 1) := by decide +kernel
theorem dLw_760 : decode bLw 760 = .ok (.iaload, 1) := by decide +kernel
theorem dLw_761 : decode bLw 761 = .ok (.invokevirtual 89, 3) := by decide +kernel
theorem dLw_764 : decode bLw 764 = .ok (.pop, 1) := by decide +kernel
theorem dLw_765 : decode bLw 765 = .ok (.goto 361, 3) := by decide +kernel
theorem dLw_768 : decode bLw 768 = .ok (.aload_n 1, 1) := by decide +kernel
theorem dLw_769 : decode bLw 769 = .ok (.invokevirtual 90, 3) := by decide +kernel
theorem dLw_772 : decode bLw 772 = .ok (.pop, 1) := by decide +kernel
theorem dLw_773 : decode bLw 773 = .ok (.aload_n 2, 1) := by decide +kernel
theorem dLw_774 : decode bLw 774 = .ok (.invokevirtual 93, 3) := by decide +kernel
theorem dLw_777 : decode bLw 777 = .ok (.pop, 1) := by decide +kernel
theorem dLw_778 : decode bLw 778 = .ok (.goto 348, 3) := by decide +kernel
theorem dLw_781 : decode bLw 781 = .ok (.aload_n 1, 1) := by decide +kernel
theorem dLw_782 : decode bLw 782 = .ok (.aload_n 0, 1) := by decide +kernel
theorem dLw_783 : decode bLw 783 = .ok (.iload 4, 2) := by decide +kernel
theorem dLw_785 : decode bLw 785 = .ok (.iconst 1, 1) := by decide +kernel
theorem dLw_786 : decode bLw 786 = .ok (.iadd, 1) := by decide +kernel
theorem dLw_787 : decode bLw 787 = .ok (.iaload, 1) := by decide +kernel
theorem dLw_788 : decode bLw 788 = .ok (.invokevirtual 94, 3) := by decide +kernel
theorem dLw_791 : decode bLw 791 = .ok (.pop, 1) := by decide +kernel
theorem dLw_792 : decode bLw 792 = .ok (.aload_n 2, 1) := by decide +kernel
theorem dLw_793 : decode bLw 793 = .ok (.aload_n 0, 1) := by decide +kernel
theorem dLw_794 : decode bLw 794 = .ok (.iload 4, 2) := by decide +kernel
theorem dLw_796 : decode bLw 796 = .ok (.iconst 1, 1) := by decide +kernel
theorem dLw_797 : decode bLw 797 = .ok (.iadd, 1) := by decide +kernel
theorem dLw_798 : decode bLw 798 = .ok (.iaload, 1) := by decide +kernel
theorem dLw_799 : decode bLw 799 = .ok (.invokevirtual 97, 3) := by decide +kernel
theorem dLw_802 : decode bLw 802 = .ok (.pop, 1) := by decide +kernel
theorem dLw_803 : decode bLw 803 = .ok (.goto 323, 3) := by decide +kernel
theorem dLw_806 : decode bLw 806 = .ok (.aload_n 1, 1) := by decide +kernel
theorem dLw_807 : decode bLw 807 = .ok (.aload_n 0, 1) := by decide +kernel
theorem dLw_808 : decode bLw 808 = .ok (.iload 4, 2) := by decide +kernel
theorem dLw_810 : decode bLw 810 = .ok (.iconst 1, 1) := by decide +kernel
theorem dLw_811 : decode bLw 811 = .ok (.iadd, 1) := by decide +kernel
theorem dLw_812 : decode bLw 812 = .ok (.iaload, 1) := by decide +kernel
theorem dLw_813 : decode bLw 813 = .ok (.invokevirtual 98, 3) := by decide +kernel
theorem dLw_816 : decode bLw 816 = .ok (.pop, 1) := by decide +kernel
theorem dLw_817 : decode bLw 817 = .ok (.aload_n 2, 1) := by decide +kernel
theorem dLw_818 : decode bLw 818 = .ok (.aload_n 0, 1) := by decide +kernel
theorem dLw_819 : decode bLw 819 = .ok (.iload 4, 2) := by decide +kernel
theorem dLw_821 : decode bLw 821 = .ok (.iconst 1, 1) := by decide +kernel
theorem dLw_822 : decode bLw 822 = .ok (.iadd, 1) := by decide +kernel
theorem dLw_823 : decode bLw 823 = .ok (.iaload, 1) := by decide +kernel
theorem dLw_824 : decode bLw 824 = .ok (.invokevirtual 101, 3) := by decide +kernel
theorem dLw_827 : decode bLw 827 = .ok (.pop, 1) := by decide +kernel
theorem dLw_828 : decode bLw 828 = .ok (.goto 298, 3) := by decide +kernel
theorem dLw_831 : decode bLw 831 = .ok (.aload_n 1, 1) := by decide +kernel
theorem dLw_832 : decode bLw 832 = .ok (.aload_n 0, 1) := by decide +kernel
theorem dLw_833 : decode bLw 833 = .ok (.iload 4, 2) := by decide +kernel
theorem dLw_835 : decode bLw 835 = .ok (.iconst 1, 1) := by decide +kernel
theorem dLw_836 : decode bLw 836 = .ok (.iadd, 1) := by decide +kernel
theorem dLw_837 : decode bLw 837 = .ok (.iaload, 1) := by decide +kernel
theorem dLw_838 : decode bLw 838 = .ok (.invokevirtual 102, 3) := by decide +kernel
theorem dLw_841 : decode bLw 841 = .ok (.pop, 1) := by decide +kernel
theorem dLw_842 : decode bLw 842 = .ok (.aload_n 2, 1) := by decide +kernel
theorem dLw_843 : decode bLw 843 = .ok (.aload_n 0, 1) := by decide +kernel
theorem dLw_844 : decode bLw 844 = .ok (.iload 4, 2) := by decide +kernel
theorem dLw_846 : decode bLw 846 = .ok (.iconst 1, 1) := by decide +kernel
theorem dLw_847 : decode bLw 847 = .ok (.iadd, 1) := by decide +kernel
theorem dLw_848 : decode bLw 848 = .ok (.iaload, 1) := by decide +kernel
theorem dLw_849 : decode bLw 849 = .ok (.invokevirtual 105, 3) := by decide +kernel
theorem dLw_852 : decode bLw 852 = .ok (.pop, 1) := by decide +kernel
theorem dLw_853 : decode bLw 853 = .ok (.goto 273, 3) := by decide +kernel
theorem dLw_856 : decode bLw 856 = .ok (.aload_n 1, 1) := by decide +kernel
theorem dLw_857 : decode bLw 857 = .ok (.aload_n 0, 1) := by decide +kernel
theorem dLw_858 : decode bLw 858 = .ok (.iload 4, 2) := by decide +kernel
theorem dLw_860 : decode bLw 860 = .ok (.iconst 1, 1) := by decide +kernel
theorem dLw_861 : decode bLw 861 = .ok (.iadd, 1) := by decide +kernel
theorem dLw_862 : decode bLw 862 = .ok (.iaload, 1) := by decide +kernel
theorem dLw_863 : decode bLw 863 = .ok (.invokevirtual 106, 3) := by decide +kernel
theorem dLw_866 : decode bLw 866 = .ok (.pop, 1) := by decide +kernel
theorem dLw_867 : decode bLw 867 = .ok (.aload_n 2, 1) := by decide +kernel
theorem dLw_868 : decode bLw 868 = .ok (.aload_n 0, 1) := by decide +kernel
theorem dLw_869 : decode bLw 869 = .ok (.iload 4, 2) := by decide +kernel
theorem dLw_871 : decode bLw 871 = .ok (.iconst 1, 1) := by decide +kernel
theorem dLw_872 : decode bLw 872 = .ok (.iadd, 1) := by decide +kernel
theorem dLw_873 : decode bLw 873 = .ok (.iaload, 1) := by decide +kernel
theorem dLw_874 : decode bLw 874 = .ok (.invokevirtual 109, 3) := by decide +kernel
theorem dLw_877 : decode bLw 877 = .ok (.pop, 1) := by decide +kernel
theorem dLw_878 : decode bLw 878 = .ok (.goto 248, 3) := by decide +kernel
theorem dLw_881 : decode bLw 881 = .ok (.aload_n 1, 1) := by decide +kernel
theorem dLw_882 : decode bLw 882 = .ok (.aload_n 0, 1) := by decide +kernel
theorem dLw_883 : decode bLw 883 = .ok (.iload 4, 2) := by decide +kernel
theorem dLw_885 : decode bLw 885 = .ok (.iconst 1, 1) := by decide +kernel
theorem dLw_886 : decode bLw 886 = .ok (.iadd, 1) := by decide +kernel
theorem dLw_887 : decode bLw 887 = .ok (.iaload, 1) := by decide +kernel
theorem dLw_888 : decode bLw 888 = .ok (.ifCond .eq 7, 3) := by decide +kernel
theorem dLw_891 : decode bLw 891 = .ok (.iconst 1, 1) := by decide +kernel
theorem dLw_892 : decode bLw 892 = .ok (.goto 4, 3) := by decide +kernel
theorem dLw_895 : decode bLw 895 = .ok (.iconst 0, 1) := by decide +kernel
theorem dLw_896 : decode bLw 896 = .ok (.aload_n 0, 1) := by decide +kernel
theorem dLw_897 : decode bLw 897 = .ok (.iload 4, 2) := by decide +kernel
theorem dLw_899 : decode bLw 899 = .ok (.iconst 2, 1) := by decide +kernel
theorem dLw_900 : decode bLw 900 = .ok (.iadd, 1) := by decide +kernel
theorem dLw_901 : decode bLw 901 = .ok (.iaload, 1) := by decide +kernel
theorem dLw_902 : decode bLw 902 = .ok (.invokevirtual 110, 3) := by decide +kernel
theorem dLw_905 : decode bLw 905 = .ok (.pop, 1) := by decide +kernel
theorem dLw_906 : decode bLw 906 = .ok (.aload_n 2, 1) := by decide +kernel
theorem dLw_907 : decode bLw 907 = .ok (.aload_n 0, 1) := by decide +kernel
theorem dLw_908 : decode bLw 908 = .ok (.iload 4, 2) := by decide +kernel
theorem dLw_910 : decode bLw 910 = .ok (.iconst 1, 1) := by decide +kernel
theorem dLw_911 : decode bLw 911 = .ok (.iadd, 1) := by decide +kernel
theorem dLw_912 : decode bLw 912 = .ok (.iaload, 1) := by decide +kernel
theorem dLw_913 : decode bLw 913 = .ok (.ifCond .eq 7, 3) := by decide +kernel
theorem dLw_916 : decode bLw 916 = .ok (.iconst 1, 1) := by decide +kernel
theorem dLw_917 : decode bLw 917 = .ok (.goto 4, 3) := by decide +kernel
theorem dLw_920 : decode bLw 920 = .ok (.iconst 0, 1) := by decide +kernel
theorem dLw_921 : decode bLw 921 = .ok (.aload_n 0, 1) := by decide +kernel
theorem dLw_922 : decode bLw 922 = .ok (.iload 4, 2) := by decide +kernel
theorem dLw_924 : decode bLw 924 = .ok (.iconst 2, 1) := by decide +kernel
theorem dLw_925 : decode bLw 925 = .ok (.iadd, 1) := by decide +kernel
theorem dLw_926 : decode bLw 926 = .ok (.iaload, 1) := by decide +kernel
theorem dLw_927 : decode bLw 927 = .ok (.invokevirtual 114, 3) := by decide +kernel
theorem dLw_930 : decode bLw 930 = .ok (.pop, 1) := by decide +kernel
theorem dLw_931 : decode bLw 931 = .ok (.goto 195, 3) := by decide +kernel
theorem dLw_934 : decode bLw 934 = .ok (.aload_n 1, 1) := by decide +kernel
theorem dLw_935 : decode bLw 935 = .ok (.invokevirtual 115, 3) := by decide +kernel
theorem dLw_938 : decode bLw 938 = .ok (.pop, 1) := by decide +kernel
theorem dLw_939 : decode bLw 939 = .ok (.aload_n 2, 1) := by decide +kernel
theorem dLw_940 : decode bLw 940 = .ok (.invokevirtual 118, 3) := by decide +kernel
theorem dLw_943 : decode bLw 943 = .ok (.pop, 1) := by decide +kernel
theorem dLw_944 : decode bLw 944 = .ok (.goto 182, 3) := by decide +kernel
theorem dLw_947 : decode bLw 947 = .ok (.aload_n 1, 1) := by decide +kernel
theorem dLw_948 : decode bLw 948 = .ok (.invokevirtual 119, 3) := by decide +kernel
theorem dLw_951 : decode bLw 951 = .ok (.pop, 1) := by decide +kernel
theorem dLw_952 : decode bLw 952 = .ok (.aload_n 2, 1) := by decide +kernel
theorem dLw_953 : decode bLw 953 = .ok (.invokevirtual 122, 3) := by decide +kernel
theorem dLw_956 : decode bLw 956 = .ok (.pop, 1) := by decide +kernel
theorem dLw_957 : decode bLw 957 = .ok (.goto 169, 3) := by decide +kernel
theorem dLw_960 : decode bLw 960 = .ok (.aload_n 1, 1) := by decide +kernel
theorem dLw_961 : decode bLw 961 = .ok (.invokevirtual 123, 3) := by decide +kernel
theorem dLw_964 : decode bLw 964 = .ok (.aload_n 2, 1) := by decide +kernel
theorem dLw_965 : decode bLw 965 = .ok (.invokevirtual 126, 3) := by decide +kernel
theorem dLw_968 : decode bLw 968 = .ok (.if_icmp .eq 158, 3) := by decide +kernel
theorem dLw_971 : decode bLw 971 = .ok (.iconst 0, 1) := by decide +kernel
theorem dLw_972 : decode bLw 972 = .ok (.ireturn, 1) := by decide +kernel
theorem dLw_973 : decode bLw 973 = .ok (.aload_n 1, 1) := by decide +kernel
theorem dLw_974 : decode bLw 974 = .ok (.aload_n 0, 1) := by decide +kernel
theorem dLw_975 : decode bLw 975 = .ok (.iload 4, 2) := by decide +kernel
theorem dLw_977 : decode bLw 977 = .ok (.iconst 1, 1) := by decide +kernel
theorem dLw_978 : decode bLw 978 = .ok (.iadd, 1) := by decide +kernel
theorem dLw_979 : decode bLw 979 = .ok (.iaload, 1) := by decide +kernel
theorem dLw_980 : decode bLw 980 = .ok (.aload_n 0, 1) := by decide +kernel
theorem dLw_981 : decode bLw 981 = .ok (.iload 4, 2) := by decide +kernel
theorem dLw_983 : decode bLw 983 = .ok (.iconst 2, 1) := by decide +kernel
theorem dLw_984 : decode bLw 984 = .ok (.iadd, 1) := by decide +kernel
theorem dLw_985 : decode bLw 985 = .ok (.iaload, 1) := by decide +kernel
theorem dLw_986 : decode bLw 986 = .ok (.aload_n 0, 1) := by decide +kernel
theorem dLw_987 : decode bLw 987 = .ok (.iload 4, 2) := by decide +kernel
theorem dLw_989 : decode bLw 989 = .ok (.iconst 3, 1) := by decide +kernel
theorem dLw_990 : decode bLw 990 = .ok (.iadd, 1) := by decide +kernel
theorem dLw_991 : decode bLw 991 = .ok (.iaload, 1) := by decide +kernel
theorem dLw_992 : decode bLw 992 = .ok (.aload_n 0, 1) := by decide +kernel
theorem dLw_993 : decode bLw 993 = .ok (.iload 4, 2) := by decide +kernel
theorem dLw_995 : decode bLw 995 = .ok (.iconst 4, 1) := by decide +kernel
theorem dLw_996 : decode bLw 996 = .ok (.iadd, 1) := by decide +kernel
theorem dLw_997 : decode bLw 997 = .ok (.iaload, 1) := by decide +kernel
theorem dLw_998 : decode bLw 998 = .ok (.aload_n 0, 1) := by decide +kernel
theorem dLw_999 : decode bLw 999 = .ok (.iload 4, 2) := by decide +kernel
theorem dLw_1001 : decode bLw 1001 = .ok (.iconst 5, 1) := by decide +kernel
theorem dLw_1002 : decode bLw 1002 = .ok (.iadd, 1) := by decide +kernel
theorem dLw_1003 : decode bLw 1003 = .ok (.iaload, 1) := by decide +kernel
theorem dLw_1004 : decode bLw 1004 = .ok (.aload_n 0, 1) := by decide +kernel
theorem dLw_1005 : decode bLw 1005 = .ok (.iload 4, 2) := by decide +kernel
theorem dLw_1007 : decode bLw 1007 = .ok (.bipush 6, 2) := by decide +kernel
theorem dLw_1009 : decode bLw 1009 = .ok (.iadd, 1) := by decide +kernel
theorem dLw_1010 : decode bLw 1010 = .ok (.iaload, 1) := by decide +kernel
theorem dLw_1011 : decode bLw 1011 = .ok (.invokevirtual 127, 3) := by decide +kernel
theorem dLw_1014 : decode bLw 1014 = .ok (.pop, 1) := by decide +kernel
theorem dLw_1015 : decode bLw 1015 = .ok (.aload_n 2, 1) := by decide +kernel
theorem dLw_1016 : decode bLw 1016 = .ok (.aload_n 0, 1) := by decide +kernel
theorem dLw_1017 : decode bLw 1017 = .ok (.iload 4, 2) := by decide +kernel
theorem dLw_1019 : decode bLw 1019 = .ok (.iconst 1, 1) := by decide +kernel
theorem dLw_1020 : decode bLw 1020 = .ok (.iadd, 1) := by decide +kernel
theorem dLw_1021 : decode bLw 1021 = .ok (.iaload, 1) := by decide +kernel
theorem dLw_1022 : decode bLw 1022 = .ok (.aload_n 0, 1) := by decide +kernel
theorem dLw_1023 : decode bLw 1023 = .ok (.iload 4, 2) := by decide +kernel
theorem dLw_1025 : decode bLw 1025 = .ok (.iconst 2, 1) := by decide +kernel
theorem dLw_1026 : decode bLw 1026 = .ok (.iadd, 1) := by decide +kernel
theorem dLw_1027 : decode bLw 1027 = .ok (.iaload, 1) := by decide +kernel
theorem dLw_1028 : decode bLw 1028 = .ok (.aload_n 0, 1) := by decide +kernel
theorem dLw_1029 : decode bLw 1029 = .ok (.iload 4, 2) := by decide +kernel
theorem dLw_1031 : decode bLw 1031 = .ok (.iconst 3, 1) := by decide +kernel
theorem dLw_1032 : decode bLw 1032 = .ok (.iadd, 1) := by decide +kernel
theorem dLw_1033 : decode bLw 1033 = .ok (.iaload, 1) := by decide +kernel
theorem dLw_1034 : decode bLw 1034 = .ok (.aload_n 0, 1) := by decide +kernel
theorem dLw_1035 : decode bLw 1035 = .ok (.iload 4, 2) := by decide +kernel
theorem dLw_1037 : decode bLw 1037 = .ok (.iconst 4, 1) := by decide +kernel
theorem dLw_1038 : decode bLw 1038 = .ok (.iadd, 1) := by decide +kernel
theorem dLw_1039 : decode bLw 1039 = .ok (.iaload, 1) := by decide +kernel
theorem dLw_1040 : decode bLw 1040 = .ok (.aload_n 0, 1) := by decide +kernel
theorem dLw_1041 : decode bLw 1041 = .ok (.iload 4, 2) := by decide +kernel
theorem dLw_1043 : decode bLw 1043 = .ok (.iconst 5, 1) := by decide +kernel
theorem dLw_1044 : decode bLw 1044 = .ok (.iadd, 1) := by decide +kernel
theorem dLw_1045 : decode bLw 1045 = .ok (.iaload, 1) := by decide +kernel
theorem dLw_1046 : decode bLw 1046 = .ok (.aload_n 0, 1) := by decide +kernel
theorem dLw_1047 : decode bLw 1047 = .ok (.iload 4, 2) := by decide +kernel
theorem dLw_1049 : decode bLw 1049 = .ok (.bipush 6, 2) := by decide +kernel
theorem dLw_1051 : decode bLw 1051 = .ok (.iadd, 1) := by decide +kernel
theorem dLw_1052 : decode bLw 1052 = .ok (.iaload, 1) := by decide +kernel
theorem dLw_1053 : decode bLw 1053 = .ok (.invokevirtual 131, 3) := by decide +kernel
theorem dLw_1056 : decode bLw 1056 = .ok (.pop, 1) := by decide +kernel
theorem dLw_1057 : decode bLw 1057 = .ok (.goto 69, 3) := by decide +kernel
theorem dLw_1060 : decode bLw 1060 = .ok (.aload_n 1, 1) := by decide +kernel
theorem dLw_1061 : decode bLw 1061 = .ok (.aload_n 0, 1) := by decide +kernel
theorem dLw_1062 : decode bLw 1062 = .ok (.iload 4, 2) := by decide +kernel
theorem dLw_1064 : decode bLw 1064 = .ok (.iconst 1, 1) := by decide +kernel
theorem dLw_1065 : decode bLw 1065 = .ok (.iadd, 1) := by decide +kernel
theorem dLw_1066 : decode bLw 1066 = .ok (.iaload, 1) := by decide +kernel
theorem dLw_1067 : decode bLw 1067 = .ok (.aload_n 3, 1) := by decide +kernel
theorem dLw_1068 : decode bLw 1068 = .ok (.invokestatic 132, 3) := by decide +kernel
theorem dLw_1071 : decode bLw 1071 = .ok (.istore 5, 2) := by decide +kernel
theorem dLw_1073 : decode bLw 1073 = .ok (.aload_n 2, 1) := by decide +kernel
theorem dLw_1074 : decode bLw 1074 = .ok (.aload_n 0, 1) := by decide +kernel
theorem dLw_1075 : decode bLw 1075 = .ok (.iload 4, 2) := by decide +kernel
theorem dLw_1077 : decode bLw 1077 = .ok (.iconst 1, 1) := by decide +kernel
theorem dLw_1078 : decode bLw 1078 = .ok (.iadd, 1) := by decide +kernel
theorem dLw_1079 : decode bLw 1079 = .ok (.iaload, 1) := by decide +kernel
theorem dLw_1080 : decode bLw 1080 = .ok (.invokevirtual 137, 3) := by decide +kernel
theorem dLw_1083 : decode bLw 1083 = .ok (.istore 6, 2) := by decide +kernel
theorem dLw_1085 : decode bLw 1085 = .ok (.goto 41, 3) := by decide +kernel
theorem dLw_1088 : decode bLw 1088 = .ok (.aload_n 1, 1) := by decide +kernel
theorem dLw_1089 : decode bLw 1089 = .ok (.aload_n 0, 1) := by decide +kernel
theorem dLw_1090 : decode bLw 1090 = .ok (.iload 4, 2) := by decide +kernel
theorem dLw_1092 : decode bLw 1092 = .ok (.iconst 1, 1) := by decide +kernel
theorem dLw_1093 : decode bLw 1093 = .ok (.iadd, 1) := by decide +kernel
theorem dLw_1094 : decode bLw 1094 = .ok (.iaload, 1) := by decide +kernel
theorem dLw_1095 : decode bLw 1095 = .ok (.invokevirtual 138, 3) := by decide +kernel
theorem dLw_1098 : decode bLw 1098 = .ok (.pop, 1) := by decide +kernel
theorem dLw_1099 : decode bLw 1099 = .ok (.aload_n 2, 1) := by decide +kernel
theorem dLw_1100 : decode bLw 1100 = .ok (.aload_n 0, 1) := by decide +kernel
theorem dLw_1101 : decode bLw 1101 = .ok (.iload 4, 2) := by decide +kernel
theorem dLw_1103 : decode bLw 1103 = .ok (.iconst 1, 1) := by decide +kernel
theorem dLw_1104 : decode bLw 1104 = .ok (.iadd, 1) := by decide +kernel
theorem dLw_1105 : decode bLw 1105 = .ok (.iaload, 1) := by decide +kernel
theorem dLw_1106 : decode bLw 1106 = .ok (.invokevirtual 141, 3) := by decide +kernel
theorem dLw_1109 : decode bLw 1109 = .ok (.pop, 1) := by decide +kernel
theorem dLw_1110 : decode bLw 1110 = .ok (.goto 16, 3) := by decide +kernel
theorem dLw_1113 : decode bLw 1113 = .ok (.aload_n 1, 1) := by decide +kernel
theorem dLw_1114 : decode bLw 1114 = .ok (.invokevirtual 142, 3) := by decide +kernel
theorem dLw_1117 : decode bLw 1117 = .ok (.pop, 1) := by decide +kernel
theorem dLw_1118 : decode bLw 1118 = .ok (.aload_n 2, 1) := by decide +kernel
theorem dLw_1119 : decode bLw 1119 = .ok (.invokevirtual 145, 3) := by decide +kernel
theorem dLw_1122 : decode bLw 1122 = .ok (.pop, 1) := by decide +kernel
theorem dLw_1123 : decode bLw 1123 = .ok (.goto 3, 3) := by decide +kernel
theorem dLw_1126 : decode bLw 1126 = .ok (.iinc 4 7, 3) := by decide +kernel
theorem dLw_1129 : decode bLw 1129 = .ok (.goto (-1106), 3) := by decide +kernel
theorem dLw_1132 : decode bLw 1132 = .ok (.iconst 1, 1) := by decide +kernel
theorem dLw_1133 : decode bLw 1133 = .ok (.ireturn, 1) := by decide +kernel
