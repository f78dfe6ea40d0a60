/-! the law's instructions -/
theorem eL_0 : decode code 0 = .ok (.new 7, 3) := by decide +kernel
theorem eL_3 : decode code 3 = .ok (.dup, 1) := by decide +kernel
theorem eL_4 : decode code 4 = .ok (.invokespecial 9, 3) := by decide +kernel
theorem eL_7 : decode code 7 = .ok (.astore_n 1, 1) := by decide +kernel
theorem eL_8 : decode code 8 = .ok (.new 10, 3) := by decide +kernel
theorem eL_11 : decode code 11 = .ok (.dup, 1) := by decide +kernel
theorem eL_12 : decode code 12 = .ok (.invokespecial 12, 3) := by decide +kernel
theorem eL_15 : decode code 15 = .ok (.astore_n 2, 1) := by decide +kernel
theorem eL_16 : decode code 16 = .ok (.iconst 0, 1) := by decide +kernel
theorem eL_17 : decode code 17 = .ok (.istore_n 3, 1) := by decide +kernel
theorem eL_18 : decode code 18 = .ok (.iload_n 3, 1) := by decide +kernel
theorem eL_19 : decode code 19 = .ok (.aload_n 0, 1) := by decide +kernel
theorem eL_20 : decode code 20 = .ok (.arraylength, 1) := by decide +kernel
theorem eL_21 : decode code 21 = .ok (.bipush 6, 2) := by decide +kernel
theorem eL_23 : decode code 23 = .ok (.isub, 1) := by decide +kernel
theorem eL_24 : decode code 24 = .ok (.if_icmp .gt 1447, 3) := by decide +kernel
theorem eL_27 : decode code 27 = .ok (.aload_n 0, 1) := by decide +kernel
theorem eL_28 : decode code 28 = .ok (.iload_n 3, 1) := by decide +kernel
theorem eL_29 : decode code 29 = .ok (.iaload, 1) := by decide +kernel
theorem eL_30 : decode code 30 = .ok (.bipush 63, 2) := by decide +kernel
theorem eL_32 : decode code 32 = .ok (.iand, 1) := by decide +kernel
theorem eL_33 : decode code 33 = .ok (.tableswitch 1432 0 40 #[179, 222, 255, 298, 331, 364, 397, 430, 463, 496, 529, 562, 585, 598, 621, 644, 667, 710, 733, 746, 779, 812, 835, 848, 891, 914, 937, 970, 1013, 1056, 1099, 1132, 1195, 1238, 1271, 1304, 1337, 1360, 1383, 1396, 1409], 179) := by decide +kernel
theorem eL_212 : decode code 212 = .ok (.aload_n 1, 1) := by decide +kernel
theorem eL_213 : decode code 213 = .ok (.aload_n 0, 1) := by decide +kernel
theorem eL_214 : decode code 214 = .ok (.iload_n 3, 1) := by decide +kernel
theorem eL_215 : decode code 215 = .ok (.iconst 1, 1) := by decide +kernel
theorem eL_216 : decode code 216 = .ok (.iadd, 1) := by decide +kernel
theorem eL_217 : decode code 217 = .ok (.iaload, 1) := by decide +kernel
theorem eL_218 : decode code 218 = .ok (.aload_n 0, 1) := by decide +kernel
theorem eL_219 : decode code 219 = .ok (.iload_n 3, 1) := by decide +kernel
theorem eL_220 : decode code 220 = .ok (.iconst 2, 1) := by decide +kernel
theorem eL_221 : decode code 221 = .ok (.iadd, 1) := by decide +kernel
theorem eL_222 : decode code 222 = .ok (.iaload, 1) := by decide +kernel
theorem eL_223 : decode code 223 = .ok (.aload_n 0, 1) := by decide +kernel
theorem eL_224 : decode code 224 = .ok (.iload_n 3, 1) := by decide +kernel
theorem eL_225 : decode code 225 = .ok (.iconst 3, 1) := by decide +kernel
theorem eL_226 : decode code 226 = .ok (.iadd, 1) := by decide +kernel
theorem eL_227 : decode code 227 = .ok (.iaload, 1) := by decide +kernel
theorem eL_228 : decode code 228 = .ok (.invokevirtual 13, 3) := by decide +kernel
theorem eL_231 : decode code 231 = .ok (.aload_n 2, 1) := by decide +kernel
theorem eL_232 : decode code 232 = .ok (.aload_n 0, 1) := by decide +kernel
theorem eL_233 : decode code 233 = .ok (.iload_n 3, 1) := by decide +kernel
theorem eL_234 : decode code 234 = .ok (.iconst 1, 1) := by decide +kernel
theorem eL_235 : decode code 235 = .ok (.iadd, 1) := by decide +kernel
theorem eL_236 : decode code 236 = .ok (.iaload, 1) := by decide +kernel
theorem eL_237 : decode code 237 = .ok (.aload_n 0, 1) := by decide +kernel
theorem eL_238 : decode code 238 = .ok (.iload_n 3, 1) := by decide +kernel
theorem eL_239 : decode code 239 = .ok (.iconst 2, 1) := by decide +kernel
theorem eL_240 : decode code 240 = .ok (.iadd, 1) := by decide +kernel
theorem eL_241 : decode code 241 = .ok (.iaload, 1) := by decide +kernel
theorem eL_242 : decode code 242 = .ok (.aload_n 0, 1) := by decide +kernel
theorem eL_243 : decode code 243 = .ok (.iload_n 3, 1) := by decide +kernel
theorem eL_244 : decode code 244 = .ok (.iconst 3, 1) := by decide +kernel
theorem eL_245 : decode code 245 = .ok (.iadd, 1) := by decide +kernel
theorem eL_246 : decode code 246 = .ok (.iaload, 1) := by decide +kernel
theorem eL_247 : decode code 247 = .ok (.invokevirtual 17, 3) := by decide +kernel
theorem eL_250 : decode code 250 = .ok (.if_icmp .eq 1215, 3) := by decide +kernel
theorem eL_253 : decode code 253 = .ok (.iconst 0, 1) := by decide +kernel
theorem eL_254 : decode code 254 = .ok (.ireturn, 1) := by decide +kernel
theorem eL_255 : decode code 255 = .ok (.aload_n 1, 1) := by decide +kernel
theorem eL_256 : decode code 256 = .ok (.aload_n 0, 1) := by decide +kernel
theorem eL_257 : decode code 257 = .ok (.iload_n 3, 1) := by decide +kernel
theorem eL_258 : decode code 258 = .ok (.iconst 1, 1) := by decide +kernel
theorem eL_259 : decode code 259 = .ok (.iadd, 1) := by decide +kernel
theorem eL_260 : decode code 260 = .ok (.iaload, 1) := by decide +kernel
theorem eL_261 : decode code 261 = .ok (.aload_n 0, 1) := by decide +kernel
theorem eL_262 : decode code 262 = .ok (.iload_n 3, 1) := by decide +kernel
theorem eL_263 : decode code 263 = .ok (.iconst 2, 1) := by decide +kernel
theorem eL_264 : decode code 264 = .ok (.iadd, 1) := by decide +kernel
theorem eL_265 : decode code 265 = .ok (.iaload, 1) := by decide +kernel
theorem eL_266 : decode code 266 = .ok (.invokevirtual 18, 3) := by decide +kernel
theorem eL_269 : decode code 269 = .ok (.aload_n 2, 1) := by decide +kernel
theorem eL_270 : decode code 270 = .ok (.aload_n 0, 1) := by decide +kernel
theorem eL_271 : decode code 271 = .ok (.iload_n 3, 1) := by decide +kernel
theorem eL_272 : decode code 272 = .ok (.iconst 1, 1) := by decide +kernel
theorem eL_273 : decode code 273 = .ok (.iadd, 1) := by decide +kernel
theorem eL_274 : decode code 274 = .ok (.iaload, 1) := by decide +kernel
theorem eL_275 : decode code 275 = .ok (.aload_n 0, 1) := by decide +kernel
theorem eL_276 : decode code 276 = .ok (.iload_n 3, 1) := by decide +kernel
theorem eL_277 : decode code 277 = .ok (.iconst 2, 1) := by decide +kernel
theorem eL_278 : decode code 278 = .ok (.iadd, 1) := by decide +kernel
theorem eL_279 : decode code 279 = .ok (.iaload, 1) := by decide +kernel
theorem eL_280 : decode code 280 = .ok (.invokevirtual 22, 3) := by decide +kernel
theorem eL_283 : decode code 283 = .ok (.if_icmp .eq 1182, 3) := by decide +kernel
theorem eL_286 : decode code 286 = .ok (.iconst 0, 1) := by decide +kernel
theorem eL_287 : decode code 287 = .ok (.ireturn, 1) := by decide +kernel
theorem eL_288 : decode code 288 = .ok (.aload_n 1, 1) := by decide +kernel
theorem eL_289 : decode code 289 = .ok (.aload_n 0, 1) := by decide +kernel
theorem eL_290 : decode code 290 = .ok (.iload_n 3, 1) := by decide +kernel
theorem eL_291 : decode code 291 = .ok (.iconst 1, 1) := by decide +kernel
theorem eL_292 : decode code 292 = .ok (.iadd, 1) := by decide +kernel
theorem eL_293 : decode code 293 = .ok (.iaload, 1) := by decide +kernel
theorem eL_294 : decode code 294 = .ok (.aload_n 0, 1) := by decide +kernel
theorem eL_295 : decode code 295 = .ok (.iload_n 3, 1) := by decide +kernel
theorem eL_296 : decode code 296 = .ok (.iconst 2, 1) := by decide +kernel
theorem eL_297 : decode code 297 = .ok (.iadd, 1) := by decide +kernel
theorem eL_298 : decode code 298 = .ok (.iaload, 1) := by decide +kernel
theorem eL_299 : decode code 299 = .ok (.aload_n 0, 1) := by decide +kernel
theorem eL_300 : decode code 300 = .ok (.iload_n 3, 1) := by decide +kernel
theorem eL_301 : decode code 301 = .ok (.iconst 3, 1) := by decide +kernel
theorem eL_302 : decode code 302 = .ok (.iadd, 1) := by decide +kernel
theorem eL_303 : decode code 303 = .ok (.iaload, 1) := by decide +kernel
theorem eL_304 : decode code 304 = .ok (.invokevirtual 23, 3) := by decide +kernel
theorem eL_307 : decode code 307 = .ok (.aload_n 2, 1) := by decide +kernel
theorem eL_308 : decode code 308 = .ok (.aload_n 0, 1) := by decide +kernel
theorem eL_309 : decode code 309 = .ok (.iload_n 3, 1) := by decide +kernel
theorem eL_310 : decode code 310 = .ok (.iconst 1, 1) := by decide +kernel
theorem eL_311 : decode code 311 = .ok (.iadd, 1) := by decide +kernel
theorem eL_312 : decode code 312 = .ok (.iaload, 1) := by decide +kernel
theorem eL_313 : decode code 313 = .ok (.aload_n 0, 1) := by decide +kernel
theorem eL_314 : decode code 314 = .ok (.iload_n 3, 1) := by decide +kernel
theorem eL_315 : decode code 315 = .ok (.iconst 2, 1) := by decide +kernel
theorem eL_316 : decode code 316 = .ok (.iadd, 1) := by decide +kernel
theorem eL_317 : decode code 317 = .ok (.iaload, 1) := by decide +kernel
theorem eL_318 : decode code 318 = .ok (.aload_n 0, 1) := by decide +kernel
theorem eL_319 : decode code 319 = .ok (.iload_n 3, 1) := by decide +kernel
theorem eL_320 : decode code 320 = .ok (.iconst 3, 1) := by decide +kernel
theorem eL_321 : decode code 321 = .ok (.iadd, 1) := by decide +kernel
theorem eL_322 : decode code 322 = .ok (.iaload, 1) := by decide +kernel
theorem eL_323 : decode code 323 = .ok (.invokevirtual 26, 3) := by decide +kernel
theorem eL_326 : decode code 326 = .ok (.if_icmp .eq 1139, 3) := by decide +kernel
theorem eL_329 : decode code 329 = .ok (.iconst 0, 1) := by decide +kernel
theorem eL_330 : decode code 330 = .ok (.ireturn, 1) := by decide +kernel
theorem eL_331 : decode code 331 = .ok (.aload_n 1, 1) := by decide +kernel
theorem eL_332 : decode code 332 = .ok (.aload_n 0, 1) := by decide +kernel
theorem eL_333 : decode code 333 = .ok (.iload_n 3, 1) := by decide +kernel
theorem eL_334 : decode code 334 = .ok (.iconst 1, 1) := by decide +kernel
theorem eL_335 : decode code 335 = .ok (.iadd, 1) := by decide +kernel
theorem eL_336 : decode code 336 = .ok (.iaload, 1) := by decide +kernel
theorem eL_337 : decode code 337 = .ok (.aload_n 0, 1) := by decide +kernel
theorem eL_338 : decode code 338 = .ok (.iload_n 3, 1) := by decide +kernel
theorem eL_339 : decode code 339 = .ok (.iconst 2, 1) := by decide +kernel
theorem eL_340 : decode code 340 = .ok (.iadd, 1) := by decide +kernel
theorem eL_341 : decode code 341 = .ok (.iaload, 1) := by decide +kernel
theorem eL_342 : decode code 342 = .ok (.invokevirtual 27, 3) := by decide +kernel
theorem eL_345 : decode code 345 = .ok (.aload_n 2, 1) := by decide +kernel
theorem eL_346 : decode code 346 = .ok (.aload_n 0, 1) := by decide +kernel
theorem eL_347 : decode code 347 = .ok (.iload_n 3, 1) := by decide +kernel
theorem eL_348 : decode code 348 = .ok (.iconst 1, 1) := by decide +kernel
theorem eL_349 : decode code 349 = .ok (.iadd, 1) := by decide +kernel
theorem eL_350 : decode code 350 = .ok (.iaload, 1) := by decide +kernel
theorem eL_351 : decode code 351 = .ok (.aload_n 0, 1) := by decide +kernel
theorem eL_352 : decode code 352 = .ok (.iload_n 3, 1) := by decide +kernel
theorem eL_353 : decode code 353 = .ok (.iconst 2, 1) := by decide +kernel
theorem eL_354 : decode code 354 = .ok (.iadd, 1) := by decide +kernel
theorem eL_355 : decode code 355 = .ok (.iaload, 1) := by decide +kernel
theorem eL_356 : decode code 356 = .ok (.invokevirtual 30, 3) := by decide +kernel
theorem eL_359 : decode code 359 = .ok (.if_icmp .eq 1106, 3) := by decide +kernel
theorem eL_362 : decode code 362 = .ok (.iconst 0, 1) := by decide +kernel
theorem eL_363 : decode code 363 = .ok (.ireturn, 1) := by decide +kernel
theorem eL_364 : decode code 364 = .ok (.aload_n 1, 1) := by decide +kernel
theorem eL_365 : decode code 365 = .ok (.aload_n 0, 1) := by decide +kernel
theorem eL_366 : decode code 366 = .ok (.iload_n 3, 1) := by decide +kernel
theorem eL_367 : decode code 367 = .ok (.iconst 1, 1) := by decide +kernel
theorem eL_368 : decode code 368 = .ok (.iadd, 1) := by decide +kernel
theorem eL_369 : decode code 369 = .ok (.iaload, 1) := by decide +kernel
theorem eL_370 : decode code 370 = .ok (.aload_n 0, 1) := by decide +kernel
theorem eL_371 : decode code 371 = .ok (.iload_n 3, 1) := by decide +kernel
theorem eL_372 : decode code 372 = .ok (.iconst 2, 1) := by decide +kernel
theorem eL_373 : decode code 373 = .ok (.iadd, 1) := by decide +kernel
theorem eL_374 : decode code 374 = .ok (.iaload, 1) := by decide +kernel
theorem eL_375 : decode code 375 = .ok (.invokevirtual 31, 3) := by decide +kernel
theorem eL_378 : decode code 378 = .ok (.aload_n 2, 1) := by decide +kernel
theorem eL_379 : decode code 379 = .ok (.aload_n 0, 1) := by decide +kernel
theorem eL_380 : decode code 380 = .ok (.iload_n 3, 1) := by decide +kernel
theorem eL_381 : decode code 381 = .ok (.iconst 1, 1) := by decide +kernel
theorem eL_382 : decode code 382 = .ok (.iadd, 1) := by decide +kernel
theorem eL_383 : decode code 383 = .ok (.iaload, 1) := by decide +kernel
theorem eL_384 : decode code 384 = .ok (.aload_n 0, 1) := by decide +kernel
theorem eL_385 : decode code 385 = .ok (.iload_n 3, 1) := by decide +kernel
theorem eL_386 : decode code 386 = .ok (.iconst 2, 1) := by decide +kernel
theorem eL_387 : decode code 387 = .ok (.iadd, 1) := by decide +kernel
theorem eL_388 : decode code 388 = .ok (.iaload, 1) := by decide +kernel
theorem eL_389 : decode code 389 = .ok (.invokevirtual 34, 3) := by decide +kernel
theorem eL_392 : decode code 392 = .ok (.if_icmp .eq 1073, 3) := by decide +kernel
theorem eL_395 : decode code 395 = .ok (.iconst 0, 1) := by decide +kernel
theorem eL_396 : decode code 396 = .ok (.ireturn, 1) := by decide +kernel
theorem eL_397 : decode code 397 = .ok (.aload_n 1, 1) := by decide +kernel
theorem eL_398 : decode code 398 = .ok (.aload_n 0, 1) := by decide +kernel
theorem eL_399 : decode code 399 = .ok (.iload_n 3, 1) := by decide +kernel
theorem eL_400 : decode code 400 = .ok (.iconst 1, 1) := by decide +kernel
theorem eL_401 : decode code 401 = .ok (.iadd, 1) := by decide +kernel
theorem eL_402 : decode code 402 = .ok (.iaload, 1) := by decide +kernel
theorem eL_403 : decode code 403 = .ok (.aload_n 0, 1) := by decide +kernel
theorem eL_404 : decode code 404 = .ok (.iload_n 3, 1) := by decide +kernel
theorem eL_405 : decode code 405 = .ok (.iconst 2, 1) := by decide +kernel
theorem eL_406 : decode code 406 = .ok (.iadd, 1) := by decide +kernel
theorem eL_407 : decode code 407 = .ok (.iaload, 1) := by decide +kernel
theorem eL_408 : decode code 408 = .ok (.invokevirtual 35, 3) := by decide +kernel
theorem eL_411 : decode code 411 = .ok (.aload_n 2, 1) := by decide +kernel
theorem eL_412 : decode code 412 = .ok (.aload_n 0, 1) := by decide +kernel
theorem eL_413 : decode code 413 = .ok (.iload_n 3, 1) := by decide +kernel
theorem eL_414 : decode code 414 = .ok (.iconst 1, 1) := by decide +kernel
theorem eL_415 : decode code 415 = .ok (.iadd, 1) := by decide +kernel
theorem eL_416 : decode code 416 = .ok (.iaload, 1) := by decide +kernel
theorem eL_417 : decode code 417 = .ok (.aload_n 0, 1) := by decide +kernel
theorem eL_418 : decode code 418 = .ok (.iload_n 3, 1) := by decide +kernel
theorem eL_419 : decode code 419 = .ok (.iconst 2, 1) := by decide +kernel
theorem eL_420 : decode code 420 = .ok (.iadd, 1) := by decide +kernel
theorem eL_421 : decode code 421 = .ok (.iaload, 1) := by decide +kernel
theorem eL_422 : decode code 422 = .ok (.invokevirtual 38, 3) := by decide +kernel
theorem eL_425 : decode code 425 = .ok (.if_icmp .eq 1040, 3) := by decide +kernel
theorem eL_428 : decode code 428 = .ok (.iconst 0, 1) := by decide +kernel
theorem eL_429 : decode code 429 = .ok (.ireturn, 1) := by decide +kernel
theorem eL_430 : decode code 430 = .ok (.aload_n 1, 1) := by decide +kernel
theorem eL_431 : decode code 431 = .ok (.aload_n 0, 1) := by decide +kernel
theorem eL_432 : decode code 432 = .ok (.iload_n 3, 1) := by decide +kernel
theorem eL_433 : decode code 433 = .ok (.iconst 1, 1) := by decide +kernel
theorem eL_434 : decode code 434 = .ok (.iadd, 1) := by decide +kernel
theorem eL_435 : decode code 435 = .ok (.iaload, 1) := by decide +kernel
theorem eL_436 : decode code 436 = .ok (.aload_n 0, 1) := by decide +kernel
theorem eL_437 : decode code 437 = .ok (.iload_n 3, 1) := by decide +kernel
theorem eL_438 : decode code 438 = .ok (.iconst 2, 1) := by decide +kernel
theorem eL_439 : decode code 439 = .ok (.iadd, 1) := by decide +kernel
theorem eL_440 : decode code 440 = .ok (.iaload, 1) := by decide +kernel
theorem eL_441 : decode code 441 = .ok (.invokevirtual 39, 3) := by decide +kernel
theorem eL_444 : decode code 444 = .ok (.aload_n 2, 1) := by decide +kernel
theorem eL_445 : decode code 445 = .ok (.aload_n 0, 1) := by decide +kernel
theorem eL_446 : decode code 446 = .ok (.iload_n 3, 1) := by decide +kernel
theorem eL_447 : decode code 447 = .ok (.iconst 1, 1) := by decide +kernel
theorem eL_448 : decode code 448 = .ok (.iadd, 1) := by decide +kernel
theorem eL_449 : decode code 449 = .ok (.iaload, 1) := by decide +kernel
theorem eL_450 : decode code 450 = .ok (.aload_n 0, 1) := by decide +kernel
theorem eL_451 : decode code 451 = .ok (.iload_n 3, 1) := by decide +kernel
theorem eL_452 : decode code 452 = .ok (.iconst 2, 1) := by decide +kernel
theorem eL_453 : decode code 453 = .ok (.iadd, 1) := by decide +kernel
theorem eL_454 : decode code 454 = .ok (.iaload, 1) := by decide +kernel
theorem eL_455 : decode code 455 = .ok (.invokevirtual 42, 3) := by decide +kernel
theorem eL_458 : decode code 458 = .ok (.if_icmp .eq 1007, 3) := by decide +kernel
theorem eL_461 : decode code 461 = .ok (.iconst 0, 1) := by decide +kernel
theorem eL_462 : decode code 462 = .ok (.ireturn, 1) := by decide +kernel
theorem eL_463 : decode code 463 = .ok (.aload_n 1, 1) := by decide +kernel
theorem eL_464 : decode code 464 = .ok (.aload_n 0, 1) := by decide +kernel
theorem eL_465 : decode code 465 = .ok (.iload_n 3, 1) := by decide +kernel
theorem eL_466 : decode code 466 = .ok (.iconst 1, 1) := by decide +kernel
theorem eL_467 : decode code 467 = .ok (.iadd, 1) := by decide +kernel
theorem eL_468 : decode code 468 = .ok (.iaload, 1) := by decide +kernel
theorem eL_469 : decode code 469 = .ok (.aload_n 0, 1) := by decide +kernel
theorem eL_470 : decode code 470 = .ok (.iload_n 3, 1) := by decide +kernel
theorem eL_471 : decode code 471 = .ok (.iconst 2, 1) := by decide +kernel
theorem eL_472 : decode code 472 = .ok (.iadd, 1) := by decide +kernel
theorem eL_473 : decode code 473 = .ok (.iaload, 1) := by decide +kernel
theorem eL_474 : decode code 474 = .ok (.invokevirtual 43, 3) := by decide +kernel
theorem eL_477 : decode code 477 = .ok (.aload_n 2, 1) := by decide +kernel
theorem eL_478 : decode code 478 = .ok (.aload_n 0, 1) := by decide +kernel
theorem eL_479 : decode code 479 = .ok (.iload_n 3, 1) := by decide +kernel
theorem eL_480 : decode code 480 = .ok (.iconst 1, 1) := by decide +kernel
theorem eL_481 : decode code 481 = .ok (.iadd, 1) := by decide +kernel
theorem eL_482 : decode code 482 = .ok (.iaload, 1) := by decide +kernel
theorem eL_483 : decode code 483 = .ok (.aload_n 0, 1) := by decide +kernel
theorem eL_484 : decode code 484 = .ok (.iload_n 3, 1) := by decide +kernel
theorem eL_485 : decode code 485 = .ok (.iconst 2, 1) := by decide +kernel
theorem eL_486 : decode code 486 = .ok (.iadd, 1) := by decide +kernel
theorem eL_487 : decode code 487 = .ok (.iaload, 1) := by decide +kernel
theorem eL_488 : decode code 488 = .ok (.invokevirtual 46, 3) := by decide +kernel
theorem eL_491 : decode code 491 = .ok (.if_icmp .eq 974, 3) := by decide +kernel
theorem eL_494 : decode code 494 = .ok (.iconst 0, 1) := by decide +kernel
theorem eL_495 : decode code 495 = .ok (.ireturn, 1) := by decide +kernel
theorem eL_496 : decode code 496 = .ok (.aload_n 1, 1) := by decide +kernel
theorem eL_497 : decode code 497 = .ok (.aload_n 0, 1) := by decide +kernel
theorem eL_498 : decode code 498 = .ok (.iload_n 3, 1) := by decide +kernel
theorem eL_499 : decode code 499 = .ok (.iconst 1, 1) := by decide +kernel
theorem eL_500 : decode code 500 = .ok (.iadd, 1) := by decide +kernel
theorem eL_501 : decode code 501 = .ok (.iaload, 1) := by decide +kernel
theorem eL_502 : decode code 502 = .ok (.aload_n 0, 1) := by decide +kernel
theorem eL_503 : decode code 503 = .ok (.iload_n 3, 1) := by decide +kernel
theorem eL_504 : decode code 504 = .ok (.iconst 2, 1) := by decide +kernel
theorem eL_505 : decode code 505 = .ok (.iadd, 1) := by decide +kernel
theorem eL_506 : decode code 506 = .ok (.iaload, 1) := by decide +kernel
theorem eL_507 : decode code 507 = .ok (.invokevirtual 47, 3) := by decide +kernel
theorem eL_510 : decode code 510 = .ok (.aload_n 2, 1) := by decide +kernel
theorem eL_511 : decode code 511 = .ok (.aload_n 0, 1) := by decide +kernel
theorem eL_512 : decode code 512 = .ok (.iload_n 3, 1) := by decide +kernel
theorem eL_513 : decode code 513 = .ok (.iconst 1, 1) := by decide +kernel
theorem eL_514 : decode code 514 = .ok (.iadd, 1) := by decide +kernel
theorem eL_515 : decode code 515 = .ok (.iaload, 1) := by decide +kernel
theorem eL_516 : decode code 516 = .ok (.aload_n 0, 1) := by decide +kernel
theorem eL_517 : decode code 517 = .ok (.iload_n 3, 1) := by decide +kernel
theorem eL_518 : decode code 518 = .ok (.iconst 2, 1) := by decide +kernel
theorem eL_519 : decode code 519 = .ok (.iadd, 1) := by decide +kernel
theorem eL_520 : decode code 520 = .ok (.iaload, 1) := by decide +kernel
theorem eL_521 : decode code 521 = .ok (.invokevirtual 50, 3) := by decide +kernel
theorem eL_524 : decode code 524 = .ok (.if_icmp .eq 941, 3) := by decide +kernel
theorem eL_527 : decode code 527 = .ok (.iconst 0, 1) := by decide +kernel
theorem eL_528 : decode code 528 = .ok (.ireturn, 1) := by decide +kernel
theorem eL_529 : decode code 529 = .ok (.aload_n 1, 1) := by decide +kernel
theorem eL_530 : decode code 530 = .ok (.aload_n 0, 1) := by decide +kernel
theorem eL_531 : decode code 531 = .ok (.iload_n 3, 1) := by decide +kernel
theorem eL_532 : decode code 532 = .ok (.iconst 1, 1) := by decide +kernel
theorem eL_533 : decode code 533 = .ok (.iadd, 1) := by decide +kernel
theorem eL_534 : decode code 534 = .ok (.iaload, 1) := by decide +kernel
theorem eL_535 : decode code 535 = .ok (.aload_n 0, 1) := by decide +kernel
theorem eL_536 : decode code 536 = .ok (.iload_n 3, 1) := by decide +kernel
theorem eL_537 : decode code 537 = .ok (.iconst 2, 1) := by decide +kernel
theorem eL_538 : decode code 538 = .ok (.iadd, 1) := by decide +kernel
theorem eL_539 : decode code 539 = .ok (.iaload, 1) := by decide +kernel
theorem eL_540 : decode code 540 = .ok (.invokevirtual 51, 3) := by decide +kernel
theorem eL_543 : decode code 543 = .ok (.aload_n 2, 1) := by decide +kernel
theorem eL_544 : decode code 544 = .ok (.aload_n 0, 1) := by decide +kernel
theorem eL_545 : decode code 545 = .ok (.iload_n 3, 1) := by decide +kernel
theorem eL_546 : decode code 546 = .ok (.iconst 1, 1) := by decide +kernel
theorem eL_547 : decode code 547 = .ok (.iadd, 1) := by decide +kernel
theorem eL_548 : decode code 548 = .ok (.iaload, 1) := by decide +kernel
theorem eL_549 : decode code 549 = .ok (.aload_n 0, 1) := by decide +kernel
theorem eL_550 : decode code 550 = .ok (.iload_n 3, 1) := by decide +kernel
theorem eL_551 : decode code 551 = .ok (.iconst 2, 1) := by decide +kernel
theorem eL_552 : decode code 552 = .ok (.iadd, 1) := by decide +kernel
theorem eL_553 : decode code 553 = .ok (.iaload, 1) := by decide +kernel
theorem eL_554 : decode code 554 = .ok (.invokevirtual 54, 3) := by decide +kernel
theorem eL_557 : decode code 557 = .ok (.if_icmp .eq 908, 3) := by decide +kernel
theorem eL_560 : decode code 560 = .ok (.iconst 0, 1) := by decide +kernel
theorem eL_561 : decode code 561 = .ok (.ireturn, 1) := by decide +kernel
theorem eL_562 : decode code 562 = .ok (.aload_n 1, 1) := by decide +kernel
theorem eL_563 : decode code 563 = .ok (.aload_n 0, 1) := by decide +kernel
theorem eL_564 : decode code 564 = .ok (.iload_n 3, 1) := by decide +kernel
theorem eL_565 : decode code 565 = .ok (.iconst 1, 1) := by decide +kernel
theorem eL_566 : decode code 566 = .ok (.iadd, 1) := by decide +kernel
theorem eL_567 : decode code 567 = .ok (.iaload, 1) := by decide +kernel
theorem eL_568 : decode code 568 = .ok (.aload_n 0, 1) := by decide +kernel
theorem eL_569 : decode code 569 = .ok (.iload_n 3, 1) := by decide +kernel
theorem eL_570 : decode code 570 = .ok (.iconst 2, 1) := by decide +kernel
theorem eL_571 : decode code 571 = .ok (.iadd, 1) := by decide +kernel
theorem eL_572 : decode code 572 = .ok (.iaload, 1) := by decide +kernel
theorem eL_573 : decode code 573 = .ok (.invokevirtual 55, 3) := by decide +kernel
theorem eL_576 : decode code 576 = .ok (.aload_n 2, 1) := by decide +kernel
theorem eL_577 : decode code 577 = .ok (.aload_n 0, 1) := by decide +kernel
theorem eL_578 : decode code 578 = .ok (.iload_n 3, 1) := by decide +kernel
theorem eL_579 : decode code 579 = .ok (.iconst 1, 1) := by decide +kernel
theorem eL_580 : decode code 580 = .ok (.iadd, 1) := by decide +kernel
theorem eL_581 : decode code 581 = .ok (.iaload, 1) := by decide +kernel
theorem eL_582 : decode code 582 = .ok (.aload_n 0, 1) := by decide +kernel
theorem eL_583 : decode code 583 = .ok (.iload_n 3, 1) := by decide +kernel
theorem eL_584 : decode code 584 = .ok (.iconst 2, 1) := by decide +kernel
theorem eL_585 : decode code 585 = .ok (.iadd, 1) := by decide +kernel
theorem eL_586 : decode code 586 = .ok (.iaload, 1) := by decide +kernel
theorem eL_587 : decode code 587 = .ok (.invokevirtual 58, 3) := by decide +kernel
theorem eL_590 : decode code 590 = .ok (.if_icmp .eq 875, 3) := by decide +kernel
theorem eL_593 : decode code 593 = .ok (.iconst 0, 1) := by decide +kernel
theorem eL_594 : decode code 594 = .ok (.ireturn, 1) := by decide +kernel
theorem eL_595 : decode code 595 = .ok (.aload_n 1, 1) := by decide +kernel
theorem eL_596 : decode code 596 = .ok (.aload_n 0, 1) := by decide +kernel
theorem eL_597 : decode code 597 = .ok (.iload_n 3, 1) := by decide +kernel
theorem eL_598 : decode code 598 = .ok (.iconst 1, 1) := by decide +kernel
theorem eL_599 : decode code 599 = .ok (.iadd, 1) := by decide +kernel
theorem eL_600 : decode code 600 = .ok (.iaload, 1) := by decide +kernel
theorem eL_601 : decode code 601 = .ok (.invokevirtual 59, 3) := by decide +kernel
theorem eL_604 : decode code 604 = .ok (.aload_n 2, 1) := by decide +kernel
theorem eL_605 : decode code 605 = .ok (.aload_n 0, 1) := by decide +kernel
theorem eL_606 : decode code 606 = .ok (.iload_n 3, 1) := by decide +kernel
theorem eL_607 : decode code 607 = .ok (.iconst 1, 1) := by decide +kernel
theorem eL_608 : decode code 608 = .ok (.iadd, 1) := by decide +kernel
theorem eL_609 : decode code 609 = .ok (.iaload, 1) := by decide +kernel
theorem eL_610 : decode code 610 = .ok (.invokevirtual 63, 3) := by decide +kernel
theorem eL_613 : decode code 613 = .ok (.if_icmp .eq 852, 3) := by decide +kernel
theorem eL_616 : decode code 616 = .ok (.iconst 0, 1) := by decide +kernel
theorem eL_617 : decode code 617 = .ok (.ireturn, 1) := by decide +kernel
theorem eL_618 : decode code 618 = .ok (.aload_n 1, 1) := by decide +kernel
theorem eL_619 : decode code 619 = .ok (.invokevirtual 64, 3) := by decide +kernel
theorem eL_622 : decode code 622 = .ok (.aload_n 2, 1) := by decide +kernel
theorem eL_623 : decode code 623 = .ok (.invokevirtual 68, 3) := by decide +kernel
theorem eL_626 : decode code 626 = .ok (.if_icmp .eq 839, 3) := by decide +kernel
theorem eL_629 : decode code 629 = .ok (.iconst 0, 1) := by decide +kernel
theorem eL_630 : decode code 630 = .ok (.ireturn, 1) := by decide +kernel
theorem eL_631 : decode code 631 = .ok (.aload_n 1, 1) := by decide +kernel
theorem eL_632 : decode code 632 = .ok (.aload_n 0, 1) := by decide +kernel
theorem eL_633 : decode code 633 = .ok (.iload_n 3, 1) := by decide +kernel
theorem eL_634 : decode code 634 = .ok (.iconst 1, 1) := by decide +kernel
theorem eL_635 : decode code 635 = .ok (.iadd, 1) := by decide +kernel
theorem eL_636 : decode code 636 = .ok (.iaload, 1) := by decide +kernel
theorem eL_637 : decode code 637 = .ok (.invokevirtual 69, 3) := by decide +kernel
theorem eL_640 : decode code 640 = .ok (.aload_n 2, 1) := by decide +kernel
theorem eL_641 : decode code 641 = .ok (.aload_n 0, 1) := by decide +kernel
theorem eL_642 : decode code 642 = .ok (.iload_n 3, 1) := by decide +kernel
theorem eL_643 : decode code 643 = .ok (.iconst 1, 1) := by decide +kernel
theorem eL_644 : decode code 644 = .ok (.iadd, 1) := by decide +kernel
theorem eL_645 : decode code 645 = .ok (.iaload, 1) := by decide +kernel
theorem eL_646 : decode code 646 = .ok (.invokevirtual 72, 3) := by decide +kernel
theorem eL_649 : decode code 649 = .ok (.if_icmp .eq 816, 3) := by decide +kernel
theorem eL_652 : decode code 652 = .ok (.iconst 0, 1) := by decide +kernel
theorem eL_653 : decode code 653 = .ok (.ireturn, 1) := by decide +kernel
theorem eL_654 : decode code 654 = .ok (.aload_n 1, 1) := by decide +kernel
theorem eL_655 : decode code 655 = .ok (.aload_n 0, 1) := by decide +kernel
theorem eL_656 : decode code 656 = .ok (.iload_n 3, 1) := by decide +kernel
theorem eL_657 : decode code 657 = .ok (.iconst 1, 1) := by decide +kernel
theorem eL_658 : decode code 658 = .ok (.iadd, 1) := by decide +kernel
theorem eL_659 : decode code 659 = .ok (.iaload, 1) := by decide +kernel
theorem eL_660 : decode code 660 = .ok (.invokevirtual 73, 3) := by decide +kernel
theorem eL_663 : decode code 663 = .ok (.aload_n 2, 1) := by decide +kernel
theorem eL_664 : decode code 664 = .ok (.aload_n 0, 1) := by decide +kernel
theorem eL_665 : decode code 665 = .ok (.iload_n 3, 1) := by decide +kernel
theorem eL_666 : decode code 666 = .ok (.iconst 1, 1) := by decide +kernel
theorem eL_667 : decode code 667 = .ok (.iadd, 1) := by decide +kernel
theorem eL_668 : decode code 668 = .ok (.iaload, 1) := by decide +kernel
theorem eL_669 : decode code 669 = .ok (.invokevirtual 76, 3) := by decide +kernel
theorem eL_672 : decode code 672 = .ok (.if_icmp .eq 793, 3) := by decide +kernel
theorem eL_675 : decode code 675 = .ok (.iconst 0, 1) := by decide +kernel
theorem eL_676 : decode code 676 = .ok (.ireturn, 1) := by decide +kernel
theorem eL_677 : decode code 677 = .ok (.aload_n 1, 1) := by decide +kernel
theorem eL_678 : decode code 678 = .ok (.aload_n 0, 1) := by decide +kernel
theorem eL_679 : decode code 679 = .ok (.iload_n 3, 1) := by decide +kernel
theorem eL_680 : decode code 680 = .ok (.iconst 1, 1) := by decide +kernel
theorem eL_681 : decode code 681 = .ok (.iadd, 1) := by decide +kernel
theorem eL_682 : decode code 682 = .ok (.iaload, 1) := by decide +kernel
theorem eL_683 : decode code 683 = .ok (.invokevirtual 77, 3) := by decide +kernel
theorem eL_686 : decode code 686 = .ok (.aload_n 2, 1) := by decide +kernel
theorem eL_687 : decode code 687 = .ok (.aload_n 0, 1) := by decide +kernel
theorem eL_688 : decode code 688 = .ok (.iload_n 3, 1) := by decide +kernel
theorem eL_689 : decode code 689 = .ok (.iconst 1, 1) := by decide +kernel
theorem eL_690 : decode code 690 = .ok (.iadd, 1) := by decide +kernel
theorem eL_691 : decode code 691 = .ok (.iaload, 1) := by decide +kernel
theorem eL_692 : decode code 692 = .ok (.invokevirtual 80, 3) := by decide +kernel
theorem eL_695 : decode code 695 = .ok (.if_icmp .eq 770, 3) := by decide +kernel
theorem eL_698 : decode code 698 = .ok (.iconst 0, 1) := by decide +kernel
theorem eL_699 : decode code 699 = .ok (.ireturn, 1) := by decide +kernel
theorem eL_700 : decode code 700 = .ok (.aload_n 1, 1) := by decide +kernel
theorem eL_701 : decode code 701 = .ok (.aload_n 0, 1) := by decide +kernel
theorem eL_702 : decode code 702 = .ok (.iload_n 3, 1) := by decide +kernel
theorem eL_703 : decode code 703 = .ok (.iconst 1, 1) := by decide +kernel
theorem eL_704 : decode code 704 = .ok (.iadd, 1) := by decide +kernel
theorem eL_705 : decode code 705 = .ok (.iaload, 1) := by decide +kernel
theorem eL_706 : decode code 706 = .ok (.aload_n 0, 1) := by decide +kernel
theorem eL_707 : decode code 707 = .ok (.iload_n 3, 1) := by decide +kernel
theorem eL_708 : decode code 708 = .ok (.iconst 2, 1) := by decide +kernel
theorem eL_709 : decode code 709 = .ok (.iadd, 1) := by decide +kernel
theorem eL_710 : decode code 710 = .ok (.iaload, 1) := by decide +kernel
theorem eL_711 : decode code 711 = .ok (.aload_n 0, 1) := by decide +kernel
theorem eL_712 : decode code 712 = .ok (.iload_n 3, 1) := by decide +kernel
theorem eL_713 : decode code 713 = .ok (.iconst 3, 1) := by decide +kernel
theorem eL_714 : decode code 714 = .ok (.iadd, 1) := by decide +kernel
theorem eL_715 : decode code 715 = .ok (.iaload, 1) := by decide +kernel
theorem eL_716 : decode code 716 = .ok (.invokevirtual 81, 3) := by decide +kernel
theorem eL_719 : decode code 719 = .ok (.aload_n 2, 1) := by decide +kernel
theorem eL_720 : decode code 720 = .ok (.aload_n 0, 1) := by decide +kernel
theorem eL_721 : decode code 721 = .ok (.iload_n 3, 1) := by decide +kernel
theorem eL_722 : decode code 722 = .ok (.iconst 1, 1) := by decide +kernel
theorem eL_723 : decode code 723 = .ok (.iadd, 1) := by decide +kernel
theorem eL_724 : decode code 724 = .ok (.iaload, 1) := by decide +kernel
theorem eL_725 : decode code 725 = .ok (.aload_n 0, 1) := by decide +kernel
theorem eL_726 : decode code 726 = .ok (.iload_n 3, 1) := by decide +kernel
theorem eL_727 : decode code 727 = .ok (.iconst 2, 1) := by decide +kernel
theorem eL_728 : decode code 728 = .ok (.iadd, 1) := by decide +kernel
theorem eL_729 : decode code 729 = .ok (.iaload, 1) := by decide +kernel
theorem eL_730 : decode code 730 = .ok (.aload_n 0, 1) := by decide +kernel
theorem eL_731 : decode code 731 = .ok (.iload_n 3, 1) := by decide +kernel
theorem eL_732 : decode code 732 = .ok (.iconst 3, 1) := by decide +kernel
theorem eL_733 : decode code 733 = .ok (.iadd, 1) := by decide +kernel
theorem eL_734 : decode code 734 = .ok (.iaload, 1) := by decide +kernel
theorem eL_735 : decode code 735 = .ok (.invokevirtual 84, 3) := by decide +kernel
theorem eL_738 : decode code 738 = .ok (.if_icmp .eq 727, 3) := by decide +kernel
theorem eL_741 : decode code 741 = .ok (.iconst 0, 1) := by decide +kernel
theorem eL_742 : decode code 742 = .ok (.ireturn, 1) := by decide +kernel
theorem eL_743 : decode code 743 = .ok (.aload_n 1, 1) := by decide +kernel
theorem eL_744 : decode code 744 = .ok (.aload_n 0, 1) := by decide +kernel
theorem eL_745 : decode code 745 = .ok (.iload_n 3, 1) := by decide +kernel
theorem eL_746 : decode code 746 = .ok (.iconst 1, 1) := by decide +kernel
theorem eL_747 : decode code 747 = .ok (.iadd, 1) := by decide +kernel
theorem eL_748 : decode code 748 = .ok (.iaload, 1) := by decide +kernel
theorem eL_749 : decode code 749 = .ok (.invokevirtual 85, 3) := by decide +kernel
theorem eL_752 : decode code 752 = .ok (.aload_n 2, 1) := by decide +kernel
theorem eL_753 : decode code 753 = .ok (.aload_n 0, 1) := by decide +kernel
theorem eL_754 : decode code 754 = .ok (.iload_n 3, 1) := by decide +kernel
theorem eL_755 : decode code 755 = .ok (.iconst 1, 1) := by decide +kernel
theorem eL_756 : decode code 756 = .ok (.iadd, 1) := by decide +kernel
theorem eL_757 : decode code 757 = .ok (.iaload, 1) := by decide +kernel
theorem eL_758 : decode code 758 = .ok (.invokevirtual 88, 3) := by decide +kernel
theorem eL_761 : decode code 761 = .ok (.if_icmp .eq 704, 3) := by decide +kernel
theorem eL_764 : decode code 764 = .ok (.iconst 0, 1) := by decide +kernel
theorem eL_765 : decode code 765 = .ok (.ireturn, 1) := by decide +kernel
theorem eL_766 : decode code 766 = .ok (.aload_n 1, 1) := by decide +kernel
theorem eL_767 : decode code 767 = .ok (.invokevirtual 89, 3) := by decide +kernel
theorem eL_770 : decode code 770 = .ok (.aload_n 2, 1) := by decide +kernel
theorem eL_771 : decode code 771 = .ok (.invokevirtual 92, 3) := by decide +kernel
theorem eL_774 : decode code 774 = .ok (.if_icmp .eq 691, 3) := by decide +kernel
theorem eL_777 : decode code 777 = .ok (.iconst 0, 1) := by decide +kernel
theorem eL_778 : decode code 778 = .ok (.ireturn, 1) := by decide +kernel
theorem eL_779 : decode code 779 = .ok (.aload_n 1, 1) := by decide +kernel
theorem eL_780 : decode code 780 = .ok (.aload_n 0, 1) := by decide +kernel
theorem eL_781 : decode code 781 = .ok (.iload_n 3, 1) := by decide +kernel
theorem eL_782 : decode code 782 = .ok (.iconst 1, 1) := by decide +kernel
theorem eL_783 : decode code 783 = .ok (.iadd, 1) := by decide +kernel
theorem eL_784 : decode code 784 = .ok (.iaload, 1) := by decide +kernel
theorem eL_785 : decode code 785 = .ok (.aload_n 0, 1) := by decide +kernel
theorem eL_786 : decode code 786 = .ok (.iload_n 3, 1) := by decide +kernel
theorem eL_787 : decode code 787 = .ok (.iconst 2, 1) := by decide +kernel
theorem eL_788 : decode code 788 = .ok (.iadd, 1) := by decide +kernel
theorem eL_789 : decode code 789 = .ok (.iaload, 1) := by decide +kernel
theorem eL_790 : decode code 790 = .ok (.invokevirtual 93, 3) := by decide +kernel
theorem eL_793 : decode code 793 = .ok (.aload_n 2, 1) := by decide +kernel
theorem eL_794 : decode code 794 = .ok (.aload_n 0, 1) := by decide +kernel
theorem eL_795 : decode code 795 = .ok (.iload_n 3, 1) := by decide +kernel
theorem eL_796 : decode code 796 = .ok (.iconst 1, 1) := by decide +kernel
theorem eL_797 : decode code 797 = .ok (.iadd, 1) := by decide +kernel
theorem eL_798 : decode code 798 = .ok (.iaload, 1) := by decide +kernel
theorem eL_799 : decode code 799 = .ok (.aload_n 0, 1) := by decide +kernel
theorem eL_800 : decode code 800 = .ok (.iload_n 3, 1) := by decide +kernel
theorem eL_801 : decode code 801 = .ok (.iconst 2, 1) := by decide +kernel
theorem eL_802 : decode code 802 = .ok (.iadd, 1) := by decide +kernel
theorem eL_803 : decode code 803 = .ok (.iaload, 1) := by decide +kernel
theorem eL_804 : decode code 804 = .ok (.invokevirtual 96, 3) := by decide +kernel
theorem eL_807 : decode code 807 = .ok (.if_icmp .eq 658, 3) := by decide +kernel
theorem eL_810 : decode code 810 = .ok (.iconst 0, 1) := by decide +kernel
theorem eL_811 : decode code 811 = .ok (.ireturn, 1) := by decide +kernel
theorem eL_812 : decode code 812 = .ok (.aload_n 1, 1) := by decide +kernel
theorem eL_813 : decode code 813 = .ok (.aload_n 0, 1) := by decide +kernel
theorem eL_814 : decode code 814 = .ok (.iload_n 3, 1) := by decide +kernel
theorem eL_815 : decode code 815 = .ok (.iconst 1, 1) := by decide +kernel
theorem eL_816 : decode code 816 = .ok (.iadd, 1) := by decide +kernel
theorem eL_817 : decode code 817 = .ok (.iaload, 1) := by decide +kernel
theorem eL_818 : decode code 818 = .ok (.aload_n 0, 1) := by decide +kernel
theorem eL_819 : decode code 819 = .ok (.iload_n 3, 1) := by decide +kernel
theorem eL_820 : decode code 820 = .ok (.iconst 2, 1) := by decide +kernel
theorem eL_821 : decode code 821 = .ok (.iadd, 1) := by decide +kernel
theorem eL_822 : decode code 822 = .ok (.iaload, 1) := by decide +kernel
theorem eL_823 : decode code 823 = .ok (.invokevirtual 97, 3) := by decide +kernel
theorem eL_826 : decode code 826 = .ok (.aload_n 2, 1) := by decide +kernel
theorem eL_827 : decode code 827 = .ok (.aload_n 0, 1) := by decide +kernel
theorem eL_828 : decode code 828 = .ok (.iload_n 3, 1) := by decide +kernel
theorem eL_829 : decode code 829 = .ok (.iconst 1, 1) := by decide +kernel
theorem eL_830 : decode code 830 = .ok (.iadd, 1) := by decide +kernel
theorem eL_831 : decode code 831 = .ok (.iaload, 1) := by decide +kernel
theorem eL_832 : decode code 832 = .ok (.aload_n 0, 1) := by decide +kernel
theorem eL_833 : decode code 833 = .ok (.iload_n 3, 1) := by decide +kernel
theorem eL_834 : decode code 834 = .ok (.iconst 2, 1) := by decide +kernel
theorem eL_835 : decode code 835 = .ok (.iadd, 1) := by decide +kernel
theorem eL_836 : decode code 836 = .ok (.iaload, 1) := by decide +kernel
theorem eL_837 : decode code 837 = .ok (.invokevirtual 100, 3) := by decide +kernel
theorem eL_840 : decode code 840 = .ok (.if_icmp .eq 625, 3) := by decide +kernel
theorem eL_843 : decode code 843 = .ok (.iconst 0, 1) := by decide +kernel
theorem eL_844 : decode code 844 = .ok (.ireturn, 1) := by decide +kernel
theorem eL_845 : decode code 845 = .ok (.aload_n 1, 1) := by decide +kernel
theorem eL_846 : decode code 846 = .ok (.aload_n 0, 1) := by decide +kernel
theorem eL_847 : decode code 847 = .ok (.iload_n 3, 1) := by decide +kernel
theorem eL_848 : decode code 848 = .ok (.iconst 1, 1) := by decide +kernel
theorem eL_849 : decode code 849 = .ok (.iadd, 1) := by decide +kernel
theorem eL_850 : decode code 850 = .ok (.iaload, 1) := by decide +kernel
theorem eL_851 : decode code 851 = .ok (.invokevirtual 101, 3) := by decide +kernel
theorem eL_854 : decode code 854 = .ok (.aload_n 2, 1) := by decide +kernel
theorem eL_855 : decode code 855 = .ok (.aload_n 0, 1) := by decide +kernel
theorem eL_856 : decode code 856 = .ok (.iload_n 3, 1) := by decide +kernel
theorem eL_857 : decode code 857 = .ok (.iconst 1, 1) := by decide +kernel
theorem eL_858 : decode code 858 = .ok (.iadd, 1) := by decide +kernel
theorem eL_859 : decode code 859 = .ok (.iaload, 1) := by decide +kernel
theorem eL_860 : decode code 860 = .ok (.invokevirtual 104, 3) := by decide +kernel
theorem eL_863 : decode code 863 = .ok (.if_icmp .eq 602, 3) := by decide +kernel
theorem eL_866 : decode code 866 = .ok (.iconst 0, 1) := by decide +kernel
theorem eL_867 : decode code 867 = .ok (.ireturn, 1) := by decide +kernel
theorem eL_868 : decode code 868 = .ok (.aload_n 1, 1) := by decide +kernel
theorem eL_869 : decode code 869 = .ok (.invokevirtual 105, 3) := by decide +kernel
theorem eL_872 : decode code 872 = .ok (.aload_n 2, 1) := by decide +kernel
theorem eL_873 : decode code 873 = .ok (.invokevirtual 108, 3) := by decide +kernel
theorem eL_876 : decode code 876 = .ok (.if_icmp .eq 589, 3) := by decide +kernel
theorem eL_879 : decode code 879 = .ok (.iconst 0, 1) := by decide +kernel
theorem eL_880 : decode code 880 = .ok (.ireturn, 1) := by decide +kernel
theorem eL_881 : decode code 881 = .ok (.aload_n 1, 1) := by decide +kernel
theorem eL_882 : decode code 882 = .ok (.aload_n 0, 1) := by decide +kernel
theorem eL_883 : decode code 883 = .ok (.iload_n 3, 1) := by decide +kernel
theorem eL_884 : decode code 884 = .ok (.iconst 1, 1) := by decide +kernel
theorem eL_885 : decode code 885 = .ok (.iadd, 1) := by decide +kernel
theorem eL_886 : decode code 886 = .ok (.iaload, 1) := by decide +kernel
theorem eL_887 : decode code 887 = .ok (.aload_n 0, 1) := by decide +kernel
theorem eL_888 : decode code 888 = .ok (.iload_n 3, 1) := by decide +kernel
theorem eL_889 : decode code 889 = .ok (.iconst 2, 1) := by decide +kernel
theorem eL_890 : decode code 890 = .ok (.iadd, 1) := by decide +kernel
theorem eL_891 : decode code 891 = .ok (.iaload, 1) := by decide +kernel
theorem eL_892 : decode code 892 = .ok (.aload_n 0, 1) := by decide +kernel
theorem eL_893 : decode code 893 = .ok (.iload_n 3, 1) := by decide +kernel
theorem eL_894 : decode code 894 = .ok (.iconst 3, 1) := by decide +kernel
theorem eL_895 : decode code 895 = .ok (.iadd, 1) := by decide +kernel
theorem eL_896 : decode code 896 = .ok (.iaload, 1) := by decide +kernel
theorem eL_897 : decode code 897 = .ok (.invokevirtual 109, 3) := by decide +kernel
theorem eL_900 : decode code 900 = .ok (.aload_n 2, 1) := by decide +kernel
theorem eL_901 : decode code 901 = .ok (.aload_n 0, 1) := by decide +kernel
theorem eL_902 : decode code 902 = .ok (.iload_n 3, 1) := by decide +kernel
theorem eL_903 : decode code 903 = .ok (.iconst 1, 1) := by decide +kernel
theorem eL_904 : decode code 904 = .ok (.iadd, 1) := by decide +kernel
theorem eL_905 : decode code 905 = .ok (.iaload, 1) := by decide +kernel
theorem eL_906 : decode code 906 = .ok (.aload_n 0, 1) := by decide +kernel
theorem eL_907 : decode code 907 = .ok (.iload_n 3, 1) := by decide +kernel
theorem eL_908 : decode code 908 = .ok (.iconst 2, 1) := by decide +kernel
theorem eL_909 : decode code 909 = .ok (.iadd, 1) := by decide +kernel
theorem eL_910 : decode code 910 = .ok (.iaload, 1) := by decide +kernel
theorem eL_911 : decode code 911 = .ok (.aload_n 0, 1) := by decide +kernel
theorem eL_912 : decode code 912 = .ok (.iload_n 3, 1) := by decide +kernel
theorem eL_913 : decode code 913 = .ok (.iconst 3, 1) := by decide +kernel
theorem eL_914 : decode code 914 = .ok (.iadd, 1) := by decide +kernel
theorem eL_915 : decode code 915 = .ok (.iaload, 1) := by decide +kernel
theorem eL_916 : decode code 916 = .ok (.invokevirtual 112, 3) := by decide +kernel
theorem eL_919 : decode code 919 = .ok (.if_icmp .eq 546, 3) := by decide +kernel
theorem eL_922 : decode code 922 = .ok (.iconst 0, 1) := by decide +kernel
theorem eL_923 : decode code 923 = .ok (.ireturn, 1) := by decide +kernel
theorem eL_924 : decode code 924 = .ok (.aload_n 1, 1) := by decide +kernel
theorem eL_925 : decode code 925 = .ok (.aload_n 0, 1) := by decide +kernel
theorem eL_926 : decode code 926 = .ok (.iload_n 3, 1) := by decide +kernel
theorem eL_927 : decode code 927 = .ok (.iconst 1, 1) := by decide +kernel
theorem eL_928 : decode code 928 = .ok (.iadd, 1) := by decide +kernel
theorem eL_929 : decode code 929 = .ok (.iaload, 1) := by decide +kernel
theorem eL_930 : decode code 930 = .ok (.invokevirtual 113, 3) := by decide +kernel
theorem eL_933 : decode code 933 = .ok (.aload_n 2, 1) := by decide +kernel
theorem eL_934 : decode code 934 = .ok (.aload_n 0, 1) := by decide +kernel
theorem eL_935 : decode code 935 = .ok (.iload_n 3, 1) := by decide +kernel
theorem eL_936 : decode code 936 = .ok (.iconst 1, 1) := by decide +kernel
theorem eL_937 : decode code 937 = .ok (.iadd, 1) := by decide +kernel
theorem eL_938 : decode code 938 = .ok (.iaload, 1) := by decide +kernel
theorem eL_939 : decode code 939 = .ok (.invokevirtual 116, 3) := by decide +kernel
theorem eL_942 : decode code 942 = .ok (.if_icmp .eq 523, 3) := by decide +kernel
theorem eL_945 : decode code 945 = .ok (.iconst 0, 1) := by decide +kernel
theorem eL_946 : decode code 946 = .ok (.ireturn, 1) := by decide +kernel
theorem eL_947 : decode code 947 = .ok (.aload_n 1, 1) := by decide +kernel
theorem eL_948 : decode code 948 = .ok (.aload_n 0, 1) := by decide +kernel
theorem eL_949 : decode code 949 = .ok (.iload_n 3, 1) := by decide +kernel
theorem eL_950 : decode code 950 = .ok (.iconst 1, 1) := by decide +kernel
theorem eL_951 : decode code 951 = .ok (.iadd, 1) := by decide +kernel
theorem eL_952 : decode code 952 = .ok (.iaload, 1) := by decide +kernel
theorem eL_953 : decode code 953 = .ok (.invokevirtual 117, 3) := by decide +kernel
theorem eL_956 : decode code 956 = .ok (.aload_n 2, 1) := by decide +kernel
theorem eL_957 : decode code 957 = .ok (.aload_n 0, 1) := by decide +kernel
theorem eL_958 : decode code 958 = .ok (.iload_n 3, 1) := by decide +kernel
theorem eL_959 : decode code 959 = .ok (.iconst 1, 1) := by decide +kernel
theorem eL_960 : decode code 960 = .ok (.iadd, 1) := by decide +kernel
theorem eL_961 : decode code 961 = .ok (.iaload, 1) := by decide +kernel
theorem eL_962 : decode code 962 = .ok (.invokevirtual 120, 3) := by decide +kernel
theorem eL_965 : decode code 965 = .ok (.if_icmp .eq 500, 3) := by decide +kernel
theorem eL_968 : decode code 968 = .ok (.iconst 0, 1) := by decide +kernel
theorem eL_969 : decode code 969 = .ok (.ireturn, 1) := by decide +kernel
theorem eL_970 : decode code 970 = .ok (.aload_n 1, 1) := by decide +kernel
theorem eL_971 : decode code 971 = .ok (.aload_n 0, 1) := by decide +kernel
theorem eL_972 : decode code 972 = .ok (.iload_n 3, 1) := by decide +kernel
theorem eL_973 : decode code 973 = .ok (.iconst 1, 1) := by decide +kernel
theorem eL_974 : decode code 974 = .ok (.iadd, 1) := by decide +kernel
theorem eL_975 : decode code 975 = .ok (.iaload, 1) := by decide +kernel
theorem eL_976 : decode code 976 = .ok (.aload_n 0, 1) := by decide +kernel
theorem eL_977 : decode code 977 = .ok (.iload_n 3, 1) := by decide +kernel
theorem eL_978 : decode code 978 = .ok (.iconst 2, 1) := by decide +kernel
theorem eL_979 : decode code 979 = .ok (.iadd, 1) := by decide +kernel
theorem eL_980 : decode code 980 = .ok (.iaload, 1) := by decide +kernel
theorem eL_981 : decode code 981 = .ok (.invokevirtual 121, 3) := by decide +kernel
theorem eL_984 : decode code 984 = .ok (.aload_n 2, 1) := by decide +kernel
theorem eL_985 : decode code 985 = .ok (.aload_n 0, 1) := by decide +kernel
theorem eL_986 : decode code 986 = .ok (.iload_n 3, 1) := by decide +kernel
theorem eL_987 : decode code 987 = .ok (.iconst 1, 1) := by decide +kernel
theorem eL_988 : decode code 988 = .ok (.iadd, 1) := by decide +kernel
theorem eL_989 : decode code 989 = .ok (.iaload, 1) := by decide +kernel
theorem eL_990 : decode code 990 = .ok (.aload_n 0, 1) := by decide +kernel
theorem eL_991 : decode code 991 = .ok (.iload_n 3, 1) := by decide +kernel
theorem eL_992 : decode code 992 = .ok (.iconst 2, 1) := by decide +kernel
theorem eL_993 : decode code 993 = .ok (.iadd, 1) := by decide +kernel
theorem eL_994 : decode code 994 = .ok (.iaload, 1) := by decide +kernel
theorem eL_995 : decode code 995 = .ok (.invokevirtual 124, 3) := by decide +kernel
theorem eL_998 : decode code 998 = .ok (.if_icmp .eq 467, 3) := by decide +kernel
theorem eL_1001 : decode code 1001 = .ok (.iconst 0, 1) := by decide +kernel
theorem eL_1002 : decode code 1002 = .ok (.ireturn, 1) := by decide +kernel
theorem eL_1003 : decode code 1003 = .ok (.aload_n 1, 1) := by decide +kernel
theorem eL_1004 : decode code 1004 = .ok (.aload_n 0, 1) := by decide +kernel
theorem eL_1005 : decode code 1005 = .ok (.iload_n 3, 1) := by decide +kernel
theorem eL_1006 : decode code 1006 = .ok (.iconst 1, 1) := by decide +kernel
theorem eL_1007 : decode code 1007 = .ok (.iadd, 1) := by decide +kernel
theorem eL_1008 : decode code 1008 = .ok (.iaload, 1) := by decide +kernel
theorem eL_1009 : decode code 1009 = .ok (.aload_n 0, 1) := by decide +kernel
theorem eL_1010 : decode code 1010 = .ok (.iload_n 3, 1) := by decide +kernel
theorem eL_1011 : decode code 1011 = .ok (.iconst 2, 1) := by decide +kernel
theorem eL_1012 : decode code 1012 = .ok (.iadd, 1) := by decide +kernel
theorem eL_1013 : decode code 1013 = .ok (.iaload, 1) := by decide +kernel
theorem eL_1014 : decode code 1014 = .ok (.aload_n 0, 1) := by decide +kernel
theorem eL_1015 : decode code 1015 = .ok (.iload_n 3, 1) := by decide +kernel
theorem eL_1016 : decode code 1016 = .ok (.iconst 3, 1) := by decide +kernel
theorem eL_1017 : decode code 1017 = .ok (.iadd, 1) := by decide +kernel
theorem eL_1018 : decode code 1018 = .ok (.iaload, 1) := by decide +kernel
theorem eL_1019 : decode code 1019 = .ok (.invokevirtual 125, 3) := by decide +kernel
theorem eL_1022 : decode code 1022 = .ok (.aload_n 2, 1) := by decide +kernel
theorem eL_1023 : decode code 1023 = .ok (.aload_n 0, 1) := by decide +kernel
theorem eL_1024 : decode code 1024 = .ok (.iload_n 3, 1) := by decide +kernel
theorem eL_1025 : decode code 1025 = .ok (.iconst 1, 1) := by decide +kernel
theorem eL_1026 : decode code 1026 = .ok (.iadd, 1) := by decide +kernel
theorem eL_1027 : decode code 1027 = .ok (.iaload, 1) := by decide +kernel
theorem eL_1028 : decode code 1028 = .ok (.aload_n 0, 1) := by decide +kernel
theorem eL_1029 : decode code 1029 = .ok (.iload_n 3, 1) := by decide +kernel
theorem eL_1030 : decode code 1030 = .ok (.iconst 2, 1) := by decide +kernel
theorem eL_1031 : decode code 1031 = .ok (.iadd, 1) := by decide +kernel
theorem eL_1032 : decode code 1032 = .ok (.iaload, 1) := by decide +kernel
theorem eL_1033 : decode code 1033 = .ok (.aload_n 0, 1) := by decide +kernel
theorem eL_1034 : decode code 1034 = .ok (.iload_n 3, 1) := by decide +kernel
theorem eL_1035 : decode code 1035 = .ok (.iconst 3, 1) := by decide +kernel
theorem eL_1036 : decode code 1036 = .ok (.iadd, 1) := by decide +kernel
theorem eL_1037 : decode code 1037 = .ok (.iaload, 1) := by decide +kernel
theorem eL_1038 : decode code 1038 = .ok (.invokevirtual 128, 3) := by decide +kernel
theorem eL_1041 : decode code 1041 = .ok (.if_icmp .eq 424, 3) := by decide +kernel
theorem eL_1044 : decode code 1044 = .ok (.iconst 0, 1) := by decide +kernel
theorem eL_1045 : decode code 1045 = .ok (.ireturn, 1) := by decide +kernel
theorem eL_1046 : decode code 1046 = .ok (.aload_n 1, 1) := by decide +kernel
theorem eL_1047 : decode code 1047 = .ok (.aload_n 0, 1) := by decide +kernel
theorem eL_1048 : decode code 1048 = .ok (.iload_n 3, 1) := by decide +kernel
theorem eL_1049 : decode code 1049 = .ok (.iconst 1, 1) := by decide +kernel
theorem eL_1050 : decode code 1050 = .ok (.iadd, 1) := by decide +kernel
theorem eL_1051 : decode code 1051 = .ok (.iaload, 1) := by decide +kernel
theorem eL_1052 : decode code 1052 = .ok (.aload_n 0, 1) := by decide +kernel
theorem eL_1053 : decode code 1053 = .ok (.iload_n 3, 1) := by decide +kernel
theorem eL_1054 : decode code 1054 = .ok (.iconst 2, 1) := by decide +kernel
theorem eL_1055 : decode code 1055 = .ok (.iadd, 1) := by decide +kernel
theorem eL_1056 : decode code 1056 = .ok (.iaload, 1) := by decide +kernel
theorem eL_1057 : decode code 1057 = .ok (.aload_n 0, 1) := by decide +kernel
theorem eL_1058 : decode code 1058 = .ok (.iload_n 3, 1) := by decide +kernel
theorem eL_1059 : decode code 1059 = .ok (.iconst 3, 1) := by decide +kernel
theorem eL_1060 : decode code 1060 = .ok (.iadd, 1) := by decide +kernel
theorem eL_1061 : decode code 1061 = .ok (.iaload, 1) := by decide +kernel
theorem eL_1062 : decode code 1062 = .ok (.invokevirtual 129, 3) := by decide +kernel
theorem eL_1065 : decode code 1065 = .ok (.aload_n 2, 1) := by decide +kernel
theorem eL_1066 : decode code 1066 = .ok (.aload_n 0, 1) := by decide +kernel
theorem eL_1067 : decode code 1067 = .ok (.iload_n 3, 1) := by decide +kernel
theorem eL_1068 : decode code 1068 = .ok (.iconst 1, 1) := by decide +kernel
theorem eL_1069 : decode code 1069 = .ok (.iadd, 1) := by decide +kernel
theorem eL_1070 : decode code 1070 = .ok (.iaload, 1) := by decide +kernel
theorem eL_1071 : decode code 1071 = .ok (.aload_n 0, 1) := by decide +kernel
theorem eL_1072 : decode code 1072 = .ok (.iload_n 3, 1) := by decide +kernel
theorem eL_1073 : decode code 1073 = .ok (.iconst 2, 1) := by decide +kernel
theorem eL_1074 : decode code 1074 = .ok (.iadd, 1) := by decide +kernel
theorem eL_1075 : decode code 1075 = .ok (.iaload, 1) := by decide +kernel
theorem eL_1076 : decode code 1076 = .ok (.aload_n 0, 1) := by decide +kernel
theorem eL_1077 : decode code 1077 = .ok (.iload_n 3, 1) := by decide +kernel
theorem eL_1078 : decode code 1078 = .ok (.iconst 3, 1) := by decide +kernel
theorem eL_1079 : decode code 1079 = .ok (.iadd, 1) := by decide +kernel
theorem eL_1080 : decode code 1080 = .ok (.iaload, 1) := by decide +kernel
theorem eL_1081 : decode code 1081 = .ok (.invokevirtual 132, 3) := by decide +kernel
theorem eL_1084 : decode code 1084 = .ok (.if_icmp .eq 381, 3) := by decide +kernel
theorem eL_1087 : decode code 1087 = .ok (.iconst 0, 1) := by decide +kernel
theorem eL_1088 : decode code 1088 = .ok (.ireturn, 1) := by decide +kernel
theorem eL_1089 : decode code 1089 = .ok (.aload_n 1, 1) := by decide +kernel
theorem eL_1090 : decode code 1090 = .ok (.aload_n 0, 1) := by decide +kernel
theorem eL_1091 : decode code 1091 = .ok (.iload_n 3, 1) := by decide +kernel
theorem eL_1092 : decode code 1092 = .ok (.iconst 1, 1) := by decide +kernel
theorem eL_1093 : decode code 1093 = .ok (.iadd, 1) := by decide +kernel
theorem eL_1094 : decode code 1094 = .ok (.iaload, 1) := by decide +kernel
theorem eL_1095 : decode code 1095 = .ok (.aload_n 0, 1) := by decide +kernel
theorem eL_1096 : decode code 1096 = .ok (.iload_n 3, 1) := by decide +kernel
theorem eL_1097 : decode code 1097 = .ok (.iconst 2, 1) := by decide +kernel
theorem eL_1098 : decode code 1098 = .ok (.iadd, 1) := by decide +kernel
theorem eL_1099 : decode code 1099 = .ok (.iaload, 1) := by decide +kernel
theorem eL_1100 : decode code 1100 = .ok (.aload_n 0, 1) := by decide +kernel
theorem eL_1101 : decode code 1101 = .ok (.iload_n 3, 1) := by decide +kernel
theorem eL_1102 : decode code 1102 = .ok (.iconst 3, 1) := by decide +kernel
theorem eL_1103 : decode code 1103 = .ok (.iadd, 1) := by decide +kernel
theorem eL_1104 : decode code 1104 = .ok (.iaload, 1) := by decide +kernel
theorem eL_1105 : decode code 1105 = .ok (.invokevirtual 133, 3) := by decide +kernel
theorem eL_1108 : decode code 1108 = .ok (.aload_n 2, 1) := by decide +kernel
theorem eL_1109 : decode code 1109 = .ok (.aload_n 0, 1) := by decide +kernel
theorem eL_1110 : decode code 1110 = .ok (.iload_n 3, 1) := by decide +kernel
theorem eL_1111 : decode code 1111 = .ok (.iconst 1, 1) := by decide +kernel
theorem eL_1112 : decode code 1112 = .ok (.iadd, 1) := by decide +kernel
theorem eL_1113 : decode code 1113 = .ok (.iaload, 1) := by decide +kernel
theorem eL_1114 : decode code 1114 = .ok (.aload_n 0, 1) := by decide +kernel
theorem eL_1115 : decode code 1115 = .ok (.iload_n 3, 1) := by decide +kernel
theorem eL_1116 : decode code 1116 = .ok (.iconst 2, 1) := by decide +kernel
theorem eL_1117 : decode code 1117 = .ok (.iadd, 1) := by decide +kernel
theorem eL_1118 : decode code 1118 = .ok (.iaload, 1) := by decide +kernel
theorem eL_1119 : decode code 1119 = .ok (.aload_n 0, 1) := by decide +kernel
theorem eL_1120 : decode code 1120 = .ok (.iload_n 3, 1) := by decide +kernel
theorem eL_1121 : decode code 1121 = .ok (.iconst 3, 1) := by decide +kernel
theorem eL_1122 : decode code 1122 = .ok (.iadd, 1) := by decide +kernel
theorem eL_1123 : decode code 1123 = .ok (.iaload, 1) := by decide +kernel
theorem eL_1124 : decode code 1124 = .ok (.invokevirtual 136, 3) := by decide +kernel
theorem eL_1127 : decode code 1127 = .ok (.if_icmp .eq 338, 3) := by decide +kernel
theorem eL_1130 : decode code 1130 = .ok (.iconst 0, 1) := by decide +kernel
theorem eL_1131 : decode code 1131 = .ok (.ireturn, 1) := by decide +kernel
theorem eL_1132 : decode code 1132 = .ok (.aload_n 1, 1) := by decide +kernel
theorem eL_1133 : decode code 1133 = .ok (.aload_n 0, 1) := by decide +kernel
theorem eL_1134 : decode code 1134 = .ok (.iload_n 3, 1) := by decide +kernel
theorem eL_1135 : decode code 1135 = .ok (.iconst 1, 1) := by decide +kernel
theorem eL_1136 : decode code 1136 = .ok (.iadd, 1) := by decide +kernel
theorem eL_1137 : decode code 1137 = .ok (.iaload, 1) := by decide +kernel
theorem eL_1138 : decode code 1138 = .ok (.aload_n 0, 1) := by decide +kernel
theorem eL_1139 : decode code 1139 = .ok (.iload_n 3, 1) := by decide +kernel
theorem eL_1140 : decode code 1140 = .ok (.iconst 2, 1) := by decide +kernel
theorem eL_1141 : decode code 1141 = .ok (.iadd, 1) := by decide +kernel
theorem eL_1142 : decode code 1142 = .ok (.iaload, 1) := by decide +kernel
theorem eL_1143 : decode code 1143 = .ok (.invokevirtual 137, 3) := by decide +kernel
theorem eL_1146 : decode code 1146 = .ok (.aload_n 2, 1) := by decide +kernel
theorem eL_1147 : decode code 1147 = .ok (.aload_n 0, 1) := by decide +kernel
theorem eL_1148 : decode code 1148 = .ok (.iload_n 3, 1) := by decide +kernel
theorem eL_1149 : decode code 1149 = .ok (.iconst 1, 1) := by decide +kernel
theorem eL_1150 : decode code 1150 = .ok (.iadd, 1) := by decide +kernel
theorem eL_1151 : decode code 1151 = .ok (.iaload, 1) := by decide +kernel
theorem eL_1152 : decode code 1152 = .ok (.aload_n 0, 1) := by decide +kernel
theorem eL_1153 : decode code 1153 = .ok (.iload_n 3, 1) := by decide +kernel
theorem eL_1154 : decode code 1154 = .ok (.iconst 2, 1) := by decide +kernel
theorem eL_1155 : decode code 1155 = .ok (.iadd, 1) := by decide +kernel
theorem eL_1156 : decode code 1156 = .ok (.iaload, 1) := by decide +kernel
theorem eL_1157 : decode code 1157 = .ok (.invokevirtual 140, 3) := by decide +kernel
theorem eL_1160 : decode code 1160 = .ok (.if_icmp .eq 305, 3) := by decide +kernel
theorem eL_1163 : decode code 1163 = .ok (.iconst 0, 1) := by decide +kernel
theorem eL_1164 : decode code 1164 = .ok (.ireturn, 1) := by decide +kernel
theorem eL_1165 : decode code 1165 = .ok (.aload_n 1, 1) := by decide +kernel
theorem eL_1166 : decode code 1166 = .ok (.aload_n 0, 1) := by decide +kernel
theorem eL_1167 : decode code 1167 = .ok (.iload_n 3, 1) := by decide +kernel
theorem eL_1168 : decode code 1168 = .ok (.iconst 1, 1) := by decide +kernel
theorem eL_1169 : decode code 1169 = .ok (.iadd, 1) := by decide +kernel
theorem eL_1170 : decode code 1170 = .ok (.iaload, 1) := by decide +kernel
theorem eL_1171 : decode code 1171 = .ok (.aload_n 0, 1) := by decide +kernel
theorem eL_1172 : decode code 1172 = .ok (.iload_n 3, 1) := by decide +kernel
theorem eL_1173 : decode code 1173 = .ok (.iconst 2, 1) := by decide +kernel
theorem eL_1174 : decode code 1174 = .ok (.iadd, 1) := by decide +kernel
theorem eL_1175 : decode code 1175 = .ok (.iaload, 1) := by decide +kernel
theorem eL_1176 : decode code 1176 = .ok (.aload_n 0, 1) := by decide +kernel
theorem eL_1177 : decode code 1177 = .ok (.iload_n 3, 1) := by decide +kernel
theorem eL_1178 : decode code 1178 = .ok (.iconst 3, 1) := by decide +kernel
theorem eL_1179 : decode code 1179 = .ok (.iadd, 1) := by decide +kernel
theorem eL_1180 : decode code 1180 = .ok (.iaload, 1) := by decide +kernel
theorem eL_1181 : decode code 1181 = .ok (.aload_n 0, 1) := by decide +kernel
theorem eL_1182 : decode code 1182 = .ok (.iload_n 3, 1) := by decide +kernel
theorem eL_1183 : decode code 1183 = .ok (.iconst 4, 1) := by decide +kernel
theorem eL_1184 : decode code 1184 = .ok (.iadd, 1) := by decide +kernel
theorem eL_1185 : decode code 1185 = .ok (.iaload, 1) := by decide +kernel
theorem eL_1186 : decode code 1186 = .ok (.aload_n 0, 1) := by decide +kernel
theorem eL_1187 : decode code 1187 = .ok (.iload_n 3, 1) := by decide +kernel
theorem eL_1188 : decode code 1188 = .ok (.iconst 5, 1) := by decide +kernel
theorem eL_1189 : decode code 1189 = .ok (.iadd, 1) := by decide +kernel
theorem eL_1190 : decode code 1190 = .ok (.iaload, 1) := by decide +kernel
theorem eL_1191 : decode code 1191 = .ok (.invokevirtual 141, 3) := by decide +kernel
theorem eL_1194 : decode code 1194 = .ok (.aload_n 2, 1) := by decide +kernel
theorem eL_1195 : decode code 1195 = .ok (.aload_n 0, 1) := by decide +kernel
theorem eL_1196 : decode code 1196 = .ok (.iload_n 3, 1) := by decide +kernel
theorem eL_1197 : decode code 1197 = .ok (.iconst 1, 1) := by decide +kernel
theorem eL_1198 : decode code 1198 = .ok (.iadd, 1) := by decide +kernel
theorem eL_1199 : decode code 1199 = .ok (.iaload, 1) := by decide +kernel
theorem eL_1200 : decode code 1200 = .ok (.aload_n 0, 1) := by decide +kernel
theorem eL_1201 : decode code 1201 = .ok (.iload_n 3, 1) := by decide +kernel
theorem eL_1202 : decode code 1202 = .ok (.iconst 2, 1) := by decide +kernel
theorem eL_1203 : decode code 1203 = .ok (.iadd, 1) := by decide +kernel
theorem eL_1204 : decode code 1204 = .ok (.iaload, 1) := by decide +kernel
theorem eL_1205 : decode code 1205 = .ok (.aload_n 0, 1) := by decide +kernel
theorem eL_1206 : decode code 1206 = .ok (.iload_n 3, 1) := by decide +kernel
theorem eL_1207 : decode code 1207 = .ok (.iconst 3, 1) := by decide +kernel
theorem eL_1208 : decode code 1208 = .ok (.iadd, 1) := by decide +kernel
theorem eL_1209 : decode code 1209 = .ok (.iaload, 1) := by decide +kernel
theorem eL_1210 : decode code 1210 = .ok (.aload_n 0, 1) := by decide +kernel
theorem eL_1211 : decode code 1211 = .ok (.iload_n 3, 1) := by decide +kernel
theorem eL_1212 : decode code 1212 = .ok (.iconst 4, 1) := by decide +kernel
theorem eL_1213 : decode code 1213 = .ok (.iadd, 1) := by decide +kernel
theorem eL_1214 : decode code 1214 = .ok (.iaload, 1) := by decide +kernel
theorem eL_1215 : decode code 1215 = .ok (.aload_n 0, 1) := by decide +kernel
theorem eL_1216 : decode code 1216 = .ok (.iload_n 3, 1) := by decide +kernel
theorem eL_1217 : decode code 1217 = .ok (.iconst 5, 1) := by decide +kernel
theorem eL_1218 : decode code 1218 = .ok (.iadd, 1) := by decide +kernel
theorem eL_1219 : decode code 1219 = .ok (.iaload, 1) := by decide +kernel
theorem eL_1220 : decode code 1220 = .ok (.invokevirtual 145, 3) := by decide +kernel
theorem eL_1223 : decode code 1223 = .ok (.if_icmp .eq 242, 3) := by decide +kernel
theorem eL_1226 : decode code 1226 = .ok (.iconst 0, 1) := by decide +kernel
theorem eL_1227 : decode code 1227 = .ok (.ireturn, 1) := by decide +kernel
theorem eL_1228 : decode code 1228 = .ok (.aload_n 1, 1) := by decide +kernel
theorem eL_1229 : decode code 1229 = .ok (.aload_n 0, 1) := by decide +kernel
theorem eL_1230 : decode code 1230 = .ok (.iload_n 3, 1) := by decide +kernel
theorem eL_1231 : decode code 1231 = .ok (.iconst 1, 1) := by decide +kernel
theorem eL_1232 : decode code 1232 = .ok (.iadd, 1) := by decide +kernel
theorem eL_1233 : decode code 1233 = .ok (.iaload, 1) := by decide +kernel
theorem eL_1234 : decode code 1234 = .ok (.aload_n 0, 1) := by decide +kernel
theorem eL_1235 : decode code 1235 = .ok (.iload_n 3, 1) := by decide +kernel
theorem eL_1236 : decode code 1236 = .ok (.iconst 2, 1) := by decide +kernel
theorem eL_1237 : decode code 1237 = .ok (.iadd, 1) := by decide +kernel
theorem eL_1238 : decode code 1238 = .ok (.iaload, 1) := by decide +kernel
theorem eL_1239 : decode code 1239 = .ok (.aload_n 0, 1) := by decide +kernel
theorem eL_1240 : decode code 1240 = .ok (.iload_n 3, 1) := by decide +kernel
theorem eL_1241 : decode code 1241 = .ok (.iconst 3, 1) := by decide +kernel
theorem eL_1242 : decode code 1242 = .ok (.iadd, 1) := by decide +kernel
theorem eL_1243 : decode code 1243 = .ok (.iaload, 1) := by decide +kernel
theorem eL_1244 : decode code 1244 = .ok (.invokevirtual 146, 3) := by decide +kernel
theorem eL_1247 : decode code 1247 = .ok (.aload_n 2, 1) := by decide +kernel
theorem eL_1248 : decode code 1248 = .ok (.aload_n 0, 1) := by decide +kernel
theorem eL_1249 : decode code 1249 = .ok (.iload_n 3, 1) := by decide +kernel
theorem eL_1250 : decode code 1250 = .ok (.iconst 1, 1) := by decide +kernel
theorem eL_1251 : decode code 1251 = .ok (.iadd, 1) := by decide +kernel
theorem eL_1252 : decode code 1252 = .ok (.iaload, 1) := by decide +kernel
theorem eL_1253 : decode code 1253 = .ok (.aload_n 0, 1) := by decide +kernel
theorem eL_1254 : decode code 1254 = .ok (.iload_n 3, 1) := by decide +kernel
theorem eL_1255 : decode code 1255 = .ok (.iconst 2, 1) := by decide +kernel
theorem eL_1256 : decode code 1256 = .ok (.iadd, 1) := by decide +kernel
theorem eL_1257 : decode code 1257 = .ok (.iaload, 1) := by decide +kernel
theorem eL_1258 : decode code 1258 = .ok (.aload_n 0, 1) := by decide +kernel
theorem eL_1259 : decode code 1259 = .ok (.iload_n 3, 1) := by decide +kernel
theorem eL_1260 : decode code 1260 = .ok (.iconst 3, 1) := by decide +kernel
theorem eL_1261 : decode code 1261 = .ok (.iadd, 1) := by decide +kernel
theorem eL_1262 : decode code 1262 = .ok (.iaload, 1) := by decide +kernel
theorem eL_1263 : decode code 1263 = .ok (.invokevirtual 149, 3) := by decide +kernel
theorem eL_1266 : decode code 1266 = .ok (.if_icmp .eq 199, 3) := by decide +kernel
theorem eL_1269 : decode code 1269 = .ok (.iconst 0, 1) := by decide +kernel
theorem eL_1270 : decode code 1270 = .ok (.ireturn, 1) := by decide +kernel
theorem eL_1271 : decode code 1271 = .ok (.aload_n 1, 1) := by decide +kernel
theorem eL_1272 : decode code 1272 = .ok (.aload_n 0, 1) := by decide +kernel
theorem eL_1273 : decode code 1273 = .ok (.iload_n 3, 1) := by decide +kernel
theorem eL_1274 : decode code 1274 = .ok (.iconst 1, 1) := by decide +kernel
theorem eL_1275 : decode code 1275 = .ok (.iadd, 1) := by decide +kernel
theorem eL_1276 : decode code 1276 = .ok (.iaload, 1) := by decide +kernel
theorem eL_1277 : decode code 1277 = .ok (.aload_n 0, 1) := by decide +kernel
theorem eL_1278 : decode code 1278 = .ok (.iload_n 3, 1) := by decide +kernel
theorem eL_1279 : decode code 1279 = .ok (.iconst 2, 1) := by decide +kernel
theorem eL_1280 : decode code 1280 = .ok (.iadd, 1) := by decide +kernel
theorem eL_1281 : decode code 1281 = .ok (.iaload, 1) := by decide +kernel
theorem eL_1282 : decode code 1282 = .ok (.invokevirtual 150, 3) := by decide +kernel
theorem eL_1285 : decode code 1285 = .ok (.aload_n 2, 1) := by decide +kernel
theorem eL_1286 : decode code 1286 = .ok (.aload_n 0, 1) := by decide +kernel
theorem eL_1287 : decode code 1287 = .ok (.iload_n 3, 1) := by decide +kernel
theorem eL_1288 : decode code 1288 = .ok (.iconst 1, 1) := by decide +kernel
theorem eL_1289 : decode code 1289 = .ok (.iadd, 1) := by decide +kernel
theorem eL_1290 : decode code 1290 = .ok (.iaload, 1) := by decide +kernel
theorem eL_1291 : decode code 1291 = .ok (.aload_n 0, 1) := by decide +kernel
theorem eL_1292 : decode code 1292 = .ok (.iload_n 3, 1) := by decide +kernel
theorem eL_1293 : decode code 1293 = .ok (.iconst 2, 1) := by decide +kernel
theorem eL_1294 : decode code 1294 = .ok (.iadd, 1) := by decide +kernel
theorem eL_1295 : decode code 1295 = .ok (.iaload, 1) := by decide +kernel
theorem eL_1296 : decode code 1296 = .ok (.invokevirtual 153, 3) := by decide +kernel
theorem eL_1299 : decode code 1299 = .ok (.if_icmp .eq 166, 3) := by decide +kernel
theorem eL_1302 : decode code 1302 = .ok (.iconst 0, 1) := by decide +kernel
theorem eL_1303 : decode code 1303 = .ok (.ireturn, 1) := by decide +kernel
theorem eL_1304 : decode code 1304 = .ok (.aload_n 1, 1) := by decide +kernel
theorem eL_1305 : decode code 1305 = .ok (.aload_n 0, 1) := by decide +kernel
theorem eL_1306 : decode code 1306 = .ok (.iload_n 3, 1) := by decide +kernel
theorem eL_1307 : decode code 1307 = .ok (.iconst 1, 1) := by decide +kernel
theorem eL_1308 : decode code 1308 = .ok (.iadd, 1) := by decide +kernel
theorem eL_1309 : decode code 1309 = .ok (.iaload, 1) := by decide +kernel
theorem eL_1310 : decode code 1310 = .ok (.aload_n 0, 1) := by decide +kernel
theorem eL_1311 : decode code 1311 = .ok (.iload_n 3, 1) := by decide +kernel
theorem eL_1312 : decode code 1312 = .ok (.iconst 2, 1) := by decide +kernel
theorem eL_1313 : decode code 1313 = .ok (.iadd, 1) := by decide +kernel
theorem eL_1314 : decode code 1314 = .ok (.iaload, 1) := by decide +kernel
theorem eL_1315 : decode code 1315 = .ok (.invokevirtual 154, 3) := by decide +kernel
theorem eL_1318 : decode code 1318 = .ok (.aload_n 2, 1) := by decide +kernel
theorem eL_1319 : decode code 1319 = .ok (.aload_n 0, 1) := by decide +kernel
theorem eL_1320 : decode code 1320 = .ok (.iload_n 3, 1) := by decide +kernel
theorem eL_1321 : decode code 1321 = .ok (.iconst 1, 1) := by decide +kernel
theorem eL_1322 : decode code 1322 = .ok (.iadd, 1) := by decide +kernel
theorem eL_1323 : decode code 1323 = .ok (.iaload, 1) := by decide +kernel
theorem eL_1324 : decode code 1324 = .ok (.aload_n 0, 1) := by decide +kernel
theorem eL_1325 : decode code 1325 = .ok (.iload_n 3, 1) := by decide +kernel
theorem eL_1326 : decode code 1326 = .ok (.iconst 2, 1) := by decide +kernel
theorem eL_1327 : decode code 1327 = .ok (.iadd, 1) := by decide +kernel
theorem eL_1328 : decode code 1328 = .ok (.iaload, 1) := by decide +kernel
theorem eL_1329 : decode code 1329 = .ok (.invokevirtual 157, 3) := by decide +kernel
theorem eL_1332 : decode code 1332 = .ok (.if_icmp .eq 133, 3) := by decide +kernel
theorem eL_1335 : decode code 1335 = .ok (.iconst 0, 1) := by decide +kernel
theorem eL_1336 : decode code 1336 = .ok (.ireturn, 1) := by decide +kernel
theorem eL_1337 : decode code 1337 = .ok (.aload_n 1, 1) := by decide +kernel
theorem eL_1338 : decode code 1338 = .ok (.aload_n 0, 1) := by decide +kernel
theorem eL_1339 : decode code 1339 = .ok (.iload_n 3, 1) := by decide +kernel
theorem eL_1340 : decode code 1340 = .ok (.iconst 1, 1) := by decide +kernel
theorem eL_1341 : decode code 1341 = .ok (.iadd, 1) := by decide +kernel
theorem eL_1342 : decode code 1342 = .ok (.iaload, 1) := by decide +kernel
theorem eL_1343 : decode code 1343 = .ok (.aload_n 0, 1) := by decide +kernel
theorem eL_1344 : decode code 1344 = .ok (.iload_n 3, 1) := by decide +kernel
theorem eL_1345 : decode code 1345 = .ok (.iconst 2, 1) := by decide +kernel
theorem eL_1346 : decode code 1346 = .ok (.iadd, 1) := by decide +kernel
theorem eL_1347 : decode code 1347 = .ok (.iaload, 1) := by decide +kernel
theorem eL_1348 : decode code 1348 = .ok (.invokevirtual 158, 3) := by decide +kernel
theorem eL_1351 : decode code 1351 = .ok (.aload_n 2, 1) := by decide +kernel
theorem eL_1352 : decode code 1352 = .ok (.aload_n 0, 1) := by decide +kernel
theorem eL_1353 : decode code 1353 = .ok (.iload_n 3, 1) := by decide +kernel
theorem eL_1354 : decode code 1354 = .ok (.iconst 1, 1) := by decide +kernel
theorem eL_1355 : decode code 1355 = .ok (.iadd, 1) := by decide +kernel
theorem eL_1356 : decode code 1356 = .ok (.iaload, 1) := by decide +kernel
theorem eL_1357 : decode code 1357 = .ok (.aload_n 0, 1) := by decide +kernel
theorem eL_1358 : decode code 1358 = .ok (.iload_n 3, 1) := by decide +kernel
theorem eL_1359 : decode code 1359 = .ok (.iconst 2, 1) := by decide +kernel
theorem eL_1360 : decode code 1360 = .ok (.iadd, 1) := by decide +kernel
theorem eL_1361 : decode code 1361 = .ok (.iaload, 1) := by decide +kernel
theorem eL_1362 : decode code 1362 = .ok (.invokevirtual 161, 3) := by decide +kernel
theorem eL_1365 : decode code 1365 = .ok (.if_icmp .eq 100, 3) := by decide +kernel
theorem eL_1368 : decode code 1368 = .ok (.iconst 0, 1) := by decide +kernel
theorem eL_1369 : decode code 1369 = .ok (.ireturn, 1) := by decide +kernel
theorem eL_1370 : decode code 1370 = .ok (.aload_n 1, 1) := by decide +kernel
theorem eL_1371 : decode code 1371 = .ok (.aload_n 0, 1) := by decide +kernel
theorem eL_1372 : decode code 1372 = .ok (.iload_n 3, 1) := by decide +kernel
theorem eL_1373 : decode code 1373 = .ok (.iconst 1, 1) := by decide +kernel
theorem eL_1374 : decode code 1374 = .ok (.iadd, 1) := by decide +kernel
theorem eL_1375 : decode code 1375 = .ok (.iaload, 1) := by decide +kernel
theorem eL_1376 : decode code 1376 = .ok (.invokevirtual 162, 3) := by decide +kernel
theorem eL_1379 : decode code 1379 = .ok (.aload_n 2, 1) := by decide +kernel
theorem eL_1380 : decode code 1380 = .ok (.aload_n 0, 1) := by decide +kernel
theorem eL_1381 : decode code 1381 = .ok (.iload_n 3, 1) := by decide +kernel
theorem eL_1382 : decode code 1382 = .ok (.iconst 1, 1) := by decide +kernel
theorem eL_1383 : decode code 1383 = .ok (.iadd, 1) := by decide +kernel
theorem eL_1384 : decode code 1384 = .ok (.iaload, 1) := by decide +kernel
theorem eL_1385 : decode code 1385 = .ok (.invokevirtual 165, 3) := by decide +kernel
theorem eL_1388 : decode code 1388 = .ok (.if_icmp .eq 77, 3) := by decide +kernel
theorem eL_1391 : decode code 1391 = .ok (.iconst 0, 1) := by decide +kernel
theorem eL_1392 : decode code 1392 = .ok (.ireturn, 1) := by decide +kernel
theorem eL_1393 : decode code 1393 = .ok (.aload_n 1, 1) := by decide +kernel
theorem eL_1394 : decode code 1394 = .ok (.aload_n 0, 1) := by decide +kernel
theorem eL_1395 : decode code 1395 = .ok (.iload_n 3, 1) := by decide +kernel
theorem eL_1396 : decode code 1396 = .ok (.iconst 1, 1) := by decide +kernel
theorem eL_1397 : decode code 1397 = .ok (.iadd, 1) := by decide +kernel
theorem eL_1398 : decode code 1398 = .ok (.iaload, 1) := by decide +kernel
theorem eL_1399 : decode code 1399 = .ok (.invokevirtual 166, 3) := by decide +kernel
theorem eL_1402 : decode code 1402 = .ok (.aload_n 2, 1) := by decide +kernel
theorem eL_1403 : decode code 1403 = .ok (.aload_n 0, 1) := by decide +kernel
theorem eL_1404 : decode code 1404 = .ok (.iload_n 3, 1) := by decide +kernel
theorem eL_1405 : decode code 1405 = .ok (.iconst 1, 1) := by decide +kernel
theorem eL_1406 : decode code 1406 = .ok (.iadd, 1) := by decide +kernel
theorem eL_1407 : decode code 1407 = .ok (.iaload, 1) := by decide +kernel
theorem eL_1408 : decode code 1408 = .ok (.invokevirtual 169, 3) := by decide +kernel
theorem eL_1411 : decode code 1411 = .ok (.if_icmp .eq 54, 3) := by decide +kernel
theorem eL_1414 : decode code 1414 = .ok (.iconst 0, 1) := by decide +kernel
theorem eL_1415 : decode code 1415 = .ok (.ireturn, 1) := by decide +kernel
theorem eL_1416 : decode code 1416 = .ok (.aload_n 1, 1) := by decide +kernel
theorem eL_1417 : decode code 1417 = .ok (.invokevirtual 170, 3) := by decide +kernel
theorem eL_1420 : decode code 1420 = .ok (.aload_n 2, 1) := by decide +kernel
theorem eL_1421 : decode code 1421 = .ok (.invokevirtual 173, 3) := by decide +kernel
theorem eL_1424 : decode code 1424 = .ok (.if_icmp .eq 41, 3) := by decide +kernel
theorem eL_1427 : decode code 1427 = .ok (.iconst 0, 1) := by decide +kernel
theorem eL_1428 : decode code 1428 = .ok (.ireturn, 1) := by decide +kernel
theorem eL_1429 : decode code 1429 = .ok (.aload_n 1, 1) := by decide +kernel
theorem eL_1430 : decode code 1430 = .ok (.invokevirtual 174, 3) := by decide +kernel
theorem eL_1433 : decode code 1433 = .ok (.aload_n 2, 1) := by decide +kernel
theorem eL_1434 : decode code 1434 = .ok (.invokevirtual 177, 3) := by decide +kernel
theorem eL_1437 : decode code 1437 = .ok (.if_icmp .eq 28, 3) := by decide +kernel
theorem eL_1440 : decode code 1440 = .ok (.iconst 0, 1) := by decide +kernel
theorem eL_1441 : decode code 1441 = .ok (.ireturn, 1) := by decide +kernel
theorem eL_1442 : decode code 1442 = .ok (.aload_n 1, 1) := by decide +kernel
theorem eL_1443 : decode code 1443 = .ok (.aload_n 0, 1) := by decide +kernel
theorem eL_1444 : decode code 1444 = .ok (.iload_n 3, 1) := by decide +kernel
theorem eL_1445 : decode code 1445 = .ok (.iconst 1, 1) := by decide +kernel
theorem eL_1446 : decode code 1446 = .ok (.iadd, 1) := by decide +kernel
theorem eL_1447 : decode code 1447 = .ok (.iaload, 1) := by decide +kernel
theorem eL_1448 : decode code 1448 = .ok (.invokevirtual 178, 3) := by decide +kernel
theorem eL_1451 : decode code 1451 = .ok (.aload_n 2, 1) := by decide +kernel
theorem eL_1452 : decode code 1452 = .ok (.aload_n 0, 1) := by decide +kernel
theorem eL_1453 : decode code 1453 = .ok (.iload_n 3, 1) := by decide +kernel
theorem eL_1454 : decode code 1454 = .ok (.iconst 1, 1) := by decide +kernel
theorem eL_1455 : decode code 1455 = .ok (.iadd, 1) := by decide +kernel
theorem eL_1456 : decode code 1456 = .ok (.iaload, 1) := by decide +kernel
theorem eL_1457 : decode code 1457 = .ok (.invokevirtual 181, 3) := by decide +kernel
theorem eL_1460 : decode code 1460 = .ok (.if_icmp .eq 5, 3) := by decide +kernel
theorem eL_1463 : decode code 1463 = .ok (.iconst 0, 1) := by decide +kernel
theorem eL_1464 : decode code 1464 = .ok (.ireturn, 1) := by decide +kernel
theorem eL_1465 : decode code 1465 = .ok (.iinc 3 6, 3) := by decide +kernel
theorem eL_1468 : decode code 1468 = .ok (.goto (-1450), 3) := by decide +kernel
theorem eL_1471 : decode code 1471 = .ok (.iconst 1, 1) := by decide +kernel
theorem eL_1472 : decode code 1472 = .ok (.ireturn, 1) := by decide +kernel
