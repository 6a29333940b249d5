/-! ===== the law's code ===== -/
theorem dL_0 : decode code 0 = .ok (.new 7, 3) := by decide +kernel
theorem dL_3 : decode code 3 = .ok (.dup, 1) := by decide +kernel
theorem dL_4 : decode code 4 = .ok (.invokespecial 9, 3) := by decide +kernel
theorem dL_7 : decode code 7 = .ok (.astore_n 1, 1) := by decide +kernel
theorem dL_8 : decode code 8 = .ok (.new 10, 3) := by decide +kernel
theorem dL_11 : decode code 11 = .ok (.dup, 1) := by decide +kernel
theorem dL_12 : decode code 12 = .ok (.invokespecial 12, 3) := by decide +kernel
theorem dL_15 : decode code 15 = .ok (.astore_n 2, 1) := by decide +kernel
theorem dL_16 : decode code 16 = .ok (.iconst 0, 1) := by decide +kernel
theorem dL_17 : decode code 17 = .ok (.istore_n 3, 1) := by decide +kernel
theorem dL_18 : decode code 18 = .ok (.iload_n 3, 1) := by decide +kernel
theorem dL_19 : decode code 19 = .ok (.aload_n 0, 1) := by decide +kernel
theorem dL_20 : decode code 20 = .ok (.arraylength, 1) := by decide +kernel
theorem dL_21 : decode code 21 = .ok (.bipush 6, 2) := by decide +kernel
theorem dL_23 : decode code 23 = .ok (.isub, 1) := by decide +kernel
theorem dL_24 : decode code 24 = .ok (.if_icmp .gt 1448, 3) := by decide +kernel
theorem dL_27 : decode code 27 = .ok (.aload_n 0, 1) := by decide +kernel
theorem dL_28 : decode code 28 = .ok (.iload_n 3, 1) := by decide +kernel
theorem dL_29 : decode code 29 = .ok (.iaload, 1) := by decide +kernel
theorem dL_30 : decode code 30 = .ok (.bipush 63, 2) := by decide +kernel
theorem dL_32 : decode code 32 = .ok (.iand, 1) := by decide +kernel
theorem dL_33 : decode code 33 = .ok (.tableswitch 1433 0 40 #[179, 212, 245, 278, 321, 354, 397, 430, 463, 496, 519, 542, 565, 588, 621, 654, 687, 720, 743, 776, 809, 842, 865, 888, 921, 954, 987, 1020, 1053, 1066, 1079, 1122, 1196, 1259, 1282, 1315, 1348, 1361, 1374, 1387, 1410], 179) := by decide +kernel
theorem dL_212 : decode code 212 = .ok (.aload_n 1, 1) := by decide +kernel
theorem dL_213 : decode code 213 = .ok (.aload_n 0, 1) := by decide +kernel
theorem dL_214 : decode code 214 = .ok (.iload_n 3, 1) := by decide +kernel
theorem dL_215 : decode code 215 = .ok (.iconst 1, 1) := by decide +kernel
theorem dL_216 : decode code 216 = .ok (.iadd, 1) := by decide +kernel
theorem dL_217 : decode code 217 = .ok (.iaload, 1) := by decide +kernel
theorem dL_218 : decode code 218 = .ok (.aload_n 0, 1) := by decide +kernel
theorem dL_219 : decode code 219 = .ok (.iload_n 3, 1) := by decide +kernel
theorem dL_220 : decode code 220 = .ok (.iconst 2, 1) := by decide +kernel
theorem dL_221 : decode code 221 = .ok (.iadd, 1) := by decide +kernel
theorem dL_222 : decode code 222 = .ok (.iaload, 1) := by decide +kernel
theorem dL_223 : decode code 223 = .ok (.invokevirtual 13, 3) := by decide +kernel
theorem dL_226 : decode code 226 = .ok (.aload_n 2, 1) := by decide +kernel
theorem dL_227 : decode code 227 = .ok (.aload_n 0, 1) := by decide +kernel
theorem dL_228 : decode code 228 = .ok (.iload_n 3, 1) := by decide +kernel
theorem dL_229 : decode code 229 = .ok (.iconst 1, 1) := by decide +kernel
theorem dL_230 : decode code 230 = .ok (.iadd, 1) := by decide +kernel
theorem dL_231 : decode code 231 = .ok (.iaload, 1) := by decide +kernel
theorem dL_232 : decode code 232 = .ok (.aload_n 0, 1) := by decide +kernel
theorem dL_233 : decode code 233 = .ok (.iload_n 3, 1) := by decide +kernel
theorem dL_234 : decode code 234 = .ok (.iconst 2, 1) := by decide +kernel
theorem dL_235 : decode code 235 = .ok (.iadd, 1) := by decide +kernel
theorem dL_236 : decode code 236 = .ok (.iaload, 1) := by decide +kernel
theorem dL_237 : decode code 237 = .ok (.invokevirtual 17, 3) := by decide +kernel
theorem dL_240 : decode code 240 = .ok (.if_icmp .eq 1226, 3) := by decide +kernel
theorem dL_243 : decode code 243 = .ok (.iconst 0, 1) := by decide +kernel
theorem dL_244 : decode code 244 = .ok (.ireturn, 1) := by decide +kernel
theorem dL_245 : decode code 245 = .ok (.aload_n 1, 1) := by decide +kernel
theorem dL_246 : decode code 246 = .ok (.aload_n 0, 1) := by decide +kernel
theorem dL_247 : decode code 247 = .ok (.iload_n 3, 1) := by decide +kernel
theorem dL_248 : decode code 248 = .ok (.iconst 1, 1) := by decide +kernel
theorem dL_249 : decode code 249 = .ok (.iadd, 1) := by decide +kernel
theorem dL_250 : decode code 250 = .ok (.iaload, 1) := by decide +kernel
theorem dL_251 : decode code 251 = .ok (.aload_n 0, 1) := by decide +kernel
theorem dL_252 : decode code 252 = .ok (.iload_n 3, 1) := by decide +kernel
theorem dL_253 : decode code 253 = .ok (.iconst 2, 1) := by decide +kernel
theorem dL_254 : decode code 254 = .ok (.iadd, 1) := by decide +kernel
theorem dL_255 : decode code 255 = .ok (.iaload, 1) := by decide +kernel
theorem dL_256 : decode code 256 = .ok (.invokevirtual 18, 3) := by decide +kernel
theorem dL_259 : decode code 259 = .ok (.aload_n 2, 1) := by decide +kernel
theorem dL_260 : decode code 260 = .ok (.aload_n 0, 1) := by decide +kernel
theorem dL_261 : decode code 261 = .ok (.iload_n 3, 1) := by decide +kernel
theorem dL_262 : decode code 262 = .ok (.iconst 1, 1) := by decide +kernel
theorem dL_263 : decode code 263 = .ok (.iadd, 1) := by decide +kernel
theorem dL_264 : decode code 264 = .ok (.iaload, 1) := by decide +kernel
theorem dL_265 : decode code 265 = .ok (.aload_n 0, 1) := by decide +kernel
theorem dL_266 : decode code 266 = .ok (.iload_n 3, 1) := by decide +kernel
theorem dL_267 : decode code 267 = .ok (.iconst 2, 1) := by decide +kernel
theorem dL_268 : decode code 268 = .ok (.iadd, 1) := by decide +kernel
theorem dL_269 : decode code 269 = .ok (.iaload, 1) := by decide +kernel
theorem dL_270 : decode code 270 = .ok (.invokevirtual 21, 3) := by decide +kernel
theorem dL_273 : decode code 273 = .ok (.if_icmp .eq 1193, 3) := by decide +kernel
theorem dL_276 : decode code 276 = .ok (.iconst 0, 1) := by decide +kernel
theorem dL_277 : decode code 277 = .ok (.ireturn, 1) := by decide +kernel
theorem dL_278 : decode code 278 = .ok (.aload_n 1, 1) := by decide +kernel
theorem dL_279 : decode code 279 = .ok (.aload_n 0, 1) := by decide +kernel
theorem dL_280 : decode code 280 = .ok (.iload_n 3, 1) := by decide +kernel
theorem dL_281 : decode code 281 = .ok (.iconst 1, 1) := by decide +kernel
theorem dL_282 : decode code 282 = .ok (.iadd, 1) := by decide +kernel
theorem dL_283 : decode code 283 = .ok (.iaload, 1) := by decide +kernel
theorem dL_284 : decode code 284 = .ok (.aload_n 0, 1) := by decide +kernel
theorem dL_285 : decode code 285 = .ok (.iload_n 3, 1) := by decide +kernel
theorem dL_286 : decode code 286 = .ok (.iconst 2, 1) := by decide +kernel
theorem dL_287 : decode code 287 = .ok (.iadd, 1) := by decide +kernel
theorem dL_288 : decode code 288 = .ok (.iaload, 1) := by decide +kernel
theorem dL_289 : decode code 289 = .ok (.invokevirtual 22, 3) := by decide +kernel
theorem dL_292 : decode code 292 = .ok (.aload_n 2, 1) := by decide +kernel
theorem dL_293 : decode code 293 = .ok (.aload_n 0, 1) := by decide +kernel
theorem dL_294 : decode code 294 = .ok (.iload_n 3, 1) := by decide +kernel
theorem dL_295 : decode code 295 = .ok (.iconst 1, 1) := by decide +kernel
theorem dL_296 : decode code 296 = .ok (.iadd, 1) := by decide +kernel
theorem dL_297 : decode code 297 = .ok (.iaload, 1) := by decide +kernel
theorem dL_298 : decode code 298 = .ok (.aload_n 0, 1) := by decide +kernel
theorem dL_299 : decode code 299 = .ok (.iload_n 3, 1) := by decide +kernel
theorem dL_300 : decode code 300 = .ok (.iconst 2, 1) := by decide +kernel
theorem dL_301 : decode code 301 = .ok (.iadd, 1) := by decide +kernel
theorem dL_302 : decode code 302 = .ok (.iaload, 1) := by decide +kernel
theorem dL_303 : decode code 303 = .ok (.invokevirtual 25, 3) := by decide +kernel
theorem dL_306 : decode code 306 = .ok (.if_icmp .eq 1160, 3) := by decide +kernel
theorem dL_309 : decode code 309 = .ok (.iconst 0, 1) := by decide +kernel
theorem dL_310 : decode code 310 = .ok (.ireturn, 1) := by decide +kernel
theorem dL_311 : decode code 311 = .ok (.aload_n 1, 1) := by decide +kernel
theorem dL_312 : decode code 312 = .ok (.aload_n 0, 1) := by decide +kernel
theorem dL_313 : decode code 313 = .ok (.iload_n 3, 1) := by decide +kernel
theorem dL_314 : decode code 314 = .ok (.iconst 1, 1) := by decide +kernel
theorem dL_315 : decode code 315 = .ok (.iadd, 1) := by decide +kernel
theorem dL_316 : decode code 316 = .ok (.iaload, 1) := by decide +kernel
theorem dL_317 : decode code 317 = .ok (.aload_n 0, 1) := by decide +kernel
theorem dL_318 : decode code 318 = .ok (.iload_n 3, 1) := by decide +kernel
theorem dL_319 : decode code 319 = .ok (.iconst 2, 1) := by decide +kernel
theorem dL_320 : decode code 320 = .ok (.iadd, 1) := by decide +kernel
theorem dL_321 : decode code 321 = .ok (.iaload, 1) := by decide +kernel
theorem dL_322 : decode code 322 = .ok (.aload_n 0, 1) := by decide +kernel
theorem dL_323 : decode code 323 = .ok (.iload_n 3, 1) := by decide +kernel
theorem dL_324 : decode code 324 = .ok (.iconst 3, 1) := by decide +kernel
theorem dL_325 : decode code 325 = .ok (.iadd, 1) := by decide +kernel
theorem dL_326 : decode code 326 = .ok (.iaload, 1) := by decide +kernel
theorem dL_327 : decode code 327 = .ok (.invokevirtual 26, 3) := by decide +kernel
theorem dL_330 : decode code 330 = .ok (.aload_n 2, 1) := by decide +kernel
theorem dL_331 : decode code 331 = .ok (.aload_n 0, 1) := by decide +kernel
theorem dL_332 : decode code 332 = .ok (.iload_n 3, 1) := by decide +kernel
theorem dL_333 : decode code 333 = .ok (.iconst 1, 1) := by decide +kernel
theorem dL_334 : decode code 334 = .ok (.iadd, 1) := by decide +kernel
theorem dL_335 : decode code 335 = .ok (.iaload, 1) := by decide +kernel
theorem dL_336 : decode code 336 = .ok (.aload_n 0, 1) := by decide +kernel
theorem dL_337 : decode code 337 = .ok (.iload_n 3, 1) := by decide +kernel
theorem dL_338 : decode code 338 = .ok (.iconst 2, 1) := by decide +kernel
theorem dL_339 : decode code 339 = .ok (.iadd, 1) := by decide +kernel
theorem dL_340 : decode code 340 = .ok (.iaload, 1) := by decide +kernel
theorem dL_341 : decode code 341 = .ok (.aload_n 0, 1) := by decide +kernel
theorem dL_342 : decode code 342 = .ok (.iload_n 3, 1) := by decide +kernel
theorem dL_343 : decode code 343 = .ok (.iconst 3, 1) := by decide +kernel
theorem dL_344 : decode code 344 = .ok (.iadd, 1) := by decide +kernel
theorem dL_345 : decode code 345 = .ok (.iaload, 1) := by decide +kernel
theorem dL_346 : decode code 346 = .ok (.invokevirtual 30, 3) := by decide +kernel
theorem dL_349 : decode code 349 = .ok (.if_icmp .eq 1117, 3) := by decide +kernel
theorem dL_352 : decode code 352 = .ok (.iconst 0, 1) := by decide +kernel
theorem dL_353 : decode code 353 = .ok (.ireturn, 1) := by decide +kernel
theorem dL_354 : decode code 354 = .ok (.aload_n 1, 1) := by decide +kernel
theorem dL_355 : decode code 355 = .ok (.aload_n 0, 1) := by decide +kernel
theorem dL_356 : decode code 356 = .ok (.iload_n 3, 1) := by decide +kernel
theorem dL_357 : decode code 357 = .ok (.iconst 1, 1) := by decide +kernel
theorem dL_358 : decode code 358 = .ok (.iadd, 1) := by decide +kernel
theorem dL_359 : decode code 359 = .ok (.iaload, 1) := by decide +kernel
theorem dL_360 : decode code 360 = .ok (.aload_n 0, 1) := by decide +kernel
theorem dL_361 : decode code 361 = .ok (.iload_n 3, 1) := by decide +kernel
theorem dL_362 : decode code 362 = .ok (.iconst 2, 1) := by decide +kernel
theorem dL_363 : decode code 363 = .ok (.iadd, 1) := by decide +kernel
theorem dL_364 : decode code 364 = .ok (.iaload, 1) := by decide +kernel
theorem dL_365 : decode code 365 = .ok (.invokevirtual 31, 3) := by decide +kernel
theorem dL_368 : decode code 368 = .ok (.aload_n 2, 1) := by decide +kernel
theorem dL_369 : decode code 369 = .ok (.aload_n 0, 1) := by decide +kernel
theorem dL_370 : decode code 370 = .ok (.iload_n 3, 1) := by decide +kernel
theorem dL_371 : decode code 371 = .ok (.iconst 1, 1) := by decide +kernel
theorem dL_372 : decode code 372 = .ok (.iadd, 1) := by decide +kernel
theorem dL_373 : decode code 373 = .ok (.iaload, 1) := by decide +kernel
theorem dL_374 : decode code 374 = .ok (.aload_n 0, 1) := by decide +kernel
theorem dL_375 : decode code 375 = .ok (.iload_n 3, 1) := by decide +kernel
theorem dL_376 : decode code 376 = .ok (.iconst 2, 1) := by decide +kernel
theorem dL_377 : decode code 377 = .ok (.iadd, 1) := by decide +kernel
theorem dL_378 : decode code 378 = .ok (.iaload, 1) := by decide +kernel
theorem dL_379 : decode code 379 = .ok (.invokevirtual 34, 3) := by decide +kernel
theorem dL_382 : decode code 382 = .ok (.if_icmp .eq 1084, 3) := by decide +kernel
theorem dL_385 : decode code 385 = .ok (.iconst 0, 1) := by decide +kernel
theorem dL_386 : decode code 386 = .ok (.ireturn, 1) := by decide +kernel
theorem dL_387 : decode code 387 = .ok (.aload_n 1, 1) := by decide +kernel
theorem dL_388 : decode code 388 = .ok (.aload_n 0, 1) := by decide +kernel
theorem dL_389 : decode code 389 = .ok (.iload_n 3, 1) := by decide +kernel
theorem dL_390 : decode code 390 = .ok (.iconst 1, 1) := by decide +kernel
theorem dL_391 : decode code 391 = .ok (.iadd, 1) := by decide +kernel
theorem dL_392 : decode code 392 = .ok (.iaload, 1) := by decide +kernel
theorem dL_393 : decode code 393 = .ok (.aload_n 0, 1) := by decide +kernel
theorem dL_394 : decode code 394 = .ok (.iload_n 3, 1) := by decide +kernel
theorem dL_395 : decode code 395 = .ok (.iconst 2, 1) := by decide +kernel
theorem dL_396 : decode code 396 = .ok (.iadd, 1) := by decide +kernel
theorem dL_397 : decode code 397 = .ok (.iaload, 1) := by decide +kernel
theorem dL_398 : decode code 398 = .ok (.aload_n 0, 1) := by decide +kernel
theorem dL_399 : decode code 399 = .ok (.iload_n 3, 1) := by decide +kernel
theorem dL_400 : decode code 400 = .ok (.iconst 3, 1) := by decide +kernel
theorem dL_401 : decode code 401 = .ok (.iadd, 1) := by decide +kernel
theorem dL_402 : decode code 402 = .ok (.iaload, 1) := by decide +kernel
theorem dL_403 : decode code 403 = .ok (.invokevirtual 35, 3) := by decide +kernel
theorem dL_406 : decode code 406 = .ok (.aload_n 2, 1) := by decide +kernel
theorem dL_407 : decode code 407 = .ok (.aload_n 0, 1) := by decide +kernel
theorem dL_408 : decode code 408 = .ok (.iload_n 3, 1) := by decide +kernel
theorem dL_409 : decode code 409 = .ok (.iconst 1, 1) := by decide +kernel
theorem dL_410 : decode code 410 = .ok (.iadd, 1) := by decide +kernel
theorem dL_411 : decode code 411 = .ok (.iaload, 1) := by decide +kernel
theorem dL_412 : decode code 412 = .ok (.aload_n 0, 1) := by decide +kernel
theorem dL_413 : decode code 413 = .ok (.iload_n 3, 1) := by decide +kernel
theorem dL_414 : decode code 414 = .ok (.iconst 2, 1) := by decide +kernel
theorem dL_415 : decode code 415 = .ok (.iadd, 1) := by decide +kernel
theorem dL_416 : decode code 416 = .ok (.iaload, 1) := by decide +kernel
theorem dL_417 : decode code 417 = .ok (.aload_n 0, 1) := by decide +kernel
theorem dL_418 : decode code 418 = .ok (.iload_n 3, 1) := by decide +kernel
theorem dL_419 : decode code 419 = .ok (.iconst 3, 1) := by decide +kernel
theorem dL_420 : decode code 420 = .ok (.iadd, 1) := by decide +kernel
theorem dL_421 : decode code 421 = .ok (.iaload, 1) := by decide +kernel
theorem dL_422 : decode code 422 = .ok (.invokevirtual 38, 3) := by decide +kernel
theorem dL_425 : decode code 425 = .ok (.if_icmp .eq 1041, 3) := by decide +kernel
theorem dL_428 : decode code 428 = .ok (.iconst 0, 1) := by decide +kernel
theorem dL_429 : decode code 429 = .ok (.ireturn, 1) := by decide +kernel
theorem dL_430 : decode code 430 = .ok (.aload_n 1, 1) := by decide +kernel
theorem dL_431 : decode code 431 = .ok (.aload_n 0, 1) := by decide +kernel
theorem dL_432 : decode code 432 = .ok (.iload_n 3, 1) := by decide +kernel
theorem dL_433 : decode code 433 = .ok (.iconst 1, 1) := by decide +kernel
theorem dL_434 : decode code 434 = .ok (.iadd, 1) := by decide +kernel
theorem dL_435 : decode code 435 = .ok (.iaload, 1) := by decide +kernel
theorem dL_436 : decode code 436 = .ok (.aload_n 0, 1) := by decide +kernel
theorem dL_437 : decode code 437 = .ok (.iload_n 3, 1) := by decide +kernel
theorem dL_438 : decode code 438 = .ok (.iconst 2, 1) := by decide +kernel
theorem dL_439 : decode code 439 = .ok (.iadd, 1) := by decide +kernel
theorem dL_440 : decode code 440 = .ok (.iaload, 1) := by decide +kernel
theorem dL_441 : decode code 441 = .ok (.invokevirtual 39, 3) := by decide +kernel
theorem dL_444 : decode code 444 = .ok (.aload_n 2, 1) := by decide +kernel
theorem dL_445 : decode code 445 = .ok (.aload_n 0, 1) := by decide +kernel
theorem dL_446 : decode code 446 = .ok (.iload_n 3, 1) := by decide +kernel
theorem dL_447 : decode code 447 = .ok (.iconst 1, 1) := by decide +kernel
theorem dL_448 : decode code 448 = .ok (.iadd, 1) := by decide +kernel
theorem dL_449 : decode code 449 = .ok (.iaload, 1) := by decide +kernel
theorem dL_450 : decode code 450 = .ok (.aload_n 0, 1) := by decide +kernel
theorem dL_451 : decode code 451 = .ok (.iload_n 3, 1) := by decide +kernel
theorem dL_452 : decode code 452 = .ok (.iconst 2, 1) := by decide +kernel
theorem dL_453 : decode code 453 = .ok (.iadd, 1) := by decide +kernel
theorem dL_454 : decode code 454 = .ok (.iaload, 1) := by decide +kernel
theorem dL_455 : decode code 455 = .ok (.invokevirtual 42, 3) := by decide +kernel
theorem dL_458 : decode code 458 = .ok (.if_icmp .eq 1008, 3) := by decide +kernel
theorem dL_461 : decode code 461 = .ok (.iconst 0, 1) := by decide +kernel
theorem dL_462 : decode code 462 = .ok (.ireturn, 1) := by decide +kernel
theorem dL_463 : decode code 463 = .ok (.aload_n 1, 1) := by decide +kernel
theorem dL_464 : decode code 464 = .ok (.aload_n 0, 1) := by decide +kernel
theorem dL_465 : decode code 465 = .ok (.iload_n 3, 1) := by decide +kernel
theorem dL_466 : decode code 466 = .ok (.iconst 1, 1) := by decide +kernel
theorem dL_467 : decode code 467 = .ok (.iadd, 1) := by decide +kernel
theorem dL_468 : decode code 468 = .ok (.iaload, 1) := by decide +kernel
theorem dL_469 : decode code 469 = .ok (.aload_n 0, 1) := by decide +kernel
theorem dL_470 : decode code 470 = .ok (.iload_n 3, 1) := by decide +kernel
theorem dL_471 : decode code 471 = .ok (.iconst 2, 1) := by decide +kernel
theorem dL_472 : decode code 472 = .ok (.iadd, 1) := by decide +kernel
theorem dL_473 : decode code 473 = .ok (.iaload, 1) := by decide +kernel
theorem dL_474 : decode code 474 = .ok (.invokevirtual 43, 3) := by decide +kernel
theorem dL_477 : decode code 477 = .ok (.aload_n 2, 1) := by decide +kernel
theorem dL_478 : decode code 478 = .ok (.aload_n 0, 1) := by decide +kernel
theorem dL_479 : decode code 479 = .ok (.iload_n 3, 1) := by decide +kernel
theorem dL_480 : decode code 480 = .ok (.iconst 1, 1) := by decide +kernel
theorem dL_481 : decode code 481 = .ok (.iadd, 1) := by decide +kernel
theorem dL_482 : decode code 482 = .ok (.iaload, 1) := by decide +kernel
theorem dL_483 : decode code 483 = .ok (.aload_n 0, 1) := by decide +kernel
theorem dL_484 : decode code 484 = .ok (.iload_n 3, 1) := by decide +kernel
theorem dL_485 : decode code 485 = .ok (.iconst 2, 1) := by decide +kernel
theorem dL_486 : decode code 486 = .ok (.iadd, 1) := by decide +kernel
theorem dL_487 : decode code 487 = .ok (.iaload, 1) := by decide +kernel
theorem dL_488 : decode code 488 = .ok (.invokevirtual 46, 3) := by decide +kernel
theorem dL_491 : decode code 491 = .ok (.if_icmp .eq 975, 3) := by decide +kernel
theorem dL_494 : decode code 494 = .ok (.iconst 0, 1) := by decide +kernel
theorem dL_495 : decode code 495 = .ok (.ireturn, 1) := by decide +kernel
theorem dL_496 : decode code 496 = .ok (.aload_n 1, 1) := by decide +kernel
theorem dL_497 : decode code 497 = .ok (.aload_n 0, 1) := by decide +kernel
