/-! Each entry of the tables is sound (printed by wip/p67/gen12.py). -/
theorem dL_call_0 : decode cL_call 0 = .ok (.iload_n 1, 1) := by decide +kernel
theorem dL_call_1 : decode cL_call 1 = .ok (.tableswitch 635 0 46 #[203, 209, 229, 236, 243, 249, 258, 264, 271, 278, 283, 289, 295, 300, 313, 319, 324, 339, 354, 369, 376, 387, 394, 400, 406, 412, 418, 432, 446, 452, 458, 472, 478, 484, 498, 512, 526, 532, 546, 552, 567, 582, 597, 603, 609, 623, 629], 203) := by decide +kernel
theorem dL_call_204 : decode cL_call 204 = .ok (.aload_n 0, 1) := by decide +kernel
theorem dL_call_205 : decode cL_call 205 = .ok (.iload_n 2, 1) := by decide +kernel
theorem dL_call_206 : decode cL_call 206 = .ok (.invokevirtual 7, 3) := by decide +kernel
theorem dL_call_209 : decode cL_call 209 = .ok (.ireturn, 1) := by decide +kernel
theorem dL_call_210 : decode cL_call 210 = .ok (.aload_n 0, 1) := by decide +kernel
theorem dL_call_211 : decode cL_call 211 = .ok (.iload_n 2, 1) := by decide +kernel
theorem dL_call_212 : decode cL_call 212 = .ok (.iload_n 3, 1) := by decide +kernel
theorem dL_call_213 : decode cL_call 213 = .ok (.iload 4, 2) := by decide +kernel
theorem dL_call_215 : decode cL_call 215 = .ok (.iload 5, 2) := by decide +kernel
theorem dL_call_217 : decode cL_call 217 = .ok (.iconst 1, 1) := by decide +kernel
theorem dL_call_218 : decode cL_call 218 = .ok (.if_icmp .ne 7, 3) := by decide +kernel
theorem dL_call_221 : decode cL_call 221 = .ok (.iconst 1, 1) := by decide +kernel
theorem dL_call_222 : decode cL_call 222 = .ok (.goto 4, 3) := by decide +kernel
theorem dL_call_225 : decode cL_call 225 = .ok (.iconst 0, 1) := by decide +kernel
theorem dL_call_226 : decode cL_call 226 = .ok (.invokevirtual 13, 3) := by decide +kernel
theorem dL_call_229 : decode cL_call 229 = .ok (.ireturn, 1) := by decide +kernel
theorem dL_call_230 : decode cL_call 230 = .ok (.aload_n 0, 1) := by decide +kernel
theorem dL_call_231 : decode cL_call 231 = .ok (.iload_n 2, 1) := by decide +kernel
theorem dL_call_232 : decode cL_call 232 = .ok (.iload_n 3, 1) := by decide +kernel
theorem dL_call_233 : decode cL_call 233 = .ok (.invokevirtual 17, 3) := by decide +kernel
theorem dL_call_236 : decode cL_call 236 = .ok (.ireturn, 1) := by decide +kernel
theorem dL_call_237 : decode cL_call 237 = .ok (.aload_n 0, 1) := by decide +kernel
theorem dL_call_238 : decode cL_call 238 = .ok (.iload_n 2, 1) := by decide +kernel
theorem dL_call_239 : decode cL_call 239 = .ok (.iload_n 3, 1) := by decide +kernel
theorem dL_call_240 : decode cL_call 240 = .ok (.invokevirtual 21, 3) := by decide +kernel
theorem dL_call_243 : decode cL_call 243 = .ok (.ireturn, 1) := by decide +kernel
theorem dL_call_244 : decode cL_call 244 = .ok (.aload_n 0, 1) := by decide +kernel
theorem dL_call_245 : decode cL_call 245 = .ok (.iload_n 2, 1) := by decide +kernel
theorem dL_call_246 : decode cL_call 246 = .ok (.invokevirtual 24, 3) := by decide +kernel
theorem dL_call_249 : decode cL_call 249 = .ok (.ireturn, 1) := by decide +kernel
theorem dL_call_250 : decode cL_call 250 = .ok (.aload_n 0, 1) := by decide +kernel
theorem dL_call_251 : decode cL_call 251 = .ok (.iload_n 2, 1) := by decide +kernel
theorem dL_call_252 : decode cL_call 252 = .ok (.iload_n 3, 1) := by decide +kernel
theorem dL_call_253 : decode cL_call 253 = .ok (.iload 4, 2) := by decide +kernel
theorem dL_call_255 : decode cL_call 255 = .ok (.invokevirtual 27, 3) := by decide +kernel
theorem dL_call_258 : decode cL_call 258 = .ok (.ireturn, 1) := by decide +kernel
theorem dL_call_259 : decode cL_call 259 = .ok (.aload_n 0, 1) := by decide +kernel
theorem dL_call_260 : decode cL_call 260 = .ok (.iload_n 2, 1) := by decide +kernel
theorem dL_call_261 : decode cL_call 261 = .ok (.invokevirtual 31, 3) := by decide +kernel
theorem dL_call_264 : decode cL_call 264 = .ok (.ireturn, 1) := by decide +kernel
theorem dL_call_265 : decode cL_call 265 = .ok (.aload_n 0, 1) := by decide +kernel
theorem dL_call_266 : decode cL_call 266 = .ok (.iload_n 2, 1) := by decide +kernel
theorem dL_call_267 : decode cL_call 267 = .ok (.iload_n 3, 1) := by decide +kernel
theorem dL_call_268 : decode cL_call 268 = .ok (.invokevirtual 34, 3) := by decide +kernel
theorem dL_call_271 : decode cL_call 271 = .ok (.ireturn, 1) := by decide +kernel
theorem dL_call_272 : decode cL_call 272 = .ok (.aload_n 0, 1) := by decide +kernel
theorem dL_call_273 : decode cL_call 273 = .ok (.iload_n 2, 1) := by decide +kernel
theorem dL_call_274 : decode cL_call 274 = .ok (.iload_n 3, 1) := by decide +kernel
theorem dL_call_275 : decode cL_call 275 = .ok (.invokevirtual 37, 3) := by decide +kernel
theorem dL_call_278 : decode cL_call 278 = .ok (.ireturn, 1) := by decide +kernel
theorem dL_call_279 : decode cL_call 279 = .ok (.aload_n 0, 1) := by decide +kernel
theorem dL_call_280 : decode cL_call 280 = .ok (.invokevirtual 40, 3) := by decide +kernel
theorem dL_call_283 : decode cL_call 283 = .ok (.ireturn, 1) := by decide +kernel
theorem dL_call_284 : decode cL_call 284 = .ok (.aload_n 0, 1) := by decide +kernel
theorem dL_call_285 : decode cL_call 285 = .ok (.iload_n 2, 1) := by decide +kernel
theorem dL_call_286 : decode cL_call 286 = .ok (.invokevirtual 44, 3) := by decide +kernel
theorem dL_call_289 : decode cL_call 289 = .ok (.ireturn, 1) := by decide +kernel
theorem dL_call_290 : decode cL_call 290 = .ok (.aload_n 0, 1) := by decide +kernel
theorem dL_call_291 : decode cL_call 291 = .ok (.iload_n 2, 1) := by decide +kernel
theorem dL_call_292 : decode cL_call 292 = .ok (.invokevirtual 47, 3) := by decide +kernel
theorem dL_call_295 : decode cL_call 295 = .ok (.ireturn, 1) := by decide +kernel
theorem dL_call_296 : decode cL_call 296 = .ok (.aload_n 0, 1) := by decide +kernel
theorem dL_call_297 : decode cL_call 297 = .ok (.invokevirtual 50, 3) := by decide +kernel
theorem dL_call_300 : decode cL_call 300 = .ok (.ireturn, 1) := by decide +kernel
theorem dL_call_301 : decode cL_call 301 = .ok (.aload_n 0, 1) := by decide +kernel
theorem dL_call_302 : decode cL_call 302 = .ok (.iload_n 2, 1) := by decide +kernel
theorem dL_call_303 : decode cL_call 303 = .ok (.iload_n 3, 1) := by decide +kernel
theorem dL_call_304 : decode cL_call 304 = .ok (.iload 4, 2) := by decide +kernel
theorem dL_call_306 : decode cL_call 306 = .ok (.iload 5, 2) := by decide +kernel
theorem dL_call_308 : decode cL_call 308 = .ok (.iload 6, 2) := by decide +kernel
theorem dL_call_310 : decode cL_call 310 = .ok (.invokevirtual 53, 3) := by decide +kernel
theorem dL_call_313 : decode cL_call 313 = .ok (.ireturn, 1) := by decide +kernel
theorem dL_call_314 : decode cL_call 314 = .ok (.aload_n 0, 1) := by decide +kernel
theorem dL_call_315 : decode cL_call 315 = .ok (.iload_n 2, 1) := by decide +kernel
theorem dL_call_316 : decode cL_call 316 = .ok (.invokevirtual 57, 3) := by decide +kernel
theorem dL_call_319 : decode cL_call 319 = .ok (.ireturn, 1) := by decide +kernel
theorem dL_call_320 : decode cL_call 320 = .ok (.aload_n 0, 1) := by decide +kernel
theorem dL_call_321 : decode cL_call 321 = .ok (.invokevirtual 60, 3) := by decide +kernel
theorem dL_call_324 : decode cL_call 324 = .ok (.ireturn, 1) := by decide +kernel
theorem dL_call_325 : decode cL_call 325 = .ok (.aload_n 0, 1) := by decide +kernel
theorem dL_call_326 : decode cL_call 326 = .ok (.iload_n 2, 1) := by decide +kernel
theorem dL_call_327 : decode cL_call 327 = .ok (.iload_n 3, 1) := by decide +kernel
theorem dL_call_328 : decode cL_call 328 = .ok (.invokevirtual 63, 3) := by decide +kernel
theorem dL_call_331 : decode cL_call 331 = .ok (.ifCond .eq 7, 3) := by decide +kernel
theorem dL_call_334 : decode cL_call 334 = .ok (.iconst 1, 1) := by decide +kernel
theorem dL_call_335 : decode cL_call 335 = .ok (.goto 4, 3) := by decide +kernel
theorem dL_call_338 : decode cL_call 338 = .ok (.iconst 0, 1) := by decide +kernel
theorem dL_call_339 : decode cL_call 339 = .ok (.ireturn, 1) := by decide +kernel
theorem dL_call_340 : decode cL_call 340 = .ok (.aload_n 0, 1) := by decide +kernel
theorem dL_call_341 : decode cL_call 341 = .ok (.iload_n 2, 1) := by decide +kernel
theorem dL_call_342 : decode cL_call 342 = .ok (.iload_n 3, 1) := by decide +kernel
theorem dL_call_343 : decode cL_call 343 = .ok (.invokevirtual 67, 3) := by decide +kernel
theorem dL_call_346 : decode cL_call 346 = .ok (.ifCond .eq 7, 3) := by decide +kernel
theorem dL_call_349 : decode cL_call 349 = .ok (.iconst 1, 1) := by decide +kernel
theorem dL_call_350 : decode cL_call 350 = .ok (.goto 4, 3) := by decide +kernel
theorem dL_call_353 : decode cL_call 353 = .ok (.iconst 0, 1) := by decide +kernel
theorem dL_call_354 : decode cL_call 354 = .ok (.ireturn, 1) := by decide +kernel
theorem dL_call_355 : decode cL_call 355 = .ok (.aload_n 0, 1) := by decide +kernel
theorem dL_call_356 : decode cL_call 356 = .ok (.iload_n 2, 1) := by decide +kernel
theorem dL_call_357 : decode cL_call 357 = .ok (.iload_n 3, 1) := by decide +kernel
theorem dL_call_358 : decode cL_call 358 = .ok (.invokevirtual 70, 3) := by decide +kernel
theorem dL_call_361 : decode cL_call 361 = .ok (.ifCond .eq 7, 3) := by decide +kernel
theorem dL_call_364 : decode cL_call 364 = .ok (.iconst 1, 1) := by decide +kernel
theorem dL_call_365 : decode cL_call 365 = .ok (.goto 4, 3) := by decide +kernel
theorem dL_call_368 : decode cL_call 368 = .ok (.iconst 0, 1) := by decide +kernel
theorem dL_call_369 : decode cL_call 369 = .ok (.ireturn, 1) := by decide +kernel
theorem dL_call_370 : decode cL_call 370 = .ok (.aload_n 0, 1) := by decide +kernel
theorem dL_call_371 : decode cL_call 371 = .ok (.iload_n 2, 1) := by decide +kernel
theorem dL_call_372 : decode cL_call 372 = .ok (.iload_n 3, 1) := by decide +kernel
theorem dL_call_373 : decode cL_call 373 = .ok (.invokevirtual 73, 3) := by decide +kernel
theorem dL_call_376 : decode cL_call 376 = .ok (.ireturn, 1) := by decide +kernel
theorem dL_call_377 : decode cL_call 377 = .ok (.aload_n 0, 1) := by decide +kernel
theorem dL_call_378 : decode cL_call 378 = .ok (.iload_n 2, 1) := by decide +kernel
theorem dL_call_379 : decode cL_call 379 = .ok (.iload_n 3, 1) := by decide +kernel
theorem dL_call_380 : decode cL_call 380 = .ok (.iload 4, 2) := by decide +kernel
theorem dL_call_382 : decode cL_call 382 = .ok (.iload 5, 2) := by decide +kernel
theorem dL_call_384 : decode cL_call 384 = .ok (.invokevirtual 76, 3) := by decide +kernel
theorem dL_call_387 : decode cL_call 387 = .ok (.ireturn, 1) := by decide +kernel
theorem dL_call_388 : decode cL_call 388 = .ok (.aload_n 0, 1) := by decide +kernel
theorem dL_call_389 : decode cL_call 389 = .ok (.iload_n 2, 1) := by decide +kernel
theorem dL_call_390 : decode cL_call 390 = .ok (.iload_n 3, 1) := by decide +kernel
theorem dL_call_391 : decode cL_call 391 = .ok (.invokevirtual 80, 3) := by decide +kernel
theorem dL_call_394 : decode cL_call 394 = .ok (.ireturn, 1) := by decide +kernel
theorem dL_call_395 : decode cL_call 395 = .ok (.aload_n 0, 1) := by decide +kernel
theorem dL_call_396 : decode cL_call 396 = .ok (.iload_n 2, 1) := by decide +kernel
theorem dL_call_397 : decode cL_call 397 = .ok (.invokevirtual 83, 3) := by decide +kernel
theorem dL_call_400 : decode cL_call 400 = .ok (.ireturn, 1) := by decide +kernel
theorem dL_call_401 : decode cL_call 401 = .ok (.aload_n 0, 1) := by decide +kernel
theorem dL_call_402 : decode cL_call 402 = .ok (.iload_n 2, 1) := by decide +kernel
theorem dL_call_403 : decode cL_call 403 = .ok (.invokevirtual 86, 3) := by decide +kernel
theorem dL_call_406 : decode cL_call 406 = .ok (.ireturn, 1) := by decide +kernel
theorem dL_call_407 : decode cL_call 407 = .ok (.aload_n 0, 1) := by decide +kernel
theorem dL_call_408 : decode cL_call 408 = .ok (.iload_n 2, 1) := by decide +kernel
theorem dL_call_409 : decode cL_call 409 = .ok (.invokevirtual 89, 3) := by decide +kernel
theorem dL_call_412 : decode cL_call 412 = .ok (.ireturn, 1) := by decide +kernel
theorem dL_call_413 : decode cL_call 413 = .ok (.aload_n 0, 1) := by decide +kernel
theorem dL_call_414 : decode cL_call 414 = .ok (.iload_n 2, 1) := by decide +kernel
theorem dL_call_415 : decode cL_call 415 = .ok (.invokevirtual 92, 3) := by decide +kernel
theorem dL_call_418 : decode cL_call 418 = .ok (.ireturn, 1) := by decide +kernel
theorem dL_call_419 : decode cL_call 419 = .ok (.aload_n 0, 1) := by decide +kernel
theorem dL_call_420 : decode cL_call 420 = .ok (.iload_n 2, 1) := by decide +kernel
theorem dL_call_421 : decode cL_call 421 = .ok (.invokevirtual 95, 3) := by decide +kernel
theorem dL_call_424 : decode cL_call 424 = .ok (.ifCond .eq 7, 3) := by decide +kernel
theorem dL_call_427 : decode cL_call 427 = .ok (.iconst 1, 1) := by decide +kernel
theorem dL_call_428 : decode cL_call 428 = .ok (.goto 4, 3) := by decide +kernel
theorem dL_call_431 : decode cL_call 431 = .ok (.iconst 0, 1) := by decide +kernel
theorem dL_call_432 : decode cL_call 432 = .ok (.ireturn, 1) := by decide +kernel
theorem dL_call_433 : decode cL_call 433 = .ok (.aload_n 0, 1) := by decide +kernel
theorem dL_call_434 : decode cL_call 434 = .ok (.iload_n 2, 1) := by decide +kernel
theorem dL_call_435 : decode cL_call 435 = .ok (.invokevirtual 99, 3) := by decide +kernel
theorem dL_call_438 : decode cL_call 438 = .ok (.ifCond .eq 7, 3) := by decide +kernel
theorem dL_call_441 : decode cL_call 441 = .ok (.iconst 1, 1) := by decide +kernel
theorem dL_call_442 : decode cL_call 442 = .ok (.goto 4, 3) := by decide +kernel
theorem dL_call_445 : decode cL_call 445 = .ok (.iconst 0, 1) := by decide +kernel
theorem dL_call_446 : decode cL_call 446 = .ok (.ireturn, 1) := by decide +kernel
theorem dL_call_447 : decode cL_call 447 = .ok (.aload_n 0, 1) := by decide +kernel
theorem dL_call_448 : decode cL_call 448 = .ok (.iload_n 2, 1) := by decide +kernel
theorem dL_call_449 : decode cL_call 449 = .ok (.invokevirtual 102, 3) := by decide +kernel
theorem dL_call_452 : decode cL_call 452 = .ok (.ireturn, 1) := by decide +kernel
theorem dL_call_453 : decode cL_call 453 = .ok (.aload_n 0, 1) := by decide +kernel
theorem dL_call_454 : decode cL_call 454 = .ok (.iload_n 2, 1) := by decide +kernel
theorem dL_call_455 : decode cL_call 455 = .ok (.invokevirtual 105, 3) := by decide +kernel
theorem dL_call_458 : decode cL_call 458 = .ok (.ireturn, 1) := by decide +kernel
theorem dL_call_459 : decode cL_call 459 = .ok (.aload_n 0, 1) := by decide +kernel
theorem dL_call_460 : decode cL_call 460 = .ok (.iload_n 2, 1) := by decide +kernel
theorem dL_call_461 : decode cL_call 461 = .ok (.invokevirtual 108, 3) := by decide +kernel
theorem dL_call_464 : decode cL_call 464 = .ok (.ifCond .eq 7, 3) := by decide +kernel
theorem dL_call_467 : decode cL_call 467 = .ok (.iconst 1, 1) := by decide +kernel
theorem dL_call_468 : decode cL_call 468 = .ok (.goto 4, 3) := by decide +kernel
theorem dL_call_471 : decode cL_call 471 = .ok (.iconst 0, 1) := by decide +kernel
theorem dL_call_472 : decode cL_call 472 = .ok (.ireturn, 1) := by decide +kernel
theorem dL_call_473 : decode cL_call 473 = .ok (.aload_n 0, 1) := by decide +kernel
theorem dL_call_474 : decode cL_call 474 = .ok (.iload_n 2, 1) := by decide +kernel
theorem dL_call_475 : decode cL_call 475 = .ok (.invokevirtual 111, 3) := by decide +kernel
theorem dL_call_478 : decode cL_call 478 = .ok (.ireturn, 1) := by decide +kernel
theorem dL_call_479 : decode cL_call 479 = .ok (.aload_n 0, 1) := by decide +kernel
theorem dL_call_480 : decode cL_call 480 = .ok (.iload_n 2, 1) := by decide +kernel
theorem dL_call_481 : decode cL_call 481 = .ok (.invokevirtual 114, 3) := by decide +kernel
theorem dL_call_484 : decode cL_call 484 = .ok (.ireturn, 1) := by decide +kernel
theorem dL_call_485 : decode cL_call 485 = .ok (.aload_n 0, 1) := by decide +kernel
theorem dL_call_486 : decode cL_call 486 = .ok (.iload_n 2, 1) := by decide +kernel
theorem dL_call_487 : decode cL_call 487 = .ok (.invokevirtual 117, 3) := by decide +kernel
theorem dL_call_490 : decode cL_call 490 = .ok (.ifCond .eq 7, 3) := by decide +kernel
theorem dL_call_493 : decode cL_call 493 = .ok (.iconst 1, 1) := by decide +kernel
theorem dL_call_494 : decode cL_call 494 = .ok (.goto 4, 3) := by decide +kernel
theorem dL_call_497 : decode cL_call 497 = .ok (.iconst 0, 1) := by decide +kernel
theorem dL_call_498 : decode cL_call 498 = .ok (.ireturn, 1) := by decide +kernel
theorem dL_call_499 : decode cL_call 499 = .ok (.aload_n 0, 1) := by decide +kernel
theorem dL_call_500 : decode cL_call 500 = .ok (.iload_n 2, 1) := by decide +kernel
theorem dL_call_501 : decode cL_call 501 = .ok (.invokevirtual 120, 3) := by decide +kernel
theorem dL_call_504 : decode cL_call 504 = .ok (.ifCond .eq 7, 3) := by decide +kernel
theorem dL_call_507 : decode cL_call 507 = .ok (.iconst 1, 1) := by decide +kernel
theorem dL_call_508 : decode cL_call 508 = .ok (.goto 4, 3) := by decide +kernel
theorem dL_call_511 : decode cL_call 511 = .ok (.iconst 0, 1) := by decide +kernel
theorem dL_call_512 : decode cL_call 512 = .ok (.ireturn, 1) := by decide +kernel
theorem dL_call_513 : decode cL_call 513 = .ok (.aload_n 0, 1) := by decide +kernel
theorem dL_call_514 : decode cL_call 514 = .ok (.iload_n 2, 1) := by decide +kernel
theorem dL_call_515 : decode cL_call 515 = .ok (.invokevirtual 123, 3) := by decide +kernel
theorem dL_call_518 : decode cL_call 518 = .ok (.ifCond .eq 7, 3) := by decide +kernel
theorem dL_call_521 : decode cL_call 521 = .ok (.iconst 1, 1) := by decide +kernel
theorem dL_call_522 : decode cL_call 522 = .ok (.goto 4, 3) := by decide +kernel
theorem dL_call_525 : decode cL_call 525 = .ok (.iconst 0, 1) := by decide +kernel
theorem dL_call_526 : decode cL_call 526 = .ok (.ireturn, 1) := by decide +kernel
theorem dL_call_527 : decode cL_call 527 = .ok (.aload_n 0, 1) := by decide +kernel
theorem dL_call_528 : decode cL_call 528 = .ok (.iload_n 2, 1) := by decide +kernel
theorem dL_call_529 : decode cL_call 529 = .ok (.invokevirtual 126, 3) := by decide +kernel
theorem dL_call_532 : decode cL_call 532 = .ok (.ireturn, 1) := by decide +kernel
theorem dL_call_533 : decode cL_call 533 = .ok (.aload_n 0, 1) := by decide +kernel
theorem dL_call_534 : decode cL_call 534 = .ok (.iload_n 2, 1) := by decide +kernel
theorem dL_call_535 : decode cL_call 535 = .ok (.invokevirtual 129, 3) := by decide +kernel
theorem dL_call_538 : decode cL_call 538 = .ok (.ifCond .eq 7, 3) := by decide +kernel
theorem dL_call_541 : decode cL_call 541 = .ok (.iconst 1, 1) := by decide +kernel
theorem dL_call_542 : decode cL_call 542 = .ok (.goto 4, 3) := by decide +kernel
theorem dL_call_545 : decode cL_call 545 = .ok (.iconst 0, 1) := by decide +kernel
theorem dL_call_546 : decode cL_call 546 = .ok (.ireturn, 1) := by decide +kernel
theorem dL_call_547 : decode cL_call 547 = .ok (.aload_n 0, 1) := by decide +kernel
theorem dL_call_548 : decode cL_call 548 = .ok (.iload_n 2, 1) := by decide +kernel
theorem dL_call_549 : decode cL_call 549 = .ok (.invokevirtual 132, 3) := by decide +kernel
theorem dL_call_552 : decode cL_call 552 = .ok (.ireturn, 1) := by decide +kernel
theorem dL_call_553 : decode cL_call 553 = .ok (.aload_n 0, 1) := by decide +kernel
theorem dL_call_554 : decode cL_call 554 = .ok (.iload_n 2, 1) := by decide +kernel
theorem dL_call_555 : decode cL_call 555 = .ok (.iload_n 3, 1) := by decide +kernel
theorem dL_call_556 : decode cL_call 556 = .ok (.invokevirtual 135, 3) := by decide +kernel
theorem dL_call_559 : decode cL_call 559 = .ok (.ifCond .eq 7, 3) := by decide +kernel
theorem dL_call_562 : decode cL_call 562 = .ok (.iconst 1, 1) := by decide +kernel
theorem dL_call_563 : decode cL_call 563 = .ok (.goto 4, 3) := by decide +kernel
theorem dL_call_566 : decode cL_call 566 = .ok (.iconst 0, 1) := by decide +kernel
theorem dL_call_567 : decode cL_call 567 = .ok (.ireturn, 1) := by decide +kernel
theorem dL_call_568 : decode cL_call 568 = .ok (.aload_n 0, 1) := by decide +kernel
theorem dL_call_569 : decode cL_call 569 = .ok (.iload_n 2, 1) := by decide +kernel
theorem dL_call_570 : decode cL_call 570 = .ok (.iload_n 3, 1) := by decide +kernel
theorem dL_call_571 : decode cL_call 571 = .ok (.invokevirtual 138, 3) := by decide +kernel
theorem dL_call_574 : decode cL_call 574 = .ok (.ifCond .eq 7, 3) := by decide +kernel
theorem dL_call_577 : decode cL_call 577 = .ok (.iconst 1, 1) := by decide +kernel
theorem dL_call_578 : decode cL_call 578 = .ok (.goto 4, 3) := by decide +kernel
theorem dL_call_581 : decode cL_call 581 = .ok (.iconst 0, 1) := by decide +kernel
theorem dL_call_582 : decode cL_call 582 = .ok (.ireturn, 1) := by decide +kernel
theorem dL_call_583 : decode cL_call 583 = .ok (.aload_n 0, 1) := by decide +kernel
theorem dL_call_584 : decode cL_call 584 = .ok (.iload_n 2, 1) := by decide +kernel
theorem dL_call_585 : decode cL_call 585 = .ok (.iload_n 3, 1) := by decide +kernel
theorem dL_call_586 : decode cL_call 586 = .ok (.invokevirtual 141, 3) := by decide +kernel
theorem dL_call_589 : decode cL_call 589 = .ok (.ifCond .eq 7, 3) := by decide +kernel
theorem dL_call_592 : decode cL_call 592 = .ok (.iconst 1, 1) := by decide +kernel
theorem dL_call_593 : decode cL_call 593 = .ok (.goto 4, 3) := by decide +kernel
theorem dL_call_596 : decode cL_call 596 = .ok (.iconst 0, 1) := by decide +kernel
theorem dL_call_597 : decode cL_call 597 = .ok (.ireturn, 1) := by decide +kernel
theorem dL_call_598 : decode cL_call 598 = .ok (.aload_n 0, 1) := by decide +kernel
theorem dL_call_599 : decode cL_call 599 = .ok (.iload_n 2, 1) := by decide +kernel
theorem dL_call_600 : decode cL_call 600 = .ok (.invokevirtual 144, 3) := by decide +kernel
theorem dL_call_603 : decode cL_call 603 = .ok (.ireturn, 1) := by decide +kernel
theorem dL_call_604 : decode cL_call 604 = .ok (.aload_n 0, 1) := by decide +kernel
theorem dL_call_605 : decode cL_call 605 = .ok (.iload_n 2, 1) := by decide +kernel
theorem dL_call_606 : decode cL_call 606 = .ok (.invokevirtual 147, 3) := by decide +kernel
theorem dL_call_609 : decode cL_call 609 = .ok (.ireturn, 1) := by decide +kernel
theorem dL_call_610 : decode cL_call 610 = .ok (.aload_n 0, 1) := by decide +kernel
theorem dL_call_611 : decode cL_call 611 = .ok (.iload_n 2, 1) := by decide +kernel
theorem dL_call_612 : decode cL_call 612 = .ok (.invokevirtual 150, 3) := by decide +kernel
theorem dL_call_615 : decode cL_call 615 = .ok (.ifCond .eq 7, 3) := by decide +kernel
theorem dL_call_618 : decode cL_call 618 = .ok (.iconst 1, 1) := by decide +kernel
theorem dL_call_619 : decode cL_call 619 = .ok (.goto 4, 3) := by decide +kernel
theorem dL_call_622 : decode cL_call 622 = .ok (.iconst 0, 1) := by decide +kernel
theorem dL_call_623 : decode cL_call 623 = .ok (.ireturn, 1) := by decide +kernel
theorem dL_call_624 : decode cL_call 624 = .ok (.aload_n 0, 1) := by decide +kernel
theorem dL_call_625 : decode cL_call 625 = .ok (.iload_n 2, 1) := by decide +kernel
theorem dL_call_626 : decode cL_call 626 = .ok (.invokevirtual 153, 3) := by decide +kernel
theorem dL_call_629 : decode cL_call 629 = .ok (.ireturn, 1) := by decide +kernel
theorem dL_call_630 : decode cL_call 630 = .ok (.aload_n 0, 1) := by decide +kernel
theorem dL_call_631 : decode cL_call 631 = .ok (.iload_n 2, 1) := by decide +kernel
theorem dL_call_632 : decode cL_call 632 = .ok (.invokevirtual 156, 3) := by decide +kernel
theorem dL_call_635 : decode cL_call 635 = .ok (.ireturn, 1) := by decide +kernel
theorem dL_call_636 : decode cL_call 636 = .ok (.aload_n 0, 1) := by decide +kernel
theorem dL_call_637 : decode cL_call 637 = .ok (.iload_n 2, 1) := by decide +kernel
theorem dL_call_638 : decode cL_call 638 = .ok (.invokevirtual 159, 3) := by decide +kernel
theorem dL_call_641 : decode cL_call 641 = .ok (.ireturn, 1) := by decide +kernel
theorem dL_call_642 : decode cL_call 642 = .ok (.astore 7, 2) := by decide +kernel
theorem dL_call_644 : decode cL_call 644 = .ok (.bipush (-101), 2) := by decide +kernel
theorem dL_call_646 : decode cL_call 646 = .ok (.ireturn, 1) := by decide +kernel
theorem dL_call_647 : decode cL_call 647 = .ok (.astore 7, 2) := by decide +kernel
theorem dL_call_649 : decode cL_call 649 = .ok (.bipush (-102), 2) := by decide +kernel
theorem dL_call_651 : decode cL_call 651 = .ok (.ireturn, 1) := by decide +kernel
theorem dL_call_652 : decode cL_call 652 = .ok (.astore 7, 2) := by decide +kernel
theorem dL_call_654 : decode cL_call 654 = .ok (.bipush (-103), 2) := by decide +kernel
theorem dL_call_656 : decode cL_call 656 = .ok (.ireturn, 1) := by decide +kernel
theorem dL_call_657 : decode cL_call 657 = .ok (.astore 7, 2) := by decide +kernel
theorem dL_call_659 : decode cL_call 659 = .ok (.bipush (-104), 2) := by decide +kernel
theorem dL_call_661 : decode cL_call 661 = .ok (.ireturn, 1) := by decide +kernel
def hrL_call : List zHR := [((0, 209, 642, 162), ("java/util/NoSuchElementException", (-101))), ((210, 229, 642, 162), ("java/util/NoSuchElementException", (-101))), ((230, 236, 642, 162), ("java/util/NoSuchElementException", (-101))), ((237, 243, 642, 162), ("java/util/NoSuchElementException", (-101))), ((244, 249, 642, 162), ("java/util/NoSuchElementException", (-101))), ((250, 258, 642, 162), ("java/util/NoSuchElementException", (-101))), ((259, 264, 642, 162), ("java/util/NoSuchElementException", (-101))), ((265, 271, 642, 162), ("java/util/NoSuchElementException", (-101))), ((272, 278, 642, 162), ("java/util/NoSuchElementException", (-101))), ((279, 283, 642, 162), ("java/util/NoSuchElementException", (-101))), ((284, 289, 642, 162), ("java/util/NoSuchElementException", (-101))), ((290, 295, 642, 162), ("java/util/NoSuchElementException", (-101))), ((296, 300, 642, 162), ("java/util/NoSuchElementException", (-101))), ((301, 313, 642, 162), ("java/util/NoSuchElementException", (-101))), ((314, 319, 642, 162), ("java/util/NoSuchElementException", (-101))), ((320, 324, 642, 162), ("java/util/NoSuchElementException", (-101))), ((325, 339, 642, 162), ("java/util/NoSuchElementException", (-101))), ((340, 354, 642, 162), ("java/util/NoSuchElementException", (-101))), ((355, 369, 642, 162), ("java/util/NoSuchElementException", (-101))), ((370, 376, 642, 162), ("java/util/NoSuchElementException", (-101))), ((377, 387, 642, 162), ("java/util/NoSuchElementException", (-101))), ((388, 394, 642, 162), ("java/util/NoSuchElementException", (-101))), ((395, 400, 642, 162), ("java/util/NoSuchElementException", (-101))), ((401, 406, 642, 162), ("java/util/NoSuchElementException", (-101))), ((407, 412, 642, 162), ("java/util/NoSuchElementException", (-101))), ((413, 418, 642, 162), ("java/util/NoSuchElementException", (-101))), ((419, 432, 642, 162), ("java/util/NoSuchElementException", (-101))), ((433, 446, 642, 162), ("java/util/NoSuchElementException", (-101))), ((447, 452, 642, 162), ("java/util/NoSuchElementException", (-101))), ((453, 458, 642, 162), ("java/util/NoSuchElementException", (-101))), ((459, 472, 642, 162), ("java/util/NoSuchElementException", (-101))), ((473, 478, 642, 162), ("java/util/NoSuchElementException", (-101))), ((479, 484, 642, 162), ("java/util/NoSuchElementException", (-101))), ((485, 498, 642, 162), ("java/util/NoSuchElementException", (-101))), ((499, 512, 642, 162), ("java/util/NoSuchElementException", (-101))), ((513, 526, 642, 162), ("java/util/NoSuchElementException", (-101))), ((527, 532, 642, 162), ("java/util/NoSuchElementException", (-101))), ((533, 546, 642, 162), ("java/util/NoSuchElementException", (-101))), ((547, 552, 642, 162), ("java/util/NoSuchElementException", (-101))), ((553, 567, 642, 162), ("java/util/NoSuchElementException", (-101))), ((568, 582, 642, 162), ("java/util/NoSuchElementException", (-101))), ((583, 597, 642, 162), ("java/util/NoSuchElementException", (-101))), ((598, 603, 642, 162), ("java/util/NoSuchElementException", (-101))), ((604, 609, 642, 162), ("java/util/NoSuchElementException", (-101))), ((610, 623, 642, 162), ("java/util/NoSuchElementException", (-101))), ((624, 629, 642, 162), ("java/util/NoSuchElementException", (-101))), ((630, 635, 642, 162), ("java/util/NoSuchElementException", (-101))), ((636, 641, 642, 162), ("java/util/NoSuchElementException", (-101))), ((0, 209, 647, 166), ("java/lang/IllegalStateException", (-102))), ((210, 229, 647, 166), ("java/lang/IllegalStateException", (-102))), ((230, 236, 647, 166), ("java/lang/IllegalStateException", (-102))), ((237, 243, 647, 166), ("java/lang/IllegalStateException", (-102))), ((244, 249, 647, 166), ("java/lang/IllegalStateException", (-102))), ((250, 258, 647, 166), ("java/lang/IllegalStateException", (-102))), ((259, 264, 647, 166), ("java/lang/IllegalStateException", (-102))), ((265, 271, 647, 166), ("java/lang/IllegalStateException", (-102))), ((272, 278, 647, 166), ("java/lang/IllegalStateException", (-102))), ((279, 283, 647, 166), ("java/lang/IllegalStateException", (-102))), ((284, 289, 647, 166), ("java/lang/IllegalStateException", (-102))), ((290, 295, 647, 166), ("java/lang/IllegalStateException", (-102))), ((296, 300, 647, 166), ("java/lang/IllegalStateException", (-102))), ((301, 313, 647, 166), ("java/lang/IllegalStateException", (-102))), ((314, 319, 647, 166), ("java/lang/IllegalStateException", (-102))), ((320, 324, 647, 166), ("java/lang/IllegalStateException", (-102))), ((325, 339, 647, 166), ("java/lang/IllegalStateException", (-102))), ((340, 354, 647, 166), ("java/lang/IllegalStateException", (-102))), ((355, 369, 647, 166), ("java/lang/IllegalStateException", (-102))), ((370, 376, 647, 166), ("java/lang/IllegalStateException", (-102))), ((377, 387, 647, 166), ("java/lang/IllegalStateException", (-102))), ((388, 394, 647, 166), ("java/lang/IllegalStateException", (-102))), ((395, 400, 647, 166), ("java/lang/IllegalStateException", (-102))), ((401, 406, 647, 166), ("java/lang/IllegalStateException", (-102))), ((407, 412, 647, 166), ("java/lang/IllegalStateException", (-102))), ((413, 418, 647, 166), ("java/lang/IllegalStateException", (-102))), ((419, 432, 647, 166), ("java/lang/IllegalStateException", (-102))), ((433, 446, 647, 166), ("java/lang/IllegalStateException", (-102))), ((447, 452, 647, 166), ("java/lang/IllegalStateException", (-102))), ((453, 458, 647, 166), ("java/lang/IllegalStateException", (-102))), ((459, 472, 647, 166), ("java/lang/IllegalStateException", (-102))), ((473, 478, 647, 166), ("java/lang/IllegalStateException", (-102))), ((479, 484, 647, 166), ("java/lang/IllegalStateException", (-102))), ((485, 498, 647, 166), ("java/lang/IllegalStateException", (-102))), ((499, 512, 647, 166), ("java/lang/IllegalStateException", (-102))), ((513, 526, 647, 166), ("java/lang/IllegalStateException", (-102))), ((527, 532, 647, 166), ("java/lang/IllegalStateException", (-102))), ((533, 546, 647, 166), ("java/lang/IllegalStateException", (-102))), ((547, 552, 647, 166), ("java/lang/IllegalStateException", (-102))), ((553, 567, 647, 166), ("java/lang/IllegalStateException", (-102))), ((568, 582, 647, 166), ("java/lang/IllegalStateException", (-102))), ((583, 597, 647, 166), ("java/lang/IllegalStateException", (-102))), ((598, 603, 647, 166), ("java/lang/IllegalStateException", (-102))), ((604, 609, 647, 166), ("java/lang/IllegalStateException", (-102))), ((610, 623, 647, 166), ("java/lang/IllegalStateException", (-102))), ((624, 629, 647, 166), ("java/lang/IllegalStateException", (-102))), ((630, 635, 647, 166), ("java/lang/IllegalStateException", (-102))), ((636, 641, 647, 166), ("java/lang/IllegalStateException", (-102))), ((0, 209, 652, 168), ("java/lang/IllegalArgumentException", (-103))), ((210, 229, 652, 168), ("java/lang/IllegalArgumentException", (-103))), ((230, 236, 652, 168), ("java/lang/IllegalArgumentException", (-103))), ((237, 243, 652, 168), ("java/lang/IllegalArgumentException", (-103))), ((244, 249, 652, 168), ("java/lang/IllegalArgumentException", (-103))), ((250, 258, 652, 168), ("java/lang/IllegalArgumentException", (-103))), ((259, 264, 652, 168), ("java/lang/IllegalArgumentException", (-103))), ((265, 271, 652, 168), ("java/lang/IllegalArgumentException", (-103))), ((272, 278, 652, 168), ("java/lang/IllegalArgumentException", (-103))), ((279, 283, 652, 168), ("java/lang/IllegalArgumentException", (-103))), ((284, 289, 652, 168), ("java/lang/IllegalArgumentException", (-103))), ((290, 295, 652, 168), ("java/lang/IllegalArgumentException", (-103))), ((296, 300, 652, 168), ("java/lang/IllegalArgumentException", (-103))), ((301, 313, 652, 168), ("java/lang/IllegalArgumentException", (-103))), ((314, 319, 652, 168), ("java/lang/IllegalArgumentException", (-103))), ((320, 324, 652, 168), ("java/lang/IllegalArgumentException", (-103))), ((325, 339, 652, 168), ("java/lang/IllegalArgumentException", (-103))), ((340, 354, 652, 168), ("java/lang/IllegalArgumentException", (-103))), ((355, 369, 652, 168), ("java/lang/IllegalArgumentException", (-103))), ((370, 376, 652, 168), ("java/lang/IllegalArgumentException", (-103))), ((377, 387, 652, 168), ("java/lang/IllegalArgumentException", (-103))), ((388, 394, 652, 168), ("java/lang/IllegalArgumentException", (-103))), ((395, 400, 652, 168), ("java/lang/IllegalArgumentException", (-103))), ((401, 406, 652, 168), ("java/lang/IllegalArgumentException", (-103))), ((407, 412, 652, 168), ("java/lang/IllegalArgumentException", (-103))), ((413, 418, 652, 168), ("java/lang/IllegalArgumentException", (-103))), ((419, 432, 652, 168), ("java/lang/IllegalArgumentException", (-103))), ((433, 446, 652, 168), ("java/lang/IllegalArgumentException", (-103))), ((447, 452, 652, 168), ("java/lang/IllegalArgumentException", (-103))), ((453, 458, 652, 168), ("java/lang/IllegalArgumentException", (-103))), ((459, 472, 652, 168), ("java/lang/IllegalArgumentException", (-103))), ((473, 478, 652, 168), ("java/lang/IllegalArgumentException", (-103))), ((479, 484, 652, 168), ("java/lang/IllegalArgumentException", (-103))), ((485, 498, 652, 168), ("java/lang/IllegalArgumentException", (-103))), ((499, 512, 652, 168), ("java/lang/IllegalArgumentException", (-103))), ((513, 526, 652, 168), ("java/lang/IllegalArgumentException", (-103))), ((527, 532, 652, 168), ("java/lang/IllegalArgumentException", (-103))), ((533, 546, 652, 168), ("java/lang/IllegalArgumentException", (-103))), ((547, 552, 652, 168), ("java/lang/IllegalArgumentException", (-103))), ((553, 567, 652, 168), ("java/lang/IllegalArgumentException", (-103))), ((568, 582, 652, 168), ("java/lang/IllegalArgumentException", (-103))), ((583, 597, 652, 168), ("java/lang/IllegalArgumentException", (-103))), ((598, 603, 652, 168), ("java/lang/IllegalArgumentException", (-103))), ((604, 609, 652, 168), ("java/lang/IllegalArgumentException", (-103))), ((610, 623, 652, 168), ("java/lang/IllegalArgumentException", (-103))), ((624, 629, 652, 168), ("java/lang/IllegalArgumentException", (-103))), ((630, 635, 652, 168), ("java/lang/IllegalArgumentException", (-103))), ((636, 641, 652, 168), ("java/lang/IllegalArgumentException", (-103))), ((0, 209, 657, 170), ("java/lang/IndexOutOfBoundsException", (-104))), ((210, 229, 657, 170), ("java/lang/IndexOutOfBoundsException", (-104))), ((230, 236, 657, 170), ("java/lang/IndexOutOfBoundsException", (-104))), ((237, 243, 657, 170), ("java/lang/IndexOutOfBoundsException", (-104))), ((244, 249, 657, 170), ("java/lang/IndexOutOfBoundsException", (-104))), ((250, 258, 657, 170), ("java/lang/IndexOutOfBoundsException", (-104))), ((259, 264, 657, 170), ("java/lang/IndexOutOfBoundsException", (-104))), ((265, 271, 657, 170), ("java/lang/IndexOutOfBoundsException", (-104))), ((272, 278, 657, 170), ("java/lang/IndexOutOfBoundsException", (-104))), ((279, 283, 657, 170), ("java/lang/IndexOutOfBoundsException", (-104))), ((284, 289, 657, 170), ("java/lang/IndexOutOfBoundsException", (-104))), ((290, 295, 657, 170), ("java/lang/IndexOutOfBoundsException", (-104))), ((296, 300, 657, 170), ("java/lang/IndexOutOfBoundsException", (-104))), ((301, 313, 657, 170), ("java/lang/IndexOutOfBoundsException", (-104))), ((314, 319, 657, 170), ("java/lang/IndexOutOfBoundsException", (-104))), ((320, 324, 657, 170), ("java/lang/IndexOutOfBoundsException", (-104))), ((325, 339, 657, 170), ("java/lang/IndexOutOfBoundsException", (-104))), ((340, 354, 657, 170), ("java/lang/IndexOutOfBoundsException", (-104))), ((355, 369, 657, 170), ("java/lang/IndexOutOfBoundsException", (-104))), ((370, 376, 657, 170), ("java/lang/IndexOutOfBoundsException", (-104))), ((377, 387, 657, 170), ("java/lang/IndexOutOfBoundsException", (-104))), ((388, 394, 657, 170), ("java/lang/IndexOutOfBoundsException", (-104))), ((395, 400, 657, 170), ("java/lang/IndexOutOfBoundsException", (-104))), ((401, 406, 657, 170), ("java/lang/IndexOutOfBoundsException", (-104))), ((407, 412, 657, 170), ("java/lang/IndexOutOfBoundsException", (-104))), ((413, 418, 657, 170), ("java/lang/IndexOutOfBoundsException", (-104))), ((419, 432, 657, 170), ("java/lang/IndexOutOfBoundsException", (-104))), ((433, 446, 657, 170), ("java/lang/IndexOutOfBoundsException", (-104))), ((447, 452, 657, 170), ("java/lang/IndexOutOfBoundsException", (-104))), ((453, 458, 657, 170), ("java/lang/IndexOutOfBoundsException", (-104))), ((459, 472, 657, 170), ("java/lang/IndexOutOfBoundsException", (-104))), ((473, 478, 657, 170), ("java/lang/IndexOutOfBoundsException", (-104))), ((479, 484, 657, 170), ("java/lang/IndexOutOfBoundsException", (-104))), ((485, 498, 657, 170), ("java/lang/IndexOutOfBoundsException", (-104))), ((499, 512, 657, 170), ("java/lang/IndexOutOfBoundsException", (-104))), ((513, 526, 657, 170), ("java/lang/IndexOutOfBoundsException", (-104))), ((527, 532, 657, 170), ("java/lang/IndexOutOfBoundsException", (-104))), ((533, 546, 657, 170), ("java/lang/IndexOutOfBoundsException", (-104))), ((547, 552, 657, 170), ("java/lang/IndexOutOfBoundsException", (-104))), ((553, 567, 657, 170), ("java/lang/IndexOutOfBoundsException", (-104))), ((568, 582, 657, 170), ("java/lang/IndexOutOfBoundsException", (-104))), ((583, 597, 657, 170), ("java/lang/IndexOutOfBoundsException", (-104))), ((598, 603, 657, 170), ("java/lang/IndexOutOfBoundsException", (-104))), ((604, 609, 657, 170), ("java/lang/IndexOutOfBoundsException", (-104))), ((610, 623, 657, 170), ("java/lang/IndexOutOfBoundsException", (-104))), ((624, 629, 657, 170), ("java/lang/IndexOutOfBoundsException", (-104))), ((630, 635, 657, 170), ("java/lang/IndexOutOfBoundsException", (-104))), ((636, 641, 657, 170), ("java/lang/IndexOutOfBoundsException", (-104)))]
def hkL_call : List (Nat × Nat × String × Int32) := [(642, 162, "java/util/NoSuchElementException", (-101)), (647, 166, "java/lang/IllegalStateException", (-102)), (652, 168, "java/lang/IllegalArgumentException", (-103)), (657, 170, "java/lang/IndexOutOfBoundsException", (-104))]
theorem hiL_call : ∀ r ∈ hrL_call, (r.1.2.2.1, r.1.2.2.2, r.2.1, r.2.2) ∈ hkL_call := by
  have h : (hrL_call.all fun r => decide ((r.1.2.2.1, r.1.2.2.2, r.2.1, r.2.2) ∈ hkL_call)) = true := by decide +kernel
  exact fun r hr => of_decide_eq_true (List.all_eq_true.mp h r hr)
theorem hpL_call : ∀ q ∈ hkL_call, q.2.1 ≠ 0 ∧ Cond.classLink (zyn 334).cls q.2.1 q.2.2.1 ∈ zTs ∧ q.2.2.1 ∈ zEX ∧ zHc2 334 q.1 q.2.2.2 := by
  intro q hq
  simp only [hkL_call, List.mem_cons, List.not_mem_nil, or_false] at hq
  rcases hq with rfl | rfl | rfl | rfl
  · exact ⟨by decide +kernel, wq_551, by decide +kernel, ⟨_, _, dL_call_642, dL_call_644, by decide +kernel, dL_call_646, by decide +kernel⟩⟩
  · exact ⟨by decide +kernel, wq_552, by decide +kernel, ⟨_, _, dL_call_647, dL_call_649, by decide +kernel, dL_call_651, by decide +kernel⟩⟩
  · exact ⟨by decide +kernel, wq_553, by decide +kernel, ⟨_, _, dL_call_652, dL_call_654, by decide +kernel, dL_call_656, by decide +kernel⟩⟩
  · exact ⟨by decide +kernel, wq_554, by decide +kernel, ⟨_, _, dL_call_657, dL_call_659, by decide +kernel, dL_call_661, by decide +kernel⟩⟩
theorem hlL_call : ∀ r ∈ hrL_call, (zhl 334).lookup r.2.1 = some r.2.2 := by
  have h : (hrL_call.all fun r => decide ((zhl 334).lookup r.2.1 = some r.2.2)) = true := by decide +kernel
  exact fun r hr => of_decide_eq_true (List.all_eq_true.mp h r hr)
theorem hbL_call : ztb 334 = hrL_call.map (fun r => r.1) := by decide +kernel
theorem shL_call {L : Nat} {xs : Nat → Int32} {N ip : Nat} (h : ((zhl 334).all fun q => hrL_call.any fun r => decide (r.2.1 = q.1) && covers (zHe r) (zP 334 ip)) = true) : zSH L xs N 334 ip := by
  refine z_swG hrL_call hbL_call rfl (fun r hr => hpL_call _ (hiL_call r hr)) hlL_call (fun q hq => ?_)
  obtain ⟨r, hr, h1⟩ := List.any_eq_true.mp (List.all_eq_true.mp h q hq)
  rw [Bool.and_eq_true] at h1
  exact ⟨r, hr, of_decide_eq_true h1.1, h1.2⟩
set_option maxRecDepth 10000 in
theorem tL_call {L : Nat} {xs : Nat → Int32} {N : Nat} : z_AllE (zE L xs N 334) 0 (kL_call N) :=
  z_ac (j := 1) rfl (z_eI (sp_iload_n (q := 1) dL_call_0 rfl rfl)) <|
  z_ac (j := 2) rfl (z_eI (sp_tsw dL_call_1 (by decide +kernel) (by decide +kernel))) <|
  z_ac (j := 3) rfl (z_eI (sp_aload_n (q := 0) dL_call_204 rfl rfl)) <|
  z_ac (j := 4) rfl (z_eI (sp_iload_n (q := 2) dL_call_205 rfl rfl)) <|
  z_ac (j := 5) rfl (z_cV dL_call_206 wl_555 qX8_tick (by decide +kernel) ⟨_, _, rfl⟩ (shL_call (by decide +kernel)) rfl) <|
  z_ac (j := 6) rfl (z_eR (sr_int dL_call_209 rfl)) <|
  z_ac (j := 7) rfl (z_eI (sp_aload_n (q := 0) dL_call_210 rfl rfl)) <|
  z_ac (j := 8) rfl (z_eI (sp_iload_n (q := 2) dL_call_211 rfl rfl)) <|
  z_ac (j := 9) rfl (z_eI (sp_iload_n (q := 3) dL_call_212 rfl rfl)) <|
  z_ac (j := 10) rfl (z_eI (sp_iload dL_call_213 rfl)) <|
  z_ac (j := 11) rfl (z_eI (sp_iload dL_call_215 rfl)) <|
  z_ac (j := 12) rfl (z_eI (sp_iconst dL_call_217 (by decide +kernel) rfl)) <|
  z_ac (j := 13) rfl (z_eI (sp_icmp_ne dL_call_218 rfl rfl)) <|
  z_ac (j := 14) rfl (z_eI (sp_iconst dL_call_221 (by decide +kernel) rfl)) <|
  z_ac (j := 15) rfl (z_eI (sp_goto dL_call_222 rfl)) <|
  z_ac (j := 16) rfl (z_eI (sp_iconst dL_call_225 (by decide +kernel) rfl)) <|
  z_ac (j := 17) rfl (z_cV dL_call_226 wl_772 qX8_addLight (by decide +kernel) ⟨_, _, rfl⟩ (shL_call (by decide +kernel)) rfl) <|
  z_ac (j := 18) rfl (z_eR (sr_int dL_call_229 rfl)) <|
  z_ac (j := 19) rfl (z_eI (sp_aload_n (q := 0) dL_call_230 rfl rfl)) <|
  z_ac (j := 20) rfl (z_eI (sp_iload_n (q := 2) dL_call_231 rfl rfl)) <|
  z_ac (j := 21) rfl (z_eI (sp_iload_n (q := 3) dL_call_232 rfl rfl)) <|
  z_ac (j := 22) rfl (z_cV dL_call_233 wl_805 qX8_addTraveller (by decide +kernel) ⟨_, _, rfl⟩ (shL_call (by decide +kernel)) rfl) <|
  z_ac (j := 23) rfl (z_eR (sr_int dL_call_236 rfl)) <|
  z_ac (j := 24) rfl (z_eI (sp_aload_n (q := 0) dL_call_237 rfl rfl)) <|
  z_ac (j := 25) rfl (z_eI (sp_iload_n (q := 2) dL_call_238 rfl rfl)) <|
  z_ac (j := 26) rfl (z_eI (sp_iload_n (q := 3) dL_call_239 rfl rfl)) <|
  z_ac (j := 27) rfl (z_cV dL_call_240 wl_812 qX8_setSuccessor (by decide +kernel) ⟨_, _, rfl⟩ (shL_call (by decide +kernel)) rfl) <|
  z_ac (j := 28) rfl (z_eR (sr_int dL_call_243 rfl)) <|
  z_ac (j := 29) rfl (z_eI (sp_aload_n (q := 0) dL_call_244 rfl rfl)) <|
  z_ac (j := 30) rfl (z_eI (sp_iload_n (q := 2) dL_call_245 rfl rfl)) <|
  z_ac (j := 31) rfl (z_cV dL_call_246 wl_833 qX8_clearSuccessor (by decide +kernel) ⟨_, _, rfl⟩ (shL_call (by decide +kernel)) rfl) <|
  z_ac (j := 32) rfl (z_eR (sr_int dL_call_249 rfl)) <|
  z_ac (j := 33) rfl (z_eI (sp_aload_n (q := 0) dL_call_250 rfl rfl)) <|
  z_ac (j := 34) rfl (z_eI (sp_iload_n (q := 2) dL_call_251 rfl rfl)) <|
  z_ac (j := 35) rfl (z_eI (sp_iload_n (q := 3) dL_call_252 rfl rfl)) <|
  z_ac (j := 36) rfl (z_eI (sp_iload dL_call_253 rfl)) <|
  z_ac (j := 37) rfl (z_cV dL_call_255 wl_857 qX8_layPlank (by decide +kernel) ⟨_, _, rfl⟩ (shL_call (by decide +kernel)) rfl) <|
  z_ac (j := 38) rfl (z_eR (sr_int dL_call_258 rfl)) <|
  z_ac (j := 39) rfl (z_eI (sp_aload_n (q := 0) dL_call_259 rfl rfl)) <|
  z_ac (j := 40) rfl (z_eI (sp_iload_n (q := 2) dL_call_260 rfl rfl)) <|
  z_ac (j := 41) rfl (z_cV dL_call_261 wl_863 qX8_setClearness (by decide +kernel) ⟨_, _, rfl⟩ (shL_call (by decide +kernel)) rfl) <|
  z_ac (j := 42) rfl (z_eR (sr_int dL_call_264 rfl)) <|
  z_ac (j := 43) rfl (z_eI (sp_aload_n (q := 0) dL_call_265 rfl rfl)) <|
  z_ac (j := 44) rfl (z_eI (sp_iload_n (q := 2) dL_call_266 rfl rfl)) <|
  z_ac (j := 45) rfl (z_eI (sp_iload_n (q := 3) dL_call_267 rfl rfl)) <|
  z_ac (j := 46) rfl (z_cV dL_call_268 wl_868 qX8_setFog (by decide +kernel) ⟨_, _, rfl⟩ (shL_call (by decide +kernel)) rfl) <|
  z_ac (j := 47) rfl (z_eR (sr_int dL_call_271 rfl)) <|
  z_ac (j := 48) rfl (z_eI (sp_aload_n (q := 0) dL_call_272 rfl rfl)) <|
  z_ac (j := 49) rfl (z_eI (sp_iload_n (q := 2) dL_call_273 rfl rfl)) <|
  z_ac (j := 50) rfl (z_eI (sp_iload_n (q := 3) dL_call_274 rfl rfl)) <|
  z_ac (j := 51) rfl (z_cV dL_call_275 wl_878 qX8_setTarget (by decide +kernel) ⟨_, _, rfl⟩ (shL_call (by decide +kernel)) rfl) <|
  z_ac (j := 52) rfl (z_eR (sr_int dL_call_278 rfl)) <|
  z_ac (j := 53) rfl (z_eI (sp_aload_n (q := 0) dL_call_279 rfl rfl)) <|
  z_ac (j := 54) rfl (z_cV dL_call_280 wl_893 qX8_undo (by decide +kernel) ⟨_, _, rfl⟩ (shL_call (by decide +kernel)) rfl) <|
  z_ac (j := 55) rfl (z_eR (sr_int dL_call_283 rfl)) <|
  z_ac (j := 56) rfl (z_eI (sp_aload_n (q := 0) dL_call_284 rfl rfl)) <|
  z_ac (j := 57) rfl (z_eI (sp_iload_n (q := 2) dL_call_285 rfl rfl)) <|
  z_ac (j := 58) rfl (z_cV dL_call_286 wl_902 qX8_saveSnapshot (by decide +kernel) ⟨_, _, rfl⟩ (shL_call (by decide +kernel)) rfl) <|
  z_ac (j := 59) rfl (z_eR (sr_int dL_call_289 rfl)) <|
  z_ac (j := 60) rfl (z_eI (sp_aload_n (q := 0) dL_call_290 rfl rfl)) <|
  z_ac (j := 61) rfl (z_eI (sp_iload_n (q := 2) dL_call_291 rfl rfl)) <|
  z_ac (j := 62) rfl (z_cV dL_call_292 wl_912 qX8_restoreSnapshot (by decide +kernel) ⟨_, _, rfl⟩ (shL_call (by decide +kernel)) rfl) <|
  z_ac (j := 63) rfl (z_eR (sr_int dL_call_295 rfl)) <|
  z_ac (j := 64) rfl (z_eI (sp_aload_n (q := 0) dL_call_296 rfl rfl)) <|
  z_ac (j := 65) rfl (z_cV dL_call_297 wl_917 qX8_load (by decide +kernel) ⟨_, _, rfl⟩ (shL_call (by decide +kernel)) rfl) <|
  z_ac (j := 66) rfl (z_eR (sr_int dL_call_300 rfl)) <|
  z_ac (j := 67) rfl (z_eI (sp_aload_n (q := 0) dL_call_301 rfl rfl)) <|
  z_ac (j := 68) rfl (z_eI (sp_iload_n (q := 2) dL_call_302 rfl rfl)) <|
  z_ac (j := 69) rfl (z_eI (sp_iload_n (q := 3) dL_call_303 rfl rfl)) <|
  z_ac (j := 70) rfl (z_eI (sp_iload dL_call_304 rfl)) <|
  z_ac (j := 71) rfl (z_eI (sp_iload dL_call_306 rfl)) <|
  z_ac (j := 72) rfl (z_eI (sp_iload dL_call_308 rfl)) <|
  z_ac (j := 73) rfl (z_cV dL_call_310 wl_926 qX8_append (by decide +kernel) ⟨_, _, rfl⟩ (shL_call (by decide +kernel)) rfl) <|
  z_ac (j := 74) rfl (z_eR (sr_int dL_call_313 rfl)) <|
  z_ac (j := 75) rfl (z_eI (sp_aload_n (q := 0) dL_call_314 rfl rfl)) <|
  z_ac (j := 76) rfl (z_eI (sp_iload_n (q := 2) dL_call_315 rfl rfl)) <|
  z_ac (j := 77) rfl (z_cV dL_call_316 wl_935 qX8_shorten (by decide +kernel) ⟨_, _, rfl⟩ (shL_call (by decide +kernel)) rfl) <|
  z_ac (j := 78) rfl (z_eR (sr_int dL_call_319 rfl)) <|
  z_ac (j := 79) rfl (z_eI (sp_aload_n (q := 0) dL_call_320 rfl rfl)) <|
  z_ac (j := 80) rfl (z_cV dL_call_321 wl_940 qX8_errorOffset (by decide +kernel) ⟨_, _, rfl⟩ (shL_call (by decide +kernel)) rfl) <|
  z_ac (j := 81) rfl (z_eR (sr_int dL_call_324 rfl)) <|
  z_ac (j := 82) rfl (z_eI (sp_aload_n (q := 0) dL_call_325 rfl rfl)) <|
  z_ac (j := 83) rfl (z_eI (sp_iload_n (q := 2) dL_call_326 rfl rfl)) <|
  z_ac (j := 84) rfl (z_eI (sp_iload_n (q := 3) dL_call_327 rfl rfl)) <|
  z_ac (j := 85) rfl (z_cV dL_call_328 wl_945 qX8_isWater (by decide +kernel) ⟨_, _, rfl⟩ (shL_call (by decide +kernel)) rfl) <|
  z_ac (j := 86) rfl (z_eI (sp_if_eq dL_call_331 rfl rfl)) <|
  z_ac (j := 87) rfl (z_eI (sp_iconst dL_call_334 (by decide +kernel) rfl)) <|
  z_ac (j := 88) rfl (z_eI (sp_goto dL_call_335 rfl)) <|
  z_ac (j := 89) rfl (z_eI (sp_iconst dL_call_338 (by decide +kernel) rfl)) <|
  z_ac (j := 90) rfl (z_eR (sr_int dL_call_339 rfl)) <|
  z_ac (j := 91) rfl (z_eI (sp_aload_n (q := 0) dL_call_340 rfl rfl)) <|
  z_ac (j := 92) rfl (z_eI (sp_iload_n (q := 2) dL_call_341 rfl rfl)) <|
  z_ac (j := 93) rfl (z_eI (sp_iload_n (q := 3) dL_call_342 rfl rfl)) <|
  z_ac (j := 94) rfl (z_cV dL_call_343 wl_949 qX8_isHut (by decide +kernel) ⟨_, _, rfl⟩ (shL_call (by decide +kernel)) rfl) <|
  z_ac (j := 95) rfl (z_eI (sp_if_eq dL_call_346 rfl rfl)) <|
  z_ac (j := 96) rfl (z_eI (sp_iconst dL_call_349 (by decide +kernel) rfl)) <|
  z_ac (j := 97) rfl (z_eI (sp_goto dL_call_350 rfl)) <|
  z_ac (j := 98) rfl (z_eI (sp_iconst dL_call_353 (by decide +kernel) rfl)) <|
  z_ac (j := 99) rfl (z_eR (sr_int dL_call_354 rfl)) <|
  z_ac (j := 100) rfl (z_eI (sp_aload_n (q := 0) dL_call_355 rfl rfl)) <|
  z_ac (j := 101) rfl (z_eI (sp_iload_n (q := 2) dL_call_356 rfl rfl)) <|
  z_ac (j := 102) rfl (z_eI (sp_iload_n (q := 3) dL_call_357 rfl rfl)) <|
  z_ac (j := 103) rfl (z_cV dL_call_358 wl_953 qX8_isPlank (by decide +kernel) ⟨_, _, rfl⟩ (shL_call (by decide +kernel)) rfl) <|
  z_ac (j := 104) rfl (z_eI (sp_if_eq dL_call_361 rfl rfl)) <|
  z_ac (j := 105) rfl (z_eI (sp_iconst dL_call_364 (by decide +kernel) rfl)) <|
  z_ac (j := 106) rfl (z_eI (sp_goto dL_call_365 rfl)) <|
  z_ac (j := 107) rfl (z_eI (sp_iconst dL_call_368 (by decide +kernel) rfl)) <|
  z_ac (j := 108) rfl (z_eR (sr_int dL_call_369 rfl)) <|
  z_ac (j := 109) rfl (z_eI (sp_aload_n (q := 0) dL_call_370 rfl rfl)) <|
  z_ac (j := 110) rfl (z_eI (sp_iload_n (q := 2) dL_call_371 rfl rfl)) <|
  z_ac (j := 111) rfl (z_eI (sp_iload_n (q := 3) dL_call_372 rfl rfl)) <|
  z_ac (j := 112) rfl (z_cV dL_call_373 wl_958 qX8_plankStrength (by decide +kernel) ⟨_, _, rfl⟩ (shL_call (by decide +kernel)) rfl) <|
  z_ac (j := 113) rfl (z_eR (sr_int dL_call_376 rfl)) <|
  z_ac (j := 114) rfl (z_eI (sp_aload_n (q := 0) dL_call_377 rfl rfl)) <|
  z_ac (j := 115) rfl (z_eI (sp_iload_n (q := 2) dL_call_378 rfl rfl)) <|
  z_ac (j := 116) rfl (z_eI (sp_iload_n (q := 3) dL_call_379 rfl rfl)) <|
  z_ac (j := 117) rfl (z_eI (sp_iload dL_call_380 rfl)) <|
  z_ac (j := 118) rfl (z_eI (sp_iload dL_call_382 rfl)) <|
  z_ac (j := 119) rfl (z_cV dL_call_384 wl_963 qX8_pathLength (by decide +kernel) ⟨_, _, rfl⟩ (shL_call (by decide +kernel)) rfl) <|
  z_ac (j := 120) rfl (z_eR (sr_int dL_call_387 rfl)) <|
  z_ac (j := 121) rfl (z_eI (sp_aload_n (q := 0) dL_call_388 rfl rfl)) <|
  z_ac (j := 122) rfl (z_eI (sp_iload_n (q := 2) dL_call_389 rfl rfl)) <|
  z_ac (j := 123) rfl (z_eI (sp_iload_n (q := 3) dL_call_390 rfl rfl)) <|
  z_ac (j := 124) rfl (z_cV dL_call_391 wl_972 qX8_stepsToHut (by decide +kernel) ⟨_, _, rfl⟩ (shL_call (by decide +kernel)) rfl) <|
  z_ac (j := 125) rfl (z_eR (sr_int dL_call_394 rfl)) <|
  z_ac (j := 126) rfl (z_eI (sp_aload_n (q := 0) dL_call_395 rfl rfl)) <|
  z_ac (j := 127) rfl (z_eI (sp_iload_n (q := 2) dL_call_396 rfl rfl)) <|
  z_ac (j := 128) rfl (z_cV dL_call_397 wl_981 qX8_fog (by decide +kernel) ⟨_, _, rfl⟩ (shL_call (by decide +kernel)) rfl) <|
  z_ac (j := 129) rfl (z_eR (sr_int dL_call_400 rfl)) <|
  z_ac (j := 130) rfl (z_eI (sp_aload_n (q := 0) dL_call_401 rfl rfl)) <|
  z_ac (j := 131) rfl (z_eI (sp_iload_n (q := 2) dL_call_402 rfl rfl)) <|
  z_ac (j := 132) rfl (z_cV dL_call_403 wl_985 qX8_lightColumn (by decide +kernel) ⟨_, _, rfl⟩ (shL_call (by decide +kernel)) rfl) <|
  z_ac (j := 133) rfl (z_eR (sr_int dL_call_406 rfl)) <|
  z_ac (j := 134) rfl (z_eI (sp_aload_n (q := 0) dL_call_407 rfl rfl)) <|
  z_ac (j := 135) rfl (z_eI (sp_iload_n (q := 2) dL_call_408 rfl rfl)) <|
  z_ac (j := 136) rfl (z_cV dL_call_409 wl_992 qX8_lightRow (by decide +kernel) ⟨_, _, rfl⟩ (shL_call (by decide +kernel)) rfl) <|
  z_ac (j := 137) rfl (z_eR (sr_int dL_call_412 rfl)) <|
  z_ac (j := 138) rfl (z_eI (sp_aload_n (q := 0) dL_call_413 rfl rfl)) <|
  z_ac (j := 139) rfl (z_eI (sp_iload_n (q := 2) dL_call_414 rfl rfl)) <|
  z_ac (j := 140) rfl (z_cV dL_call_415 wl_999 qX8_brightness (by decide +kernel) ⟨_, _, rfl⟩ (shL_call (by decide +kernel)) rfl) <|
  z_ac (j := 141) rfl (z_eR (sr_int dL_call_418 rfl)) <|
  z_ac (j := 142) rfl (z_eI (sp_aload_n (q := 0) dL_call_419 rfl rfl)) <|
  z_ac (j := 143) rfl (z_eI (sp_iload_n (q := 2) dL_call_420 rfl rfl)) <|
  z_ac (j := 144) rfl (z_cV dL_call_421 wl_1003 qX8_isTrueLight (by decide +kernel) ⟨_, _, rfl⟩ (shL_call (by decide +kernel)) rfl) <|
  z_ac (j := 145) rfl (z_eI (sp_if_eq dL_call_424 rfl rfl)) <|
  z_ac (j := 146) rfl (z_eI (sp_iconst dL_call_427 (by decide +kernel) rfl)) <|
  z_ac (j := 147) rfl (z_eI (sp_goto dL_call_428 rfl)) <|
  z_ac (j := 148) rfl (z_eI (sp_iconst dL_call_431 (by decide +kernel) rfl)) <|
  z_ac (j := 149) rfl (z_eR (sr_int dL_call_432 rfl)) <|
  z_ac (j := 150) rfl (z_eI (sp_aload_n (q := 0) dL_call_433 rfl rfl)) <|
  z_ac (j := 151) rfl (z_eI (sp_iload_n (q := 2) dL_call_434 rfl rfl)) <|
  z_ac (j := 152) rfl (z_cV dL_call_435 wl_1008 qX8_hasSuccessor (by decide +kernel) ⟨_, _, rfl⟩ (shL_call (by decide +kernel)) rfl) <|
  z_ac (j := 153) rfl (z_eI (sp_if_eq dL_call_438 rfl rfl)) <|
  z_ac (j := 154) rfl (z_eI (sp_iconst dL_call_441 (by decide +kernel) rfl)) <|
  z_ac (j := 155) rfl (z_eI (sp_goto dL_call_442 rfl)) <|
  z_ac (j := 156) rfl (z_eI (sp_iconst dL_call_445 (by decide +kernel) rfl)) <|
  z_ac (j := 157) rfl (z_eR (sr_int dL_call_446 rfl)) <|
  z_ac (j := 158) rfl (z_eI (sp_aload_n (q := 0) dL_call_447 rfl rfl)) <|
  z_ac (j := 159) rfl (z_eI (sp_iload_n (q := 2) dL_call_448 rfl rfl)) <|
  z_ac (j := 160) rfl (z_cV dL_call_449 wl_1012 qX8_successor (by decide +kernel) ⟨_, _, rfl⟩ (shL_call (by decide +kernel)) rfl) <|
  z_ac (j := 161) rfl (z_eR (sr_int dL_call_452 rfl)) <|
  z_ac (j := 162) rfl (z_eI (sp_aload_n (q := 0) dL_call_453 rfl rfl)) <|
  z_ac (j := 163) rfl (z_eI (sp_iload_n (q := 2) dL_call_454 rfl rfl)) <|
  z_ac (j := 164) rfl (z_cV dL_call_455 wl_1016 qX8_followers (by decide +kernel) ⟨_, _, rfl⟩ (shL_call (by decide +kernel)) rfl) <|
  z_ac (j := 165) rfl (z_eR (sr_int dL_call_458 rfl)) <|
  z_ac (j := 166) rfl (z_eI (sp_aload_n (q := 0) dL_call_459 rfl rfl)) <|
  z_ac (j := 167) rfl (z_eI (sp_iload_n (q := 2) dL_call_460 rfl rfl)) <|
  z_ac (j := 168) rfl (z_cV dL_call_461 wl_1024 qX8_leadsAstray (by decide +kernel) ⟨_, _, rfl⟩ (shL_call (by decide +kernel)) rfl) <|
  z_ac (j := 169) rfl (z_eI (sp_if_eq dL_call_464 rfl rfl)) <|
  z_ac (j := 170) rfl (z_eI (sp_iconst dL_call_467 (by decide +kernel) rfl)) <|
  z_ac (j := 171) rfl (z_eI (sp_goto dL_call_468 rfl)) <|
  z_ac (j := 172) rfl (z_eI (sp_iconst dL_call_471 (by decide +kernel) rfl)) <|
  z_ac (j := 173) rfl (z_eR (sr_int dL_call_472 rfl)) <|
  z_ac (j := 174) rfl (z_eI (sp_aload_n (q := 0) dL_call_473 rfl rfl)) <|
  z_ac (j := 175) rfl (z_eI (sp_iload_n (q := 2) dL_call_474 rfl rfl)) <|
  z_ac (j := 176) rfl (z_cV dL_call_475 wl_1029 qX8_travellerColumn (by decide +kernel) ⟨_, _, rfl⟩ (shL_call (by decide +kernel)) rfl) <|
  z_ac (j := 177) rfl (z_eR (sr_int dL_call_478 rfl)) <|
  z_ac (j := 178) rfl (z_eI (sp_aload_n (q := 0) dL_call_479 rfl rfl)) <|
  z_ac (j := 179) rfl (z_eI (sp_iload_n (q := 2) dL_call_480 rfl rfl)) <|
  z_ac (j := 180) rfl (z_cV dL_call_481 wl_1033 qX8_travellerRow (by decide +kernel) ⟨_, _, rfl⟩ (shL_call (by decide +kernel)) rfl) <|
  z_ac (j := 181) rfl (z_eR (sr_int dL_call_484 rfl)) <|
  z_ac (j := 182) rfl (z_eI (sp_aload_n (q := 0) dL_call_485 rfl rfl)) <|
  z_ac (j := 183) rfl (z_eI (sp_iload_n (q := 2) dL_call_486 rfl rfl)) <|
  z_ac (j := 184) rfl (z_cV dL_call_487 wl_1037 qX8_isWalking (by decide +kernel) ⟨_, _, rfl⟩ (shL_call (by decide +kernel)) rfl) <|
  z_ac (j := 185) rfl (z_eI (sp_if_eq dL_call_490 rfl rfl)) <|
  z_ac (j := 186) rfl (z_eI (sp_iconst dL_call_493 (by decide +kernel) rfl)) <|
  z_ac (j := 187) rfl (z_eI (sp_goto dL_call_494 rfl)) <|
  z_ac (j := 188) rfl (z_eI (sp_iconst dL_call_497 (by decide +kernel) rfl)) <|
  z_ac (j := 189) rfl (z_eR (sr_int dL_call_498 rfl)) <|
  z_ac (j := 190) rfl (z_eI (sp_aload_n (q := 0) dL_call_499 rfl rfl)) <|
  z_ac (j := 191) rfl (z_eI (sp_iload_n (q := 2) dL_call_500 rfl rfl)) <|
  z_ac (j := 192) rfl (z_cV dL_call_501 wl_1041 qX8_hasArrived (by decide +kernel) ⟨_, _, rfl⟩ (shL_call (by decide +kernel)) rfl) <|
  z_ac (j := 193) rfl (z_eI (sp_if_eq dL_call_504 rfl rfl)) <|
  z_ac (j := 194) rfl (z_eI (sp_iconst dL_call_507 (by decide +kernel) rfl)) <|
  z_ac (j := 195) rfl (z_eI (sp_goto dL_call_508 rfl)) <|
  z_ac (j := 196) rfl (z_eI (sp_iconst dL_call_511 (by decide +kernel) rfl)) <|
  z_ac (j := 197) rfl (z_eR (sr_int dL_call_512 rfl)) <|
  z_ac (j := 198) rfl (z_eI (sp_aload_n (q := 0) dL_call_513 rfl rfl)) <|
  z_ac (j := 199) rfl (z_eI (sp_iload_n (q := 2) dL_call_514 rfl rfl)) <|
  z_ac (j := 200) rfl (z_cV dL_call_515 wl_1045 qX8_hasSunk (by decide +kernel) ⟨_, _, rfl⟩ (shL_call (by decide +kernel)) rfl) <|
  z_ac (j := 201) rfl (z_eI (sp_if_eq dL_call_518 rfl rfl)) <|
  z_ac (j := 202) rfl (z_eI (sp_iconst dL_call_521 (by decide +kernel) rfl)) <|
  z_ac (j := 203) rfl (z_eI (sp_goto dL_call_522 rfl)) <|
  z_ac (j := 204) rfl (z_eI (sp_iconst dL_call_525 (by decide +kernel) rfl)) <|
  z_ac (j := 205) rfl (z_eR (sr_int dL_call_526 rfl)) <|
  z_ac (j := 206) rfl (z_eI (sp_aload_n (q := 0) dL_call_527 rfl rfl)) <|
  z_ac (j := 207) rfl (z_eI (sp_iload_n (q := 2) dL_call_528 rfl rfl)) <|
  z_ac (j := 208) rfl (z_cV dL_call_529 wl_1049 qX8_stepsTaken (by decide +kernel) ⟨_, _, rfl⟩ (shL_call (by decide +kernel)) rfl) <|
  z_ac (j := 209) rfl (z_eR (sr_int dL_call_532 rfl)) <|
  z_ac (j := 210) rfl (z_eI (sp_aload_n (q := 0) dL_call_533 rfl rfl)) <|
  z_ac (j := 211) rfl (z_eI (sp_iload_n (q := 2) dL_call_534 rfl rfl)) <|
  z_ac (j := 212) rfl (z_cV dL_call_535 wl_1053 qX8_hasTarget (by decide +kernel) ⟨_, _, rfl⟩ (shL_call (by decide +kernel)) rfl) <|
  z_ac (j := 213) rfl (z_eI (sp_if_eq dL_call_538 rfl rfl)) <|
  z_ac (j := 214) rfl (z_eI (sp_iconst dL_call_541 (by decide +kernel) rfl)) <|
  z_ac (j := 215) rfl (z_eI (sp_goto dL_call_542 rfl)) <|
  z_ac (j := 216) rfl (z_eI (sp_iconst dL_call_545 (by decide +kernel) rfl)) <|
  z_ac (j := 217) rfl (z_eR (sr_int dL_call_546 rfl)) <|
  z_ac (j := 218) rfl (z_eI (sp_aload_n (q := 0) dL_call_547 rfl rfl)) <|
  z_ac (j := 219) rfl (z_eI (sp_iload_n (q := 2) dL_call_548 rfl rfl)) <|
  z_ac (j := 220) rfl (z_cV dL_call_549 wl_1057 qX8_target (by decide +kernel) ⟨_, _, rfl⟩ (shL_call (by decide +kernel)) rfl) <|
  z_ac (j := 221) rfl (z_eR (sr_int dL_call_552 rfl)) <|
  z_ac (j := 222) rfl (z_eI (sp_aload_n (q := 0) dL_call_553 rfl rfl)) <|
  z_ac (j := 223) rfl (z_eI (sp_iload_n (q := 2) dL_call_554 rfl rfl)) <|
  z_ac (j := 224) rfl (z_eI (sp_iload_n (q := 3) dL_call_555 rfl rfl)) <|
  z_ac (j := 225) rfl (z_cV dL_call_556 wl_1062 qX8_hasPassed (by decide +kernel) ⟨_, _, rfl⟩ (shL_call (by decide +kernel)) rfl) <|
  z_ac (j := 226) rfl (z_eI (sp_if_eq dL_call_559 rfl rfl)) <|
  z_ac (j := 227) rfl (z_eI (sp_iconst dL_call_562 (by decide +kernel) rfl)) <|
  z_ac (j := 228) rfl (z_eI (sp_goto dL_call_563 rfl)) <|
  z_ac (j := 229) rfl (z_eI (sp_iconst dL_call_566 (by decide +kernel) rfl)) <|
  z_ac (j := 230) rfl (z_eR (sr_int dL_call_567 rfl)) <|
  z_ac (j := 231) rfl (z_eI (sp_aload_n (q := 0) dL_call_568 rfl rfl)) <|
  z_ac (j := 232) rfl (z_eI (sp_iload_n (q := 2) dL_call_569 rfl rfl)) <|
  z_ac (j := 233) rfl (z_eI (sp_iload_n (q := 3) dL_call_570 rfl rfl)) <|
  z_ac (j := 234) rfl (z_cV dL_call_571 wl_1066 qX8_distrusts (by decide +kernel) ⟨_, _, rfl⟩ (shL_call (by decide +kernel)) rfl) <|
  z_ac (j := 235) rfl (z_eI (sp_if_eq dL_call_574 rfl rfl)) <|
  z_ac (j := 236) rfl (z_eI (sp_iconst dL_call_577 (by decide +kernel) rfl)) <|
  z_ac (j := 237) rfl (z_eI (sp_goto dL_call_578 rfl)) <|
  z_ac (j := 238) rfl (z_eI (sp_iconst dL_call_581 (by decide +kernel) rfl)) <|
  z_ac (j := 239) rfl (z_eR (sr_int dL_call_582 rfl)) <|
  z_ac (j := 240) rfl (z_eI (sp_aload_n (q := 0) dL_call_583 rfl rfl)) <|
  z_ac (j := 241) rfl (z_eI (sp_iload_n (q := 2) dL_call_584 rfl rfl)) <|
  z_ac (j := 242) rfl (z_eI (sp_iload_n (q := 3) dL_call_585 rfl rfl)) <|
  z_ac (j := 243) rfl (z_cV dL_call_586 wl_1070 qX8_sees (by decide +kernel) ⟨_, _, rfl⟩ (shL_call (by decide +kernel)) rfl) <|
  z_ac (j := 244) rfl (z_eI (sp_if_eq dL_call_589 rfl rfl)) <|
  z_ac (j := 245) rfl (z_eI (sp_iconst dL_call_592 (by decide +kernel) rfl)) <|
  z_ac (j := 246) rfl (z_eI (sp_goto dL_call_593 rfl)) <|
  z_ac (j := 247) rfl (z_eI (sp_iconst dL_call_596 (by decide +kernel) rfl)) <|
  z_ac (j := 248) rfl (z_eR (sr_int dL_call_597 rfl)) <|
  z_ac (j := 249) rfl (z_eI (sp_aload_n (q := 0) dL_call_598 rfl rfl)) <|
  z_ac (j := 250) rfl (z_eI (sp_iload_n (q := 2) dL_call_599 rfl rfl)) <|
  z_ac (j := 251) rfl (z_cV dL_call_600 wl_1074 qX8_nearestLight (by decide +kernel) ⟨_, _, rfl⟩ (shL_call (by decide +kernel)) rfl) <|
  z_ac (j := 252) rfl (z_eR (sr_int dL_call_603 rfl)) <|
  z_ac (j := 253) rfl (z_eI (sp_aload_n (q := 0) dL_call_604 rfl rfl)) <|
  z_ac (j := 254) rfl (z_eI (sp_iload_n (q := 2) dL_call_605 rfl rfl)) <|
  z_ac (j := 255) rfl (z_cV dL_call_606 wl_1080 qX8_ticksUntilDone (by decide +kernel) ⟨_, _, rfl⟩ (shL_call (by decide +kernel)) rfl) <|
  z_ac (j := 256) rfl (z_eR (sr_int dL_call_609 rfl)) <|
  z_ac (j := 257) rfl (z_eI (sp_aload_n (q := 0) dL_call_610 rfl rfl)) <|
  z_ac (j := 258) rfl (z_eI (sp_iload_n (q := 2) dL_call_611 rfl rfl)) <|
  z_ac (j := 259) rfl (z_cV dL_call_612 wl_1085 qX8_willArrive (by decide +kernel) ⟨_, _, rfl⟩ (shL_call (by decide +kernel)) rfl) <|
  z_ac (j := 260) rfl (z_eI (sp_if_eq dL_call_615 rfl rfl)) <|
  z_ac (j := 261) rfl (z_eI (sp_iconst dL_call_618 (by decide +kernel) rfl)) <|
  z_ac (j := 262) rfl (z_eI (sp_goto dL_call_619 rfl)) <|
  z_ac (j := 263) rfl (z_eI (sp_iconst dL_call_622 (by decide +kernel) rfl)) <|
  z_ac (j := 264) rfl (z_eR (sr_int dL_call_623 rfl)) <|
  z_ac (j := 265) rfl (z_eI (sp_aload_n (q := 0) dL_call_624 rfl rfl)) <|
  z_ac (j := 266) rfl (z_eI (sp_iload_n (q := 2) dL_call_625 rfl rfl)) <|
  z_ac (j := 267) rfl (z_cV dL_call_626 wl_1089 qX8_arrivedAfter (by decide +kernel) ⟨_, _, rfl⟩ (shL_call (by decide +kernel)) rfl) <|
  z_ac (j := 268) rfl (z_eR (sr_int dL_call_629 rfl)) <|
  z_ac (j := 269) rfl (z_eI (sp_aload_n (q := 0) dL_call_630 rfl rfl)) <|
  z_ac (j := 270) rfl (z_eI (sp_iload_n (q := 2) dL_call_631 rfl rfl)) <|
  z_ac (j := 271) rfl (z_cV dL_call_632 wl_1097 qX8_sunkAfter (by decide +kernel) ⟨_, _, rfl⟩ (shL_call (by decide +kernel)) rfl) <|
  z_ac (j := 272) rfl (z_eR (sr_int dL_call_635 rfl)) <|
  z_ac (j := 273) rfl (z_eI (sp_aload_n (q := 0) dL_call_636 rfl rfl)) <|
  z_ac (j := 274) rfl (z_eI (sp_iload_n (q := 2) dL_call_637 rfl rfl)) <|
  z_ac (j := 275) rfl (z_cV dL_call_638 wl_1101 qX8_printedByte (by decide +kernel) ⟨_, _, rfl⟩ (shL_call (by decide +kernel)) rfl) <|
  z_ac (j := 276) rfl (z_eR (sr_int dL_call_641 rfl)) <|
  z_ac (j := 277) rfl (z_eI (sp_astore dL_call_642 (by decide) (fun _ _ => rfl) rfl)) <|
  z_ac (j := 278) rfl (z_eI (sp_bipush dL_call_644 (by decide +kernel) rfl)) <|
  z_ac (j := 279) rfl (z_eR (sr_int dL_call_646 rfl)) <|
  z_ac (j := 280) rfl (z_eI (sp_astore dL_call_647 (by decide) (fun _ _ => rfl) rfl)) <|
  z_ac (j := 281) rfl (z_eI (sp_bipush dL_call_649 (by decide +kernel) rfl)) <|
  z_ac (j := 282) rfl (z_eR (sr_int dL_call_651 rfl)) <|
  z_ac (j := 283) rfl (z_eI (sp_astore dL_call_652 (by decide) (fun _ _ => rfl) rfl)) <|
  z_ac (j := 284) rfl (z_eI (sp_bipush dL_call_654 (by decide +kernel) rfl)) <|
  z_ac (j := 285) rfl (z_eR (sr_int dL_call_656 rfl)) <|
  z_ac (j := 286) rfl (z_eI (sp_astore dL_call_657 (by decide) (fun _ _ => rfl) rfl)) <|
  z_ac (j := 287) rfl (z_eI (sp_bipush dL_call_659 (by decide +kernel) rfl)) <|
  z_ac (j := 288) rfl (z_eR (sr_int dL_call_661 rfl)) <| z_an
theorem z_cW {L : Nat} {xs : Nat → Int32} {N y ip index y2 n : Nat} (hd : decode (zbc y) (zP y ip) = .ok (.invokestatic index, 3)) (w1 : Cond.methodLink (zyn y).cls index (zyn y2) ∈ zTs) (q : zqW y2 n) (hR : zfr y2 + 1 ≤ zfr y ∧ 8 + (znl y2 + 11) + zlo y2 ≤ zlo y) (hs : zSH L xs N y ip) (hp : zP y (ip + 1) = zP y ip + 3) : zE L xs N y ip (.inr (2, y2, n)) :=
  ⟨sc_SW zTs_good hd w1 q.1 q.2.1 q.2.2.1 q.2.2.2.1 q.2.2.2.2 hR, hs, hp, fun h => by cases h⟩
theorem dL_call__0 : decode cL_call_ 0 = .ok (.aload_n 0, 1) := by decide +kernel
theorem dL_call__1 : decode cL_call_ 1 = .ok (.iload_n 1, 1) := by decide +kernel
theorem dL_call__2 : decode cL_call_ 2 = .ok (.iload_n 2, 1) := by decide +kernel
theorem dL_call__3 : decode cL_call_ 3 = .ok (.iload_n 3, 1) := by decide +kernel
theorem dL_call__4 : decode cL_call_ 4 = .ok (.iconst 0, 1) := by decide +kernel
theorem dL_call__5 : decode cL_call_ 5 = .ok (.iconst 0, 1) := by decide +kernel
theorem dL_call__6 : decode cL_call_ 6 = .ok (.iconst 0, 1) := by decide +kernel
theorem dL_call__7 : decode cL_call_ 7 = .ok (.invokestatic 172, 3) := by decide +kernel
theorem dL_call__10 : decode cL_call_ 10 = .ok (.ireturn, 1) := by decide +kernel
theorem tL_call_ {L : Nat} {xs : Nat → Int32} {N : Nat} : z_AllE (zE L xs N 335) 0 (kL_call_ N) :=
  z_ac (j := 1) rfl (z_eI (sp_aload_n (q := 0) dL_call__0 rfl rfl)) <|
  z_ac (j := 2) rfl (z_eI (sp_iload_n (q := 1) dL_call__1 rfl rfl)) <|
  z_ac (j := 3) rfl (z_eI (sp_iload_n (q := 2) dL_call__2 rfl rfl)) <|
  z_ac (j := 4) rfl (z_eI (sp_iload_n (q := 3) dL_call__3 rfl rfl)) <|
  z_ac (j := 5) rfl (z_eI (sp_iconst dL_call__4 (by decide +kernel) rfl)) <|
  z_ac (j := 6) rfl (z_eI (sp_iconst dL_call__5 (by decide +kernel) rfl)) <|
  z_ac (j := 7) rfl (z_eI (sp_iconst dL_call__6 (by decide +kernel) rfl)) <|
  z_ac (j := 8) rfl (z_cW dL_call__7 wl_548 qL_call (by decide +kernel) (z_sn rfl rfl) rfl) <|
  z_ac (j := 9) rfl (z_eR (sr_int dL_call__10 rfl)) <| z_an
theorem dL_call___0 : decode cL_call__ 0 = .ok (.aload_n 0, 1) := by decide +kernel
theorem dL_call___1 : decode cL_call__ 1 = .ok (.iload_n 1, 1) := by decide +kernel
theorem dL_call___2 : decode cL_call__ 2 = .ok (.iload_n 2, 1) := by decide +kernel
theorem dL_call___3 : decode cL_call__ 3 = .ok (.iconst 0, 1) := by decide +kernel
theorem dL_call___4 : decode cL_call__ 4 = .ok (.iconst 0, 1) := by decide +kernel
theorem dL_call___5 : decode cL_call__ 5 = .ok (.iconst 0, 1) := by decide +kernel
theorem dL_call___6 : decode cL_call__ 6 = .ok (.iconst 0, 1) := by decide +kernel
theorem dL_call___7 : decode cL_call__ 7 = .ok (.invokestatic 172, 3) := by decide +kernel
theorem dL_call___10 : decode cL_call__ 10 = .ok (.ireturn, 1) := by decide +kernel
theorem tL_call__ {L : Nat} {xs : Nat → Int32} {N : Nat} : z_AllE (zE L xs N 336) 0 (kL_call__ N) :=
  z_ac (j := 1) rfl (z_eI (sp_aload_n (q := 0) dL_call___0 rfl rfl)) <|
  z_ac (j := 2) rfl (z_eI (sp_iload_n (q := 1) dL_call___1 rfl rfl)) <|
  z_ac (j := 3) rfl (z_eI (sp_iload_n (q := 2) dL_call___2 rfl rfl)) <|
  z_ac (j := 4) rfl (z_eI (sp_iconst dL_call___3 (by decide +kernel) rfl)) <|
  z_ac (j := 5) rfl (z_eI (sp_iconst dL_call___4 (by decide +kernel) rfl)) <|
  z_ac (j := 6) rfl (z_eI (sp_iconst dL_call___5 (by decide +kernel) rfl)) <|
  z_ac (j := 7) rfl (z_eI (sp_iconst dL_call___6 (by decide +kernel) rfl)) <|
  z_ac (j := 8) rfl (z_cW dL_call___7 wl_548 qL_call (by decide +kernel) (z_sn rfl rfl) rfl) <|
  z_ac (j := 9) rfl (z_eR (sr_int dL_call___10 rfl)) <| z_an
