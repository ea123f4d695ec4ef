theorem dL_updates_151 : decode cL_updates 151 = .ok (.iload_n 2, 1) := by decide +kernel
theorem dL_updates_152 : decode cL_updates 152 = .ok (.bipush 8, 2) := by decide +kernel
theorem dL_updates_154 : decode cL_updates 154 = .ok (.invokestatic 53, 3) := by decide +kernel
theorem dL_updates_157 : decode cL_updates 157 = .ok (.tableswitch 484 0 6 #[43, 102, 176, 244, 244, 295, 410], 43) := by decide +kernel
theorem dL_updates_200 : decode cL_updates 200 = .ok (.aload_n 0, 1) := by decide +kernel
theorem dL_updates_201 : decode cL_updates 201 = .ok (.iload_n 1, 1) := by decide +kernel
theorem dL_updates_202 : decode cL_updates 202 = .ok (.iload 4, 2) := by decide +kernel
theorem dL_updates_204 : decode cL_updates 204 = .ok (.iconst 0, 1) := by decide +kernel
theorem dL_updates_205 : decode cL_updates 205 = .ok (.invokevirtual 28, 3) := by decide +kernel
theorem dL_updates_208 : decode cL_updates 208 = .ok (.istore 14, 2) := by decide +kernel
theorem dL_updates_210 : decode cL_updates 210 = .ok (.aload_n 0, 1) := by decide +kernel
theorem dL_updates_211 : decode cL_updates 211 = .ok (.iload_n 1, 1) := by decide +kernel
theorem dL_updates_212 : decode cL_updates 212 = .ok (.iload 4, 2) := by decide +kernel
theorem dL_updates_214 : decode cL_updates 214 = .ok (.iconst 0, 1) := by decide +kernel
theorem dL_updates_215 : decode cL_updates 215 = .ok (.iload 5, 2) := by decide +kernel
theorem dL_updates_217 : decode cL_updates 217 = .ok (.invokevirtual 60, 3) := by decide +kernel
theorem dL_updates_220 : decode cL_updates 220 = .ok (.iload 14, 2) := by decide +kernel
theorem dL_updates_222 : decode cL_updates 222 = .ok (.if_icmp .ne 31, 3) := by decide +kernel
theorem dL_updates_225 : decode cL_updates 225 = .ok (.aload_n 0, 1) := by decide +kernel
theorem dL_updates_226 : decode cL_updates 226 = .ok (.iload_n 1, 1) := by decide +kernel
theorem dL_updates_227 : decode cL_updates 227 = .ok (.iload 4, 2) := by decide +kernel
theorem dL_updates_229 : decode cL_updates 229 = .ok (.invokevirtual 13, 3) := by decide +kernel
theorem dL_updates_232 : decode cL_updates 232 = .ok (.iload 5, 2) := by decide +kernel
theorem dL_updates_234 : decode cL_updates 234 = .ok (.if_icmp .ne 19, 3) := by decide +kernel
theorem dL_updates_237 : decode cL_updates 237 = .ok (.aload_n 0, 1) := by decide +kernel
theorem dL_updates_238 : decode cL_updates 238 = .ok (.iload_n 1, 1) := by decide +kernel
theorem dL_updates_239 : decode cL_updates 239 = .ok (.iload 4, 2) := by decide +kernel
theorem dL_updates_241 : decode cL_updates 241 = .ok (.iconst 0, 1) := by decide +kernel
theorem dL_updates_242 : decode cL_updates 242 = .ok (.invokevirtual 28, 3) := by decide +kernel
theorem dL_updates_245 : decode cL_updates 245 = .ok (.iconst 1, 1) := by decide +kernel
theorem dL_updates_246 : decode cL_updates 246 = .ok (.if_icmp .ne 7, 3) := by decide +kernel
theorem dL_updates_249 : decode cL_updates 249 = .ok (.iconst 1, 1) := by decide +kernel
theorem dL_updates_250 : decode cL_updates 250 = .ok (.goto 4, 3) := by decide +kernel
theorem dL_updates_253 : decode cL_updates 253 = .ok (.iconst 0, 1) := by decide +kernel
theorem dL_updates_254 : decode cL_updates 254 = .ok (.istore 13, 2) := by decide +kernel
theorem dL_updates_256 : decode cL_updates 256 = .ok (.goto 434, 3) := by decide +kernel
theorem dL_updates_259 : decode cL_updates 259 = .ok (.aload_n 0, 1) := by decide +kernel
theorem dL_updates_260 : decode cL_updates 260 = .ok (.iload_n 1, 1) := by decide +kernel
theorem dL_updates_261 : decode cL_updates 261 = .ok (.iload 4, 2) := by decide +kernel
theorem dL_updates_263 : decode cL_updates 263 = .ok (.iconst 1, 1) := by decide +kernel
theorem dL_updates_264 : decode cL_updates 264 = .ok (.invokevirtual 28, 3) := by decide +kernel
theorem dL_updates_267 : decode cL_updates 267 = .ok (.istore 15, 2) := by decide +kernel
theorem dL_updates_269 : decode cL_updates 269 = .ok (.aload_n 0, 1) := by decide +kernel
theorem dL_updates_270 : decode cL_updates 270 = .ok (.iload_n 1, 1) := by decide +kernel
theorem dL_updates_271 : decode cL_updates 271 = .ok (.iload 4, 2) := by decide +kernel
theorem dL_updates_273 : decode cL_updates 273 = .ok (.iconst 1, 1) := by decide +kernel
theorem dL_updates_274 : decode cL_updates 274 = .ok (.iload 5, 2) := by decide +kernel
theorem dL_updates_276 : decode cL_updates 276 = .ok (.invokevirtual 60, 3) := by decide +kernel
theorem dL_updates_279 : decode cL_updates 279 = .ok (.iload 15, 2) := by decide +kernel
theorem dL_updates_281 : decode cL_updates 281 = .ok (.if_icmp .ne 46, 3) := by decide +kernel
theorem dL_updates_284 : decode cL_updates 284 = .ok (.aload_n 0, 1) := by decide +kernel
theorem dL_updates_285 : decode cL_updates 285 = .ok (.iload_n 1, 1) := by decide +kernel
theorem dL_updates_286 : decode cL_updates 286 = .ok (.iload 4, 2) := by decide +kernel
theorem dL_updates_288 : decode cL_updates 288 = .ok (.iconst 0, 1) := by decide +kernel
theorem dL_updates_289 : decode cL_updates 289 = .ok (.invokevirtual 32, 3) := by decide +kernel
theorem dL_updates_292 : decode cL_updates 292 = .ok (.iload 5, 2) := by decide +kernel
theorem dL_updates_294 : decode cL_updates 294 = .ok (.if_icmp .ne 33, 3) := by decide +kernel
theorem dL_updates_297 : decode cL_updates 297 = .ok (.aload_n 0, 1) := by decide +kernel
theorem dL_updates_298 : decode cL_updates 298 = .ok (.iload_n 1, 1) := by decide +kernel
theorem dL_updates_299 : decode cL_updates 299 = .ok (.iload 4, 2) := by decide +kernel
theorem dL_updates_301 : decode cL_updates 301 = .ok (.iconst 1, 1) := by decide +kernel
theorem dL_updates_302 : decode cL_updates 302 = .ok (.invokevirtual 32, 3) := by decide +kernel
theorem dL_updates_305 : decode cL_updates 305 = .ok (.iconst (-1), 1) := by decide +kernel
theorem dL_updates_306 : decode cL_updates 306 = .ok (.if_icmp .ne 21, 3) := by decide +kernel
theorem dL_updates_309 : decode cL_updates 309 = .ok (.aload_n 0, 1) := by decide +kernel
theorem dL_updates_310 : decode cL_updates 310 = .ok (.iload_n 1, 1) := by decide +kernel
theorem dL_updates_311 : decode cL_updates 311 = .ok (.iload 4, 2) := by decide +kernel
theorem dL_updates_313 : decode cL_updates 313 = .ok (.invokevirtual 64, 3) := by decide +kernel
theorem dL_updates_316 : decode cL_updates 316 = .ok (.iload 5, 2) := by decide +kernel
theorem dL_updates_318 : decode cL_updates 318 = .ok (.i2f, 1) := by decide +kernel
theorem dL_updates_319 : decode cL_updates 319 = .ok (.fcmp .l, 1) := by decide +kernel
theorem dL_updates_320 : decode cL_updates 320 = .ok (.ifCond .ne 7, 3) := by decide +kernel
theorem dL_updates_323 : decode cL_updates 323 = .ok (.iconst 1, 1) := by decide +kernel
theorem dL_updates_324 : decode cL_updates 324 = .ok (.goto 4, 3) := by decide +kernel
theorem dL_updates_327 : decode cL_updates 327 = .ok (.iconst 0, 1) := by decide +kernel
theorem dL_updates_328 : decode cL_updates 328 = .ok (.istore 13, 2) := by decide +kernel
theorem dL_updates_330 : decode cL_updates 330 = .ok (.goto 360, 3) := by decide +kernel
theorem dL_updates_333 : decode cL_updates 333 = .ok (.aload_n 0, 1) := by decide +kernel
theorem dL_updates_334 : decode cL_updates 334 = .ok (.iload_n 1, 1) := by decide +kernel
theorem dL_updates_335 : decode cL_updates 335 = .ok (.iload 4, 2) := by decide +kernel
theorem dL_updates_337 : decode cL_updates 337 = .ok (.invokevirtual 19, 3) := by decide +kernel
theorem dL_updates_340 : decode cL_updates 340 = .ok (.istore 16, 2) := by decide +kernel
theorem dL_updates_342 : decode cL_updates 342 = .ok (.aload_n 0, 1) := by decide +kernel
theorem dL_updates_343 : decode cL_updates 343 = .ok (.iload_n 1, 1) := by decide +kernel
theorem dL_updates_344 : decode cL_updates 344 = .ok (.iload 4, 2) := by decide +kernel
theorem dL_updates_346 : decode cL_updates 346 = .ok (.iconst 2, 1) := by decide +kernel
theorem dL_updates_347 : decode cL_updates 347 = .ok (.iload 5, 2) := by decide +kernel
theorem dL_updates_349 : decode cL_updates 349 = .ok (.invokevirtual 60, 3) := by decide +kernel
theorem dL_updates_352 : decode cL_updates 352 = .ok (.ifCond .lt 43, 3) := by decide +kernel
theorem dL_updates_355 : decode cL_updates 355 = .ok (.aload_n 0, 1) := by decide +kernel
theorem dL_updates_356 : decode cL_updates 356 = .ok (.iload_n 1, 1) := by decide +kernel
theorem dL_updates_357 : decode cL_updates 357 = .ok (.iload 4, 2) := by decide +kernel
theorem dL_updates_359 : decode cL_updates 359 = .ok (.invokevirtual 19, 3) := by decide +kernel
theorem dL_updates_362 : decode cL_updates 362 = .ok (.iload 16, 2) := by decide +kernel
theorem dL_updates_364 : decode cL_updates 364 = .ok (.iload 5, 2) := by decide +kernel
theorem dL_updates_366 : decode cL_updates 366 = .ok (.if_icmp .le 8, 3) := by decide +kernel
theorem dL_updates_369 : decode cL_updates 369 = .ok (.iload 16, 2) := by decide +kernel
theorem dL_updates_371 : decode cL_updates 371 = .ok (.goto 5, 3) := by decide +kernel
theorem dL_updates_374 : decode cL_updates 374 = .ok (.iload 5, 2) := by decide +kernel
theorem dL_updates_376 : decode cL_updates 376 = .ok (.if_icmp .ne 19, 3) := by decide +kernel
theorem dL_updates_379 : decode cL_updates 379 = .ok (.aload_n 0, 1) := by decide +kernel
theorem dL_updates_380 : decode cL_updates 380 = .ok (.iload_n 1, 1) := by decide +kernel
theorem dL_updates_381 : decode cL_updates 381 = .ok (.iload 4, 2) := by decide +kernel
theorem dL_updates_383 : decode cL_updates 383 = .ok (.iconst 2, 1) := by decide +kernel
theorem dL_updates_384 : decode cL_updates 384 = .ok (.invokevirtual 28, 3) := by decide +kernel
theorem dL_updates_387 : decode cL_updates 387 = .ok (.iconst 1, 1) := by decide +kernel
theorem dL_updates_388 : decode cL_updates 388 = .ok (.if_icmp .ne 7, 3) := by decide +kernel
theorem dL_updates_391 : decode cL_updates 391 = .ok (.iconst 1, 1) := by decide +kernel
theorem dL_updates_392 : decode cL_updates 392 = .ok (.goto 4, 3) := by decide +kernel
theorem dL_updates_395 : decode cL_updates 395 = .ok (.iconst 0, 1) := by decide +kernel
theorem dL_updates_396 : decode cL_updates 396 = .ok (.istore 13, 2) := by decide +kernel
theorem dL_updates_398 : decode cL_updates 398 = .ok (.goto 292, 3) := by decide +kernel
theorem dL_updates_401 : decode cL_updates 401 = .ok (.aload_n 0, 1) := by decide +kernel
theorem dL_updates_402 : decode cL_updates 402 = .ok (.iload_n 1, 1) := by decide +kernel
theorem dL_updates_403 : decode cL_updates 403 = .ok (.iload 4, 2) := by decide +kernel
theorem dL_updates_405 : decode cL_updates 405 = .ok (.invokevirtual 22, 3) := by decide +kernel
theorem dL_updates_408 : decode cL_updates 408 = .ok (.istore 17, 2) := by decide +kernel
theorem dL_updates_410 : decode cL_updates 410 = .ok (.aload_n 0, 1) := by decide +kernel
theorem dL_updates_411 : decode cL_updates 411 = .ok (.iload_n 1, 1) := by decide +kernel
theorem dL_updates_412 : decode cL_updates 412 = .ok (.iload 4, 2) := by decide +kernel
theorem dL_updates_414 : decode cL_updates 414 = .ok (.iload 7, 2) := by decide +kernel
theorem dL_updates_416 : decode cL_updates 416 = .ok (.invokevirtual 68, 3) := by decide +kernel
theorem dL_updates_419 : decode cL_updates 419 = .ok (.iload 17, 2) := by decide +kernel
theorem dL_updates_421 : decode cL_updates 421 = .ok (.iload 7, 2) := by decide +kernel
theorem dL_updates_423 : decode cL_updates 423 = .ok (.iadd, 1) := by decide +kernel
theorem dL_updates_424 : decode cL_updates 424 = .ok (.if_icmp .ne 22, 3) := by decide +kernel
theorem dL_updates_427 : decode cL_updates 427 = .ok (.aload_n 0, 1) := by decide +kernel
theorem dL_updates_428 : decode cL_updates 428 = .ok (.iload_n 1, 1) := by decide +kernel
theorem dL_updates_429 : decode cL_updates 429 = .ok (.iload 4, 2) := by decide +kernel
theorem dL_updates_431 : decode cL_updates 431 = .ok (.invokevirtual 22, 3) := by decide +kernel
theorem dL_updates_434 : decode cL_updates 434 = .ok (.iload 17, 2) := by decide +kernel
theorem dL_updates_436 : decode cL_updates 436 = .ok (.iload 7, 2) := by decide +kernel
theorem dL_updates_438 : decode cL_updates 438 = .ok (.iadd, 1) := by decide +kernel
theorem dL_updates_439 : decode cL_updates 439 = .ok (.if_icmp .ne 7, 3) := by decide +kernel
theorem dL_updates_442 : decode cL_updates 442 = .ok (.iconst 1, 1) := by decide +kernel
theorem dL_updates_443 : decode cL_updates 443 = .ok (.goto 4, 3) := by decide +kernel
theorem dL_updates_446 : decode cL_updates 446 = .ok (.iconst 0, 1) := by decide +kernel
theorem dL_updates_447 : decode cL_updates 447 = .ok (.istore 13, 2) := by decide +kernel
theorem dL_updates_449 : decode cL_updates 449 = .ok (.goto 241, 3) := by decide +kernel
theorem dL_updates_452 : decode cL_updates 452 = .ok (.aload_n 0, 1) := by decide +kernel
theorem dL_updates_453 : decode cL_updates 453 = .ok (.iload_n 1, 1) := by decide +kernel
theorem dL_updates_454 : decode cL_updates 454 = .ok (.iload 4, 2) := by decide +kernel
theorem dL_updates_456 : decode cL_updates 456 = .ok (.invokevirtual 25, 3) := by decide +kernel
theorem dL_updates_459 : decode cL_updates 459 = .ok (.istore 18, 2) := by decide +kernel
theorem dL_updates_461 : decode cL_updates 461 = .ok (.aload_n 0, 1) := by decide +kernel
theorem dL_updates_462 : decode cL_updates 462 = .ok (.iload_n 1, 1) := by decide +kernel
theorem dL_updates_463 : decode cL_updates 463 = .ok (.iload 4, 2) := by decide +kernel
theorem dL_updates_465 : decode cL_updates 465 = .ok (.iconst 4, 1) := by decide +kernel
theorem dL_updates_466 : decode cL_updates 466 = .ok (.invokevirtual 28, 3) := by decide +kernel
theorem dL_updates_469 : decode cL_updates 469 = .ok (.istore 19, 2) := by decide +kernel
theorem dL_updates_471 : decode cL_updates 471 = .ok (.aload_n 0, 1) := by decide +kernel
theorem dL_updates_472 : decode cL_updates 472 = .ok (.iload_n 1, 1) := by decide +kernel
theorem dL_updates_473 : decode cL_updates 473 = .ok (.iload 4, 2) := by decide +kernel
theorem dL_updates_475 : decode cL_updates 475 = .ok (.iload 6, 2) := by decide +kernel
theorem dL_updates_477 : decode cL_updates 477 = .ok (.invokevirtual 71, 3) := by decide +kernel
theorem dL_updates_480 : decode cL_updates 480 = .ok (.istore 20, 2) := by decide +kernel
theorem dL_updates_482 : decode cL_updates 482 = .ok (.iload 20, 2) := by decide +kernel
theorem dL_updates_484 : decode cL_updates 484 = .ok (.ifCond .lt 77, 3) := by decide +kernel
theorem dL_updates_487 : decode cL_updates 487 = .ok (.iload 20, 2) := by decide +kernel
theorem dL_updates_489 : decode cL_updates 489 = .ok (.iconst 4, 1) := by decide +kernel
theorem dL_updates_490 : decode cL_updates 490 = .ok (.if_icmp .gt 71, 3) := by decide +kernel
theorem dL_updates_493 : decode cL_updates 493 = .ok (.iload 20, 2) := by decide +kernel
theorem dL_updates_495 : decode cL_updates 495 = .ok (.ifCond .le 7, 3) := by decide +kernel
theorem dL_updates_498 : decode cL_updates 498 = .ok (.iconst 1, 1) := by decide +kernel
theorem dL_updates_499 : decode cL_updates 499 = .ok (.goto 4, 3) := by decide +kernel
theorem dL_updates_502 : decode cL_updates 502 = .ok (.iconst 0, 1) := by decide +kernel
theorem dL_updates_503 : decode cL_updates 503 = .ok (.iload 18, 2) := by decide +kernel
theorem dL_updates_505 : decode cL_updates 505 = .ok (.iload 6, 2) := by decide +kernel
theorem dL_updates_507 : decode cL_updates 507 = .ok (.ishr, 1) := by decide +kernel
theorem dL_updates_508 : decode cL_updates 508 = .ok (.iconst 1, 1) := by decide +kernel
theorem dL_updates_509 : decode cL_updates 509 = .ok (.iand, 1) := by decide +kernel
theorem dL_updates_510 : decode cL_updates 510 = .ok (.iconst 1, 1) := by decide +kernel
theorem dL_updates_511 : decode cL_updates 511 = .ok (.if_icmp .ne 7, 3) := by decide +kernel
theorem dL_updates_514 : decode cL_updates 514 = .ok (.iconst 1, 1) := by decide +kernel
theorem dL_updates_515 : decode cL_updates 515 = .ok (.goto 4, 3) := by decide +kernel
theorem dL_updates_518 : decode cL_updates 518 = .ok (.iconst 0, 1) := by decide +kernel
theorem dL_updates_519 : decode cL_updates 519 = .ok (.if_icmp .ne 42, 3) := by decide +kernel
theorem dL_updates_522 : decode cL_updates 522 = .ok (.aload_n 0, 1) := by decide +kernel
theorem dL_updates_523 : decode cL_updates 523 = .ok (.iload_n 1, 1) := by decide +kernel
theorem dL_updates_524 : decode cL_updates 524 = .ok (.iload 4, 2) := by decide +kernel
theorem dL_updates_526 : decode cL_updates 526 = .ok (.invokevirtual 25, 3) := by decide +kernel
theorem dL_updates_529 : decode cL_updates 529 = .ok (.iload 18, 2) := by decide +kernel
theorem dL_updates_531 : decode cL_updates 531 = .ok (.iconst 1, 1) := by decide +kernel
theorem dL_updates_532 : decode cL_updates 532 = .ok (.iload 6, 2) := by decide +kernel
theorem dL_updates_534 : decode cL_updates 534 = .ok (.ishl, 1) := by decide +kernel
theorem dL_updates_535 : decode cL_updates 535 = .ok (.ior, 1) := by decide +kernel
theorem dL_updates_536 : decode cL_updates 536 = .ok (.if_icmp .ne 25, 3) := by decide +kernel
theorem dL_updates_539 : decode cL_updates 539 = .ok (.aload_n 0, 1) := by decide +kernel
theorem dL_updates_540 : decode cL_updates 540 = .ok (.iload_n 1, 1) := by decide +kernel
theorem dL_updates_541 : decode cL_updates 541 = .ok (.iload 4, 2) := by decide +kernel
theorem dL_updates_543 : decode cL_updates 543 = .ok (.iconst 4, 1) := by decide +kernel
theorem dL_updates_544 : decode cL_updates 544 = .ok (.invokevirtual 28, 3) := by decide +kernel
theorem dL_updates_547 : decode cL_updates 547 = .ok (.iload 19, 2) := by decide +kernel
theorem dL_updates_549 : decode cL_updates 549 = .ok (.iload 20, 2) := by decide +kernel
theorem dL_updates_551 : decode cL_updates 551 = .ok (.isub, 1) := by decide +kernel
theorem dL_updates_552 : decode cL_updates 552 = .ok (.iconst 1, 1) := by decide +kernel
theorem dL_updates_553 : decode cL_updates 553 = .ok (.iadd, 1) := by decide +kernel
theorem dL_updates_554 : decode cL_updates 554 = .ok (.if_icmp .ne 7, 3) := by decide +kernel
theorem dL_updates_557 : decode cL_updates 557 = .ok (.iconst 1, 1) := by decide +kernel
theorem dL_updates_558 : decode cL_updates 558 = .ok (.goto 4, 3) := by decide +kernel
theorem dL_updates_561 : decode cL_updates 561 = .ok (.iconst 0, 1) := by decide +kernel
theorem dL_updates_562 : decode cL_updates 562 = .ok (.istore 13, 2) := by decide +kernel
theorem dL_updates_564 : decode cL_updates 564 = .ok (.goto 126, 3) := by decide +kernel
theorem dL_updates_567 : decode cL_updates 567 = .ok (.aload_n 0, 1) := by decide +kernel
theorem dL_updates_568 : decode cL_updates 568 = .ok (.iload_n 1, 1) := by decide +kernel
theorem dL_updates_569 : decode cL_updates 569 = .ok (.iload 4, 2) := by decide +kernel
theorem dL_updates_571 : decode cL_updates 571 = .ok (.invokevirtual 25, 3) := by decide +kernel
theorem dL_updates_574 : decode cL_updates 574 = .ok (.istore 21, 2) := by decide +kernel
theorem dL_updates_576 : decode cL_updates 576 = .ok (.aload_n 0, 1) := by decide +kernel
theorem dL_updates_577 : decode cL_updates 577 = .ok (.iload_n 1, 1) := by decide +kernel
theorem dL_updates_578 : decode cL_updates 578 = .ok (.iload 4, 2) := by decide +kernel
theorem dL_updates_580 : decode cL_updates 580 = .ok (.iload 6, 2) := by decide +kernel
theorem dL_updates_582 : decode cL_updates 582 = .ok (.invokevirtual 74, 3) := by decide +kernel
theorem dL_updates_585 : decode cL_updates 585 = .ok (.ifCond .le 7, 3) := by decide +kernel
theorem dL_updates_588 : decode cL_updates 588 = .ok (.iconst 1, 1) := by decide +kernel
theorem dL_updates_589 : decode cL_updates 589 = .ok (.goto 4, 3) := by decide +kernel
theorem dL_updates_592 : decode cL_updates 592 = .ok (.iconst 0, 1) := by decide +kernel
theorem dL_updates_593 : decode cL_updates 593 = .ok (.iload 21, 2) := by decide +kernel
theorem dL_updates_595 : decode cL_updates 595 = .ok (.iload 6, 2) := by decide +kernel
theorem dL_updates_597 : decode cL_updates 597 = .ok (.ishr, 1) := by decide +kernel
theorem dL_updates_598 : decode cL_updates 598 = .ok (.iconst 1, 1) := by decide +kernel
theorem dL_updates_599 : decode cL_updates 599 = .ok (.iand, 1) := by decide +kernel
theorem dL_updates_600 : decode cL_updates 600 = .ok (.iconst 1, 1) := by decide +kernel
theorem dL_updates_601 : decode cL_updates 601 = .ok (.if_icmp .ne 7, 3) := by decide +kernel
theorem dL_updates_604 : decode cL_updates 604 = .ok (.iconst 1, 1) := by decide +kernel
theorem dL_updates_605 : decode cL_updates 605 = .ok (.goto 4, 3) := by decide +kernel
theorem dL_updates_608 : decode cL_updates 608 = .ok (.iconst 0, 1) := by decide +kernel
theorem dL_updates_609 : decode cL_updates 609 = .ok (.if_icmp .ne 26, 3) := by decide +kernel
theorem dL_updates_612 : decode cL_updates 612 = .ok (.aload_n 0, 1) := by decide +kernel
theorem dL_updates_613 : decode cL_updates 613 = .ok (.iload_n 1, 1) := by decide +kernel
theorem dL_updates_614 : decode cL_updates 614 = .ok (.iload 4, 2) := by decide +kernel
theorem dL_updates_616 : decode cL_updates 616 = .ok (.invokevirtual 25, 3) := by decide +kernel
theorem dL_updates_619 : decode cL_updates 619 = .ok (.iload 21, 2) := by decide +kernel
theorem dL_updates_621 : decode cL_updates 621 = .ok (.iconst 1, 1) := by decide +kernel
theorem dL_updates_622 : decode cL_updates 622 = .ok (.iload 6, 2) := by decide +kernel
theorem dL_updates_624 : decode cL_updates 624 = .ok (.ishl, 1) := by decide +kernel
theorem dL_updates_625 : decode cL_updates 625 = .ok (.iconst (-1), 1) := by decide +kernel
theorem dL_updates_626 : decode cL_updates 626 = .ok (.ixor, 1) := by decide +kernel
theorem dL_updates_627 : decode cL_updates 627 = .ok (.iand, 1) := by decide +kernel
theorem dL_updates_628 : decode cL_updates 628 = .ok (.if_icmp .ne 7, 3) := by decide +kernel
theorem dL_updates_631 : decode cL_updates 631 = .ok (.iconst 1, 1) := by decide +kernel
theorem dL_updates_632 : decode cL_updates 632 = .ok (.goto 4, 3) := by decide +kernel
theorem dL_updates_635 : decode cL_updates 635 = .ok (.iconst 0, 1) := by decide +kernel
theorem dL_updates_636 : decode cL_updates 636 = .ok (.istore 13, 2) := by decide +kernel
theorem dL_updates_638 : decode cL_updates 638 = .ok (.goto 52, 3) := by decide +kernel
theorem dL_updates_641 : decode cL_updates 641 = .ok (.aload_n 0, 1) := by decide +kernel
theorem dL_updates_642 : decode cL_updates 642 = .ok (.iload_n 1, 1) := by decide +kernel
theorem dL_updates_643 : decode cL_updates 643 = .ok (.iload 4, 2) := by decide +kernel
theorem dL_updates_645 : decode cL_updates 645 = .ok (.invokevirtual 77, 3) := by decide +kernel
theorem dL_updates_648 : decode cL_updates 648 = .ok (.iload 12, 2) := by decide +kernel
theorem dL_updates_650 : decode cL_updates 650 = .ok (.ifCond .le 7, 3) := by decide +kernel
theorem dL_updates_653 : decode cL_updates 653 = .ok (.iconst 1, 1) := by decide +kernel
theorem dL_updates_654 : decode cL_updates 654 = .ok (.goto 4, 3) := by decide +kernel
theorem dL_updates_657 : decode cL_updates 657 = .ok (.iconst 0, 1) := by decide +kernel
theorem dL_updates_658 : decode cL_updates 658 = .ok (.if_icmp .ne 29, 3) := by decide +kernel
theorem dL_updates_661 : decode cL_updates 661 = .ok (.aload_n 0, 1) := by decide +kernel
theorem dL_updates_662 : decode cL_updates 662 = .ok (.iload_n 1, 1) := by decide +kernel
theorem dL_updates_663 : decode cL_updates 663 = .ok (.iload 4, 2) := by decide +kernel
theorem dL_updates_665 : decode cL_updates 665 = .ok (.invokevirtual 81, 3) := by decide +kernel
theorem dL_updates_668 : decode cL_updates 668 = .ok (.iload 12, 2) := by decide +kernel
theorem dL_updates_670 : decode cL_updates 670 = .ok (.if_icmp .ne 17, 3) := by decide +kernel
theorem dL_updates_673 : decode cL_updates 673 = .ok (.aload_n 0, 1) := by decide +kernel
theorem dL_updates_674 : decode cL_updates 674 = .ok (.iload_n 1, 1) := by decide +kernel
theorem dL_updates_675 : decode cL_updates 675 = .ok (.iload 4, 2) := by decide +kernel
theorem dL_updates_677 : decode cL_updates 677 = .ok (.invokevirtual 77, 3) := by decide +kernel
theorem dL_updates_680 : decode cL_updates 680 = .ok (.ifCond .ne 7, 3) := by decide +kernel
theorem dL_updates_683 : decode cL_updates 683 = .ok (.iconst 1, 1) := by decide +kernel
theorem dL_updates_684 : decode cL_updates 684 = .ok (.goto 4, 3) := by decide +kernel
theorem dL_updates_687 : decode cL_updates 687 = .ok (.iconst 0, 1) := by decide +kernel
theorem dL_updates_688 : decode cL_updates 688 = .ok (.istore 13, 2) := by decide +kernel
theorem dL_updates_690 : decode cL_updates 690 = .ok (.iload 13, 2) := by decide +kernel
theorem dL_updates_692 : decode cL_updates 692 = .ok (.ifCond .eq 75, 3) := by decide +kernel
theorem dL_updates_695 : decode cL_updates 695 = .ok (.aload_n 0, 1) := by decide +kernel
theorem dL_updates_696 : decode cL_updates 696 = .ok (.iload_n 1, 1) := by decide +kernel
theorem dL_updates_697 : decode cL_updates 697 = .ok (.invokevirtual 43, 3) := by decide +kernel
theorem dL_updates_700 : decode cL_updates 700 = .ok (.iload 8, 2) := by decide +kernel
theorem dL_updates_702 : decode cL_updates 702 = .ok (.iconst 1, 1) := by decide +kernel
theorem dL_updates_703 : decode cL_updates 703 = .ok (.iadd, 1) := by decide +kernel
theorem dL_updates_704 : decode cL_updates 704 = .ok (.if_icmp .ne 63, 3) := by decide +kernel
theorem dL_updates_707 : decode cL_updates 707 = .ok (.aload_n 0, 1) := by decide +kernel
theorem dL_updates_708 : decode cL_updates 708 = .ok (.iload_n 1, 1) := by decide +kernel
theorem dL_updates_709 : decode cL_updates 709 = .ok (.iload_n 1, 1) := by decide +kernel
theorem dL_updates_710 : decode cL_updates 710 = .ok (.invokevirtual 47, 3) := by decide +kernel
theorem dL_updates_713 : decode cL_updates 713 = .ok (.iload 9, 2) := by decide +kernel
theorem dL_updates_715 : decode cL_updates 715 = .ok (.iconst 1, 1) := by decide +kernel
theorem dL_updates_716 : decode cL_updates 716 = .ok (.iadd, 1) := by decide +kernel
theorem dL_updates_717 : decode cL_updates 717 = .ok (.if_icmp .ne 50, 3) := by decide +kernel
theorem dL_updates_720 : decode cL_updates 720 = .ok (.lload 10, 2) := by decide +kernel
theorem dL_updates_722 : decode cL_updates 722 = .ok (.aload_n 0, 1) := by decide +kernel
theorem dL_updates_723 : decode cL_updates 723 = .ok (.iload_n 1, 1) := by decide +kernel
theorem dL_updates_724 : decode cL_updates 724 = .ok (.iconst 1, 1) := by decide +kernel
theorem dL_updates_725 : decode cL_updates 725 = .ok (.iadd, 1) := by decide +kernel
theorem dL_updates_726 : decode cL_updates 726 = .ok (.iconst 4, 1) := by decide +kernel
theorem dL_updates_727 : decode cL_updates 727 = .ok (.irem, 1) := by decide +kernel
theorem dL_updates_728 : decode cL_updates 728 = .ok (.invokestatic 37, 3) := by decide +kernel
theorem dL_updates_731 : decode cL_updates 731 = .ok (.ldc2_w 56, 3) := by decide +kernel
theorem dL_updates_734 : decode cL_updates 734 = .ok (.aload_n 0, 1) := by decide +kernel
theorem dL_updates_735 : decode cL_updates 735 = .ok (.iload_n 1, 1) := by decide +kernel
theorem dL_updates_736 : decode cL_updates 736 = .ok (.iconst 2, 1) := by decide +kernel
theorem dL_updates_737 : decode cL_updates 737 = .ok (.iadd, 1) := by decide +kernel
theorem dL_updates_738 : decode cL_updates 738 = .ok (.iconst 4, 1) := by decide +kernel
theorem dL_updates_739 : decode cL_updates 739 = .ok (.irem, 1) := by decide +kernel
theorem dL_updates_740 : decode cL_updates 740 = .ok (.invokestatic 37, 3) := by decide +kernel
theorem dL_updates_743 : decode cL_updates 743 = .ok (.lmul, 1) := by decide +kernel
theorem dL_updates_744 : decode cL_updates 744 = .ok (.ladd, 1) := by decide +kernel
theorem dL_updates_745 : decode cL_updates 745 = .ok (.ldc2_w 58, 3) := by decide +kernel
theorem dL_updates_748 : decode cL_updates 748 = .ok (.aload_n 0, 1) := by decide +kernel
theorem dL_updates_749 : decode cL_updates 749 = .ok (.iload_n 1, 1) := by decide +kernel
theorem dL_updates_750 : decode cL_updates 750 = .ok (.iconst 3, 1) := by decide +kernel
theorem dL_updates_751 : decode cL_updates 751 = .ok (.iadd, 1) := by decide +kernel
theorem dL_updates_752 : decode cL_updates 752 = .ok (.iconst 4, 1) := by decide +kernel
theorem dL_updates_753 : decode cL_updates 753 = .ok (.irem, 1) := by decide +kernel
theorem dL_updates_754 : decode cL_updates 754 = .ok (.invokestatic 37, 3) := by decide +kernel
theorem dL_updates_757 : decode cL_updates 757 = .ok (.lmul, 1) := by decide +kernel
theorem dL_updates_758 : decode cL_updates 758 = .ok (.ladd, 1) := by decide +kernel
theorem dL_updates_759 : decode cL_updates 759 = .ok (.lcmp, 1) := by decide +kernel
theorem dL_updates_760 : decode cL_updates 760 = .ok (.ifCond .ne 7, 3) := by decide +kernel
theorem dL_updates_763 : decode cL_updates 763 = .ok (.iconst 1, 1) := by decide +kernel
theorem dL_updates_764 : decode cL_updates 764 = .ok (.goto 4, 3) := by decide +kernel
theorem dL_updates_767 : decode cL_updates 767 = .ok (.iconst 0, 1) := by decide +kernel
theorem dL_updates_768 : decode cL_updates 768 = .ok (.ireturn, 1) := by decide +kernel
set_option maxRecDepth 20000 in
theorem ggL_merges_X3_ifMerged : GoodIn wsL_merges wsX3_ifMerged := goodIn_ca (goodIn_ca (goodIn_r _ [6, 7, 8, 9, 10, 11, 5, 12, 13, 14, 15, 16, 17, 18, 19, 20, 21, 22, 23, 24, 25, 26, 27, 28, 29, 30, 31, 32, 33, 34, 35, 36, 37, 38, 39, 40, 186, 187, 188, 189, 190, 191, 192, 193, 194] (by decide +kernel) (by decide +kernel)) (goodIn_sub (fun _ h => List.mem_cons_of_mem _ (List.mem_append_left _ (List.mem_append_right _ h))) (by decide +kernel))) (goodIn_sub (fun _ h => List.mem_cons_of_mem _ (List.mem_append_right _ h)) (by decide +kernel))
set_option maxRecDepth 20000 in
theorem gL_merges_X3_ifMerged : GoodIn wsL_merges (wsV RL 84 RX3 yX3_ifMerged wsX3_ifMerged) := goodIn_app (goodIn_of _ (by decide +kernel)) ggL_merges_X3_ifMerged
set_option maxRecDepth 20000 in
theorem ggL_merges_L_cells : GoodIn wsL_merges wsL_cells := goodIn_ca (goodIn_r _ [44, 45, 46, 47, 48, 49, 5, 50, 9, 10, 11, 12, 13, 14, 51, 52, 53, 54, 55, 56, 21, 57, 27, 58, 59, 60, 61, 62, 63, 64, 65, 66, 67, 68, 69, 70, 71, 72, 73, 74, 75, 76, 77, 78, 79, 80, 81, 82, 83, 84, 85, 86, 87, 88, 89, 90, 91, 92, 93, 94, 95, 96, 97, 98, 99, 100, 101, 102, 103, 104, 105, 106, 107, 108, 109, 110, 111, 112, 113, 114, 115, 116, 117, 118, 119, 120, 186, 187, 188, 189, 190, 191, 192, 193, 194] (by decide +kernel) (by decide +kernel)) (goodIn_sub (fun _ h => List.mem_cons_of_mem _ (List.mem_append_right _ h)) (by decide +kernel))
set_option maxRecDepth 20000 in
theorem gL_merges_L_cells : GoodIn wsL_merges (va_wsS RL 37 yL_cells wsL_cells) := goodIn_app (goodIn_of _ (by decide +kernel)) ggL_merges_L_cells
set_option maxRecDepth 20000 in
theorem ggL_merges_X3_seen : GoodIn wsL_merges wsX3_seen := goodIn_ca (goodIn_r _ [124, 9, 10, 11, 5, 12, 13, 14, 125, 29, 30, 21, 31, 32, 186, 187, 188, 189, 190, 191, 192, 193, 194] (by decide +kernel) (by decide +kernel)) (goodIn_sub (fun _ h => List.mem_cons_of_mem _ (List.mem_append_right _ h)) (by decide +kernel))
set_option maxRecDepth 20000 in
theorem gL_merges_X3_seen : GoodIn wsL_merges (wsV RL 47 RX3 yX3_seen wsX3_seen) := goodIn_app (goodIn_of _ (by decide +kernel)) ggL_merges_X3_seen
set_option maxRecDepth 20000 in
theorem ggL_merges_X3_clock : GoodIn wsL_merges wsX3_clock := goodIn_ca (goodIn_r _ [129, 9, 10, 11, 5, 12, 13, 14, 186, 187, 188, 189, 190, 191, 192, 193, 194] (by decide +kernel) (by decide +kernel)) (goodIn_sub (fun _ h => List.mem_cons_of_mem _ (List.mem_append_right _ h)) (by decide +kernel))
set_option maxRecDepth 20000 in
theorem gL_merges_X3_clock : GoodIn wsL_merges (wsV RL 43 RX3 yX3_clock wsX3_clock) := goodIn_app (goodIn_of _ (by decide +kernel)) ggL_merges_X3_clock
set_option maxRecDepth 20000 in
theorem ggL_merges_X3_relation : GoodIn wsL_merges wsX3_relation := goodIn_ca (goodIn_r _ [133, 9, 10, 11, 5, 12, 13, 14, 134, 135, 136, 21, 137, 28, 29, 30, 31, 32, 186, 187, 188, 189, 190, 191, 192, 193, 194] (by decide +kernel) (by decide +kernel)) (goodIn_sub (fun _ h => List.mem_cons_of_mem _ (List.mem_append_right _ h)) (by decide +kernel))
set_option maxRecDepth 20000 in
theorem gL_merges_X3_relation : GoodIn wsL_merges (wsV RL 87 RX3 yX3_relation wsX3_relation) := goodIn_app (goodIn_of _ (by decide +kernel)) ggL_merges_X3_relation
set_option maxRecDepth 20000 in
theorem ggL_merges_X3_merge : GoodIn wsL_merges wsX3_merge := goodIn_ca (goodIn_ca (goodIn_r _ [141, 142, 9, 10, 11, 5, 12, 13, 14, 15, 16, 17, 7, 8, 143, 144, 145, 146, 147, 148, 149, 150, 151, 152, 21, 153, 154, 155, 156, 157, 1, 27, 58, 59, 32, 158, 159, 160, 161, 162, 163, 164, 165, 166, 167, 168, 169, 170, 171, 172, 19, 20, 22, 23, 24, 25, 26, 28, 29, 30, 31, 173, 34, 35, 36, 37, 38, 39, 40, 174, 175, 176, 177, 178, 179, 180, 181, 77, 78, 79, 80, 186, 187, 188, 195, 196, 197, 189, 190, 191, 192, 193, 194] (by decide +kernel) (by decide +kernel)) (goodIn_sub (fun _ h => List.mem_cons_of_mem _ (List.mem_append_right _ h)) (by decide +kernel))) (goodIn_sub (fun _ h => List.mem_cons_of_mem _ (List.mem_append_left _ (List.mem_append_right _ h))) (by decide +kernel))
set_option maxRecDepth 20000 in
theorem gL_merges_X3_merge : GoodIn wsL_merges (wsV RL 90 RX3 yX3_merge wsX3_merge) := goodIn_app (goodIn_of _ (by decide +kernel)) ggL_merges_X3_merge
set_option maxRecDepth 20000 in
theorem ggL_merges_X3_latestMerge : GoodIn wsL_merges wsX3_latestMerge := goodIn_ca (goodIn_r _ [185, 7, 8, 9, 186, 187, 188, 189, 190, 191, 192, 193, 194] (by decide +kernel) (by decide +kernel)) (goodIn_sub (fun _ h => List.mem_cons_of_mem _ (List.mem_append_left _ (List.mem_append_right _ h))) (by decide +kernel))
set_option maxRecDepth 20000 in
theorem gL_merges_X3_latestMerge : GoodIn wsL_merges (wsV RL 50 RX3 yX3_latestMerge wsX3_latestMerge) := goodIn_app (goodIn_of _ (by decide +kernel)) ggL_merges_X3_latestMerge
theorem dL_merges_0 : decode cL_merges 0 = .ok (.aload_n 0, 1) := by decide +kernel
theorem dL_merges_1 : decode cL_merges 1 = .ok (.iload_n 1, 1) := by decide +kernel
theorem dL_merges_2 : decode cL_merges 2 = .ok (.iload_n 2, 1) := by decide +kernel
theorem dL_merges_3 : decode cL_merges 3 = .ok (.iconst 2, 1) := by decide +kernel
theorem dL_merges_4 : decode cL_merges 4 = .ok (.invokevirtual 84, 3) := by decide +kernel
theorem dL_merges_7 : decode cL_merges 7 = .ok (.istore_n 3, 1) := by decide +kernel
theorem dL_merges_8 : decode cL_merges 8 = .ok (.aload_n 0, 1) := by decide +kernel
theorem dL_merges_9 : decode cL_merges 9 = .ok (.iload_n 1, 1) := by decide +kernel
theorem dL_merges_10 : decode cL_merges 10 = .ok (.iload_n 2, 1) := by decide +kernel
theorem dL_merges_11 : decode cL_merges 11 = .ok (.iconst 3, 1) := by decide +kernel
theorem dL_merges_12 : decode cL_merges 12 = .ok (.invokevirtual 84, 3) := by decide +kernel
theorem dL_merges_15 : decode cL_merges 15 = .ok (.istore 4, 2) := by decide +kernel
theorem dL_merges_17 : decode cL_merges 17 = .ok (.aload_n 0, 1) := by decide +kernel
theorem dL_merges_18 : decode cL_merges 18 = .ok (.iload_n 1, 1) := by decide +kernel
theorem dL_merges_19 : decode cL_merges 19 = .ok (.invokestatic 37, 3) := by decide +kernel
theorem dL_merges_22 : decode cL_merges 22 = .ok (.lstore 5, 2) := by decide +kernel
theorem dL_merges_24 : decode cL_merges 24 = .ok (.iconst 4, 1) := by decide +kernel
theorem dL_merges_25 : decode cL_merges 25 = .ok (.newarray .int, 2) := by decide +kernel
theorem dL_merges_27 : decode cL_merges 27 = .ok (.astore 7, 2) := by decide +kernel
theorem dL_merges_29 : decode cL_merges 29 = .ok (.iconst 0, 1) := by decide +kernel
theorem dL_merges_30 : decode cL_merges 30 = .ok (.istore 8, 2) := by decide +kernel
theorem dL_merges_32 : decode cL_merges 32 = .ok (.iload 8, 2) := by decide +kernel
theorem dL_merges_34 : decode cL_merges 34 = .ok (.iconst 4, 1) := by decide +kernel
theorem dL_merges_35 : decode cL_merges 35 = .ok (.if_icmp .ge 48, 3) := by decide +kernel
theorem dL_merges_38 : decode cL_merges 38 = .ok (.aload 7, 2) := by decide +kernel
theorem dL_merges_40 : decode cL_merges 40 = .ok (.iload 8, 2) := by decide +kernel
theorem dL_merges_42 : decode cL_merges 42 = .ok (.aload_n 0, 1) := by decide +kernel
theorem dL_merges_43 : decode cL_merges 43 = .ok (.iload_n 1, 1) := by decide +kernel
theorem dL_merges_44 : decode cL_merges 44 = .ok (.iload 8, 2) := by decide +kernel
theorem dL_merges_46 : decode cL_merges 46 = .ok (.invokevirtual 47, 3) := by decide +kernel
theorem dL_merges_49 : decode cL_merges 49 = .ok (.aload_n 0, 1) := by decide +kernel
theorem dL_merges_50 : decode cL_merges 50 = .ok (.iload_n 2, 1) := by decide +kernel
theorem dL_merges_51 : decode cL_merges 51 = .ok (.iload 8, 2) := by decide +kernel
theorem dL_merges_53 : decode cL_merges 53 = .ok (.invokevirtual 47, 3) := by decide +kernel
theorem dL_merges_56 : decode cL_merges 56 = .ok (.if_icmp .le 13, 3) := by decide +kernel
theorem dL_merges_59 : decode cL_merges 59 = .ok (.aload_n 0, 1) := by decide +kernel
theorem dL_merges_60 : decode cL_merges 60 = .ok (.iload_n 1, 1) := by decide +kernel
theorem dL_merges_61 : decode cL_merges 61 = .ok (.iload 8, 2) := by decide +kernel
theorem dL_merges_63 : decode cL_merges 63 = .ok (.invokevirtual 47, 3) := by decide +kernel
theorem dL_merges_66 : decode cL_merges 66 = .ok (.goto 10, 3) := by decide +kernel
theorem dL_merges_69 : decode cL_merges 69 = .ok (.aload_n 0, 1) := by decide +kernel
theorem dL_merges_70 : decode cL_merges 70 = .ok (.iload_n 2, 1) := by decide +kernel
theorem dL_merges_71 : decode cL_merges 71 = .ok (.iload 8, 2) := by decide +kernel
theorem dL_merges_73 : decode cL_merges 73 = .ok (.invokevirtual 47, 3) := by decide +kernel
theorem dL_merges_76 : decode cL_merges 76 = .ok (.iastore, 1) := by decide +kernel
theorem dL_merges_77 : decode cL_merges 77 = .ok (.iinc 8 1, 3) := by decide +kernel
theorem dL_merges_80 : decode cL_merges 80 = .ok (.goto (-48), 3) := by decide +kernel
theorem dL_merges_83 : decode cL_merges 83 = .ok (.aload_n 0, 1) := by decide +kernel
theorem dL_merges_84 : decode cL_merges 84 = .ok (.iload_n 1, 1) := by decide +kernel
theorem dL_merges_85 : decode cL_merges 85 = .ok (.invokevirtual 43, 3) := by decide +kernel
theorem dL_merges_88 : decode cL_merges 88 = .ok (.aload_n 0, 1) := by decide +kernel
theorem dL_merges_89 : decode cL_merges 89 = .ok (.iload_n 2, 1) := by decide +kernel
theorem dL_merges_90 : decode cL_merges 90 = .ok (.invokevirtual 43, 3) := by decide +kernel
theorem dL_merges_93 : decode cL_merges 93 = .ok (.if_icmp .le 11, 3) := by decide +kernel
theorem dL_merges_96 : decode cL_merges 96 = .ok (.aload_n 0, 1) := by decide +kernel
theorem dL_merges_97 : decode cL_merges 97 = .ok (.iload_n 1, 1) := by decide +kernel
theorem dL_merges_98 : decode cL_merges 98 = .ok (.invokevirtual 43, 3) := by decide +kernel
theorem dL_merges_101 : decode cL_merges 101 = .ok (.goto 8, 3) := by decide +kernel
theorem dL_merges_104 : decode cL_merges 104 = .ok (.aload_n 0, 1) := by decide +kernel
theorem dL_merges_105 : decode cL_merges 105 = .ok (.iload_n 2, 1) := by decide +kernel
theorem dL_merges_106 : decode cL_merges 106 = .ok (.invokevirtual 43, 3) := by decide +kernel
theorem dL_merges_109 : decode cL_merges 109 = .ok (.istore 8, 2) := by decide +kernel
theorem dL_merges_111 : decode cL_merges 111 = .ok (.aload_n 0, 1) := by decide +kernel
theorem dL_merges_112 : decode cL_merges 112 = .ok (.iload_n 1, 1) := by decide +kernel
theorem dL_merges_113 : decode cL_merges 113 = .ok (.iload_n 2, 1) := by decide +kernel
theorem dL_merges_114 : decode cL_merges 114 = .ok (.invokevirtual 87, 3) := by decide +kernel
theorem dL_merges_117 : decode cL_merges 117 = .ok (.iconst 1, 1) := by decide +kernel
theorem dL_merges_118 : decode cL_merges 118 = .ok (.if_icmp .eq 12, 3) := by decide +kernel
theorem dL_merges_121 : decode cL_merges 121 = .ok (.aload_n 0, 1) := by decide +kernel
theorem dL_merges_122 : decode cL_merges 122 = .ok (.iload_n 1, 1) := by decide +kernel
theorem dL_merges_123 : decode cL_merges 123 = .ok (.iload_n 2, 1) := by decide +kernel
theorem dL_merges_124 : decode cL_merges 124 = .ok (.invokevirtual 87, 3) := by decide +kernel
theorem dL_merges_127 : decode cL_merges 127 = .ok (.ifCond .ne 7, 3) := by decide +kernel
theorem dL_merges_130 : decode cL_merges 130 = .ok (.iconst 1, 1) := by decide +kernel
theorem dL_merges_131 : decode cL_merges 131 = .ok (.goto 4, 3) := by decide +kernel
theorem dL_merges_134 : decode cL_merges 134 = .ok (.iconst 0, 1) := by decide +kernel
theorem dL_merges_135 : decode cL_merges 135 = .ok (.istore 9, 2) := by decide +kernel
theorem dL_merges_137 : decode cL_merges 137 = .ok (.aload_n 0, 1) := by decide +kernel
theorem dL_merges_138 : decode cL_merges 138 = .ok (.iload_n 1, 1) := by decide +kernel
theorem dL_merges_139 : decode cL_merges 139 = .ok (.iload_n 2, 1) := by decide +kernel
theorem dL_merges_140 : decode cL_merges 140 = .ok (.invokevirtual 90, 3) := by decide +kernel
theorem dL_merges_143 : decode cL_merges 143 = .ok (.iload_n 3, 1) := by decide +kernel
theorem dL_merges_144 : decode cL_merges 144 = .ok (.iload 4, 2) := by decide +kernel
theorem dL_merges_146 : decode cL_merges 146 = .ok (.iadd, 1) := by decide +kernel
theorem dL_merges_147 : decode cL_merges 147 = .ok (.if_icmp .ne 77, 3) := by decide +kernel
theorem dL_merges_150 : decode cL_merges 150 = .ok (.aload_n 0, 1) := by decide +kernel
theorem dL_merges_151 : decode cL_merges 151 = .ok (.iconst 0, 1) := by decide +kernel
theorem dL_merges_152 : decode cL_merges 152 = .ok (.invokevirtual 50, 3) := by decide +kernel
theorem dL_merges_155 : decode cL_merges 155 = .ok (.iload_n 1, 1) := by decide +kernel
theorem dL_merges_156 : decode cL_merges 156 = .ok (.if_icmp .ne 68, 3) := by decide +kernel
theorem dL_merges_159 : decode cL_merges 159 = .ok (.aload_n 0, 1) := by decide +kernel
theorem dL_merges_160 : decode cL_merges 160 = .ok (.iconst 1, 1) := by decide +kernel
theorem dL_merges_161 : decode cL_merges 161 = .ok (.invokevirtual 50, 3) := by decide +kernel
theorem dL_merges_164 : decode cL_merges 164 = .ok (.iload_n 2, 1) := by decide +kernel
theorem dL_merges_165 : decode cL_merges 165 = .ok (.if_icmp .ne 59, 3) := by decide +kernel
theorem dL_merges_168 : decode cL_merges 168 = .ok (.aload_n 0, 1) := by decide +kernel
theorem dL_merges_169 : decode cL_merges 169 = .ok (.iconst 2, 1) := by decide +kernel
theorem dL_merges_170 : decode cL_merges 170 = .ok (.invokevirtual 50, 3) := by decide +kernel
theorem dL_merges_173 : decode cL_merges 173 = .ok (.iload_n 3, 1) := by decide +kernel
theorem dL_merges_174 : decode cL_merges 174 = .ok (.if_icmp .ne 50, 3) := by decide +kernel
theorem dL_merges_177 : decode cL_merges 177 = .ok (.aload_n 0, 1) := by decide +kernel
theorem dL_merges_178 : decode cL_merges 178 = .ok (.iconst 3, 1) := by decide +kernel
theorem dL_merges_179 : decode cL_merges 179 = .ok (.invokevirtual 50, 3) := by decide +kernel
theorem dL_merges_182 : decode cL_merges 182 = .ok (.iload 4, 2) := by decide +kernel
theorem dL_merges_184 : decode cL_merges 184 = .ok (.if_icmp .ne 40, 3) := by decide +kernel
theorem dL_merges_187 : decode cL_merges 187 = .ok (.aload_n 0, 1) := by decide +kernel
theorem dL_merges_188 : decode cL_merges 188 = .ok (.iload_n 1, 1) := by decide +kernel
theorem dL_merges_189 : decode cL_merges 189 = .ok (.invokestatic 37, 3) := by decide +kernel
theorem dL_merges_192 : decode cL_merges 192 = .ok (.lload 5, 2) := by decide +kernel
theorem dL_merges_194 : decode cL_merges 194 = .ok (.lcmp, 1) := by decide +kernel
theorem dL_merges_195 : decode cL_merges 195 = .ok (.ifCond .ne 29, 3) := by decide +kernel
theorem dL_merges_198 : decode cL_merges 198 = .ok (.aload_n 0, 1) := by decide +kernel
theorem dL_merges_199 : decode cL_merges 199 = .ok (.iload_n 2, 1) := by decide +kernel
theorem dL_merges_200 : decode cL_merges 200 = .ok (.invokevirtual 43, 3) := by decide +kernel
theorem dL_merges_203 : decode cL_merges 203 = .ok (.iload 8, 2) := by decide +kernel
theorem dL_merges_205 : decode cL_merges 205 = .ok (.if_icmp .ne 19, 3) := by decide +kernel
theorem dL_merges_208 : decode cL_merges 208 = .ok (.iload 9, 2) := by decide +kernel
theorem dL_merges_210 : decode cL_merges 210 = .ok (.ifCond .eq 10, 3) := by decide +kernel
theorem dL_merges_213 : decode cL_merges 213 = .ok (.iload_n 3, 1) := by decide +kernel
theorem dL_merges_214 : decode cL_merges 214 = .ok (.iload 4, 2) := by decide +kernel
theorem dL_merges_216 : decode cL_merges 216 = .ok (.iadd, 1) := by decide +kernel
theorem dL_merges_217 : decode cL_merges 217 = .ok (.ifCond .ne 7, 3) := by decide +kernel
theorem dL_merges_220 : decode cL_merges 220 = .ok (.iconst 1, 1) := by decide +kernel
theorem dL_merges_221 : decode cL_merges 221 = .ok (.goto 4, 3) := by decide +kernel
theorem dL_merges_224 : decode cL_merges 224 = .ok (.iconst 0, 1) := by decide +kernel
theorem dL_merges_225 : decode cL_merges 225 = .ok (.istore 10, 2) := by decide +kernel
theorem dL_merges_227 : decode cL_merges 227 = .ok (.iconst 0, 1) := by decide +kernel
theorem dL_merges_228 : decode cL_merges 228 = .ok (.istore 11, 2) := by decide +kernel
theorem dL_merges_230 : decode cL_merges 230 = .ok (.iload 11, 2) := by decide +kernel
theorem dL_merges_232 : decode cL_merges 232 = .ok (.iconst 4, 1) := by decide +kernel
theorem dL_merges_233 : decode cL_merges 233 = .ok (.if_icmp .ge 36, 3) := by decide +kernel
theorem dL_merges_236 : decode cL_merges 236 = .ok (.iload 10, 2) := by decide +kernel
theorem dL_merges_238 : decode cL_merges 238 = .ok (.ifCond .eq 22, 3) := by decide +kernel
theorem dL_merges_241 : decode cL_merges 241 = .ok (.aload_n 0, 1) := by decide +kernel
theorem dL_merges_242 : decode cL_merges 242 = .ok (.iload_n 2, 1) := by decide +kernel
theorem dL_merges_243 : decode cL_merges 243 = .ok (.iload 11, 2) := by decide +kernel
theorem dL_merges_245 : decode cL_merges 245 = .ok (.invokevirtual 47, 3) := by decide +kernel
theorem dL_merges_248 : decode cL_merges 248 = .ok (.aload 7, 2) := by decide +kernel
theorem dL_merges_250 : decode cL_merges 250 = .ok (.iload 11, 2) := by decide +kernel
theorem dL_merges_252 : decode cL_merges 252 = .ok (.iaload, 1) := by decide +kernel
theorem dL_merges_253 : decode cL_merges 253 = .ok (.if_icmp .ne 7, 3) := by decide +kernel
theorem dL_merges_256 : decode cL_merges 256 = .ok (.iconst 1, 1) := by decide +kernel
theorem dL_merges_257 : decode cL_merges 257 = .ok (.goto 4, 3) := by decide +kernel
theorem dL_merges_260 : decode cL_merges 260 = .ok (.iconst 0, 1) := by decide +kernel
theorem dL_merges_261 : decode cL_merges 261 = .ok (.istore 10, 2) := by decide +kernel
theorem dL_merges_263 : decode cL_merges 263 = .ok (.iinc 11 1, 3) := by decide +kernel
theorem dL_merges_266 : decode cL_merges 266 = .ok (.goto (-36), 3) := by decide +kernel
theorem dL_merges_269 : decode cL_merges 269 = .ok (.aload_n 0, 1) := by decide +kernel
theorem dL_merges_270 : decode cL_merges 270 = .ok (.iload_n 1, 1) := by decide +kernel
theorem dL_merges_271 : decode cL_merges 271 = .ok (.iload_n 2, 1) := by decide +kernel
theorem dL_merges_272 : decode cL_merges 272 = .ok (.invokevirtual 87, 3) := by decide +kernel
theorem dL_merges_275 : decode cL_merges 275 = .ok (.istore 11, 2) := by decide +kernel
theorem dL_merges_277 : decode cL_merges 277 = .ok (.iload 10, 2) := by decide +kernel
theorem dL_merges_279 : decode cL_merges 279 = .ok (.ifCond .eq 44, 3) := by decide +kernel
theorem dL_merges_282 : decode cL_merges 282 = .ok (.iload 11, 2) := by decide +kernel
theorem dL_merges_284 : decode cL_merges 284 = .ok (.ifCond .eq 9, 3) := by decide +kernel
theorem dL_merges_287 : decode cL_merges 287 = .ok (.iload 11, 2) := by decide +kernel
theorem dL_merges_289 : decode cL_merges 289 = .ok (.iconst 1, 1) := by decide +kernel
theorem dL_merges_290 : decode cL_merges 290 = .ok (.if_icmp .ne 33, 3) := by decide +kernel
theorem dL_merges_293 : decode cL_merges 293 = .ok (.aload_n 0, 1) := by decide +kernel
theorem dL_merges_294 : decode cL_merges 294 = .ok (.iload_n 1, 1) := by decide +kernel
theorem dL_merges_295 : decode cL_merges 295 = .ok (.iload_n 2, 1) := by decide +kernel
theorem dL_merges_296 : decode cL_merges 296 = .ok (.invokevirtual 90, 3) := by decide +kernel
theorem dL_merges_299 : decode cL_merges 299 = .ok (.ifCond .ne 24, 3) := by decide +kernel
theorem dL_merges_302 : decode cL_merges 302 = .ok (.iload 11, 2) := by decide +kernel
theorem dL_merges_304 : decode cL_merges 304 = .ok (.iconst 1, 1) := by decide +kernel
theorem dL_merges_305 : decode cL_merges 305 = .ok (.if_icmp .eq 14, 3) := by decide +kernel
theorem dL_merges_308 : decode cL_merges 308 = .ok (.aload_n 0, 1) := by decide +kernel
theorem dL_merges_309 : decode cL_merges 309 = .ok (.iload_n 2, 1) := by decide +kernel
theorem dL_merges_310 : decode cL_merges 310 = .ok (.invokestatic 37, 3) := by decide +kernel
theorem dL_merges_313 : decode cL_merges 313 = .ok (.lload 5, 2) := by decide +kernel
theorem dL_merges_315 : decode cL_merges 315 = .ok (.lcmp, 1) := by decide +kernel
theorem dL_merges_316 : decode cL_merges 316 = .ok (.ifCond .ne 7, 3) := by decide +kernel
theorem dL_merges_319 : decode cL_merges 319 = .ok (.iconst 1, 1) := by decide +kernel
theorem dL_merges_320 : decode cL_merges 320 = .ok (.goto 4, 3) := by decide +kernel
theorem dL_merges_323 : decode cL_merges 323 = .ok (.iconst 0, 1) := by decide +kernel
theorem dL_merges_324 : decode cL_merges 324 = .ok (.ireturn, 1) := by decide +kernel
set_option maxRecDepth 20000 in
theorem ggL_holds_X3_clock : GoodIn wsL_holds wsX3_clock := goodIn_ca (goodIn_r _ [7, 8, 9, 10, 6, 11, 12, 13, 135, 136, 137, 138, 139, 140, 141, 142, 143] (by decide +kernel) (by decide +kernel)) (goodIn_sub (fun _ h => List.mem_cons_of_mem _ (List.mem_append_right _ h)) (by decide +kernel))
set_option maxRecDepth 20000 in
theorem gL_holds_X3_clock : GoodIn wsL_holds (wsV RL 43 RX3 yX3_clock wsX3_clock) := goodIn_app (goodIn_of _ (by decide +kernel)) ggL_holds_X3_clock
set_option maxRecDepth 20000 in
theorem ggL_holds_X3_seen : GoodIn wsL_holds wsX3_seen := goodIn_ca (goodIn_r _ [17, 8, 9, 10, 6, 11, 12, 13, 18, 19, 20, 21, 22, 23, 135, 136, 137, 138, 139, 140, 141, 142, 143] (by decide +kernel) (by decide +kernel)) (goodIn_sub (fun _ h => List.mem_cons_of_mem _ (List.mem_append_right _ h)) (by decide +kernel))
set_option maxRecDepth 20000 in
theorem gL_holds_X3_seen : GoodIn wsL_holds (wsV RL 47 RX3 yX3_seen wsX3_seen) := goodIn_app (goodIn_of _ (by decide +kernel)) ggL_holds_X3_seen
set_option maxRecDepth 20000 in
theorem ggL_holds_X3_entries : GoodIn wsL_holds wsX3_entries := goodIn_ca (goodIn_r _ [27, 12, 13, 8, 9, 10, 6, 11, 28, 29, 30, 31, 32, 33, 21, 34, 35, 36, 37, 38, 39, 40, 41, 42, 43, 44, 45, 46, 47, 48, 135, 136, 137, 138, 139, 140, 141, 142, 143] (by decide +kernel) (by decide +kernel)) (goodIn_sub (fun _ h => List.mem_cons_of_mem _ (List.mem_append_right _ h)) (by decide +kernel))
set_option maxRecDepth 20000 in
theorem gL_holds_X3_entries : GoodIn wsL_holds (wsV RL 28 RX3 yX3_entries wsX3_entries) := goodIn_app (goodIn_of _ (by decide +kernel)) ggL_holds_X3_entries
set_option maxRecDepth 20000 in
theorem ggL_holds_X3_exists : GoodIn wsL_holds wsX3_exists := goodIn_ca (goodIn_r _ [52, 8, 9, 10, 6, 11, 12, 13, 28, 29, 30, 53, 54, 55, 21, 56, 38, 39, 40, 44, 45, 46, 47, 48, 135, 136, 137, 138, 139, 140, 141, 142, 143] (by decide +kernel) (by decide +kernel)) (goodIn_sub (fun _ h => List.mem_cons_of_mem _ (List.mem_append_right _ h)) (by decide +kernel))
set_option maxRecDepth 20000 in
theorem gL_holds_X3_exists : GoodIn wsL_holds (wsV RL 77 RX3 yX3_exists wsX3_exists) := goodIn_app (goodIn_of _ (by decide +kernel)) ggL_holds_X3_exists
set_option maxRecDepth 20000 in
theorem ggL_holds_X3_latest : GoodIn wsL_holds wsX3_latest := goodIn_ca (goodIn_r _ [60, 8, 9, 10, 6, 11, 12, 13, 28, 29, 30, 61, 62, 63, 21, 64, 48, 65, 66, 35, 36, 37, 38, 39, 40, 41, 42, 43, 135, 136, 137, 138, 139, 140, 141, 142, 143] (by decide +kernel) (by decide +kernel)) (goodIn_sub (fun _ h => List.mem_cons_of_mem _ (List.mem_append_right _ h)) (by decide +kernel))
set_option maxRecDepth 20000 in
theorem gL_holds_X3_latest : GoodIn wsL_holds (wsV RL 13 RX3 yX3_latest wsX3_latest) := goodIn_app (goodIn_of _ (by decide +kernel)) ggL_holds_X3_latest
set_option maxRecDepth 20000 in
theorem ggL_holds_X3_greatest : GoodIn wsL_holds wsX3_greatest := goodIn_ca (goodIn_r _ [70, 8, 9, 10, 6, 11, 12, 13, 28, 29, 30, 71, 72, 73, 21, 74, 48, 66, 75, 76, 77, 78, 41, 42, 43, 38, 39, 40, 35, 36, 37, 135, 136, 137, 138, 139, 140, 141, 142, 143] (by decide +kernel) (by decide +kernel)) (goodIn_sub (fun _ h => List.mem_cons_of_mem _ (List.mem_append_right _ h)) (by decide +kernel))
set_option maxRecDepth 20000 in
theorem gL_holds_X3_greatest : GoodIn wsL_holds (wsV RL 19 RX3 yX3_greatest wsX3_greatest) := goodIn_app (goodIn_of _ (by decide +kernel)) ggL_holds_X3_greatest
set_option maxRecDepth 20000 in
theorem ggL_holds_X3_elements : GoodIn wsL_holds wsX3_elements := goodIn_ca (goodIn_r _ [82, 8, 9, 10, 6, 11, 12, 13, 28, 29, 30, 83, 84, 85, 21, 86, 48, 66, 41, 42, 43, 38, 39, 40, 35, 36, 37, 135, 136, 137, 138, 139, 140, 141, 142, 143] (by decide +kernel) (by decide +kernel)) (goodIn_sub (fun _ h => List.mem_cons_of_mem _ (List.mem_append_right _ h)) (by decide +kernel))
set_option maxRecDepth 20000 in
theorem gL_holds_X3_elements : GoodIn wsL_holds (wsV RL 25 RX3 yX3_elements wsX3_elements) := goodIn_app (goodIn_of _ (by decide +kernel)) ggL_holds_X3_elements
set_option maxRecDepth 20000 in
theorem ggL_holds_X3_relation : GoodIn wsL_holds wsX3_relation := goodIn_ca (goodIn_r _ [90, 8, 9, 10, 6, 11, 12, 13, 91, 92, 93, 21, 94, 95, 19, 20, 22, 23, 135, 136, 137, 138, 139, 140, 141, 142, 143] (by decide +kernel) (by decide +kernel)) (goodIn_sub (fun _ h => List.mem_cons_of_mem _ (List.mem_append_right _ h)) (by decide +kernel))
set_option maxRecDepth 20000 in
theorem gL_holds_X3_relation : GoodIn wsL_holds (wsV RL 87 RX3 yX3_relation wsX3_relation) := goodIn_app (goodIn_of _ (by decide +kernel)) ggL_holds_X3_relation
set_option maxRecDepth 20000 in
theorem ggL_holds_L_cells : GoodIn wsL_holds wsL_cells := goodIn_ca (goodIn_r _ [99, 100, 101, 57, 58, 59, 6, 60, 8, 9, 10, 11, 12, 13, 28, 29, 30, 61, 62, 63, 21, 64, 48, 65, 66, 35, 36, 37, 38, 39, 40, 41, 42, 43, 67, 68, 69, 70, 71, 72, 73, 74, 75, 76, 77, 78, 102, 103, 104, 105, 106, 107, 108, 109, 79, 80, 81, 82, 83, 84, 85, 86, 24, 25, 26, 27, 31, 32, 33, 34, 44, 45, 46, 47, 110, 111, 112, 113, 114, 115, 116, 117, 118, 119, 120, 121, 135, 136, 137, 138, 139, 140, 141, 142, 143] (by decide +kernel) (by decide +kernel)) (goodIn_sub (fun _ h => List.mem_cons_of_mem _ (List.mem_append_right _ h)) (by decide +kernel))
set_option maxRecDepth 20000 in
theorem gL_holds_L_cells : GoodIn wsL_holds (va_wsS RL 37 yL_cells wsL_cells) := goodIn_app (goodIn_of _ (by decide +kernel)) ggL_holds_L_cells
set_option maxRecDepth 20000 in
theorem ggL_holds_X3_conflicts : GoodIn wsL_holds wsX3_conflicts := goodIn_ca (goodIn_r _ [125, 8, 9, 10, 6, 11, 12, 13, 31, 32, 33, 21, 34, 35, 36, 37, 38, 39, 40, 41, 42, 43, 44, 45, 46, 47, 48, 135, 136, 137, 138, 139, 140, 141, 142, 143] (by decide +kernel) (by decide +kernel)) (goodIn_sub (fun _ h => List.mem_cons_of_mem _ (List.mem_append_right _ h)) (by decide +kernel))
set_option maxRecDepth 20000 in
theorem gL_holds_X3_conflicts : GoodIn wsL_holds (wsV RL 93 RX3 yX3_conflicts wsX3_conflicts) := goodIn_app (goodIn_of _ (by decide +kernel)) ggL_holds_X3_conflicts
set_option maxRecDepth 20000 in
theorem ggL_holds_X3_agreement : GoodIn wsL_holds wsX3_agreement := goodIn_r _ [129, 8, 130, 131, 132, 133, 21, 134, 48, 41, 42, 43, 38, 39, 40, 35, 36, 37, 135, 136, 137, 138, 139, 140, 141, 142, 143] (by decide +kernel) (by decide +kernel)
set_option maxRecDepth 20000 in
theorem gL_holds_X3_agreement : GoodIn wsL_holds (wsV RL 96 RX3 yX3_agreement wsX3_agreement) := goodIn_app (goodIn_of _ (by decide +kernel)) ggL_holds_X3_agreement
theorem dL_holds_0 : decode cL_holds 0 = .ok (.iconst 1, 1) := by decide +kernel
theorem dL_holds_1 : decode cL_holds 1 = .ok (.istore_n 1, 1) := by decide +kernel
theorem dL_holds_2 : decode cL_holds 2 = .ok (.iconst 0, 1) := by decide +kernel
theorem dL_holds_3 : decode cL_holds 3 = .ok (.istore_n 2, 1) := by decide +kernel
theorem dL_holds_4 : decode cL_holds 4 = .ok (.iload_n 2, 1) := by decide +kernel
theorem dL_holds_5 : decode cL_holds 5 = .ok (.iconst 4, 1) := by decide +kernel
theorem dL_holds_6 : decode cL_holds 6 = .ok (.if_icmp .ge 423, 3) := by decide +kernel
theorem dL_holds_9 : decode cL_holds 9 = .ok (.iconst 0, 1) := by decide +kernel
theorem dL_holds_10 : decode cL_holds 10 = .ok (.istore_n 3, 1) := by decide +kernel
theorem dL_holds_11 : decode cL_holds 11 = .ok (.iload_n 1, 1) := by decide +kernel
theorem dL_holds_12 : decode cL_holds 12 = .ok (.ifCond .eq 21, 3) := by decide +kernel
theorem dL_holds_15 : decode cL_holds 15 = .ok (.aload_n 0, 1) := by decide +kernel
theorem dL_holds_16 : decode cL_holds 16 = .ok (.iload_n 2, 1) := by decide +kernel
theorem dL_holds_17 : decode cL_holds 17 = .ok (.invokevirtual 43, 3) := by decide +kernel
theorem dL_holds_20 : decode cL_holds 20 = .ok (.aload_n 0, 1) := by decide +kernel
theorem dL_holds_21 : decode cL_holds 21 = .ok (.iload_n 2, 1) := by decide +kernel
theorem dL_holds_22 : decode cL_holds 22 = .ok (.iload_n 2, 1) := by decide +kernel
theorem dL_holds_23 : decode cL_holds 23 = .ok (.invokevirtual 47, 3) := by decide +kernel
theorem dL_holds_26 : decode cL_holds 26 = .ok (.if_icmp .lt 7, 3) := by decide +kernel
theorem dL_holds_29 : decode cL_holds 29 = .ok (.iconst 1, 1) := by decide +kernel
theorem dL_holds_30 : decode cL_holds 30 = .ok (.goto 4, 3) := by decide +kernel
theorem dL_holds_33 : decode cL_holds 33 = .ok (.iconst 0, 1) := by decide +kernel
theorem dL_holds_34 : decode cL_holds 34 = .ok (.istore_n 1, 1) := by decide +kernel
theorem dL_holds_35 : decode cL_holds 35 = .ok (.iconst 0, 1) := by decide +kernel
theorem dL_holds_36 : decode cL_holds 36 = .ok (.istore 4, 2) := by decide +kernel
theorem dL_holds_38 : decode cL_holds 38 = .ok (.iload 4, 2) := by decide +kernel
theorem dL_holds_40 : decode cL_holds 40 = .ok (.bipush 6, 2) := by decide +kernel
theorem dL_holds_42 : decode cL_holds 42 = .ok (.if_icmp .ge 222, 3) := by decide +kernel
theorem dL_holds_45 : decode cL_holds 45 = .ok (.iconst 0, 1) := by decide +kernel
theorem dL_holds_46 : decode cL_holds 46 = .ok (.istore 5, 2) := by decide +kernel
theorem dL_holds_48 : decode cL_holds 48 = .ok (.iconst 0, 1) := by decide +kernel
theorem dL_holds_49 : decode cL_holds 49 = .ok (.istore 6, 2) := by decide +kernel
theorem dL_holds_51 : decode cL_holds 51 = .ok (.iload 6, 2) := by decide +kernel
theorem dL_holds_53 : decode cL_holds 53 = .ok (.iconst 5, 1) := by decide +kernel
theorem dL_holds_54 : decode cL_holds 54 = .ok (.if_icmp .ge 52, 3) := by decide +kernel
theorem dL_holds_57 : decode cL_holds 57 = .ok (.iload 5, 2) := by decide +kernel
theorem dL_holds_59 : decode cL_holds 59 = .ok (.aload_n 0, 1) := by decide +kernel
theorem dL_holds_60 : decode cL_holds 60 = .ok (.iload_n 2, 1) := by decide +kernel
theorem dL_holds_61 : decode cL_holds 61 = .ok (.iload 4, 2) := by decide +kernel
theorem dL_holds_63 : decode cL_holds 63 = .ok (.iload 6, 2) := by decide +kernel
theorem dL_holds_65 : decode cL_holds 65 = .ok (.invokevirtual 28, 3) := by decide +kernel
theorem dL_holds_68 : decode cL_holds 68 = .ok (.iadd, 1) := by decide +kernel
theorem dL_holds_69 : decode cL_holds 69 = .ok (.istore 5, 2) := by decide +kernel
theorem dL_holds_71 : decode cL_holds 71 = .ok (.iload_n 1, 1) := by decide +kernel
theorem dL_holds_72 : decode cL_holds 72 = .ok (.ifCond .eq 26, 3) := by decide +kernel
theorem dL_holds_75 : decode cL_holds 75 = .ok (.iload 6, 2) := by decide +kernel
theorem dL_holds_77 : decode cL_holds 77 = .ok (.iconst 4, 1) := by decide +kernel
theorem dL_holds_78 : decode cL_holds 78 = .ok (.if_icmp .eq 16, 3) := by decide +kernel
theorem dL_holds_81 : decode cL_holds 81 = .ok (.aload_n 0, 1) := by decide +kernel
theorem dL_holds_82 : decode cL_holds 82 = .ok (.iload_n 2, 1) := by decide +kernel
theorem dL_holds_83 : decode cL_holds 83 = .ok (.iload 4, 2) := by decide +kernel
theorem dL_holds_85 : decode cL_holds 85 = .ok (.iload 6, 2) := by decide +kernel
theorem dL_holds_87 : decode cL_holds 87 = .ok (.invokevirtual 28, 3) := by decide +kernel
theorem dL_holds_90 : decode cL_holds 90 = .ok (.iconst 4, 1) := by decide +kernel
theorem dL_holds_91 : decode cL_holds 91 = .ok (.if_icmp .gt 7, 3) := by decide +kernel
theorem dL_holds_94 : decode cL_holds 94 = .ok (.iconst 1, 1) := by decide +kernel
theorem dL_holds_95 : decode cL_holds 95 = .ok (.goto 4, 3) := by decide +kernel
theorem dL_holds_98 : decode cL_holds 98 = .ok (.iconst 0, 1) := by decide +kernel
theorem dL_holds_99 : decode cL_holds 99 = .ok (.istore_n 1, 1) := by decide +kernel
theorem dL_holds_100 : decode cL_holds 100 = .ok (.iinc 6 1, 3) := by decide +kernel
theorem dL_holds_103 : decode cL_holds 103 = .ok (.goto (-52), 3) := by decide +kernel
theorem dL_holds_106 : decode cL_holds 106 = .ok (.iload_n 3, 1) := by decide +kernel
theorem dL_holds_107 : decode cL_holds 107 = .ok (.aload_n 0, 1) := by decide +kernel
theorem dL_holds_108 : decode cL_holds 108 = .ok (.iload_n 2, 1) := by decide +kernel
theorem dL_holds_109 : decode cL_holds 109 = .ok (.iload 4, 2) := by decide +kernel
theorem dL_holds_111 : decode cL_holds 111 = .ok (.iconst 1, 1) := by decide +kernel
theorem dL_holds_112 : decode cL_holds 112 = .ok (.invokevirtual 28, 3) := by decide +kernel
theorem dL_holds_115 : decode cL_holds 115 = .ok (.iconst 1, 1) := by decide +kernel
theorem dL_holds_116 : decode cL_holds 116 = .ok (.if_icmp .le 7, 3) := by decide +kernel
theorem dL_holds_119 : decode cL_holds 119 = .ok (.iconst 1, 1) := by decide +kernel
theorem dL_holds_120 : decode cL_holds 120 = .ok (.goto 4, 3) := by decide +kernel
theorem dL_holds_123 : decode cL_holds 123 = .ok (.iconst 0, 1) := by decide +kernel
theorem dL_holds_124 : decode cL_holds 124 = .ok (.iadd, 1) := by decide +kernel
theorem dL_holds_125 : decode cL_holds 125 = .ok (.istore_n 3, 1) := by decide +kernel
theorem dL_holds_126 : decode cL_holds 126 = .ok (.iload_n 1, 1) := by decide +kernel
theorem dL_holds_127 : decode cL_holds 127 = .ok (.ifCond .eq 129, 3) := by decide +kernel
theorem dL_holds_130 : decode cL_holds 130 = .ok (.aload_n 0, 1) := by decide +kernel
theorem dL_holds_131 : decode cL_holds 131 = .ok (.iload_n 2, 1) := by decide +kernel
theorem dL_holds_132 : decode cL_holds 132 = .ok (.iload 4, 2) := by decide +kernel
theorem dL_holds_134 : decode cL_holds 134 = .ok (.invokevirtual 77, 3) := by decide +kernel
theorem dL_holds_137 : decode cL_holds 137 = .ok (.iload 5, 2) := by decide +kernel
theorem dL_holds_139 : decode cL_holds 139 = .ok (.ifCond .le 7, 3) := by decide +kernel
theorem dL_holds_142 : decode cL_holds 142 = .ok (.iconst 1, 1) := by decide +kernel
theorem dL_holds_143 : decode cL_holds 143 = .ok (.goto 4, 3) := by decide +kernel
theorem dL_holds_146 : decode cL_holds 146 = .ok (.iconst 0, 1) := by decide +kernel
theorem dL_holds_147 : decode cL_holds 147 = .ok (.if_icmp .ne 109, 3) := by decide +kernel
theorem dL_holds_150 : decode cL_holds 150 = .ok (.aload_n 0, 1) := by decide +kernel
theorem dL_holds_151 : decode cL_holds 151 = .ok (.iload_n 2, 1) := by decide +kernel
theorem dL_holds_152 : decode cL_holds 152 = .ok (.iload 4, 2) := by decide +kernel
theorem dL_holds_154 : decode cL_holds 154 = .ok (.invokevirtual 13, 3) := by decide +kernel
theorem dL_holds_157 : decode cL_holds 157 = .ok (.ifCond .ge 7, 3) := by decide +kernel
theorem dL_holds_160 : decode cL_holds 160 = .ok (.iconst 1, 1) := by decide +kernel
theorem dL_holds_161 : decode cL_holds 161 = .ok (.goto 4, 3) := by decide +kernel
theorem dL_holds_164 : decode cL_holds 164 = .ok (.iconst 0, 1) := by decide +kernel
theorem dL_holds_165 : decode cL_holds 165 = .ok (.aload_n 0, 1) := by decide +kernel
theorem dL_holds_166 : decode cL_holds 166 = .ok (.iload_n 2, 1) := by decide +kernel
theorem dL_holds_167 : decode cL_holds 167 = .ok (.iload 4, 2) := by decide +kernel
theorem dL_holds_169 : decode cL_holds 169 = .ok (.iconst 0, 1) := by decide +kernel
theorem dL_holds_170 : decode cL_holds 170 = .ok (.invokevirtual 28, 3) := by decide +kernel
theorem dL_holds_173 : decode cL_holds 173 = .ok (.ifCond .ne 7, 3) := by decide +kernel
theorem dL_holds_176 : decode cL_holds 176 = .ok (.iconst 1, 1) := by decide +kernel
theorem dL_holds_177 : decode cL_holds 177 = .ok (.goto 4, 3) := by decide +kernel
theorem dL_holds_180 : decode cL_holds 180 = .ok (.iconst 0, 1) := by decide +kernel
theorem dL_holds_181 : decode cL_holds 181 = .ok (.if_icmp .ne 75, 3) := by decide +kernel
theorem dL_holds_184 : decode cL_holds 184 = .ok (.aload_n 0, 1) := by decide +kernel
theorem dL_holds_185 : decode cL_holds 185 = .ok (.iload_n 2, 1) := by decide +kernel
theorem dL_holds_186 : decode cL_holds 186 = .ok (.iload 4, 2) := by decide +kernel
theorem dL_holds_188 : decode cL_holds 188 = .ok (.invokevirtual 19, 3) := by decide +kernel
theorem dL_holds_191 : decode cL_holds 191 = .ok (.ifCond .ge 7, 3) := by decide +kernel
theorem dL_holds_194 : decode cL_holds 194 = .ok (.iconst 1, 1) := by decide +kernel
theorem dL_holds_195 : decode cL_holds 195 = .ok (.goto 4, 3) := by decide +kernel
theorem dL_holds_198 : decode cL_holds 198 = .ok (.iconst 0, 1) := by decide +kernel
theorem dL_holds_199 : decode cL_holds 199 = .ok (.aload_n 0, 1) := by decide +kernel
theorem dL_holds_200 : decode cL_holds 200 = .ok (.iload_n 2, 1) := by decide +kernel
theorem dL_holds_201 : decode cL_holds 201 = .ok (.iload 4, 2) := by decide +kernel
theorem dL_holds_203 : decode cL_holds 203 = .ok (.iconst 2, 1) := by decide +kernel
theorem dL_holds_204 : decode cL_holds 204 = .ok (.invokevirtual 28, 3) := by decide +kernel
theorem dL_holds_207 : decode cL_holds 207 = .ok (.ifCond .ne 7, 3) := by decide +kernel
theorem dL_holds_210 : decode cL_holds 210 = .ok (.iconst 1, 1) := by decide +kernel
theorem dL_holds_211 : decode cL_holds 211 = .ok (.goto 4, 3) := by decide +kernel
theorem dL_holds_214 : decode cL_holds 214 = .ok (.iconst 0, 1) := by decide +kernel
theorem dL_holds_215 : decode cL_holds 215 = .ok (.if_icmp .ne 41, 3) := by decide +kernel
theorem dL_holds_218 : decode cL_holds 218 = .ok (.aload_n 0, 1) := by decide +kernel
theorem dL_holds_219 : decode cL_holds 219 = .ok (.iload_n 2, 1) := by decide +kernel
theorem dL_holds_220 : decode cL_holds 220 = .ok (.iload 4, 2) := by decide +kernel
theorem dL_holds_222 : decode cL_holds 222 = .ok (.invokevirtual 25, 3) := by decide +kernel
theorem dL_holds_225 : decode cL_holds 225 = .ok (.ifCond .ne 7, 3) := by decide +kernel
theorem dL_holds_228 : decode cL_holds 228 = .ok (.iconst 1, 1) := by decide +kernel
theorem dL_holds_229 : decode cL_holds 229 = .ok (.goto 4, 3) := by decide +kernel
theorem dL_holds_232 : decode cL_holds 232 = .ok (.iconst 0, 1) := by decide +kernel
theorem dL_holds_233 : decode cL_holds 233 = .ok (.aload_n 0, 1) := by decide +kernel
theorem dL_holds_234 : decode cL_holds 234 = .ok (.iload_n 2, 1) := by decide +kernel
theorem dL_holds_235 : decode cL_holds 235 = .ok (.iload 4, 2) := by decide +kernel
theorem dL_holds_237 : decode cL_holds 237 = .ok (.iconst 4, 1) := by decide +kernel
theorem dL_holds_238 : decode cL_holds 238 = .ok (.invokevirtual 28, 3) := by decide +kernel
theorem dL_holds_241 : decode cL_holds 241 = .ok (.ifCond .ne 7, 3) := by decide +kernel
theorem dL_holds_244 : decode cL_holds 244 = .ok (.iconst 1, 1) := by decide +kernel
theorem dL_holds_245 : decode cL_holds 245 = .ok (.goto 4, 3) := by decide +kernel
theorem dL_holds_248 : decode cL_holds 248 = .ok (.iconst 0, 1) := by decide +kernel
theorem dL_holds_249 : decode cL_holds 249 = .ok (.if_icmp .ne 7, 3) := by decide +kernel
theorem dL_holds_252 : decode cL_holds 252 = .ok (.iconst 1, 1) := by decide +kernel
theorem dL_holds_253 : decode cL_holds 253 = .ok (.goto 4, 3) := by decide +kernel
theorem dL_holds_256 : decode cL_holds 256 = .ok (.iconst 0, 1) := by decide +kernel
theorem dL_holds_257 : decode cL_holds 257 = .ok (.istore_n 1, 1) := by decide +kernel
theorem dL_holds_258 : decode cL_holds 258 = .ok (.iinc 4 1, 3) := by decide +kernel
theorem dL_holds_261 : decode cL_holds 261 = .ok (.goto (-223), 3) := by decide +kernel
theorem dL_holds_264 : decode cL_holds 264 = .ok (.iconst 0, 1) := by decide +kernel
theorem dL_holds_265 : decode cL_holds 265 = .ok (.istore 4, 2) := by decide +kernel
theorem dL_holds_267 : decode cL_holds 267 = .ok (.iload 4, 2) := by decide +kernel
theorem dL_holds_269 : decode cL_holds 269 = .ok (.iconst 4, 1) := by decide +kernel
theorem dL_holds_270 : decode cL_holds 270 = .ok (.if_icmp .ge 134, 3) := by decide +kernel
theorem dL_holds_273 : decode cL_holds 273 = .ok (.aload_n 0, 1) := by decide +kernel
theorem dL_holds_274 : decode cL_holds 274 = .ok (.iload_n 2, 1) := by decide +kernel
theorem dL_holds_275 : decode cL_holds 275 = .ok (.iload 4, 2) := by decide +kernel
theorem dL_holds_277 : decode cL_holds 277 = .ok (.invokevirtual 87, 3) := by decide +kernel
theorem dL_holds_280 : decode cL_holds 280 = .ok (.istore 5, 2) := by decide +kernel
theorem dL_holds_282 : decode cL_holds 282 = .ok (.aload_n 0, 1) := by decide +kernel
theorem dL_holds_283 : decode cL_holds 283 = .ok (.iload 4, 2) := by decide +kernel
theorem dL_holds_285 : decode cL_holds 285 = .ok (.iload_n 2, 1) := by decide +kernel
theorem dL_holds_286 : decode cL_holds 286 = .ok (.invokevirtual 87, 3) := by decide +kernel
theorem dL_holds_289 : decode cL_holds 289 = .ok (.istore 6, 2) := by decide +kernel
theorem dL_holds_291 : decode cL_holds 291 = .ok (.iload_n 1, 1) := by decide +kernel
theorem dL_holds_292 : decode cL_holds 292 = .ok (.ifCond .eq 104, 3) := by decide +kernel
theorem dL_holds_295 : decode cL_holds 295 = .ok (.aload_n 0, 1) := by decide +kernel
theorem dL_holds_296 : decode cL_holds 296 = .ok (.iload_n 2, 1) := by decide +kernel
theorem dL_holds_297 : decode cL_holds 297 = .ok (.iload 4, 2) := by decide +kernel
theorem dL_holds_299 : decode cL_holds 299 = .ok (.invokevirtual 47, 3) := by decide +kernel
theorem dL_holds_302 : decode cL_holds 302 = .ok (.aload_n 0, 1) := by decide +kernel
theorem dL_holds_303 : decode cL_holds 303 = .ok (.iload 4, 2) := by decide +kernel
theorem dL_holds_305 : decode cL_holds 305 = .ok (.iload 4, 2) := by decide +kernel
theorem dL_holds_307 : decode cL_holds 307 = .ok (.invokevirtual 47, 3) := by decide +kernel
theorem dL_holds_310 : decode cL_holds 310 = .ok (.if_icmp .gt 86, 3) := by decide +kernel
theorem dL_holds_313 : decode cL_holds 313 = .ok (.iload 5, 2) := by decide +kernel
theorem dL_holds_315 : decode cL_holds 315 = .ok (.iconst 1, 1) := by decide +kernel
theorem dL_holds_316 : decode cL_holds 316 = .ok (.if_icmp .ne 7, 3) := by decide +kernel
theorem dL_holds_319 : decode cL_holds 319 = .ok (.iconst 1, 1) := by decide +kernel
theorem dL_holds_320 : decode cL_holds 320 = .ok (.goto 4, 3) := by decide +kernel
theorem dL_holds_323 : decode cL_holds 323 = .ok (.iconst 0, 1) := by decide +kernel
theorem dL_holds_324 : decode cL_holds 324 = .ok (.iload 6, 2) := by decide +kernel
theorem dL_holds_326 : decode cL_holds 326 = .ok (.iconst 2, 1) := by decide +kernel
theorem dL_holds_327 : decode cL_holds 327 = .ok (.if_icmp .ne 7, 3) := by decide +kernel
theorem dL_holds_330 : decode cL_holds 330 = .ok (.iconst 1, 1) := by decide +kernel
theorem dL_holds_331 : decode cL_holds 331 = .ok (.goto 4, 3) := by decide +kernel
theorem dL_holds_334 : decode cL_holds 334 = .ok (.iconst 0, 1) := by decide +kernel
theorem dL_holds_335 : decode cL_holds 335 = .ok (.if_icmp .ne 61, 3) := by decide +kernel
theorem dL_holds_338 : decode cL_holds 338 = .ok (.iload 5, 2) := by decide +kernel
theorem dL_holds_340 : decode cL_holds 340 = .ok (.ifCond .ne 7, 3) := by decide +kernel
theorem dL_holds_343 : decode cL_holds 343 = .ok (.iconst 1, 1) := by decide +kernel
theorem dL_holds_344 : decode cL_holds 344 = .ok (.goto 4, 3) := by decide +kernel
theorem dL_holds_347 : decode cL_holds 347 = .ok (.iconst 0, 1) := by decide +kernel
theorem dL_holds_348 : decode cL_holds 348 = .ok (.iload 6, 2) := by decide +kernel
theorem dL_holds_350 : decode cL_holds 350 = .ok (.ifCond .ne 7, 3) := by decide +kernel
theorem dL_holds_353 : decode cL_holds 353 = .ok (.iconst 1, 1) := by decide +kernel
theorem dL_holds_354 : decode cL_holds 354 = .ok (.goto 4, 3) := by decide +kernel
theorem dL_holds_357 : decode cL_holds 357 = .ok (.iconst 0, 1) := by decide +kernel
theorem dL_holds_358 : decode cL_holds 358 = .ok (.if_icmp .ne 38, 3) := by decide +kernel
theorem dL_holds_361 : decode cL_holds 361 = .ok (.iload 5, 2) := by decide +kernel
theorem dL_holds_363 : decode cL_holds 363 = .ok (.ifCond .ne 18, 3) := by decide +kernel
theorem dL_holds_366 : decode cL_holds 366 = .ok (.aload_n 0, 1) := by decide +kernel
theorem dL_holds_367 : decode cL_holds 367 = .ok (.iload_n 2, 1) := by decide +kernel
theorem dL_holds_368 : decode cL_holds 368 = .ok (.invokestatic 37, 3) := by decide +kernel
theorem dL_holds_371 : decode cL_holds 371 = .ok (.aload_n 0, 1) := by decide +kernel
theorem dL_holds_372 : decode cL_holds 372 = .ok (.iload 4, 2) := by decide +kernel
theorem dL_holds_374 : decode cL_holds 374 = .ok (.invokestatic 37, 3) := by decide +kernel
theorem dL_holds_377 : decode cL_holds 377 = .ok (.lcmp, 1) := by decide +kernel
theorem dL_holds_378 : decode cL_holds 378 = .ok (.ifCond .ne 18, 3) := by decide +kernel
theorem dL_holds_381 : decode cL_holds 381 = .ok (.iload_n 2, 1) := by decide +kernel
theorem dL_holds_382 : decode cL_holds 382 = .ok (.iload 4, 2) := by decide +kernel
theorem dL_holds_384 : decode cL_holds 384 = .ok (.if_icmp .ne 8, 3) := by decide +kernel
theorem dL_holds_387 : decode cL_holds 387 = .ok (.iload 5, 2) := by decide +kernel
theorem dL_holds_389 : decode cL_holds 389 = .ok (.ifCond .ne 7, 3) := by decide +kernel
theorem dL_holds_392 : decode cL_holds 392 = .ok (.iconst 1, 1) := by decide +kernel
theorem dL_holds_393 : decode cL_holds 393 = .ok (.goto 4, 3) := by decide +kernel
theorem dL_holds_396 : decode cL_holds 396 = .ok (.iconst 0, 1) := by decide +kernel
theorem dL_holds_397 : decode cL_holds 397 = .ok (.istore_n 1, 1) := by decide +kernel
theorem dL_holds_398 : decode cL_holds 398 = .ok (.iinc 4 1, 3) := by decide +kernel
theorem dL_holds_401 : decode cL_holds 401 = .ok (.goto (-134), 3) := by decide +kernel
theorem dL_holds_404 : decode cL_holds 404 = .ok (.iload_n 1, 1) := by decide +kernel
theorem dL_holds_405 : decode cL_holds 405 = .ok (.ifCond .eq 16, 3) := by decide +kernel
theorem dL_holds_408 : decode cL_holds 408 = .ok (.aload_n 0, 1) := by decide +kernel
theorem dL_holds_409 : decode cL_holds 409 = .ok (.iload_n 2, 1) := by decide +kernel
theorem dL_holds_410 : decode cL_holds 410 = .ok (.invokevirtual 93, 3) := by decide +kernel
theorem dL_holds_413 : decode cL_holds 413 = .ok (.iload_n 3, 1) := by decide +kernel
theorem dL_holds_414 : decode cL_holds 414 = .ok (.if_icmp .ne 7, 3) := by decide +kernel
theorem dL_holds_417 : decode cL_holds 417 = .ok (.iconst 1, 1) := by decide +kernel
theorem dL_holds_418 : decode cL_holds 418 = .ok (.goto 4, 3) := by decide +kernel
theorem dL_holds_421 : decode cL_holds 421 = .ok (.iconst 0, 1) := by decide +kernel
theorem dL_holds_422 : decode cL_holds 422 = .ok (.istore_n 1, 1) := by decide +kernel
theorem dL_holds_423 : decode cL_holds 423 = .ok (.iinc 2 1, 3) := by decide +kernel
theorem dL_holds_426 : decode cL_holds 426 = .ok (.goto (-422), 3) := by decide +kernel
theorem dL_holds_429 : decode cL_holds 429 = .ok (.aload_n 0, 1) := by decide +kernel
theorem dL_holds_430 : decode cL_holds 430 = .ok (.invokevirtual 96, 3) := by decide +kernel
theorem dL_holds_433 : decode cL_holds 433 = .ok (.ldc2_w 100, 3) := by decide +kernel
theorem dL_holds_436 : decode cL_holds 436 = .ok (.dmul, 1) := by decide +kernel
theorem dL_holds_437 : decode cL_holds 437 = .ok (.dstore_n 2, 1) := by decide +kernel
theorem dL_holds_438 : decode cL_holds 438 = .ok (.iload_n 1, 1) := by decide +kernel
theorem dL_holds_439 : decode cL_holds 439 = .ok (.ifCond .eq 21, 3) := by decide +kernel
theorem dL_holds_442 : decode cL_holds 442 = .ok (.dload_n 2, 1) := by decide +kernel
theorem dL_holds_443 : decode cL_holds 443 = .ok (.dconst 0, 1) := by decide +kernel
theorem dL_holds_444 : decode cL_holds 444 = .ok (.dcmp .l, 1) := by decide +kernel
theorem dL_holds_445 : decode cL_holds 445 = .ok (.ifCond .lt 15, 3) := by decide +kernel
theorem dL_holds_448 : decode cL_holds 448 = .ok (.dload_n 2, 1) := by decide +kernel
theorem dL_holds_449 : decode cL_holds 449 = .ok (.ldc2_w 102, 3) := by decide +kernel
theorem dL_holds_452 : decode cL_holds 452 = .ok (.dcmp .g, 1) := by decide +kernel
theorem dL_holds_453 : decode cL_holds 453 = .ok (.ifCond .gt 7, 3) := by decide +kernel
theorem dL_holds_456 : decode cL_holds 456 = .ok (.iconst 1, 1) := by decide +kernel
theorem dL_holds_457 : decode cL_holds 457 = .ok (.goto 4, 3) := by decide +kernel
theorem dL_holds_460 : decode cL_holds 460 = .ok (.iconst 0, 1) := by decide +kernel
theorem dL_holds_461 : decode cL_holds 461 = .ok (.ireturn, 1) := by decide +kernel
set_option maxRecDepth 20000 in
theorem ggL_isKept_L_told : GoodIn wsL_isKept wsL_told := goodIn_ca (goodIn_ca (goodIn_r _ [4, 5, 6, 7, 8, 3, 9, 10, 11, 12, 13, 14, 15, 16, 17, 18, 19, 20, 21, 22, 23, 24, 25, 26, 27, 28, 29, 30, 31, 32, 33, 34, 35, 36, 37, 38, 39, 40, 41, 42, 43, 44, 45, 46, 47, 48, 49, 50, 51, 52, 53, 54, 55, 56, 57, 58, 59, 60, 61, 62, 63, 64, 65, 66, 67, 68, 69, 70, 71, 72, 73, 74, 75, 76, 77, 78, 79, 80, 81, 82, 83, 84, 85, 86, 87, 88, 89, 90, 91, 92, 93, 94, 95, 96, 97, 98, 99, 100, 101, 102, 103, 104, 105, 106, 107, 108, 109, 110, 111, 112, 232, 233, 234, 235, 236, 237, 238, 239, 240] (by decide +kernel) (by decide +kernel)) (goodIn_sub (fun _ h => List.mem_cons_of_mem _ (List.mem_append_left _ (List.mem_append_left _ (List.mem_append_right _ h)))) (by decide +kernel))) (goodIn_sub (fun _ h => List.mem_cons_of_mem _ (List.mem_append_left _ (List.mem_append_right _ h))) (by decide +kernel))
set_option maxRecDepth 20000 in
theorem gL_isKept_L_told : GoodIn wsL_isKept (va_wsS RL 104 yL_told wsL_told) := goodIn_app (goodIn_of _ (by decide +kernel)) ggL_isKept_L_told
set_option maxRecDepth 20000 in
theorem ggL_isKept_X3_merge : GoodIn wsL_isKept wsX3_merge := goodIn_ca (goodIn_ca (goodIn_r _ [116, 117, 16, 17, 18, 14, 19, 20, 21, 118, 119, 120, 111, 112, 121, 122, 123, 124, 125, 126, 127, 128, 129, 130, 28, 131, 132, 133, 134, 135, 136, 30, 31, 32, 106, 137, 138, 139, 140, 141, 142, 143, 144, 145, 146, 147, 148, 149, 150, 151, 152, 153, 154, 155, 156, 157, 158, 159, 103, 104, 105, 160, 161, 162, 163, 164, 165, 166, 167, 168, 169, 170, 171, 172, 173, 174, 175, 50, 51, 52, 53, 232, 233, 234, 241, 242, 243, 235, 236, 237, 238, 239, 240] (by decide +kernel) (by decide +kernel)) (goodIn_sub (fun _ h => List.mem_cons_of_mem _ (List.mem_append_left _ (List.mem_append_left _ (List.mem_append_right _ h)))) (by decide +kernel))) (goodIn_sub (fun _ h => List.mem_cons_of_mem _ (List.mem_append_left _ (List.mem_append_right _ h))) (by decide +kernel))
set_option maxRecDepth 20000 in
theorem gL_isKept_X3_merge : GoodIn wsL_isKept (wsV RL 90 RX3 yX3_merge wsX3_merge) := goodIn_app (goodIn_of _ (by decide +kernel)) ggL_isKept_X3_merge
set_option maxRecDepth 20000 in
theorem ggL_isKept_X3_relation : GoodIn wsL_isKept wsX3_relation := goodIn_ca (goodIn_r _ [179, 16, 17, 18, 14, 19, 20, 21, 180, 181, 182, 28, 183, 159, 103, 104, 105, 106, 232, 233, 234, 235, 236, 237, 238, 239, 240] (by decide +kernel) (by decide +kernel)) (goodIn_sub (fun _ h => List.mem_cons_of_mem _ (List.mem_append_left _ (List.mem_append_left _ (List.mem_append_right _ h)))) (by decide +kernel))
set_option maxRecDepth 20000 in
theorem gL_isKept_X3_relation : GoodIn wsL_isKept (wsV RL 87 RX3 yX3_relation wsX3_relation) := goodIn_app (goodIn_of _ (by decide +kernel)) ggL_isKept_X3_relation
set_option maxRecDepth 20000 in
theorem ggL_isKept_X3_include : GoodIn wsL_isKept wsX3_include := goodIn_ca (goodIn_ca (goodIn_r _ [187, 117, 16, 17, 18, 14, 19, 20, 21, 22, 23, 24, 188, 189, 190, 111, 112, 121, 122, 123, 124, 125, 126, 127, 128, 129, 130, 28, 131, 132, 133, 134, 135, 136, 30, 31, 32, 106, 137, 138, 139, 140, 141, 142, 143, 144, 145, 146, 191, 192, 193, 194, 195, 196, 197, 198, 199, 200, 201, 202, 203, 204, 205, 36, 37, 38, 206, 207, 208, 209, 78, 79, 80, 81, 210, 211, 212, 213, 159, 103, 104, 105, 232, 233, 234, 241, 242, 243, 235, 236, 237, 238, 239, 240] (by decide +kernel) (by decide +kernel)) (goodIn_sub (fun _ h => List.mem_cons_of_mem _ (List.mem_append_left _ (List.mem_append_left _ (List.mem_append_right _ h)))) (by decide +kernel))) (goodIn_sub (fun _ h => List.mem_cons_of_mem _ (List.mem_append_left _ (List.mem_append_right _ h))) (by decide +kernel))
set_option maxRecDepth 20000 in
theorem gL_isKept_X3_include : GoodIn wsL_isKept (wsV RL 71 RX3 yX3_include wsX3_include) := goodIn_app (goodIn_of _ (by decide +kernel)) ggL_isKept_X3_include
set_option maxRecDepth 20000 in
theorem ggL_isKept_X3_exclude : GoodIn wsL_isKept wsX3_exclude := goodIn_ca (goodIn_ca (goodIn_r _ [217, 117, 16, 17, 18, 14, 19, 20, 21, 22, 23, 24, 188, 189, 190, 111, 112, 121, 122, 123, 124, 125, 126, 127, 128, 129, 130, 28, 131, 132, 133, 134, 135, 136, 30, 31, 32, 106, 137, 138, 139, 140, 141, 142, 143, 144, 145, 146, 218, 219, 220, 221, 195, 196, 197, 198, 199, 200, 201, 202, 203, 204, 205, 36, 37, 38, 206, 207, 208, 209, 78, 79, 80, 81, 232, 233, 234, 241, 242, 243, 235, 236, 237, 238, 239, 240] (by decide +kernel) (by decide +kernel)) (goodIn_sub (fun _ h => List.mem_cons_of_mem _ (List.mem_append_left _ (List.mem_append_left _ (List.mem_append_right _ h)))) (by decide +kernel))) (goodIn_sub (fun _ h => List.mem_cons_of_mem _ (List.mem_append_left _ (List.mem_append_right _ h))) (by decide +kernel))
set_option maxRecDepth 20000 in
theorem gL_isKept_X3_exclude : GoodIn wsL_isKept (wsV RL 74 RX3 yX3_exclude wsX3_exclude) := goodIn_app (goodIn_of _ (by decide +kernel)) ggL_isKept_X3_exclude
set_option maxRecDepth 20000 in
theorem ggL_isKept_X3_elements : GoodIn wsL_isKept wsX3_elements := goodIn_ca (goodIn_r _ [65, 16, 17, 18, 14, 19, 20, 21, 22, 23, 24, 66, 67, 68, 28, 69, 30, 32, 39, 40, 41, 36, 37, 38, 33, 34, 35, 232, 233, 234, 235, 236, 237, 238, 239, 240] (by decide +kernel) (by decide +kernel)) (goodIn_sub (fun _ h => List.mem_cons_of_mem _ (List.mem_append_left _ (List.mem_append_left _ (List.mem_append_right _ h)))) (by decide +kernel))
set_option maxRecDepth 20000 in
theorem gL_isKept_X3_elements : GoodIn wsL_isKept (wsV RL 25 RX3 yX3_elements wsX3_elements) := goodIn_app (goodIn_of _ (by decide +kernel)) ggL_isKept_X3_elements
set_option maxRecDepth 20000 in
theorem ggL_isKept_X3_undo : GoodIn wsL_isKept wsX3_undo := goodIn_ca (goodIn_r _ [225, 226, 227, 117, 16, 228, 229, 230, 124, 231, 126, 128, 127, 139, 140, 141, 28, 142, 30, 143, 144, 145, 146, 31, 32, 106, 137, 138, 232, 233, 234, 241, 242, 243, 235, 236, 237, 238, 239, 240] (by decide +kernel) (by decide +kernel)) (goodIn_sub (fun _ h => List.mem_cons_of_mem _ (List.mem_append_right _ h)) (by decide +kernel))
set_option maxRecDepth 20000 in
theorem gL_isKept_X3_undo : GoodIn wsL_isKept (wsV RL 108 RX3 yX3_undo wsX3_undo) := goodIn_app (goodIn_of _ (by decide +kernel)) ggL_isKept_X3_undo
theorem dL_isKept_0 : decode cL_isKept 0 = .ok (.aload_n 0, 1) := by decide +kernel
theorem dL_isKept_1 : decode cL_isKept 1 = .ok (.invokestatic 104, 3) := by decide +kernel
theorem dL_isKept_4 : decode cL_isKept 4 = .ok (.lstore 4, 2) := by decide +kernel
theorem dL_isKept_6 : decode cL_isKept 6 = .ok (.aload_n 0, 1) := by decide +kernel
theorem dL_isKept_7 : decode cL_isKept 7 = .ok (.iload_n 1, 1) := by decide +kernel
theorem dL_isKept_8 : decode cL_isKept 8 = .ok (.iload_n 2, 1) := by decide +kernel
theorem dL_isKept_9 : decode cL_isKept 9 = .ok (.invokevirtual 90, 3) := by decide +kernel
theorem dL_isKept_12 : decode cL_isKept 12 = .ok (.ifCond .lt 25, 3) := by decide +kernel
theorem dL_isKept_15 : decode cL_isKept 15 = .ok (.aload_n 0, 1) := by decide +kernel
theorem dL_isKept_16 : decode cL_isKept 16 = .ok (.iload_n 2, 1) := by decide +kernel
theorem dL_isKept_17 : decode cL_isKept 17 = .ok (.iload_n 1, 1) := by decide +kernel
theorem dL_isKept_18 : decode cL_isKept 18 = .ok (.invokevirtual 90, 3) := by decide +kernel
theorem dL_isKept_21 : decode cL_isKept 21 = .ok (.ifCond .lt 16, 3) := by decide +kernel
theorem dL_isKept_24 : decode cL_isKept 24 = .ok (.aload_n 0, 1) := by decide +kernel
theorem dL_isKept_25 : decode cL_isKept 25 = .ok (.iload_n 1, 1) := by decide +kernel
theorem dL_isKept_26 : decode cL_isKept 26 = .ok (.iload_n 2, 1) := by decide +kernel
theorem dL_isKept_27 : decode cL_isKept 27 = .ok (.invokevirtual 87, 3) := by decide +kernel
theorem dL_isKept_30 : decode cL_isKept 30 = .ok (.ifCond .ne 7, 3) := by decide +kernel
theorem dL_isKept_33 : decode cL_isKept 33 = .ok (.iconst 1, 1) := by decide +kernel
theorem dL_isKept_34 : decode cL_isKept 34 = .ok (.goto 4, 3) := by decide +kernel
theorem dL_isKept_37 : decode cL_isKept 37 = .ok (.iconst 0, 1) := by decide +kernel
theorem dL_isKept_38 : decode cL_isKept 38 = .ok (.istore 6, 2) := by decide +kernel
theorem dL_isKept_40 : decode cL_isKept 40 = .ok (.aload_n 0, 1) := by decide +kernel
theorem dL_isKept_41 : decode cL_isKept 41 = .ok (.iload_n 1, 1) := by decide +kernel
theorem dL_isKept_42 : decode cL_isKept 42 = .ok (.iconst 0, 1) := by decide +kernel
theorem dL_isKept_43 : decode cL_isKept 43 = .ok (.iload_n 3, 1) := by decide +kernel
theorem dL_isKept_44 : decode cL_isKept 44 = .ok (.invokevirtual 71, 3) := by decide +kernel
theorem dL_isKept_47 : decode cL_isKept 47 = .ok (.aload_n 0, 1) := by decide +kernel
theorem dL_isKept_48 : decode cL_isKept 48 = .ok (.iload_n 2, 1) := by decide +kernel
theorem dL_isKept_49 : decode cL_isKept 49 = .ok (.iconst 0, 1) := by decide +kernel
theorem dL_isKept_50 : decode cL_isKept 50 = .ok (.iload_n 3, 1) := by decide +kernel
theorem dL_isKept_51 : decode cL_isKept 51 = .ok (.invokevirtual 74, 3) := by decide +kernel
theorem dL_isKept_54 : decode cL_isKept 54 = .ok (.iadd, 1) := by decide +kernel
theorem dL_isKept_55 : decode cL_isKept 55 = .ok (.istore 7, 2) := by decide +kernel
theorem dL_isKept_57 : decode cL_isKept 57 = .ok (.iload 6, 2) := by decide +kernel
theorem dL_isKept_59 : decode cL_isKept 59 = .ok (.ifCond .eq 58, 3) := by decide +kernel
theorem dL_isKept_62 : decode cL_isKept 62 = .ok (.iload 7, 2) := by decide +kernel
theorem dL_isKept_64 : decode cL_isKept 64 = .ok (.ifCond .lt 53, 3) := by decide +kernel
theorem dL_isKept_67 : decode cL_isKept 67 = .ok (.aload_n 0, 1) := by decide +kernel
theorem dL_isKept_68 : decode cL_isKept 68 = .ok (.iload_n 1, 1) := by decide +kernel
theorem dL_isKept_69 : decode cL_isKept 69 = .ok (.iload_n 2, 1) := by decide +kernel
theorem dL_isKept_70 : decode cL_isKept 70 = .ok (.invokevirtual 90, 3) := by decide +kernel
theorem dL_isKept_73 : decode cL_isKept 73 = .ok (.ifCond .lt 44, 3) := by decide +kernel
theorem dL_isKept_76 : decode cL_isKept 76 = .ok (.aload_n 0, 1) := by decide +kernel
theorem dL_isKept_77 : decode cL_isKept 77 = .ok (.iload_n 2, 1) := by decide +kernel
theorem dL_isKept_78 : decode cL_isKept 78 = .ok (.iload_n 1, 1) := by decide +kernel
theorem dL_isKept_79 : decode cL_isKept 79 = .ok (.invokevirtual 90, 3) := by decide +kernel
theorem dL_isKept_82 : decode cL_isKept 82 = .ok (.ifCond .lt 35, 3) := by decide +kernel
theorem dL_isKept_85 : decode cL_isKept 85 = .ok (.aload_n 0, 1) := by decide +kernel
theorem dL_isKept_86 : decode cL_isKept 86 = .ok (.iload_n 1, 1) := by decide +kernel
theorem dL_isKept_87 : decode cL_isKept 87 = .ok (.iconst 0, 1) := by decide +kernel
theorem dL_isKept_88 : decode cL_isKept 88 = .ok (.invokevirtual 25, 3) := by decide +kernel
theorem dL_isKept_91 : decode cL_isKept 91 = .ok (.iload_n 3, 1) := by decide +kernel
