theorem dL_acts_235 : decode cL_acts 235 = .ok (.iconst 3, 1) := by decide +kernel
theorem dL_acts_236 : decode cL_acts 236 = .ok (.iconst (-1), 1) := by decide +kernel
theorem dL_acts_237 : decode cL_acts 237 = .ok (.iconst 0, 1) := by decide +kernel
theorem dL_acts_238 : decode cL_acts 238 = .ok (.iconst 0, 1) := by decide +kernel
theorem dL_acts_239 : decode cL_acts 239 = .ok (.iconst 0, 1) := by decide +kernel
theorem dL_acts_240 : decode cL_acts 240 = .ok (.invokestatic 135, 3) := by decide +kernel
theorem dL_acts_243 : decode cL_acts 243 = .ok (.ldc 18, 2) := by decide +kernel
theorem dL_acts_245 : decode cL_acts 245 = .ok (.if_icmp .ne 72, 3) := by decide +kernel
theorem dL_acts_248 : decode cL_acts 248 = .ok (.aload_n 0, 1) := by decide +kernel
theorem dL_acts_249 : decode cL_acts 249 = .ok (.iload 10, 2) := by decide +kernel
theorem dL_acts_251 : decode cL_acts 251 = .ok (.sipush 10001, 3) := by decide +kernel
theorem dL_acts_254 : decode cL_acts 254 = .ok (.iconst 0, 1) := by decide +kernel
theorem dL_acts_255 : decode cL_acts 255 = .ok (.iconst 0, 1) := by decide +kernel
theorem dL_acts_256 : decode cL_acts 256 = .ok (.iconst 0, 1) := by decide +kernel
theorem dL_acts_257 : decode cL_acts 257 = .ok (.invokestatic 135, 3) := by decide +kernel
theorem dL_acts_260 : decode cL_acts 260 = .ok (.ldc 21, 2) := by decide +kernel
theorem dL_acts_262 : decode cL_acts 262 = .ok (.if_icmp .ne 55, 3) := by decide +kernel
theorem dL_acts_265 : decode cL_acts 265 = .ok (.aload_n 0, 1) := by decide +kernel
theorem dL_acts_266 : decode cL_acts 266 = .ok (.iload 10, 2) := by decide +kernel
theorem dL_acts_268 : decode cL_acts 268 = .ok (.iconst 0, 1) := by decide +kernel
theorem dL_acts_269 : decode cL_acts 269 = .ok (.bipush 7, 2) := by decide +kernel
theorem dL_acts_271 : decode cL_acts 271 = .ok (.iconst 0, 1) := by decide +kernel
theorem dL_acts_272 : decode cL_acts 272 = .ok (.iconst 0, 1) := by decide +kernel
theorem dL_acts_273 : decode cL_acts 273 = .ok (.invokestatic 135, 3) := by decide +kernel
theorem dL_acts_276 : decode cL_acts 276 = .ok (.ldc 21, 2) := by decide +kernel
theorem dL_acts_278 : decode cL_acts 278 = .ok (.if_icmp .ne 39, 3) := by decide +kernel
theorem dL_acts_281 : decode cL_acts 281 = .ok (.aload_n 0, 1) := by decide +kernel
theorem dL_acts_282 : decode cL_acts 282 = .ok (.iload 10, 2) := by decide +kernel
theorem dL_acts_284 : decode cL_acts 284 = .ok (.iconst 0, 1) := by decide +kernel
theorem dL_acts_285 : decode cL_acts 285 = .ok (.iconst 0, 1) := by decide +kernel
theorem dL_acts_286 : decode cL_acts 286 = .ok (.bipush 30, 2) := by decide +kernel
theorem dL_acts_288 : decode cL_acts 288 = .ok (.iconst 0, 1) := by decide +kernel
theorem dL_acts_289 : decode cL_acts 289 = .ok (.invokestatic 135, 3) := by decide +kernel
theorem dL_acts_292 : decode cL_acts 292 = .ok (.ldc 21, 2) := by decide +kernel
theorem dL_acts_294 : decode cL_acts 294 = .ok (.if_icmp .ne 23, 3) := by decide +kernel
theorem dL_acts_297 : decode cL_acts 297 = .ok (.aload_n 0, 1) := by decide +kernel
theorem dL_acts_298 : decode cL_acts 298 = .ok (.iload 10, 2) := by decide +kernel
theorem dL_acts_300 : decode cL_acts 300 = .ok (.iconst 0, 1) := by decide +kernel
theorem dL_acts_301 : decode cL_acts 301 = .ok (.iconst 0, 1) := by decide +kernel
theorem dL_acts_302 : decode cL_acts 302 = .ok (.iconst 0, 1) := by decide +kernel
theorem dL_acts_303 : decode cL_acts 303 = .ok (.bipush 101, 2) := by decide +kernel
theorem dL_acts_305 : decode cL_acts 305 = .ok (.invokestatic 135, 3) := by decide +kernel
theorem dL_acts_308 : decode cL_acts 308 = .ok (.ldc 21, 2) := by decide +kernel
theorem dL_acts_310 : decode cL_acts 310 = .ok (.if_icmp .ne 7, 3) := by decide +kernel
theorem dL_acts_313 : decode cL_acts 313 = .ok (.iconst 1, 1) := by decide +kernel
theorem dL_acts_314 : decode cL_acts 314 = .ok (.goto 4, 3) := by decide +kernel
theorem dL_acts_317 : decode cL_acts 317 = .ok (.iconst 0, 1) := by decide +kernel
theorem dL_acts_318 : decode cL_acts 318 = .ok (.ireturn, 1) := by decide +kernel
theorem dL_acts_319 : decode cL_acts 319 = .ok (.iload 7, 2) := by decide +kernel
theorem dL_acts_321 : decode cL_acts 321 = .ok (.iconst 5, 1) := by decide +kernel
theorem dL_acts_322 : decode cL_acts 322 = .ok (.if_icmp .ge 309, 3) := by decide +kernel
theorem dL_acts_325 : decode cL_acts 325 = .ok (.bipush 9, 2) := by decide +kernel
theorem dL_acts_327 : decode cL_acts 327 = .ok (.iload 10, 2) := by decide +kernel
theorem dL_acts_329 : decode cL_acts 329 = .ok (.imul, 1) := by decide +kernel
theorem dL_acts_330 : decode cL_acts 330 = .ok (.istore 11, 2) := by decide +kernel
theorem dL_acts_332 : decode cL_acts 332 = .ok (.aload_n 2, 1) := by decide +kernel
theorem dL_acts_333 : decode cL_acts 333 = .ok (.iload 11, 2) := by decide +kernel
theorem dL_acts_335 : decode cL_acts 335 = .ok (.iconst 4, 1) := by decide +kernel
theorem dL_acts_336 : decode cL_acts 336 = .ok (.iadd, 1) := by decide +kernel
theorem dL_acts_337 : decode cL_acts 337 = .ok (.iload 6, 2) := by decide +kernel
theorem dL_acts_339 : decode cL_acts 339 = .ok (.iconst 5, 1) := by decide +kernel
theorem dL_acts_340 : decode cL_acts 340 = .ok (.invokestatic 132, 3) := by decide +kernel
theorem dL_acts_343 : decode cL_acts 343 = .ok (.iastore, 1) := by decide +kernel
theorem dL_acts_344 : decode cL_acts 344 = .ok (.aload_n 2, 1) := by decide +kernel
theorem dL_acts_345 : decode cL_acts 345 = .ok (.iload 11, 2) := by decide +kernel
theorem dL_acts_347 : decode cL_acts 347 = .ok (.iconst 5, 1) := by decide +kernel
theorem dL_acts_348 : decode cL_acts 348 = .ok (.iadd, 1) := by decide +kernel
theorem dL_acts_349 : decode cL_acts 349 = .ok (.iload 6, 2) := by decide +kernel
theorem dL_acts_351 : decode cL_acts 351 = .ok (.iconst 3, 1) := by decide +kernel
theorem dL_acts_352 : decode cL_acts 352 = .ok (.ishr, 1) := by decide +kernel
theorem dL_acts_353 : decode cL_acts 353 = .ok (.iconst 2, 1) := by decide +kernel
theorem dL_acts_354 : decode cL_acts 354 = .ok (.invokestatic 132, 3) := by decide +kernel
theorem dL_acts_357 : decode cL_acts 357 = .ok (.ifCond .ne 7, 3) := by decide +kernel
theorem dL_acts_360 : decode cL_acts 360 = .ok (.iconst 0, 1) := by decide +kernel
theorem dL_acts_361 : decode cL_acts 361 = .ok (.goto 14, 3) := by decide +kernel
theorem dL_acts_364 : decode cL_acts 364 = .ok (.iconst 1, 1) := by decide +kernel
theorem dL_acts_365 : decode cL_acts 365 = .ok (.iload 6, 2) := by decide +kernel
theorem dL_acts_367 : decode cL_acts 367 = .ok (.iconst 4, 1) := by decide +kernel
theorem dL_acts_368 : decode cL_acts 368 = .ok (.ishr, 1) := by decide +kernel
theorem dL_acts_369 : decode cL_acts 369 = .ok (.bipush 30, 2) := by decide +kernel
theorem dL_acts_371 : decode cL_acts 371 = .ok (.invokestatic 132, 3) := by decide +kernel
theorem dL_acts_374 : decode cL_acts 374 = .ok (.iadd, 1) := by decide +kernel
theorem dL_acts_375 : decode cL_acts 375 = .ok (.iastore, 1) := by decide +kernel
theorem dL_acts_376 : decode cL_acts 376 = .ok (.aload_n 2, 1) := by decide +kernel
theorem dL_acts_377 : decode cL_acts 377 = .ok (.iload 11, 2) := by decide +kernel
theorem dL_acts_379 : decode cL_acts 379 = .ok (.bipush 6, 2) := by decide +kernel
theorem dL_acts_381 : decode cL_acts 381 = .ok (.iadd, 1) := by decide +kernel
theorem dL_acts_382 : decode cL_acts 382 = .ok (.iload 6, 2) := by decide +kernel
theorem dL_acts_384 : decode cL_acts 384 = .ok (.bipush 9, 2) := by decide +kernel
theorem dL_acts_386 : decode cL_acts 386 = .ok (.ishr, 1) := by decide +kernel
theorem dL_acts_387 : decode cL_acts 387 = .ok (.iconst 2, 1) := by decide +kernel
theorem dL_acts_388 : decode cL_acts 388 = .ok (.invokestatic 132, 3) := by decide +kernel
theorem dL_acts_391 : decode cL_acts 391 = .ok (.iastore, 1) := by decide +kernel
theorem dL_acts_392 : decode cL_acts 392 = .ok (.aload_n 2, 1) := by decide +kernel
theorem dL_acts_393 : decode cL_acts 393 = .ok (.iload 11, 2) := by decide +kernel
theorem dL_acts_395 : decode cL_acts 395 = .ok (.bipush 7, 2) := by decide +kernel
theorem dL_acts_397 : decode cL_acts 397 = .ok (.iadd, 1) := by decide +kernel
theorem dL_acts_398 : decode cL_acts 398 = .ok (.iload 6, 2) := by decide +kernel
theorem dL_acts_400 : decode cL_acts 400 = .ok (.bipush 10, 2) := by decide +kernel
theorem dL_acts_402 : decode cL_acts 402 = .ok (.ishr, 1) := by decide +kernel
theorem dL_acts_403 : decode cL_acts 403 = .ok (.iconst 2, 1) := by decide +kernel
theorem dL_acts_404 : decode cL_acts 404 = .ok (.invokestatic 132, 3) := by decide +kernel
theorem dL_acts_407 : decode cL_acts 407 = .ok (.iastore, 1) := by decide +kernel
theorem dL_acts_408 : decode cL_acts 408 = .ok (.aload_n 2, 1) := by decide +kernel
theorem dL_acts_409 : decode cL_acts 409 = .ok (.iload 11, 2) := by decide +kernel
theorem dL_acts_411 : decode cL_acts 411 = .ok (.bipush 8, 2) := by decide +kernel
theorem dL_acts_413 : decode cL_acts 413 = .ok (.iadd, 1) := by decide +kernel
theorem dL_acts_414 : decode cL_acts 414 = .ok (.iload 6, 2) := by decide +kernel
theorem dL_acts_416 : decode cL_acts 416 = .ok (.bipush 11, 2) := by decide +kernel
theorem dL_acts_418 : decode cL_acts 418 = .ok (.ishr, 1) := by decide +kernel
theorem dL_acts_419 : decode cL_acts 419 = .ok (.iconst 2, 1) := by decide +kernel
theorem dL_acts_420 : decode cL_acts 420 = .ok (.invokestatic 132, 3) := by decide +kernel
theorem dL_acts_423 : decode cL_acts 423 = .ok (.iastore, 1) := by decide +kernel
theorem dL_acts_424 : decode cL_acts 424 = .ok (.aload_n 0, 1) := by decide +kernel
theorem dL_acts_425 : decode cL_acts 425 = .ok (.iload 10, 2) := by decide +kernel
theorem dL_acts_427 : decode cL_acts 427 = .ok (.aload_n 2, 1) := by decide +kernel
theorem dL_acts_428 : decode cL_acts 428 = .ok (.iload 11, 2) := by decide +kernel
theorem dL_acts_430 : decode cL_acts 430 = .ok (.iconst 4, 1) := by decide +kernel
theorem dL_acts_431 : decode cL_acts 431 = .ok (.iadd, 1) := by decide +kernel
theorem dL_acts_432 : decode cL_acts 432 = .ok (.iaload, 1) := by decide +kernel
theorem dL_acts_433 : decode cL_acts 433 = .ok (.aload_n 2, 1) := by decide +kernel
theorem dL_acts_434 : decode cL_acts 434 = .ok (.iload 11, 2) := by decide +kernel
theorem dL_acts_436 : decode cL_acts 436 = .ok (.iconst 5, 1) := by decide +kernel
theorem dL_acts_437 : decode cL_acts 437 = .ok (.iadd, 1) := by decide +kernel
theorem dL_acts_438 : decode cL_acts 438 = .ok (.iaload, 1) := by decide +kernel
theorem dL_acts_439 : decode cL_acts 439 = .ok (.aload_n 2, 1) := by decide +kernel
theorem dL_acts_440 : decode cL_acts 440 = .ok (.iload 11, 2) := by decide +kernel
theorem dL_acts_442 : decode cL_acts 442 = .ok (.bipush 6, 2) := by decide +kernel
theorem dL_acts_444 : decode cL_acts 444 = .ok (.iadd, 1) := by decide +kernel
theorem dL_acts_445 : decode cL_acts 445 = .ok (.iaload, 1) := by decide +kernel
theorem dL_acts_446 : decode cL_acts 446 = .ok (.iconst 1, 1) := by decide +kernel
theorem dL_acts_447 : decode cL_acts 447 = .ok (.if_icmp .ne 7, 3) := by decide +kernel
theorem dL_acts_450 : decode cL_acts 450 = .ok (.iconst 1, 1) := by decide +kernel
theorem dL_acts_451 : decode cL_acts 451 = .ok (.goto 4, 3) := by decide +kernel
theorem dL_acts_454 : decode cL_acts 454 = .ok (.iconst 0, 1) := by decide +kernel
theorem dL_acts_455 : decode cL_acts 455 = .ok (.aload_n 2, 1) := by decide +kernel
theorem dL_acts_456 : decode cL_acts 456 = .ok (.iload 11, 2) := by decide +kernel
theorem dL_acts_458 : decode cL_acts 458 = .ok (.bipush 7, 2) := by decide +kernel
theorem dL_acts_460 : decode cL_acts 460 = .ok (.iadd, 1) := by decide +kernel
theorem dL_acts_461 : decode cL_acts 461 = .ok (.iaload, 1) := by decide +kernel
