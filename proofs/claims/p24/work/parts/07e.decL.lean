theorem dL_runs_236 : decode cL_runs 236 = .ok (.iconst 4, 1) := by decide +kernel
theorem dL_runs_237 : decode cL_runs 237 = .ok (.if_icmp .ge 172, 3) := by decide +kernel
theorem dL_runs_240 : decode cL_runs 240 = .ok (.aload_n 0, 1) := by decide +kernel
theorem dL_runs_241 : decode cL_runs 241 = .ok (.iload 10, 2) := by decide +kernel
theorem dL_runs_243 : decode cL_runs 243 = .ok (.invokestatic 85, 3) := by decide +kernel
theorem dL_runs_246 : decode cL_runs 246 = .ok (.istore 11, 2) := by decide +kernel
theorem dL_runs_248 : decode cL_runs 248 = .ok (.aload 6, 2) := by decide +kernel
theorem dL_runs_250 : decode cL_runs 250 = .ok (.iload 10, 2) := by decide +kernel
theorem dL_runs_252 : decode cL_runs 252 = .ok (.iaload, 1) := by decide +kernel
theorem dL_runs_253 : decode cL_runs 253 = .ok (.ifCond .lt 28, 3) := by decide +kernel
theorem dL_runs_256 : decode cL_runs 256 = .ok (.iload 9, 2) := by decide +kernel
theorem dL_runs_258 : decode cL_runs 258 = .ok (.aload_n 3, 1) := by decide +kernel
theorem dL_runs_259 : decode cL_runs 259 = .ok (.iconst 4, 1) := by decide +kernel
theorem dL_runs_260 : decode cL_runs 260 = .ok (.aload 6, 2) := by decide +kernel
theorem dL_runs_262 : decode cL_runs 262 = .ok (.iload 10, 2) := by decide +kernel
theorem dL_runs_264 : decode cL_runs 264 = .ok (.iaload, 1) := by decide +kernel
theorem dL_runs_265 : decode cL_runs 265 = .ok (.bipush 100, 2) := by decide +kernel
theorem dL_runs_267 : decode cL_runs 267 = .ok (.idiv, 1) := by decide +kernel
theorem dL_runs_268 : decode cL_runs 268 = .ok (.imul, 1) := by decide +kernel
theorem dL_runs_269 : decode cL_runs 269 = .ok (.iaload, 1) := by decide +kernel
theorem dL_runs_270 : decode cL_runs 270 = .ok (.ishr, 1) := by decide +kernel
theorem dL_runs_271 : decode cL_runs 271 = .ok (.iconst 1, 1) := by decide +kernel
theorem dL_runs_272 : decode cL_runs 272 = .ok (.iand, 1) := by decide +kernel
theorem dL_runs_273 : decode cL_runs 273 = .ok (.iconst 1, 1) := by decide +kernel
theorem dL_runs_274 : decode cL_runs 274 = .ok (.if_icmp .ne 7, 3) := by decide +kernel
theorem dL_runs_277 : decode cL_runs 277 = .ok (.iconst 1, 1) := by decide +kernel
theorem dL_runs_278 : decode cL_runs 278 = .ok (.goto 4, 3) := by decide +kernel
theorem dL_runs_281 : decode cL_runs 281 = .ok (.iconst 0, 1) := by decide +kernel
theorem dL_runs_282 : decode cL_runs 282 = .ok (.istore 12, 2) := by decide +kernel
theorem dL_runs_284 : decode cL_runs 284 = .ok (.aload 6, 2) := by decide +kernel
theorem dL_runs_286 : decode cL_runs 286 = .ok (.iload 10, 2) := by decide +kernel
theorem dL_runs_288 : decode cL_runs 288 = .ok (.iaload, 1) := by decide +kernel
theorem dL_runs_289 : decode cL_runs 289 = .ok (.ifCond .lt 24, 3) := by decide +kernel
theorem dL_runs_292 : decode cL_runs 292 = .ok (.iload 5, 2) := by decide +kernel
theorem dL_runs_294 : decode cL_runs 294 = .ok (.aload 6, 2) := by decide +kernel
theorem dL_runs_296 : decode cL_runs 296 = .ok (.iload 10, 2) := by decide +kernel
theorem dL_runs_298 : decode cL_runs 298 = .ok (.iaload, 1) := by decide +kernel
theorem dL_runs_299 : decode cL_runs 299 = .ok (.bipush 100, 2) := by decide +kernel
theorem dL_runs_301 : decode cL_runs 301 = .ok (.idiv, 1) := by decide +kernel
theorem dL_runs_302 : decode cL_runs 302 = .ok (.ishr, 1) := by decide +kernel
theorem dL_runs_303 : decode cL_runs 303 = .ok (.iconst 1, 1) := by decide +kernel
theorem dL_runs_304 : decode cL_runs 304 = .ok (.iand, 1) := by decide +kernel
theorem dL_runs_305 : decode cL_runs 305 = .ok (.iconst 1, 1) := by decide +kernel
theorem dL_runs_306 : decode cL_runs 306 = .ok (.if_icmp .ne 7, 3) := by decide +kernel
theorem dL_runs_309 : decode cL_runs 309 = .ok (.iconst 1, 1) := by decide +kernel
theorem dL_runs_310 : decode cL_runs 310 = .ok (.goto 4, 3) := by decide +kernel
theorem dL_runs_313 : decode cL_runs 313 = .ok (.iconst 0, 1) := by decide +kernel
theorem dL_runs_314 : decode cL_runs 314 = .ok (.istore 13, 2) := by decide +kernel
theorem dL_runs_316 : decode cL_runs 316 = .ok (.iload 8, 2) := by decide +kernel
theorem dL_runs_318 : decode cL_runs 318 = .ok (.ifCond .eq 82, 3) := by decide +kernel
theorem dL_runs_321 : decode cL_runs 321 = .ok (.aload 6, 2) := by decide +kernel
theorem dL_runs_323 : decode cL_runs 323 = .ok (.iload 10, 2) := by decide +kernel
theorem dL_runs_325 : decode cL_runs 325 = .ok (.iaload, 1) := by decide +kernel
theorem dL_runs_326 : decode cL_runs 326 = .ok (.ifCond .ge 12, 3) := by decide +kernel
theorem dL_runs_329 : decode cL_runs 329 = .ok (.iload 11, 2) := by decide +kernel
theorem dL_runs_331 : decode cL_runs 331 = .ok (.iconst (-1), 1) := by decide +kernel
theorem dL_runs_332 : decode cL_runs 332 = .ok (.if_icmp .ne 68, 3) := by decide +kernel
theorem dL_runs_335 : decode cL_runs 335 = .ok (.goto 61, 3) := by decide +kernel
theorem dL_runs_338 : decode cL_runs 338 = .ok (.iload 11, 2) := by decide +kernel
theorem dL_runs_340 : decode cL_runs 340 = .ok (.bipush 100, 2) := by decide +kernel
theorem dL_runs_342 : decode cL_runs 342 = .ok (.idiv, 1) := by decide +kernel
theorem dL_runs_343 : decode cL_runs 343 = .ok (.aload 6, 2) := by decide +kernel
theorem dL_runs_345 : decode cL_runs 345 = .ok (.iload 10, 2) := by decide +kernel
theorem dL_runs_347 : decode cL_runs 347 = .ok (.iaload, 1) := by decide +kernel
theorem dL_runs_348 : decode cL_runs 348 = .ok (.bipush 100, 2) := by decide +kernel
theorem dL_runs_350 : decode cL_runs 350 = .ok (.idiv, 1) := by decide +kernel
theorem dL_runs_351 : decode cL_runs 351 = .ok (.if_icmp .ne 49, 3) := by decide +kernel
theorem dL_runs_354 : decode cL_runs 354 = .ok (.iload 12, 2) := by decide +kernel
theorem dL_runs_356 : decode cL_runs 356 = .ok (.ifCond .eq 14, 3) := by decide +kernel
theorem dL_runs_359 : decode cL_runs 359 = .ok (.iload 11, 2) := by decide +kernel
theorem dL_runs_361 : decode cL_runs 361 = .ok (.bipush 100, 2) := by decide +kernel
theorem dL_runs_363 : decode cL_runs 363 = .ok (.irem, 1) := by decide +kernel
theorem dL_runs_364 : decode cL_runs 364 = .ok (.ifCond .ne 36, 3) := by decide +kernel
theorem dL_runs_367 : decode cL_runs 367 = .ok (.goto 29, 3) := by decide +kernel
theorem dL_runs_370 : decode cL_runs 370 = .ok (.iload 13, 2) := by decide +kernel
theorem dL_runs_372 : decode cL_runs 372 = .ok (.ifCond .eq 14, 3) := by decide +kernel
theorem dL_runs_375 : decode cL_runs 375 = .ok (.iload 11, 2) := by decide +kernel
theorem dL_runs_377 : decode cL_runs 377 = .ok (.bipush 100, 2) := by decide +kernel
theorem dL_runs_379 : decode cL_runs 379 = .ok (.irem, 1) := by decide +kernel
theorem dL_runs_380 : decode cL_runs 380 = .ok (.ifCond .le 20, 3) := by decide +kernel
theorem dL_runs_383 : decode cL_runs 383 = .ok (.goto 13, 3) := by decide +kernel
theorem dL_runs_386 : decode cL_runs 386 = .ok (.iload 11, 2) := by decide +kernel
theorem dL_runs_388 : decode cL_runs 388 = .ok (.aload 6, 2) := by decide +kernel
theorem dL_runs_390 : decode cL_runs 390 = .ok (.iload 10, 2) := by decide +kernel
theorem dL_runs_392 : decode cL_runs 392 = .ok (.iaload, 1) := by decide +kernel
theorem dL_runs_393 : decode cL_runs 393 = .ok (.if_icmp .ne 7, 3) := by decide +kernel
theorem dL_runs_396 : decode cL_runs 396 = .ok (.iconst 1, 1) := by decide +kernel
theorem dL_runs_397 : decode cL_runs 397 = .ok (.goto 4, 3) := by decide +kernel
theorem dL_runs_400 : decode cL_runs 400 = .ok (.iconst 0, 1) := by decide +kernel
theorem dL_runs_401 : decode cL_runs 401 = .ok (.istore 8, 2) := by decide +kernel
theorem dL_runs_403 : decode cL_runs 403 = .ok (.iinc 10 1, 3) := by decide +kernel
theorem dL_runs_406 : decode cL_runs 406 = .ok (.goto (-172), 3) := by decide +kernel
theorem dL_runs_409 : decode cL_runs 409 = .ok (.iload 8, 2) := by decide +kernel
theorem dL_runs_411 : decode cL_runs 411 = .ok (.ifCond .eq 21, 3) := by decide +kernel
theorem dL_runs_414 : decode cL_runs 414 = .ok (.aload_n 0, 1) := by decide +kernel
theorem dL_runs_415 : decode cL_runs 415 = .ok (.invokevirtual 129, 3) := by decide +kernel
theorem dL_runs_418 : decode cL_runs 418 = .ok (.ifCond .ne 14, 3) := by decide +kernel
theorem dL_runs_421 : decode cL_runs 421 = .ok (.aload_n 1, 1) := by decide +kernel
theorem dL_runs_422 : decode cL_runs 422 = .ok (.invokevirtual 129, 3) := by decide +kernel
theorem dL_runs_425 : decode cL_runs 425 = .ok (.ifCond .ne 7, 3) := by decide +kernel
theorem dL_runs_428 : decode cL_runs 428 = .ok (.iconst 1, 1) := by decide +kernel
theorem dL_runs_429 : decode cL_runs 429 = .ok (.goto 4, 3) := by decide +kernel
theorem dL_runs_432 : decode cL_runs 432 = .ok (.iconst 0, 1) := by decide +kernel
theorem dL_runs_433 : decode cL_runs 433 = .ok (.ireturn, 1) := by decide +kernel
