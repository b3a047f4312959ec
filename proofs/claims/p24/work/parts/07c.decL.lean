theorem dL_turns_259 : decode cL_turns 259 = .ok (.ifCond .ne 19, 3) := by decide +kernel
theorem dL_turns_262 : decode cL_turns 262 = .ok (.iload 15, 2) := by decide +kernel
theorem dL_turns_264 : decode cL_turns 264 = .ok (.ifCond .eq 18, 3) := by decide +kernel
theorem dL_turns_267 : decode cL_turns 267 = .ok (.aload 10, 2) := by decide +kernel
theorem dL_turns_269 : decode cL_turns 269 = .ok (.iload 14, 2) := by decide +kernel
theorem dL_turns_271 : decode cL_turns 271 = .ok (.iaload, 1) := by decide +kernel
theorem dL_turns_272 : decode cL_turns 272 = .ok (.bipush 100, 2) := by decide +kernel
theorem dL_turns_274 : decode cL_turns 274 = .ok (.irem, 1) := by decide +kernel
theorem dL_turns_275 : decode cL_turns 275 = .ok (.ifCond .ne 7, 3) := by decide +kernel
theorem dL_turns_278 : decode cL_turns 278 = .ok (.iconst 1, 1) := by decide +kernel
theorem dL_turns_279 : decode cL_turns 279 = .ok (.goto 4, 3) := by decide +kernel
theorem dL_turns_282 : decode cL_turns 282 = .ok (.iconst 0, 1) := by decide +kernel
theorem dL_turns_283 : decode cL_turns 283 = .ok (.istore 13, 2) := by decide +kernel
theorem dL_turns_285 : decode cL_turns 285 = .ok (.iinc 14 1, 3) := by decide +kernel
theorem dL_turns_288 : decode cL_turns 288 = .ok (.goto (-154), 3) := by decide +kernel
theorem dL_turns_291 : decode cL_turns 291 = .ok (.iload 12, 2) := by decide +kernel
theorem dL_turns_293 : decode cL_turns 293 = .ok (.ifCond .eq 70, 3) := by decide +kernel
theorem dL_turns_296 : decode cL_turns 296 = .ok (.iload 13, 2) := by decide +kernel
theorem dL_turns_298 : decode cL_turns 298 = .ok (.ifCond .eq 22, 3) := by decide +kernel
theorem dL_turns_301 : decode cL_turns 301 = .ok (.aload_n 0, 1) := by decide +kernel
theorem dL_turns_302 : decode cL_turns 302 = .ok (.iload 5, 2) := by decide +kernel
theorem dL_turns_304 : decode cL_turns 304 = .ok (.aload_n 0, 1) := by decide +kernel
theorem dL_turns_305 : decode cL_turns 305 = .ok (.iload 5, 2) := by decide +kernel
theorem dL_turns_307 : decode cL_turns 307 = .ok (.invokestatic 92, 3) := by decide +kernel
theorem dL_turns_310 : decode cL_turns 310 = .ok (.iconst 1, 1) := by decide +kernel
theorem dL_turns_311 : decode cL_turns 311 = .ok (.isub, 1) := by decide +kernel
theorem dL_turns_312 : decode cL_turns 312 = .ok (.invokestatic 99, 3) := by decide +kernel
theorem dL_turns_315 : decode cL_turns 315 = .ok (.iload 8, 2) := by decide +kernel
theorem dL_turns_317 : decode cL_turns 317 = .ok (.if_icmp .ne 46, 3) := by decide +kernel
theorem dL_turns_320 : decode cL_turns 320 = .ok (.iload 11, 2) := by decide +kernel
theorem dL_turns_322 : decode cL_turns 322 = .ok (.ifCond .gt 14, 3) := by decide +kernel
theorem dL_turns_325 : decode cL_turns 325 = .ok (.aload_n 0, 1) := by decide +kernel
theorem dL_turns_326 : decode cL_turns 326 = .ok (.iload 5, 2) := by decide +kernel
theorem dL_turns_328 : decode cL_turns 328 = .ok (.invokestatic 94, 3) := by decide +kernel
theorem dL_turns_331 : decode cL_turns 331 = .ok (.iload 9, 2) := by decide +kernel
theorem dL_turns_333 : decode cL_turns 333 = .ok (.if_icmp .ne 30, 3) := by decide +kernel
theorem dL_turns_336 : decode cL_turns 336 = .ok (.aload_n 0, 1) := by decide +kernel
theorem dL_turns_337 : decode cL_turns 337 = .ok (.aload_n 2, 1) := by decide +kernel
theorem dL_turns_338 : decode cL_turns 338 = .ok (.aload_n 3, 1) := by decide +kernel
theorem dL_turns_339 : decode cL_turns 339 = .ok (.iload 5, 2) := by decide +kernel
theorem dL_turns_341 : decode cL_turns 341 = .ok (.aload 6, 2) := by decide +kernel
theorem dL_turns_343 : decode cL_turns 343 = .ok (.invokestatic 125, 3) := by decide +kernel
theorem dL_turns_346 : decode cL_turns 346 = .ok (.ifCond .eq 17, 3) := by decide +kernel
theorem dL_turns_349 : decode cL_turns 349 = .ok (.aload_n 0, 1) := by decide +kernel
theorem dL_turns_350 : decode cL_turns 350 = .ok (.iconst 5, 1) := by decide +kernel
theorem dL_turns_351 : decode cL_turns 351 = .ok (.invokestatic 123, 3) := by decide +kernel
theorem dL_turns_354 : decode cL_turns 354 = .ok (.ldc 18, 2) := by decide +kernel
theorem dL_turns_356 : decode cL_turns 356 = .ok (.if_icmp .ne 7, 3) := by decide +kernel
theorem dL_turns_359 : decode cL_turns 359 = .ok (.iconst 1, 1) := by decide +kernel
theorem dL_turns_360 : decode cL_turns 360 = .ok (.goto 4, 3) := by decide +kernel
theorem dL_turns_363 : decode cL_turns 363 = .ok (.iconst 0, 1) := by decide +kernel
theorem dL_turns_364 : decode cL_turns 364 = .ok (.ireturn, 1) := by decide +kernel
