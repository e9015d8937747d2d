theorem dL_law_248 : decode code 248 = .ok (.iadd, 1) := by decide +kernel
theorem dL_law_249 : decode code 249 = .ok (.iaload, 1) := by decide +kernel
theorem dL_law_250 : decode code 250 = .ok (.invokevirtual 27, 3) := by decide +kernel
theorem dL_law_253 : decode code 253 = .ok (.aload_n 2, 1) := by decide +kernel
theorem dL_law_254 : decode code 254 = .ok (.aload_n 0, 1) := by decide +kernel
theorem dL_law_255 : decode code 255 = .ok (.iload_n 3, 1) := by decide +kernel
theorem dL_law_256 : decode code 256 = .ok (.iconst 1, 1) := by decide +kernel
theorem dL_law_257 : decode code 257 = .ok (.iadd, 1) := by decide +kernel
theorem dL_law_258 : decode code 258 = .ok (.iaload, 1) := by decide +kernel
theorem dL_law_259 : decode code 259 = .ok (.aload_n 0, 1) := by decide +kernel
theorem dL_law_260 : decode code 260 = .ok (.iload_n 3, 1) := by decide +kernel
theorem dL_law_261 : decode code 261 = .ok (.iconst 2, 1) := by decide +kernel
theorem dL_law_262 : decode code 262 = .ok (.iadd, 1) := by decide +kernel
theorem dL_law_263 : decode code 263 = .ok (.iaload, 1) := by decide +kernel
theorem dL_law_264 : decode code 264 = .ok (.invokevirtual 31, 3) := by decide +kernel
theorem dL_law_267 : decode code 267 = .ok (.lcmp, 1) := by decide +kernel
theorem dL_law_268 : decode code 268 = .ok (.ifCond .eq 460, 3) := by decide +kernel
theorem dL_law_271 : decode code 271 = .ok (.iconst 0, 1) := by decide +kernel
theorem dL_law_272 : decode code 272 = .ok (.ireturn, 1) := by decide +kernel
theorem dL_law_273 : decode code 273 = .ok (.aload_n 1, 1) := by decide +kernel
theorem dL_law_274 : decode code 274 = .ok (.aload_n 0, 1) := by decide +kernel
theorem dL_law_275 : decode code 275 = .ok (.iload_n 3, 1) := by decide +kernel
theorem dL_law_276 : decode code 276 = .ok (.iconst 1, 1) := by decide +kernel
theorem dL_law_277 : decode code 277 = .ok (.iadd, 1) := by decide +kernel
theorem dL_law_278 : decode code 278 = .ok (.iaload, 1) := by decide +kernel
theorem dL_law_279 : decode code 279 = .ok (.aload_n 0, 1) := by decide +kernel
theorem dL_law_280 : decode code 280 = .ok (.iload_n 3, 1) := by decide +kernel
theorem dL_law_281 : decode code 281 = .ok (.iconst 2, 1) := by decide +kernel
theorem dL_law_282 : decode code 282 = .ok (.iadd, 1) := by decide +kernel
theorem dL_law_283 : decode code 283 = .ok (.iaload, 1) := by decide +kernel
theorem dL_law_284 : decode code 284 = .ok (.invokevirtual 32, 3) := by decide +kernel
theorem dL_law_287 : decode code 287 = .ok (.aload_n 2, 1) := by decide +kernel
theorem dL_law_288 : decode code 288 = .ok (.aload_n 0, 1) := by decide +kernel
theorem dL_law_289 : decode code 289 = .ok (.iload_n 3, 1) := by decide +kernel
theorem dL_law_290 : decode code 290 = .ok (.iconst 1, 1) := by decide +kernel
theorem dL_law_291 : decode code 291 = .ok (.iadd, 1) := by decide +kernel
theorem dL_law_292 : decode code 292 = .ok (.iaload, 1) := by decide +kernel
theorem dL_law_293 : decode code 293 = .ok (.aload_n 0, 1) := by decide +kernel
theorem dL_law_294 : decode code 294 = .ok (.iload_n 3, 1) := by decide +kernel
theorem dL_law_295 : decode code 295 = .ok (.iconst 2, 1) := by decide +kernel
theorem dL_law_296 : decode code 296 = .ok (.iadd, 1) := by decide +kernel
theorem dL_law_297 : decode code 297 = .ok (.iaload, 1) := by decide +kernel
theorem dL_law_298 : decode code 298 = .ok (.invokevirtual 35, 3) := by decide +kernel
theorem dL_law_301 : decode code 301 = .ok (.lcmp, 1) := by decide +kernel
theorem dL_law_302 : decode code 302 = .ok (.ifCond .eq 426, 3) := by decide +kernel
theorem dL_law_305 : decode code 305 = .ok (.iconst 0, 1) := by decide +kernel
theorem dL_law_306 : decode code 306 = .ok (.ireturn, 1) := by decide +kernel
theorem dL_law_307 : decode code 307 = .ok (.aload_n 1, 1) := by decide +kernel
theorem dL_law_308 : decode code 308 = .ok (.aload_n 0, 1) := by decide +kernel
theorem dL_law_309 : decode code 309 = .ok (.iload_n 3, 1) := by decide +kernel
theorem dL_law_310 : decode code 310 = .ok (.iconst 1, 1) := by decide +kernel
theorem dL_law_311 : decode code 311 = .ok (.iadd, 1) := by decide +kernel
theorem dL_law_312 : decode code 312 = .ok (.iaload, 1) := by decide +kernel
theorem dL_law_313 : decode code 313 = .ok (.aload_n 0, 1) := by decide +kernel
theorem dL_law_314 : decode code 314 = .ok (.iload_n 3, 1) := by decide +kernel
theorem dL_law_315 : decode code 315 = .ok (.iconst 2, 1) := by decide +kernel
theorem dL_law_316 : decode code 316 = .ok (.iadd, 1) := by decide +kernel
theorem dL_law_317 : decode code 317 = .ok (.iaload, 1) := by decide +kernel
theorem dL_law_318 : decode code 318 = .ok (.aload_n 0, 1) := by decide +kernel
theorem dL_law_319 : decode code 319 = .ok (.iload_n 3, 1) := by decide +kernel
theorem dL_law_320 : decode code 320 = .ok (.iconst 3, 1) := by decide +kernel
theorem dL_law_321 : decode code 321 = .ok (.iadd, 1) := by decide +kernel
theorem dL_law_322 : decode code 322 = .ok (.iaload, 1) := by decide +kernel
theorem dL_law_323 : decode code 323 = .ok (.invokevirtual 36, 3) := by decide +kernel
theorem dL_law_326 : decode code 326 = .ok (.aload_n 2, 1) := by decide +kernel
theorem dL_law_327 : decode code 327 = .ok (.aload_n 0, 1) := by decide +kernel
theorem dL_law_328 : decode code 328 = .ok (.iload_n 3, 1) := by decide +kernel
theorem dL_law_329 : decode code 329 = .ok (.iconst 1, 1) := by decide +kernel
theorem dL_law_330 : decode code 330 = .ok (.iadd, 1) := by decide +kernel
theorem dL_law_331 : decode code 331 = .ok (.iaload, 1) := by decide +kernel
theorem dL_law_332 : decode code 332 = .ok (.aload_n 0, 1) := by decide +kernel
theorem dL_law_333 : decode code 333 = .ok (.iload_n 3, 1) := by decide +kernel
theorem dL_law_334 : decode code 334 = .ok (.iconst 2, 1) := by decide +kernel
theorem dL_law_335 : decode code 335 = .ok (.iadd, 1) := by decide +kernel
theorem dL_law_336 : decode code 336 = .ok (.iaload, 1) := by decide +kernel
theorem dL_law_337 : decode code 337 = .ok (.aload_n 0, 1) := by decide +kernel
theorem dL_law_338 : decode code 338 = .ok (.iload_n 3, 1) := by decide +kernel
theorem dL_law_339 : decode code 339 = .ok (.iconst 3, 1) := by decide +kernel
theorem dL_law_340 : decode code 340 = .ok (.iadd, 1) := by decide +kernel
theorem dL_law_341 : decode code 341 = .ok (.iaload, 1) := by decide +kernel
theorem dL_law_342 : decode code 342 = .ok (.invokevirtual 39, 3) := by decide +kernel
theorem dL_law_345 : decode code 345 = .ok (.if_icmp .eq 383, 3) := by decide +kernel
theorem dL_law_348 : decode code 348 = .ok (.iconst 0, 1) := by decide +kernel
theorem dL_law_349 : decode code 349 = .ok (.ireturn, 1) := by decide +kernel
theorem dL_law_350 : decode code 350 = .ok (.aload_n 1, 1) := by decide +kernel
theorem dL_law_351 : decode code 351 = .ok (.aload_n 0, 1) := by decide +kernel
theorem dL_law_352 : decode code 352 = .ok (.iload_n 3, 1) := by decide +kernel
theorem dL_law_353 : decode code 353 = .ok (.iconst 1, 1) := by decide +kernel
theorem dL_law_354 : decode code 354 = .ok (.iadd, 1) := by decide +kernel
theorem dL_law_355 : decode code 355 = .ok (.iaload, 1) := by decide +kernel
theorem dL_law_356 : decode code 356 = .ok (.aload_n 0, 1) := by decide +kernel
theorem dL_law_357 : decode code 357 = .ok (.iload_n 3, 1) := by decide +kernel
theorem dL_law_358 : decode code 358 = .ok (.iconst 2, 1) := by decide +kernel
theorem dL_law_359 : decode code 359 = .ok (.iadd, 1) := by decide +kernel
theorem dL_law_360 : decode code 360 = .ok (.iaload, 1) := by decide +kernel
theorem dL_law_361 : decode code 361 = .ok (.invokevirtual 40, 3) := by decide +kernel
theorem dL_law_364 : decode code 364 = .ok (.aload_n 2, 1) := by decide +kernel
theorem dL_law_365 : decode code 365 = .ok (.aload_n 0, 1) := by decide +kernel
theorem dL_law_366 : decode code 366 = .ok (.iload_n 3, 1) := by decide +kernel
theorem dL_law_367 : decode code 367 = .ok (.iconst 1, 1) := by decide +kernel
theorem dL_law_368 : decode code 368 = .ok (.iadd, 1) := by decide +kernel
theorem dL_law_369 : decode code 369 = .ok (.iaload, 1) := by decide +kernel
theorem dL_law_370 : decode code 370 = .ok (.aload_n 0, 1) := by decide +kernel
theorem dL_law_371 : decode code 371 = .ok (.iload_n 3, 1) := by decide +kernel
theorem dL_law_372 : decode code 372 = .ok (.iconst 2, 1) := by decide +kernel
theorem dL_law_373 : decode code 373 = .ok (.iadd, 1) := by decide +kernel
theorem dL_law_374 : decode code 374 = .ok (.iaload, 1) := by decide +kernel
theorem dL_law_375 : decode code 375 = .ok (.invokevirtual 43, 3) := by decide +kernel
theorem dL_law_378 : decode code 378 = .ok (.if_icmp .eq 350, 3) := by decide +kernel
theorem dL_law_381 : decode code 381 = .ok (.iconst 0, 1) := by decide +kernel
theorem dL_law_382 : decode code 382 = .ok (.ireturn, 1) := by decide +kernel
theorem dL_law_383 : decode code 383 = .ok (.aload_n 1, 1) := by decide +kernel
theorem dL_law_384 : decode code 384 = .ok (.aload_n 0, 1) := by decide +kernel
theorem dL_law_385 : decode code 385 = .ok (.iload_n 3, 1) := by decide +kernel
theorem dL_law_386 : decode code 386 = .ok (.iconst 1, 1) := by decide +kernel
theorem dL_law_387 : decode code 387 = .ok (.iadd, 1) := by decide +kernel
theorem dL_law_388 : decode code 388 = .ok (.iaload, 1) := by decide +kernel
theorem dL_law_389 : decode code 389 = .ok (.aload_n 0, 1) := by decide +kernel
theorem dL_law_390 : decode code 390 = .ok (.iload_n 3, 1) := by decide +kernel
theorem dL_law_391 : decode code 391 = .ok (.iconst 2, 1) := by decide +kernel
theorem dL_law_392 : decode code 392 = .ok (.iadd, 1) := by decide +kernel
theorem dL_law_393 : decode code 393 = .ok (.iaload, 1) := by decide +kernel
theorem dL_law_394 : decode code 394 = .ok (.invokevirtual 44, 3) := by decide +kernel
theorem dL_law_397 : decode code 397 = .ok (.aload_n 2, 1) := by decide +kernel
theorem dL_law_398 : decode code 398 = .ok (.aload_n 0, 1) := by decide +kernel
theorem dL_law_399 : decode code 399 = .ok (.iload_n 3, 1) := by decide +kernel
theorem dL_law_400 : decode code 400 = .ok (.iconst 1, 1) := by decide +kernel
theorem dL_law_401 : decode code 401 = .ok (.iadd, 1) := by decide +kernel
theorem dL_law_402 : decode code 402 = .ok (.iaload, 1) := by decide +kernel
theorem dL_law_403 : decode code 403 = .ok (.aload_n 0, 1) := by decide +kernel
theorem dL_law_404 : decode code 404 = .ok (.iload_n 3, 1) := by decide +kernel
theorem dL_law_405 : decode code 405 = .ok (.iconst 2, 1) := by decide +kernel
