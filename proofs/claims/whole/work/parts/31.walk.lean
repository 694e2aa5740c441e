/-! the law's walk: decode rows, calls, the cases (wip/whole/gen31.py) -/
theorem d_L_0 : decode code 0 = .ok (.new 7, 3) := by decide +kernel
theorem d_L_3 : decode code 3 = .ok (.dup, 1) := by decide +kernel
theorem d_L_4 : decode code 4 = .ok (.invokespecial 9, 3) := by decide +kernel
theorem d_L_7 : decode code 7 = .ok (.astore_n 1, 1) := by decide +kernel
theorem d_L_8 : decode code 8 = .ok (.new 10, 3) := by decide +kernel
theorem d_L_11 : decode code 11 = .ok (.dup, 1) := by decide +kernel
theorem d_L_12 : decode code 12 = .ok (.invokespecial 12, 3) := by decide +kernel
theorem d_L_15 : decode code 15 = .ok (.astore_n 2, 1) := by decide +kernel
theorem d_L_16 : decode code 16 = .ok (.iconst 0, 1) := by decide +kernel
theorem d_L_17 : decode code 17 = .ok (.istore_n 3, 1) := by decide +kernel
theorem d_L_18 : decode code 18 = .ok (.iload_n 3, 1) := by decide +kernel
theorem d_L_19 : decode code 19 = .ok (.aload_n 0, 1) := by decide +kernel
theorem d_L_20 : decode code 20 = .ok (.arraylength, 1) := by decide +kernel
theorem d_L_21 : decode code 21 = .ok (.bipush 6, 2) := by decide +kernel
theorem d_L_23 : decode code 23 = .ok (.isub, 1) := by decide +kernel
theorem d_L_24 : decode code 24 = .ok (.if_icmp .gt 1396, 3) := by decide +kernel
theorem d_L_27 : decode code 27 = .ok (.aload_n 0, 1) := by decide +kernel
theorem d_L_28 : decode code 28 = .ok (.iload_n 3, 1) := by decide +kernel
theorem d_L_29 : decode code 29 = .ok (.iaload, 1) := by decide +kernel
theorem d_L_30 : decode code 30 = .ok (.bipush 63, 2) := by decide +kernel
theorem d_L_32 : decode code 32 = .ok (.iand, 1) := by decide +kernel
theorem d_L_33 : decode code 33 = .ok (.tableswitch 1381 0 37 #[167, 200, 243, 286, 329, 372, 385, 408, 441, 484, 507, 540, 593, 626, 659, 692, 725, 758, 771, 794, 817, 850, 883, 916, 949, 962, 985, 1008, 1031, 1064, 1087, 1110, 1153, 1176, 1209, 1232, 1275, 1318], 167) := by decide +kernel
theorem d_L_200 : decode code 200 = .ok (.aload_n 1, 1) := by decide +kernel
theorem d_L_201 : decode code 201 = .ok (.aload_n 0, 1) := by decide +kernel
theorem d_L_202 : decode code 202 = .ok (.iload_n 3, 1) := by decide +kernel
theorem d_L_203 : decode code 203 = .ok (.iconst 1, 1) := by decide +kernel
theorem d_L_204 : decode code 204 = .ok (.iadd, 1) := by decide +kernel
theorem d_L_205 : decode code 205 = .ok (.iaload, 1) := by decide +kernel
theorem d_L_206 : decode code 206 = .ok (.aload_n 0, 1) := by decide +kernel
theorem d_L_207 : decode code 207 = .ok (.iload_n 3, 1) := by decide +kernel
theorem d_L_208 : decode code 208 = .ok (.iconst 2, 1) := by decide +kernel
theorem d_L_209 : decode code 209 = .ok (.iadd, 1) := by decide +kernel
theorem d_L_210 : decode code 210 = .ok (.iaload, 1) := by decide +kernel
theorem d_L_211 : decode code 211 = .ok (.invokevirtual 13, 3) := by decide +kernel
theorem d_L_214 : decode code 214 = .ok (.aload_n 2, 1) := by decide +kernel
theorem d_L_215 : decode code 215 = .ok (.aload_n 0, 1) := by decide +kernel
theorem d_L_216 : decode code 216 = .ok (.iload_n 3, 1) := by decide +kernel
theorem d_L_217 : decode code 217 = .ok (.iconst 1, 1) := by decide +kernel
theorem d_L_218 : decode code 218 = .ok (.iadd, 1) := by decide +kernel
theorem d_L_219 : decode code 219 = .ok (.iaload, 1) := by decide +kernel
theorem d_L_220 : decode code 220 = .ok (.aload_n 0, 1) := by decide +kernel
theorem d_L_221 : decode code 221 = .ok (.iload_n 3, 1) := by decide +kernel
theorem d_L_222 : decode code 222 = .ok (.iconst 2, 1) := by decide +kernel
theorem d_L_223 : decode code 223 = .ok (.iadd, 1) := by decide +kernel
theorem d_L_224 : decode code 224 = .ok (.iaload, 1) := by decide +kernel
theorem d_L_225 : decode code 225 = .ok (.invokevirtual 17, 3) := by decide +kernel
theorem d_L_228 : decode code 228 = .ok (.if_icmp .eq 1186, 3) := by decide +kernel
theorem d_L_231 : decode code 231 = .ok (.iconst 0, 1) := by decide +kernel
theorem d_L_232 : decode code 232 = .ok (.ireturn, 1) := by decide +kernel
theorem d_L_233 : decode code 233 = .ok (.aload_n 1, 1) := by decide +kernel
theorem d_L_234 : decode code 234 = .ok (.aload_n 0, 1) := by decide +kernel
theorem d_L_235 : decode code 235 = .ok (.iload_n 3, 1) := by decide +kernel
theorem d_L_236 : decode code 236 = .ok (.iconst 1, 1) := by decide +kernel
theorem d_L_237 : decode code 237 = .ok (.iadd, 1) := by decide +kernel
theorem d_L_238 : decode code 238 = .ok (.iaload, 1) := by decide +kernel
theorem d_L_239 : decode code 239 = .ok (.aload_n 0, 1) := by decide +kernel
theorem d_L_240 : decode code 240 = .ok (.iload_n 3, 1) := by decide +kernel
theorem d_L_241 : decode code 241 = .ok (.iconst 2, 1) := by decide +kernel
theorem d_L_242 : decode code 242 = .ok (.iadd, 1) := by decide +kernel
theorem d_L_243 : decode code 243 = .ok (.iaload, 1) := by decide +kernel
theorem d_L_244 : decode code 244 = .ok (.aload_n 0, 1) := by decide +kernel
theorem d_L_245 : decode code 245 = .ok (.iload_n 3, 1) := by decide +kernel
theorem d_L_246 : decode code 246 = .ok (.iconst 3, 1) := by decide +kernel
theorem d_L_247 : decode code 247 = .ok (.iadd, 1) := by decide +kernel
theorem d_L_248 : decode code 248 = .ok (.iaload, 1) := by decide +kernel
theorem d_L_249 : decode code 249 = .ok (.invokevirtual 18, 3) := by decide +kernel
theorem d_L_252 : decode code 252 = .ok (.aload_n 2, 1) := by decide +kernel
theorem d_L_253 : decode code 253 = .ok (.aload_n 0, 1) := by decide +kernel
theorem d_L_254 : decode code 254 = .ok (.iload_n 3, 1) := by decide +kernel
theorem d_L_255 : decode code 255 = .ok (.iconst 1, 1) := by decide +kernel
theorem d_L_256 : decode code 256 = .ok (.iadd, 1) := by decide +kernel
theorem d_L_257 : decode code 257 = .ok (.iaload, 1) := by decide +kernel
theorem d_L_258 : decode code 258 = .ok (.aload_n 0, 1) := by decide +kernel
theorem d_L_259 : decode code 259 = .ok (.iload_n 3, 1) := by decide +kernel
theorem d_L_260 : decode code 260 = .ok (.iconst 2, 1) := by decide +kernel
theorem d_L_261 : decode code 261 = .ok (.iadd, 1) := by decide +kernel
theorem d_L_262 : decode code 262 = .ok (.iaload, 1) := by decide +kernel
theorem d_L_263 : decode code 263 = .ok (.aload_n 0, 1) := by decide +kernel
theorem d_L_264 : decode code 264 = .ok (.iload_n 3, 1) := by decide +kernel
theorem d_L_265 : decode code 265 = .ok (.iconst 3, 1) := by decide +kernel
theorem d_L_266 : decode code 266 = .ok (.iadd, 1) := by decide +kernel
theorem d_L_267 : decode code 267 = .ok (.iaload, 1) := by decide +kernel
theorem d_L_268 : decode code 268 = .ok (.invokevirtual 22, 3) := by decide +kernel
theorem d_L_271 : decode code 271 = .ok (.if_icmp .eq 1143, 3) := by decide +kernel
theorem d_L_274 : decode code 274 = .ok (.iconst 0, 1) := by decide +kernel
theorem d_L_275 : decode code 275 = .ok (.ireturn, 1) := by decide +kernel
theorem d_L_276 : decode code 276 = .ok (.aload_n 1, 1) := by decide +kernel
theorem d_L_277 : decode code 277 = .ok (.aload_n 0, 1) := by decide +kernel
theorem d_L_278 : decode code 278 = .ok (.iload_n 3, 1) := by decide +kernel
theorem d_L_279 : decode code 279 = .ok (.iconst 1, 1) := by decide +kernel
theorem d_L_280 : decode code 280 = .ok (.iadd, 1) := by decide +kernel
theorem d_L_281 : decode code 281 = .ok (.iaload, 1) := by decide +kernel
theorem d_L_282 : decode code 282 = .ok (.aload_n 0, 1) := by decide +kernel
theorem d_L_283 : decode code 283 = .ok (.iload_n 3, 1) := by decide +kernel
theorem d_L_284 : decode code 284 = .ok (.iconst 2, 1) := by decide +kernel
theorem d_L_285 : decode code 285 = .ok (.iadd, 1) := by decide +kernel
theorem d_L_286 : decode code 286 = .ok (.iaload, 1) := by decide +kernel
theorem d_L_287 : decode code 287 = .ok (.aload_n 0, 1) := by decide +kernel
theorem d_L_288 : decode code 288 = .ok (.iload_n 3, 1) := by decide +kernel
theorem d_L_289 : decode code 289 = .ok (.iconst 3, 1) := by decide +kernel
theorem d_L_290 : decode code 290 = .ok (.iadd, 1) := by decide +kernel
theorem d_L_291 : decode code 291 = .ok (.iaload, 1) := by decide +kernel
theorem d_L_292 : decode code 292 = .ok (.invokevirtual 23, 3) := by decide +kernel
theorem d_L_295 : decode code 295 = .ok (.aload_n 2, 1) := by decide +kernel
theorem d_L_296 : decode code 296 = .ok (.aload_n 0, 1) := by decide +kernel
theorem d_L_297 : decode code 297 = .ok (.iload_n 3, 1) := by decide +kernel
theorem d_L_298 : decode code 298 = .ok (.iconst 1, 1) := by decide +kernel
theorem d_L_299 : decode code 299 = .ok (.iadd, 1) := by decide +kernel
theorem d_L_300 : decode code 300 = .ok (.iaload, 1) := by decide +kernel
theorem d_L_301 : decode code 301 = .ok (.aload_n 0, 1) := by decide +kernel
theorem d_L_302 : decode code 302 = .ok (.iload_n 3, 1) := by decide +kernel
theorem d_L_303 : decode code 303 = .ok (.iconst 2, 1) := by decide +kernel
theorem d_L_304 : decode code 304 = .ok (.iadd, 1) := by decide +kernel
theorem d_L_305 : decode code 305 = .ok (.iaload, 1) := by decide +kernel
theorem d_L_306 : decode code 306 = .ok (.aload_n 0, 1) := by decide +kernel
theorem d_L_307 : decode code 307 = .ok (.iload_n 3, 1) := by decide +kernel
theorem d_L_308 : decode code 308 = .ok (.iconst 3, 1) := by decide +kernel
theorem d_L_309 : decode code 309 = .ok (.iadd, 1) := by decide +kernel
theorem d_L_310 : decode code 310 = .ok (.iaload, 1) := by decide +kernel
theorem d_L_311 : decode code 311 = .ok (.invokevirtual 26, 3) := by decide +kernel
theorem d_L_314 : decode code 314 = .ok (.if_icmp .eq 1100, 3) := by decide +kernel
theorem d_L_317 : decode code 317 = .ok (.iconst 0, 1) := by decide +kernel
theorem d_L_318 : decode code 318 = .ok (.ireturn, 1) := by decide +kernel
theorem d_L_319 : decode code 319 = .ok (.aload_n 1, 1) := by decide +kernel
theorem d_L_320 : decode code 320 = .ok (.aload_n 0, 1) := by decide +kernel
theorem d_L_321 : decode code 321 = .ok (.iload_n 3, 1) := by decide +kernel
theorem d_L_322 : decode code 322 = .ok (.iconst 1, 1) := by decide +kernel
theorem d_L_323 : decode code 323 = .ok (.iadd, 1) := by decide +kernel
theorem d_L_324 : decode code 324 = .ok (.iaload, 1) := by decide +kernel
theorem d_L_325 : decode code 325 = .ok (.aload_n 0, 1) := by decide +kernel
theorem d_L_326 : decode code 326 = .ok (.iload_n 3, 1) := by decide +kernel
theorem d_L_327 : decode code 327 = .ok (.iconst 2, 1) := by decide +kernel
theorem d_L_328 : decode code 328 = .ok (.iadd, 1) := by decide +kernel
theorem d_L_329 : decode code 329 = .ok (.iaload, 1) := by decide +kernel
theorem d_L_330 : decode code 330 = .ok (.aload_n 0, 1) := by decide +kernel
theorem d_L_331 : decode code 331 = .ok (.iload_n 3, 1) := by decide +kernel
theorem d_L_332 : decode code 332 = .ok (.iconst 3, 1) := by decide +kernel
theorem d_L_333 : decode code 333 = .ok (.iadd, 1) := by decide +kernel
theorem d_L_334 : decode code 334 = .ok (.iaload, 1) := by decide +kernel
theorem d_L_335 : decode code 335 = .ok (.invokevirtual 27, 3) := by decide +kernel
theorem d_L_338 : decode code 338 = .ok (.aload_n 2, 1) := by decide +kernel
theorem d_L_339 : decode code 339 = .ok (.aload_n 0, 1) := by decide +kernel
theorem d_L_340 : decode code 340 = .ok (.iload_n 3, 1) := by decide +kernel
theorem d_L_341 : decode code 341 = .ok (.iconst 1, 1) := by decide +kernel
theorem d_L_342 : decode code 342 = .ok (.iadd, 1) := by decide +kernel
theorem d_L_343 : decode code 343 = .ok (.iaload, 1) := by decide +kernel
theorem d_L_344 : decode code 344 = .ok (.aload_n 0, 1) := by decide +kernel
theorem d_L_345 : decode code 345 = .ok (.iload_n 3, 1) := by decide +kernel
theorem d_L_346 : decode code 346 = .ok (.iconst 2, 1) := by decide +kernel
theorem d_L_347 : decode code 347 = .ok (.iadd, 1) := by decide +kernel
theorem d_L_348 : decode code 348 = .ok (.iaload, 1) := by decide +kernel
theorem d_L_349 : decode code 349 = .ok (.aload_n 0, 1) := by decide +kernel
theorem d_L_350 : decode code 350 = .ok (.iload_n 3, 1) := by decide +kernel
theorem d_L_351 : decode code 351 = .ok (.iconst 3, 1) := by decide +kernel
theorem d_L_352 : decode code 352 = .ok (.iadd, 1) := by decide +kernel
theorem d_L_353 : decode code 353 = .ok (.iaload, 1) := by decide +kernel
theorem d_L_354 : decode code 354 = .ok (.invokevirtual 30, 3) := by decide +kernel
theorem d_L_357 : decode code 357 = .ok (.if_icmp .eq 1057, 3) := by decide +kernel
theorem d_L_360 : decode code 360 = .ok (.iconst 0, 1) := by decide +kernel
theorem d_L_361 : decode code 361 = .ok (.ireturn, 1) := by decide +kernel
theorem d_L_362 : decode code 362 = .ok (.aload_n 1, 1) := by decide +kernel
theorem d_L_363 : decode code 363 = .ok (.aload_n 0, 1) := by decide +kernel
theorem d_L_364 : decode code 364 = .ok (.iload_n 3, 1) := by decide +kernel
theorem d_L_365 : decode code 365 = .ok (.iconst 1, 1) := by decide +kernel
theorem d_L_366 : decode code 366 = .ok (.iadd, 1) := by decide +kernel
theorem d_L_367 : decode code 367 = .ok (.iaload, 1) := by decide +kernel
theorem d_L_368 : decode code 368 = .ok (.aload_n 0, 1) := by decide +kernel
theorem d_L_369 : decode code 369 = .ok (.iload_n 3, 1) := by decide +kernel
theorem d_L_370 : decode code 370 = .ok (.iconst 2, 1) := by decide +kernel
theorem d_L_371 : decode code 371 = .ok (.iadd, 1) := by decide +kernel
theorem d_L_372 : decode code 372 = .ok (.iaload, 1) := by decide +kernel
theorem d_L_373 : decode code 373 = .ok (.aload_n 0, 1) := by decide +kernel
theorem d_L_374 : decode code 374 = .ok (.iload_n 3, 1) := by decide +kernel
theorem d_L_375 : decode code 375 = .ok (.iconst 3, 1) := by decide +kernel
theorem d_L_376 : decode code 376 = .ok (.iadd, 1) := by decide +kernel
theorem d_L_377 : decode code 377 = .ok (.iaload, 1) := by decide +kernel
theorem d_L_378 : decode code 378 = .ok (.invokevirtual 31, 3) := by decide +kernel
theorem d_L_381 : decode code 381 = .ok (.aload_n 2, 1) := by decide +kernel
theorem d_L_382 : decode code 382 = .ok (.aload_n 0, 1) := by decide +kernel
theorem d_L_383 : decode code 383 = .ok (.iload_n 3, 1) := by decide +kernel
theorem d_L_384 : decode code 384 = .ok (.iconst 1, 1) := by decide +kernel
theorem d_L_385 : decode code 385 = .ok (.iadd, 1) := by decide +kernel
theorem d_L_386 : decode code 386 = .ok (.iaload, 1) := by decide +kernel
theorem d_L_387 : decode code 387 = .ok (.aload_n 0, 1) := by decide +kernel
theorem d_L_388 : decode code 388 = .ok (.iload_n 3, 1) := by decide +kernel
theorem d_L_389 : decode code 389 = .ok (.iconst 2, 1) := by decide +kernel
theorem d_L_390 : decode code 390 = .ok (.iadd, 1) := by decide +kernel
theorem d_L_391 : decode code 391 = .ok (.iaload, 1) := by decide +kernel
theorem d_L_392 : decode code 392 = .ok (.aload_n 0, 1) := by decide +kernel
theorem d_L_393 : decode code 393 = .ok (.iload_n 3, 1) := by decide +kernel
theorem d_L_394 : decode code 394 = .ok (.iconst 3, 1) := by decide +kernel
theorem d_L_395 : decode code 395 = .ok (.iadd, 1) := by decide +kernel
theorem d_L_396 : decode code 396 = .ok (.iaload, 1) := by decide +kernel
theorem d_L_397 : decode code 397 = .ok (.invokevirtual 34, 3) := by decide +kernel
theorem d_L_400 : decode code 400 = .ok (.if_icmp .eq 1014, 3) := by decide +kernel
theorem d_L_403 : decode code 403 = .ok (.iconst 0, 1) := by decide +kernel
theorem d_L_404 : decode code 404 = .ok (.ireturn, 1) := by decide +kernel
theorem d_L_405 : decode code 405 = .ok (.aload_n 1, 1) := by decide +kernel
theorem d_L_406 : decode code 406 = .ok (.invokevirtual 35, 3) := by decide +kernel
theorem d_L_409 : decode code 409 = .ok (.aload_n 2, 1) := by decide +kernel
theorem d_L_410 : decode code 410 = .ok (.invokevirtual 39, 3) := by decide +kernel
theorem d_L_413 : decode code 413 = .ok (.if_icmp .eq 1001, 3) := by decide +kernel
theorem d_L_416 : decode code 416 = .ok (.iconst 0, 1) := by decide +kernel
theorem d_L_417 : decode code 417 = .ok (.ireturn, 1) := by decide +kernel
theorem d_L_418 : decode code 418 = .ok (.aload_n 1, 1) := by decide +kernel
theorem d_L_419 : decode code 419 = .ok (.aload_n 0, 1) := by decide +kernel
theorem d_L_420 : decode code 420 = .ok (.iload_n 3, 1) := by decide +kernel
theorem d_L_421 : decode code 421 = .ok (.iconst 1, 1) := by decide +kernel
theorem d_L_422 : decode code 422 = .ok (.iadd, 1) := by decide +kernel
theorem d_L_423 : decode code 423 = .ok (.iaload, 1) := by decide +kernel
theorem d_L_424 : decode code 424 = .ok (.invokevirtual 40, 3) := by decide +kernel
theorem d_L_427 : decode code 427 = .ok (.aload_n 2, 1) := by decide +kernel
theorem d_L_428 : decode code 428 = .ok (.aload_n 0, 1) := by decide +kernel
theorem d_L_429 : decode code 429 = .ok (.iload_n 3, 1) := by decide +kernel
theorem d_L_430 : decode code 430 = .ok (.iconst 1, 1) := by decide +kernel
theorem d_L_431 : decode code 431 = .ok (.iadd, 1) := by decide +kernel
theorem d_L_432 : decode code 432 = .ok (.iaload, 1) := by decide +kernel
theorem d_L_433 : decode code 433 = .ok (.invokevirtual 44, 3) := by decide +kernel
theorem d_L_436 : decode code 436 = .ok (.if_icmp .eq 978, 3) := by decide +kernel
theorem d_L_439 : decode code 439 = .ok (.iconst 0, 1) := by decide +kernel
theorem d_L_440 : decode code 440 = .ok (.ireturn, 1) := by decide +kernel
theorem d_L_441 : decode code 441 = .ok (.aload_n 1, 1) := by decide +kernel
theorem d_L_442 : decode code 442 = .ok (.aload_n 0, 1) := by decide +kernel
theorem d_L_443 : decode code 443 = .ok (.iload_n 3, 1) := by decide +kernel
theorem d_L_444 : decode code 444 = .ok (.iconst 1, 1) := by decide +kernel
theorem d_L_445 : decode code 445 = .ok (.iadd, 1) := by decide +kernel
theorem d_L_446 : decode code 446 = .ok (.iaload, 1) := by decide +kernel
theorem d_L_447 : decode code 447 = .ok (.aload_n 0, 1) := by decide +kernel
theorem d_L_448 : decode code 448 = .ok (.iload_n 3, 1) := by decide +kernel
theorem d_L_449 : decode code 449 = .ok (.iconst 2, 1) := by decide +kernel
theorem d_L_450 : decode code 450 = .ok (.iadd, 1) := by decide +kernel
theorem d_L_451 : decode code 451 = .ok (.iaload, 1) := by decide +kernel
theorem d_L_452 : decode code 452 = .ok (.invokevirtual 45, 3) := by decide +kernel
theorem d_L_455 : decode code 455 = .ok (.aload_n 2, 1) := by decide +kernel
theorem d_L_456 : decode code 456 = .ok (.aload_n 0, 1) := by decide +kernel
theorem d_L_457 : decode code 457 = .ok (.iload_n 3, 1) := by decide +kernel
theorem d_L_458 : decode code 458 = .ok (.iconst 1, 1) := by decide +kernel
theorem d_L_459 : decode code 459 = .ok (.iadd, 1) := by decide +kernel
theorem d_L_460 : decode code 460 = .ok (.iaload, 1) := by decide +kernel
theorem d_L_461 : decode code 461 = .ok (.aload_n 0, 1) := by decide +kernel
theorem d_L_462 : decode code 462 = .ok (.iload_n 3, 1) := by decide +kernel
theorem d_L_463 : decode code 463 = .ok (.iconst 2, 1) := by decide +kernel
theorem d_L_464 : decode code 464 = .ok (.iadd, 1) := by decide +kernel
theorem d_L_465 : decode code 465 = .ok (.iaload, 1) := by decide +kernel
theorem d_L_466 : decode code 466 = .ok (.invokevirtual 48, 3) := by decide +kernel
theorem d_L_469 : decode code 469 = .ok (.if_icmp .eq 945, 3) := by decide +kernel
theorem d_L_472 : decode code 472 = .ok (.iconst 0, 1) := by decide +kernel
theorem d_L_473 : decode code 473 = .ok (.ireturn, 1) := by decide +kernel
theorem d_L_474 : decode code 474 = .ok (.aload_n 1, 1) := by decide +kernel
theorem d_L_475 : decode code 475 = .ok (.aload_n 0, 1) := by decide +kernel
theorem d_L_476 : decode code 476 = .ok (.iload_n 3, 1) := by decide +kernel
theorem d_L_477 : decode code 477 = .ok (.iconst 1, 1) := by decide +kernel
theorem d_L_478 : decode code 478 = .ok (.iadd, 1) := by decide +kernel
theorem d_L_479 : decode code 479 = .ok (.iaload, 1) := by decide +kernel
theorem d_L_480 : decode code 480 = .ok (.aload_n 0, 1) := by decide +kernel
theorem d_L_481 : decode code 481 = .ok (.iload_n 3, 1) := by decide +kernel
theorem d_L_482 : decode code 482 = .ok (.iconst 2, 1) := by decide +kernel
theorem d_L_483 : decode code 483 = .ok (.iadd, 1) := by decide +kernel
theorem d_L_484 : decode code 484 = .ok (.iaload, 1) := by decide +kernel
theorem d_L_485 : decode code 485 = .ok (.aload_n 0, 1) := by decide +kernel
theorem d_L_486 : decode code 486 = .ok (.iload_n 3, 1) := by decide +kernel
theorem d_L_487 : decode code 487 = .ok (.iconst 3, 1) := by decide +kernel
theorem d_L_488 : decode code 488 = .ok (.iadd, 1) := by decide +kernel
theorem d_L_489 : decode code 489 = .ok (.iaload, 1) := by decide +kernel
theorem d_L_490 : decode code 490 = .ok (.invokevirtual 49, 3) := by decide +kernel
theorem d_L_493 : decode code 493 = .ok (.aload_n 2, 1) := by decide +kernel
theorem d_L_494 : decode code 494 = .ok (.aload_n 0, 1) := by decide +kernel
theorem d_L_495 : decode code 495 = .ok (.iload_n 3, 1) := by decide +kernel
theorem d_L_496 : decode code 496 = .ok (.iconst 1, 1) := by decide +kernel
theorem d_L_497 : decode code 497 = .ok (.iadd, 1) := by decide +kernel
theorem d_L_498 : decode code 498 = .ok (.iaload, 1) := by decide +kernel
theorem d_L_499 : decode code 499 = .ok (.aload_n 0, 1) := by decide +kernel
theorem d_L_500 : decode code 500 = .ok (.iload_n 3, 1) := by decide +kernel
theorem d_L_501 : decode code 501 = .ok (.iconst 2, 1) := by decide +kernel
theorem d_L_502 : decode code 502 = .ok (.iadd, 1) := by decide +kernel
theorem d_L_503 : decode code 503 = .ok (.iaload, 1) := by decide +kernel
theorem d_L_504 : decode code 504 = .ok (.aload_n 0, 1) := by decide +kernel
theorem d_L_505 : decode code 505 = .ok (.iload_n 3, 1) := by decide +kernel
theorem d_L_506 : decode code 506 = .ok (.iconst 3, 1) := by decide +kernel
theorem d_L_507 : decode code 507 = .ok (.iadd, 1) := by decide +kernel
theorem d_L_508 : decode code 508 = .ok (.iaload, 1) := by decide +kernel
theorem d_L_509 : decode code 509 = .ok (.invokevirtual 52, 3) := by decide +kernel
theorem d_L_512 : decode code 512 = .ok (.if_icmp .eq 902, 3) := by decide +kernel
theorem d_L_515 : decode code 515 = .ok (.iconst 0, 1) := by decide +kernel
theorem d_L_516 : decode code 516 = .ok (.ireturn, 1) := by decide +kernel
theorem d_L_517 : decode code 517 = .ok (.aload_n 1, 1) := by decide +kernel
theorem d_L_518 : decode code 518 = .ok (.aload_n 0, 1) := by decide +kernel
theorem d_L_519 : decode code 519 = .ok (.iload_n 3, 1) := by decide +kernel
theorem d_L_520 : decode code 520 = .ok (.iconst 1, 1) := by decide +kernel
theorem d_L_521 : decode code 521 = .ok (.iadd, 1) := by decide +kernel
theorem d_L_522 : decode code 522 = .ok (.iaload, 1) := by decide +kernel
theorem d_L_523 : decode code 523 = .ok (.invokevirtual 53, 3) := by decide +kernel
theorem d_L_526 : decode code 526 = .ok (.aload_n 2, 1) := by decide +kernel
theorem d_L_527 : decode code 527 = .ok (.aload_n 0, 1) := by decide +kernel
theorem d_L_528 : decode code 528 = .ok (.iload_n 3, 1) := by decide +kernel
theorem d_L_529 : decode code 529 = .ok (.iconst 1, 1) := by decide +kernel
theorem d_L_530 : decode code 530 = .ok (.iadd, 1) := by decide +kernel
theorem d_L_531 : decode code 531 = .ok (.iaload, 1) := by decide +kernel
theorem d_L_532 : decode code 532 = .ok (.invokevirtual 56, 3) := by decide +kernel
theorem d_L_535 : decode code 535 = .ok (.if_icmp .eq 879, 3) := by decide +kernel
theorem d_L_538 : decode code 538 = .ok (.iconst 0, 1) := by decide +kernel
theorem d_L_539 : decode code 539 = .ok (.ireturn, 1) := by decide +kernel
theorem d_L_540 : decode code 540 = .ok (.aload_n 1, 1) := by decide +kernel
theorem d_L_541 : decode code 541 = .ok (.aload_n 0, 1) := by decide +kernel
theorem d_L_542 : decode code 542 = .ok (.iload_n 3, 1) := by decide +kernel
theorem d_L_543 : decode code 543 = .ok (.iconst 1, 1) := by decide +kernel
theorem d_L_544 : decode code 544 = .ok (.iadd, 1) := by decide +kernel
theorem d_L_545 : decode code 545 = .ok (.iaload, 1) := by decide +kernel
theorem d_L_546 : decode code 546 = .ok (.aload_n 0, 1) := by decide +kernel
theorem d_L_547 : decode code 547 = .ok (.iload_n 3, 1) := by decide +kernel
theorem d_L_548 : decode code 548 = .ok (.iconst 2, 1) := by decide +kernel
theorem d_L_549 : decode code 549 = .ok (.iadd, 1) := by decide +kernel
theorem d_L_550 : decode code 550 = .ok (.iaload, 1) := by decide +kernel
theorem d_L_551 : decode code 551 = .ok (.invokevirtual 57, 3) := by decide +kernel
theorem d_L_554 : decode code 554 = .ok (.aload_n 2, 1) := by decide +kernel
theorem d_L_555 : decode code 555 = .ok (.aload_n 0, 1) := by decide +kernel
theorem d_L_556 : decode code 556 = .ok (.iload_n 3, 1) := by decide +kernel
theorem d_L_557 : decode code 557 = .ok (.iconst 1, 1) := by decide +kernel
theorem d_L_558 : decode code 558 = .ok (.iadd, 1) := by decide +kernel
theorem d_L_559 : decode code 559 = .ok (.iaload, 1) := by decide +kernel
theorem d_L_560 : decode code 560 = .ok (.aload_n 0, 1) := by decide +kernel
theorem d_L_561 : decode code 561 = .ok (.iload_n 3, 1) := by decide +kernel
theorem d_L_562 : decode code 562 = .ok (.iconst 2, 1) := by decide +kernel
theorem d_L_563 : decode code 563 = .ok (.iadd, 1) := by decide +kernel
theorem d_L_564 : decode code 564 = .ok (.iaload, 1) := by decide +kernel
theorem d_L_565 : decode code 565 = .ok (.invokevirtual 60, 3) := by decide +kernel
theorem d_L_568 : decode code 568 = .ok (.if_icmp .eq 846, 3) := by decide +kernel
theorem d_L_571 : decode code 571 = .ok (.iconst 0, 1) := by decide +kernel
theorem d_L_572 : decode code 572 = .ok (.ireturn, 1) := by decide +kernel
theorem d_L_573 : decode code 573 = .ok (.aload_n 1, 1) := by decide +kernel
theorem d_L_574 : decode code 574 = .ok (.aload_n 0, 1) := by decide +kernel
theorem d_L_575 : decode code 575 = .ok (.iload_n 3, 1) := by decide +kernel
theorem d_L_576 : decode code 576 = .ok (.iconst 1, 1) := by decide +kernel
theorem d_L_577 : decode code 577 = .ok (.iadd, 1) := by decide +kernel
theorem d_L_578 : decode code 578 = .ok (.iaload, 1) := by decide +kernel
theorem d_L_579 : decode code 579 = .ok (.aload_n 0, 1) := by decide +kernel
theorem d_L_580 : decode code 580 = .ok (.iload_n 3, 1) := by decide +kernel
theorem d_L_581 : decode code 581 = .ok (.iconst 2, 1) := by decide +kernel
theorem d_L_582 : decode code 582 = .ok (.iadd, 1) := by decide +kernel
theorem d_L_583 : decode code 583 = .ok (.iaload, 1) := by decide +kernel
theorem d_L_584 : decode code 584 = .ok (.aload_n 0, 1) := by decide +kernel
theorem d_L_585 : decode code 585 = .ok (.iload_n 3, 1) := by decide +kernel
theorem d_L_586 : decode code 586 = .ok (.iconst 3, 1) := by decide +kernel
theorem d_L_587 : decode code 587 = .ok (.iadd, 1) := by decide +kernel
theorem d_L_588 : decode code 588 = .ok (.iaload, 1) := by decide +kernel
theorem d_L_589 : decode code 589 = .ok (.aload_n 0, 1) := by decide +kernel
theorem d_L_590 : decode code 590 = .ok (.iload_n 3, 1) := by decide +kernel
theorem d_L_591 : decode code 591 = .ok (.iconst 4, 1) := by decide +kernel
theorem d_L_592 : decode code 592 = .ok (.iadd, 1) := by decide +kernel
theorem d_L_593 : decode code 593 = .ok (.iaload, 1) := by decide +kernel
theorem d_L_594 : decode code 594 = .ok (.invokevirtual 61, 3) := by decide +kernel
theorem d_L_597 : decode code 597 = .ok (.aload_n 2, 1) := by decide +kernel
theorem d_L_598 : decode code 598 = .ok (.aload_n 0, 1) := by decide +kernel
theorem d_L_599 : decode code 599 = .ok (.iload_n 3, 1) := by decide +kernel
theorem d_L_600 : decode code 600 = .ok (.iconst 1, 1) := by decide +kernel
theorem d_L_601 : decode code 601 = .ok (.iadd, 1) := by decide +kernel
theorem d_L_602 : decode code 602 = .ok (.iaload, 1) := by decide +kernel
theorem d_L_603 : decode code 603 = .ok (.aload_n 0, 1) := by decide +kernel
theorem d_L_604 : decode code 604 = .ok (.iload_n 3, 1) := by decide +kernel
theorem d_L_605 : decode code 605 = .ok (.iconst 2, 1) := by decide +kernel
theorem d_L_606 : decode code 606 = .ok (.iadd, 1) := by decide +kernel
theorem d_L_607 : decode code 607 = .ok (.iaload, 1) := by decide +kernel
theorem d_L_608 : decode code 608 = .ok (.aload_n 0, 1) := by decide +kernel
theorem d_L_609 : decode code 609 = .ok (.iload_n 3, 1) := by decide +kernel
theorem d_L_610 : decode code 610 = .ok (.iconst 3, 1) := by decide +kernel
theorem d_L_611 : decode code 611 = .ok (.iadd, 1) := by decide +kernel
theorem d_L_612 : decode code 612 = .ok (.iaload, 1) := by decide +kernel
theorem d_L_613 : decode code 613 = .ok (.aload_n 0, 1) := by decide +kernel
theorem d_L_614 : decode code 614 = .ok (.iload_n 3, 1) := by decide +kernel
theorem d_L_615 : decode code 615 = .ok (.iconst 4, 1) := by decide +kernel
theorem d_L_616 : decode code 616 = .ok (.iadd, 1) := by decide +kernel
theorem d_L_617 : decode code 617 = .ok (.iaload, 1) := by decide +kernel
theorem d_L_618 : decode code 618 = .ok (.invokevirtual 65, 3) := by decide +kernel
theorem d_L_621 : decode code 621 = .ok (.if_icmp .eq 793, 3) := by decide +kernel
theorem d_L_624 : decode code 624 = .ok (.iconst 0, 1) := by decide +kernel
theorem d_L_625 : decode code 625 = .ok (.ireturn, 1) := by decide +kernel
theorem d_L_626 : decode code 626 = .ok (.aload_n 1, 1) := by decide +kernel
theorem d_L_627 : decode code 627 = .ok (.aload_n 0, 1) := by decide +kernel
theorem d_L_628 : decode code 628 = .ok (.iload_n 3, 1) := by decide +kernel
theorem d_L_629 : decode code 629 = .ok (.iconst 1, 1) := by decide +kernel
theorem d_L_630 : decode code 630 = .ok (.iadd, 1) := by decide +kernel
theorem d_L_631 : decode code 631 = .ok (.iaload, 1) := by decide +kernel
theorem d_L_632 : decode code 632 = .ok (.aload_n 0, 1) := by decide +kernel
theorem d_L_633 : decode code 633 = .ok (.iload_n 3, 1) := by decide +kernel
theorem d_L_634 : decode code 634 = .ok (.iconst 2, 1) := by decide +kernel
theorem d_L_635 : decode code 635 = .ok (.iadd, 1) := by decide +kernel
theorem d_L_636 : decode code 636 = .ok (.iaload, 1) := by decide +kernel
theorem d_L_637 : decode code 637 = .ok (.invokevirtual 66, 3) := by decide +kernel
theorem d_L_640 : decode code 640 = .ok (.aload_n 2, 1) := by decide +kernel
theorem d_L_641 : decode code 641 = .ok (.aload_n 0, 1) := by decide +kernel
theorem d_L_642 : decode code 642 = .ok (.iload_n 3, 1) := by decide +kernel
theorem d_L_643 : decode code 643 = .ok (.iconst 1, 1) := by decide +kernel
theorem d_L_644 : decode code 644 = .ok (.iadd, 1) := by decide +kernel
theorem d_L_645 : decode code 645 = .ok (.iaload, 1) := by decide +kernel
theorem d_L_646 : decode code 646 = .ok (.aload_n 0, 1) := by decide +kernel
theorem d_L_647 : decode code 647 = .ok (.iload_n 3, 1) := by decide +kernel
theorem d_L_648 : decode code 648 = .ok (.iconst 2, 1) := by decide +kernel
theorem d_L_649 : decode code 649 = .ok (.iadd, 1) := by decide +kernel
theorem d_L_650 : decode code 650 = .ok (.iaload, 1) := by decide +kernel
theorem d_L_651 : decode code 651 = .ok (.invokevirtual 69, 3) := by decide +kernel
theorem d_L_654 : decode code 654 = .ok (.if_icmp .eq 760, 3) := by decide +kernel
theorem d_L_657 : decode code 657 = .ok (.iconst 0, 1) := by decide +kernel
theorem d_L_658 : decode code 658 = .ok (.ireturn, 1) := by decide +kernel
theorem d_L_659 : decode code 659 = .ok (.aload_n 1, 1) := by decide +kernel
theorem d_L_660 : decode code 660 = .ok (.aload_n 0, 1) := by decide +kernel
theorem d_L_661 : decode code 661 = .ok (.iload_n 3, 1) := by decide +kernel
theorem d_L_662 : decode code 662 = .ok (.iconst 1, 1) := by decide +kernel
theorem d_L_663 : decode code 663 = .ok (.iadd, 1) := by decide +kernel
theorem d_L_664 : decode code 664 = .ok (.iaload, 1) := by decide +kernel
theorem d_L_665 : decode code 665 = .ok (.aload_n 0, 1) := by decide +kernel
theorem d_L_666 : decode code 666 = .ok (.iload_n 3, 1) := by decide +kernel
theorem d_L_667 : decode code 667 = .ok (.iconst 2, 1) := by decide +kernel
theorem d_L_668 : decode code 668 = .ok (.iadd, 1) := by decide +kernel
theorem d_L_669 : decode code 669 = .ok (.iaload, 1) := by decide +kernel
theorem d_L_670 : decode code 670 = .ok (.invokevirtual 70, 3) := by decide +kernel
theorem d_L_673 : decode code 673 = .ok (.aload_n 2, 1) := by decide +kernel
theorem d_L_674 : decode code 674 = .ok (.aload_n 0, 1) := by decide +kernel
theorem d_L_675 : decode code 675 = .ok (.iload_n 3, 1) := by decide +kernel
theorem d_L_676 : decode code 676 = .ok (.iconst 1, 1) := by decide +kernel
theorem d_L_677 : decode code 677 = .ok (.iadd, 1) := by decide +kernel
theorem d_L_678 : decode code 678 = .ok (.iaload, 1) := by decide +kernel
theorem d_L_679 : decode code 679 = .ok (.aload_n 0, 1) := by decide +kernel
theorem d_L_680 : decode code 680 = .ok (.iload_n 3, 1) := by decide +kernel
theorem d_L_681 : decode code 681 = .ok (.iconst 2, 1) := by decide +kernel
theorem d_L_682 : decode code 682 = .ok (.iadd, 1) := by decide +kernel
theorem d_L_683 : decode code 683 = .ok (.iaload, 1) := by decide +kernel
theorem d_L_684 : decode code 684 = .ok (.invokevirtual 73, 3) := by decide +kernel
theorem d_L_687 : decode code 687 = .ok (.if_icmp .eq 727, 3) := by decide +kernel
theorem d_L_690 : decode code 690 = .ok (.iconst 0, 1) := by decide +kernel
theorem d_L_691 : decode code 691 = .ok (.ireturn, 1) := by decide +kernel
theorem d_L_692 : decode code 692 = .ok (.aload_n 1, 1) := by decide +kernel
theorem d_L_693 : decode code 693 = .ok (.aload_n 0, 1) := by decide +kernel
theorem d_L_694 : decode code 694 = .ok (.iload_n 3, 1) := by decide +kernel
theorem d_L_695 : decode code 695 = .ok (.iconst 1, 1) := by decide +kernel
theorem d_L_696 : decode code 696 = .ok (.iadd, 1) := by decide +kernel
theorem d_L_697 : decode code 697 = .ok (.iaload, 1) := by decide +kernel
theorem d_L_698 : decode code 698 = .ok (.aload_n 0, 1) := by decide +kernel
theorem d_L_699 : decode code 699 = .ok (.iload_n 3, 1) := by decide +kernel
theorem d_L_700 : decode code 700 = .ok (.iconst 2, 1) := by decide +kernel
theorem d_L_701 : decode code 701 = .ok (.iadd, 1) := by decide +kernel
theorem d_L_702 : decode code 702 = .ok (.iaload, 1) := by decide +kernel
theorem d_L_703 : decode code 703 = .ok (.invokevirtual 74, 3) := by decide +kernel
theorem d_L_706 : decode code 706 = .ok (.aload_n 2, 1) := by decide +kernel
theorem d_L_707 : decode code 707 = .ok (.aload_n 0, 1) := by decide +kernel
theorem d_L_708 : decode code 708 = .ok (.iload_n 3, 1) := by decide +kernel
theorem d_L_709 : decode code 709 = .ok (.iconst 1, 1) := by decide +kernel
theorem d_L_710 : decode code 710 = .ok (.iadd, 1) := by decide +kernel
theorem d_L_711 : decode code 711 = .ok (.iaload, 1) := by decide +kernel
theorem d_L_712 : decode code 712 = .ok (.aload_n 0, 1) := by decide +kernel
theorem d_L_713 : decode code 713 = .ok (.iload_n 3, 1) := by decide +kernel
theorem d_L_714 : decode code 714 = .ok (.iconst 2, 1) := by decide +kernel
theorem d_L_715 : decode code 715 = .ok (.iadd, 1) := by decide +kernel
theorem d_L_716 : decode code 716 = .ok (.iaload, 1) := by decide +kernel
theorem d_L_717 : decode code 717 = .ok (.invokevirtual 77, 3) := by decide +kernel
theorem d_L_720 : decode code 720 = .ok (.if_icmp .eq 694, 3) := by decide +kernel
theorem d_L_723 : decode code 723 = .ok (.iconst 0, 1) := by decide +kernel
theorem d_L_724 : decode code 724 = .ok (.ireturn, 1) := by decide +kernel
theorem d_L_725 : decode code 725 = .ok (.aload_n 1, 1) := by decide +kernel
theorem d_L_726 : decode code 726 = .ok (.aload_n 0, 1) := by decide +kernel
theorem d_L_727 : decode code 727 = .ok (.iload_n 3, 1) := by decide +kernel
theorem d_L_728 : decode code 728 = .ok (.iconst 1, 1) := by decide +kernel
theorem d_L_729 : decode code 729 = .ok (.iadd, 1) := by decide +kernel
theorem d_L_730 : decode code 730 = .ok (.iaload, 1) := by decide +kernel
theorem d_L_731 : decode code 731 = .ok (.aload_n 0, 1) := by decide +kernel
theorem d_L_732 : decode code 732 = .ok (.iload_n 3, 1) := by decide +kernel
theorem d_L_733 : decode code 733 = .ok (.iconst 2, 1) := by decide +kernel
theorem d_L_734 : decode code 734 = .ok (.iadd, 1) := by decide +kernel
theorem d_L_735 : decode code 735 = .ok (.iaload, 1) := by decide +kernel
theorem d_L_736 : decode code 736 = .ok (.invokevirtual 78, 3) := by decide +kernel
theorem d_L_739 : decode code 739 = .ok (.aload_n 2, 1) := by decide +kernel
theorem d_L_740 : decode code 740 = .ok (.aload_n 0, 1) := by decide +kernel
theorem d_L_741 : decode code 741 = .ok (.iload_n 3, 1) := by decide +kernel
theorem d_L_742 : decode code 742 = .ok (.iconst 1, 1) := by decide +kernel
theorem d_L_743 : decode code 743 = .ok (.iadd, 1) := by decide +kernel
theorem d_L_744 : decode code 744 = .ok (.iaload, 1) := by decide +kernel
theorem d_L_745 : decode code 745 = .ok (.aload_n 0, 1) := by decide +kernel
theorem d_L_746 : decode code 746 = .ok (.iload_n 3, 1) := by decide +kernel
theorem d_L_747 : decode code 747 = .ok (.iconst 2, 1) := by decide +kernel
theorem d_L_748 : decode code 748 = .ok (.iadd, 1) := by decide +kernel
theorem d_L_749 : decode code 749 = .ok (.iaload, 1) := by decide +kernel
theorem d_L_750 : decode code 750 = .ok (.invokevirtual 81, 3) := by decide +kernel
theorem d_L_753 : decode code 753 = .ok (.if_icmp .eq 661, 3) := by decide +kernel
theorem d_L_756 : decode code 756 = .ok (.iconst 0, 1) := by decide +kernel
theorem d_L_757 : decode code 757 = .ok (.ireturn, 1) := by decide +kernel
theorem d_L_758 : decode code 758 = .ok (.aload_n 1, 1) := by decide +kernel
theorem d_L_759 : decode code 759 = .ok (.aload_n 0, 1) := by decide +kernel
theorem d_L_760 : decode code 760 = .ok (.iload_n 3, 1) := by decide +kernel
theorem d_L_761 : decode code 761 = .ok (.iconst 1, 1) := by decide +kernel
theorem d_L_762 : decode code 762 = .ok (.iadd, 1) := by decide +kernel
theorem d_L_763 : decode code 763 = .ok (.iaload, 1) := by decide +kernel
theorem d_L_764 : decode code 764 = .ok (.aload_n 0, 1) := by decide +kernel
theorem d_L_765 : decode code 765 = .ok (.iload_n 3, 1) := by decide +kernel
theorem d_L_766 : decode code 766 = .ok (.iconst 2, 1) := by decide +kernel
theorem d_L_767 : decode code 767 = .ok (.iadd, 1) := by decide +kernel
theorem d_L_768 : decode code 768 = .ok (.iaload, 1) := by decide +kernel
theorem d_L_769 : decode code 769 = .ok (.invokevirtual 82, 3) := by decide +kernel
theorem d_L_772 : decode code 772 = .ok (.aload_n 2, 1) := by decide +kernel
theorem d_L_773 : decode code 773 = .ok (.aload_n 0, 1) := by decide +kernel
theorem d_L_774 : decode code 774 = .ok (.iload_n 3, 1) := by decide +kernel
theorem d_L_775 : decode code 775 = .ok (.iconst 1, 1) := by decide +kernel
theorem d_L_776 : decode code 776 = .ok (.iadd, 1) := by decide +kernel
theorem d_L_777 : decode code 777 = .ok (.iaload, 1) := by decide +kernel
theorem d_L_778 : decode code 778 = .ok (.aload_n 0, 1) := by decide +kernel
theorem d_L_779 : decode code 779 = .ok (.iload_n 3, 1) := by decide +kernel
theorem d_L_780 : decode code 780 = .ok (.iconst 2, 1) := by decide +kernel
theorem d_L_781 : decode code 781 = .ok (.iadd, 1) := by decide +kernel
theorem d_L_782 : decode code 782 = .ok (.iaload, 1) := by decide +kernel
theorem d_L_783 : decode code 783 = .ok (.invokevirtual 85, 3) := by decide +kernel
theorem d_L_786 : decode code 786 = .ok (.if_icmp .eq 628, 3) := by decide +kernel
theorem d_L_789 : decode code 789 = .ok (.iconst 0, 1) := by decide +kernel
theorem d_L_790 : decode code 790 = .ok (.ireturn, 1) := by decide +kernel
theorem d_L_791 : decode code 791 = .ok (.aload_n 1, 1) := by decide +kernel
theorem d_L_792 : decode code 792 = .ok (.invokevirtual 86, 3) := by decide +kernel
theorem d_L_795 : decode code 795 = .ok (.aload_n 2, 1) := by decide +kernel
theorem d_L_796 : decode code 796 = .ok (.invokevirtual 89, 3) := by decide +kernel
theorem d_L_799 : decode code 799 = .ok (.if_icmp .eq 615, 3) := by decide +kernel
theorem d_L_802 : decode code 802 = .ok (.iconst 0, 1) := by decide +kernel
theorem d_L_803 : decode code 803 = .ok (.ireturn, 1) := by decide +kernel
theorem d_L_804 : decode code 804 = .ok (.aload_n 1, 1) := by decide +kernel
theorem d_L_805 : decode code 805 = .ok (.aload_n 0, 1) := by decide +kernel
theorem d_L_806 : decode code 806 = .ok (.iload_n 3, 1) := by decide +kernel
theorem d_L_807 : decode code 807 = .ok (.iconst 1, 1) := by decide +kernel
theorem d_L_808 : decode code 808 = .ok (.iadd, 1) := by decide +kernel
theorem d_L_809 : decode code 809 = .ok (.iaload, 1) := by decide +kernel
theorem d_L_810 : decode code 810 = .ok (.invokevirtual 90, 3) := by decide +kernel
theorem d_L_813 : decode code 813 = .ok (.aload_n 2, 1) := by decide +kernel
theorem d_L_814 : decode code 814 = .ok (.aload_n 0, 1) := by decide +kernel
theorem d_L_815 : decode code 815 = .ok (.iload_n 3, 1) := by decide +kernel
theorem d_L_816 : decode code 816 = .ok (.iconst 1, 1) := by decide +kernel
theorem d_L_817 : decode code 817 = .ok (.iadd, 1) := by decide +kernel
theorem d_L_818 : decode code 818 = .ok (.iaload, 1) := by decide +kernel
theorem d_L_819 : decode code 819 = .ok (.invokevirtual 93, 3) := by decide +kernel
theorem d_L_822 : decode code 822 = .ok (.if_icmp .eq 592, 3) := by decide +kernel
theorem d_L_825 : decode code 825 = .ok (.iconst 0, 1) := by decide +kernel
theorem d_L_826 : decode code 826 = .ok (.ireturn, 1) := by decide +kernel
theorem d_L_827 : decode code 827 = .ok (.aload_n 1, 1) := by decide +kernel
theorem d_L_828 : decode code 828 = .ok (.aload_n 0, 1) := by decide +kernel
theorem d_L_829 : decode code 829 = .ok (.iload_n 3, 1) := by decide +kernel
theorem d_L_830 : decode code 830 = .ok (.iconst 1, 1) := by decide +kernel
theorem d_L_831 : decode code 831 = .ok (.iadd, 1) := by decide +kernel
theorem d_L_832 : decode code 832 = .ok (.iaload, 1) := by decide +kernel
theorem d_L_833 : decode code 833 = .ok (.invokevirtual 94, 3) := by decide +kernel
theorem d_L_836 : decode code 836 = .ok (.aload_n 2, 1) := by decide +kernel
theorem d_L_837 : decode code 837 = .ok (.aload_n 0, 1) := by decide +kernel
theorem d_L_838 : decode code 838 = .ok (.iload_n 3, 1) := by decide +kernel
theorem d_L_839 : decode code 839 = .ok (.iconst 1, 1) := by decide +kernel
theorem d_L_840 : decode code 840 = .ok (.iadd, 1) := by decide +kernel
theorem d_L_841 : decode code 841 = .ok (.iaload, 1) := by decide +kernel
theorem d_L_842 : decode code 842 = .ok (.invokevirtual 97, 3) := by decide +kernel
theorem d_L_845 : decode code 845 = .ok (.if_icmp .eq 569, 3) := by decide +kernel
theorem d_L_848 : decode code 848 = .ok (.iconst 0, 1) := by decide +kernel
theorem d_L_849 : decode code 849 = .ok (.ireturn, 1) := by decide +kernel
theorem d_L_850 : decode code 850 = .ok (.aload_n 1, 1) := by decide +kernel
theorem d_L_851 : decode code 851 = .ok (.aload_n 0, 1) := by decide +kernel
theorem d_L_852 : decode code 852 = .ok (.iload_n 3, 1) := by decide +kernel
theorem d_L_853 : decode code 853 = .ok (.iconst 1, 1) := by decide +kernel
theorem d_L_854 : decode code 854 = .ok (.iadd, 1) := by decide +kernel
theorem d_L_855 : decode code 855 = .ok (.iaload, 1) := by decide +kernel
theorem d_L_856 : decode code 856 = .ok (.aload_n 0, 1) := by decide +kernel
theorem d_L_857 : decode code 857 = .ok (.iload_n 3, 1) := by decide +kernel
theorem d_L_858 : decode code 858 = .ok (.iconst 2, 1) := by decide +kernel
theorem d_L_859 : decode code 859 = .ok (.iadd, 1) := by decide +kernel
theorem d_L_860 : decode code 860 = .ok (.iaload, 1) := by decide +kernel
theorem d_L_861 : decode code 861 = .ok (.invokevirtual 98, 3) := by decide +kernel
theorem d_L_864 : decode code 864 = .ok (.aload_n 2, 1) := by decide +kernel
theorem d_L_865 : decode code 865 = .ok (.aload_n 0, 1) := by decide +kernel
theorem d_L_866 : decode code 866 = .ok (.iload_n 3, 1) := by decide +kernel
theorem d_L_867 : decode code 867 = .ok (.iconst 1, 1) := by decide +kernel
theorem d_L_868 : decode code 868 = .ok (.iadd, 1) := by decide +kernel
theorem d_L_869 : decode code 869 = .ok (.iaload, 1) := by decide +kernel
theorem d_L_870 : decode code 870 = .ok (.aload_n 0, 1) := by decide +kernel
theorem d_L_871 : decode code 871 = .ok (.iload_n 3, 1) := by decide +kernel
theorem d_L_872 : decode code 872 = .ok (.iconst 2, 1) := by decide +kernel
theorem d_L_873 : decode code 873 = .ok (.iadd, 1) := by decide +kernel
theorem d_L_874 : decode code 874 = .ok (.iaload, 1) := by decide +kernel
theorem d_L_875 : decode code 875 = .ok (.invokevirtual 101, 3) := by decide +kernel
theorem d_L_878 : decode code 878 = .ok (.if_icmp .eq 536, 3) := by decide +kernel
theorem d_L_881 : decode code 881 = .ok (.iconst 0, 1) := by decide +kernel
theorem d_L_882 : decode code 882 = .ok (.ireturn, 1) := by decide +kernel
theorem d_L_883 : decode code 883 = .ok (.aload_n 1, 1) := by decide +kernel
theorem d_L_884 : decode code 884 = .ok (.aload_n 0, 1) := by decide +kernel
theorem d_L_885 : decode code 885 = .ok (.iload_n 3, 1) := by decide +kernel
theorem d_L_886 : decode code 886 = .ok (.iconst 1, 1) := by decide +kernel
theorem d_L_887 : decode code 887 = .ok (.iadd, 1) := by decide +kernel
theorem d_L_888 : decode code 888 = .ok (.iaload, 1) := by decide +kernel
theorem d_L_889 : decode code 889 = .ok (.aload_n 0, 1) := by decide +kernel
theorem d_L_890 : decode code 890 = .ok (.iload_n 3, 1) := by decide +kernel
theorem d_L_891 : decode code 891 = .ok (.iconst 2, 1) := by decide +kernel
theorem d_L_892 : decode code 892 = .ok (.iadd, 1) := by decide +kernel
theorem d_L_893 : decode code 893 = .ok (.iaload, 1) := by decide +kernel
theorem d_L_894 : decode code 894 = .ok (.invokevirtual 102, 3) := by decide +kernel
theorem d_L_897 : decode code 897 = .ok (.aload_n 2, 1) := by decide +kernel
theorem d_L_898 : decode code 898 = .ok (.aload_n 0, 1) := by decide +kernel
theorem d_L_899 : decode code 899 = .ok (.iload_n 3, 1) := by decide +kernel
theorem d_L_900 : decode code 900 = .ok (.iconst 1, 1) := by decide +kernel
theorem d_L_901 : decode code 901 = .ok (.iadd, 1) := by decide +kernel
theorem d_L_902 : decode code 902 = .ok (.iaload, 1) := by decide +kernel
theorem d_L_903 : decode code 903 = .ok (.aload_n 0, 1) := by decide +kernel
theorem d_L_904 : decode code 904 = .ok (.iload_n 3, 1) := by decide +kernel
theorem d_L_905 : decode code 905 = .ok (.iconst 2, 1) := by decide +kernel
theorem d_L_906 : decode code 906 = .ok (.iadd, 1) := by decide +kernel
theorem d_L_907 : decode code 907 = .ok (.iaload, 1) := by decide +kernel
theorem d_L_908 : decode code 908 = .ok (.invokevirtual 105, 3) := by decide +kernel
theorem d_L_911 : decode code 911 = .ok (.if_icmp .eq 503, 3) := by decide +kernel
theorem d_L_914 : decode code 914 = .ok (.iconst 0, 1) := by decide +kernel
theorem d_L_915 : decode code 915 = .ok (.ireturn, 1) := by decide +kernel
theorem d_L_916 : decode code 916 = .ok (.aload_n 1, 1) := by decide +kernel
theorem d_L_917 : decode code 917 = .ok (.aload_n 0, 1) := by decide +kernel
theorem d_L_918 : decode code 918 = .ok (.iload_n 3, 1) := by decide +kernel
theorem d_L_919 : decode code 919 = .ok (.iconst 1, 1) := by decide +kernel
theorem d_L_920 : decode code 920 = .ok (.iadd, 1) := by decide +kernel
theorem d_L_921 : decode code 921 = .ok (.iaload, 1) := by decide +kernel
theorem d_L_922 : decode code 922 = .ok (.aload_n 0, 1) := by decide +kernel
theorem d_L_923 : decode code 923 = .ok (.iload_n 3, 1) := by decide +kernel
theorem d_L_924 : decode code 924 = .ok (.iconst 2, 1) := by decide +kernel
theorem d_L_925 : decode code 925 = .ok (.iadd, 1) := by decide +kernel
theorem d_L_926 : decode code 926 = .ok (.iaload, 1) := by decide +kernel
theorem d_L_927 : decode code 927 = .ok (.invokevirtual 106, 3) := by decide +kernel
theorem d_L_930 : decode code 930 = .ok (.aload_n 2, 1) := by decide +kernel
theorem d_L_931 : decode code 931 = .ok (.aload_n 0, 1) := by decide +kernel
theorem d_L_932 : decode code 932 = .ok (.iload_n 3, 1) := by decide +kernel
theorem d_L_933 : decode code 933 = .ok (.iconst 1, 1) := by decide +kernel
theorem d_L_934 : decode code 934 = .ok (.iadd, 1) := by decide +kernel
theorem d_L_935 : decode code 935 = .ok (.iaload, 1) := by decide +kernel
theorem d_L_936 : decode code 936 = .ok (.aload_n 0, 1) := by decide +kernel
theorem d_L_937 : decode code 937 = .ok (.iload_n 3, 1) := by decide +kernel
theorem d_L_938 : decode code 938 = .ok (.iconst 2, 1) := by decide +kernel
theorem d_L_939 : decode code 939 = .ok (.iadd, 1) := by decide +kernel
theorem d_L_940 : decode code 940 = .ok (.iaload, 1) := by decide +kernel
theorem d_L_941 : decode code 941 = .ok (.invokevirtual 109, 3) := by decide +kernel
theorem d_L_944 : decode code 944 = .ok (.if_icmp .eq 470, 3) := by decide +kernel
theorem d_L_947 : decode code 947 = .ok (.iconst 0, 1) := by decide +kernel
theorem d_L_948 : decode code 948 = .ok (.ireturn, 1) := by decide +kernel
theorem d_L_949 : decode code 949 = .ok (.aload_n 1, 1) := by decide +kernel
theorem d_L_950 : decode code 950 = .ok (.aload_n 0, 1) := by decide +kernel
theorem d_L_951 : decode code 951 = .ok (.iload_n 3, 1) := by decide +kernel
theorem d_L_952 : decode code 952 = .ok (.iconst 1, 1) := by decide +kernel
theorem d_L_953 : decode code 953 = .ok (.iadd, 1) := by decide +kernel
theorem d_L_954 : decode code 954 = .ok (.iaload, 1) := by decide +kernel
theorem d_L_955 : decode code 955 = .ok (.aload_n 0, 1) := by decide +kernel
theorem d_L_956 : decode code 956 = .ok (.iload_n 3, 1) := by decide +kernel
theorem d_L_957 : decode code 957 = .ok (.iconst 2, 1) := by decide +kernel
theorem d_L_958 : decode code 958 = .ok (.iadd, 1) := by decide +kernel
theorem d_L_959 : decode code 959 = .ok (.iaload, 1) := by decide +kernel
theorem d_L_960 : decode code 960 = .ok (.invokevirtual 110, 3) := by decide +kernel
theorem d_L_963 : decode code 963 = .ok (.aload_n 2, 1) := by decide +kernel
theorem d_L_964 : decode code 964 = .ok (.aload_n 0, 1) := by decide +kernel
theorem d_L_965 : decode code 965 = .ok (.iload_n 3, 1) := by decide +kernel
theorem d_L_966 : decode code 966 = .ok (.iconst 1, 1) := by decide +kernel
theorem d_L_967 : decode code 967 = .ok (.iadd, 1) := by decide +kernel
theorem d_L_968 : decode code 968 = .ok (.iaload, 1) := by decide +kernel
theorem d_L_969 : decode code 969 = .ok (.aload_n 0, 1) := by decide +kernel
theorem d_L_970 : decode code 970 = .ok (.iload_n 3, 1) := by decide +kernel
theorem d_L_971 : decode code 971 = .ok (.iconst 2, 1) := by decide +kernel
theorem d_L_972 : decode code 972 = .ok (.iadd, 1) := by decide +kernel
theorem d_L_973 : decode code 973 = .ok (.iaload, 1) := by decide +kernel
theorem d_L_974 : decode code 974 = .ok (.invokevirtual 113, 3) := by decide +kernel
theorem d_L_977 : decode code 977 = .ok (.if_icmp .eq 437, 3) := by decide +kernel
theorem d_L_980 : decode code 980 = .ok (.iconst 0, 1) := by decide +kernel
theorem d_L_981 : decode code 981 = .ok (.ireturn, 1) := by decide +kernel
theorem d_L_982 : decode code 982 = .ok (.aload_n 1, 1) := by decide +kernel
theorem d_L_983 : decode code 983 = .ok (.invokevirtual 114, 3) := by decide +kernel
theorem d_L_986 : decode code 986 = .ok (.aload_n 2, 1) := by decide +kernel
theorem d_L_987 : decode code 987 = .ok (.invokevirtual 117, 3) := by decide +kernel
theorem d_L_990 : decode code 990 = .ok (.if_icmp .eq 424, 3) := by decide +kernel
theorem d_L_993 : decode code 993 = .ok (.iconst 0, 1) := by decide +kernel
theorem d_L_994 : decode code 994 = .ok (.ireturn, 1) := by decide +kernel
theorem d_L_995 : decode code 995 = .ok (.aload_n 1, 1) := by decide +kernel
theorem d_L_996 : decode code 996 = .ok (.aload_n 0, 1) := by decide +kernel
theorem d_L_997 : decode code 997 = .ok (.iload_n 3, 1) := by decide +kernel
theorem d_L_998 : decode code 998 = .ok (.iconst 1, 1) := by decide +kernel
theorem d_L_999 : decode code 999 = .ok (.iadd, 1) := by decide +kernel
theorem d_L_1000 : decode code 1000 = .ok (.iaload, 1) := by decide +kernel
theorem d_L_1001 : decode code 1001 = .ok (.invokevirtual 118, 3) := by decide +kernel
theorem d_L_1004 : decode code 1004 = .ok (.aload_n 2, 1) := by decide +kernel
theorem d_L_1005 : decode code 1005 = .ok (.aload_n 0, 1) := by decide +kernel
theorem d_L_1006 : decode code 1006 = .ok (.iload_n 3, 1) := by decide +kernel
theorem d_L_1007 : decode code 1007 = .ok (.iconst 1, 1) := by decide +kernel
theorem d_L_1008 : decode code 1008 = .ok (.iadd, 1) := by decide +kernel
theorem d_L_1009 : decode code 1009 = .ok (.iaload, 1) := by decide +kernel
theorem d_L_1010 : decode code 1010 = .ok (.invokevirtual 121, 3) := by decide +kernel
theorem d_L_1013 : decode code 1013 = .ok (.if_icmp .eq 401, 3) := by decide +kernel
theorem d_L_1016 : decode code 1016 = .ok (.iconst 0, 1) := by decide +kernel
theorem d_L_1017 : decode code 1017 = .ok (.ireturn, 1) := by decide +kernel
theorem d_L_1018 : decode code 1018 = .ok (.aload_n 1, 1) := by decide +kernel
theorem d_L_1019 : decode code 1019 = .ok (.aload_n 0, 1) := by decide +kernel
theorem d_L_1020 : decode code 1020 = .ok (.iload_n 3, 1) := by decide +kernel
theorem d_L_1021 : decode code 1021 = .ok (.iconst 1, 1) := by decide +kernel
theorem d_L_1022 : decode code 1022 = .ok (.iadd, 1) := by decide +kernel
theorem d_L_1023 : decode code 1023 = .ok (.iaload, 1) := by decide +kernel
theorem d_L_1024 : decode code 1024 = .ok (.invokevirtual 122, 3) := by decide +kernel
theorem d_L_1027 : decode code 1027 = .ok (.aload_n 2, 1) := by decide +kernel
theorem d_L_1028 : decode code 1028 = .ok (.aload_n 0, 1) := by decide +kernel
theorem d_L_1029 : decode code 1029 = .ok (.iload_n 3, 1) := by decide +kernel
theorem d_L_1030 : decode code 1030 = .ok (.iconst 1, 1) := by decide +kernel
theorem d_L_1031 : decode code 1031 = .ok (.iadd, 1) := by decide +kernel
theorem d_L_1032 : decode code 1032 = .ok (.iaload, 1) := by decide +kernel
theorem d_L_1033 : decode code 1033 = .ok (.invokevirtual 125, 3) := by decide +kernel
theorem d_L_1036 : decode code 1036 = .ok (.if_icmp .eq 378, 3) := by decide +kernel
theorem d_L_1039 : decode code 1039 = .ok (.iconst 0, 1) := by decide +kernel
theorem d_L_1040 : decode code 1040 = .ok (.ireturn, 1) := by decide +kernel
theorem d_L_1041 : decode code 1041 = .ok (.aload_n 1, 1) := by decide +kernel
theorem d_L_1042 : decode code 1042 = .ok (.aload_n 0, 1) := by decide +kernel
theorem d_L_1043 : decode code 1043 = .ok (.iload_n 3, 1) := by decide +kernel
theorem d_L_1044 : decode code 1044 = .ok (.iconst 1, 1) := by decide +kernel
theorem d_L_1045 : decode code 1045 = .ok (.iadd, 1) := by decide +kernel
theorem d_L_1046 : decode code 1046 = .ok (.iaload, 1) := by decide +kernel
theorem d_L_1047 : decode code 1047 = .ok (.invokevirtual 126, 3) := by decide +kernel
theorem d_L_1050 : decode code 1050 = .ok (.aload_n 2, 1) := by decide +kernel
theorem d_L_1051 : decode code 1051 = .ok (.aload_n 0, 1) := by decide +kernel
theorem d_L_1052 : decode code 1052 = .ok (.iload_n 3, 1) := by decide +kernel
theorem d_L_1053 : decode code 1053 = .ok (.iconst 1, 1) := by decide +kernel
theorem d_L_1054 : decode code 1054 = .ok (.iadd, 1) := by decide +kernel
theorem d_L_1055 : decode code 1055 = .ok (.iaload, 1) := by decide +kernel
theorem d_L_1056 : decode code 1056 = .ok (.invokevirtual 129, 3) := by decide +kernel
theorem d_L_1059 : decode code 1059 = .ok (.if_icmp .eq 355, 3) := by decide +kernel
theorem d_L_1062 : decode code 1062 = .ok (.iconst 0, 1) := by decide +kernel
theorem d_L_1063 : decode code 1063 = .ok (.ireturn, 1) := by decide +kernel
theorem d_L_1064 : decode code 1064 = .ok (.aload_n 1, 1) := by decide +kernel
theorem d_L_1065 : decode code 1065 = .ok (.aload_n 0, 1) := by decide +kernel
theorem d_L_1066 : decode code 1066 = .ok (.iload_n 3, 1) := by decide +kernel
theorem d_L_1067 : decode code 1067 = .ok (.iconst 1, 1) := by decide +kernel
theorem d_L_1068 : decode code 1068 = .ok (.iadd, 1) := by decide +kernel
theorem d_L_1069 : decode code 1069 = .ok (.iaload, 1) := by decide +kernel
theorem d_L_1070 : decode code 1070 = .ok (.aload_n 0, 1) := by decide +kernel
theorem d_L_1071 : decode code 1071 = .ok (.iload_n 3, 1) := by decide +kernel
theorem d_L_1072 : decode code 1072 = .ok (.iconst 2, 1) := by decide +kernel
theorem d_L_1073 : decode code 1073 = .ok (.iadd, 1) := by decide +kernel
theorem d_L_1074 : decode code 1074 = .ok (.iaload, 1) := by decide +kernel
theorem d_L_1075 : decode code 1075 = .ok (.invokevirtual 130, 3) := by decide +kernel
theorem d_L_1078 : decode code 1078 = .ok (.aload_n 2, 1) := by decide +kernel
theorem d_L_1079 : decode code 1079 = .ok (.aload_n 0, 1) := by decide +kernel
theorem d_L_1080 : decode code 1080 = .ok (.iload_n 3, 1) := by decide +kernel
theorem d_L_1081 : decode code 1081 = .ok (.iconst 1, 1) := by decide +kernel
theorem d_L_1082 : decode code 1082 = .ok (.iadd, 1) := by decide +kernel
theorem d_L_1083 : decode code 1083 = .ok (.iaload, 1) := by decide +kernel
theorem d_L_1084 : decode code 1084 = .ok (.aload_n 0, 1) := by decide +kernel
theorem d_L_1085 : decode code 1085 = .ok (.iload_n 3, 1) := by decide +kernel
theorem d_L_1086 : decode code 1086 = .ok (.iconst 2, 1) := by decide +kernel
theorem d_L_1087 : decode code 1087 = .ok (.iadd, 1) := by decide +kernel
theorem d_L_1088 : decode code 1088 = .ok (.iaload, 1) := by decide +kernel
theorem d_L_1089 : decode code 1089 = .ok (.invokevirtual 133, 3) := by decide +kernel
theorem d_L_1092 : decode code 1092 = .ok (.if_icmp .eq 322, 3) := by decide +kernel
theorem d_L_1095 : decode code 1095 = .ok (.iconst 0, 1) := by decide +kernel
theorem d_L_1096 : decode code 1096 = .ok (.ireturn, 1) := by decide +kernel
theorem d_L_1097 : decode code 1097 = .ok (.aload_n 1, 1) := by decide +kernel
theorem d_L_1098 : decode code 1098 = .ok (.aload_n 0, 1) := by decide +kernel
theorem d_L_1099 : decode code 1099 = .ok (.iload_n 3, 1) := by decide +kernel
theorem d_L_1100 : decode code 1100 = .ok (.iconst 1, 1) := by decide +kernel
theorem d_L_1101 : decode code 1101 = .ok (.iadd, 1) := by decide +kernel
theorem d_L_1102 : decode code 1102 = .ok (.iaload, 1) := by decide +kernel
theorem d_L_1103 : decode code 1103 = .ok (.invokevirtual 134, 3) := by decide +kernel
theorem d_L_1106 : decode code 1106 = .ok (.aload_n 2, 1) := by decide +kernel
theorem d_L_1107 : decode code 1107 = .ok (.aload_n 0, 1) := by decide +kernel
theorem d_L_1108 : decode code 1108 = .ok (.iload_n 3, 1) := by decide +kernel
theorem d_L_1109 : decode code 1109 = .ok (.iconst 1, 1) := by decide +kernel
theorem d_L_1110 : decode code 1110 = .ok (.iadd, 1) := by decide +kernel
theorem d_L_1111 : decode code 1111 = .ok (.iaload, 1) := by decide +kernel
theorem d_L_1112 : decode code 1112 = .ok (.invokevirtual 137, 3) := by decide +kernel
theorem d_L_1115 : decode code 1115 = .ok (.if_icmp .eq 299, 3) := by decide +kernel
theorem d_L_1118 : decode code 1118 = .ok (.iconst 0, 1) := by decide +kernel
theorem d_L_1119 : decode code 1119 = .ok (.ireturn, 1) := by decide +kernel
theorem d_L_1120 : decode code 1120 = .ok (.aload_n 1, 1) := by decide +kernel
theorem d_L_1121 : decode code 1121 = .ok (.aload_n 0, 1) := by decide +kernel
theorem d_L_1122 : decode code 1122 = .ok (.iload_n 3, 1) := by decide +kernel
theorem d_L_1123 : decode code 1123 = .ok (.iconst 1, 1) := by decide +kernel
theorem d_L_1124 : decode code 1124 = .ok (.iadd, 1) := by decide +kernel
theorem d_L_1125 : decode code 1125 = .ok (.iaload, 1) := by decide +kernel
theorem d_L_1126 : decode code 1126 = .ok (.invokevirtual 138, 3) := by decide +kernel
theorem d_L_1129 : decode code 1129 = .ok (.aload_n 2, 1) := by decide +kernel
theorem d_L_1130 : decode code 1130 = .ok (.aload_n 0, 1) := by decide +kernel
theorem d_L_1131 : decode code 1131 = .ok (.iload_n 3, 1) := by decide +kernel
theorem d_L_1132 : decode code 1132 = .ok (.iconst 1, 1) := by decide +kernel
theorem d_L_1133 : decode code 1133 = .ok (.iadd, 1) := by decide +kernel
theorem d_L_1134 : decode code 1134 = .ok (.iaload, 1) := by decide +kernel
theorem d_L_1135 : decode code 1135 = .ok (.invokevirtual 141, 3) := by decide +kernel
theorem d_L_1138 : decode code 1138 = .ok (.if_icmp .eq 276, 3) := by decide +kernel
theorem d_L_1141 : decode code 1141 = .ok (.iconst 0, 1) := by decide +kernel
theorem d_L_1142 : decode code 1142 = .ok (.ireturn, 1) := by decide +kernel
theorem d_L_1143 : decode code 1143 = .ok (.aload_n 1, 1) := by decide +kernel
theorem d_L_1144 : decode code 1144 = .ok (.aload_n 0, 1) := by decide +kernel
theorem d_L_1145 : decode code 1145 = .ok (.iload_n 3, 1) := by decide +kernel
theorem d_L_1146 : decode code 1146 = .ok (.iconst 1, 1) := by decide +kernel
theorem d_L_1147 : decode code 1147 = .ok (.iadd, 1) := by decide +kernel
theorem d_L_1148 : decode code 1148 = .ok (.iaload, 1) := by decide +kernel
theorem d_L_1149 : decode code 1149 = .ok (.aload_n 0, 1) := by decide +kernel
theorem d_L_1150 : decode code 1150 = .ok (.iload_n 3, 1) := by decide +kernel
theorem d_L_1151 : decode code 1151 = .ok (.iconst 2, 1) := by decide +kernel
theorem d_L_1152 : decode code 1152 = .ok (.iadd, 1) := by decide +kernel
theorem d_L_1153 : decode code 1153 = .ok (.iaload, 1) := by decide +kernel
theorem d_L_1154 : decode code 1154 = .ok (.aload_n 0, 1) := by decide +kernel
theorem d_L_1155 : decode code 1155 = .ok (.iload_n 3, 1) := by decide +kernel
theorem d_L_1156 : decode code 1156 = .ok (.iconst 3, 1) := by decide +kernel
theorem d_L_1157 : decode code 1157 = .ok (.iadd, 1) := by decide +kernel
theorem d_L_1158 : decode code 1158 = .ok (.iaload, 1) := by decide +kernel
theorem d_L_1159 : decode code 1159 = .ok (.invokevirtual 142, 3) := by decide +kernel
theorem d_L_1162 : decode code 1162 = .ok (.aload_n 2, 1) := by decide +kernel
theorem d_L_1163 : decode code 1163 = .ok (.aload_n 0, 1) := by decide +kernel
theorem d_L_1164 : decode code 1164 = .ok (.iload_n 3, 1) := by decide +kernel
theorem d_L_1165 : decode code 1165 = .ok (.iconst 1, 1) := by decide +kernel
theorem d_L_1166 : decode code 1166 = .ok (.iadd, 1) := by decide +kernel
theorem d_L_1167 : decode code 1167 = .ok (.iaload, 1) := by decide +kernel
theorem d_L_1168 : decode code 1168 = .ok (.aload_n 0, 1) := by decide +kernel
theorem d_L_1169 : decode code 1169 = .ok (.iload_n 3, 1) := by decide +kernel
theorem d_L_1170 : decode code 1170 = .ok (.iconst 2, 1) := by decide +kernel
theorem d_L_1171 : decode code 1171 = .ok (.iadd, 1) := by decide +kernel
theorem d_L_1172 : decode code 1172 = .ok (.iaload, 1) := by decide +kernel
theorem d_L_1173 : decode code 1173 = .ok (.aload_n 0, 1) := by decide +kernel
theorem d_L_1174 : decode code 1174 = .ok (.iload_n 3, 1) := by decide +kernel
theorem d_L_1175 : decode code 1175 = .ok (.iconst 3, 1) := by decide +kernel
theorem d_L_1176 : decode code 1176 = .ok (.iadd, 1) := by decide +kernel
theorem d_L_1177 : decode code 1177 = .ok (.iaload, 1) := by decide +kernel
theorem d_L_1178 : decode code 1178 = .ok (.invokevirtual 145, 3) := by decide +kernel
theorem d_L_1181 : decode code 1181 = .ok (.if_icmp .eq 233, 3) := by decide +kernel
theorem d_L_1184 : decode code 1184 = .ok (.iconst 0, 1) := by decide +kernel
theorem d_L_1185 : decode code 1185 = .ok (.ireturn, 1) := by decide +kernel
theorem d_L_1186 : decode code 1186 = .ok (.aload_n 1, 1) := by decide +kernel
theorem d_L_1187 : decode code 1187 = .ok (.aload_n 0, 1) := by decide +kernel
theorem d_L_1188 : decode code 1188 = .ok (.iload_n 3, 1) := by decide +kernel
theorem d_L_1189 : decode code 1189 = .ok (.iconst 1, 1) := by decide +kernel
theorem d_L_1190 : decode code 1190 = .ok (.iadd, 1) := by decide +kernel
theorem d_L_1191 : decode code 1191 = .ok (.iaload, 1) := by decide +kernel
theorem d_L_1192 : decode code 1192 = .ok (.invokevirtual 146, 3) := by decide +kernel
theorem d_L_1195 : decode code 1195 = .ok (.aload_n 2, 1) := by decide +kernel
theorem d_L_1196 : decode code 1196 = .ok (.aload_n 0, 1) := by decide +kernel
theorem d_L_1197 : decode code 1197 = .ok (.iload_n 3, 1) := by decide +kernel
theorem d_L_1198 : decode code 1198 = .ok (.iconst 1, 1) := by decide +kernel
theorem d_L_1199 : decode code 1199 = .ok (.iadd, 1) := by decide +kernel
theorem d_L_1200 : decode code 1200 = .ok (.iaload, 1) := by decide +kernel
theorem d_L_1201 : decode code 1201 = .ok (.invokevirtual 149, 3) := by decide +kernel
theorem d_L_1204 : decode code 1204 = .ok (.if_icmp .eq 210, 3) := by decide +kernel
theorem d_L_1207 : decode code 1207 = .ok (.iconst 0, 1) := by decide +kernel
theorem d_L_1208 : decode code 1208 = .ok (.ireturn, 1) := by decide +kernel
theorem d_L_1209 : decode code 1209 = .ok (.aload_n 1, 1) := by decide +kernel
theorem d_L_1210 : decode code 1210 = .ok (.aload_n 0, 1) := by decide +kernel
theorem d_L_1211 : decode code 1211 = .ok (.iload_n 3, 1) := by decide +kernel
theorem d_L_1212 : decode code 1212 = .ok (.iconst 1, 1) := by decide +kernel
theorem d_L_1213 : decode code 1213 = .ok (.iadd, 1) := by decide +kernel
theorem d_L_1214 : decode code 1214 = .ok (.iaload, 1) := by decide +kernel
theorem d_L_1215 : decode code 1215 = .ok (.aload_n 0, 1) := by decide +kernel
theorem d_L_1216 : decode code 1216 = .ok (.iload_n 3, 1) := by decide +kernel
theorem d_L_1217 : decode code 1217 = .ok (.iconst 2, 1) := by decide +kernel
theorem d_L_1218 : decode code 1218 = .ok (.iadd, 1) := by decide +kernel
theorem d_L_1219 : decode code 1219 = .ok (.iaload, 1) := by decide +kernel
theorem d_L_1220 : decode code 1220 = .ok (.invokevirtual 150, 3) := by decide +kernel
theorem d_L_1223 : decode code 1223 = .ok (.aload_n 2, 1) := by decide +kernel
theorem d_L_1224 : decode code 1224 = .ok (.aload_n 0, 1) := by decide +kernel
theorem d_L_1225 : decode code 1225 = .ok (.iload_n 3, 1) := by decide +kernel
theorem d_L_1226 : decode code 1226 = .ok (.iconst 1, 1) := by decide +kernel
theorem d_L_1227 : decode code 1227 = .ok (.iadd, 1) := by decide +kernel
theorem d_L_1228 : decode code 1228 = .ok (.iaload, 1) := by decide +kernel
theorem d_L_1229 : decode code 1229 = .ok (.aload_n 0, 1) := by decide +kernel
theorem d_L_1230 : decode code 1230 = .ok (.iload_n 3, 1) := by decide +kernel
theorem d_L_1231 : decode code 1231 = .ok (.iconst 2, 1) := by decide +kernel
theorem d_L_1232 : decode code 1232 = .ok (.iadd, 1) := by decide +kernel
theorem d_L_1233 : decode code 1233 = .ok (.iaload, 1) := by decide +kernel
theorem d_L_1234 : decode code 1234 = .ok (.invokevirtual 153, 3) := by decide +kernel
theorem d_L_1237 : decode code 1237 = .ok (.if_icmp .eq 177, 3) := by decide +kernel
theorem d_L_1240 : decode code 1240 = .ok (.iconst 0, 1) := by decide +kernel
theorem d_L_1241 : decode code 1241 = .ok (.ireturn, 1) := by decide +kernel
theorem d_L_1242 : decode code 1242 = .ok (.aload_n 1, 1) := by decide +kernel
theorem d_L_1243 : decode code 1243 = .ok (.aload_n 0, 1) := by decide +kernel
theorem d_L_1244 : decode code 1244 = .ok (.iload_n 3, 1) := by decide +kernel
theorem d_L_1245 : decode code 1245 = .ok (.iconst 1, 1) := by decide +kernel
theorem d_L_1246 : decode code 1246 = .ok (.iadd, 1) := by decide +kernel
theorem d_L_1247 : decode code 1247 = .ok (.iaload, 1) := by decide +kernel
theorem d_L_1248 : decode code 1248 = .ok (.invokevirtual 154, 3) := by decide +kernel
theorem d_L_1251 : decode code 1251 = .ok (.aload_n 2, 1) := by decide +kernel
theorem d_L_1252 : decode code 1252 = .ok (.aload_n 0, 1) := by decide +kernel
theorem d_L_1253 : decode code 1253 = .ok (.iload_n 3, 1) := by decide +kernel
theorem d_L_1254 : decode code 1254 = .ok (.iconst 1, 1) := by decide +kernel
theorem d_L_1255 : decode code 1255 = .ok (.iadd, 1) := by decide +kernel
theorem d_L_1256 : decode code 1256 = .ok (.iaload, 1) := by decide +kernel
theorem d_L_1257 : decode code 1257 = .ok (.invokevirtual 157, 3) := by decide +kernel
theorem d_L_1260 : decode code 1260 = .ok (.if_icmp .eq 154, 3) := by decide +kernel
theorem d_L_1263 : decode code 1263 = .ok (.iconst 0, 1) := by decide +kernel
theorem d_L_1264 : decode code 1264 = .ok (.ireturn, 1) := by decide +kernel
theorem d_L_1265 : decode code 1265 = .ok (.aload_n 1, 1) := by decide +kernel
theorem d_L_1266 : decode code 1266 = .ok (.aload_n 0, 1) := by decide +kernel
theorem d_L_1267 : decode code 1267 = .ok (.iload_n 3, 1) := by decide +kernel
theorem d_L_1268 : decode code 1268 = .ok (.iconst 1, 1) := by decide +kernel
theorem d_L_1269 : decode code 1269 = .ok (.iadd, 1) := by decide +kernel
theorem d_L_1270 : decode code 1270 = .ok (.iaload, 1) := by decide +kernel
theorem d_L_1271 : decode code 1271 = .ok (.aload_n 0, 1) := by decide +kernel
theorem d_L_1272 : decode code 1272 = .ok (.iload_n 3, 1) := by decide +kernel
theorem d_L_1273 : decode code 1273 = .ok (.iconst 2, 1) := by decide +kernel
theorem d_L_1274 : decode code 1274 = .ok (.iadd, 1) := by decide +kernel
theorem d_L_1275 : decode code 1275 = .ok (.iaload, 1) := by decide +kernel
theorem d_L_1276 : decode code 1276 = .ok (.aload_n 0, 1) := by decide +kernel
theorem d_L_1277 : decode code 1277 = .ok (.iload_n 3, 1) := by decide +kernel
theorem d_L_1278 : decode code 1278 = .ok (.iconst 3, 1) := by decide +kernel
theorem d_L_1279 : decode code 1279 = .ok (.iadd, 1) := by decide +kernel
theorem d_L_1280 : decode code 1280 = .ok (.iaload, 1) := by decide +kernel
theorem d_L_1281 : decode code 1281 = .ok (.invokevirtual 158, 3) := by decide +kernel
theorem d_L_1284 : decode code 1284 = .ok (.aload_n 2, 1) := by decide +kernel
theorem d_L_1285 : decode code 1285 = .ok (.aload_n 0, 1) := by decide +kernel
theorem d_L_1286 : decode code 1286 = .ok (.iload_n 3, 1) := by decide +kernel
theorem d_L_1287 : decode code 1287 = .ok (.iconst 1, 1) := by decide +kernel
theorem d_L_1288 : decode code 1288 = .ok (.iadd, 1) := by decide +kernel
theorem d_L_1289 : decode code 1289 = .ok (.iaload, 1) := by decide +kernel
theorem d_L_1290 : decode code 1290 = .ok (.aload_n 0, 1) := by decide +kernel
theorem d_L_1291 : decode code 1291 = .ok (.iload_n 3, 1) := by decide +kernel
theorem d_L_1292 : decode code 1292 = .ok (.iconst 2, 1) := by decide +kernel
theorem d_L_1293 : decode code 1293 = .ok (.iadd, 1) := by decide +kernel
theorem d_L_1294 : decode code 1294 = .ok (.iaload, 1) := by decide +kernel
theorem d_L_1295 : decode code 1295 = .ok (.aload_n 0, 1) := by decide +kernel
theorem d_L_1296 : decode code 1296 = .ok (.iload_n 3, 1) := by decide +kernel
theorem d_L_1297 : decode code 1297 = .ok (.iconst 3, 1) := by decide +kernel
theorem d_L_1298 : decode code 1298 = .ok (.iadd, 1) := by decide +kernel
theorem d_L_1299 : decode code 1299 = .ok (.iaload, 1) := by decide +kernel
theorem d_L_1300 : decode code 1300 = .ok (.invokevirtual 161, 3) := by decide +kernel
theorem d_L_1303 : decode code 1303 = .ok (.if_icmp .eq 111, 3) := by decide +kernel
theorem d_L_1306 : decode code 1306 = .ok (.iconst 0, 1) := by decide +kernel
theorem d_L_1307 : decode code 1307 = .ok (.ireturn, 1) := by decide +kernel
theorem d_L_1308 : decode code 1308 = .ok (.aload_n 1, 1) := by decide +kernel
theorem d_L_1309 : decode code 1309 = .ok (.aload_n 0, 1) := by decide +kernel
theorem d_L_1310 : decode code 1310 = .ok (.iload_n 3, 1) := by decide +kernel
theorem d_L_1311 : decode code 1311 = .ok (.iconst 1, 1) := by decide +kernel
theorem d_L_1312 : decode code 1312 = .ok (.iadd, 1) := by decide +kernel
theorem d_L_1313 : decode code 1313 = .ok (.iaload, 1) := by decide +kernel
theorem d_L_1314 : decode code 1314 = .ok (.aload_n 0, 1) := by decide +kernel
theorem d_L_1315 : decode code 1315 = .ok (.iload_n 3, 1) := by decide +kernel
theorem d_L_1316 : decode code 1316 = .ok (.iconst 2, 1) := by decide +kernel
theorem d_L_1317 : decode code 1317 = .ok (.iadd, 1) := by decide +kernel
theorem d_L_1318 : decode code 1318 = .ok (.iaload, 1) := by decide +kernel
theorem d_L_1319 : decode code 1319 = .ok (.aload_n 0, 1) := by decide +kernel
theorem d_L_1320 : decode code 1320 = .ok (.iload_n 3, 1) := by decide +kernel
theorem d_L_1321 : decode code 1321 = .ok (.iconst 3, 1) := by decide +kernel
theorem d_L_1322 : decode code 1322 = .ok (.iadd, 1) := by decide +kernel
theorem d_L_1323 : decode code 1323 = .ok (.iaload, 1) := by decide +kernel
theorem d_L_1324 : decode code 1324 = .ok (.invokevirtual 162, 3) := by decide +kernel
theorem d_L_1327 : decode code 1327 = .ok (.aload_n 2, 1) := by decide +kernel
theorem d_L_1328 : decode code 1328 = .ok (.aload_n 0, 1) := by decide +kernel
theorem d_L_1329 : decode code 1329 = .ok (.iload_n 3, 1) := by decide +kernel
theorem d_L_1330 : decode code 1330 = .ok (.iconst 1, 1) := by decide +kernel
theorem d_L_1331 : decode code 1331 = .ok (.iadd, 1) := by decide +kernel
theorem d_L_1332 : decode code 1332 = .ok (.iaload, 1) := by decide +kernel
theorem d_L_1333 : decode code 1333 = .ok (.aload_n 0, 1) := by decide +kernel
theorem d_L_1334 : decode code 1334 = .ok (.iload_n 3, 1) := by decide +kernel
theorem d_L_1335 : decode code 1335 = .ok (.iconst 2, 1) := by decide +kernel
theorem d_L_1336 : decode code 1336 = .ok (.iadd, 1) := by decide +kernel
theorem d_L_1337 : decode code 1337 = .ok (.iaload, 1) := by decide +kernel
theorem d_L_1338 : decode code 1338 = .ok (.aload_n 0, 1) := by decide +kernel
theorem d_L_1339 : decode code 1339 = .ok (.iload_n 3, 1) := by decide +kernel
theorem d_L_1340 : decode code 1340 = .ok (.iconst 3, 1) := by decide +kernel
theorem d_L_1341 : decode code 1341 = .ok (.iadd, 1) := by decide +kernel
theorem d_L_1342 : decode code 1342 = .ok (.iaload, 1) := by decide +kernel
theorem d_L_1343 : decode code 1343 = .ok (.invokevirtual 165, 3) := by decide +kernel
theorem d_L_1346 : decode code 1346 = .ok (.if_icmp .eq 68, 3) := by decide +kernel
theorem d_L_1349 : decode code 1349 = .ok (.iconst 0, 1) := by decide +kernel
theorem d_L_1350 : decode code 1350 = .ok (.ireturn, 1) := by decide +kernel
theorem d_L_1351 : decode code 1351 = .ok (.aload_n 1, 1) := by decide +kernel
theorem d_L_1352 : decode code 1352 = .ok (.aload_n 0, 1) := by decide +kernel
theorem d_L_1353 : decode code 1353 = .ok (.iload_n 3, 1) := by decide +kernel
theorem d_L_1354 : decode code 1354 = .ok (.iconst 1, 1) := by decide +kernel
theorem d_L_1355 : decode code 1355 = .ok (.iadd, 1) := by decide +kernel
theorem d_L_1356 : decode code 1356 = .ok (.iaload, 1) := by decide +kernel
theorem d_L_1357 : decode code 1357 = .ok (.aload_n 0, 1) := by decide +kernel
theorem d_L_1358 : decode code 1358 = .ok (.iload_n 3, 1) := by decide +kernel
theorem d_L_1359 : decode code 1359 = .ok (.iconst 2, 1) := by decide +kernel
theorem d_L_1360 : decode code 1360 = .ok (.iadd, 1) := by decide +kernel
theorem d_L_1361 : decode code 1361 = .ok (.iaload, 1) := by decide +kernel
theorem d_L_1362 : decode code 1362 = .ok (.aload_n 0, 1) := by decide +kernel
theorem d_L_1363 : decode code 1363 = .ok (.iload_n 3, 1) := by decide +kernel
theorem d_L_1364 : decode code 1364 = .ok (.iconst 3, 1) := by decide +kernel
theorem d_L_1365 : decode code 1365 = .ok (.iadd, 1) := by decide +kernel
theorem d_L_1366 : decode code 1366 = .ok (.iaload, 1) := by decide +kernel
theorem d_L_1367 : decode code 1367 = .ok (.aload_n 0, 1) := by decide +kernel
theorem d_L_1368 : decode code 1368 = .ok (.iload_n 3, 1) := by decide +kernel
theorem d_L_1369 : decode code 1369 = .ok (.iconst 4, 1) := by decide +kernel
theorem d_L_1370 : decode code 1370 = .ok (.iadd, 1) := by decide +kernel
theorem d_L_1371 : decode code 1371 = .ok (.iaload, 1) := by decide +kernel
theorem d_L_1372 : decode code 1372 = .ok (.aload_n 0, 1) := by decide +kernel
theorem d_L_1373 : decode code 1373 = .ok (.iload_n 3, 1) := by decide +kernel
theorem d_L_1374 : decode code 1374 = .ok (.iconst 5, 1) := by decide +kernel
theorem d_L_1375 : decode code 1375 = .ok (.iadd, 1) := by decide +kernel
theorem d_L_1376 : decode code 1376 = .ok (.iaload, 1) := by decide +kernel
theorem d_L_1377 : decode code 1377 = .ok (.invokevirtual 166, 3) := by decide +kernel
theorem d_L_1380 : decode code 1380 = .ok (.aload_n 2, 1) := by decide +kernel
theorem d_L_1381 : decode code 1381 = .ok (.aload_n 0, 1) := by decide +kernel
theorem d_L_1382 : decode code 1382 = .ok (.iload_n 3, 1) := by decide +kernel
theorem d_L_1383 : decode code 1383 = .ok (.iconst 1, 1) := by decide +kernel
theorem d_L_1384 : decode code 1384 = .ok (.iadd, 1) := by decide +kernel
theorem d_L_1385 : decode code 1385 = .ok (.iaload, 1) := by decide +kernel
theorem d_L_1386 : decode code 1386 = .ok (.aload_n 0, 1) := by decide +kernel
theorem d_L_1387 : decode code 1387 = .ok (.iload_n 3, 1) := by decide +kernel
theorem d_L_1388 : decode code 1388 = .ok (.iconst 2, 1) := by decide +kernel
theorem d_L_1389 : decode code 1389 = .ok (.iadd, 1) := by decide +kernel
theorem d_L_1390 : decode code 1390 = .ok (.iaload, 1) := by decide +kernel
theorem d_L_1391 : decode code 1391 = .ok (.aload_n 0, 1) := by decide +kernel
theorem d_L_1392 : decode code 1392 = .ok (.iload_n 3, 1) := by decide +kernel
theorem d_L_1393 : decode code 1393 = .ok (.iconst 3, 1) := by decide +kernel
theorem d_L_1394 : decode code 1394 = .ok (.iadd, 1) := by decide +kernel
theorem d_L_1395 : decode code 1395 = .ok (.iaload, 1) := by decide +kernel
theorem d_L_1396 : decode code 1396 = .ok (.aload_n 0, 1) := by decide +kernel
theorem d_L_1397 : decode code 1397 = .ok (.iload_n 3, 1) := by decide +kernel
theorem d_L_1398 : decode code 1398 = .ok (.iconst 4, 1) := by decide +kernel
theorem d_L_1399 : decode code 1399 = .ok (.iadd, 1) := by decide +kernel
theorem d_L_1400 : decode code 1400 = .ok (.iaload, 1) := by decide +kernel
theorem d_L_1401 : decode code 1401 = .ok (.aload_n 0, 1) := by decide +kernel
theorem d_L_1402 : decode code 1402 = .ok (.iload_n 3, 1) := by decide +kernel
theorem d_L_1403 : decode code 1403 = .ok (.iconst 5, 1) := by decide +kernel
theorem d_L_1404 : decode code 1404 = .ok (.iadd, 1) := by decide +kernel
theorem d_L_1405 : decode code 1405 = .ok (.iaload, 1) := by decide +kernel
theorem d_L_1406 : decode code 1406 = .ok (.invokevirtual 170, 3) := by decide +kernel
theorem d_L_1409 : decode code 1409 = .ok (.if_icmp .eq 5, 3) := by decide +kernel
theorem d_L_1412 : decode code 1412 = .ok (.iconst 0, 1) := by decide +kernel
theorem d_L_1413 : decode code 1413 = .ok (.ireturn, 1) := by decide +kernel
theorem d_L_1414 : decode code 1414 = .ok (.iinc 3 6, 3) := by decide +kernel
theorem d_L_1417 : decode code 1417 = .ok (.goto (-1399), 3) := by decide +kernel
theorem d_L_1420 : decode code 1420 = .ok (.iconst 1, 1) := by decide +kernel
theorem d_L_1421 : decode code 1421 = .ok (.ireturn, 1) := by decide +kernel
theorem mi_Bs_stage : MI M_Bs_stage 2 := ⟨(lwg_at 1 (by decide +kernel) rfl), (lwg_at 293 (by decide +kernel) rfl), ⟨by decide +kernel, by decide +kernel⟩, by decide +kernel, by decide⟩
theorem cs_L_13 : CV R_law 13 RX11 M_Bs_stage 2 := ⟨(lwg_at 290 (by decide +kernel) rfl), (lwg_at 291 (by decide +kernel) rfl), (lwg_at 292 (by decide +kernel) rfl), mi_Bs_stage⟩
theorem mi_M_stage : MI M_M_stage 2 := ⟨(lwg_at 10 (by decide +kernel) rfl), (lwg_at 1365 (by decide +kernel) rfl), ⟨by decide +kernel, by decide +kernel⟩, by decide +kernel, by decide⟩
theorem cs_L_17 : CV R_law 17 RX12 M_M_stage 2 := ⟨(lwg_at 1362 (by decide +kernel) rfl), (lwg_at 1363 (by decide +kernel) rfl), (lwg_at 1364 (by decide +kernel) rfl), mi_M_stage⟩
theorem mi_Bs_wall : MI M_Bs_wall 3 := ⟨(lwg_at 1 (by decide +kernel) rfl), (lwg_at 298 (by decide +kernel) rfl), ⟨by decide +kernel, by decide +kernel⟩, by decide +kernel, by decide⟩
theorem cs_L_18 : CV R_law 18 RX11 M_Bs_wall 3 := ⟨(lwg_at 295 (by decide +kernel) rfl), (lwg_at 296 (by decide +kernel) rfl), (lwg_at 297 (by decide +kernel) rfl), mi_Bs_wall⟩
theorem mi_M_wall : MI M_M_wall 3 := ⟨(lwg_at 10 (by decide +kernel) rfl), (lwg_at 1372 (by decide +kernel) rfl), ⟨by decide +kernel, by decide +kernel⟩, by decide +kernel, by decide⟩
theorem cs_L_22 : CV R_law 22 RX12 M_M_wall 3 := ⟨(lwg_at 1369 (by decide +kernel) rfl), (lwg_at 1370 (by decide +kernel) rfl), (lwg_at 1371 (by decide +kernel) rfl), mi_M_wall⟩
theorem mi_Bs_things : MI M_Bs_things 3 := ⟨(lwg_at 1 (by decide +kernel) rfl), (lwg_at 311 (by decide +kernel) rfl), ⟨by decide +kernel, by decide +kernel⟩, by decide +kernel, by decide⟩
theorem cs_L_23 : CV R_law 23 RX11 M_Bs_things 3 := ⟨(lwg_at 308 (by decide +kernel) rfl), (lwg_at 309 (by decide +kernel) rfl), (lwg_at 310 (by decide +kernel) rfl), mi_Bs_things⟩
theorem mi_M_things : MI M_M_things 3 := ⟨(lwg_at 10 (by decide +kernel) rfl), (lwg_at 1388 (by decide +kernel) rfl), ⟨by decide +kernel, by decide +kernel⟩, by decide +kernel, by decide⟩
theorem cs_L_26 : CV R_law 26 RX12 M_M_things 3 := ⟨(lwg_at 1385 (by decide +kernel) rfl), (lwg_at 1386 (by decide +kernel) rfl), (lwg_at 1387 (by decide +kernel) rfl), mi_M_things⟩
theorem mi_Bs_actor : MI M_Bs_actor 3 := ⟨(lwg_at 1 (by decide +kernel) rfl), (lwg_at 315 (by decide +kernel) rfl), ⟨by decide +kernel, by decide +kernel⟩, by decide +kernel, by decide⟩
theorem cs_L_27 : CV R_law 27 RX11 M_Bs_actor 3 := ⟨(lwg_at 312 (by decide +kernel) rfl), (lwg_at 313 (by decide +kernel) rfl), (lwg_at 314 (by decide +kernel) rfl), mi_Bs_actor⟩
theorem mi_M_actor : MI M_M_actor 3 := ⟨(lwg_at 10 (by decide +kernel) rfl), (lwg_at 1392 (by decide +kernel) rfl), ⟨by decide +kernel, by decide +kernel⟩, by decide +kernel, by decide⟩
theorem cs_L_30 : CV R_law 30 RX12 M_M_actor 3 := ⟨(lwg_at 1389 (by decide +kernel) rfl), (lwg_at 1390 (by decide +kernel) rfl), (lwg_at 1391 (by decide +kernel) rfl), mi_M_actor⟩
theorem mi_Bs_lay : MI M_Bs_lay 3 := ⟨(lwg_at 1 (by decide +kernel) rfl), (lwg_at 323 (by decide +kernel) rfl), ⟨by decide +kernel, by decide +kernel⟩, by decide +kernel, by decide⟩
theorem cs_L_31 : CV R_law 31 RX11 M_Bs_lay 3 := ⟨(lwg_at 320 (by decide +kernel) rfl), (lwg_at 321 (by decide +kernel) rfl), (lwg_at 322 (by decide +kernel) rfl), mi_Bs_lay⟩
theorem mi_M_lay : MI M_M_lay 3 := ⟨(lwg_at 10 (by decide +kernel) rfl), (lwg_at 1396 (by decide +kernel) rfl), ⟨by decide +kernel, by decide +kernel⟩, by decide +kernel, by decide⟩
theorem cs_L_34 : CV R_law 34 RX12 M_M_lay 3 := ⟨(lwg_at 1393 (by decide +kernel) rfl), (lwg_at 1394 (by decide +kernel) rfl), (lwg_at 1395 (by decide +kernel) rfl), mi_M_lay⟩
theorem mi_Bs_keep : MI M_Bs_keep 0 := ⟨(lwg_at 1 (by decide +kernel) rfl), (lwg_at 360 (by decide +kernel) rfl), ⟨by decide +kernel, by decide +kernel⟩, by decide +kernel, by decide⟩
theorem cs_L_35 : CV R_law 35 RX11 M_Bs_keep 0 := ⟨(lwg_at 357 (by decide +kernel) rfl), (lwg_at 358 (by decide +kernel) rfl), (lwg_at 359 (by decide +kernel) rfl), mi_Bs_keep⟩
theorem mi_M_keep : MI M_M_keep 0 := ⟨(lwg_at 10 (by decide +kernel) rfl), (lwg_at 1403 (by decide +kernel) rfl), ⟨by decide +kernel, by decide +kernel⟩, by decide +kernel, by decide⟩
theorem cs_L_39 : CV R_law 39 RX12 M_M_keep 0 := ⟨(lwg_at 1400 (by decide +kernel) rfl), (lwg_at 1401 (by decide +kernel) rfl), (lwg_at 1402 (by decide +kernel) rfl), mi_M_keep⟩
theorem mi_Bs_use : MI M_Bs_use 1 := ⟨(lwg_at 1 (by decide +kernel) rfl), (lwg_at 371 (by decide +kernel) rfl), ⟨by decide +kernel, by decide +kernel⟩, by decide +kernel, by decide⟩
theorem cs_L_40 : CV R_law 40 RX11 M_Bs_use 1 := ⟨(lwg_at 368 (by decide +kernel) rfl), (lwg_at 369 (by decide +kernel) rfl), (lwg_at 370 (by decide +kernel) rfl), mi_Bs_use⟩
theorem mi_M_use : MI M_M_use 1 := ⟨(lwg_at 10 (by decide +kernel) rfl), (lwg_at 1411 (by decide +kernel) rfl), ⟨by decide +kernel, by decide +kernel⟩, by decide +kernel, by decide⟩
theorem cs_L_44 : CV R_law 44 RX12 M_M_use 1 := ⟨(lwg_at 1408 (by decide +kernel) rfl), (lwg_at 1409 (by decide +kernel) rfl), (lwg_at 1410 (by decide +kernel) rfl), mi_M_use⟩
theorem mi_Bs_block : MI M_Bs_block 2 := ⟨(lwg_at 1 (by decide +kernel) rfl), (lwg_at 379 (by decide +kernel) rfl), ⟨by decide +kernel, by decide +kernel⟩, by decide +kernel, by decide⟩
theorem cs_L_45 : CV R_law 45 RX11 M_Bs_block 2 := ⟨(lwg_at 376 (by decide +kernel) rfl), (lwg_at 377 (by decide +kernel) rfl), (lwg_at 378 (by decide +kernel) rfl), mi_Bs_block⟩
theorem mi_M_block : MI M_M_block 2 := ⟨(lwg_at 10 (by decide +kernel) rfl), (lwg_at 1415 (by decide +kernel) rfl), ⟨by decide +kernel, by decide +kernel⟩, by decide +kernel, by decide⟩
theorem cs_L_48 : CV R_law 48 RX12 M_M_block 2 := ⟨(lwg_at 1412 (by decide +kernel) rfl), (lwg_at 1413 (by decide +kernel) rfl), (lwg_at 1414 (by decide +kernel) rfl), mi_M_block⟩
theorem mi_Bs_join : MI M_Bs_join 3 := ⟨(lwg_at 1 (by decide +kernel) rfl), (lwg_at 396 (by decide +kernel) rfl), ⟨by decide +kernel, by decide +kernel⟩, by decide +kernel, by decide⟩
theorem cs_L_49 : CV R_law 49 RX11 M_Bs_join 3 := ⟨(lwg_at 393 (by decide +kernel) rfl), (lwg_at 394 (by decide +kernel) rfl), (lwg_at 395 (by decide +kernel) rfl), mi_Bs_join⟩
theorem mi_M_join : MI M_M_join 3 := ⟨(lwg_at 10 (by decide +kernel) rfl), (lwg_at 1422 (by decide +kernel) rfl), ⟨by decide +kernel, by decide +kernel⟩, by decide +kernel, by decide⟩
theorem cs_L_52 : CV R_law 52 RX12 M_M_join 3 := ⟨(lwg_at 1419 (by decide +kernel) rfl), (lwg_at 1420 (by decide +kernel) rfl), (lwg_at 1421 (by decide +kernel) rfl), mi_M_join⟩
theorem mi_Bs_take : MI M_Bs_take 1 := ⟨(lwg_at 1 (by decide +kernel) rfl), (lwg_at 442 (by decide +kernel) rfl), ⟨by decide +kernel, by decide +kernel⟩, by decide +kernel, by decide⟩
theorem cs_L_53 : CV R_law 53 RX11 M_Bs_take 1 := ⟨(lwg_at 439 (by decide +kernel) rfl), (lwg_at 440 (by decide +kernel) rfl), (lwg_at 441 (by decide +kernel) rfl), mi_Bs_take⟩
theorem mi_M_take : MI M_M_take 1 := ⟨(lwg_at 10 (by decide +kernel) rfl), (lwg_at 1453 (by decide +kernel) rfl), ⟨by decide +kernel, by decide +kernel⟩, by decide +kernel, by decide⟩
theorem cs_L_56 : CV R_law 56 RX12 M_M_take 1 := ⟨(lwg_at 1450 (by decide +kernel) rfl), (lwg_at 1451 (by decide +kernel) rfl), (lwg_at 1452 (by decide +kernel) rfl), mi_M_take⟩
theorem mi_Bs_number : MI M_Bs_number 2 := ⟨(lwg_at 1 (by decide +kernel) rfl), (lwg_at 450 (by decide +kernel) rfl), ⟨by decide +kernel, by decide +kernel⟩, by decide +kernel, by decide⟩
theorem cs_L_57 : CV R_law 57 RX11 M_Bs_number 2 := ⟨(lwg_at 447 (by decide +kernel) rfl), (lwg_at 448 (by decide +kernel) rfl), (lwg_at 449 (by decide +kernel) rfl), mi_Bs_number⟩
theorem mi_M_number : MI M_M_number 2 := ⟨(lwg_at 10 (by decide +kernel) rfl), (lwg_at 1461 (by decide +kernel) rfl), ⟨by decide +kernel, by decide +kernel⟩, by decide +kernel, by decide⟩
theorem cs_L_60 : CV R_law 60 RX12 M_M_number 2 := ⟨(lwg_at 1458 (by decide +kernel) rfl), (lwg_at 1459 (by decide +kernel) rfl), (lwg_at 1460 (by decide +kernel) rfl), mi_M_number⟩
theorem mi_Bs_cue : MI M_Bs_cue 4 := ⟨(lwg_at 1 (by decide +kernel) rfl), (lwg_at 465 (by decide +kernel) rfl), ⟨by decide +kernel, by decide +kernel⟩, by decide +kernel, by decide⟩
theorem cs_L_61 : CV R_law 61 RX11 M_Bs_cue 4 := ⟨(lwg_at 462 (by decide +kernel) rfl), (lwg_at 463 (by decide +kernel) rfl), (lwg_at 464 (by decide +kernel) rfl), mi_Bs_cue⟩
theorem mi_M_cue : MI M_M_cue 4 := ⟨(lwg_at 10 (by decide +kernel) rfl), (lwg_at 1465 (by decide +kernel) rfl), ⟨by decide +kernel, by decide +kernel⟩, by decide +kernel, by decide⟩
theorem cs_L_65 : CV R_law 65 RX12 M_M_cue 4 := ⟨(lwg_at 1462 (by decide +kernel) rfl), (lwg_at 1463 (by decide +kernel) rfl), (lwg_at 1464 (by decide +kernel) rfl), mi_M_cue⟩
theorem mi_Bs_top : MI M_Bs_top 2 := ⟨(lwg_at 1 (by decide +kernel) rfl), (lwg_at 476 (by decide +kernel) rfl), ⟨by decide +kernel, by decide +kernel⟩, by decide +kernel, by decide⟩
theorem cs_L_66 : CV R_law 66 RX11 M_Bs_top 2 := ⟨(lwg_at 473 (by decide +kernel) rfl), (lwg_at 474 (by decide +kernel) rfl), (lwg_at 475 (by decide +kernel) rfl), mi_Bs_top⟩
theorem mi_M_top : MI M_M_top 2 := ⟨(lwg_at 10 (by decide +kernel) rfl), (lwg_at 1469 (by decide +kernel) rfl), ⟨by decide +kernel, by decide +kernel⟩, by decide +kernel, by decide⟩
theorem cs_L_69 : CV R_law 69 RX12 M_M_top 2 := ⟨(lwg_at 1466 (by decide +kernel) rfl), (lwg_at 1467 (by decide +kernel) rfl), (lwg_at 1468 (by decide +kernel) rfl), mi_M_top⟩
theorem mi_Bs_look : MI M_Bs_look 2 := ⟨(lwg_at 1 (by decide +kernel) rfl), (lwg_at 492 (by decide +kernel) rfl), ⟨by decide +kernel, by decide +kernel⟩, by decide +kernel, by decide⟩
theorem cs_L_70 : CV R_law 70 RX11 M_Bs_look 2 := ⟨(lwg_at 489 (by decide +kernel) rfl), (lwg_at 490 (by decide +kernel) rfl), (lwg_at 491 (by decide +kernel) rfl), mi_Bs_look⟩
theorem mi_M_look : MI M_M_look 2 := ⟨(lwg_at 10 (by decide +kernel) rfl), (lwg_at 1477 (by decide +kernel) rfl), ⟨by decide +kernel, by decide +kernel⟩, by decide +kernel, by decide⟩
theorem cs_L_73 : CV R_law 73 RX12 M_M_look 2 := ⟨(lwg_at 1474 (by decide +kernel) rfl), (lwg_at 1475 (by decide +kernel) rfl), (lwg_at 1476 (by decide +kernel) rfl), mi_M_look⟩
theorem mi_Bs_hole : MI M_Bs_hole 2 := ⟨(lwg_at 1 (by decide +kernel) rfl), (lwg_at 500 (by decide +kernel) rfl), ⟨by decide +kernel, by decide +kernel⟩, by decide +kernel, by decide⟩
theorem cs_L_74 : CV R_law 74 RX11 M_Bs_hole 2 := ⟨(lwg_at 497 (by decide +kernel) rfl), (lwg_at 498 (by decide +kernel) rfl), (lwg_at 499 (by decide +kernel) rfl), mi_Bs_hole⟩
theorem mi_M_hole : MI M_M_hole 2 := ⟨(lwg_at 10 (by decide +kernel) rfl), (lwg_at 1557 (by decide +kernel) rfl), ⟨by decide +kernel, by decide +kernel⟩, by decide +kernel, by decide⟩
theorem cs_L_77 : CV R_law 77 RX12 M_M_hole 2 := ⟨(lwg_at 1554 (by decide +kernel) rfl), (lwg_at 1555 (by decide +kernel) rfl), (lwg_at 1556 (by decide +kernel) rfl), mi_M_hole⟩
theorem mi_Bs_of : MI M_Bs_of 2 := ⟨(lwg_at 1 (by decide +kernel) rfl), (lwg_at 504 (by decide +kernel) rfl), ⟨by decide +kernel, by decide +kernel⟩, by decide +kernel, by decide⟩
theorem cs_L_78 : CV R_law 78 RX11 M_Bs_of 2 := ⟨(lwg_at 501 (by decide +kernel) rfl), (lwg_at 502 (by decide +kernel) rfl), (lwg_at 503 (by decide +kernel) rfl), mi_Bs_of⟩
theorem mi_M_of : MI M_M_of 2 := ⟨(lwg_at 10 (by decide +kernel) rfl), (lwg_at 1561 (by decide +kernel) rfl), ⟨by decide +kernel, by decide +kernel⟩, by decide +kernel, by decide⟩
theorem cs_L_81 : CV R_law 81 RX12 M_M_of 2 := ⟨(lwg_at 1558 (by decide +kernel) rfl), (lwg_at 1559 (by decide +kernel) rfl), (lwg_at 1560 (by decide +kernel) rfl), mi_M_of⟩
theorem mi_Bs_scriptOf : MI M_Bs_scriptOf 2 := ⟨(lwg_at 1 (by decide +kernel) rfl), (lwg_at 513 (by decide +kernel) rfl), ⟨by decide +kernel, by decide +kernel⟩, by decide +kernel, by decide⟩
theorem cs_L_82 : CV R_law 82 RX11 M_Bs_scriptOf 2 := ⟨(lwg_at 510 (by decide +kernel) rfl), (lwg_at 511 (by decide +kernel) rfl), (lwg_at 512 (by decide +kernel) rfl), mi_Bs_scriptOf⟩
theorem mi_M_scriptOf : MI M_M_scriptOf 2 := ⟨(lwg_at 10 (by decide +kernel) rfl), (lwg_at 1566 (by decide +kernel) rfl), ⟨by decide +kernel, by decide +kernel⟩, by decide +kernel, by decide⟩
theorem cs_L_85 : CV R_law 85 RX12 M_M_scriptOf 2 := ⟨(lwg_at 1563 (by decide +kernel) rfl), (lwg_at 1564 (by decide +kernel) rfl), (lwg_at 1565 (by decide +kernel) rfl), mi_M_scriptOf⟩
theorem mi_Bs_flag : MI M_Bs_flag 0 := ⟨(lwg_at 1 (by decide +kernel) rfl), (lwg_at 534 (by decide +kernel) rfl), ⟨by decide +kernel, by decide +kernel⟩, by decide +kernel, by decide⟩
theorem cs_L_86 : CV R_law 86 RX11 M_Bs_flag 0 := ⟨(lwg_at 531 (by decide +kernel) rfl), (lwg_at 532 (by decide +kernel) rfl), (lwg_at 533 (by decide +kernel) rfl), mi_Bs_flag⟩
theorem mi_M_flag : MI M_M_flag 0 := ⟨(lwg_at 10 (by decide +kernel) rfl), (lwg_at 1570 (by decide +kernel) rfl), ⟨by decide +kernel, by decide +kernel⟩, by decide +kernel, by decide⟩
theorem cs_L_89 : CV R_law 89 RX12 M_M_flag 0 := ⟨(lwg_at 1567 (by decide +kernel) rfl), (lwg_at 1568 (by decide +kernel) rfl), (lwg_at 1569 (by decide +kernel) rfl), mi_M_flag⟩
theorem mi_Bs_tick : MI M_Bs_tick 1 := ⟨(lwg_at 1 (by decide +kernel) rfl), (lwg_at 549 (by decide +kernel) rfl), ⟨by decide +kernel, by decide +kernel⟩, by decide +kernel, by decide⟩
theorem cs_L_90 : CV R_law 90 RX11 M_Bs_tick 1 := ⟨(lwg_at 546 (by decide +kernel) rfl), (lwg_at 547 (by decide +kernel) rfl), (lwg_at 548 (by decide +kernel) rfl), mi_Bs_tick⟩
theorem mi_M_tick : MI M_M_tick 1 := ⟨(lwg_at 10 (by decide +kernel) rfl), (lwg_at 1574 (by decide +kernel) rfl), ⟨by decide +kernel, by decide +kernel⟩, by decide +kernel, by decide⟩
theorem cs_L_93 : CV R_law 93 RX12 M_M_tick 1 := ⟨(lwg_at 1571 (by decide +kernel) rfl), (lwg_at 1572 (by decide +kernel) rfl), (lwg_at 1573 (by decide +kernel) rfl), mi_M_tick⟩
theorem mi_Bs_back : MI M_Bs_back 1 := ⟨(lwg_at 1 (by decide +kernel) rfl), (lwg_at 673 (by decide +kernel) rfl), ⟨by decide +kernel, by decide +kernel⟩, by decide +kernel, by decide⟩
theorem cs_L_94 : CV R_law 94 RX11 M_Bs_back 1 := ⟨(lwg_at 670 (by decide +kernel) rfl), (lwg_at 671 (by decide +kernel) rfl), (lwg_at 672 (by decide +kernel) rfl), mi_Bs_back⟩
theorem mi_M_back : MI M_M_back 1 := ⟨(lwg_at 10 (by decide +kernel) rfl), (lwg_at 1578 (by decide +kernel) rfl), ⟨by decide +kernel, by decide +kernel⟩, by decide +kernel, by decide⟩
theorem cs_L_97 : CV R_law 97 RX12 M_M_back 1 := ⟨(lwg_at 1575 (by decide +kernel) rfl), (lwg_at 1576 (by decide +kernel) rfl), (lwg_at 1577 (by decide +kernel) rfl), mi_M_back⟩
theorem mi_Bs_who : MI M_Bs_who 2 := ⟨(lwg_at 1 (by decide +kernel) rfl), (lwg_at 677 (by decide +kernel) rfl), ⟨by decide +kernel, by decide +kernel⟩, by decide +kernel, by decide⟩
theorem cs_L_98 : CV R_law 98 RX11 M_Bs_who 2 := ⟨(lwg_at 674 (by decide +kernel) rfl), (lwg_at 675 (by decide +kernel) rfl), (lwg_at 676 (by decide +kernel) rfl), mi_Bs_who⟩
theorem mi_M_who : MI M_M_who 2 := ⟨(lwg_at 10 (by decide +kernel) rfl), (lwg_at 1582 (by decide +kernel) rfl), ⟨by decide +kernel, by decide +kernel⟩, by decide +kernel, by decide⟩
theorem cs_L_101 : CV R_law 101 RX12 M_M_who 2 := ⟨(lwg_at 1579 (by decide +kernel) rfl), (lwg_at 1580 (by decide +kernel) rfl), (lwg_at 1581 (by decide +kernel) rfl), mi_M_who⟩
theorem mi_Bs_item : MI M_Bs_item 2 := ⟨(lwg_at 1 (by decide +kernel) rfl), (lwg_at 685 (by decide +kernel) rfl), ⟨by decide +kernel, by decide +kernel⟩, by decide +kernel, by decide⟩
theorem cs_L_102 : CV R_law 102 RX11 M_Bs_item 2 := ⟨(lwg_at 682 (by decide +kernel) rfl), (lwg_at 683 (by decide +kernel) rfl), (lwg_at 684 (by decide +kernel) rfl), mi_Bs_item⟩
theorem mi_M_item : MI M_M_item 2 := ⟨(lwg_at 10 (by decide +kernel) rfl), (lwg_at 1586 (by decide +kernel) rfl), ⟨by decide +kernel, by decide +kernel⟩, by decide +kernel, by decide⟩
theorem cs_L_105 : CV R_law 105 RX12 M_M_item 2 := ⟨(lwg_at 1583 (by decide +kernel) rfl), (lwg_at 1584 (by decide +kernel) rfl), (lwg_at 1585 (by decide +kernel) rfl), mi_M_item⟩
theorem mi_Bs_said : MI M_Bs_said 2 := ⟨(lwg_at 1 (by decide +kernel) rfl), (lwg_at 690 (by decide +kernel) rfl), ⟨by decide +kernel, by decide +kernel⟩, by decide +kernel, by decide⟩
theorem cs_L_106 : CV R_law 106 RX11 M_Bs_said 2 := ⟨(lwg_at 687 (by decide +kernel) rfl), (lwg_at 688 (by decide +kernel) rfl), (lwg_at 689 (by decide +kernel) rfl), mi_Bs_said⟩
theorem mi_M_said : MI M_M_said 2 := ⟨(lwg_at 10 (by decide +kernel) rfl), (lwg_at 1590 (by decide +kernel) rfl), ⟨by decide +kernel, by decide +kernel⟩, by decide +kernel, by decide⟩
theorem cs_L_109 : CV R_law 109 RX12 M_M_said 2 := ⟨(lwg_at 1587 (by decide +kernel) rfl), (lwg_at 1588 (by decide +kernel) rfl), (lwg_at 1589 (by decide +kernel) rfl), mi_M_said⟩
theorem mi_Bs_feed : MI M_Bs_feed 2 := ⟨(lwg_at 1 (by decide +kernel) rfl), (lwg_at 699 (by decide +kernel) rfl), ⟨by decide +kernel, by decide +kernel⟩, by decide +kernel, by decide⟩
theorem cs_L_110 : CV R_law 110 RX11 M_Bs_feed 2 := ⟨(lwg_at 696 (by decide +kernel) rfl), (lwg_at 697 (by decide +kernel) rfl), (lwg_at 698 (by decide +kernel) rfl), mi_Bs_feed⟩
theorem mi_M_feed : MI M_M_feed 2 := ⟨(lwg_at 10 (by decide +kernel) rfl), (lwg_at 1594 (by decide +kernel) rfl), ⟨by decide +kernel, by decide +kernel⟩, by decide +kernel, by decide⟩
theorem cs_L_113 : CV R_law 113 RX12 M_M_feed 2 := ⟨(lwg_at 1591 (by decide +kernel) rfl), (lwg_at 1592 (by decide +kernel) rfl), (lwg_at 1593 (by decide +kernel) rfl), mi_M_feed⟩
theorem mi_Bs_wish : MI M_Bs_wish 0 := ⟨(lwg_at 1 (by decide +kernel) rfl), (lwg_at 707 (by decide +kernel) rfl), ⟨by decide +kernel, by decide +kernel⟩, by decide +kernel, by decide⟩
theorem cs_L_114 : CV R_law 114 RX11 M_Bs_wish 0 := ⟨(lwg_at 704 (by decide +kernel) rfl), (lwg_at 705 (by decide +kernel) rfl), (lwg_at 706 (by decide +kernel) rfl), mi_Bs_wish⟩
theorem mi_M_wish : MI M_M_wish 0 := ⟨(lwg_at 10 (by decide +kernel) rfl), (lwg_at 1598 (by decide +kernel) rfl), ⟨by decide +kernel, by decide +kernel⟩, by decide +kernel, by decide⟩
theorem cs_L_117 : CV R_law 117 RX12 M_M_wish 0 := ⟨(lwg_at 1595 (by decide +kernel) rfl), (lwg_at 1596 (by decide +kernel) rfl), (lwg_at 1597 (by decide +kernel) rfl), mi_M_wish⟩
theorem mi_Bs_mark : MI M_Bs_mark 1 := ⟨(lwg_at 1 (by decide +kernel) rfl), (lwg_at 806 (by decide +kernel) rfl), ⟨by decide +kernel, by decide +kernel⟩, by decide +kernel, by decide⟩
theorem cs_L_118 : CV R_law 118 RX11 M_Bs_mark 1 := ⟨(lwg_at 803 (by decide +kernel) rfl), (lwg_at 804 (by decide +kernel) rfl), (lwg_at 805 (by decide +kernel) rfl), mi_Bs_mark⟩
theorem mi_M_mark : MI M_M_mark 1 := ⟨(lwg_at 10 (by decide +kernel) rfl), (lwg_at 1618 (by decide +kernel) rfl), ⟨by decide +kernel, by decide +kernel⟩, by decide +kernel, by decide⟩
theorem cs_L_121 : CV R_law 121 RX12 M_M_mark 1 := ⟨(lwg_at 1615 (by decide +kernel) rfl), (lwg_at 1616 (by decide +kernel) rfl), (lwg_at 1617 (by decide +kernel) rfl), mi_M_mark⟩
theorem mi_Bs_fails : MI M_Bs_fails 1 := ⟨(lwg_at 1 (by decide +kernel) rfl), (lwg_at 837 (by decide +kernel) rfl), ⟨by decide +kernel, by decide +kernel⟩, by decide +kernel, by decide⟩
theorem cs_L_122 : CV R_law 122 RX11 M_Bs_fails 1 := ⟨(lwg_at 834 (by decide +kernel) rfl), (lwg_at 835 (by decide +kernel) rfl), (lwg_at 836 (by decide +kernel) rfl), mi_Bs_fails⟩
theorem mi_M_fails : MI M_M_fails 1 := ⟨(lwg_at 10 (by decide +kernel) rfl), (lwg_at 1638 (by decide +kernel) rfl), ⟨by decide +kernel, by decide +kernel⟩, by decide +kernel, by decide⟩
theorem cs_L_125 : CV R_law 125 RX12 M_M_fails 1 := ⟨(lwg_at 1635 (by decide +kernel) rfl), (lwg_at 1636 (by decide +kernel) rfl), (lwg_at 1637 (by decide +kernel) rfl), mi_M_fails⟩
theorem mi_Bs_least : MI M_Bs_least 1 := ⟨(lwg_at 1 (by decide +kernel) rfl), (lwg_at 841 (by decide +kernel) rfl), ⟨by decide +kernel, by decide +kernel⟩, by decide +kernel, by decide⟩
theorem cs_L_126 : CV R_law 126 RX11 M_Bs_least 1 := ⟨(lwg_at 838 (by decide +kernel) rfl), (lwg_at 839 (by decide +kernel) rfl), (lwg_at 840 (by decide +kernel) rfl), mi_Bs_least⟩
theorem mi_M_least : MI M_M_least 1 := ⟨(lwg_at 10 (by decide +kernel) rfl), (lwg_at 1642 (by decide +kernel) rfl), ⟨by decide +kernel, by decide +kernel⟩, by decide +kernel, by decide⟩
theorem cs_L_129 : CV R_law 129 RX12 M_M_least 1 := ⟨(lwg_at 1639 (by decide +kernel) rfl), (lwg_at 1640 (by decide +kernel) rfl), (lwg_at 1641 (by decide +kernel) rfl), mi_M_least⟩
theorem mi_Bs_hint : MI M_Bs_hint 2 := ⟨(lwg_at 1 (by decide +kernel) rfl), (lwg_at 884 (by decide +kernel) rfl), ⟨by decide +kernel, by decide +kernel⟩, by decide +kernel, by decide⟩
theorem cs_L_130 : CV R_law 130 RX11 M_Bs_hint 2 := ⟨(lwg_at 881 (by decide +kernel) rfl), (lwg_at 882 (by decide +kernel) rfl), (lwg_at 883 (by decide +kernel) rfl), mi_Bs_hint⟩
theorem mi_M_hint : MI M_M_hint 2 := ⟨(lwg_at 10 (by decide +kernel) rfl), (lwg_at 1682 (by decide +kernel) rfl), ⟨by decide +kernel, by decide +kernel⟩, by decide +kernel, by decide⟩
theorem cs_L_133 : CV R_law 133 RX12 M_M_hint 2 := ⟨(lwg_at 1679 (by decide +kernel) rfl), (lwg_at 1680 (by decide +kernel) rfl), (lwg_at 1681 (by decide +kernel) rfl), mi_M_hint⟩
theorem mi_Bs_write : MI M_Bs_write 1 := ⟨(lwg_at 1 (by decide +kernel) rfl), (lwg_at 888 (by decide +kernel) rfl), ⟨by decide +kernel, by decide +kernel⟩, by decide +kernel, by decide⟩
theorem cs_L_134 : CV R_law 134 RX11 M_Bs_write 1 := ⟨(lwg_at 885 (by decide +kernel) rfl), (lwg_at 886 (by decide +kernel) rfl), (lwg_at 887 (by decide +kernel) rfl), mi_Bs_write⟩
theorem mi_M_write : MI M_M_write 1 := ⟨(lwg_at 10 (by decide +kernel) rfl), (lwg_at 1686 (by decide +kernel) rfl), ⟨by decide +kernel, by decide +kernel⟩, by decide +kernel, by decide⟩
theorem cs_L_137 : CV R_law 137 RX12 M_M_write 1 := ⟨(lwg_at 1683 (by decide +kernel) rfl), (lwg_at 1684 (by decide +kernel) rfl), (lwg_at 1685 (by decide +kernel) rfl), mi_M_write⟩
theorem mi_Bs_text : MI M_Bs_text 1 := ⟨(lwg_at 1 (by decide +kernel) rfl), (lwg_at 913 (by decide +kernel) rfl), ⟨by decide +kernel, by decide +kernel⟩, by decide +kernel, by decide⟩
theorem cs_L_138 : CV R_law 138 RX11 M_Bs_text 1 := ⟨(lwg_at 910 (by decide +kernel) rfl), (lwg_at 911 (by decide +kernel) rfl), (lwg_at 912 (by decide +kernel) rfl), mi_Bs_text⟩
theorem mi_M_text : MI M_M_text 1 := ⟨(lwg_at 10 (by decide +kernel) rfl), (lwg_at 1702 (by decide +kernel) rfl), ⟨by decide +kernel, by decide +kernel⟩, by decide +kernel, by decide⟩
theorem cs_L_141 : CV R_law 141 RX12 M_M_text 1 := ⟨(lwg_at 1699 (by decide +kernel) rfl), (lwg_at 1700 (by decide +kernel) rfl), (lwg_at 1701 (by decide +kernel) rfl), mi_M_text⟩
theorem mi_Bs_act : MI M_Bs_act 3 := ⟨(lwg_at 1 (by decide +kernel) rfl), (lwg_at 918 (by decide +kernel) rfl), ⟨by decide +kernel, by decide +kernel⟩, by decide +kernel, by decide⟩
theorem cs_L_142 : CV R_law 142 RX11 M_Bs_act 3 := ⟨(lwg_at 915 (by decide +kernel) rfl), (lwg_at 916 (by decide +kernel) rfl), (lwg_at 917 (by decide +kernel) rfl), mi_Bs_act⟩
theorem mi_M_act : MI M_M_act 3 := ⟨(lwg_at 10 (by decide +kernel) rfl), (lwg_at 1706 (by decide +kernel) rfl), ⟨by decide +kernel, by decide +kernel⟩, by decide +kernel, by decide⟩
theorem cs_L_145 : CV R_law 145 RX12 M_M_act 3 := ⟨(lwg_at 1703 (by decide +kernel) rfl), (lwg_at 1704 (by decide +kernel) rfl), (lwg_at 1705 (by decide +kernel) rfl), mi_M_act⟩
theorem mi_Bs_trace : MI M_Bs_trace 1 := ⟨(lwg_at 1 (by decide +kernel) rfl), (lwg_at 1058 (by decide +kernel) rfl), ⟨by decide +kernel, by decide +kernel⟩, by decide +kernel, by decide⟩
theorem cs_L_146 : CV R_law 146 RX11 M_Bs_trace 1 := ⟨(lwg_at 1055 (by decide +kernel) rfl), (lwg_at 1056 (by decide +kernel) rfl), (lwg_at 1057 (by decide +kernel) rfl), mi_Bs_trace⟩
theorem mi_M_trace : MI M_M_trace 1 := ⟨(lwg_at 10 (by decide +kernel) rfl), (lwg_at 1738 (by decide +kernel) rfl), ⟨by decide +kernel, by decide +kernel⟩, by decide +kernel, by decide⟩
theorem cs_L_149 : CV R_law 149 RX12 M_M_trace 1 := ⟨(lwg_at 1735 (by decide +kernel) rfl), (lwg_at 1736 (by decide +kernel) rfl), (lwg_at 1737 (by decide +kernel) rfl), mi_M_trace⟩
theorem mi_Bs_taken : MI M_Bs_taken 2 := ⟨(lwg_at 1 (by decide +kernel) rfl), (lwg_at 1070 (by decide +kernel) rfl), ⟨by decide +kernel, by decide +kernel⟩, by decide +kernel, by decide⟩
theorem cs_L_150 : CV R_law 150 RX11 M_Bs_taken 2 := ⟨(lwg_at 1067 (by decide +kernel) rfl), (lwg_at 1068 (by decide +kernel) rfl), (lwg_at 1069 (by decide +kernel) rfl), mi_Bs_taken⟩
theorem mi_M_taken : MI M_M_taken 2 := ⟨(lwg_at 10 (by decide +kernel) rfl), (lwg_at 1742 (by decide +kernel) rfl), ⟨by decide +kernel, by decide +kernel⟩, by decide +kernel, by decide⟩
theorem cs_L_153 : CV R_law 153 RX12 M_M_taken 2 := ⟨(lwg_at 1739 (by decide +kernel) rfl), (lwg_at 1740 (by decide +kernel) rfl), (lwg_at 1741 (by decide +kernel) rfl), mi_M_taken⟩
theorem mi_Bs_count : MI M_Bs_count 1 := ⟨(lwg_at 1 (by decide +kernel) rfl), (lwg_at 1077 (by decide +kernel) rfl), ⟨by decide +kernel, by decide +kernel⟩, by decide +kernel, by decide⟩
theorem cs_L_154 : CV R_law 154 RX11 M_Bs_count 1 := ⟨(lwg_at 1074 (by decide +kernel) rfl), (lwg_at 1075 (by decide +kernel) rfl), (lwg_at 1076 (by decide +kernel) rfl), mi_Bs_count⟩
theorem mi_M_count : MI M_M_count 1 := ⟨(lwg_at 10 (by decide +kernel) rfl), (lwg_at 1746 (by decide +kernel) rfl), ⟨by decide +kernel, by decide +kernel⟩, by decide +kernel, by decide⟩
theorem cs_L_157 : CV R_law 157 RX12 M_M_count 1 := ⟨(lwg_at 1743 (by decide +kernel) rfl), (lwg_at 1744 (by decide +kernel) rfl), (lwg_at 1745 (by decide +kernel) rfl), mi_M_count⟩
theorem mi_Bs_sheet : MI M_Bs_sheet 3 := ⟨(lwg_at 1 (by decide +kernel) rfl), (lwg_at 1082 (by decide +kernel) rfl), ⟨by decide +kernel, by decide +kernel⟩, by decide +kernel, by decide⟩
theorem cs_L_158 : CV R_law 158 RX11 M_Bs_sheet 3 := ⟨(lwg_at 1079 (by decide +kernel) rfl), (lwg_at 1080 (by decide +kernel) rfl), (lwg_at 1081 (by decide +kernel) rfl), mi_Bs_sheet⟩
theorem mi_M_sheet : MI M_M_sheet 3 := ⟨(lwg_at 10 (by decide +kernel) rfl), (lwg_at 1750 (by decide +kernel) rfl), ⟨by decide +kernel, by decide +kernel⟩, by decide +kernel, by decide⟩
theorem cs_L_161 : CV R_law 161 RX12 M_M_sheet 3 := ⟨(lwg_at 1747 (by decide +kernel) rfl), (lwg_at 1748 (by decide +kernel) rfl), (lwg_at 1749 (by decide +kernel) rfl), mi_M_sheet⟩
theorem mi_Bs_cell : MI M_Bs_cell 3 := ⟨(lwg_at 1 (by decide +kernel) rfl), (lwg_at 1091 (by decide +kernel) rfl), ⟨by decide +kernel, by decide +kernel⟩, by decide +kernel, by decide⟩
theorem cs_L_162 : CV R_law 162 RX11 M_Bs_cell 3 := ⟨(lwg_at 1088 (by decide +kernel) rfl), (lwg_at 1089 (by decide +kernel) rfl), (lwg_at 1090 (by decide +kernel) rfl), mi_Bs_cell⟩
theorem mi_M_cell : MI M_M_cell 3 := ⟨(lwg_at 10 (by decide +kernel) rfl), (lwg_at 1754 (by decide +kernel) rfl), ⟨by decide +kernel, by decide +kernel⟩, by decide +kernel, by decide⟩
theorem cs_L_165 : CV R_law 165 RX12 M_M_cell 3 := ⟨(lwg_at 1751 (by decide +kernel) rfl), (lwg_at 1752 (by decide +kernel) rfl), (lwg_at 1753 (by decide +kernel) rfl), mi_M_cell⟩
theorem mi_Bs_copy : MI M_Bs_copy 5 := ⟨(lwg_at 1 (by decide +kernel) rfl), (lwg_at 1099 (by decide +kernel) rfl), ⟨by decide +kernel, by decide +kernel⟩, by decide +kernel, by decide⟩
theorem cs_L_166 : CV R_law 166 RX11 M_Bs_copy 5 := ⟨(lwg_at 1096 (by decide +kernel) rfl), (lwg_at 1097 (by decide +kernel) rfl), (lwg_at 1098 (by decide +kernel) rfl), mi_Bs_copy⟩
theorem mi_M_copy : MI M_M_copy 5 := ⟨(lwg_at 10 (by decide +kernel) rfl), (lwg_at 1758 (by decide +kernel) rfl), ⟨by decide +kernel, by decide +kernel⟩, by decide +kernel, by decide⟩
theorem cs_L_170 : CV R_law 170 RX12 M_M_copy 5 := ⟨(lwg_at 1755 (by decide +kernel) rfl), (lwg_at 1756 (by decide +kernel) rfl), (lwg_at 1757 (by decide +kernel) rfl), mi_M_copy⟩
theorem cn_L_7 : CN R_law 7 RX11 18 := ⟨(lwg_at 21 (by decide +kernel) rfl), (lwg_at 22 (by decide +kernel) rfl), (lwg_at 1 (by decide +kernel) rfl)⟩
theorem cn_L_10 : CN R_law 10 RX12 82 := ⟨(lwg_at 1105 (by decide +kernel) rfl), (lwg_at 1106 (by decide +kernel) rfl), (lwg_at 10 (by decide +kernel) rfl)⟩
theorem mi_Bs_init : MI M_Bs_init 0 := ⟨(lwg_at 1 (by decide +kernel) rfl), (lwg_at 25 (by decide +kernel) rfl), ⟨by decide +kernel, by decide +kernel⟩, by decide +kernel, by decide⟩
theorem ci_L_9 : CI R_law 9 M_Bs_init 0 := ⟨(lwg_at 23 (by decide +kernel) rfl), (lwg_at 24 (by decide +kernel) rfl), rfl, rfl, mi_Bs_init⟩
theorem mi_M_init : MI M_M_init 0 := ⟨(lwg_at 10 (by decide +kernel) rfl), (lwg_at 1109 (by decide +kernel) rfl), ⟨by decide +kernel, by decide +kernel⟩, by decide +kernel, by decide⟩
theorem ci_L_12 : CI R_law 12 M_M_init 0 := ⟨(lwg_at 1107 (by decide +kernel) rfl), (lwg_at 1108 (by decide +kernel) rfl), rfl, rfl, mi_M_init⟩
/-! the steps that the pure side owes, and the walk over them -/
def Rd (f : Dl → Option Int32) : Dl → Option (Int32 × Dl) := fun δ => (f δ).map fun v => (v, δ)
def Tt (f : Dl → Int32 × Dl) : Dl → Option (Int32 × Dl) := fun δ => some (f δ)
def Rt (f : Dl → Int32) : Dl → Option (Int32 × Dl) := fun δ => some (f δ, δ)
theorem rd_e {f : Dl → Option Int32} {δ δ' : Dl} {v : Int32} (h : Rd f δ = some (v, δ')) : f δ = some v ∧ δ' = δ := by
  unfold Rd at h
  cases hf : f δ with
  | none => rw [hf] at h; cases h
  | some w => rw [hf] at h; cases h; exact ⟨rfl, rfl⟩
theorem tt_e {f : Dl → Int32 × Dl} {δ : Dl} {r : Int32 × Dl} (h : Tt f δ = some r) : f δ = r := Option.some.inj h
theorem rt_e {f : Dl → Int32} {δ δ' : Dl} {v : Int32} (h : Rt f δ = some (v, δ')) : f δ = v ∧ δ' = δ := by
  cases h; exact ⟨rfl, rfl⟩
/-- both answer alike, and the invariant holds behind -/
def S2 (I : Dl → Prop) (f g : Dl → Option (Int32 × Dl)) : Prop := ∀ δ, I δ → ∃ v δ1 δ2, f δ = some (v, δ1) ∧ g δ1 = some (v, δ2) ∧ I δ2 ∧ δ2.2.2 102 0 = δ.2.2 102 0
def SAct (I : Dl → Prop) (x1 x2 x3 : Int32) : Prop := ∀ δ, I δ → ∃ v q δ1 δ2, F_Bs_act x1 x2 x3 δ = some (v, q, δ1) ∧ F_M_act x1 x2 x3 δ1 = some (v, δ2) ∧ I δ2 ∧ ((q = 0 ∧ δ2.2.2 102 0 = (1, 0)) ∨ ((q = 19 ∨ q = 20 ∨ q = 21 ∨ q = 22) ∧ δ2.2.2 102 0 = (0, q)))
/-- the world at the loop's head -/
def GW (Γ : Gm) (δ : Dl) : Prop := GC Γ ∧ Ob Γ 23 12 ∧ LA Γ δ
theorem gw_same {Γ : Gm} {δ δ2 : Dl} (h : GW Γ δ) (hq : δ2.2.2 102 0 = δ.2.2 102 0) : GW Γ δ2 := ⟨h.1, h.2.1, by unfold LA; rw [hq]; exact h.2.2⟩
theorem gw_act {Γ : Gm} {δ δ2 : Dl} {q : Nat} (h : GW Γ δ) (hq : (q = 0 ∧ δ2.2.2 102 0 = (1, 0)) ∨ ((q = 19 ∨ q = 20 ∨ q = 21 ∨ q = 22) ∧ δ2.2.2 102 0 = (0, q))) : GW (FGo Γ q) δ2 := by
  rcases hq with ⟨rfl, hq⟩ | ⟨hc, hq⟩
  · exact ⟨h.1, h.2.1, Or.inl hq⟩
  · have hge : 19 ≤ q := by omega
    have h0 : FGo Γ q = FG Γ q := if_neg (by omega)
    rw [h0]
    refine ⟨gc_FG h.1 hge, ob_FG h.2.1 (by omega), ?_⟩
    rcases hc with rfl | rfl | rfl | rfl
    · exact Or.inr (Or.inl ⟨hq, ob_fam19⟩)
    · exact Or.inr (Or.inr (Or.inl ⟨hq, ob_fam20⟩))
    · exact Or.inr (Or.inr (Or.inr (Or.inl ⟨hq, ob_fam21⟩)))
    · exact Or.inr (Or.inr (Or.inr (Or.inr ⟨hq, ob_fam22⟩)))
theorem NF.lw : ∀ f a, NF f a → f ≠ 2 ∧ f ≠ 4 ∧ f ≠ 5 ∧ f ≠ 6 := fun _ _ h => h.elim
theorem NFm.lw : ∀ f a, NFm f a → f ≠ 2 ∧ f ≠ 4 ∧ f ≠ 5 ∧ f ≠ 6 := fun f a h => (NFm.ok f a h).2
abbrev LLs (i : Nat) : List (Option AV) := [some (.inr (4, 2)), some (.inr (0, 0)), some (.inr (0, 23)), some (.inl (nI i))]
theorem un_LNF {i : Nat} : ∀ v, some v ∈ LLs i → Un NF v := un_r (fun e => e.elim) (un_r (fun e => e.elim) (un_r (fun e => e.elim) (un_i un_nil)))
theorem un_LNm {i : Nat} : ∀ v, some v ∈ LLs i → Un NFm v := un_r (fun e => absurd e.1 (by decide)) (un_r (fun e => absurd e.2 (by decide)) (un_r (fun e => absurd e.2 (by decide)) (un_i un_nil)))
/-- what goes on behind a case -/
def LK (I : Dl → Prop) (x : LX) (i t : Nat) : Prop := ∀ (Γ : Gm) (kb sb : Nat) (δ : Dl), kb ≤ 1000 + 2 * t → sb ≤ 10000 + 34 * t → GW Γ δ → I δ → XL x 1414 (LLs i) [] kb sb Γ δ
theorem l_arg {x : LX} {pc kb sb i j n : Nat} {jz : Int} {st : List AV} {Γ : Gm} {δ : Dl} {xs : Nat → Int32} (hS : XSc x n xs) (hj : Int32.ofInt jz = nI j) (d0 : decode code pc = .ok (.aload_n 0, 1)) (d1 : decode code (pc + 1) = .ok (.iload_n 3, 1)) (d2 : decode code (pc + 1 + 1) = .ok (.iconst jz, 1)) (d3 : decode code (pc + 1 + 1 + 1) = .ok (.iadd, 1)) (d4 : decode code (pc + 1 + 1 + 1 + 1) = .ok (.iaload, 1)) (hi : i + j < n) (hn : n ≤ 3072) (k : XL x (pc + 1 + 1 + 1 + 1 + 1) (LLs i) (.inl (xs (i + j)) :: st) kb sb Γ δ) : XL x pc (LLs i) st kb sb Γ δ := by
  refine l_aload_n (i := 0) d0 rfl rfl ?_
  refine l_iload_n (i := 3) d1 rfl rfl ?_
  refine l_ic d2 hj ?_
  refine l_iadd d3 ?_
  have e1 : nI i + nI j = nI (i + j) := (Int32.ofNat_add i j).symm
  rw [e1]
  have e2 : (nI (i + j)).toNatClampNeg = i + j := by
    show (nI (i + j)).toInt.toNat = i + j
    rw [nI_toInt (by omega)]
    rfl
  have e3 : ¬ nI (i + j) < 0 := fun h => by
    have := Int32.lt_iff_toInt_lt.mp h
    rw [nI_toInt (by omega)] at this
    have e0 : (0 : Int32).toInt = 0 := rfl
    rw [e0] at this
    omega
  have := l_sald (i := nI (i + j)) hS e3 (by rw [e2]; exact hi) d4 (x := x) (pc := pc + 1 + 1 + 1 + 1) (kb := kb) (sb := sb) (ls := LLs i) (st := st) (Γ := Γ) (δ := δ)
  rw [e2] at this
  exact this k
section XLw
variable {p : Program} {l : Launch} {e : Env} {s : State} {m : MethodId} {args : Array Value} {below : List Frame} {meth : Method} {c : Code} {D : va_G} {K : Kd} {μ0 : Gm} {Q : State → Prop} {kb sb : Nat} {Γ : Gm} {δ : Dl}

set_option maxRecDepth 40000 in
set_option maxHeartbeats 1000000 in
theorem lc_0 {i n t : Nat} {xs : Nat → Int32} (hS : XSc (p, l, e, s, m, args, below, meth, c, D, K, μ0, Q) n xs) (hi : i + 5 < n) (hn : n ≤ 3072) (ht : t < 512) (hk : kb ≤ 1000 + 2 * t) (hsb : sb ≤ 10000 + 34 * t) {I : Dl → Prop} (hRX : ∀ δ, I δ → RX δ) (hW : GW Γ δ) (hI : I δ) (hst : S2 I (F_Bs_stage (xs (i + 1)) (xs (i + 2))) (F_M_stage (xs (i + 1)) (xs (i + 2))))
    (kk : LK I (p, l, e, s, m, args, below, meth, c, D, K, μ0, Q) i (t + 1)) : XL (p, l, e, s, m, args, below, meth, c, D, K, μ0, Q) 200 (LLs i) [] kb sb Γ δ := by
  obtain ⟨v, δ1, δ2, e1, e2, hI2, hq⟩ := hst δ hI
  refine l_aload_n (i := 1) d_L_200 rfl rfl ?_
  refine l_arg (j := 1) hS (by rfl) d_L_201 d_L_202 d_L_203 d_L_204 d_L_205 (by omega) hn ?_
  refine l_arg (j := 2) hS (by rfl) d_L_206 d_L_207 d_L_208 d_L_209 d_L_210 (by omega) hn ?_
  refine l_V (as := [.inl (xs (i + 1)), .inl (xs (i + 2))]) cs_L_13 rfl (hW.1 0 (by decide)) rfl (Nat.le_of_ble_eq_true rfl) (Nat.le_of_ble_eq_true rfl) d_L_211 (c_Bs_stage hW.1 _ _ δ _ e1) NF.lw un_LNF (us_nil) rfl rfl (by omega) (by omega) rfl rfl ?_
  refine l_aload_n (i := 2) d_L_214 rfl rfl ?_
  refine l_arg (j := 1) hS (by rfl) d_L_215 d_L_216 d_L_217 d_L_218 d_L_219 (by omega) hn ?_
  refine l_arg (j := 2) hS (by rfl) d_L_220 d_L_221 d_L_222 d_L_223 d_L_224 (by omega) hn ?_
  refine l_V (as := [.inl (xs (i + 1)), .inl (xs (i + 2))]) cs_L_17 rfl hW.2.1 rfl (Nat.le_of_ble_eq_true rfl) (Nat.le_of_ble_eq_true rfl) d_L_225 (c_M_stage hW.2.1 _ _ δ1 _ e2) NF.lw un_LNF (us_i us_nil) rfl rfl (by omega) (by omega) rfl rfl ?_
  exact l_cmp_eq (tgt := 1414) d_L_228 (by decide) (fun _ => kk _ _ _ _ (by omega) (by omega) (gw_same hW hq) hI2) (fun h => absurd rfl h)
set_option maxRecDepth 40000 in
set_option maxHeartbeats 1000000 in
theorem lc_1 {i n t : Nat} {xs : Nat → Int32} (hS : XSc (p, l, e, s, m, args, below, meth, c, D, K, μ0, Q) n xs) (hi : i + 5 < n) (hn : n ≤ 3072) (ht : t < 512) (hk : kb ≤ 1000 + 2 * t) (hsb : sb ≤ 10000 + 34 * t) {I : Dl → Prop} (hRX : ∀ δ, I δ → RX δ) (hW : GW Γ δ) (hI : I δ) (hst : S2 I (F_Bs_wall (xs (i + 1)) (xs (i + 2)) (xs (i + 3))) (F_M_wall (xs (i + 1)) (xs (i + 2)) (xs (i + 3))))
    (kk : LK I (p, l, e, s, m, args, below, meth, c, D, K, μ0, Q) i (t + 1)) : XL (p, l, e, s, m, args, below, meth, c, D, K, μ0, Q) 233 (LLs i) [] kb sb Γ δ := by
  obtain ⟨v, δ1, δ2, e1, e2, hI2, hq⟩ := hst δ hI
  refine l_aload_n (i := 1) d_L_233 rfl rfl ?_
  refine l_arg (j := 1) hS (by rfl) d_L_234 d_L_235 d_L_236 d_L_237 d_L_238 (by omega) hn ?_
  refine l_arg (j := 2) hS (by rfl) d_L_239 d_L_240 d_L_241 d_L_242 d_L_243 (by omega) hn ?_
  refine l_arg (j := 3) hS (by rfl) d_L_244 d_L_245 d_L_246 d_L_247 d_L_248 (by omega) hn ?_
  refine l_V (as := [.inl (xs (i + 1)), .inl (xs (i + 2)), .inl (xs (i + 3))]) cs_L_18 rfl (hW.1 0 (by decide)) rfl (Nat.le_of_ble_eq_true rfl) (Nat.le_of_ble_eq_true rfl) d_L_249 (c_Bs_wall hW.1 _ _ _ δ _ e1) NF.lw un_LNF (us_nil) rfl rfl (by omega) (by omega) rfl rfl ?_
  refine l_aload_n (i := 2) d_L_252 rfl rfl ?_
  refine l_arg (j := 1) hS (by rfl) d_L_253 d_L_254 d_L_255 d_L_256 d_L_257 (by omega) hn ?_
  refine l_arg (j := 2) hS (by rfl) d_L_258 d_L_259 d_L_260 d_L_261 d_L_262 (by omega) hn ?_
  refine l_arg (j := 3) hS (by rfl) d_L_263 d_L_264 d_L_265 d_L_266 d_L_267 (by omega) hn ?_
  refine l_V (as := [.inl (xs (i + 1)), .inl (xs (i + 2)), .inl (xs (i + 3))]) cs_L_22 rfl hW.2.1 rfl (Nat.le_of_ble_eq_true rfl) (Nat.le_of_ble_eq_true rfl) d_L_268 (c_M_wall hW.2.1 _ _ _ δ1 _ e2) NF.lw un_LNF (us_i us_nil) rfl rfl (by omega) (by omega) rfl rfl ?_
  exact l_cmp_eq (tgt := 1414) d_L_271 (by decide) (fun _ => kk _ _ _ _ (by omega) (by omega) (gw_same hW hq) hI2) (fun h => absurd rfl h)
set_option maxRecDepth 40000 in
set_option maxHeartbeats 1000000 in
theorem lc_2 {i n t : Nat} {xs : Nat → Int32} (hS : XSc (p, l, e, s, m, args, below, meth, c, D, K, μ0, Q) n xs) (hi : i + 5 < n) (hn : n ≤ 3072) (ht : t < 512) (hk : kb ≤ 1000 + 2 * t) (hsb : sb ≤ 10000 + 34 * t) {I : Dl → Prop} (hRX : ∀ δ, I δ → RX δ) (hW : GW Γ δ) (hI : I δ) (hst : S2 I (F_Bs_things (xs (i + 1)) (xs (i + 2)) (xs (i + 3))) (F_M_things (xs (i + 1)) (xs (i + 2)) (xs (i + 3))))
    (kk : LK I (p, l, e, s, m, args, below, meth, c, D, K, μ0, Q) i (t + 1)) : XL (p, l, e, s, m, args, below, meth, c, D, K, μ0, Q) 276 (LLs i) [] kb sb Γ δ := by
  obtain ⟨v, δ1, δ2, e1, e2, hI2, hq⟩ := hst δ hI
  refine l_aload_n (i := 1) d_L_276 rfl rfl ?_
  refine l_arg (j := 1) hS (by rfl) d_L_277 d_L_278 d_L_279 d_L_280 d_L_281 (by omega) hn ?_
  refine l_arg (j := 2) hS (by rfl) d_L_282 d_L_283 d_L_284 d_L_285 d_L_286 (by omega) hn ?_
  refine l_arg (j := 3) hS (by rfl) d_L_287 d_L_288 d_L_289 d_L_290 d_L_291 (by omega) hn ?_
  refine l_V (as := [.inl (xs (i + 1)), .inl (xs (i + 2)), .inl (xs (i + 3))]) cs_L_23 rfl (hW.1 0 (by decide)) rfl (Nat.le_of_ble_eq_true rfl) (Nat.le_of_ble_eq_true rfl) d_L_292 (c_Bs_things hW.1 _ _ _ δ _ e1) NF.lw un_LNF (us_nil) rfl rfl (by omega) (by omega) rfl rfl ?_
  refine l_aload_n (i := 2) d_L_295 rfl rfl ?_
  refine l_arg (j := 1) hS (by rfl) d_L_296 d_L_297 d_L_298 d_L_299 d_L_300 (by omega) hn ?_
  refine l_arg (j := 2) hS (by rfl) d_L_301 d_L_302 d_L_303 d_L_304 d_L_305 (by omega) hn ?_
  refine l_arg (j := 3) hS (by rfl) d_L_306 d_L_307 d_L_308 d_L_309 d_L_310 (by omega) hn ?_
  refine l_V (as := [.inl (xs (i + 1)), .inl (xs (i + 2)), .inl (xs (i + 3))]) cs_L_26 rfl hW.2.1 rfl (Nat.le_of_ble_eq_true rfl) (Nat.le_of_ble_eq_true rfl) d_L_311 (c_M_things hW.2.1 _ _ _ δ1 _ e2) NF.lw un_LNF (us_i us_nil) rfl rfl (by omega) (by omega) rfl rfl ?_
  exact l_cmp_eq (tgt := 1414) d_L_314 (by decide) (fun _ => kk _ _ _ _ (by omega) (by omega) (gw_same hW hq) hI2) (fun h => absurd rfl h)
set_option maxRecDepth 40000 in
set_option maxHeartbeats 1000000 in
theorem lc_3 {i n t : Nat} {xs : Nat → Int32} (hS : XSc (p, l, e, s, m, args, below, meth, c, D, K, μ0, Q) n xs) (hi : i + 5 < n) (hn : n ≤ 3072) (ht : t < 512) (hk : kb ≤ 1000 + 2 * t) (hsb : sb ≤ 10000 + 34 * t) {I : Dl → Prop} (hRX : ∀ δ, I δ → RX δ) (hW : GW Γ δ) (hI : I δ) (hst : S2 I (F_Bs_actor (xs (i + 1)) (xs (i + 2)) (xs (i + 3))) (F_M_actor (xs (i + 1)) (xs (i + 2)) (xs (i + 3))))
    (kk : LK I (p, l, e, s, m, args, below, meth, c, D, K, μ0, Q) i (t + 1)) : XL (p, l, e, s, m, args, below, meth, c, D, K, μ0, Q) 319 (LLs i) [] kb sb Γ δ := by
  obtain ⟨v, δ1, δ2, e1, e2, hI2, hq⟩ := hst δ hI
  refine l_aload_n (i := 1) d_L_319 rfl rfl ?_
  refine l_arg (j := 1) hS (by rfl) d_L_320 d_L_321 d_L_322 d_L_323 d_L_324 (by omega) hn ?_
  refine l_arg (j := 2) hS (by rfl) d_L_325 d_L_326 d_L_327 d_L_328 d_L_329 (by omega) hn ?_
  refine l_arg (j := 3) hS (by rfl) d_L_330 d_L_331 d_L_332 d_L_333 d_L_334 (by omega) hn ?_
  refine l_V (as := [.inl (xs (i + 1)), .inl (xs (i + 2)), .inl (xs (i + 3))]) cs_L_27 rfl (hW.1 0 (by decide)) rfl (Nat.le_of_ble_eq_true rfl) (Nat.le_of_ble_eq_true rfl) d_L_335 (c_Bs_actor hW.1 _ _ _ δ _ e1) NF.lw un_LNF (us_nil) rfl rfl (by omega) (by omega) rfl rfl ?_
  refine l_aload_n (i := 2) d_L_338 rfl rfl ?_
  refine l_arg (j := 1) hS (by rfl) d_L_339 d_L_340 d_L_341 d_L_342 d_L_343 (by omega) hn ?_
  refine l_arg (j := 2) hS (by rfl) d_L_344 d_L_345 d_L_346 d_L_347 d_L_348 (by omega) hn ?_
  refine l_arg (j := 3) hS (by rfl) d_L_349 d_L_350 d_L_351 d_L_352 d_L_353 (by omega) hn ?_
  refine l_V (as := [.inl (xs (i + 1)), .inl (xs (i + 2)), .inl (xs (i + 3))]) cs_L_30 rfl hW.2.1 rfl (Nat.le_of_ble_eq_true rfl) (Nat.le_of_ble_eq_true rfl) d_L_354 (c_M_actor hW.2.1 _ _ _ δ1 _ e2) NF.lw un_LNF (us_i us_nil) rfl rfl (by omega) (by omega) rfl rfl ?_
  exact l_cmp_eq (tgt := 1414) d_L_357 (by decide) (fun _ => kk _ _ _ _ (by omega) (by omega) (gw_same hW hq) hI2) (fun h => absurd rfl h)
set_option maxRecDepth 40000 in
set_option maxHeartbeats 1000000 in
theorem lc_4 {i n t : Nat} {xs : Nat → Int32} (hS : XSc (p, l, e, s, m, args, below, meth, c, D, K, μ0, Q) n xs) (hi : i + 5 < n) (hn : n ≤ 3072) (ht : t < 512) (hk : kb ≤ 1000 + 2 * t) (hsb : sb ≤ 10000 + 34 * t) {I : Dl → Prop} (hRX : ∀ δ, I δ → RX δ) (hW : GW Γ δ) (hI : I δ) (hst : S2 I (F_Bs_lay (xs (i + 1)) (xs (i + 2)) (xs (i + 3))) (F_M_lay (xs (i + 1)) (xs (i + 2)) (xs (i + 3))))
    (kk : LK I (p, l, e, s, m, args, below, meth, c, D, K, μ0, Q) i (t + 1)) : XL (p, l, e, s, m, args, below, meth, c, D, K, μ0, Q) 362 (LLs i) [] kb sb Γ δ := by
  obtain ⟨v, δ1, δ2, e1, e2, hI2, hq⟩ := hst δ hI
  refine l_aload_n (i := 1) d_L_362 rfl rfl ?_
  refine l_arg (j := 1) hS (by rfl) d_L_363 d_L_364 d_L_365 d_L_366 d_L_367 (by omega) hn ?_
  refine l_arg (j := 2) hS (by rfl) d_L_368 d_L_369 d_L_370 d_L_371 d_L_372 (by omega) hn ?_
  refine l_arg (j := 3) hS (by rfl) d_L_373 d_L_374 d_L_375 d_L_376 d_L_377 (by omega) hn ?_
  refine l_V (as := [.inl (xs (i + 1)), .inl (xs (i + 2)), .inl (xs (i + 3))]) cs_L_31 rfl (hW.1 0 (by decide)) rfl (Nat.le_of_ble_eq_true rfl) (Nat.le_of_ble_eq_true rfl) d_L_378 (c_Bs_lay hW.1 _ _ _ δ _ e1) NF.lw un_LNF (us_nil) rfl rfl (by omega) (by omega) rfl rfl ?_
  refine l_aload_n (i := 2) d_L_381 rfl rfl ?_
  refine l_arg (j := 1) hS (by rfl) d_L_382 d_L_383 d_L_384 d_L_385 d_L_386 (by omega) hn ?_
  refine l_arg (j := 2) hS (by rfl) d_L_387 d_L_388 d_L_389 d_L_390 d_L_391 (by omega) hn ?_
  refine l_arg (j := 3) hS (by rfl) d_L_392 d_L_393 d_L_394 d_L_395 d_L_396 (by omega) hn ?_
  refine l_V (as := [.inl (xs (i + 1)), .inl (xs (i + 2)), .inl (xs (i + 3))]) cs_L_34 rfl hW.2.1 rfl (Nat.le_of_ble_eq_true rfl) (Nat.le_of_ble_eq_true rfl) d_L_397 (c_M_lay hW.2.1 _ _ _ δ1 _ e2) NF.lw un_LNF (us_i us_nil) rfl rfl (by omega) (by omega) rfl rfl ?_
  exact l_cmp_eq (tgt := 1414) d_L_400 (by decide) (fun _ => kk _ _ _ _ (by omega) (by omega) (gw_same hW hq) hI2) (fun h => absurd rfl h)
set_option maxRecDepth 40000 in
set_option maxHeartbeats 1000000 in
theorem lc_5 {i n t : Nat} {xs : Nat → Int32} (hS : XSc (p, l, e, s, m, args, below, meth, c, D, K, μ0, Q) n xs) (hi : i + 5 < n) (hn : n ≤ 3072) (ht : t < 512) (hk : kb ≤ 1000 + 2 * t) (hsb : sb ≤ 10000 + 34 * t) {I : Dl → Prop} (hRX : ∀ δ, I δ → RX δ) (hW : GW Γ δ) (hI : I δ) (hst : S2 I (F_Bs_keep) (F_M_keep))
    (kk : LK I (p, l, e, s, m, args, below, meth, c, D, K, μ0, Q) i (t + 1)) : XL (p, l, e, s, m, args, below, meth, c, D, K, μ0, Q) 405 (LLs i) [] kb sb Γ δ := by
  obtain ⟨v, δ1, δ2, e1, e2, hI2, hq⟩ := hst δ hI
  refine l_aload_n (i := 1) d_L_405 rfl rfl ?_
  refine l_V (as := []) cs_L_35 rfl (hW.1 0 (by decide)) rfl (Nat.le_of_ble_eq_true rfl) (Nat.le_of_ble_eq_true rfl) d_L_406 (c_Bs_keep hW.1  δ _ e1) NF.lw un_LNF (us_nil) rfl rfl (by omega) (by omega) rfl rfl ?_
  refine l_aload_n (i := 2) d_L_409 rfl rfl ?_
  refine l_V (as := []) cs_L_39 rfl hW.2.1 rfl (Nat.le_of_ble_eq_true rfl) (Nat.le_of_ble_eq_true rfl) d_L_410 (c_M_keep hW.2.1  δ1 _ e2) NF.lw un_LNF (us_i us_nil) rfl rfl (by omega) (by omega) rfl rfl ?_
  exact l_cmp_eq (tgt := 1414) d_L_413 (by decide) (fun _ => kk _ _ _ _ (by omega) (by omega) (gw_same hW hq) hI2) (fun h => absurd rfl h)
set_option maxRecDepth 40000 in
set_option maxHeartbeats 1000000 in
theorem lc_6 {i n t : Nat} {xs : Nat → Int32} (hS : XSc (p, l, e, s, m, args, below, meth, c, D, K, μ0, Q) n xs) (hi : i + 5 < n) (hn : n ≤ 3072) (ht : t < 512) (hk : kb ≤ 1000 + 2 * t) (hsb : sb ≤ 10000 + 34 * t) {I : Dl → Prop} (hRX : ∀ δ, I δ → RX δ) (hW : GW Γ δ) (hI : I δ) (hst : S2 I (F_Bs_use (xs (i + 1))) (F_M_use (xs (i + 1))))
    (kk : LK I (p, l, e, s, m, args, below, meth, c, D, K, μ0, Q) i (t + 1)) : XL (p, l, e, s, m, args, below, meth, c, D, K, μ0, Q) 418 (LLs i) [] kb sb Γ δ := by
  obtain ⟨v, δ1, δ2, e1, e2, hI2, hq⟩ := hst δ hI
  refine l_aload_n (i := 1) d_L_418 rfl rfl ?_
  refine l_arg (j := 1) hS (by rfl) d_L_419 d_L_420 d_L_421 d_L_422 d_L_423 (by omega) hn ?_
  refine l_V (as := [.inl (xs (i + 1))]) cs_L_40 rfl (hW.1 0 (by decide)) rfl (Nat.le_of_ble_eq_true rfl) (Nat.le_of_ble_eq_true rfl) d_L_424 (c_Bs_use hW.1 _ δ _ e1) NF.lw un_LNF (us_nil) rfl rfl (by omega) (by omega) rfl rfl ?_
  refine l_aload_n (i := 2) d_L_427 rfl rfl ?_
  refine l_arg (j := 1) hS (by rfl) d_L_428 d_L_429 d_L_430 d_L_431 d_L_432 (by omega) hn ?_
  refine l_V (as := [.inl (xs (i + 1))]) cs_L_44 rfl hW.2.1 rfl (Nat.le_of_ble_eq_true rfl) (Nat.le_of_ble_eq_true rfl) d_L_433 (c_M_use hW.2.1 _ δ1 _ e2) NF.lw un_LNF (us_i us_nil) rfl rfl (by omega) (by omega) rfl rfl ?_
  exact l_cmp_eq (tgt := 1414) d_L_436 (by decide) (fun _ => kk _ _ _ _ (by omega) (by omega) (gw_same hW hq) hI2) (fun h => absurd rfl h)
set_option maxRecDepth 40000 in
set_option maxHeartbeats 1000000 in
theorem lc_7 {i n t : Nat} {xs : Nat → Int32} (hS : XSc (p, l, e, s, m, args, below, meth, c, D, K, μ0, Q) n xs) (hi : i + 5 < n) (hn : n ≤ 3072) (ht : t < 512) (hk : kb ≤ 1000 + 2 * t) (hsb : sb ≤ 10000 + 34 * t) {I : Dl → Prop} (hRX : ∀ δ, I δ → RX δ) (hW : GW Γ δ) (hI : I δ) (hst : S2 I (F_Bs_block (xs (i + 1)) (xs (i + 2))) (F_M_block (xs (i + 1)) (xs (i + 2))))
    (kk : LK I (p, l, e, s, m, args, below, meth, c, D, K, μ0, Q) i (t + 1)) : XL (p, l, e, s, m, args, below, meth, c, D, K, μ0, Q) 441 (LLs i) [] kb sb Γ δ := by
  obtain ⟨v, δ1, δ2, e1, e2, hI2, hq⟩ := hst δ hI
  refine l_aload_n (i := 1) d_L_441 rfl rfl ?_
  refine l_arg (j := 1) hS (by rfl) d_L_442 d_L_443 d_L_444 d_L_445 d_L_446 (by omega) hn ?_
  refine l_arg (j := 2) hS (by rfl) d_L_447 d_L_448 d_L_449 d_L_450 d_L_451 (by omega) hn ?_
  refine l_V (as := [.inl (xs (i + 1)), .inl (xs (i + 2))]) cs_L_45 rfl (hW.1 0 (by decide)) rfl (Nat.le_of_ble_eq_true rfl) (Nat.le_of_ble_eq_true rfl) d_L_452 (c_Bs_block hW.1 _ _ δ _ e1) NF.lw un_LNF (us_nil) rfl rfl (by omega) (by omega) rfl rfl ?_
  refine l_aload_n (i := 2) d_L_455 rfl rfl ?_
  refine l_arg (j := 1) hS (by rfl) d_L_456 d_L_457 d_L_458 d_L_459 d_L_460 (by omega) hn ?_
  refine l_arg (j := 2) hS (by rfl) d_L_461 d_L_462 d_L_463 d_L_464 d_L_465 (by omega) hn ?_
  refine l_V (as := [.inl (xs (i + 1)), .inl (xs (i + 2))]) cs_L_48 rfl hW.2.1 rfl (Nat.le_of_ble_eq_true rfl) (Nat.le_of_ble_eq_true rfl) d_L_466 (c_M_block hW.2.1 _ _ δ1 _ e2) NF.lw un_LNF (us_i us_nil) rfl rfl (by omega) (by omega) rfl rfl ?_
  exact l_cmp_eq (tgt := 1414) d_L_469 (by decide) (fun _ => kk _ _ _ _ (by omega) (by omega) (gw_same hW hq) hI2) (fun h => absurd rfl h)
set_option maxRecDepth 40000 in
set_option maxHeartbeats 1000000 in
theorem lc_8 {i n t : Nat} {xs : Nat → Int32} (hS : XSc (p, l, e, s, m, args, below, meth, c, D, K, μ0, Q) n xs) (hi : i + 5 < n) (hn : n ≤ 3072) (ht : t < 512) (hk : kb ≤ 1000 + 2 * t) (hsb : sb ≤ 10000 + 34 * t) {I : Dl → Prop} (hRX : ∀ δ, I δ → RX δ) (hW : GW Γ δ) (hI : I δ) (hst : S2 I (F_Bs_join (xs (i + 1)) (xs (i + 2)) (xs (i + 3))) (F_M_join (xs (i + 1)) (xs (i + 2)) (xs (i + 3))))
    (kk : LK I (p, l, e, s, m, args, below, meth, c, D, K, μ0, Q) i (t + 1)) : XL (p, l, e, s, m, args, below, meth, c, D, K, μ0, Q) 474 (LLs i) [] kb sb Γ δ := by
  obtain ⟨v, δ1, δ2, e1, e2, hI2, hq⟩ := hst δ hI
  refine l_aload_n (i := 1) d_L_474 rfl rfl ?_
  refine l_arg (j := 1) hS (by rfl) d_L_475 d_L_476 d_L_477 d_L_478 d_L_479 (by omega) hn ?_
  refine l_arg (j := 2) hS (by rfl) d_L_480 d_L_481 d_L_482 d_L_483 d_L_484 (by omega) hn ?_
  refine l_arg (j := 3) hS (by rfl) d_L_485 d_L_486 d_L_487 d_L_488 d_L_489 (by omega) hn ?_
  refine l_V (as := [.inl (xs (i + 1)), .inl (xs (i + 2)), .inl (xs (i + 3))]) cs_L_49 rfl (hW.1 0 (by decide)) rfl (Nat.le_of_ble_eq_true rfl) (Nat.le_of_ble_eq_true rfl) d_L_490 (c_Bs_join hW.1 _ _ _ δ _ e1) NF.lw un_LNF (us_nil) rfl rfl (by omega) (by omega) rfl rfl ?_
  refine l_aload_n (i := 2) d_L_493 rfl rfl ?_
  refine l_arg (j := 1) hS (by rfl) d_L_494 d_L_495 d_L_496 d_L_497 d_L_498 (by omega) hn ?_
  refine l_arg (j := 2) hS (by rfl) d_L_499 d_L_500 d_L_501 d_L_502 d_L_503 (by omega) hn ?_
  refine l_arg (j := 3) hS (by rfl) d_L_504 d_L_505 d_L_506 d_L_507 d_L_508 (by omega) hn ?_
  refine l_V (as := [.inl (xs (i + 1)), .inl (xs (i + 2)), .inl (xs (i + 3))]) cs_L_52 rfl hW.2.1 rfl (Nat.le_of_ble_eq_true rfl) (Nat.le_of_ble_eq_true rfl) d_L_509 (c_M_join hW.2.1 _ _ _ δ1 _ e2) NF.lw un_LNF (us_i us_nil) rfl rfl (by omega) (by omega) rfl rfl ?_
  exact l_cmp_eq (tgt := 1414) d_L_512 (by decide) (fun _ => kk _ _ _ _ (by omega) (by omega) (gw_same hW hq) hI2) (fun h => absurd rfl h)
set_option maxRecDepth 40000 in
set_option maxHeartbeats 1000000 in
theorem lc_9 {i n t : Nat} {xs : Nat → Int32} (hS : XSc (p, l, e, s, m, args, below, meth, c, D, K, μ0, Q) n xs) (hi : i + 5 < n) (hn : n ≤ 3072) (ht : t < 512) (hk : kb ≤ 1000 + 2 * t) (hsb : sb ≤ 10000 + 34 * t) {I : Dl → Prop} (hRX : ∀ δ, I δ → RX δ) (hW : GW Γ δ) (hI : I δ) (hst : S2 I (F_Bs_take (xs (i + 1))) (F_M_take (xs (i + 1))))
    (kk : LK I (p, l, e, s, m, args, below, meth, c, D, K, μ0, Q) i (t + 1)) : XL (p, l, e, s, m, args, below, meth, c, D, K, μ0, Q) 517 (LLs i) [] kb sb Γ δ := by
  obtain ⟨v, δ1, δ2, e1, e2, hI2, hq⟩ := hst δ hI
  refine l_aload_n (i := 1) d_L_517 rfl rfl ?_
  refine l_arg (j := 1) hS (by rfl) d_L_518 d_L_519 d_L_520 d_L_521 d_L_522 (by omega) hn ?_
  refine l_V (as := [.inl (xs (i + 1))]) cs_L_53 rfl (hW.1 0 (by decide)) rfl (Nat.le_of_ble_eq_true rfl) (Nat.le_of_ble_eq_true rfl) d_L_523 (c_Bs_take hW.1 _ δ _ e1) NF.lw un_LNF (us_nil) rfl rfl (by omega) (by omega) rfl rfl ?_
  refine l_aload_n (i := 2) d_L_526 rfl rfl ?_
  refine l_arg (j := 1) hS (by rfl) d_L_527 d_L_528 d_L_529 d_L_530 d_L_531 (by omega) hn ?_
  refine l_V (as := [.inl (xs (i + 1))]) cs_L_56 rfl hW.2.1 rfl (Nat.le_of_ble_eq_true rfl) (Nat.le_of_ble_eq_true rfl) d_L_532 (c_M_take hW.2.1 _ δ1 _ e2) NF.lw un_LNF (us_i us_nil) rfl rfl (by omega) (by omega) rfl rfl ?_
  exact l_cmp_eq (tgt := 1414) d_L_535 (by decide) (fun _ => kk _ _ _ _ (by omega) (by omega) (gw_same hW hq) hI2) (fun h => absurd rfl h)
set_option maxRecDepth 40000 in
set_option maxHeartbeats 1000000 in
theorem lc_10 {i n t : Nat} {xs : Nat → Int32} (hS : XSc (p, l, e, s, m, args, below, meth, c, D, K, μ0, Q) n xs) (hi : i + 5 < n) (hn : n ≤ 3072) (ht : t < 512) (hk : kb ≤ 1000 + 2 * t) (hsb : sb ≤ 10000 + 34 * t) {I : Dl → Prop} (hRX : ∀ δ, I δ → RX δ) (hW : GW Γ δ) (hI : I δ) (hst : S2 I (F_Bs_number (xs (i + 1)) (xs (i + 2))) (F_M_number (xs (i + 1)) (xs (i + 2))))
    (kk : LK I (p, l, e, s, m, args, below, meth, c, D, K, μ0, Q) i (t + 1)) : XL (p, l, e, s, m, args, below, meth, c, D, K, μ0, Q) 540 (LLs i) [] kb sb Γ δ := by
  obtain ⟨v, δ1, δ2, e1, e2, hI2, hq⟩ := hst δ hI
  refine l_aload_n (i := 1) d_L_540 rfl rfl ?_
  refine l_arg (j := 1) hS (by rfl) d_L_541 d_L_542 d_L_543 d_L_544 d_L_545 (by omega) hn ?_
  refine l_arg (j := 2) hS (by rfl) d_L_546 d_L_547 d_L_548 d_L_549 d_L_550 (by omega) hn ?_
  refine l_V (as := [.inl (xs (i + 1)), .inl (xs (i + 2))]) cs_L_57 rfl (hW.1 0 (by decide)) rfl (Nat.le_of_ble_eq_true rfl) (Nat.le_of_ble_eq_true rfl) d_L_551 (c_Bs_number hW.1 _ _ δ _ e1) NF.lw un_LNF (us_nil) rfl rfl (by omega) (by omega) rfl rfl ?_
  refine l_aload_n (i := 2) d_L_554 rfl rfl ?_
  refine l_arg (j := 1) hS (by rfl) d_L_555 d_L_556 d_L_557 d_L_558 d_L_559 (by omega) hn ?_
  refine l_arg (j := 2) hS (by rfl) d_L_560 d_L_561 d_L_562 d_L_563 d_L_564 (by omega) hn ?_
  refine l_V (as := [.inl (xs (i + 1)), .inl (xs (i + 2))]) cs_L_60 rfl hW.2.1 rfl (Nat.le_of_ble_eq_true rfl) (Nat.le_of_ble_eq_true rfl) d_L_565 (c_M_number hW.2.1 _ _ δ1 _ e2) NF.lw un_LNF (us_i us_nil) rfl rfl (by omega) (by omega) rfl rfl ?_
  exact l_cmp_eq (tgt := 1414) d_L_568 (by decide) (fun _ => kk _ _ _ _ (by omega) (by omega) (gw_same hW hq) hI2) (fun h => absurd rfl h)
set_option maxRecDepth 40000 in
set_option maxHeartbeats 1000000 in
theorem lc_11 {i n t : Nat} {xs : Nat → Int32} (hS : XSc (p, l, e, s, m, args, below, meth, c, D, K, μ0, Q) n xs) (hi : i + 5 < n) (hn : n ≤ 3072) (ht : t < 512) (hk : kb ≤ 1000 + 2 * t) (hsb : sb ≤ 10000 + 34 * t) {I : Dl → Prop} (hRX : ∀ δ, I δ → RX δ) (hW : GW Γ δ) (hI : I δ) (hst : S2 I (F_Bs_cue (xs (i + 1)) (xs (i + 2)) (xs (i + 3)) (xs (i + 4))) (F_M_cue (xs (i + 1)) (xs (i + 2)) (xs (i + 3)) (xs (i + 4))))
    (kk : LK I (p, l, e, s, m, args, below, meth, c, D, K, μ0, Q) i (t + 1)) : XL (p, l, e, s, m, args, below, meth, c, D, K, μ0, Q) 573 (LLs i) [] kb sb Γ δ := by
  obtain ⟨v, δ1, δ2, e1, e2, hI2, hq⟩ := hst δ hI
  refine l_aload_n (i := 1) d_L_573 rfl rfl ?_
  refine l_arg (j := 1) hS (by rfl) d_L_574 d_L_575 d_L_576 d_L_577 d_L_578 (by omega) hn ?_
  refine l_arg (j := 2) hS (by rfl) d_L_579 d_L_580 d_L_581 d_L_582 d_L_583 (by omega) hn ?_
  refine l_arg (j := 3) hS (by rfl) d_L_584 d_L_585 d_L_586 d_L_587 d_L_588 (by omega) hn ?_
  refine l_arg (j := 4) hS (by rfl) d_L_589 d_L_590 d_L_591 d_L_592 d_L_593 (by omega) hn ?_
  refine l_V (as := [.inl (xs (i + 1)), .inl (xs (i + 2)), .inl (xs (i + 3)), .inl (xs (i + 4))]) cs_L_61 rfl (hW.1 0 (by decide)) rfl (Nat.le_of_ble_eq_true rfl) (Nat.le_of_ble_eq_true rfl) d_L_594 (c_Bs_cue hW.1 _ _ _ _ δ _ e1) NF.lw un_LNF (us_nil) rfl rfl (by omega) (by omega) rfl rfl ?_
  refine l_aload_n (i := 2) d_L_597 rfl rfl ?_
  refine l_arg (j := 1) hS (by rfl) d_L_598 d_L_599 d_L_600 d_L_601 d_L_602 (by omega) hn ?_
  refine l_arg (j := 2) hS (by rfl) d_L_603 d_L_604 d_L_605 d_L_606 d_L_607 (by omega) hn ?_
  refine l_arg (j := 3) hS (by rfl) d_L_608 d_L_609 d_L_610 d_L_611 d_L_612 (by omega) hn ?_
  refine l_arg (j := 4) hS (by rfl) d_L_613 d_L_614 d_L_615 d_L_616 d_L_617 (by omega) hn ?_
  refine l_V (as := [.inl (xs (i + 1)), .inl (xs (i + 2)), .inl (xs (i + 3)), .inl (xs (i + 4))]) cs_L_65 rfl hW.2.1 rfl (Nat.le_of_ble_eq_true rfl) (Nat.le_of_ble_eq_true rfl) d_L_618 (c_M_cue hW.2.1 _ _ _ _ δ1 _ e2) NF.lw un_LNF (us_i us_nil) rfl rfl (by omega) (by omega) rfl rfl ?_
  exact l_cmp_eq (tgt := 1414) d_L_621 (by decide) (fun _ => kk _ _ _ _ (by omega) (by omega) (gw_same hW hq) hI2) (fun h => absurd rfl h)
set_option maxRecDepth 40000 in
set_option maxHeartbeats 1000000 in
theorem lc_12 {i n t : Nat} {xs : Nat → Int32} (hS : XSc (p, l, e, s, m, args, below, meth, c, D, K, μ0, Q) n xs) (hi : i + 5 < n) (hn : n ≤ 3072) (ht : t < 512) (hk : kb ≤ 1000 + 2 * t) (hsb : sb ≤ 10000 + 34 * t) {I : Dl → Prop} (hRX : ∀ δ, I δ → RX δ) (hW : GW Γ δ) (hI : I δ) (hst : S2 I (F_Bs_top (xs (i + 1)) (xs (i + 2))) (F_M_top (xs (i + 1)) (xs (i + 2))))
    (kk : LK I (p, l, e, s, m, args, below, meth, c, D, K, μ0, Q) i (t + 1)) : XL (p, l, e, s, m, args, below, meth, c, D, K, μ0, Q) 626 (LLs i) [] kb sb Γ δ := by
  obtain ⟨v, δ1, δ2, e1, e2, hI2, hq⟩ := hst δ hI
  refine l_aload_n (i := 1) d_L_626 rfl rfl ?_
  refine l_arg (j := 1) hS (by rfl) d_L_627 d_L_628 d_L_629 d_L_630 d_L_631 (by omega) hn ?_
  refine l_arg (j := 2) hS (by rfl) d_L_632 d_L_633 d_L_634 d_L_635 d_L_636 (by omega) hn ?_
  refine l_V (as := [.inl (xs (i + 1)), .inl (xs (i + 2))]) cs_L_66 rfl (hW.1 0 (by decide)) rfl (Nat.le_of_ble_eq_true rfl) (Nat.le_of_ble_eq_true rfl) d_L_637 (c_Bs_top hW.1 _ _ δ _ e1) NF.lw un_LNF (us_nil) rfl rfl (by omega) (by omega) rfl rfl ?_
  refine l_aload_n (i := 2) d_L_640 rfl rfl ?_
  refine l_arg (j := 1) hS (by rfl) d_L_641 d_L_642 d_L_643 d_L_644 d_L_645 (by omega) hn ?_
  refine l_arg (j := 2) hS (by rfl) d_L_646 d_L_647 d_L_648 d_L_649 d_L_650 (by omega) hn ?_
  refine l_V (as := [.inl (xs (i + 1)), .inl (xs (i + 2))]) cs_L_69 rfl hW.2.1 rfl (Nat.le_of_ble_eq_true rfl) (Nat.le_of_ble_eq_true rfl) d_L_651 (c_M_top hW.2.1 _ _ δ1 _ e2) NF.lw un_LNF (us_i us_nil) rfl rfl (by omega) (by omega) rfl rfl ?_
  exact l_cmp_eq (tgt := 1414) d_L_654 (by decide) (fun _ => kk _ _ _ _ (by omega) (by omega) (gw_same hW hq) hI2) (fun h => absurd rfl h)
set_option maxRecDepth 40000 in
set_option maxHeartbeats 1000000 in
theorem lc_13 {i n t : Nat} {xs : Nat → Int32} (hS : XSc (p, l, e, s, m, args, below, meth, c, D, K, μ0, Q) n xs) (hi : i + 5 < n) (hn : n ≤ 3072) (ht : t < 512) (hk : kb ≤ 1000 + 2 * t) (hsb : sb ≤ 10000 + 34 * t) {I : Dl → Prop} (hRX : ∀ δ, I δ → RX δ) (hW : GW Γ δ) (hI : I δ) (hst : S2 I (Rd (F_Bs_look (xs (i + 1)) (xs (i + 2)))) (F_M_look (xs (i + 1)) (xs (i + 2))))
    (kk : LK I (p, l, e, s, m, args, below, meth, c, D, K, μ0, Q) i (t + 1)) : XL (p, l, e, s, m, args, below, meth, c, D, K, μ0, Q) 659 (LLs i) [] kb sb Γ δ := by
  obtain ⟨v, δ1, δ2, e1, e2, hI2, hq⟩ := hst δ hI
  obtain ⟨e1, rfl⟩ := rd_e e1
  refine l_aload_n (i := 1) d_L_659 rfl rfl ?_
  refine l_arg (j := 1) hS (by rfl) d_L_660 d_L_661 d_L_662 d_L_663 d_L_664 (by omega) hn ?_
  refine l_arg (j := 2) hS (by rfl) d_L_665 d_L_666 d_L_667 d_L_668 d_L_669 (by omega) hn ?_
  refine l_V (as := [.inl (xs (i + 1)), .inl (xs (i + 2))]) cs_L_70 rfl (hW.1 0 (by decide)) rfl (Nat.le_of_ble_eq_true rfl) (Nat.le_of_ble_eq_true rfl) d_L_670 (c_Bs_look hW.1 _ _ δ _ e1) NF.lw un_LNF (us_nil) rfl rfl (by omega) (by omega) rfl rfl ?_
  refine l_aload_n (i := 2) d_L_673 rfl rfl ?_
  refine l_arg (j := 1) hS (by rfl) d_L_674 d_L_675 d_L_676 d_L_677 d_L_678 (by omega) hn ?_
  refine l_arg (j := 2) hS (by rfl) d_L_679 d_L_680 d_L_681 d_L_682 d_L_683 (by omega) hn ?_
  refine l_V (as := [.inl (xs (i + 1)), .inl (xs (i + 2))]) cs_L_73 rfl hW.2.1 rfl (Nat.le_of_ble_eq_true rfl) (Nat.le_of_ble_eq_true rfl) d_L_684 (c_M_look hW.2.1 _ _ δ _ e2) NF.lw un_LNF (us_i us_nil) rfl rfl (by omega) (by omega) rfl rfl ?_
  exact l_cmp_eq (tgt := 1414) d_L_687 (by decide) (fun _ => kk _ _ _ _ (by omega) (by omega) (gw_same hW hq) hI2) (fun h => absurd rfl h)
set_option maxRecDepth 40000 in
set_option maxHeartbeats 1000000 in
theorem lc_14 {i n t : Nat} {xs : Nat → Int32} (hS : XSc (p, l, e, s, m, args, below, meth, c, D, K, μ0, Q) n xs) (hi : i + 5 < n) (hn : n ≤ 3072) (ht : t < 512) (hk : kb ≤ 1000 + 2 * t) (hsb : sb ≤ 10000 + 34 * t) {I : Dl → Prop} (hRX : ∀ δ, I δ → RX δ) (hW : GW Γ δ) (hI : I δ) (hst : S2 I (Rd (F_Bs_hole (xs (i + 1)) (xs (i + 2)))) (Rd (F_M_hole (xs (i + 1)) (xs (i + 2)))))
    (kk : LK I (p, l, e, s, m, args, below, meth, c, D, K, μ0, Q) i (t + 1)) : XL (p, l, e, s, m, args, below, meth, c, D, K, μ0, Q) 692 (LLs i) [] kb sb Γ δ := by
  obtain ⟨v, δ1, δ2, e1, e2, hI2, hq⟩ := hst δ hI
  obtain ⟨e2, rfl⟩ := rd_e e2
  obtain ⟨e1, rfl⟩ := rd_e e1
  refine l_aload_n (i := 1) d_L_692 rfl rfl ?_
  refine l_arg (j := 1) hS (by rfl) d_L_693 d_L_694 d_L_695 d_L_696 d_L_697 (by omega) hn ?_
  refine l_arg (j := 2) hS (by rfl) d_L_698 d_L_699 d_L_700 d_L_701 d_L_702 (by omega) hn ?_
  refine l_V (as := [.inl (xs (i + 1)), .inl (xs (i + 2))]) cs_L_74 rfl (hW.1 0 (by decide)) rfl (Nat.le_of_ble_eq_true rfl) (Nat.le_of_ble_eq_true rfl) d_L_703 (c_Bs_hole hW.1 _ _ δ _ e1) NF.lw un_LNF (us_nil) rfl rfl (by omega) (by omega) rfl rfl ?_
  refine l_aload_n (i := 2) d_L_706 rfl rfl ?_
  refine l_arg (j := 1) hS (by rfl) d_L_707 d_L_708 d_L_709 d_L_710 d_L_711 (by omega) hn ?_
  refine l_arg (j := 2) hS (by rfl) d_L_712 d_L_713 d_L_714 d_L_715 d_L_716 (by omega) hn ?_
  refine l_V (as := [.inl (xs (i + 1)), .inl (xs (i + 2))]) cs_L_77 rfl hW.2.1 rfl (Nat.le_of_ble_eq_true rfl) (Nat.le_of_ble_eq_true rfl) d_L_717 (c_M_hole hW.2.1 _ _ δ _ e2) NF.lw un_LNF (us_i us_nil) rfl rfl (by omega) (by omega) rfl rfl ?_
  exact l_cmp_eq (tgt := 1414) d_L_720 (by decide) (fun _ => kk _ _ _ _ (by omega) (by omega) (gw_same hW hq) hI2) (fun h => absurd rfl h)
set_option maxRecDepth 40000 in
set_option maxHeartbeats 1000000 in
theorem lc_15 {i n t : Nat} {xs : Nat → Int32} (hS : XSc (p, l, e, s, m, args, below, meth, c, D, K, μ0, Q) n xs) (hi : i + 5 < n) (hn : n ≤ 3072) (ht : t < 512) (hk : kb ≤ 1000 + 2 * t) (hsb : sb ≤ 10000 + 34 * t) {I : Dl → Prop} (hRX : ∀ δ, I δ → RX δ) (hW : GW Γ δ) (hI : I δ) (hst : S2 I (Rd (F_Bs_of (xs (i + 1)) (xs (i + 2)))) (Rd (F_M_of (xs (i + 1)) (xs (i + 2)))))
    (kk : LK I (p, l, e, s, m, args, below, meth, c, D, K, μ0, Q) i (t + 1)) : XL (p, l, e, s, m, args, below, meth, c, D, K, μ0, Q) 725 (LLs i) [] kb sb Γ δ := by
  obtain ⟨v, δ1, δ2, e1, e2, hI2, hq⟩ := hst δ hI
  obtain ⟨e2, rfl⟩ := rd_e e2
  obtain ⟨e1, rfl⟩ := rd_e e1
  refine l_aload_n (i := 1) d_L_725 rfl rfl ?_
  refine l_arg (j := 1) hS (by rfl) d_L_726 d_L_727 d_L_728 d_L_729 d_L_730 (by omega) hn ?_
  refine l_arg (j := 2) hS (by rfl) d_L_731 d_L_732 d_L_733 d_L_734 d_L_735 (by omega) hn ?_
  refine l_V (as := [.inl (xs (i + 1)), .inl (xs (i + 2))]) cs_L_78 rfl (hW.1 0 (by decide)) rfl (Nat.le_of_ble_eq_true rfl) (Nat.le_of_ble_eq_true rfl) d_L_736 (c_Bs_of hW.1 _ _ δ _ e1) NF.lw un_LNF (us_nil) rfl rfl (by omega) (by omega) rfl rfl ?_
  refine l_aload_n (i := 2) d_L_739 rfl rfl ?_
  refine l_arg (j := 1) hS (by rfl) d_L_740 d_L_741 d_L_742 d_L_743 d_L_744 (by omega) hn ?_
  refine l_arg (j := 2) hS (by rfl) d_L_745 d_L_746 d_L_747 d_L_748 d_L_749 (by omega) hn ?_
  refine l_V (as := [.inl (xs (i + 1)), .inl (xs (i + 2))]) cs_L_81 rfl hW.2.1 rfl (Nat.le_of_ble_eq_true rfl) (Nat.le_of_ble_eq_true rfl) d_L_750 (c_M_of hW.2.1 _ _ δ _ e2) NF.lw un_LNF (us_i us_nil) rfl rfl (by omega) (by omega) rfl rfl ?_
  exact l_cmp_eq (tgt := 1414) d_L_753 (by decide) (fun _ => kk _ _ _ _ (by omega) (by omega) (gw_same hW hq) hI2) (fun h => absurd rfl h)
set_option maxRecDepth 40000 in
set_option maxHeartbeats 1000000 in
theorem lc_16 {i n t : Nat} {xs : Nat → Int32} (hS : XSc (p, l, e, s, m, args, below, meth, c, D, K, μ0, Q) n xs) (hi : i + 5 < n) (hn : n ≤ 3072) (ht : t < 512) (hk : kb ≤ 1000 + 2 * t) (hsb : sb ≤ 10000 + 34 * t) {I : Dl → Prop} (hRX : ∀ δ, I δ → RX δ) (hW : GW Γ δ) (hI : I δ) (hst : S2 I (Rd (F_Bs_scriptOf (xs (i + 1)) (xs (i + 2)))) (F_M_scriptOf (xs (i + 1)) (xs (i + 2))))
    (kk : LK I (p, l, e, s, m, args, below, meth, c, D, K, μ0, Q) i (t + 1)) : XL (p, l, e, s, m, args, below, meth, c, D, K, μ0, Q) 758 (LLs i) [] kb sb Γ δ := by
  obtain ⟨v, δ1, δ2, e1, e2, hI2, hq⟩ := hst δ hI
  obtain ⟨e1, rfl⟩ := rd_e e1
  refine l_aload_n (i := 1) d_L_758 rfl rfl ?_
  refine l_arg (j := 1) hS (by rfl) d_L_759 d_L_760 d_L_761 d_L_762 d_L_763 (by omega) hn ?_
  refine l_arg (j := 2) hS (by rfl) d_L_764 d_L_765 d_L_766 d_L_767 d_L_768 (by omega) hn ?_
  refine l_V (as := [.inl (xs (i + 1)), .inl (xs (i + 2))]) cs_L_82 rfl (hW.1 0 (by decide)) rfl (Nat.le_of_ble_eq_true rfl) (Nat.le_of_ble_eq_true rfl) d_L_769 (c_Bs_scriptOf hW.1 _ _ δ _ e1) NF.lw un_LNF (us_nil) rfl rfl (by omega) (by omega) rfl rfl ?_
  refine l_aload_n (i := 2) d_L_772 rfl rfl ?_
  refine l_arg (j := 1) hS (by rfl) d_L_773 d_L_774 d_L_775 d_L_776 d_L_777 (by omega) hn ?_
  refine l_arg (j := 2) hS (by rfl) d_L_778 d_L_779 d_L_780 d_L_781 d_L_782 (by omega) hn ?_
  refine l_V (as := [.inl (xs (i + 1)), .inl (xs (i + 2))]) cs_L_85 rfl hW.2.1 rfl (Nat.le_of_ble_eq_true rfl) (Nat.le_of_ble_eq_true rfl) d_L_783 (c_M_scriptOf hW.2.1 _ _ δ _ e2) NF.lw un_LNF (us_i us_nil) rfl rfl (by omega) (by omega) rfl rfl ?_
  exact l_cmp_eq (tgt := 1414) d_L_786 (by decide) (fun _ => kk _ _ _ _ (by omega) (by omega) (gw_same hW hq) hI2) (fun h => absurd rfl h)
set_option maxRecDepth 40000 in
set_option maxHeartbeats 1000000 in
theorem lc_17 {i n t : Nat} {xs : Nat → Int32} (hS : XSc (p, l, e, s, m, args, below, meth, c, D, K, μ0, Q) n xs) (hi : i + 5 < n) (hn : n ≤ 3072) (ht : t < 512) (hk : kb ≤ 1000 + 2 * t) (hsb : sb ≤ 10000 + 34 * t) {I : Dl → Prop} (hRX : ∀ δ, I δ → RX δ) (hW : GW Γ δ) (hI : I δ) (hst : S2 I (F_Bs_flag) (Tt (F_M_flag)))
    (kk : LK I (p, l, e, s, m, args, below, meth, c, D, K, μ0, Q) i (t + 1)) : XL (p, l, e, s, m, args, below, meth, c, D, K, μ0, Q) 791 (LLs i) [] kb sb Γ δ := by
  obtain ⟨v, δ1, δ2, e1, e2, hI2, hq⟩ := hst δ hI
  replace e2 := tt_e e2
  refine l_aload_n (i := 1) d_L_791 rfl rfl ?_
  refine l_V (as := []) cs_L_86 rfl (hW.1 0 (by decide)) rfl (Nat.le_of_ble_eq_true rfl) (Nat.le_of_ble_eq_true rfl) d_L_792 (c_Bs_flag hW.1  δ _ e1) NF.lw un_LNF (us_nil) rfl rfl (by omega) (by omega) rfl rfl ?_
  refine l_aload_n (i := 2) d_L_795 rfl rfl ?_
  refine l_V (as := []) cs_L_89 rfl hW.2.1 rfl (Nat.le_of_ble_eq_true rfl) (Nat.le_of_ble_eq_true rfl) d_L_796 (c_M_flag hW.2.1  δ1 _ e2) NF.lw un_LNF (us_i us_nil) rfl rfl (by omega) (by omega) rfl rfl ?_
  exact l_cmp_eq (tgt := 1414) d_L_799 (by decide) (fun _ => kk _ _ _ _ (by omega) (by omega) (gw_same hW hq) hI2) (fun h => absurd rfl h)
set_option maxRecDepth 40000 in
set_option maxHeartbeats 1000000 in
theorem lc_18 {i n t : Nat} {xs : Nat → Int32} (hS : XSc (p, l, e, s, m, args, below, meth, c, D, K, μ0, Q) n xs) (hi : i + 5 < n) (hn : n ≤ 3072) (ht : t < 512) (hk : kb ≤ 1000 + 2 * t) (hsb : sb ≤ 10000 + 34 * t) {I : Dl → Prop} (hRX : ∀ δ, I δ → RX δ) (hW : GW Γ δ) (hI : I δ) (hst : S2 I (F_Bs_tick (xs (i + 1))) (Tt (F_M_tick (xs (i + 1)))))
    (kk : LK I (p, l, e, s, m, args, below, meth, c, D, K, μ0, Q) i (t + 1)) : XL (p, l, e, s, m, args, below, meth, c, D, K, μ0, Q) 804 (LLs i) [] kb sb Γ δ := by
  obtain ⟨v, δ1, δ2, e1, e2, hI2, hq⟩ := hst δ hI
  replace e2 := tt_e e2
  refine l_aload_n (i := 1) d_L_804 rfl rfl ?_
  refine l_arg (j := 1) hS (by rfl) d_L_805 d_L_806 d_L_807 d_L_808 d_L_809 (by omega) hn ?_
  refine l_V (as := [.inl (xs (i + 1))]) cs_L_90 rfl (hW.1 0 (by decide)) rfl (Nat.le_of_ble_eq_true rfl) (Nat.le_of_ble_eq_true rfl) d_L_810 (c_Bs_tick hW.1 _ δ _ e1) NF.lw un_LNF (us_nil) rfl rfl (by omega) (by omega) rfl rfl ?_
  refine l_aload_n (i := 2) d_L_813 rfl rfl ?_
  refine l_arg (j := 1) hS (by rfl) d_L_814 d_L_815 d_L_816 d_L_817 d_L_818 (by omega) hn ?_
  refine l_V (as := [.inl (xs (i + 1))]) cs_L_93 rfl hW.2.1 rfl (Nat.le_of_ble_eq_true rfl) (Nat.le_of_ble_eq_true rfl) d_L_819 (c_M_tick hW.2.1 _ δ1 _ e2) NF.lw un_LNF (us_i us_nil) rfl rfl (by omega) (by omega) rfl rfl ?_
  exact l_cmp_eq (tgt := 1414) d_L_822 (by decide) (fun _ => kk _ _ _ _ (by omega) (by omega) (gw_same hW hq) hI2) (fun h => absurd rfl h)
set_option maxRecDepth 40000 in
set_option maxHeartbeats 1000000 in
theorem lc_19 {i n t : Nat} {xs : Nat → Int32} (hS : XSc (p, l, e, s, m, args, below, meth, c, D, K, μ0, Q) n xs) (hi : i + 5 < n) (hn : n ≤ 3072) (ht : t < 512) (hk : kb ≤ 1000 + 2 * t) (hsb : sb ≤ 10000 + 34 * t) {I : Dl → Prop} (hRX : ∀ δ, I δ → RX δ) (hW : GW Γ δ) (hI : I δ) (hst : S2 I (F_Bs_back (xs (i + 1))) (Tt (F_M_back (xs (i + 1)))))
    (kk : LK I (p, l, e, s, m, args, below, meth, c, D, K, μ0, Q) i (t + 1)) : XL (p, l, e, s, m, args, below, meth, c, D, K, μ0, Q) 827 (LLs i) [] kb sb Γ δ := by
  obtain ⟨v, δ1, δ2, e1, e2, hI2, hq⟩ := hst δ hI
  replace e2 := tt_e e2
  refine l_aload_n (i := 1) d_L_827 rfl rfl ?_
  refine l_arg (j := 1) hS (by rfl) d_L_828 d_L_829 d_L_830 d_L_831 d_L_832 (by omega) hn ?_
  refine l_V (as := [.inl (xs (i + 1))]) cs_L_94 rfl (hW.1 0 (by decide)) rfl (Nat.le_of_ble_eq_true rfl) (Nat.le_of_ble_eq_true rfl) d_L_833 (c_Bs_back hW.1 _ δ _ e1) NF.lw un_LNF (us_nil) rfl rfl (by omega) (by omega) rfl rfl ?_
  refine l_aload_n (i := 2) d_L_836 rfl rfl ?_
  refine l_arg (j := 1) hS (by rfl) d_L_837 d_L_838 d_L_839 d_L_840 d_L_841 (by omega) hn ?_
  refine l_V (as := [.inl (xs (i + 1))]) cs_L_97 rfl hW.2.1 rfl (Nat.le_of_ble_eq_true rfl) (Nat.le_of_ble_eq_true rfl) d_L_842 (c_M_back hW.2.1 _ δ1 _ e2) NF.lw un_LNF (us_i us_nil) rfl rfl (by omega) (by omega) rfl rfl ?_
  exact l_cmp_eq (tgt := 1414) d_L_845 (by decide) (fun _ => kk _ _ _ _ (by omega) (by omega) (gw_same hW hq) hI2) (fun h => absurd rfl h)
set_option maxRecDepth 40000 in
set_option maxHeartbeats 1000000 in
theorem lc_20 {i n t : Nat} {xs : Nat → Int32} (hS : XSc (p, l, e, s, m, args, below, meth, c, D, K, μ0, Q) n xs) (hi : i + 5 < n) (hn : n ≤ 3072) (ht : t < 512) (hk : kb ≤ 1000 + 2 * t) (hsb : sb ≤ 10000 + 34 * t) {I : Dl → Prop} (hRX : ∀ δ, I δ → RX δ) (hW : GW Γ δ) (hI : I δ) (hst : S2 I (Rd (F_Bs_who (xs (i + 1)) (xs (i + 2)))) (F_M_who (xs (i + 1)) (xs (i + 2))))
    (kk : LK I (p, l, e, s, m, args, below, meth, c, D, K, μ0, Q) i (t + 1)) : XL (p, l, e, s, m, args, below, meth, c, D, K, μ0, Q) 850 (LLs i) [] kb sb Γ δ := by
  obtain ⟨v, δ1, δ2, e1, e2, hI2, hq⟩ := hst δ hI
  obtain ⟨e1, rfl⟩ := rd_e e1
  refine l_aload_n (i := 1) d_L_850 rfl rfl ?_
  refine l_arg (j := 1) hS (by rfl) d_L_851 d_L_852 d_L_853 d_L_854 d_L_855 (by omega) hn ?_
  refine l_arg (j := 2) hS (by rfl) d_L_856 d_L_857 d_L_858 d_L_859 d_L_860 (by omega) hn ?_
  refine l_V (as := [.inl (xs (i + 1)), .inl (xs (i + 2))]) cs_L_98 rfl (hW.1 0 (by decide)) rfl (Nat.le_of_ble_eq_true rfl) (Nat.le_of_ble_eq_true rfl) d_L_861 (c_Bs_who hW.1 _ _ δ _ e1) NF.lw un_LNF (us_nil) rfl rfl (by omega) (by omega) rfl rfl ?_
  refine l_aload_n (i := 2) d_L_864 rfl rfl ?_
  refine l_arg (j := 1) hS (by rfl) d_L_865 d_L_866 d_L_867 d_L_868 d_L_869 (by omega) hn ?_
  refine l_arg (j := 2) hS (by rfl) d_L_870 d_L_871 d_L_872 d_L_873 d_L_874 (by omega) hn ?_
  refine l_V (as := [.inl (xs (i + 1)), .inl (xs (i + 2))]) cs_L_101 rfl hW.2.1 rfl (Nat.le_of_ble_eq_true rfl) (Nat.le_of_ble_eq_true rfl) d_L_875 (c_M_who hW.2.1 _ _ δ _ e2) NF.lw un_LNF (us_i us_nil) rfl rfl (by omega) (by omega) rfl rfl ?_
  exact l_cmp_eq (tgt := 1414) d_L_878 (by decide) (fun _ => kk _ _ _ _ (by omega) (by omega) (gw_same hW hq) hI2) (fun h => absurd rfl h)
set_option maxRecDepth 40000 in
set_option maxHeartbeats 1000000 in
theorem lc_21 {i n t : Nat} {xs : Nat → Int32} (hS : XSc (p, l, e, s, m, args, below, meth, c, D, K, μ0, Q) n xs) (hi : i + 5 < n) (hn : n ≤ 3072) (ht : t < 512) (hk : kb ≤ 1000 + 2 * t) (hsb : sb ≤ 10000 + 34 * t) {I : Dl → Prop} (hRX : ∀ δ, I δ → RX δ) (hW : GW Γ δ) (hI : I δ) (hst : S2 I (Rd (F_Bs_item (xs (i + 1)) (xs (i + 2)))) (F_M_item (xs (i + 1)) (xs (i + 2))))
    (kk : LK I (p, l, e, s, m, args, below, meth, c, D, K, μ0, Q) i (t + 1)) : XL (p, l, e, s, m, args, below, meth, c, D, K, μ0, Q) 883 (LLs i) [] kb sb Γ δ := by
  obtain ⟨v, δ1, δ2, e1, e2, hI2, hq⟩ := hst δ hI
  obtain ⟨e1, rfl⟩ := rd_e e1
  refine l_aload_n (i := 1) d_L_883 rfl rfl ?_
  refine l_arg (j := 1) hS (by rfl) d_L_884 d_L_885 d_L_886 d_L_887 d_L_888 (by omega) hn ?_
  refine l_arg (j := 2) hS (by rfl) d_L_889 d_L_890 d_L_891 d_L_892 d_L_893 (by omega) hn ?_
  refine l_V (as := [.inl (xs (i + 1)), .inl (xs (i + 2))]) cs_L_102 rfl (hW.1 0 (by decide)) rfl (Nat.le_of_ble_eq_true rfl) (Nat.le_of_ble_eq_true rfl) d_L_894 (c_Bs_item hW.1 _ _ δ _ e1) NF.lw un_LNF (us_nil) rfl rfl (by omega) (by omega) rfl rfl ?_
  refine l_aload_n (i := 2) d_L_897 rfl rfl ?_
  refine l_arg (j := 1) hS (by rfl) d_L_898 d_L_899 d_L_900 d_L_901 d_L_902 (by omega) hn ?_
  refine l_arg (j := 2) hS (by rfl) d_L_903 d_L_904 d_L_905 d_L_906 d_L_907 (by omega) hn ?_
  refine l_V (as := [.inl (xs (i + 1)), .inl (xs (i + 2))]) cs_L_105 rfl hW.2.1 rfl (Nat.le_of_ble_eq_true rfl) (Nat.le_of_ble_eq_true rfl) d_L_908 (c_M_item hW.2.1 _ _ δ _ e2) NF.lw un_LNF (us_i us_nil) rfl rfl (by omega) (by omega) rfl rfl ?_
  exact l_cmp_eq (tgt := 1414) d_L_911 (by decide) (fun _ => kk _ _ _ _ (by omega) (by omega) (gw_same hW hq) hI2) (fun h => absurd rfl h)
set_option maxRecDepth 40000 in
set_option maxHeartbeats 1000000 in
theorem lc_22 {i n t : Nat} {xs : Nat → Int32} (hS : XSc (p, l, e, s, m, args, below, meth, c, D, K, μ0, Q) n xs) (hi : i + 5 < n) (hn : n ≤ 3072) (ht : t < 512) (hk : kb ≤ 1000 + 2 * t) (hsb : sb ≤ 10000 + 34 * t) {I : Dl → Prop} (hRX : ∀ δ, I δ → RX δ) (hW : GW Γ δ) (hI : I δ) (hst : S2 I (Rd (F_Bs_said (xs (i + 1)) (xs (i + 2)))) (F_M_said (xs (i + 1)) (xs (i + 2))))
    (kk : LK I (p, l, e, s, m, args, below, meth, c, D, K, μ0, Q) i (t + 1)) : XL (p, l, e, s, m, args, below, meth, c, D, K, μ0, Q) 916 (LLs i) [] kb sb Γ δ := by
  obtain ⟨v, δ1, δ2, e1, e2, hI2, hq⟩ := hst δ hI
  obtain ⟨e1, rfl⟩ := rd_e e1
  refine l_aload_n (i := 1) d_L_916 rfl rfl ?_
  refine l_arg (j := 1) hS (by rfl) d_L_917 d_L_918 d_L_919 d_L_920 d_L_921 (by omega) hn ?_
  refine l_arg (j := 2) hS (by rfl) d_L_922 d_L_923 d_L_924 d_L_925 d_L_926 (by omega) hn ?_
  refine l_V (as := [.inl (xs (i + 1)), .inl (xs (i + 2))]) cs_L_106 rfl (hW.1 0 (by decide)) rfl (Nat.le_of_ble_eq_true rfl) (Nat.le_of_ble_eq_true rfl) d_L_927 (c_Bs_said hW.1 _ _ δ _ e1) NF.lw un_LNF (us_nil) rfl rfl (by omega) (by omega) rfl rfl ?_
  refine l_aload_n (i := 2) d_L_930 rfl rfl ?_
  refine l_arg (j := 1) hS (by rfl) d_L_931 d_L_932 d_L_933 d_L_934 d_L_935 (by omega) hn ?_
  refine l_arg (j := 2) hS (by rfl) d_L_936 d_L_937 d_L_938 d_L_939 d_L_940 (by omega) hn ?_
  refine l_V (as := [.inl (xs (i + 1)), .inl (xs (i + 2))]) cs_L_109 rfl hW.2.1 rfl (Nat.le_of_ble_eq_true rfl) (Nat.le_of_ble_eq_true rfl) d_L_941 (c_M_said hW.2.1 _ _ δ _ e2) NF.lw un_LNF (us_i us_nil) rfl rfl (by omega) (by omega) rfl rfl ?_
  exact l_cmp_eq (tgt := 1414) d_L_944 (by decide) (fun _ => kk _ _ _ _ (by omega) (by omega) (gw_same hW hq) hI2) (fun h => absurd rfl h)
set_option maxRecDepth 40000 in
set_option maxHeartbeats 1000000 in
theorem lc_23 {i n t : Nat} {xs : Nat → Int32} (hS : XSc (p, l, e, s, m, args, below, meth, c, D, K, μ0, Q) n xs) (hi : i + 5 < n) (hn : n ≤ 3072) (ht : t < 512) (hk : kb ≤ 1000 + 2 * t) (hsb : sb ≤ 10000 + 34 * t) {I : Dl → Prop} (hRX : ∀ δ, I δ → RX δ) (hW : GW Γ δ) (hI : I δ) (hst : S2 I (F_Bs_feed (xs (i + 1)) (xs (i + 2))) (F_M_feed (xs (i + 1)) (xs (i + 2))))
    (kk : LK I (p, l, e, s, m, args, below, meth, c, D, K, μ0, Q) i (t + 1)) : XL (p, l, e, s, m, args, below, meth, c, D, K, μ0, Q) 949 (LLs i) [] kb sb Γ δ := by
  obtain ⟨v, δ1, δ2, e1, e2, hI2, hq⟩ := hst δ hI
  refine l_aload_n (i := 1) d_L_949 rfl rfl ?_
  refine l_arg (j := 1) hS (by rfl) d_L_950 d_L_951 d_L_952 d_L_953 d_L_954 (by omega) hn ?_
  refine l_arg (j := 2) hS (by rfl) d_L_955 d_L_956 d_L_957 d_L_958 d_L_959 (by omega) hn ?_
  refine l_V (as := [.inl (xs (i + 1)), .inl (xs (i + 2))]) cs_L_110 rfl (hW.1 0 (by decide)) rfl (Nat.le_of_ble_eq_true rfl) (Nat.le_of_ble_eq_true rfl) d_L_960 (c_Bs_feed hW.1 _ _ δ _ e1) NF.lw un_LNF (us_nil) rfl rfl (by omega) (by omega) rfl rfl ?_
  refine l_aload_n (i := 2) d_L_963 rfl rfl ?_
  refine l_arg (j := 1) hS (by rfl) d_L_964 d_L_965 d_L_966 d_L_967 d_L_968 (by omega) hn ?_
  refine l_arg (j := 2) hS (by rfl) d_L_969 d_L_970 d_L_971 d_L_972 d_L_973 (by omega) hn ?_
  refine l_V (as := [.inl (xs (i + 1)), .inl (xs (i + 2))]) cs_L_113 rfl hW.2.1 rfl (Nat.le_of_ble_eq_true rfl) (Nat.le_of_ble_eq_true rfl) d_L_974 (c_M_feed hW.2.1 _ _ δ1 _ e2) NF.lw un_LNF (us_i us_nil) rfl rfl (by omega) (by omega) rfl rfl ?_
  exact l_cmp_eq (tgt := 1414) d_L_977 (by decide) (fun _ => kk _ _ _ _ (by omega) (by omega) (gw_same hW hq) hI2) (fun h => absurd rfl h)
set_option maxRecDepth 40000 in
set_option maxHeartbeats 1000000 in
theorem lc_24 {i n t : Nat} {xs : Nat → Int32} (hS : XSc (p, l, e, s, m, args, below, meth, c, D, K, μ0, Q) n xs) (hi : i + 5 < n) (hn : n ≤ 3072) (ht : t < 512) (hk : kb ≤ 1000 + 2 * t) (hsb : sb ≤ 10000 + 34 * t) {I : Dl → Prop} (hRX : ∀ δ, I δ → RX δ) (hW : GW Γ δ) (hI : I δ) (hst : S2 I (F_Bs_wish) (F_M_wish))
    (kk : LK I (p, l, e, s, m, args, below, meth, c, D, K, μ0, Q) i (t + 1)) : XL (p, l, e, s, m, args, below, meth, c, D, K, μ0, Q) 982 (LLs i) [] kb sb Γ δ := by
  obtain ⟨v, δ1, δ2, e1, e2, hI2, hq⟩ := hst δ hI
  refine l_aload_n (i := 1) d_L_982 rfl rfl ?_
  refine l_V (as := []) cs_L_114 rfl (hW.1 0 (by decide)) rfl (Nat.le_of_ble_eq_true rfl) (Nat.le_of_ble_eq_true rfl) d_L_983 (c_Bs_wish hW.1  δ _ e1) NF.lw un_LNF (us_nil) rfl rfl (by omega) (by omega) rfl rfl ?_
  refine l_aload_n (i := 2) d_L_986 rfl rfl ?_
  refine l_V (as := []) cs_L_117 rfl hW.2.1 rfl (Nat.le_of_ble_eq_true rfl) (Nat.le_of_ble_eq_true rfl) d_L_987 (c_M_wish hW.2.1  δ1 _ e2) NF.lw un_LNF (us_i us_nil) rfl rfl (by omega) (by omega) rfl rfl ?_
  exact l_cmp_eq (tgt := 1414) d_L_990 (by decide) (fun _ => kk _ _ _ _ (by omega) (by omega) (gw_same hW hq) hI2) (fun h => absurd rfl h)
set_option maxRecDepth 40000 in
set_option maxHeartbeats 1000000 in
theorem lc_25 {i n t : Nat} {xs : Nat → Int32} (hS : XSc (p, l, e, s, m, args, below, meth, c, D, K, μ0, Q) n xs) (hi : i + 5 < n) (hn : n ≤ 3072) (ht : t < 512) (hk : kb ≤ 1000 + 2 * t) (hsb : sb ≤ 10000 + 34 * t) {I : Dl → Prop} (hRX : ∀ δ, I δ → RX δ) (hW : GW Γ δ) (hI : I δ) (hst : S2 I (F_Bs_mark (xs (i + 1))) (F_M_mark (xs (i + 1))))
    (kk : LK I (p, l, e, s, m, args, below, meth, c, D, K, μ0, Q) i (t + 1)) : XL (p, l, e, s, m, args, below, meth, c, D, K, μ0, Q) 995 (LLs i) [] kb sb Γ δ := by
  obtain ⟨v, δ1, δ2, e1, e2, hI2, hq⟩ := hst δ hI
  refine l_aload_n (i := 1) d_L_995 rfl rfl ?_
  refine l_arg (j := 1) hS (by rfl) d_L_996 d_L_997 d_L_998 d_L_999 d_L_1000 (by omega) hn ?_
  refine l_V (as := [.inl (xs (i + 1))]) cs_L_118 rfl (hW.1 0 (by decide)) rfl (Nat.le_of_ble_eq_true rfl) (Nat.le_of_ble_eq_true rfl) d_L_1001 (c_Bs_mark hW.1 _ δ _ e1) NF.lw un_LNF (us_nil) rfl rfl (by omega) (by omega) rfl rfl ?_
  refine l_aload_n (i := 2) d_L_1004 rfl rfl ?_
  refine l_arg (j := 1) hS (by rfl) d_L_1005 d_L_1006 d_L_1007 d_L_1008 d_L_1009 (by omega) hn ?_
  refine l_V (as := [.inl (xs (i + 1))]) cs_L_121 rfl hW.2.1 rfl (Nat.le_of_ble_eq_true rfl) (Nat.le_of_ble_eq_true rfl) d_L_1010 (c_M_mark hW.2.1 _ δ1 _ e2) NF.lw un_LNF (us_i us_nil) rfl rfl (by omega) (by omega) rfl rfl ?_
  exact l_cmp_eq (tgt := 1414) d_L_1013 (by decide) (fun _ => kk _ _ _ _ (by omega) (by omega) (gw_same hW hq) hI2) (fun h => absurd rfl h)
set_option maxRecDepth 40000 in
set_option maxHeartbeats 1000000 in
theorem lc_26 {i n t : Nat} {xs : Nat → Int32} (hS : XSc (p, l, e, s, m, args, below, meth, c, D, K, μ0, Q) n xs) (hi : i + 5 < n) (hn : n ≤ 3072) (ht : t < 512) (hk : kb ≤ 1000 + 2 * t) (hsb : sb ≤ 10000 + 34 * t) {I : Dl → Prop} (hRX : ∀ δ, I δ → RX δ) (hW : GW Γ δ) (hI : I δ) (hst : S2 I (Rt (F_Bs_fails (xs (i + 1)))) (Rt (F_M_fails (xs (i + 1)))))
    (kk : LK I (p, l, e, s, m, args, below, meth, c, D, K, μ0, Q) i (t + 1)) : XL (p, l, e, s, m, args, below, meth, c, D, K, μ0, Q) 1018 (LLs i) [] kb sb Γ δ := by
  obtain ⟨v, δ1, δ2, e1, e2, hI2, hq⟩ := hst δ hI
  obtain ⟨e2, rfl⟩ := rt_e e2
  obtain ⟨e1, rfl⟩ := rt_e e1
  refine l_aload_n (i := 1) d_L_1018 rfl rfl ?_
  refine l_arg (j := 1) hS (by rfl) d_L_1019 d_L_1020 d_L_1021 d_L_1022 d_L_1023 (by omega) hn ?_
  refine l_V (as := [.inl (xs (i + 1))]) cs_L_122 rfl (hW.1 0 (by decide)) rfl (Nat.le_of_ble_eq_true rfl) (Nat.le_of_ble_eq_true rfl) d_L_1024 (c_Bs_fails hW.1 _ δ _ e1) NF.lw un_LNF (us_nil) rfl rfl (by omega) (by omega) rfl rfl ?_
  refine l_aload_n (i := 2) d_L_1027 rfl rfl ?_
  refine l_arg (j := 1) hS (by rfl) d_L_1028 d_L_1029 d_L_1030 d_L_1031 d_L_1032 (by omega) hn ?_
  refine l_V (as := [.inl (xs (i + 1))]) cs_L_125 rfl hW.2.1 rfl (Nat.le_of_ble_eq_true rfl) (Nat.le_of_ble_eq_true rfl) d_L_1033 (c_M_fails hW.2.1 _ δ _ e2) NF.lw un_LNF (us_i us_nil) rfl rfl (by omega) (by omega) rfl rfl ?_
  exact l_cmp_eq (tgt := 1414) d_L_1036 (by decide) (fun _ => kk _ _ _ _ (by omega) (by omega) (gw_same hW hq) hI2) (fun h => absurd rfl h)
set_option maxRecDepth 40000 in
set_option maxHeartbeats 1000000 in
theorem lc_27 {i n t : Nat} {xs : Nat → Int32} (hS : XSc (p, l, e, s, m, args, below, meth, c, D, K, μ0, Q) n xs) (hi : i + 5 < n) (hn : n ≤ 3072) (ht : t < 512) (hk : kb ≤ 1000 + 2 * t) (hsb : sb ≤ 10000 + 34 * t) {I : Dl → Prop} (hRX : ∀ δ, I δ → RX δ) (hW : GW Γ δ) (hI : I δ) (hst : S2 I (F_Bs_least (xs (i + 1))) (F_M_least (xs (i + 1))))
    (kk : LK I (p, l, e, s, m, args, below, meth, c, D, K, μ0, Q) i (t + 1)) : XL (p, l, e, s, m, args, below, meth, c, D, K, μ0, Q) 1041 (LLs i) [] kb sb Γ δ := by
  obtain ⟨v, δ1, δ2, e1, e2, hI2, hq⟩ := hst δ hI
  refine l_aload_n (i := 1) d_L_1041 rfl rfl ?_
  refine l_arg (j := 1) hS (by rfl) d_L_1042 d_L_1043 d_L_1044 d_L_1045 d_L_1046 (by omega) hn ?_
  refine l_V (as := [.inl (xs (i + 1))]) cs_L_126 rfl (hW.1 0 (by decide)) rfl (Nat.le_of_ble_eq_true rfl) (Nat.le_of_ble_eq_true rfl) d_L_1047 (c_Bs_least hW.1 _ δ _ e1) NF.lw un_LNF (us_nil) rfl rfl (by omega) (by omega) rfl rfl ?_
  refine l_aload_n (i := 2) d_L_1050 rfl rfl ?_
  refine l_arg (j := 1) hS (by rfl) d_L_1051 d_L_1052 d_L_1053 d_L_1054 d_L_1055 (by omega) hn ?_
  refine l_V (as := [.inl (xs (i + 1))]) cs_L_129 rfl hW.2.1 rfl (Nat.le_of_ble_eq_true rfl) (Nat.le_of_ble_eq_true rfl) d_L_1056 (c_M_least hW.2.1 _ δ1 _ e2) NF.lw un_LNF (us_i us_nil) rfl rfl (by omega) (by omega) rfl rfl ?_
  exact l_cmp_eq (tgt := 1414) d_L_1059 (by decide) (fun _ => kk _ _ _ _ (by omega) (by omega) (gw_same hW hq) hI2) (fun h => absurd rfl h)
set_option maxRecDepth 40000 in
set_option maxHeartbeats 1000000 in
theorem lc_28 {i n t : Nat} {xs : Nat → Int32} (hS : XSc (p, l, e, s, m, args, below, meth, c, D, K, μ0, Q) n xs) (hi : i + 5 < n) (hn : n ≤ 3072) (ht : t < 512) (hk : kb ≤ 1000 + 2 * t) (hsb : sb ≤ 10000 + 34 * t) {I : Dl → Prop} (hRX : ∀ δ, I δ → RX δ) (hW : GW Γ δ) (hI : I δ) (hst : S2 I (Rd (F_Bs_hint (xs (i + 1)) (xs (i + 2)))) (Rd (F_M_hint (xs (i + 1)) (xs (i + 2)))))
    (kk : LK I (p, l, e, s, m, args, below, meth, c, D, K, μ0, Q) i (t + 1)) : XL (p, l, e, s, m, args, below, meth, c, D, K, μ0, Q) 1064 (LLs i) [] kb sb Γ δ := by
  obtain ⟨v, δ1, δ2, e1, e2, hI2, hq⟩ := hst δ hI
  obtain ⟨e2, rfl⟩ := rd_e e2
  obtain ⟨e1, rfl⟩ := rd_e e1
  refine l_aload_n (i := 1) d_L_1064 rfl rfl ?_
  refine l_arg (j := 1) hS (by rfl) d_L_1065 d_L_1066 d_L_1067 d_L_1068 d_L_1069 (by omega) hn ?_
  refine l_arg (j := 2) hS (by rfl) d_L_1070 d_L_1071 d_L_1072 d_L_1073 d_L_1074 (by omega) hn ?_
  refine l_V (as := [.inl (xs (i + 1)), .inl (xs (i + 2))]) cs_L_130 rfl (hW.1 0 (by decide)) rfl (Nat.le_of_ble_eq_true rfl) (Nat.le_of_ble_eq_true rfl) d_L_1075 (c_Bs_hint hW.1 _ _ δ _ e1) NF.lw un_LNF (us_nil) rfl rfl (by omega) (by omega) rfl rfl ?_
  refine l_aload_n (i := 2) d_L_1078 rfl rfl ?_
  refine l_arg (j := 1) hS (by rfl) d_L_1079 d_L_1080 d_L_1081 d_L_1082 d_L_1083 (by omega) hn ?_
  refine l_arg (j := 2) hS (by rfl) d_L_1084 d_L_1085 d_L_1086 d_L_1087 d_L_1088 (by omega) hn ?_
  refine l_V (as := [.inl (xs (i + 1)), .inl (xs (i + 2))]) cs_L_133 rfl hW.2.1 rfl (Nat.le_of_ble_eq_true rfl) (Nat.le_of_ble_eq_true rfl) d_L_1089 (c_M_hint hW.2.1 _ _ δ _ e2) NF.lw un_LNF (us_i us_nil) rfl rfl (by omega) (by omega) rfl rfl ?_
  exact l_cmp_eq (tgt := 1414) d_L_1092 (by decide) (fun _ => kk _ _ _ _ (by omega) (by omega) (gw_same hW hq) hI2) (fun h => absurd rfl h)
set_option maxRecDepth 40000 in
set_option maxHeartbeats 1000000 in
theorem lc_29 {i n t : Nat} {xs : Nat → Int32} (hS : XSc (p, l, e, s, m, args, below, meth, c, D, K, μ0, Q) n xs) (hi : i + 5 < n) (hn : n ≤ 3072) (ht : t < 512) (hk : kb ≤ 1000 + 2 * t) (hsb : sb ≤ 10000 + 34 * t) {I : Dl → Prop} (hRX : ∀ δ, I δ → RX δ) (hW : GW Γ δ) (hI : I δ) (hst : S2 I (F_Bs_write (xs (i + 1))) (F_M_write (xs (i + 1))))
    (kk : LK I (p, l, e, s, m, args, below, meth, c, D, K, μ0, Q) i (t + 1)) : XL (p, l, e, s, m, args, below, meth, c, D, K, μ0, Q) 1097 (LLs i) [] kb sb Γ δ := by
  obtain ⟨v, δ1, δ2, e1, e2, hI2, hq⟩ := hst δ hI
  refine l_aload_n (i := 1) d_L_1097 rfl rfl ?_
  refine l_arg (j := 1) hS (by rfl) d_L_1098 d_L_1099 d_L_1100 d_L_1101 d_L_1102 (by omega) hn ?_
  refine l_V (as := [.inl (xs (i + 1))]) cs_L_134 rfl (hW.1 0 (by decide)) rfl (Nat.le_of_ble_eq_true rfl) (Nat.le_of_ble_eq_true rfl) d_L_1103 (c_Bs_write hW.1 _ δ _ e1) NF.lw un_LNF (us_nil) rfl rfl (by omega) (by omega) rfl rfl ?_
  refine l_aload_n (i := 2) d_L_1106 rfl rfl ?_
  refine l_arg (j := 1) hS (by rfl) d_L_1107 d_L_1108 d_L_1109 d_L_1110 d_L_1111 (by omega) hn ?_
  refine l_V (as := [.inl (xs (i + 1))]) cs_L_137 rfl hW.2.1 rfl (Nat.le_of_ble_eq_true rfl) (Nat.le_of_ble_eq_true rfl) d_L_1112 (c_M_write hW.2.1 _ δ1 _ e2) NF.lw un_LNF (us_i us_nil) rfl rfl (by omega) (by omega) rfl rfl ?_
  exact l_cmp_eq (tgt := 1414) d_L_1115 (by decide) (fun _ => kk _ _ _ _ (by omega) (by omega) (gw_same hW hq) hI2) (fun h => absurd rfl h)
set_option maxRecDepth 40000 in
set_option maxHeartbeats 1000000 in
theorem lc_30 {i n t : Nat} {xs : Nat → Int32} (hS : XSc (p, l, e, s, m, args, below, meth, c, D, K, μ0, Q) n xs) (hi : i + 5 < n) (hn : n ≤ 3072) (ht : t < 512) (hk : kb ≤ 1000 + 2 * t) (hsb : sb ≤ 10000 + 34 * t) {I : Dl → Prop} (hRX : ∀ δ, I δ → RX δ) (hW : GW Γ δ) (hI : I δ) (hst : S2 I (Rd (F_Bs_text (xs (i + 1)))) (Rd (F_M_text (xs (i + 1)))))
    (kk : LK I (p, l, e, s, m, args, below, meth, c, D, K, μ0, Q) i (t + 1)) : XL (p, l, e, s, m, args, below, meth, c, D, K, μ0, Q) 1120 (LLs i) [] kb sb Γ δ := by
  obtain ⟨v, δ1, δ2, e1, e2, hI2, hq⟩ := hst δ hI
  obtain ⟨e2, rfl⟩ := rd_e e2
  obtain ⟨e1, rfl⟩ := rd_e e1
  refine l_aload_n (i := 1) d_L_1120 rfl rfl ?_
  refine l_arg (j := 1) hS (by rfl) d_L_1121 d_L_1122 d_L_1123 d_L_1124 d_L_1125 (by omega) hn ?_
  refine l_V (as := [.inl (xs (i + 1))]) cs_L_138 rfl (hW.1 0 (by decide)) rfl (Nat.le_of_ble_eq_true rfl) (Nat.le_of_ble_eq_true rfl) d_L_1126 (c_Bs_text hW.1 _ δ _ e1) NF.lw un_LNF (us_nil) rfl rfl (by omega) (by omega) rfl rfl ?_
  refine l_aload_n (i := 2) d_L_1129 rfl rfl ?_
  refine l_arg (j := 1) hS (by rfl) d_L_1130 d_L_1131 d_L_1132 d_L_1133 d_L_1134 (by omega) hn ?_
  refine l_V (as := [.inl (xs (i + 1))]) cs_L_141 rfl hW.2.1 rfl (Nat.le_of_ble_eq_true rfl) (Nat.le_of_ble_eq_true rfl) d_L_1135 (c_M_text hW.2.1 _ δ _ e2) NF.lw un_LNF (us_i us_nil) rfl rfl (by omega) (by omega) rfl rfl ?_
  exact l_cmp_eq (tgt := 1414) d_L_1138 (by decide) (fun _ => kk _ _ _ _ (by omega) (by omega) (gw_same hW hq) hI2) (fun h => absurd rfl h)
set_option maxRecDepth 40000 in
set_option maxHeartbeats 1000000 in
theorem lc_31 {i n t : Nat} {xs : Nat → Int32} (hS : XSc (p, l, e, s, m, args, below, meth, c, D, K, μ0, Q) n xs) (hi : i + 5 < n) (hn : n ≤ 3072) (ht : t < 512) (hk : kb ≤ 1000 + 2 * t) (hsb : sb ≤ 10000 + 34 * t) {I : Dl → Prop} (hRX : ∀ δ, I δ → RX δ) (hW : GW Γ δ) (hI : I δ) (hst : SAct I (xs (i + 1)) (xs (i + 2)) (xs (i + 3)))
    (kk : LK I (p, l, e, s, m, args, below, meth, c, D, K, μ0, Q) i (t + 1)) : XL (p, l, e, s, m, args, below, meth, c, D, K, μ0, Q) 1143 (LLs i) [] kb sb Γ δ := by
  obtain ⟨v, q, δ1, δ2, e1, e2, hI2, hq⟩ := hst δ hI
  refine l_aload_n (i := 1) d_L_1143 rfl rfl ?_
  refine l_arg (j := 1) hS (by rfl) d_L_1144 d_L_1145 d_L_1146 d_L_1147 d_L_1148 (by omega) hn ?_
  refine l_arg (j := 2) hS (by rfl) d_L_1149 d_L_1150 d_L_1151 d_L_1152 d_L_1153 (by omega) hn ?_
  refine l_arg (j := 3) hS (by rfl) d_L_1154 d_L_1155 d_L_1156 d_L_1157 d_L_1158 (by omega) hn ?_
  refine l_V (as := [.inl (xs (i + 1)), .inl (xs (i + 2)), .inl (xs (i + 3))]) cs_L_142 rfl (hW.1 0 (by decide)) rfl (Nat.le_of_ble_eq_true rfl) (Nat.le_of_ble_eq_true rfl) d_L_1159 (c_Bs_act hW.1 _ _ _ δ (hRX δ hI) _ e1) NFm.lw un_LNm (us_nil) rfl rfl (by omega) (by omega) rfl rfl ?_
  have hW2 := gw_act hW hq
  refine l_aload_n (i := 2) d_L_1162 rfl rfl ?_
  refine l_arg (j := 1) hS (by rfl) d_L_1163 d_L_1164 d_L_1165 d_L_1166 d_L_1167 (by omega) hn ?_
  refine l_arg (j := 2) hS (by rfl) d_L_1168 d_L_1169 d_L_1170 d_L_1171 d_L_1172 (by omega) hn ?_
  refine l_arg (j := 3) hS (by rfl) d_L_1173 d_L_1174 d_L_1175 d_L_1176 d_L_1177 (by omega) hn ?_
  refine l_V (as := [.inl (xs (i + 1)), .inl (xs (i + 2)), .inl (xs (i + 3))]) cs_L_145 rfl hW2.2.1 rfl (Nat.le_of_ble_eq_true rfl) (Nat.le_of_ble_eq_true rfl) d_L_1178 (c_M_act hW2.2.1 _ _ _ δ1 _ e2) NF.lw un_LNF (us_i us_nil) rfl rfl (by omega) (by omega) rfl rfl ?_
  exact l_cmp_eq (tgt := 1414) d_L_1181 (by decide) (fun _ => kk _ _ _ δ2 (by omega) (by omega) hW2 hI2) (fun h => absurd rfl h)
set_option maxRecDepth 40000 in
set_option maxHeartbeats 1000000 in
theorem lc_32 {i n t : Nat} {xs : Nat → Int32} (hS : XSc (p, l, e, s, m, args, below, meth, c, D, K, μ0, Q) n xs) (hi : i + 5 < n) (hn : n ≤ 3072) (ht : t < 512) (hk : kb ≤ 1000 + 2 * t) (hsb : sb ≤ 10000 + 34 * t) {I : Dl → Prop} (hRX : ∀ δ, I δ → RX δ) (hW : GW Γ δ) (hI : I δ) (hst : S2 I (Rd (F_Bs_trace (xs (i + 1)))) (Rd (F_M_trace (xs (i + 1)))))
    (kk : LK I (p, l, e, s, m, args, below, meth, c, D, K, μ0, Q) i (t + 1)) : XL (p, l, e, s, m, args, below, meth, c, D, K, μ0, Q) 1186 (LLs i) [] kb sb Γ δ := by
  obtain ⟨v, δ1, δ2, e1, e2, hI2, hq⟩ := hst δ hI
  obtain ⟨e2, rfl⟩ := rd_e e2
  obtain ⟨e1, rfl⟩ := rd_e e1
  refine l_aload_n (i := 1) d_L_1186 rfl rfl ?_
  refine l_arg (j := 1) hS (by rfl) d_L_1187 d_L_1188 d_L_1189 d_L_1190 d_L_1191 (by omega) hn ?_
  refine l_V (as := [.inl (xs (i + 1))]) cs_L_146 rfl (hW.1 0 (by decide)) rfl (Nat.le_of_ble_eq_true rfl) (Nat.le_of_ble_eq_true rfl) d_L_1192 (c_Bs_trace hW.1 _ δ hW.2.2 _ e1) NF.lw un_LNF (us_nil) rfl rfl (by omega) (by omega) rfl rfl ?_
  refine l_aload_n (i := 2) d_L_1195 rfl rfl ?_
  refine l_arg (j := 1) hS (by rfl) d_L_1196 d_L_1197 d_L_1198 d_L_1199 d_L_1200 (by omega) hn ?_
  refine l_V (as := [.inl (xs (i + 1))]) cs_L_149 rfl hW.2.1 rfl (Nat.le_of_ble_eq_true rfl) (Nat.le_of_ble_eq_true rfl) d_L_1201 (c_M_trace hW.2.1 _ δ _ e2) NF.lw un_LNF (us_i us_nil) rfl rfl (by omega) (by omega) rfl rfl ?_
  exact l_cmp_eq (tgt := 1414) d_L_1204 (by decide) (fun _ => kk _ _ _ _ (by omega) (by omega) (gw_same hW hq) hI2) (fun h => absurd rfl h)
set_option maxRecDepth 40000 in
set_option maxHeartbeats 1000000 in
theorem lc_33 {i n t : Nat} {xs : Nat → Int32} (hS : XSc (p, l, e, s, m, args, below, meth, c, D, K, μ0, Q) n xs) (hi : i + 5 < n) (hn : n ≤ 3072) (ht : t < 512) (hk : kb ≤ 1000 + 2 * t) (hsb : sb ≤ 10000 + 34 * t) {I : Dl → Prop} (hRX : ∀ δ, I δ → RX δ) (hW : GW Γ δ) (hI : I δ) (hst : S2 I (Rd (F_Bs_taken (xs (i + 1)) (xs (i + 2)))) (Rd (F_M_taken (xs (i + 1)) (xs (i + 2)))))
    (kk : LK I (p, l, e, s, m, args, below, meth, c, D, K, μ0, Q) i (t + 1)) : XL (p, l, e, s, m, args, below, meth, c, D, K, μ0, Q) 1209 (LLs i) [] kb sb Γ δ := by
  obtain ⟨v, δ1, δ2, e1, e2, hI2, hq⟩ := hst δ hI
  obtain ⟨e2, rfl⟩ := rd_e e2
  obtain ⟨e1, rfl⟩ := rd_e e1
  refine l_aload_n (i := 1) d_L_1209 rfl rfl ?_
  refine l_arg (j := 1) hS (by rfl) d_L_1210 d_L_1211 d_L_1212 d_L_1213 d_L_1214 (by omega) hn ?_
  refine l_arg (j := 2) hS (by rfl) d_L_1215 d_L_1216 d_L_1217 d_L_1218 d_L_1219 (by omega) hn ?_
  refine l_V (as := [.inl (xs (i + 1)), .inl (xs (i + 2))]) cs_L_150 rfl (hW.1 0 (by decide)) rfl (Nat.le_of_ble_eq_true rfl) (Nat.le_of_ble_eq_true rfl) d_L_1220 (c_Bs_taken hW.1 _ _ δ _ e1) NF.lw un_LNF (us_nil) rfl rfl (by omega) (by omega) rfl rfl ?_
  refine l_aload_n (i := 2) d_L_1223 rfl rfl ?_
  refine l_arg (j := 1) hS (by rfl) d_L_1224 d_L_1225 d_L_1226 d_L_1227 d_L_1228 (by omega) hn ?_
  refine l_arg (j := 2) hS (by rfl) d_L_1229 d_L_1230 d_L_1231 d_L_1232 d_L_1233 (by omega) hn ?_
  refine l_V (as := [.inl (xs (i + 1)), .inl (xs (i + 2))]) cs_L_153 rfl hW.2.1 rfl (Nat.le_of_ble_eq_true rfl) (Nat.le_of_ble_eq_true rfl) d_L_1234 (c_M_taken hW.2.1 _ _ δ _ e2) NF.lw un_LNF (us_i us_nil) rfl rfl (by omega) (by omega) rfl rfl ?_
  exact l_cmp_eq (tgt := 1414) d_L_1237 (by decide) (fun _ => kk _ _ _ _ (by omega) (by omega) (gw_same hW hq) hI2) (fun h => absurd rfl h)
set_option maxRecDepth 40000 in
set_option maxHeartbeats 1000000 in
theorem lc_34 {i n t : Nat} {xs : Nat → Int32} (hS : XSc (p, l, e, s, m, args, below, meth, c, D, K, μ0, Q) n xs) (hi : i + 5 < n) (hn : n ≤ 3072) (ht : t < 512) (hk : kb ≤ 1000 + 2 * t) (hsb : sb ≤ 10000 + 34 * t) {I : Dl → Prop} (hRX : ∀ δ, I δ → RX δ) (hW : GW Γ δ) (hI : I δ) (hst : S2 I (Rd (F_Bs_count (xs (i + 1)))) (F_M_count (xs (i + 1))))
    (kk : LK I (p, l, e, s, m, args, below, meth, c, D, K, μ0, Q) i (t + 1)) : XL (p, l, e, s, m, args, below, meth, c, D, K, μ0, Q) 1242 (LLs i) [] kb sb Γ δ := by
  obtain ⟨v, δ1, δ2, e1, e2, hI2, hq⟩ := hst δ hI
  obtain ⟨e1, rfl⟩ := rd_e e1
  refine l_aload_n (i := 1) d_L_1242 rfl rfl ?_
  refine l_arg (j := 1) hS (by rfl) d_L_1243 d_L_1244 d_L_1245 d_L_1246 d_L_1247 (by omega) hn ?_
  refine l_V (as := [.inl (xs (i + 1))]) cs_L_154 rfl (hW.1 0 (by decide)) rfl (Nat.le_of_ble_eq_true rfl) (Nat.le_of_ble_eq_true rfl) d_L_1248 (c_Bs_count hW.1 _ δ hW.2.2 _ e1) NF.lw un_LNF (us_nil) rfl rfl (by omega) (by omega) rfl rfl ?_
  refine l_aload_n (i := 2) d_L_1251 rfl rfl ?_
  refine l_arg (j := 1) hS (by rfl) d_L_1252 d_L_1253 d_L_1254 d_L_1255 d_L_1256 (by omega) hn ?_
  refine l_V (as := [.inl (xs (i + 1))]) cs_L_157 rfl hW.2.1 rfl (Nat.le_of_ble_eq_true rfl) (Nat.le_of_ble_eq_true rfl) d_L_1257 (c_M_count hW.2.1 _ δ _ e2) NF.lw un_LNF (us_i us_nil) rfl rfl (by omega) (by omega) rfl rfl ?_
  exact l_cmp_eq (tgt := 1414) d_L_1260 (by decide) (fun _ => kk _ _ _ _ (by omega) (by omega) (gw_same hW hq) hI2) (fun h => absurd rfl h)
set_option maxRecDepth 40000 in
set_option maxHeartbeats 1000000 in
theorem lc_35 {i n t : Nat} {xs : Nat → Int32} (hS : XSc (p, l, e, s, m, args, below, meth, c, D, K, μ0, Q) n xs) (hi : i + 5 < n) (hn : n ≤ 3072) (ht : t < 512) (hk : kb ≤ 1000 + 2 * t) (hsb : sb ≤ 10000 + 34 * t) {I : Dl → Prop} (hRX : ∀ δ, I δ → RX δ) (hW : GW Γ δ) (hI : I δ) (hst : S2 I (F_Bs_sheet (xs (i + 1)) (xs (i + 2)) (xs (i + 3))) (F_M_sheet (xs (i + 1)) (xs (i + 2)) (xs (i + 3))))
    (kk : LK I (p, l, e, s, m, args, below, meth, c, D, K, μ0, Q) i (t + 1)) : XL (p, l, e, s, m, args, below, meth, c, D, K, μ0, Q) 1265 (LLs i) [] kb sb Γ δ := by
  obtain ⟨v, δ1, δ2, e1, e2, hI2, hq⟩ := hst δ hI
  refine l_aload_n (i := 1) d_L_1265 rfl rfl ?_
  refine l_arg (j := 1) hS (by rfl) d_L_1266 d_L_1267 d_L_1268 d_L_1269 d_L_1270 (by omega) hn ?_
  refine l_arg (j := 2) hS (by rfl) d_L_1271 d_L_1272 d_L_1273 d_L_1274 d_L_1275 (by omega) hn ?_
  refine l_arg (j := 3) hS (by rfl) d_L_1276 d_L_1277 d_L_1278 d_L_1279 d_L_1280 (by omega) hn ?_
  refine l_V (as := [.inl (xs (i + 1)), .inl (xs (i + 2)), .inl (xs (i + 3))]) cs_L_158 rfl (hW.1 0 (by decide)) rfl (Nat.le_of_ble_eq_true rfl) (Nat.le_of_ble_eq_true rfl) d_L_1281 (c_Bs_sheet hW.1 _ _ _ δ _ e1) NF.lw un_LNF (us_nil) rfl rfl (by omega) (by omega) rfl rfl ?_
  refine l_aload_n (i := 2) d_L_1284 rfl rfl ?_
  refine l_arg (j := 1) hS (by rfl) d_L_1285 d_L_1286 d_L_1287 d_L_1288 d_L_1289 (by omega) hn ?_
  refine l_arg (j := 2) hS (by rfl) d_L_1290 d_L_1291 d_L_1292 d_L_1293 d_L_1294 (by omega) hn ?_
  refine l_arg (j := 3) hS (by rfl) d_L_1295 d_L_1296 d_L_1297 d_L_1298 d_L_1299 (by omega) hn ?_
  refine l_V (as := [.inl (xs (i + 1)), .inl (xs (i + 2)), .inl (xs (i + 3))]) cs_L_161 rfl hW.2.1 rfl (Nat.le_of_ble_eq_true rfl) (Nat.le_of_ble_eq_true rfl) d_L_1300 (c_M_sheet hW.2.1 _ _ _ δ1 _ e2) NF.lw un_LNF (us_i us_nil) rfl rfl (by omega) (by omega) rfl rfl ?_
  exact l_cmp_eq (tgt := 1414) d_L_1303 (by decide) (fun _ => kk _ _ _ _ (by omega) (by omega) (gw_same hW hq) hI2) (fun h => absurd rfl h)
set_option maxRecDepth 40000 in
set_option maxHeartbeats 1000000 in
theorem lc_36 {i n t : Nat} {xs : Nat → Int32} (hS : XSc (p, l, e, s, m, args, below, meth, c, D, K, μ0, Q) n xs) (hi : i + 5 < n) (hn : n ≤ 3072) (ht : t < 512) (hk : kb ≤ 1000 + 2 * t) (hsb : sb ≤ 10000 + 34 * t) {I : Dl → Prop} (hRX : ∀ δ, I δ → RX δ) (hW : GW Γ δ) (hI : I δ) (hst : S2 I (F_Bs_cell (xs (i + 1)) (xs (i + 2)) (xs (i + 3))) (F_M_cell (xs (i + 1)) (xs (i + 2)) (xs (i + 3))))
    (kk : LK I (p, l, e, s, m, args, below, meth, c, D, K, μ0, Q) i (t + 1)) : XL (p, l, e, s, m, args, below, meth, c, D, K, μ0, Q) 1308 (LLs i) [] kb sb Γ δ := by
  obtain ⟨v, δ1, δ2, e1, e2, hI2, hq⟩ := hst δ hI
  refine l_aload_n (i := 1) d_L_1308 rfl rfl ?_
  refine l_arg (j := 1) hS (by rfl) d_L_1309 d_L_1310 d_L_1311 d_L_1312 d_L_1313 (by omega) hn ?_
  refine l_arg (j := 2) hS (by rfl) d_L_1314 d_L_1315 d_L_1316 d_L_1317 d_L_1318 (by omega) hn ?_
  refine l_arg (j := 3) hS (by rfl) d_L_1319 d_L_1320 d_L_1321 d_L_1322 d_L_1323 (by omega) hn ?_
  refine l_V (as := [.inl (xs (i + 1)), .inl (xs (i + 2)), .inl (xs (i + 3))]) cs_L_162 rfl (hW.1 0 (by decide)) rfl (Nat.le_of_ble_eq_true rfl) (Nat.le_of_ble_eq_true rfl) d_L_1324 (c_Bs_cell hW.1 _ _ _ δ _ e1) NF.lw un_LNF (us_nil) rfl rfl (by omega) (by omega) rfl rfl ?_
  refine l_aload_n (i := 2) d_L_1327 rfl rfl ?_
  refine l_arg (j := 1) hS (by rfl) d_L_1328 d_L_1329 d_L_1330 d_L_1331 d_L_1332 (by omega) hn ?_
  refine l_arg (j := 2) hS (by rfl) d_L_1333 d_L_1334 d_L_1335 d_L_1336 d_L_1337 (by omega) hn ?_
  refine l_arg (j := 3) hS (by rfl) d_L_1338 d_L_1339 d_L_1340 d_L_1341 d_L_1342 (by omega) hn ?_
  refine l_V (as := [.inl (xs (i + 1)), .inl (xs (i + 2)), .inl (xs (i + 3))]) cs_L_165 rfl hW.2.1 rfl (Nat.le_of_ble_eq_true rfl) (Nat.le_of_ble_eq_true rfl) d_L_1343 (c_M_cell hW.2.1 _ _ _ δ1 _ e2) NF.lw un_LNF (us_i us_nil) rfl rfl (by omega) (by omega) rfl rfl ?_
  exact l_cmp_eq (tgt := 1414) d_L_1346 (by decide) (fun _ => kk _ _ _ _ (by omega) (by omega) (gw_same hW hq) hI2) (fun h => absurd rfl h)
set_option maxRecDepth 40000 in
set_option maxHeartbeats 1000000 in
theorem lc_37 {i n t : Nat} {xs : Nat → Int32} (hS : XSc (p, l, e, s, m, args, below, meth, c, D, K, μ0, Q) n xs) (hi : i + 5 < n) (hn : n ≤ 3072) (ht : t < 512) (hk : kb ≤ 1000 + 2 * t) (hsb : sb ≤ 10000 + 34 * t) {I : Dl → Prop} (hRX : ∀ δ, I δ → RX δ) (hW : GW Γ δ) (hI : I δ) (hst : S2 I (F_Bs_copy (xs (i + 1)) (xs (i + 2)) (xs (i + 3)) (xs (i + 4)) (xs (i + 5))) (F_M_copy (xs (i + 1)) (xs (i + 2)) (xs (i + 3)) (xs (i + 4)) (xs (i + 5))))
    (kk : LK I (p, l, e, s, m, args, below, meth, c, D, K, μ0, Q) i (t + 1)) : XL (p, l, e, s, m, args, below, meth, c, D, K, μ0, Q) 1351 (LLs i) [] kb sb Γ δ := by
  obtain ⟨v, δ1, δ2, e1, e2, hI2, hq⟩ := hst δ hI
  refine l_aload_n (i := 1) d_L_1351 rfl rfl ?_
  refine l_arg (j := 1) hS (by rfl) d_L_1352 d_L_1353 d_L_1354 d_L_1355 d_L_1356 (by omega) hn ?_
  refine l_arg (j := 2) hS (by rfl) d_L_1357 d_L_1358 d_L_1359 d_L_1360 d_L_1361 (by omega) hn ?_
  refine l_arg (j := 3) hS (by rfl) d_L_1362 d_L_1363 d_L_1364 d_L_1365 d_L_1366 (by omega) hn ?_
  refine l_arg (j := 4) hS (by rfl) d_L_1367 d_L_1368 d_L_1369 d_L_1370 d_L_1371 (by omega) hn ?_
  refine l_arg (j := 5) hS (by rfl) d_L_1372 d_L_1373 d_L_1374 d_L_1375 d_L_1376 (by omega) hn ?_
  refine l_V (as := [.inl (xs (i + 1)), .inl (xs (i + 2)), .inl (xs (i + 3)), .inl (xs (i + 4)), .inl (xs (i + 5))]) cs_L_166 rfl (hW.1 0 (by decide)) rfl (Nat.le_of_ble_eq_true rfl) (Nat.le_of_ble_eq_true rfl) d_L_1377 (c_Bs_copy hW.1 _ _ _ _ _ δ _ e1) NF.lw un_LNF (us_nil) rfl rfl (by omega) (by omega) rfl rfl ?_
  refine l_aload_n (i := 2) d_L_1380 rfl rfl ?_
  refine l_arg (j := 1) hS (by rfl) d_L_1381 d_L_1382 d_L_1383 d_L_1384 d_L_1385 (by omega) hn ?_
  refine l_arg (j := 2) hS (by rfl) d_L_1386 d_L_1387 d_L_1388 d_L_1389 d_L_1390 (by omega) hn ?_
  refine l_arg (j := 3) hS (by rfl) d_L_1391 d_L_1392 d_L_1393 d_L_1394 d_L_1395 (by omega) hn ?_
  refine l_arg (j := 4) hS (by rfl) d_L_1396 d_L_1397 d_L_1398 d_L_1399 d_L_1400 (by omega) hn ?_
  refine l_arg (j := 5) hS (by rfl) d_L_1401 d_L_1402 d_L_1403 d_L_1404 d_L_1405 (by omega) hn ?_
  refine l_V (as := [.inl (xs (i + 1)), .inl (xs (i + 2)), .inl (xs (i + 3)), .inl (xs (i + 4)), .inl (xs (i + 5))]) cs_L_170 rfl hW.2.1 rfl (Nat.le_of_ble_eq_true rfl) (Nat.le_of_ble_eq_true rfl) d_L_1406 (c_M_copy hW.2.1 _ _ _ _ _ δ1 _ e2) NF.lw un_LNF (us_i us_nil) rfl rfl (by omega) (by omega) rfl rfl ?_
  exact l_cmp_eq (tgt := 1414) d_L_1409 (by decide) (fun _ => kk _ _ _ _ (by omega) (by omega) (gw_same hW hq) hI2) (fun h => absurd rfl h)
end XLw
/-- what the pure side owes: call by call, both answer alike and the invariant holds behind -/
def LSteps (I : Dl → Prop) : Prop :=
  (∀ x1 x2 : Int32, S2 I (F_Bs_stage x1 x2) (F_M_stage x1 x2)) ∧
  (∀ x1 x2 x3 : Int32, S2 I (F_Bs_wall x1 x2 x3) (F_M_wall x1 x2 x3)) ∧
  (∀ x1 x2 x3 : Int32, S2 I (F_Bs_things x1 x2 x3) (F_M_things x1 x2 x3)) ∧
  (∀ x1 x2 x3 : Int32, S2 I (F_Bs_actor x1 x2 x3) (F_M_actor x1 x2 x3)) ∧
  (∀ x1 x2 x3 : Int32, S2 I (F_Bs_lay x1 x2 x3) (F_M_lay x1 x2 x3)) ∧
  (S2 I (F_Bs_keep) (F_M_keep)) ∧
  (∀ x1 : Int32, S2 I (F_Bs_use x1) (F_M_use x1)) ∧
  (∀ x1 x2 : Int32, S2 I (F_Bs_block x1 x2) (F_M_block x1 x2)) ∧
  (∀ x1 x2 x3 : Int32, S2 I (F_Bs_join x1 x2 x3) (F_M_join x1 x2 x3)) ∧
  (∀ x1 : Int32, S2 I (F_Bs_take x1) (F_M_take x1)) ∧
  (∀ x1 x2 : Int32, S2 I (F_Bs_number x1 x2) (F_M_number x1 x2)) ∧
  (∀ x1 x2 x3 x4 : Int32, S2 I (F_Bs_cue x1 x2 x3 x4) (F_M_cue x1 x2 x3 x4)) ∧
  (∀ x1 x2 : Int32, S2 I (F_Bs_top x1 x2) (F_M_top x1 x2)) ∧
  (∀ x1 x2 : Int32, S2 I (Rd (F_Bs_look x1 x2)) (F_M_look x1 x2)) ∧
  (∀ x1 x2 : Int32, S2 I (Rd (F_Bs_hole x1 x2)) (Rd (F_M_hole x1 x2))) ∧
  (∀ x1 x2 : Int32, S2 I (Rd (F_Bs_of x1 x2)) (Rd (F_M_of x1 x2))) ∧
  (∀ x1 x2 : Int32, S2 I (Rd (F_Bs_scriptOf x1 x2)) (F_M_scriptOf x1 x2)) ∧
  (S2 I (F_Bs_flag) (Tt (F_M_flag))) ∧
  (∀ x1 : Int32, S2 I (F_Bs_tick x1) (Tt (F_M_tick x1))) ∧
  (∀ x1 : Int32, S2 I (F_Bs_back x1) (Tt (F_M_back x1))) ∧
  (∀ x1 x2 : Int32, S2 I (Rd (F_Bs_who x1 x2)) (F_M_who x1 x2)) ∧
  (∀ x1 x2 : Int32, S2 I (Rd (F_Bs_item x1 x2)) (F_M_item x1 x2)) ∧
  (∀ x1 x2 : Int32, S2 I (Rd (F_Bs_said x1 x2)) (F_M_said x1 x2)) ∧
  (∀ x1 x2 : Int32, S2 I (F_Bs_feed x1 x2) (F_M_feed x1 x2)) ∧
  (S2 I (F_Bs_wish) (F_M_wish)) ∧
  (∀ x1 : Int32, S2 I (F_Bs_mark x1) (F_M_mark x1)) ∧
  (∀ x1 : Int32, S2 I (Rt (F_Bs_fails x1)) (Rt (F_M_fails x1))) ∧
  (∀ x1 : Int32, S2 I (F_Bs_least x1) (F_M_least x1)) ∧
  (∀ x1 x2 : Int32, S2 I (Rd (F_Bs_hint x1 x2)) (Rd (F_M_hint x1 x2))) ∧
  (∀ x1 : Int32, S2 I (F_Bs_write x1) (F_M_write x1)) ∧
  (∀ x1 : Int32, S2 I (Rd (F_Bs_text x1)) (Rd (F_M_text x1))) ∧
  (∀ x1 x2 x3 : Int32, SAct I x1 x2 x3) ∧
  (∀ x1 : Int32, S2 I (Rd (F_Bs_trace x1)) (Rd (F_M_trace x1))) ∧
  (∀ x1 x2 : Int32, S2 I (Rd (F_Bs_taken x1 x2)) (Rd (F_M_taken x1 x2))) ∧
  (∀ x1 : Int32, S2 I (Rd (F_Bs_count x1)) (F_M_count x1)) ∧
  (∀ x1 x2 x3 : Int32, S2 I (F_Bs_sheet x1 x2 x3) (F_M_sheet x1 x2 x3)) ∧
  (∀ x1 x2 x3 : Int32, S2 I (F_Bs_cell x1 x2 x3) (F_M_cell x1 x2 x3)) ∧
  (∀ x1 x2 x3 x4 x5 : Int32, S2 I (F_Bs_copy x1 x2 x3 x4 x5) (F_M_copy x1 x2 x3 x4 x5))
