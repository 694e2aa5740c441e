/-! the law's decode rows, 1 (wip/whole/gen31.py) -/
theorem d_L_0 : decode code 0 = .ok (.new 7, 3) := by decide +kernel
theorem d_L_3 : decode code 3 = .ok (.dup, 1) := by decide +kernel
theorem d_L_4 : decode code 4 = .ok (.invokespecial 9, 3) := by decide +kernel
theorem d_L_7 : decode code 7 = .ok (.astore_n 1, 1) := by decide +kernel
theorem d_L_8 : decode code 8 = .ok (.new 10, 3) := by decide +kernel
theorem d_L_11 : decode code 11 = .ok (.dup, 1) := by decide +kernel
theorem d_L_12 : decode code 12 = .ok (.invokespecial 12, 3) := by decide +kernel
theorem d_L_15 : decode code 15 = .ok (.astore_n 2, 1) := by decide +kernel
theorem d_L_16 : decode code 16 = .ok (.iconst 0, 1) := by decide +kernel
theorem d_L_17 : decode code 17 = .ok (.istore_n 3, 1) := by decide +kernel
theorem d_L_18 : decode code 18 = .ok (.iload_n 3, 1) := by decide +kernel
theorem d_L_19 : decode code 19 = .ok (.aload_n 0, 1) := by decide +kernel
theorem d_L_20 : decode code 20 = .ok (.arraylength, 1) := by decide +kernel
theorem d_L_21 : decode code 21 = .ok (.bipush 6, 2) := by decide +kernel
theorem d_L_23 : decode code 23 = .ok (.isub, 1) := by decide +kernel
theorem d_L_24 : decode code 24 = .ok (.if_icmp .gt 1396, 3) := by decide +kernel
theorem d_L_27 : decode code 27 = .ok (.aload_n 0, 1) := by decide +kernel
theorem d_L_28 : decode code 28 = .ok (.iload_n 3, 1) := by decide +kernel
theorem d_L_29 : decode code 29 = .ok (.iaload, 1) := by decide +kernel
theorem d_L_30 : decode code 30 = .ok (.bipush 63, 2) := by decide +kernel
theorem d_L_32 : decode code 32 = .ok (.iand, 1) := by decide +kernel
theorem d_L_33 : decode code 33 = .ok (.tableswitch 1381 0 37 #[167, 200, 243, 286, 329, 372, 385, 408, 441, 484, 507, 540, 593, 626, 659, 692, 725, 758, 771, 794, 817, 850, 883, 916, 949, 962, 985, 1008, 1031, 1064, 1087, 1110, 1153, 1176, 1209, 1232, 1275, 1318], 167) := by decide +kernel
theorem d_L_200 : decode code 200 = .ok (.aload_n 1, 1) := by decide +kernel
theorem d_L_201 : decode code 201 = .ok (.aload_n 0, 1) := by decide +kernel
theorem d_L_202 : decode code 202 = .ok (.iload_n 3, 1) := by decide +kernel
theorem d_L_203 : decode code 203 = .ok (.iconst 1, 1) := by decide +kernel
theorem d_L_204 : decode code 204 = .ok (.iadd, 1) := by decide +kernel
theorem d_L_205 : decode code 205 = .ok (.iaload, 1) := by decide +kernel
theorem d_L_206 : decode code 206 = .ok (.aload_n 0, 1) := by decide +kernel
theorem d_L_207 : decode code 207 = .ok (.iload_n 3, 1) := by decide +kernel
theorem d_L_208 : decode code 208 = .ok (.iconst 2, 1) := by decide +kernel
theorem d_L_209 : decode code 209 = .ok (.iadd, 1) := by decide +kernel
theorem d_L_210 : decode code 210 = .ok (.iaload, 1) := by decide +kernel
theorem d_L_211 : decode code 211 = .ok (.invokevirtual 13, 3) := by decide +kernel
theorem d_L_214 : decode code 214 = .ok (.aload_n 2, 1) := by decide +kernel
theorem d_L_215 : decode code 215 = .ok (.aload_n 0, 1) := by decide +kernel
theorem d_L_216 : decode code 216 = .ok (.iload_n 3, 1) := by decide +kernel
theorem d_L_217 : decode code 217 = .ok (.iconst 1, 1) := by decide +kernel
theorem d_L_218 : decode code 218 = .ok (.iadd, 1) := by decide +kernel
theorem d_L_219 : decode code 219 = .ok (.iaload, 1) := by decide +kernel
theorem d_L_220 : decode code 220 = .ok (.aload_n 0, 1) := by decide +kernel
theorem d_L_221 : decode code 221 = .ok (.iload_n 3, 1) := by decide +kernel
theorem d_L_222 : decode code 222 = .ok (.iconst 2, 1) := by decide +kernel
theorem d_L_223 : decode code 223 = .ok (.iadd, 1) := by decide +kernel
theorem d_L_224 : decode code 224 = .ok (.iaload, 1) := by decide +kernel
theorem d_L_225 : decode code 225 = .ok (.invokevirtual 17, 3) := by decide +kernel
theorem d_L_228 : decode code 228 = .ok (.if_icmp .eq 1186, 3) := by decide +kernel
theorem d_L_233 : decode code 233 = .ok (.aload_n 1, 1) := by decide +kernel
theorem d_L_234 : decode code 234 = .ok (.aload_n 0, 1) := by decide +kernel
theorem d_L_235 : decode code 235 = .ok (.iload_n 3, 1) := by decide +kernel
theorem d_L_236 : decode code 236 = .ok (.iconst 1, 1) := by decide +kernel
theorem d_L_237 : decode code 237 = .ok (.iadd, 1) := by decide +kernel
theorem d_L_238 : decode code 238 = .ok (.iaload, 1) := by decide +kernel
theorem d_L_239 : decode code 239 = .ok (.aload_n 0, 1) := by decide +kernel
theorem d_L_240 : decode code 240 = .ok (.iload_n 3, 1) := by decide +kernel
theorem d_L_241 : decode code 241 = .ok (.iconst 2, 1) := by decide +kernel
theorem d_L_242 : decode code 242 = .ok (.iadd, 1) := by decide +kernel
theorem d_L_243 : decode code 243 = .ok (.iaload, 1) := by decide +kernel
theorem d_L_244 : decode code 244 = .ok (.aload_n 0, 1) := by decide +kernel
theorem d_L_245 : decode code 245 = .ok (.iload_n 3, 1) := by decide +kernel
theorem d_L_246 : decode code 246 = .ok (.iconst 3, 1) := by decide +kernel
theorem d_L_247 : decode code 247 = .ok (.iadd, 1) := by decide +kernel
theorem d_L_248 : decode code 248 = .ok (.iaload, 1) := by decide +kernel
theorem d_L_249 : decode code 249 = .ok (.invokevirtual 18, 3) := by decide +kernel
theorem d_L_252 : decode code 252 = .ok (.aload_n 2, 1) := by decide +kernel
theorem d_L_253 : decode code 253 = .ok (.aload_n 0, 1) := by decide +kernel
theorem d_L_254 : decode code 254 = .ok (.iload_n 3, 1) := by decide +kernel
theorem d_L_255 : decode code 255 = .ok (.iconst 1, 1) := by decide +kernel
theorem d_L_256 : decode code 256 = .ok (.iadd, 1) := by decide +kernel
theorem d_L_257 : decode code 257 = .ok (.iaload, 1) := by decide +kernel
theorem d_L_258 : decode code 258 = .ok (.aload_n 0, 1) := by decide +kernel
theorem d_L_259 : decode code 259 = .ok (.iload_n 3, 1) := by decide +kernel
theorem d_L_260 : decode code 260 = .ok (.iconst 2, 1) := by decide +kernel
theorem d_L_261 : decode code 261 = .ok (.iadd, 1) := by decide +kernel
theorem d_L_262 : decode code 262 = .ok (.iaload, 1) := by decide +kernel
theorem d_L_263 : decode code 263 = .ok (.aload_n 0, 1) := by decide +kernel
theorem d_L_264 : decode code 264 = .ok (.iload_n 3, 1) := by decide +kernel
theorem d_L_265 : decode code 265 = .ok (.iconst 3, 1) := by decide +kernel
theorem d_L_266 : decode code 266 = .ok (.iadd, 1) := by decide +kernel
theorem d_L_267 : decode code 267 = .ok (.iaload, 1) := by decide +kernel
theorem d_L_268 : decode code 268 = .ok (.invokevirtual 22, 3) := by decide +kernel
theorem d_L_271 : decode code 271 = .ok (.if_icmp .eq 1143, 3) := by decide +kernel
theorem d_L_276 : decode code 276 = .ok (.aload_n 1, 1) := by decide +kernel
theorem d_L_277 : decode code 277 = .ok (.aload_n 0, 1) := by decide +kernel
theorem d_L_278 : decode code 278 = .ok (.iload_n 3, 1) := by decide +kernel
theorem d_L_279 : decode code 279 = .ok (.iconst 1, 1) := by decide +kernel
theorem d_L_280 : decode code 280 = .ok (.iadd, 1) := by decide +kernel
theorem d_L_281 : decode code 281 = .ok (.iaload, 1) := by decide +kernel
theorem d_L_282 : decode code 282 = .ok (.aload_n 0, 1) := by decide +kernel
theorem d_L_283 : decode code 283 = .ok (.iload_n 3, 1) := by decide +kernel
theorem d_L_284 : decode code 284 = .ok (.iconst 2, 1) := by decide +kernel
theorem d_L_285 : decode code 285 = .ok (.iadd, 1) := by decide +kernel
theorem d_L_286 : decode code 286 = .ok (.iaload, 1) := by decide +kernel
theorem d_L_287 : decode code 287 = .ok (.aload_n 0, 1) := by decide +kernel
theorem d_L_288 : decode code 288 = .ok (.iload_n 3, 1) := by decide +kernel
theorem d_L_289 : decode code 289 = .ok (.iconst 3, 1) := by decide +kernel
theorem d_L_290 : decode code 290 = .ok (.iadd, 1) := by decide +kernel
theorem d_L_291 : decode code 291 = .ok (.iaload, 1) := by decide +kernel
theorem d_L_292 : decode code 292 = .ok (.invokevirtual 23, 3) := by decide +kernel
theorem d_L_295 : decode code 295 = .ok (.aload_n 2, 1) := by decide +kernel
theorem d_L_296 : decode code 296 = .ok (.aload_n 0, 1) := by decide +kernel
theorem d_L_297 : decode code 297 = .ok (.iload_n 3, 1) := by decide +kernel
theorem d_L_298 : decode code 298 = .ok (.iconst 1, 1) := by decide +kernel
theorem d_L_299 : decode code 299 = .ok (.iadd, 1) := by decide +kernel
theorem d_L_300 : decode code 300 = .ok (.iaload, 1) := by decide +kernel
theorem d_L_301 : decode code 301 = .ok (.aload_n 0, 1) := by decide +kernel
theorem d_L_302 : decode code 302 = .ok (.iload_n 3, 1) := by decide +kernel
theorem d_L_303 : decode code 303 = .ok (.iconst 2, 1) := by decide +kernel
theorem d_L_304 : decode code 304 = .ok (.iadd, 1) := by decide +kernel
theorem d_L_305 : decode code 305 = .ok (.iaload, 1) := by decide +kernel
theorem d_L_306 : decode code 306 = .ok (.aload_n 0, 1) := by decide +kernel
theorem d_L_307 : decode code 307 = .ok (.iload_n 3, 1) := by decide +kernel
theorem d_L_308 : decode code 308 = .ok (.iconst 3, 1) := by decide +kernel
theorem d_L_309 : decode code 309 = .ok (.iadd, 1) := by decide +kernel
theorem d_L_310 : decode code 310 = .ok (.iaload, 1) := by decide +kernel
theorem d_L_311 : decode code 311 = .ok (.invokevirtual 26, 3) := by decide +kernel
theorem d_L_314 : decode code 314 = .ok (.if_icmp .eq 1100, 3) := by decide +kernel
theorem d_L_319 : decode code 319 = .ok (.aload_n 1, 1) := by decide +kernel
theorem d_L_320 : decode code 320 = .ok (.aload_n 0, 1) := by decide +kernel
theorem d_L_321 : decode code 321 = .ok (.iload_n 3, 1) := by decide +kernel
theorem d_L_322 : decode code 322 = .ok (.iconst 1, 1) := by decide +kernel
theorem d_L_323 : decode code 323 = .ok (.iadd, 1) := by decide +kernel
theorem d_L_324 : decode code 324 = .ok (.iaload, 1) := by decide +kernel
theorem d_L_325 : decode code 325 = .ok (.aload_n 0, 1) := by decide +kernel
theorem d_L_326 : decode code 326 = .ok (.iload_n 3, 1) := by decide +kernel
theorem d_L_327 : decode code 327 = .ok (.iconst 2, 1) := by decide +kernel
theorem d_L_328 : decode code 328 = .ok (.iadd, 1) := by decide +kernel
theorem d_L_329 : decode code 329 = .ok (.iaload, 1) := by decide +kernel
theorem d_L_330 : decode code 330 = .ok (.aload_n 0, 1) := by decide +kernel
theorem d_L_331 : decode code 331 = .ok (.iload_n 3, 1) := by decide +kernel
theorem d_L_332 : decode code 332 = .ok (.iconst 3, 1) := by decide +kernel
theorem d_L_333 : decode code 333 = .ok (.iadd, 1) := by decide +kernel
theorem d_L_334 : decode code 334 = .ok (.iaload, 1) := by decide +kernel
theorem d_L_335 : decode code 335 = .ok (.invokevirtual 27, 3) := by decide +kernel
theorem d_L_338 : decode code 338 = .ok (.aload_n 2, 1) := by decide +kernel
theorem d_L_339 : decode code 339 = .ok (.aload_n 0, 1) := by decide +kernel
theorem d_L_340 : decode code 340 = .ok (.iload_n 3, 1) := by decide +kernel
theorem d_L_341 : decode code 341 = .ok (.iconst 1, 1) := by decide +kernel
theorem d_L_342 : decode code 342 = .ok (.iadd, 1) := by decide +kernel
theorem d_L_343 : decode code 343 = .ok (.iaload, 1) := by decide +kernel
theorem d_L_344 : decode code 344 = .ok (.aload_n 0, 1) := by decide +kernel
theorem d_L_345 : decode code 345 = .ok (.iload_n 3, 1) := by decide +kernel
theorem d_L_346 : decode code 346 = .ok (.iconst 2, 1) := by decide +kernel
theorem d_L_347 : decode code 347 = .ok (.iadd, 1) := by decide +kernel
theorem d_L_348 : decode code 348 = .ok (.iaload, 1) := by decide +kernel
theorem d_L_349 : decode code 349 = .ok (.aload_n 0, 1) := by decide +kernel
theorem d_L_350 : decode code 350 = .ok (.iload_n 3, 1) := by decide +kernel
theorem d_L_351 : decode code 351 = .ok (.iconst 3, 1) := by decide +kernel
theorem d_L_352 : decode code 352 = .ok (.iadd, 1) := by decide +kernel
theorem d_L_353 : decode code 353 = .ok (.iaload, 1) := by decide +kernel
theorem d_L_354 : decode code 354 = .ok (.invokevirtual 30, 3) := by decide +kernel
theorem d_L_357 : decode code 357 = .ok (.if_icmp .eq 1057, 3) := by decide +kernel
theorem d_L_362 : decode code 362 = .ok (.aload_n 1, 1) := by decide +kernel
theorem d_L_363 : decode code 363 = .ok (.aload_n 0, 1) := by decide +kernel
theorem d_L_364 : decode code 364 = .ok (.iload_n 3, 1) := by decide +kernel
theorem d_L_365 : decode code 365 = .ok (.iconst 1, 1) := by decide +kernel
theorem d_L_366 : decode code 366 = .ok (.iadd, 1) := by decide +kernel
theorem d_L_367 : decode code 367 = .ok (.iaload, 1) := by decide +kernel
theorem d_L_368 : decode code 368 = .ok (.aload_n 0, 1) := by decide +kernel
theorem d_L_369 : decode code 369 = .ok (.iload_n 3, 1) := by decide +kernel
theorem d_L_370 : decode code 370 = .ok (.iconst 2, 1) := by decide +kernel
theorem d_L_371 : decode code 371 = .ok (.iadd, 1) := by decide +kernel
theorem d_L_372 : decode code 372 = .ok (.iaload, 1) := by decide +kernel
theorem d_L_373 : decode code 373 = .ok (.aload_n 0, 1) := by decide +kernel
theorem d_L_374 : decode code 374 = .ok (.iload_n 3, 1) := by decide +kernel
theorem d_L_375 : decode code 375 = .ok (.iconst 3, 1) := by decide +kernel
theorem d_L_376 : decode code 376 = .ok (.iadd, 1) := by decide +kernel
theorem d_L_377 : decode code 377 = .ok (.iaload, 1) := by decide +kernel
theorem d_L_378 : decode code 378 = .ok (.invokevirtual 31, 3) := by decide +kernel
theorem d_L_381 : decode code 381 = .ok (.aload_n 2, 1) := by decide +kernel
theorem d_L_382 : decode code 382 = .ok (.aload_n 0, 1) := by decide +kernel
theorem d_L_383 : decode code 383 = .ok (.iload_n 3, 1) := by decide +kernel
theorem d_L_384 : decode code 384 = .ok (.iconst 1, 1) := by decide +kernel
theorem d_L_385 : decode code 385 = .ok (.iadd, 1) := by decide +kernel
theorem d_L_386 : decode code 386 = .ok (.iaload, 1) := by decide +kernel
theorem d_L_387 : decode code 387 = .ok (.aload_n 0, 1) := by decide +kernel
theorem d_L_388 : decode code 388 = .ok (.iload_n 3, 1) := by decide +kernel
theorem d_L_389 : decode code 389 = .ok (.iconst 2, 1) := by decide +kernel
theorem d_L_390 : decode code 390 = .ok (.iadd, 1) := by decide +kernel
theorem d_L_391 : decode code 391 = .ok (.iaload, 1) := by decide +kernel
theorem d_L_392 : decode code 392 = .ok (.aload_n 0, 1) := by decide +kernel
theorem d_L_393 : decode code 393 = .ok (.iload_n 3, 1) := by decide +kernel
theorem d_L_394 : decode code 394 = .ok (.iconst 3, 1) := by decide +kernel
theorem d_L_395 : decode code 395 = .ok (.iadd, 1) := by decide +kernel
theorem d_L_396 : decode code 396 = .ok (.iaload, 1) := by decide +kernel
theorem d_L_397 : decode code 397 = .ok (.invokevirtual 34, 3) := by decide +kernel
theorem d_L_400 : decode code 400 = .ok (.if_icmp .eq 1014, 3) := by decide +kernel
theorem d_L_405 : decode code 405 = .ok (.aload_n 1, 1) := by decide +kernel
theorem d_L_406 : decode code 406 = .ok (.invokevirtual 35, 3) := by decide +kernel
theorem d_L_409 : decode code 409 = .ok (.aload_n 2, 1) := by decide +kernel
theorem d_L_410 : decode code 410 = .ok (.invokevirtual 39, 3) := by decide +kernel
theorem d_L_413 : decode code 413 = .ok (.if_icmp .eq 1001, 3) := by decide +kernel
theorem d_L_418 : decode code 418 = .ok (.aload_n 1, 1) := by decide +kernel
theorem d_L_419 : decode code 419 = .ok (.aload_n 0, 1) := by decide +kernel
theorem d_L_420 : decode code 420 = .ok (.iload_n 3, 1) := by decide +kernel
theorem d_L_421 : decode code 421 = .ok (.iconst 1, 1) := by decide +kernel
theorem d_L_422 : decode code 422 = .ok (.iadd, 1) := by decide +kernel
theorem d_L_423 : decode code 423 = .ok (.iaload, 1) := by decide +kernel
theorem d_L_424 : decode code 424 = .ok (.invokevirtual 40, 3) := by decide +kernel
theorem d_L_427 : decode code 427 = .ok (.aload_n 2, 1) := by decide +kernel
theorem d_L_428 : decode code 428 = .ok (.aload_n 0, 1) := by decide +kernel
theorem d_L_429 : decode code 429 = .ok (.iload_n 3, 1) := by decide +kernel
theorem d_L_430 : decode code 430 = .ok (.iconst 1, 1) := by decide +kernel
theorem d_L_431 : decode code 431 = .ok (.iadd, 1) := by decide +kernel
theorem d_L_432 : decode code 432 = .ok (.iaload, 1) := by decide +kernel
theorem d_L_433 : decode code 433 = .ok (.invokevirtual 44, 3) := by decide +kernel
theorem d_L_436 : decode code 436 = .ok (.if_icmp .eq 978, 3) := by decide +kernel
theorem d_L_441 : decode code 441 = .ok (.aload_n 1, 1) := by decide +kernel
theorem d_L_442 : decode code 442 = .ok (.aload_n 0, 1) := by decide +kernel
theorem d_L_443 : decode code 443 = .ok (.iload_n 3, 1) := by decide +kernel
theorem d_L_444 : decode code 444 = .ok (.iconst 1, 1) := by decide +kernel
theorem d_L_445 : decode code 445 = .ok (.iadd, 1) := by decide +kernel
theorem d_L_446 : decode code 446 = .ok (.iaload, 1) := by decide +kernel
theorem d_L_447 : decode code 447 = .ok (.aload_n 0, 1) := by decide +kernel
theorem d_L_448 : decode code 448 = .ok (.iload_n 3, 1) := by decide +kernel
theorem d_L_449 : decode code 449 = .ok (.iconst 2, 1) := by decide +kernel
theorem d_L_450 : decode code 450 = .ok (.iadd, 1) := by decide +kernel
theorem d_L_451 : decode code 451 = .ok (.iaload, 1) := by decide +kernel
theorem d_L_452 : decode code 452 = .ok (.invokevirtual 45, 3) := by decide +kernel
theorem d_L_455 : decode code 455 = .ok (.aload_n 2, 1) := by decide +kernel
theorem d_L_456 : decode code 456 = .ok (.aload_n 0, 1) := by decide +kernel
theorem d_L_457 : decode code 457 = .ok (.iload_n 3, 1) := by decide +kernel
theorem d_L_458 : decode code 458 = .ok (.iconst 1, 1) := by decide +kernel
theorem d_L_459 : decode code 459 = .ok (.iadd, 1) := by decide +kernel
theorem d_L_460 : decode code 460 = .ok (.iaload, 1) := by decide +kernel
theorem d_L_461 : decode code 461 = .ok (.aload_n 0, 1) := by decide +kernel
theorem d_L_462 : decode code 462 = .ok (.iload_n 3, 1) := by decide +kernel
theorem d_L_463 : decode code 463 = .ok (.iconst 2, 1) := by decide +kernel
theorem d_L_464 : decode code 464 = .ok (.iadd, 1) := by decide +kernel
theorem d_L_465 : decode code 465 = .ok (.iaload, 1) := by decide +kernel
theorem d_L_466 : decode code 466 = .ok (.invokevirtual 48, 3) := by decide +kernel
theorem d_L_469 : decode code 469 = .ok (.if_icmp .eq 945, 3) := by decide +kernel
theorem d_L_474 : decode code 474 = .ok (.aload_n 1, 1) := by decide +kernel
theorem d_L_475 : decode code 475 = .ok (.aload_n 0, 1) := by decide +kernel
