/-! ===== the law's instructions, each by itself ===== -/
theorem lw_bytes : (dm_m 329).2.1 = code := rfl
set_option maxRecDepth 100000 in
theorem la_0 : dm_at 329 0 = some (.new 8, 3, [8, 1027, 1028, 1001]) := by decide +kernel
set_option maxRecDepth 100000 in
theorem la_3 : dm_at 329 3 = some (.dup, 1, []) := by decide +kernel
set_option maxRecDepth 100000 in
theorem la_4 : dm_at 329 4 = some (.invokespecial 173, 3, [54, 2, 1029, 1030, 1001, 1031]) := by decide +kernel
set_option maxRecDepth 100000 in
theorem la_7 : dm_at 329 7 = some (.astore_n 1, 1, []) := by decide +kernel
set_option maxRecDepth 100000 in
theorem la_8 : dm_at 329 8 = some (.new 174, 3, [10, 6026, 6027, 1008]) := by decide +kernel
set_option maxRecDepth 100000 in
theorem la_11 : dm_at 329 11 = some (.dup, 1, []) := by decide +kernel
set_option maxRecDepth 100000 in
theorem la_12 : dm_at 329 12 = some (.invokespecial 176, 3, [125, 2, 6028, 6029, 1008, 6030]) := by decide +kernel
set_option maxRecDepth 100000 in
theorem la_15 : dm_at 329 15 = some (.astore_n 2, 1, []) := by decide +kernel
set_option maxRecDepth 100000 in
theorem la_16 : dm_at 329 16 = some (.new 14, 3, [9, 3090, 3091, 1009]) := by decide +kernel
set_option maxRecDepth 100000 in
theorem la_19 : dm_at 329 19 = some (.dup, 1, []) := by decide +kernel
set_option maxRecDepth 100000 in
theorem la_20 : dm_at 329 20 = some (.invokespecial 177, 3, [124, 5, 3092, 3093, 1009, 3094]) := by decide +kernel
set_option maxRecDepth 100000 in
theorem la_23 : dm_at 329 23 = some (.astore_n 3, 1, []) := by decide +kernel
set_option maxRecDepth 100000 in
theorem la_24 : dm_at 329 24 = some (.iconst 0, 1, []) := by decide +kernel
set_option maxRecDepth 100000 in
theorem la_25 : dm_at 329 25 = some (.istore 4, 2, []) := by decide +kernel
set_option maxRecDepth 100000 in
theorem la_27 : dm_at 329 27 = some (.iload 4, 2, []) := by decide +kernel
set_option maxRecDepth 100000 in
theorem la_29 : dm_at 329 29 = some (.aload_n 0, 1, []) := by decide +kernel
set_option maxRecDepth 100000 in
theorem la_30 : dm_at 329 30 = some (.arraylength, 1, []) := by decide +kernel
set_option maxRecDepth 100000 in
theorem la_31 : dm_at 329 31 = some (.bipush 6, 2, []) := by decide +kernel
set_option maxRecDepth 100000 in
theorem la_33 : dm_at 329 33 = some (.isub, 1, []) := by decide +kernel
set_option maxRecDepth 100000 in
theorem la_34 : dm_at 329 34 = some (.if_icmp .gt 2352, 3, [2386]) := by decide +kernel
set_option maxRecDepth 100000 in
theorem la_37 : dm_at 329 37 = some (.aload_n 0, 1, []) := by decide +kernel
set_option maxRecDepth 100000 in
theorem la_38 : dm_at 329 38 = some (.iload 4, 2, []) := by decide +kernel
set_option maxRecDepth 100000 in
theorem la_40 : dm_at 329 40 = some (.iaload, 1, []) := by decide +kernel
set_option maxRecDepth 100000 in
theorem la_41 : dm_at 329 41 = some (.bipush 63, 2, []) := by decide +kernel
set_option maxRecDepth 100000 in
theorem la_43 : dm_at 329 43 = some (.iand, 1, []) := by decide +kernel
set_option maxRecDepth 100000 in
theorem la_44 : dm_at 329 44 = some (.tableswitch 2336 0 47 #[208, 272, 336, 400, 464, 540, 592, 656, 696, 752, 780, 820, 860, 928, 980, 1020, 1072, 1112, 1156, 1172, 1200, 1216, 1244, 1260, 1288, 1304, 1344, 1408, 1460, 1500, 1564, 1628, 1704, 1760, 1800, 1828, 1868, 1908, 1948, 1988, 2044, 2072, 2124, 2176, 2240, 2297, 2310, 2323], 208, [2380, 252, 316, 380, 444, 508, 584, 636, 700, 740, 796, 824, 864, 904, 972, 1024, 1064, 1116, 1156, 1200, 1216, 1244, 1260, 1288, 1304, 1332, 1348, 1388, 1452, 1504, 1544, 1608, 1672, 1748, 1804, 1844, 1872, 1912, 1952, 1992, 2032, 2088, 2116, 2168, 2220, 2284, 2341, 2354, 2367]) := by decide +kernel
set_option maxRecDepth 100000 in
theorem la_252 : dm_at 329 252 = some (.aload_n 1, 1, []) := by decide +kernel
set_option maxRecDepth 100000 in
theorem la_253 : dm_at 329 253 = some (.aload_n 0, 1, []) := by decide +kernel
set_option maxRecDepth 100000 in
theorem la_254 : dm_at 329 254 = some (.iload 4, 2, []) := by decide +kernel
set_option maxRecDepth 100000 in
theorem la_256 : dm_at 329 256 = some (.iconst 1, 1, []) := by decide +kernel
set_option maxRecDepth 100000 in
theorem la_257 : dm_at 329 257 = some (.iadd, 1, []) := by decide +kernel
set_option maxRecDepth 100000 in
theorem la_258 : dm_at 329 258 = some (.iaload, 1, []) := by decide +kernel
set_option maxRecDepth 100000 in
theorem la_259 : dm_at 329 259 = some (.aload_n 0, 1, []) := by decide +kernel
set_option maxRecDepth 100000 in
theorem la_260 : dm_at 329 260 = some (.iload 4, 2, []) := by decide +kernel
set_option maxRecDepth 100000 in
theorem la_262 : dm_at 329 262 = some (.iconst 2, 1, []) := by decide +kernel
set_option maxRecDepth 100000 in
theorem la_263 : dm_at 329 263 = some (.iadd, 1, []) := by decide +kernel
set_option maxRecDepth 100000 in
theorem la_264 : dm_at 329 264 = some (.iaload, 1, []) := by decide +kernel
set_option maxRecDepth 100000 in
theorem la_265 : dm_at 329 265 = some (.aload_n 0, 1, []) := by decide +kernel
set_option maxRecDepth 100000 in
theorem la_266 : dm_at 329 266 = some (.iload 4, 2, []) := by decide +kernel
set_option maxRecDepth 100000 in
theorem la_268 : dm_at 329 268 = some (.iconst 3, 1, []) := by decide +kernel
set_option maxRecDepth 100000 in
theorem la_269 : dm_at 329 269 = some (.iadd, 1, []) := by decide +kernel
set_option maxRecDepth 100000 in
theorem la_270 : dm_at 329 270 = some (.iaload, 1, []) := by decide +kernel
set_option maxRecDepth 100000 in
theorem la_271 : dm_at 329 271 = some (.aload_n 0, 1, []) := by decide +kernel
set_option maxRecDepth 100000 in
theorem la_272 : dm_at 329 272 = some (.iload 4, 2, []) := by decide +kernel
set_option maxRecDepth 100000 in
theorem la_274 : dm_at 329 274 = some (.iconst 4, 1, []) := by decide +kernel
set_option maxRecDepth 100000 in
theorem la_275 : dm_at 329 275 = some (.iadd, 1, []) := by decide +kernel
set_option maxRecDepth 100000 in
theorem la_276 : dm_at 329 276 = some (.iaload, 1, []) := by decide +kernel
set_option maxRecDepth 100000 in
theorem la_277 : dm_at 329 277 = some (.aload_n 3, 1, []) := by decide +kernel
set_option maxRecDepth 100000 in
theorem la_278 : dm_at 329 278 = some (.invokestatic 178, 3, [284, 0, 3103, 3104, 1000, 3105]) := by decide +kernel
set_option maxRecDepth 100000 in
theorem la_281 : dm_at 329 281 = some (.istore 5, 2, []) := by decide +kernel
set_option maxRecDepth 100000 in
theorem la_283 : dm_at 329 283 = some (.aload_n 2, 1, []) := by decide +kernel
set_option maxRecDepth 100000 in
theorem la_284 : dm_at 329 284 = some (.aload_n 0, 1, []) := by decide +kernel
set_option maxRecDepth 100000 in
theorem la_285 : dm_at 329 285 = some (.iload 4, 2, []) := by decide +kernel
set_option maxRecDepth 100000 in
theorem la_287 : dm_at 329 287 = some (.iconst 1, 1, []) := by decide +kernel
set_option maxRecDepth 100000 in
theorem la_288 : dm_at 329 288 = some (.iadd, 1, []) := by decide +kernel
set_option maxRecDepth 100000 in
theorem la_289 : dm_at 329 289 = some (.iaload, 1, []) := by decide +kernel
set_option maxRecDepth 100000 in
theorem la_290 : dm_at 329 290 = some (.aload_n 0, 1, []) := by decide +kernel
set_option maxRecDepth 100000 in
theorem la_291 : dm_at 329 291 = some (.iload 4, 2, []) := by decide +kernel
set_option maxRecDepth 100000 in
theorem la_293 : dm_at 329 293 = some (.iconst 2, 1, []) := by decide +kernel
set_option maxRecDepth 100000 in
theorem la_294 : dm_at 329 294 = some (.iadd, 1, []) := by decide +kernel
set_option maxRecDepth 100000 in
theorem la_295 : dm_at 329 295 = some (.iaload, 1, []) := by decide +kernel
set_option maxRecDepth 100000 in
theorem la_296 : dm_at 329 296 = some (.aload_n 0, 1, []) := by decide +kernel
set_option maxRecDepth 100000 in
theorem la_297 : dm_at 329 297 = some (.iload 4, 2, []) := by decide +kernel
set_option maxRecDepth 100000 in
theorem la_299 : dm_at 329 299 = some (.iconst 3, 1, []) := by decide +kernel
set_option maxRecDepth 100000 in
theorem la_300 : dm_at 329 300 = some (.iadd, 1, []) := by decide +kernel
set_option maxRecDepth 100000 in
theorem la_301 : dm_at 329 301 = some (.iaload, 1, []) := by decide +kernel
set_option maxRecDepth 100000 in
theorem la_302 : dm_at 329 302 = some (.aload_n 0, 1, []) := by decide +kernel
set_option maxRecDepth 100000 in
theorem la_303 : dm_at 329 303 = some (.iload 4, 2, []) := by decide +kernel
set_option maxRecDepth 100000 in
theorem la_305 : dm_at 329 305 = some (.iconst 4, 1, []) := by decide +kernel
set_option maxRecDepth 100000 in
theorem la_306 : dm_at 329 306 = some (.iadd, 1, []) := by decide +kernel
set_option maxRecDepth 100000 in
theorem la_307 : dm_at 329 307 = some (.iaload, 1, []) := by decide +kernel
set_option maxRecDepth 100000 in
theorem la_308 : dm_at 329 308 = some (.invokevirtual 183, 3, [143, 1, 6078, 6079, 6080, 1008, 6081]) := by decide +kernel
set_option maxRecDepth 100000 in
theorem la_311 : dm_at 329 311 = some (.istore 6, 2, []) := by decide +kernel
set_option maxRecDepth 100000 in
theorem la_313 : dm_at 329 313 = some (.goto 2067, 3, [2380]) := by decide +kernel
set_option maxRecDepth 100000 in
theorem la_316 : dm_at 329 316 = some (.aload_n 1, 1, []) := by decide +kernel
set_option maxRecDepth 100000 in
theorem la_317 : dm_at 329 317 = some (.aload_n 0, 1, []) := by decide +kernel
set_option maxRecDepth 100000 in
theorem la_318 : dm_at 329 318 = some (.iload 4, 2, []) := by decide +kernel
set_option maxRecDepth 100000 in
theorem la_320 : dm_at 329 320 = some (.iconst 1, 1, []) := by decide +kernel
set_option maxRecDepth 100000 in
theorem la_321 : dm_at 329 321 = some (.iadd, 1, []) := by decide +kernel
set_option maxRecDepth 100000 in
theorem la_322 : dm_at 329 322 = some (.iaload, 1, []) := by decide +kernel
set_option maxRecDepth 100000 in
theorem la_323 : dm_at 329 323 = some (.aload_n 0, 1, []) := by decide +kernel
set_option maxRecDepth 100000 in
theorem la_324 : dm_at 329 324 = some (.iload 4, 2, []) := by decide +kernel
set_option maxRecDepth 100000 in
theorem la_326 : dm_at 329 326 = some (.iconst 2, 1, []) := by decide +kernel
set_option maxRecDepth 100000 in
theorem la_327 : dm_at 329 327 = some (.iadd, 1, []) := by decide +kernel
set_option maxRecDepth 100000 in
theorem la_328 : dm_at 329 328 = some (.iaload, 1, []) := by decide +kernel
set_option maxRecDepth 100000 in
theorem la_329 : dm_at 329 329 = some (.aload_n 0, 1, []) := by decide +kernel
set_option maxRecDepth 100000 in
theorem la_330 : dm_at 329 330 = some (.iload 4, 2, []) := by decide +kernel
set_option maxRecDepth 100000 in
theorem la_332 : dm_at 329 332 = some (.iconst 3, 1, []) := by decide +kernel
set_option maxRecDepth 100000 in
theorem la_333 : dm_at 329 333 = some (.iadd, 1, []) := by decide +kernel
set_option maxRecDepth 100000 in
theorem la_334 : dm_at 329 334 = some (.iaload, 1, []) := by decide +kernel
set_option maxRecDepth 100000 in
theorem la_335 : dm_at 329 335 = some (.aload_n 0, 1, []) := by decide +kernel
set_option maxRecDepth 100000 in
theorem la_336 : dm_at 329 336 = some (.iload 4, 2, []) := by decide +kernel
set_option maxRecDepth 100000 in
theorem la_338 : dm_at 329 338 = some (.iconst 4, 1, []) := by decide +kernel
set_option maxRecDepth 100000 in
theorem la_339 : dm_at 329 339 = some (.iadd, 1, []) := by decide +kernel
set_option maxRecDepth 100000 in
theorem la_340 : dm_at 329 340 = some (.iaload, 1, []) := by decide +kernel
set_option maxRecDepth 100000 in
theorem la_341 : dm_at 329 341 = some (.aload_n 3, 1, []) := by decide +kernel
set_option maxRecDepth 100000 in
theorem la_342 : dm_at 329 342 = some (.invokestatic 184, 3, [285, 0, 3136, 3137, 1000, 3138]) := by decide +kernel
set_option maxRecDepth 100000 in
theorem la_345 : dm_at 329 345 = some (.istore 5, 2, []) := by decide +kernel
set_option maxRecDepth 100000 in
theorem la_347 : dm_at 329 347 = some (.aload_n 2, 1, []) := by decide +kernel
set_option maxRecDepth 100000 in
theorem la_348 : dm_at 329 348 = some (.aload_n 0, 1, []) := by decide +kernel
set_option maxRecDepth 100000 in
theorem la_349 : dm_at 329 349 = some (.iload 4, 2, []) := by decide +kernel
set_option maxRecDepth 100000 in
theorem la_351 : dm_at 329 351 = some (.iconst 1, 1, []) := by decide +kernel
set_option maxRecDepth 100000 in
theorem la_352 : dm_at 329 352 = some (.iadd, 1, []) := by decide +kernel
set_option maxRecDepth 100000 in
theorem la_353 : dm_at 329 353 = some (.iaload, 1, []) := by decide +kernel
set_option maxRecDepth 100000 in
theorem la_354 : dm_at 329 354 = some (.aload_n 0, 1, []) := by decide +kernel
set_option maxRecDepth 100000 in
theorem la_355 : dm_at 329 355 = some (.iload 4, 2, []) := by decide +kernel
set_option maxRecDepth 100000 in
theorem la_357 : dm_at 329 357 = some (.iconst 2, 1, []) := by decide +kernel
set_option maxRecDepth 100000 in
theorem la_358 : dm_at 329 358 = some (.iadd, 1, []) := by decide +kernel
set_option maxRecDepth 100000 in
theorem la_359 : dm_at 329 359 = some (.iaload, 1, []) := by decide +kernel
set_option maxRecDepth 100000 in
theorem la_360 : dm_at 329 360 = some (.aload_n 0, 1, []) := by decide +kernel
set_option maxRecDepth 100000 in
theorem la_361 : dm_at 329 361 = some (.iload 4, 2, []) := by decide +kernel
set_option maxRecDepth 100000 in
theorem la_363 : dm_at 329 363 = some (.iconst 3, 1, []) := by decide +kernel
set_option maxRecDepth 100000 in
theorem la_364 : dm_at 329 364 = some (.iadd, 1, []) := by decide +kernel
set_option maxRecDepth 100000 in
theorem la_365 : dm_at 329 365 = some (.iaload, 1, []) := by decide +kernel
set_option maxRecDepth 100000 in
theorem la_366 : dm_at 329 366 = some (.aload_n 0, 1, []) := by decide +kernel
set_option maxRecDepth 100000 in
theorem la_367 : dm_at 329 367 = some (.iload 4, 2, []) := by decide +kernel
set_option maxRecDepth 100000 in
theorem la_369 : dm_at 329 369 = some (.iconst 4, 1, []) := by decide +kernel
set_option maxRecDepth 100000 in
theorem la_370 : dm_at 329 370 = some (.iadd, 1, []) := by decide +kernel
set_option maxRecDepth 100000 in
theorem la_371 : dm_at 329 371 = some (.iaload, 1, []) := by decide +kernel
set_option maxRecDepth 100000 in
theorem la_372 : dm_at 329 372 = some (.invokevirtual 186, 3, [144, 1, 6123, 6124, 6125, 1008, 6126]) := by decide +kernel
set_option maxRecDepth 100000 in
theorem la_375 : dm_at 329 375 = some (.istore 6, 2, []) := by decide +kernel
set_option maxRecDepth 100000 in
theorem la_377 : dm_at 329 377 = some (.goto 2003, 3, [2380]) := by decide +kernel
set_option maxRecDepth 100000 in
theorem la_380 : dm_at 329 380 = some (.aload_n 1, 1, []) := by decide +kernel
set_option maxRecDepth 100000 in
theorem la_381 : dm_at 329 381 = some (.aload_n 0, 1, []) := by decide +kernel
set_option maxRecDepth 100000 in
theorem la_382 : dm_at 329 382 = some (.iload 4, 2, []) := by decide +kernel
set_option maxRecDepth 100000 in
theorem la_384 : dm_at 329 384 = some (.iconst 1, 1, []) := by decide +kernel
set_option maxRecDepth 100000 in
theorem la_385 : dm_at 329 385 = some (.iadd, 1, []) := by decide +kernel
set_option maxRecDepth 100000 in
theorem la_386 : dm_at 329 386 = some (.iaload, 1, []) := by decide +kernel
set_option maxRecDepth 100000 in
theorem la_387 : dm_at 329 387 = some (.aload_n 0, 1, []) := by decide +kernel
set_option maxRecDepth 100000 in
theorem la_388 : dm_at 329 388 = some (.iload 4, 2, []) := by decide +kernel
set_option maxRecDepth 100000 in
theorem la_390 : dm_at 329 390 = some (.iconst 2, 1, []) := by decide +kernel
set_option maxRecDepth 100000 in
theorem la_391 : dm_at 329 391 = some (.iadd, 1, []) := by decide +kernel
set_option maxRecDepth 100000 in
theorem la_392 : dm_at 329 392 = some (.iaload, 1, []) := by decide +kernel
set_option maxRecDepth 100000 in
theorem la_393 : dm_at 329 393 = some (.aload_n 0, 1, []) := by decide +kernel
set_option maxRecDepth 100000 in
theorem la_394 : dm_at 329 394 = some (.iload 4, 2, []) := by decide +kernel
set_option maxRecDepth 100000 in
theorem la_396 : dm_at 329 396 = some (.iconst 3, 1, []) := by decide +kernel
set_option maxRecDepth 100000 in
theorem la_397 : dm_at 329 397 = some (.iadd, 1, []) := by decide +kernel
set_option maxRecDepth 100000 in
theorem la_398 : dm_at 329 398 = some (.iaload, 1, []) := by decide +kernel
set_option maxRecDepth 100000 in
theorem la_399 : dm_at 329 399 = some (.aload_n 0, 1, []) := by decide +kernel
set_option maxRecDepth 100000 in
theorem la_400 : dm_at 329 400 = some (.iload 4, 2, []) := by decide +kernel
set_option maxRecDepth 100000 in
theorem la_402 : dm_at 329 402 = some (.iconst 4, 1, []) := by decide +kernel
set_option maxRecDepth 100000 in
theorem la_403 : dm_at 329 403 = some (.iadd, 1, []) := by decide +kernel
set_option maxRecDepth 100000 in
theorem la_404 : dm_at 329 404 = some (.iaload, 1, []) := by decide +kernel
set_option maxRecDepth 100000 in
theorem la_405 : dm_at 329 405 = some (.aload_n 3, 1, []) := by decide +kernel
set_option maxRecDepth 100000 in
theorem la_406 : dm_at 329 406 = some (.invokestatic 187, 3, [286, 0, 3143, 3144, 1000, 3145]) := by decide +kernel
set_option maxRecDepth 100000 in
theorem la_409 : dm_at 329 409 = some (.istore 5, 2, []) := by decide +kernel
set_option maxRecDepth 100000 in
theorem la_411 : dm_at 329 411 = some (.aload_n 2, 1, []) := by decide +kernel
set_option maxRecDepth 100000 in
theorem la_412 : dm_at 329 412 = some (.aload_n 0, 1, []) := by decide +kernel
set_option maxRecDepth 100000 in
theorem la_413 : dm_at 329 413 = some (.iload 4, 2, []) := by decide +kernel
set_option maxRecDepth 100000 in
theorem la_415 : dm_at 329 415 = some (.iconst 1, 1, []) := by decide +kernel
set_option maxRecDepth 100000 in
theorem la_416 : dm_at 329 416 = some (.iadd, 1, []) := by decide +kernel
set_option maxRecDepth 100000 in
theorem la_417 : dm_at 329 417 = some (.iaload, 1, []) := by decide +kernel
set_option maxRecDepth 100000 in
theorem la_418 : dm_at 329 418 = some (.aload_n 0, 1, []) := by decide +kernel
set_option maxRecDepth 100000 in
theorem la_419 : dm_at 329 419 = some (.iload 4, 2, []) := by decide +kernel
set_option maxRecDepth 100000 in
theorem la_421 : dm_at 329 421 = some (.iconst 2, 1, []) := by decide +kernel
set_option maxRecDepth 100000 in
theorem la_422 : dm_at 329 422 = some (.iadd, 1, []) := by decide +kernel
set_option maxRecDepth 100000 in
theorem la_423 : dm_at 329 423 = some (.iaload, 1, []) := by decide +kernel
set_option maxRecDepth 100000 in
theorem la_424 : dm_at 329 424 = some (.aload_n 0, 1, []) := by decide +kernel
set_option maxRecDepth 100000 in
theorem la_425 : dm_at 329 425 = some (.iload 4, 2, []) := by decide +kernel
set_option maxRecDepth 100000 in
theorem la_427 : dm_at 329 427 = some (.iconst 3, 1, []) := by decide +kernel
set_option maxRecDepth 100000 in
theorem la_428 : dm_at 329 428 = some (.iadd, 1, []) := by decide +kernel
set_option maxRecDepth 100000 in
theorem la_429 : dm_at 329 429 = some (.iaload, 1, []) := by decide +kernel
set_option maxRecDepth 100000 in
theorem la_430 : dm_at 329 430 = some (.aload_n 0, 1, []) := by decide +kernel
set_option maxRecDepth 100000 in
theorem la_431 : dm_at 329 431 = some (.iload 4, 2, []) := by decide +kernel
set_option maxRecDepth 100000 in
theorem la_433 : dm_at 329 433 = some (.iconst 4, 1, []) := by decide +kernel
set_option maxRecDepth 100000 in
theorem la_434 : dm_at 329 434 = some (.iadd, 1, []) := by decide +kernel
set_option maxRecDepth 100000 in
theorem la_435 : dm_at 329 435 = some (.iaload, 1, []) := by decide +kernel
set_option maxRecDepth 100000 in
theorem la_436 : dm_at 329 436 = some (.invokevirtual 189, 3, [145, 1, 6131, 6132, 6133, 1008, 6134]) := by decide +kernel
set_option maxRecDepth 100000 in
theorem la_439 : dm_at 329 439 = some (.istore 6, 2, []) := by decide +kernel
set_option maxRecDepth 100000 in
theorem la_441 : dm_at 329 441 = some (.goto 1939, 3, [2380]) := by decide +kernel
set_option maxRecDepth 100000 in
theorem la_444 : dm_at 329 444 = some (.aload_n 1, 1, []) := by decide +kernel
set_option maxRecDepth 100000 in
theorem la_445 : dm_at 329 445 = some (.aload_n 0, 1, []) := by decide +kernel
set_option maxRecDepth 100000 in
theorem la_446 : dm_at 329 446 = some (.iload 4, 2, []) := by decide +kernel
set_option maxRecDepth 100000 in
theorem la_448 : dm_at 329 448 = some (.iconst 1, 1, []) := by decide +kernel
set_option maxRecDepth 100000 in
theorem la_449 : dm_at 329 449 = some (.iadd, 1, []) := by decide +kernel
set_option maxRecDepth 100000 in
theorem la_450 : dm_at 329 450 = some (.iaload, 1, []) := by decide +kernel
set_option maxRecDepth 100000 in
theorem la_451 : dm_at 329 451 = some (.aload_n 0, 1, []) := by decide +kernel
set_option maxRecDepth 100000 in
theorem la_452 : dm_at 329 452 = some (.iload 4, 2, []) := by decide +kernel
set_option maxRecDepth 100000 in
theorem la_454 : dm_at 329 454 = some (.iconst 2, 1, []) := by decide +kernel
set_option maxRecDepth 100000 in
theorem la_455 : dm_at 329 455 = some (.iadd, 1, []) := by decide +kernel
set_option maxRecDepth 100000 in
theorem la_456 : dm_at 329 456 = some (.iaload, 1, []) := by decide +kernel
set_option maxRecDepth 100000 in
theorem la_457 : dm_at 329 457 = some (.aload_n 0, 1, []) := by decide +kernel
set_option maxRecDepth 100000 in
theorem la_458 : dm_at 329 458 = some (.iload 4, 2, []) := by decide +kernel
set_option maxRecDepth 100000 in
theorem la_460 : dm_at 329 460 = some (.iconst 3, 1, []) := by decide +kernel
set_option maxRecDepth 100000 in
theorem la_461 : dm_at 329 461 = some (.iadd, 1, []) := by decide +kernel
set_option maxRecDepth 100000 in
theorem la_462 : dm_at 329 462 = some (.iaload, 1, []) := by decide +kernel
set_option maxRecDepth 100000 in
theorem la_463 : dm_at 329 463 = some (.aload_n 0, 1, []) := by decide +kernel
set_option maxRecDepth 100000 in
theorem la_464 : dm_at 329 464 = some (.iload 4, 2, []) := by decide +kernel
set_option maxRecDepth 100000 in
theorem la_466 : dm_at 329 466 = some (.iconst 4, 1, []) := by decide +kernel
set_option maxRecDepth 100000 in
theorem la_467 : dm_at 329 467 = some (.iadd, 1, []) := by decide +kernel
set_option maxRecDepth 100000 in
theorem la_468 : dm_at 329 468 = some (.iaload, 1, []) := by decide +kernel
set_option maxRecDepth 100000 in
theorem la_469 : dm_at 329 469 = some (.aload_n 3, 1, []) := by decide +kernel
set_option maxRecDepth 100000 in
theorem la_470 : dm_at 329 470 = some (.invokestatic 190, 3, [287, 0, 3150, 3151, 1000, 3152]) := by decide +kernel
set_option maxRecDepth 100000 in
theorem la_473 : dm_at 329 473 = some (.istore 5, 2, []) := by decide +kernel
set_option maxRecDepth 100000 in
theorem la_475 : dm_at 329 475 = some (.aload_n 2, 1, []) := by decide +kernel
set_option maxRecDepth 100000 in
theorem la_476 : dm_at 329 476 = some (.aload_n 0, 1, []) := by decide +kernel
set_option maxRecDepth 100000 in
theorem la_477 : dm_at 329 477 = some (.iload 4, 2, []) := by decide +kernel
set_option maxRecDepth 100000 in
theorem la_479 : dm_at 329 479 = some (.iconst 1, 1, []) := by decide +kernel
set_option maxRecDepth 100000 in
theorem la_480 : dm_at 329 480 = some (.iadd, 1, []) := by decide +kernel
set_option maxRecDepth 100000 in
theorem la_481 : dm_at 329 481 = some (.iaload, 1, []) := by decide +kernel
set_option maxRecDepth 100000 in
theorem la_482 : dm_at 329 482 = some (.aload_n 0, 1, []) := by decide +kernel
set_option maxRecDepth 100000 in
theorem la_483 : dm_at 329 483 = some (.iload 4, 2, []) := by decide +kernel
set_option maxRecDepth 100000 in
theorem la_485 : dm_at 329 485 = some (.iconst 2, 1, []) := by decide +kernel
set_option maxRecDepth 100000 in
theorem la_486 : dm_at 329 486 = some (.iadd, 1, []) := by decide +kernel
set_option maxRecDepth 100000 in
theorem la_487 : dm_at 329 487 = some (.iaload, 1, []) := by decide +kernel
set_option maxRecDepth 100000 in
theorem la_488 : dm_at 329 488 = some (.aload_n 0, 1, []) := by decide +kernel
set_option maxRecDepth 100000 in
theorem la_489 : dm_at 329 489 = some (.iload 4, 2, []) := by decide +kernel
set_option maxRecDepth 100000 in
theorem la_491 : dm_at 329 491 = some (.iconst 3, 1, []) := by decide +kernel
set_option maxRecDepth 100000 in
theorem la_492 : dm_at 329 492 = some (.iadd, 1, []) := by decide +kernel
set_option maxRecDepth 100000 in
theorem la_493 : dm_at 329 493 = some (.iaload, 1, []) := by decide +kernel
set_option maxRecDepth 100000 in
theorem la_494 : dm_at 329 494 = some (.aload_n 0, 1, []) := by decide +kernel
set_option maxRecDepth 100000 in
theorem la_495 : dm_at 329 495 = some (.iload 4, 2, []) := by decide +kernel
set_option maxRecDepth 100000 in
theorem la_497 : dm_at 329 497 = some (.iconst 4, 1, []) := by decide +kernel
set_option maxRecDepth 100000 in
theorem la_498 : dm_at 329 498 = some (.iadd, 1, []) := by decide +kernel
set_option maxRecDepth 100000 in
theorem la_499 : dm_at 329 499 = some (.iaload, 1, []) := by decide +kernel
set_option maxRecDepth 100000 in
theorem la_500 : dm_at 329 500 = some (.invokevirtual 192, 3, [146, 1, 6135, 6136, 6137, 1008, 6138]) := by decide +kernel
set_option maxRecDepth 100000 in
theorem la_503 : dm_at 329 503 = some (.istore 6, 2, []) := by decide +kernel
set_option maxRecDepth 100000 in
theorem la_505 : dm_at 329 505 = some (.goto 1875, 3, [2380]) := by decide +kernel
set_option maxRecDepth 100000 in
theorem la_508 : dm_at 329 508 = some (.aload_n 1, 1, []) := by decide +kernel
set_option maxRecDepth 100000 in
theorem la_509 : dm_at 329 509 = some (.aload_n 0, 1, []) := by decide +kernel
set_option maxRecDepth 100000 in
theorem la_510 : dm_at 329 510 = some (.iload 4, 2, []) := by decide +kernel
set_option maxRecDepth 100000 in
theorem la_512 : dm_at 329 512 = some (.iconst 1, 1, []) := by decide +kernel
set_option maxRecDepth 100000 in
theorem la_513 : dm_at 329 513 = some (.iadd, 1, []) := by decide +kernel
set_option maxRecDepth 100000 in
theorem la_514 : dm_at 329 514 = some (.iaload, 1, []) := by decide +kernel
set_option maxRecDepth 100000 in
theorem la_515 : dm_at 329 515 = some (.aload_n 0, 1, []) := by decide +kernel
set_option maxRecDepth 100000 in
theorem la_516 : dm_at 329 516 = some (.iload 4, 2, []) := by decide +kernel
set_option maxRecDepth 100000 in
theorem la_518 : dm_at 329 518 = some (.iconst 2, 1, []) := by decide +kernel
set_option maxRecDepth 100000 in
theorem la_519 : dm_at 329 519 = some (.iadd, 1, []) := by decide +kernel
set_option maxRecDepth 100000 in
theorem la_520 : dm_at 329 520 = some (.iaload, 1, []) := by decide +kernel
set_option maxRecDepth 100000 in
theorem la_521 : dm_at 329 521 = some (.aload_n 0, 1, []) := by decide +kernel
set_option maxRecDepth 100000 in
theorem la_522 : dm_at 329 522 = some (.iload 4, 2, []) := by decide +kernel
set_option maxRecDepth 100000 in
theorem la_524 : dm_at 329 524 = some (.iconst 3, 1, []) := by decide +kernel
set_option maxRecDepth 100000 in
theorem la_525 : dm_at 329 525 = some (.iadd, 1, []) := by decide +kernel
set_option maxRecDepth 100000 in
theorem la_526 : dm_at 329 526 = some (.iaload, 1, []) := by decide +kernel
set_option maxRecDepth 100000 in
theorem la_527 : dm_at 329 527 = some (.aload_n 0, 1, []) := by decide +kernel
set_option maxRecDepth 100000 in
theorem la_528 : dm_at 329 528 = some (.iload 4, 2, []) := by decide +kernel
set_option maxRecDepth 100000 in
theorem la_530 : dm_at 329 530 = some (.iconst 4, 1, []) := by decide +kernel
set_option maxRecDepth 100000 in
theorem la_531 : dm_at 329 531 = some (.iadd, 1, []) := by decide +kernel
set_option maxRecDepth 100000 in
theorem la_532 : dm_at 329 532 = some (.iaload, 1, []) := by decide +kernel
set_option maxRecDepth 100000 in
theorem la_533 : dm_at 329 533 = some (.aload_n 0, 1, []) := by decide +kernel
set_option maxRecDepth 100000 in
theorem la_534 : dm_at 329 534 = some (.iload 4, 2, []) := by decide +kernel
set_option maxRecDepth 100000 in
theorem la_536 : dm_at 329 536 = some (.iconst 5, 1, []) := by decide +kernel
set_option maxRecDepth 100000 in
theorem la_537 : dm_at 329 537 = some (.iadd, 1, []) := by decide +kernel
set_option maxRecDepth 100000 in
theorem la_538 : dm_at 329 538 = some (.iaload, 1, []) := by decide +kernel
set_option maxRecDepth 100000 in
theorem la_539 : dm_at 329 539 = some (.aload_n 3, 1, []) := by decide +kernel
set_option maxRecDepth 100000 in
theorem la_540 : dm_at 329 540 = some (.invokestatic 193, 3, [288, 0, 3157, 3158, 1000, 3159]) := by decide +kernel
set_option maxRecDepth 100000 in
theorem la_543 : dm_at 329 543 = some (.istore 5, 2, []) := by decide +kernel
set_option maxRecDepth 100000 in
theorem la_545 : dm_at 329 545 = some (.aload_n 2, 1, []) := by decide +kernel
set_option maxRecDepth 100000 in
theorem la_546 : dm_at 329 546 = some (.aload_n 0, 1, []) := by decide +kernel
set_option maxRecDepth 100000 in
theorem la_547 : dm_at 329 547 = some (.iload 4, 2, []) := by decide +kernel
set_option maxRecDepth 100000 in
theorem la_549 : dm_at 329 549 = some (.iconst 1, 1, []) := by decide +kernel
set_option maxRecDepth 100000 in
theorem la_550 : dm_at 329 550 = some (.iadd, 1, []) := by decide +kernel
set_option maxRecDepth 100000 in
theorem la_551 : dm_at 329 551 = some (.iaload, 1, []) := by decide +kernel
set_option maxRecDepth 100000 in
theorem la_552 : dm_at 329 552 = some (.aload_n 0, 1, []) := by decide +kernel
set_option maxRecDepth 100000 in
theorem la_553 : dm_at 329 553 = some (.iload 4, 2, []) := by decide +kernel
set_option maxRecDepth 100000 in
theorem la_555 : dm_at 329 555 = some (.iconst 2, 1, []) := by decide +kernel
set_option maxRecDepth 100000 in
theorem la_556 : dm_at 329 556 = some (.iadd, 1, []) := by decide +kernel
set_option maxRecDepth 100000 in
theorem la_557 : dm_at 329 557 = some (.iaload, 1, []) := by decide +kernel
set_option maxRecDepth 100000 in
theorem la_558 : dm_at 329 558 = some (.aload_n 0, 1, []) := by decide +kernel
set_option maxRecDepth 100000 in
theorem la_559 : dm_at 329 559 = some (.iload 4, 2, []) := by decide +kernel
set_option maxRecDepth 100000 in
theorem la_561 : dm_at 329 561 = some (.iconst 3, 1, []) := by decide +kernel
set_option maxRecDepth 100000 in
theorem la_562 : dm_at 329 562 = some (.iadd, 1, []) := by decide +kernel
set_option maxRecDepth 100000 in
theorem la_563 : dm_at 329 563 = some (.iaload, 1, []) := by decide +kernel
set_option maxRecDepth 100000 in
theorem la_564 : dm_at 329 564 = some (.aload_n 0, 1, []) := by decide +kernel
set_option maxRecDepth 100000 in
theorem la_565 : dm_at 329 565 = some (.iload 4, 2, []) := by decide +kernel
set_option maxRecDepth 100000 in
theorem la_567 : dm_at 329 567 = some (.iconst 4, 1, []) := by decide +kernel
set_option maxRecDepth 100000 in
theorem la_568 : dm_at 329 568 = some (.iadd, 1, []) := by decide +kernel
set_option maxRecDepth 100000 in
theorem la_569 : dm_at 329 569 = some (.iaload, 1, []) := by decide +kernel
set_option maxRecDepth 100000 in
theorem la_570 : dm_at 329 570 = some (.aload_n 0, 1, []) := by decide +kernel
set_option maxRecDepth 100000 in
theorem la_571 : dm_at 329 571 = some (.iload 4, 2, []) := by decide +kernel
set_option maxRecDepth 100000 in
theorem la_573 : dm_at 329 573 = some (.iconst 5, 1, []) := by decide +kernel
set_option maxRecDepth 100000 in
theorem la_574 : dm_at 329 574 = some (.iadd, 1, []) := by decide +kernel
set_option maxRecDepth 100000 in
theorem la_575 : dm_at 329 575 = some (.iaload, 1, []) := by decide +kernel
set_option maxRecDepth 100000 in
theorem la_576 : dm_at 329 576 = some (.invokevirtual 196, 3, [147, 1, 6139, 6140, 6141, 1008, 6142]) := by decide +kernel
set_option maxRecDepth 100000 in
theorem la_579 : dm_at 329 579 = some (.istore 6, 2, []) := by decide +kernel
set_option maxRecDepth 100000 in
theorem la_581 : dm_at 329 581 = some (.goto 1799, 3, [2380]) := by decide +kernel
set_option maxRecDepth 100000 in
theorem la_584 : dm_at 329 584 = some (.aload_n 1, 1, []) := by decide +kernel
set_option maxRecDepth 100000 in
theorem la_585 : dm_at 329 585 = some (.aload_n 0, 1, []) := by decide +kernel
set_option maxRecDepth 100000 in
theorem la_586 : dm_at 329 586 = some (.iload 4, 2, []) := by decide +kernel
set_option maxRecDepth 100000 in
theorem la_588 : dm_at 329 588 = some (.iconst 1, 1, []) := by decide +kernel
set_option maxRecDepth 100000 in
theorem la_589 : dm_at 329 589 = some (.iadd, 1, []) := by decide +kernel
set_option maxRecDepth 100000 in
theorem la_590 : dm_at 329 590 = some (.iaload, 1, []) := by decide +kernel
set_option maxRecDepth 100000 in
theorem la_591 : dm_at 329 591 = some (.aload_n 0, 1, []) := by decide +kernel
set_option maxRecDepth 100000 in
theorem la_592 : dm_at 329 592 = some (.iload 4, 2, []) := by decide +kernel
set_option maxRecDepth 100000 in
theorem la_594 : dm_at 329 594 = some (.iconst 2, 1, []) := by decide +kernel
set_option maxRecDepth 100000 in
theorem la_595 : dm_at 329 595 = some (.iadd, 1, []) := by decide +kernel
set_option maxRecDepth 100000 in
theorem la_596 : dm_at 329 596 = some (.iaload, 1, []) := by decide +kernel
set_option maxRecDepth 100000 in
theorem la_597 : dm_at 329 597 = some (.aload_n 0, 1, []) := by decide +kernel
set_option maxRecDepth 100000 in
theorem la_598 : dm_at 329 598 = some (.iload 4, 2, []) := by decide +kernel
set_option maxRecDepth 100000 in
theorem la_600 : dm_at 329 600 = some (.iconst 3, 1, []) := by decide +kernel
set_option maxRecDepth 100000 in
theorem la_601 : dm_at 329 601 = some (.iadd, 1, []) := by decide +kernel
set_option maxRecDepth 100000 in
theorem la_602 : dm_at 329 602 = some (.iaload, 1, []) := by decide +kernel
set_option maxRecDepth 100000 in
theorem la_603 : dm_at 329 603 = some (.aload_n 3, 1, []) := by decide +kernel
set_option maxRecDepth 100000 in
theorem la_604 : dm_at 329 604 = some (.invokestatic 197, 3, [289, 0, 3164, 3165, 1000, 3166]) := by decide +kernel
set_option maxRecDepth 100000 in
theorem la_607 : dm_at 329 607 = some (.istore 5, 2, []) := by decide +kernel
set_option maxRecDepth 100000 in
theorem la_609 : dm_at 329 609 = some (.aload_n 2, 1, []) := by decide +kernel
set_option maxRecDepth 100000 in
theorem la_610 : dm_at 329 610 = some (.aload_n 0, 1, []) := by decide +kernel
set_option maxRecDepth 100000 in
theorem la_611 : dm_at 329 611 = some (.iload 4, 2, []) := by decide +kernel
set_option maxRecDepth 100000 in
theorem la_613 : dm_at 329 613 = some (.iconst 1, 1, []) := by decide +kernel
set_option maxRecDepth 100000 in
theorem la_614 : dm_at 329 614 = some (.iadd, 1, []) := by decide +kernel
set_option maxRecDepth 100000 in
theorem la_615 : dm_at 329 615 = some (.iaload, 1, []) := by decide +kernel
set_option maxRecDepth 100000 in
theorem la_616 : dm_at 329 616 = some (.aload_n 0, 1, []) := by decide +kernel
set_option maxRecDepth 100000 in
theorem la_617 : dm_at 329 617 = some (.iload 4, 2, []) := by decide +kernel
set_option maxRecDepth 100000 in
theorem la_619 : dm_at 329 619 = some (.iconst 2, 1, []) := by decide +kernel
set_option maxRecDepth 100000 in
theorem la_620 : dm_at 329 620 = some (.iadd, 1, []) := by decide +kernel
set_option maxRecDepth 100000 in
theorem la_621 : dm_at 329 621 = some (.iaload, 1, []) := by decide +kernel
set_option maxRecDepth 100000 in
theorem la_622 : dm_at 329 622 = some (.aload_n 0, 1, []) := by decide +kernel
set_option maxRecDepth 100000 in
theorem la_623 : dm_at 329 623 = some (.iload 4, 2, []) := by decide +kernel
set_option maxRecDepth 100000 in
theorem la_625 : dm_at 329 625 = some (.iconst 3, 1, []) := by decide +kernel
set_option maxRecDepth 100000 in
theorem la_626 : dm_at 329 626 = some (.iadd, 1, []) := by decide +kernel
set_option maxRecDepth 100000 in
theorem la_627 : dm_at 329 627 = some (.iaload, 1, []) := by decide +kernel
set_option maxRecDepth 100000 in
theorem la_628 : dm_at 329 628 = some (.invokevirtual 200, 3, [148, 1, 6143, 6144, 6145, 1008, 6146]) := by decide +kernel
set_option maxRecDepth 100000 in
theorem la_631 : dm_at 329 631 = some (.istore 6, 2, []) := by decide +kernel
set_option maxRecDepth 100000 in
theorem la_633 : dm_at 329 633 = some (.goto 1747, 3, [2380]) := by decide +kernel
set_option maxRecDepth 100000 in
theorem la_636 : dm_at 329 636 = some (.aload_n 1, 1, []) := by decide +kernel
set_option maxRecDepth 100000 in
theorem la_637 : dm_at 329 637 = some (.aload_n 0, 1, []) := by decide +kernel
set_option maxRecDepth 100000 in
theorem la_638 : dm_at 329 638 = some (.iload 4, 2, []) := by decide +kernel
set_option maxRecDepth 100000 in
theorem la_640 : dm_at 329 640 = some (.iconst 1, 1, []) := by decide +kernel
set_option maxRecDepth 100000 in
theorem la_641 : dm_at 329 641 = some (.iadd, 1, []) := by decide +kernel
set_option maxRecDepth 100000 in
theorem la_642 : dm_at 329 642 = some (.iaload, 1, []) := by decide +kernel
set_option maxRecDepth 100000 in
theorem la_643 : dm_at 329 643 = some (.aload_n 0, 1, []) := by decide +kernel
set_option maxRecDepth 100000 in
theorem la_644 : dm_at 329 644 = some (.iload 4, 2, []) := by decide +kernel
set_option maxRecDepth 100000 in
theorem la_646 : dm_at 329 646 = some (.iconst 2, 1, []) := by decide +kernel
set_option maxRecDepth 100000 in
theorem la_647 : dm_at 329 647 = some (.iadd, 1, []) := by decide +kernel
set_option maxRecDepth 100000 in
theorem la_648 : dm_at 329 648 = some (.iaload, 1, []) := by decide +kernel
set_option maxRecDepth 100000 in
theorem la_649 : dm_at 329 649 = some (.aload_n 0, 1, []) := by decide +kernel
set_option maxRecDepth 100000 in
theorem la_650 : dm_at 329 650 = some (.iload 4, 2, []) := by decide +kernel
set_option maxRecDepth 100000 in
theorem la_652 : dm_at 329 652 = some (.iconst 3, 1, []) := by decide +kernel
set_option maxRecDepth 100000 in
theorem la_653 : dm_at 329 653 = some (.iadd, 1, []) := by decide +kernel
set_option maxRecDepth 100000 in
theorem la_654 : dm_at 329 654 = some (.iaload, 1, []) := by decide +kernel
set_option maxRecDepth 100000 in
theorem la_655 : dm_at 329 655 = some (.aload_n 0, 1, []) := by decide +kernel
set_option maxRecDepth 100000 in
theorem la_656 : dm_at 329 656 = some (.iload 4, 2, []) := by decide +kernel
set_option maxRecDepth 100000 in
theorem la_658 : dm_at 329 658 = some (.iconst 4, 1, []) := by decide +kernel
set_option maxRecDepth 100000 in
theorem la_659 : dm_at 329 659 = some (.iadd, 1, []) := by decide +kernel
set_option maxRecDepth 100000 in
theorem la_660 : dm_at 329 660 = some (.iaload, 1, []) := by decide +kernel
set_option maxRecDepth 100000 in
theorem la_661 : dm_at 329 661 = some (.aload_n 3, 1, []) := by decide +kernel
set_option maxRecDepth 100000 in
theorem la_662 : dm_at 329 662 = some (.invokestatic 201, 3, [290, 0, 3178, 3179, 1000, 3180]) := by decide +kernel
set_option maxRecDepth 100000 in
theorem la_665 : dm_at 329 665 = some (.istore 5, 2, []) := by decide +kernel
set_option maxRecDepth 100000 in
theorem la_667 : dm_at 329 667 = some (.aload_n 2, 1, []) := by decide +kernel
set_option maxRecDepth 100000 in
theorem la_668 : dm_at 329 668 = some (.aload_n 0, 1, []) := by decide +kernel
set_option maxRecDepth 100000 in
theorem la_669 : dm_at 329 669 = some (.iload 4, 2, []) := by decide +kernel
set_option maxRecDepth 100000 in
theorem la_671 : dm_at 329 671 = some (.iconst 1, 1, []) := by decide +kernel
set_option maxRecDepth 100000 in
theorem la_672 : dm_at 329 672 = some (.iadd, 1, []) := by decide +kernel
set_option maxRecDepth 100000 in
theorem la_673 : dm_at 329 673 = some (.iaload, 1, []) := by decide +kernel
set_option maxRecDepth 100000 in
theorem la_674 : dm_at 329 674 = some (.aload_n 0, 1, []) := by decide +kernel
set_option maxRecDepth 100000 in
theorem la_675 : dm_at 329 675 = some (.iload 4, 2, []) := by decide +kernel
set_option maxRecDepth 100000 in
theorem la_677 : dm_at 329 677 = some (.iconst 2, 1, []) := by decide +kernel
set_option maxRecDepth 100000 in
theorem la_678 : dm_at 329 678 = some (.iadd, 1, []) := by decide +kernel
set_option maxRecDepth 100000 in
theorem la_679 : dm_at 329 679 = some (.iaload, 1, []) := by decide +kernel
set_option maxRecDepth 100000 in
theorem la_680 : dm_at 329 680 = some (.aload_n 0, 1, []) := by decide +kernel
set_option maxRecDepth 100000 in
theorem la_681 : dm_at 329 681 = some (.iload 4, 2, []) := by decide +kernel
set_option maxRecDepth 100000 in
theorem la_683 : dm_at 329 683 = some (.iconst 3, 1, []) := by decide +kernel
set_option maxRecDepth 100000 in
theorem la_684 : dm_at 329 684 = some (.iadd, 1, []) := by decide +kernel
set_option maxRecDepth 100000 in
theorem la_685 : dm_at 329 685 = some (.iaload, 1, []) := by decide +kernel
set_option maxRecDepth 100000 in
theorem la_686 : dm_at 329 686 = some (.aload_n 0, 1, []) := by decide +kernel
set_option maxRecDepth 100000 in
theorem la_687 : dm_at 329 687 = some (.iload 4, 2, []) := by decide +kernel
set_option maxRecDepth 100000 in
theorem la_689 : dm_at 329 689 = some (.iconst 4, 1, []) := by decide +kernel
set_option maxRecDepth 100000 in
theorem la_690 : dm_at 329 690 = some (.iadd, 1, []) := by decide +kernel
set_option maxRecDepth 100000 in
theorem la_691 : dm_at 329 691 = some (.iaload, 1, []) := by decide +kernel
set_option maxRecDepth 100000 in
theorem la_692 : dm_at 329 692 = some (.invokevirtual 203, 3, [149, 1, 6155, 6156, 6157, 1008, 6158]) := by decide +kernel
set_option maxRecDepth 100000 in
theorem la_695 : dm_at 329 695 = some (.istore 6, 2, []) := by decide +kernel
set_option maxRecDepth 100000 in
theorem la_697 : dm_at 329 697 = some (.goto 1683, 3, [2380]) := by decide +kernel
set_option maxRecDepth 100000 in
theorem la_700 : dm_at 329 700 = some (.aload_n 1, 1, []) := by decide +kernel
set_option maxRecDepth 100000 in
theorem la_701 : dm_at 329 701 = some (.aload_n 0, 1, []) := by decide +kernel
set_option maxRecDepth 100000 in
theorem la_702 : dm_at 329 702 = some (.iload 4, 2, []) := by decide +kernel
set_option maxRecDepth 100000 in
theorem la_704 : dm_at 329 704 = some (.iconst 1, 1, []) := by decide +kernel
set_option maxRecDepth 100000 in
theorem la_705 : dm_at 329 705 = some (.iadd, 1, []) := by decide +kernel
set_option maxRecDepth 100000 in
theorem la_706 : dm_at 329 706 = some (.iaload, 1, []) := by decide +kernel
set_option maxRecDepth 100000 in
theorem la_707 : dm_at 329 707 = some (.aload_n 0, 1, []) := by decide +kernel
set_option maxRecDepth 100000 in
theorem la_708 : dm_at 329 708 = some (.iload 4, 2, []) := by decide +kernel
set_option maxRecDepth 100000 in
theorem la_710 : dm_at 329 710 = some (.iconst 2, 1, []) := by decide +kernel
set_option maxRecDepth 100000 in
theorem la_711 : dm_at 329 711 = some (.iadd, 1, []) := by decide +kernel
set_option maxRecDepth 100000 in
theorem la_712 : dm_at 329 712 = some (.iaload, 1, []) := by decide +kernel
set_option maxRecDepth 100000 in
theorem la_713 : dm_at 329 713 = some (.aload_n 3, 1, []) := by decide +kernel
set_option maxRecDepth 100000 in
theorem la_714 : dm_at 329 714 = some (.invokestatic 204, 3, [291, 0, 3185, 3186, 1000, 3187]) := by decide +kernel
set_option maxRecDepth 100000 in
theorem la_717 : dm_at 329 717 = some (.istore 5, 2, []) := by decide +kernel
set_option maxRecDepth 100000 in
theorem la_719 : dm_at 329 719 = some (.aload_n 2, 1, []) := by decide +kernel
set_option maxRecDepth 100000 in
theorem la_720 : dm_at 329 720 = some (.aload_n 0, 1, []) := by decide +kernel
set_option maxRecDepth 100000 in
theorem la_721 : dm_at 329 721 = some (.iload 4, 2, []) := by decide +kernel
set_option maxRecDepth 100000 in
theorem la_723 : dm_at 329 723 = some (.iconst 1, 1, []) := by decide +kernel
set_option maxRecDepth 100000 in
theorem la_724 : dm_at 329 724 = some (.iadd, 1, []) := by decide +kernel
set_option maxRecDepth 100000 in
theorem la_725 : dm_at 329 725 = some (.iaload, 1, []) := by decide +kernel
set_option maxRecDepth 100000 in
theorem la_726 : dm_at 329 726 = some (.aload_n 0, 1, []) := by decide +kernel
set_option maxRecDepth 100000 in
theorem la_727 : dm_at 329 727 = some (.iload 4, 2, []) := by decide +kernel
set_option maxRecDepth 100000 in
theorem la_729 : dm_at 329 729 = some (.iconst 2, 1, []) := by decide +kernel
set_option maxRecDepth 100000 in
theorem la_730 : dm_at 329 730 = some (.iadd, 1, []) := by decide +kernel
set_option maxRecDepth 100000 in
theorem la_731 : dm_at 329 731 = some (.iaload, 1, []) := by decide +kernel
set_option maxRecDepth 100000 in
theorem la_732 : dm_at 329 732 = some (.invokevirtual 207, 3, [150, 1, 6159, 6160, 6161, 1008, 6162]) := by decide +kernel
set_option maxRecDepth 100000 in
theorem la_735 : dm_at 329 735 = some (.istore 6, 2, []) := by decide +kernel
set_option maxRecDepth 100000 in
theorem la_737 : dm_at 329 737 = some (.goto 1643, 3, [2380]) := by decide +kernel
set_option maxRecDepth 100000 in
theorem la_740 : dm_at 329 740 = some (.aload_n 1, 1, []) := by decide +kernel
set_option maxRecDepth 100000 in
theorem la_741 : dm_at 329 741 = some (.aload_n 0, 1, []) := by decide +kernel
set_option maxRecDepth 100000 in
theorem la_742 : dm_at 329 742 = some (.iload 4, 2, []) := by decide +kernel
set_option maxRecDepth 100000 in
theorem la_744 : dm_at 329 744 = some (.iconst 1, 1, []) := by decide +kernel
set_option maxRecDepth 100000 in
theorem la_745 : dm_at 329 745 = some (.iadd, 1, []) := by decide +kernel
set_option maxRecDepth 100000 in
theorem la_746 : dm_at 329 746 = some (.iaload, 1, []) := by decide +kernel
set_option maxRecDepth 100000 in
theorem la_747 : dm_at 329 747 = some (.aload_n 0, 1, []) := by decide +kernel
set_option maxRecDepth 100000 in
theorem la_748 : dm_at 329 748 = some (.iload 4, 2, []) := by decide +kernel
set_option maxRecDepth 100000 in
theorem la_750 : dm_at 329 750 = some (.iconst 2, 1, []) := by decide +kernel
set_option maxRecDepth 100000 in
theorem la_751 : dm_at 329 751 = some (.iadd, 1, []) := by decide +kernel
set_option maxRecDepth 100000 in
theorem la_752 : dm_at 329 752 = some (.iaload, 1, []) := by decide +kernel
set_option maxRecDepth 100000 in
theorem la_753 : dm_at 329 753 = some (.ifCond .eq 7, 3, [760]) := by decide +kernel
set_option maxRecDepth 100000 in
theorem la_756 : dm_at 329 756 = some (.iconst 1, 1, []) := by decide +kernel
set_option maxRecDepth 100000 in
theorem la_757 : dm_at 329 757 = some (.goto 4, 3, [761]) := by decide +kernel
set_option maxRecDepth 100000 in
theorem la_760 : dm_at 329 760 = some (.iconst 0, 1, []) := by decide +kernel
set_option maxRecDepth 100000 in
theorem la_761 : dm_at 329 761 = some (.aload_n 3, 1, []) := by decide +kernel
set_option maxRecDepth 100000 in
theorem la_762 : dm_at 329 762 = some (.invokestatic 208, 3, [292, 0, 3196, 3197, 1000, 3198]) := by decide +kernel
set_option maxRecDepth 100000 in
theorem la_765 : dm_at 329 765 = some (.istore 5, 2, []) := by decide +kernel
set_option maxRecDepth 100000 in
theorem la_767 : dm_at 329 767 = some (.aload_n 2, 1, []) := by decide +kernel
set_option maxRecDepth 100000 in
theorem la_768 : dm_at 329 768 = some (.aload_n 0, 1, []) := by decide +kernel
set_option maxRecDepth 100000 in
theorem la_769 : dm_at 329 769 = some (.iload 4, 2, []) := by decide +kernel
set_option maxRecDepth 100000 in
theorem la_771 : dm_at 329 771 = some (.iconst 1, 1, []) := by decide +kernel
set_option maxRecDepth 100000 in
theorem la_772 : dm_at 329 772 = some (.iadd, 1, []) := by decide +kernel
set_option maxRecDepth 100000 in
theorem la_773 : dm_at 329 773 = some (.iaload, 1, []) := by decide +kernel
set_option maxRecDepth 100000 in
theorem la_774 : dm_at 329 774 = some (.aload_n 0, 1, []) := by decide +kernel
set_option maxRecDepth 100000 in
theorem la_775 : dm_at 329 775 = some (.iload 4, 2, []) := by decide +kernel
set_option maxRecDepth 100000 in
theorem la_777 : dm_at 329 777 = some (.iconst 2, 1, []) := by decide +kernel
set_option maxRecDepth 100000 in
theorem la_778 : dm_at 329 778 = some (.iadd, 1, []) := by decide +kernel
set_option maxRecDepth 100000 in
theorem la_779 : dm_at 329 779 = some (.iaload, 1, []) := by decide +kernel
set_option maxRecDepth 100000 in
theorem la_780 : dm_at 329 780 = some (.ifCond .eq 7, 3, [787]) := by decide +kernel
set_option maxRecDepth 100000 in
theorem la_783 : dm_at 329 783 = some (.iconst 1, 1, []) := by decide +kernel
set_option maxRecDepth 100000 in
theorem la_784 : dm_at 329 784 = some (.goto 4, 3, [788]) := by decide +kernel
set_option maxRecDepth 100000 in
theorem la_787 : dm_at 329 787 = some (.iconst 0, 1, []) := by decide +kernel
set_option maxRecDepth 100000 in
theorem la_788 : dm_at 329 788 = some (.invokevirtual 211, 3, [151, 1, 6171, 6172, 6173, 1008, 6174]) := by decide +kernel
set_option maxRecDepth 100000 in
theorem la_791 : dm_at 329 791 = some (.istore 6, 2, []) := by decide +kernel
set_option maxRecDepth 100000 in
theorem la_793 : dm_at 329 793 = some (.goto 1587, 3, [2380]) := by decide +kernel
set_option maxRecDepth 100000 in
theorem la_796 : dm_at 329 796 = some (.aload_n 1, 1, []) := by decide +kernel
set_option maxRecDepth 100000 in
theorem la_797 : dm_at 329 797 = some (.aload_n 0, 1, []) := by decide +kernel
set_option maxRecDepth 100000 in
theorem la_798 : dm_at 329 798 = some (.iload 4, 2, []) := by decide +kernel
set_option maxRecDepth 100000 in
theorem la_800 : dm_at 329 800 = some (.iconst 1, 1, []) := by decide +kernel
set_option maxRecDepth 100000 in
theorem la_801 : dm_at 329 801 = some (.iadd, 1, []) := by decide +kernel
set_option maxRecDepth 100000 in
theorem la_802 : dm_at 329 802 = some (.iaload, 1, []) := by decide +kernel
set_option maxRecDepth 100000 in
theorem la_803 : dm_at 329 803 = some (.aload_n 3, 1, []) := by decide +kernel
set_option maxRecDepth 100000 in
theorem la_804 : dm_at 329 804 = some (.invokestatic 212, 3, [293, 0, 3206, 3207, 1000, 3208]) := by decide +kernel
set_option maxRecDepth 100000 in
theorem la_807 : dm_at 329 807 = some (.istore 5, 2, []) := by decide +kernel
set_option maxRecDepth 100000 in
theorem la_809 : dm_at 329 809 = some (.aload_n 2, 1, []) := by decide +kernel
set_option maxRecDepth 100000 in
theorem la_810 : dm_at 329 810 = some (.aload_n 0, 1, []) := by decide +kernel
set_option maxRecDepth 100000 in
theorem la_811 : dm_at 329 811 = some (.iload 4, 2, []) := by decide +kernel
set_option maxRecDepth 100000 in
theorem la_813 : dm_at 329 813 = some (.iconst 1, 1, []) := by decide +kernel
set_option maxRecDepth 100000 in
theorem la_814 : dm_at 329 814 = some (.iadd, 1, []) := by decide +kernel
set_option maxRecDepth 100000 in
theorem la_815 : dm_at 329 815 = some (.iaload, 1, []) := by decide +kernel
set_option maxRecDepth 100000 in
theorem la_816 : dm_at 329 816 = some (.invokevirtual 215, 3, [152, 1, 6175, 6176, 6177, 1008, 6178]) := by decide +kernel
set_option maxRecDepth 100000 in
theorem la_819 : dm_at 329 819 = some (.istore 6, 2, []) := by decide +kernel
set_option maxRecDepth 100000 in
theorem la_821 : dm_at 329 821 = some (.goto 1559, 3, [2380]) := by decide +kernel
set_option maxRecDepth 100000 in
theorem la_824 : dm_at 329 824 = some (.aload_n 1, 1, []) := by decide +kernel
set_option maxRecDepth 100000 in
theorem la_825 : dm_at 329 825 = some (.aload_n 0, 1, []) := by decide +kernel
set_option maxRecDepth 100000 in
theorem la_826 : dm_at 329 826 = some (.iload 4, 2, []) := by decide +kernel
set_option maxRecDepth 100000 in
theorem la_828 : dm_at 329 828 = some (.iconst 1, 1, []) := by decide +kernel
set_option maxRecDepth 100000 in
theorem la_829 : dm_at 329 829 = some (.iadd, 1, []) := by decide +kernel
set_option maxRecDepth 100000 in
theorem la_830 : dm_at 329 830 = some (.iaload, 1, []) := by decide +kernel
set_option maxRecDepth 100000 in
theorem la_831 : dm_at 329 831 = some (.aload_n 0, 1, []) := by decide +kernel
set_option maxRecDepth 100000 in
theorem la_832 : dm_at 329 832 = some (.iload 4, 2, []) := by decide +kernel
set_option maxRecDepth 100000 in
theorem la_834 : dm_at 329 834 = some (.iconst 2, 1, []) := by decide +kernel
set_option maxRecDepth 100000 in
theorem la_835 : dm_at 329 835 = some (.iadd, 1, []) := by decide +kernel
set_option maxRecDepth 100000 in
theorem la_836 : dm_at 329 836 = some (.iaload, 1, []) := by decide +kernel
set_option maxRecDepth 100000 in
theorem la_837 : dm_at 329 837 = some (.aload_n 3, 1, []) := by decide +kernel
set_option maxRecDepth 100000 in
theorem la_838 : dm_at 329 838 = some (.invokestatic 216, 3, [294, 0, 3218, 3219, 1000, 3220]) := by decide +kernel
set_option maxRecDepth 100000 in
theorem la_841 : dm_at 329 841 = some (.istore 5, 2, []) := by decide +kernel
set_option maxRecDepth 100000 in
theorem la_843 : dm_at 329 843 = some (.aload_n 2, 1, []) := by decide +kernel
set_option maxRecDepth 100000 in
theorem la_844 : dm_at 329 844 = some (.aload_n 0, 1, []) := by decide +kernel
set_option maxRecDepth 100000 in
theorem la_845 : dm_at 329 845 = some (.iload 4, 2, []) := by decide +kernel
set_option maxRecDepth 100000 in
theorem la_847 : dm_at 329 847 = some (.iconst 1, 1, []) := by decide +kernel
set_option maxRecDepth 100000 in
theorem la_848 : dm_at 329 848 = some (.iadd, 1, []) := by decide +kernel
set_option maxRecDepth 100000 in
theorem la_849 : dm_at 329 849 = some (.iaload, 1, []) := by decide +kernel
set_option maxRecDepth 100000 in
theorem la_850 : dm_at 329 850 = some (.aload_n 0, 1, []) := by decide +kernel
set_option maxRecDepth 100000 in
theorem la_851 : dm_at 329 851 = some (.iload 4, 2, []) := by decide +kernel
set_option maxRecDepth 100000 in
theorem la_853 : dm_at 329 853 = some (.iconst 2, 1, []) := by decide +kernel
set_option maxRecDepth 100000 in
theorem la_854 : dm_at 329 854 = some (.iadd, 1, []) := by decide +kernel
set_option maxRecDepth 100000 in
theorem la_855 : dm_at 329 855 = some (.iaload, 1, []) := by decide +kernel
set_option maxRecDepth 100000 in
theorem la_856 : dm_at 329 856 = some (.invokevirtual 218, 3, [153, 1, 6179, 6180, 6181, 1008, 6182]) := by decide +kernel
set_option maxRecDepth 100000 in
theorem la_859 : dm_at 329 859 = some (.istore 6, 2, []) := by decide +kernel
set_option maxRecDepth 100000 in
theorem la_861 : dm_at 329 861 = some (.goto 1519, 3, [2380]) := by decide +kernel
set_option maxRecDepth 100000 in
theorem la_864 : dm_at 329 864 = some (.aload_n 1, 1, []) := by decide +kernel
set_option maxRecDepth 100000 in
theorem la_865 : dm_at 329 865 = some (.aload_n 0, 1, []) := by decide +kernel
set_option maxRecDepth 100000 in
theorem la_866 : dm_at 329 866 = some (.iload 4, 2, []) := by decide +kernel
set_option maxRecDepth 100000 in
theorem la_868 : dm_at 329 868 = some (.iconst 1, 1, []) := by decide +kernel
set_option maxRecDepth 100000 in
theorem la_869 : dm_at 329 869 = some (.iadd, 1, []) := by decide +kernel
set_option maxRecDepth 100000 in
theorem la_870 : dm_at 329 870 = some (.iaload, 1, []) := by decide +kernel
set_option maxRecDepth 100000 in
theorem la_871 : dm_at 329 871 = some (.aload_n 0, 1, []) := by decide +kernel
set_option maxRecDepth 100000 in
theorem la_872 : dm_at 329 872 = some (.iload 4, 2, []) := by decide +kernel
set_option maxRecDepth 100000 in
theorem la_874 : dm_at 329 874 = some (.iconst 2, 1, []) := by decide +kernel
set_option maxRecDepth 100000 in
theorem la_875 : dm_at 329 875 = some (.iadd, 1, []) := by decide +kernel
set_option maxRecDepth 100000 in
theorem la_876 : dm_at 329 876 = some (.iaload, 1, []) := by decide +kernel
set_option maxRecDepth 100000 in
theorem la_877 : dm_at 329 877 = some (.aload_n 3, 1, []) := by decide +kernel
set_option maxRecDepth 100000 in
theorem la_878 : dm_at 329 878 = some (.invokestatic 219, 3, [295, 0, 3230, 3231, 1000, 3232]) := by decide +kernel
set_option maxRecDepth 100000 in
theorem la_881 : dm_at 329 881 = some (.istore 5, 2, []) := by decide +kernel
set_option maxRecDepth 100000 in
theorem la_883 : dm_at 329 883 = some (.aload_n 2, 1, []) := by decide +kernel
set_option maxRecDepth 100000 in
theorem la_884 : dm_at 329 884 = some (.aload_n 0, 1, []) := by decide +kernel
set_option maxRecDepth 100000 in
theorem la_885 : dm_at 329 885 = some (.iload 4, 2, []) := by decide +kernel
set_option maxRecDepth 100000 in
theorem la_887 : dm_at 329 887 = some (.iconst 1, 1, []) := by decide +kernel
set_option maxRecDepth 100000 in
theorem la_888 : dm_at 329 888 = some (.iadd, 1, []) := by decide +kernel
set_option maxRecDepth 100000 in
theorem la_889 : dm_at 329 889 = some (.iaload, 1, []) := by decide +kernel
set_option maxRecDepth 100000 in
theorem la_890 : dm_at 329 890 = some (.aload_n 0, 1, []) := by decide +kernel
set_option maxRecDepth 100000 in
theorem la_891 : dm_at 329 891 = some (.iload 4, 2, []) := by decide +kernel
set_option maxRecDepth 100000 in
theorem la_893 : dm_at 329 893 = some (.iconst 2, 1, []) := by decide +kernel
set_option maxRecDepth 100000 in
theorem la_894 : dm_at 329 894 = some (.iadd, 1, []) := by decide +kernel
set_option maxRecDepth 100000 in
theorem la_895 : dm_at 329 895 = some (.iaload, 1, []) := by decide +kernel
set_option maxRecDepth 100000 in
theorem la_896 : dm_at 329 896 = some (.invokevirtual 221, 3, [154, 1, 6183, 6184, 6185, 1008, 6186]) := by decide +kernel
set_option maxRecDepth 100000 in
theorem la_899 : dm_at 329 899 = some (.istore 6, 2, []) := by decide +kernel
set_option maxRecDepth 100000 in
theorem la_901 : dm_at 329 901 = some (.goto 1479, 3, [2380]) := by decide +kernel
set_option maxRecDepth 100000 in
theorem la_904 : dm_at 329 904 = some (.aload_n 1, 1, []) := by decide +kernel
set_option maxRecDepth 100000 in
theorem la_905 : dm_at 329 905 = some (.aload_n 0, 1, []) := by decide +kernel
set_option maxRecDepth 100000 in
theorem la_906 : dm_at 329 906 = some (.iload 4, 2, []) := by decide +kernel
set_option maxRecDepth 100000 in
theorem la_908 : dm_at 329 908 = some (.iconst 1, 1, []) := by decide +kernel
set_option maxRecDepth 100000 in
theorem la_909 : dm_at 329 909 = some (.iadd, 1, []) := by decide +kernel
