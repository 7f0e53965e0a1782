theorem dL_law_0 : decode (mB NM) 0 = .ok (.new 7, 3) := by decide +kernel
theorem dL_law_3 : decode (mB NM) 3 = .ok (.dup, 1) := by decide +kernel
theorem dL_law_4 : decode (mB NM) 4 = .ok (.invokespecial 9, 3) := by decide +kernel
theorem dL_law_7 : decode (mB NM) 7 = .ok (.astore_n 1, 1) := by decide +kernel
theorem dL_law_8 : decode (mB NM) 8 = .ok (.new 10, 3) := by decide +kernel
theorem dL_law_11 : decode (mB NM) 11 = .ok (.dup, 1) := by decide +kernel
theorem dL_law_12 : decode (mB NM) 12 = .ok (.invokespecial 12, 3) := by decide +kernel
theorem dL_law_15 : decode (mB NM) 15 = .ok (.astore_n 2, 1) := by decide +kernel
theorem dL_law_16 : decode (mB NM) 16 = .ok (.iconst 0, 1) := by decide +kernel
theorem dL_law_17 : decode (mB NM) 17 = .ok (.istore_n 3, 1) := by decide +kernel
theorem dL_law_18 : decode (mB NM) 18 = .ok (.iload_n 3, 1) := by decide +kernel
theorem dL_law_19 : decode (mB NM) 19 = .ok (.aload_n 0, 1) := by decide +kernel
theorem dL_law_20 : decode (mB NM) 20 = .ok (.arraylength, 1) := by decide +kernel
theorem dL_law_21 : decode (mB NM) 21 = .ok (.bipush 6, 2) := by decide +kernel
theorem dL_law_23 : decode (mB NM) 23 = .ok (.isub, 1) := by decide +kernel
theorem dL_law_24 : decode (mB NM) 24 = .ok (.if_icmp .gt 1499, 3) := by decide +kernel
theorem dL_law_27 : decode (mB NM) 27 = .ok (.aload_n 0, 1) := by decide +kernel
theorem dL_law_28 : decode (mB NM) 28 = .ok (.iload_n 3, 1) := by decide +kernel
theorem dL_law_29 : decode (mB NM) 29 = .ok (.iaload, 1) := by decide +kernel
theorem dL_law_30 : decode (mB NM) 30 = .ok (.bipush 63, 2) := by decide +kernel
theorem dL_law_32 : decode (mB NM) 32 = .ok (.iand, 1) := by decide +kernel
theorem dL_law_33 : decode (mB NM) 33 = .ok (.tableswitch 1484 0 41 #[183, 206, 239, 282, 325, 358, 381, 394, 417, 460, 503, 547, 581, 615, 628, 641, 664, 708, 741, 784, 817, 850, 863, 906, 949, 982, 1005, 1018, 1041, 1054, 1067, 1080, 1093, 1116, 1159, 1182, 1215, 1258, 1331, 1365, 1428, 1461], 183) := by decide +kernel
theorem dL_law_216 : decode (mB NM) 216 = .ok (.aload_n 1, 1) := by decide +kernel
theorem dL_law_217 : decode (mB NM) 217 = .ok (.aload_n 0, 1) := by decide +kernel
theorem dL_law_218 : decode (mB NM) 218 = .ok (.iload_n 3, 1) := by decide +kernel
theorem dL_law_219 : decode (mB NM) 219 = .ok (.iconst 1, 1) := by decide +kernel
theorem dL_law_220 : decode (mB NM) 220 = .ok (.iadd, 1) := by decide +kernel
theorem dL_law_221 : decode (mB NM) 221 = .ok (.iaload, 1) := by decide +kernel
theorem dL_law_222 : decode (mB NM) 222 = .ok (.invokevirtual 13, 3) := by decide +kernel
theorem dL_law_225 : decode (mB NM) 225 = .ok (.aload_n 2, 1) := by decide +kernel
theorem dL_law_226 : decode (mB NM) 226 = .ok (.aload_n 0, 1) := by decide +kernel
theorem dL_law_227 : decode (mB NM) 227 = .ok (.iload_n 3, 1) := by decide +kernel
theorem dL_law_228 : decode (mB NM) 228 = .ok (.iconst 1, 1) := by decide +kernel
theorem dL_law_229 : decode (mB NM) 229 = .ok (.iadd, 1) := by decide +kernel
theorem dL_law_230 : decode (mB NM) 230 = .ok (.iaload, 1) := by decide +kernel
theorem dL_law_231 : decode (mB NM) 231 = .ok (.invokevirtual 17, 3) := by decide +kernel
theorem dL_law_234 : decode (mB NM) 234 = .ok (.if_icmp .eq 1283, 3) := by decide +kernel
theorem dL_law_237 : decode (mB NM) 237 = .ok (.iconst 0, 1) := by decide +kernel
theorem dL_law_238 : decode (mB NM) 238 = .ok (.ireturn, 1) := by decide +kernel
theorem dL_law_239 : decode (mB NM) 239 = .ok (.aload_n 1, 1) := by decide +kernel
theorem dL_law_240 : decode (mB NM) 240 = .ok (.aload_n 0, 1) := by decide +kernel
theorem dL_law_241 : decode (mB NM) 241 = .ok (.iload_n 3, 1) := by decide +kernel
theorem dL_law_242 : decode (mB NM) 242 = .ok (.iconst 1, 1) := by decide +kernel
theorem dL_law_243 : decode (mB NM) 243 = .ok (.iadd, 1) := by decide +kernel
theorem dL_law_244 : decode (mB NM) 244 = .ok (.iaload, 1) := by decide +kernel
theorem dL_law_245 : decode (mB NM) 245 = .ok (.aload_n 0, 1) := by decide +kernel
theorem dL_law_246 : decode (mB NM) 246 = .ok (.iload_n 3, 1) := by decide +kernel
theorem dL_law_247 : decode (mB NM) 247 = .ok (.iconst 2, 1) := by decide +kernel
theorem dL_law_248 : decode (mB NM) 248 = .ok (.iadd, 1) := by decide +kernel
theorem dL_law_249 : decode (mB NM) 249 = .ok (.iaload, 1) := by decide +kernel
theorem dL_law_250 : decode (mB NM) 250 = .ok (.invokevirtual 18, 3) := by decide +kernel
theorem dL_law_253 : decode (mB NM) 253 = .ok (.aload_n 2, 1) := by decide +kernel
theorem dL_law_254 : decode (mB NM) 254 = .ok (.aload_n 0, 1) := by decide +kernel
theorem dL_law_255 : decode (mB NM) 255 = .ok (.iload_n 3, 1) := by decide +kernel
theorem dL_law_256 : decode (mB NM) 256 = .ok (.iconst 1, 1) := by decide +kernel
theorem dL_law_257 : decode (mB NM) 257 = .ok (.iadd, 1) := by decide +kernel
theorem dL_law_258 : decode (mB NM) 258 = .ok (.iaload, 1) := by decide +kernel
theorem dL_law_259 : decode (mB NM) 259 = .ok (.aload_n 0, 1) := by decide +kernel
theorem dL_law_260 : decode (mB NM) 260 = .ok (.iload_n 3, 1) := by decide +kernel
theorem dL_law_261 : decode (mB NM) 261 = .ok (.iconst 2, 1) := by decide +kernel
theorem dL_law_262 : decode (mB NM) 262 = .ok (.iadd, 1) := by decide +kernel
theorem dL_law_263 : decode (mB NM) 263 = .ok (.iaload, 1) := by decide +kernel
theorem dL_law_264 : decode (mB NM) 264 = .ok (.invokevirtual 22, 3) := by decide +kernel
theorem dL_law_267 : decode (mB NM) 267 = .ok (.if_icmp .eq 1250, 3) := by decide +kernel
theorem dL_law_270 : decode (mB NM) 270 = .ok (.iconst 0, 1) := by decide +kernel
theorem dL_law_271 : decode (mB NM) 271 = .ok (.ireturn, 1) := by decide +kernel
theorem dL_law_272 : decode (mB NM) 272 = .ok (.aload_n 1, 1) := by decide +kernel
theorem dL_law_273 : decode (mB NM) 273 = .ok (.aload_n 0, 1) := by decide +kernel
theorem dL_law_274 : decode (mB NM) 274 = .ok (.iload_n 3, 1) := by decide +kernel
theorem dL_law_275 : decode (mB NM) 275 = .ok (.iconst 1, 1) := by decide +kernel
theorem dL_law_276 : decode (mB NM) 276 = .ok (.iadd, 1) := by decide +kernel
theorem dL_law_277 : decode (mB NM) 277 = .ok (.iaload, 1) := by decide +kernel
theorem dL_law_278 : decode (mB NM) 278 = .ok (.aload_n 0, 1) := by decide +kernel
theorem dL_law_279 : decode (mB NM) 279 = .ok (.iload_n 3, 1) := by decide +kernel
theorem dL_law_280 : decode (mB NM) 280 = .ok (.iconst 2, 1) := by decide +kernel
theorem dL_law_281 : decode (mB NM) 281 = .ok (.iadd, 1) := by decide +kernel
theorem dL_law_282 : decode (mB NM) 282 = .ok (.iaload, 1) := by decide +kernel
theorem dL_law_283 : decode (mB NM) 283 = .ok (.aload_n 0, 1) := by decide +kernel
theorem dL_law_284 : decode (mB NM) 284 = .ok (.iload_n 3, 1) := by decide +kernel
theorem dL_law_285 : decode (mB NM) 285 = .ok (.iconst 3, 1) := by decide +kernel
theorem dL_law_286 : decode (mB NM) 286 = .ok (.iadd, 1) := by decide +kernel
theorem dL_law_287 : decode (mB NM) 287 = .ok (.iaload, 1) := by decide +kernel
theorem dL_law_288 : decode (mB NM) 288 = .ok (.invokevirtual 23, 3) := by decide +kernel
theorem dL_law_291 : decode (mB NM) 291 = .ok (.aload_n 2, 1) := by decide +kernel
theorem dL_law_292 : decode (mB NM) 292 = .ok (.aload_n 0, 1) := by decide +kernel
theorem dL_law_293 : decode (mB NM) 293 = .ok (.iload_n 3, 1) := by decide +kernel
theorem dL_law_294 : decode (mB NM) 294 = .ok (.iconst 1, 1) := by decide +kernel
theorem dL_law_295 : decode (mB NM) 295 = .ok (.iadd, 1) := by decide +kernel
theorem dL_law_296 : decode (mB NM) 296 = .ok (.iaload, 1) := by decide +kernel
theorem dL_law_297 : decode (mB NM) 297 = .ok (.aload_n 0, 1) := by decide +kernel
theorem dL_law_298 : decode (mB NM) 298 = .ok (.iload_n 3, 1) := by decide +kernel
theorem dL_law_299 : decode (mB NM) 299 = .ok (.iconst 2, 1) := by decide +kernel
theorem dL_law_300 : decode (mB NM) 300 = .ok (.iadd, 1) := by decide +kernel
theorem dL_law_301 : decode (mB NM) 301 = .ok (.iaload, 1) := by decide +kernel
theorem dL_law_302 : decode (mB NM) 302 = .ok (.aload_n 0, 1) := by decide +kernel
theorem dL_law_303 : decode (mB NM) 303 = .ok (.iload_n 3, 1) := by decide +kernel
theorem dL_law_304 : decode (mB NM) 304 = .ok (.iconst 3, 1) := by decide +kernel
theorem dL_law_305 : decode (mB NM) 305 = .ok (.iadd, 1) := by decide +kernel
theorem dL_law_306 : decode (mB NM) 306 = .ok (.iaload, 1) := by decide +kernel
theorem dL_law_307 : decode (mB NM) 307 = .ok (.invokevirtual 27, 3) := by decide +kernel
theorem dL_law_310 : decode (mB NM) 310 = .ok (.if_icmp .eq 1207, 3) := by decide +kernel
theorem dL_law_313 : decode (mB NM) 313 = .ok (.iconst 0, 1) := by decide +kernel
theorem dL_law_314 : decode (mB NM) 314 = .ok (.ireturn, 1) := by decide +kernel
theorem dL_law_315 : decode (mB NM) 315 = .ok (.aload_n 1, 1) := by decide +kernel
theorem dL_law_316 : decode (mB NM) 316 = .ok (.aload_n 0, 1) := by decide +kernel
theorem dL_law_317 : decode (mB NM) 317 = .ok (.iload_n 3, 1) := by decide +kernel
theorem dL_law_318 : decode (mB NM) 318 = .ok (.iconst 1, 1) := by decide +kernel
theorem dL_law_319 : decode (mB NM) 319 = .ok (.iadd, 1) := by decide +kernel
theorem dL_law_320 : decode (mB NM) 320 = .ok (.iaload, 1) := by decide +kernel
theorem dL_law_321 : decode (mB NM) 321 = .ok (.aload_n 0, 1) := by decide +kernel
theorem dL_law_322 : decode (mB NM) 322 = .ok (.iload_n 3, 1) := by decide +kernel
theorem dL_law_323 : decode (mB NM) 323 = .ok (.iconst 2, 1) := by decide +kernel
theorem dL_law_324 : decode (mB NM) 324 = .ok (.iadd, 1) := by decide +kernel
theorem dL_law_325 : decode (mB NM) 325 = .ok (.iaload, 1) := by decide +kernel
theorem dL_law_326 : decode (mB NM) 326 = .ok (.aload_n 0, 1) := by decide +kernel
theorem dL_law_327 : decode (mB NM) 327 = .ok (.iload_n 3, 1) := by decide +kernel
theorem dL_law_328 : decode (mB NM) 328 = .ok (.iconst 3, 1) := by decide +kernel
theorem dL_law_329 : decode (mB NM) 329 = .ok (.iadd, 1) := by decide +kernel
theorem dL_law_330 : decode (mB NM) 330 = .ok (.iaload, 1) := by decide +kernel
theorem dL_law_331 : decode (mB NM) 331 = .ok (.invokevirtual 28, 3) := by decide +kernel
theorem dL_law_334 : decode (mB NM) 334 = .ok (.aload_n 2, 1) := by decide +kernel
theorem dL_law_335 : decode (mB NM) 335 = .ok (.aload_n 0, 1) := by decide +kernel
theorem dL_law_336 : decode (mB NM) 336 = .ok (.iload_n 3, 1) := by decide +kernel
theorem dL_law_337 : decode (mB NM) 337 = .ok (.iconst 1, 1) := by decide +kernel
theorem dL_law_338 : decode (mB NM) 338 = .ok (.iadd, 1) := by decide +kernel
theorem dL_law_339 : decode (mB NM) 339 = .ok (.iaload, 1) := by decide +kernel
theorem dL_law_340 : decode (mB NM) 340 = .ok (.aload_n 0, 1) := by decide +kernel
theorem dL_law_341 : decode (mB NM) 341 = .ok (.iload_n 3, 1) := by decide +kernel
theorem dL_law_342 : decode (mB NM) 342 = .ok (.iconst 2, 1) := by decide +kernel
theorem dL_law_343 : decode (mB NM) 343 = .ok (.iadd, 1) := by decide +kernel
theorem dL_law_344 : decode (mB NM) 344 = .ok (.iaload, 1) := by decide +kernel
theorem dL_law_345 : decode (mB NM) 345 = .ok (.aload_n 0, 1) := by decide +kernel
theorem dL_law_346 : decode (mB NM) 346 = .ok (.iload_n 3, 1) := by decide +kernel
theorem dL_law_347 : decode (mB NM) 347 = .ok (.iconst 3, 1) := by decide +kernel
theorem dL_law_348 : decode (mB NM) 348 = .ok (.iadd, 1) := by decide +kernel
theorem dL_law_349 : decode (mB NM) 349 = .ok (.iaload, 1) := by decide +kernel
theorem dL_law_350 : decode (mB NM) 350 = .ok (.invokevirtual 31, 3) := by decide +kernel
theorem dL_law_353 : decode (mB NM) 353 = .ok (.if_icmp .eq 1164, 3) := by decide +kernel
theorem dL_law_356 : decode (mB NM) 356 = .ok (.iconst 0, 1) := by decide +kernel
theorem dL_law_357 : decode (mB NM) 357 = .ok (.ireturn, 1) := by decide +kernel
theorem dL_law_358 : decode (mB NM) 358 = .ok (.aload_n 1, 1) := by decide +kernel
theorem dL_law_359 : decode (mB NM) 359 = .ok (.aload_n 0, 1) := by decide +kernel
theorem dL_law_360 : decode (mB NM) 360 = .ok (.iload_n 3, 1) := by decide +kernel
theorem dL_law_361 : decode (mB NM) 361 = .ok (.iconst 1, 1) := by decide +kernel
theorem dL_law_362 : decode (mB NM) 362 = .ok (.iadd, 1) := by decide +kernel
theorem dL_law_363 : decode (mB NM) 363 = .ok (.iaload, 1) := by decide +kernel
theorem dL_law_364 : decode (mB NM) 364 = .ok (.aload_n 0, 1) := by decide +kernel
theorem dL_law_365 : decode (mB NM) 365 = .ok (.iload_n 3, 1) := by decide +kernel
theorem dL_law_366 : decode (mB NM) 366 = .ok (.iconst 2, 1) := by decide +kernel
theorem dL_law_367 : decode (mB NM) 367 = .ok (.iadd, 1) := by decide +kernel
theorem dL_law_368 : decode (mB NM) 368 = .ok (.iaload, 1) := by decide +kernel
theorem dL_law_369 : decode (mB NM) 369 = .ok (.invokevirtual 32, 3) := by decide +kernel
theorem dL_law_372 : decode (mB NM) 372 = .ok (.aload_n 2, 1) := by decide +kernel
theorem dL_law_373 : decode (mB NM) 373 = .ok (.aload_n 0, 1) := by decide +kernel
theorem dL_law_374 : decode (mB NM) 374 = .ok (.iload_n 3, 1) := by decide +kernel
theorem dL_law_375 : decode (mB NM) 375 = .ok (.iconst 1, 1) := by decide +kernel
theorem dL_law_376 : decode (mB NM) 376 = .ok (.iadd, 1) := by decide +kernel
theorem dL_law_377 : decode (mB NM) 377 = .ok (.iaload, 1) := by decide +kernel
theorem dL_law_378 : decode (mB NM) 378 = .ok (.aload_n 0, 1) := by decide +kernel
theorem dL_law_379 : decode (mB NM) 379 = .ok (.iload_n 3, 1) := by decide +kernel
theorem dL_law_380 : decode (mB NM) 380 = .ok (.iconst 2, 1) := by decide +kernel
theorem dL_law_381 : decode (mB NM) 381 = .ok (.iadd, 1) := by decide +kernel
theorem dL_law_382 : decode (mB NM) 382 = .ok (.iaload, 1) := by decide +kernel
theorem dL_law_383 : decode (mB NM) 383 = .ok (.invokevirtual 35, 3) := by decide +kernel
theorem dL_law_386 : decode (mB NM) 386 = .ok (.if_icmp .eq 1131, 3) := by decide +kernel
theorem dL_law_389 : decode (mB NM) 389 = .ok (.iconst 0, 1) := by decide +kernel
theorem dL_law_390 : decode (mB NM) 390 = .ok (.ireturn, 1) := by decide +kernel
theorem dL_law_391 : decode (mB NM) 391 = .ok (.aload_n 1, 1) := by decide +kernel
theorem dL_law_392 : decode (mB NM) 392 = .ok (.aload_n 0, 1) := by decide +kernel
theorem dL_law_393 : decode (mB NM) 393 = .ok (.iload_n 3, 1) := by decide +kernel
theorem dL_law_394 : decode (mB NM) 394 = .ok (.iconst 1, 1) := by decide +kernel
theorem dL_law_395 : decode (mB NM) 395 = .ok (.iadd, 1) := by decide +kernel
theorem dL_law_396 : decode (mB NM) 396 = .ok (.iaload, 1) := by decide +kernel
theorem dL_law_397 : decode (mB NM) 397 = .ok (.invokevirtual 36, 3) := by decide +kernel
theorem dL_law_400 : decode (mB NM) 400 = .ok (.aload_n 2, 1) := by decide +kernel
theorem dL_law_401 : decode (mB NM) 401 = .ok (.aload_n 0, 1) := by decide +kernel
theorem dL_law_402 : decode (mB NM) 402 = .ok (.iload_n 3, 1) := by decide +kernel
theorem dL_law_403 : decode (mB NM) 403 = .ok (.iconst 1, 1) := by decide +kernel
theorem dL_law_404 : decode (mB NM) 404 = .ok (.iadd, 1) := by decide +kernel
theorem dL_law_405 : decode (mB NM) 405 = .ok (.iaload, 1) := by decide +kernel
theorem dL_law_406 : decode (mB NM) 406 = .ok (.invokevirtual 39, 3) := by decide +kernel
theorem dL_law_409 : decode (mB NM) 409 = .ok (.if_icmp .eq 1108, 3) := by decide +kernel
theorem dL_law_412 : decode (mB NM) 412 = .ok (.iconst 0, 1) := by decide +kernel
theorem dL_law_413 : decode (mB NM) 413 = .ok (.ireturn, 1) := by decide +kernel
theorem dL_law_414 : decode (mB NM) 414 = .ok (.aload_n 1, 1) := by decide +kernel
theorem dL_law_415 : decode (mB NM) 415 = .ok (.invokevirtual 40, 3) := by decide +kernel
theorem dL_law_418 : decode (mB NM) 418 = .ok (.aload_n 2, 1) := by decide +kernel
theorem dL_law_419 : decode (mB NM) 419 = .ok (.invokevirtual 44, 3) := by decide +kernel
theorem dL_law_422 : decode (mB NM) 422 = .ok (.if_icmp .eq 1095, 3) := by decide +kernel
theorem dL_law_425 : decode (mB NM) 425 = .ok (.iconst 0, 1) := by decide +kernel
theorem dL_law_426 : decode (mB NM) 426 = .ok (.ireturn, 1) := by decide +kernel
theorem dL_law_427 : decode (mB NM) 427 = .ok (.aload_n 1, 1) := by decide +kernel
theorem dL_law_428 : decode (mB NM) 428 = .ok (.aload_n 0, 1) := by decide +kernel
theorem dL_law_429 : decode (mB NM) 429 = .ok (.iload_n 3, 1) := by decide +kernel
theorem dL_law_430 : decode (mB NM) 430 = .ok (.iconst 1, 1) := by decide +kernel
theorem dL_law_431 : decode (mB NM) 431 = .ok (.iadd, 1) := by decide +kernel
theorem dL_law_432 : decode (mB NM) 432 = .ok (.iaload, 1) := by decide +kernel
theorem dL_law_433 : decode (mB NM) 433 = .ok (.invokevirtual 45, 3) := by decide +kernel
theorem dL_law_436 : decode (mB NM) 436 = .ok (.aload_n 2, 1) := by decide +kernel
theorem dL_law_437 : decode (mB NM) 437 = .ok (.aload_n 0, 1) := by decide +kernel
theorem dL_law_438 : decode (mB NM) 438 = .ok (.iload_n 3, 1) := by decide +kernel
theorem dL_law_439 : decode (mB NM) 439 = .ok (.iconst 1, 1) := by decide +kernel
theorem dL_law_440 : decode (mB NM) 440 = .ok (.iadd, 1) := by decide +kernel
theorem dL_law_441 : decode (mB NM) 441 = .ok (.iaload, 1) := by decide +kernel
theorem dL_law_442 : decode (mB NM) 442 = .ok (.invokevirtual 48, 3) := by decide +kernel
theorem dL_law_445 : decode (mB NM) 445 = .ok (.if_icmp .eq 1072, 3) := by decide +kernel
theorem dL_law_448 : decode (mB NM) 448 = .ok (.iconst 0, 1) := by decide +kernel
theorem dL_law_449 : decode (mB NM) 449 = .ok (.ireturn, 1) := by decide +kernel
theorem dL_law_450 : decode (mB NM) 450 = .ok (.aload_n 1, 1) := by decide +kernel
theorem dL_law_451 : decode (mB NM) 451 = .ok (.aload_n 0, 1) := by decide +kernel
theorem dL_law_452 : decode (mB NM) 452 = .ok (.iload_n 3, 1) := by decide +kernel
theorem dL_law_453 : decode (mB NM) 453 = .ok (.iconst 1, 1) := by decide +kernel
theorem dL_law_454 : decode (mB NM) 454 = .ok (.iadd, 1) := by decide +kernel
theorem dL_law_455 : decode (mB NM) 455 = .ok (.iaload, 1) := by decide +kernel
theorem dL_law_456 : decode (mB NM) 456 = .ok (.aload_n 0, 1) := by decide +kernel
theorem dL_law_457 : decode (mB NM) 457 = .ok (.iload_n 3, 1) := by decide +kernel
theorem dL_law_458 : decode (mB NM) 458 = .ok (.iconst 2, 1) := by decide +kernel
theorem dL_law_459 : decode (mB NM) 459 = .ok (.iadd, 1) := by decide +kernel
theorem dL_law_460 : decode (mB NM) 460 = .ok (.iaload, 1) := by decide +kernel
theorem dL_law_461 : decode (mB NM) 461 = .ok (.aload_n 0, 1) := by decide +kernel
theorem dL_law_462 : decode (mB NM) 462 = .ok (.iload_n 3, 1) := by decide +kernel
theorem dL_law_463 : decode (mB NM) 463 = .ok (.iconst 3, 1) := by decide +kernel
theorem dL_law_464 : decode (mB NM) 464 = .ok (.iadd, 1) := by decide +kernel
theorem dL_law_465 : decode (mB NM) 465 = .ok (.iaload, 1) := by decide +kernel
theorem dL_law_466 : decode (mB NM) 466 = .ok (.invokevirtual 49, 3) := by decide +kernel
theorem dL_law_469 : decode (mB NM) 469 = .ok (.aload_n 2, 1) := by decide +kernel
theorem dL_law_470 : decode (mB NM) 470 = .ok (.aload_n 0, 1) := by decide +kernel
theorem dL_law_471 : decode (mB NM) 471 = .ok (.iload_n 3, 1) := by decide +kernel
theorem dL_law_472 : decode (mB NM) 472 = .ok (.iconst 1, 1) := by decide +kernel
theorem dL_law_473 : decode (mB NM) 473 = .ok (.iadd, 1) := by decide +kernel
theorem dL_law_474 : decode (mB NM) 474 = .ok (.iaload, 1) := by decide +kernel
theorem dL_law_475 : decode (mB NM) 475 = .ok (.aload_n 0, 1) := by decide +kernel
theorem dL_law_476 : decode (mB NM) 476 = .ok (.iload_n 3, 1) := by decide +kernel
theorem dL_law_477 : decode (mB NM) 477 = .ok (.iconst 2, 1) := by decide +kernel
theorem dL_law_478 : decode (mB NM) 478 = .ok (.iadd, 1) := by decide +kernel
theorem dL_law_479 : decode (mB NM) 479 = .ok (.iaload, 1) := by decide +kernel
theorem dL_law_480 : decode (mB NM) 480 = .ok (.aload_n 0, 1) := by decide +kernel
theorem dL_law_481 : decode (mB NM) 481 = .ok (.iload_n 3, 1) := by decide +kernel
theorem dL_law_482 : decode (mB NM) 482 = .ok (.iconst 3, 1) := by decide +kernel
theorem dL_law_483 : decode (mB NM) 483 = .ok (.iadd, 1) := by decide +kernel
theorem dL_law_484 : decode (mB NM) 484 = .ok (.iaload, 1) := by decide +kernel
theorem dL_law_485 : decode (mB NM) 485 = .ok (.invokevirtual 52, 3) := by decide +kernel
theorem dL_law_488 : decode (mB NM) 488 = .ok (.if_icmp .eq 1029, 3) := by decide +kernel
theorem dL_law_491 : decode (mB NM) 491 = .ok (.iconst 0, 1) := by decide +kernel
theorem dL_law_492 : decode (mB NM) 492 = .ok (.ireturn, 1) := by decide +kernel
theorem dL_law_493 : decode (mB NM) 493 = .ok (.aload_n 1, 1) := by decide +kernel
theorem dL_law_494 : decode (mB NM) 494 = .ok (.aload_n 0, 1) := by decide +kernel
theorem dL_law_495 : decode (mB NM) 495 = .ok (.iload_n 3, 1) := by decide +kernel
theorem dL_law_496 : decode (mB NM) 496 = .ok (.iconst 1, 1) := by decide +kernel
theorem dL_law_497 : decode (mB NM) 497 = .ok (.iadd, 1) := by decide +kernel
theorem dL_law_498 : decode (mB NM) 498 = .ok (.iaload, 1) := by decide +kernel
theorem dL_law_499 : decode (mB NM) 499 = .ok (.aload_n 0, 1) := by decide +kernel
theorem dL_law_500 : decode (mB NM) 500 = .ok (.iload_n 3, 1) := by decide +kernel
theorem dL_law_501 : decode (mB NM) 501 = .ok (.iconst 2, 1) := by decide +kernel
theorem dL_law_502 : decode (mB NM) 502 = .ok (.iadd, 1) := by decide +kernel
theorem dL_law_503 : decode (mB NM) 503 = .ok (.iaload, 1) := by decide +kernel
theorem dL_law_504 : decode (mB NM) 504 = .ok (.aload_n 0, 1) := by decide +kernel
theorem dL_law_505 : decode (mB NM) 505 = .ok (.iload_n 3, 1) := by decide +kernel
theorem dL_law_506 : decode (mB NM) 506 = .ok (.iconst 3, 1) := by decide +kernel
theorem dL_law_507 : decode (mB NM) 507 = .ok (.iadd, 1) := by decide +kernel
theorem dL_law_508 : decode (mB NM) 508 = .ok (.iaload, 1) := by decide +kernel
theorem dL_law_509 : decode (mB NM) 509 = .ok (.invokevirtual 53, 3) := by decide +kernel
theorem dL_law_512 : decode (mB NM) 512 = .ok (.aload_n 2, 1) := by decide +kernel
theorem dL_law_513 : decode (mB NM) 513 = .ok (.aload_n 0, 1) := by decide +kernel
theorem dL_law_514 : decode (mB NM) 514 = .ok (.iload_n 3, 1) := by decide +kernel
theorem dL_law_515 : decode (mB NM) 515 = .ok (.iconst 1, 1) := by decide +kernel
theorem dL_law_516 : decode (mB NM) 516 = .ok (.iadd, 1) := by decide +kernel
theorem dL_law_517 : decode (mB NM) 517 = .ok (.iaload, 1) := by decide +kernel
theorem dL_law_518 : decode (mB NM) 518 = .ok (.aload_n 0, 1) := by decide +kernel
theorem dL_law_519 : decode (mB NM) 519 = .ok (.iload_n 3, 1) := by decide +kernel
theorem dL_law_520 : decode (mB NM) 520 = .ok (.iconst 2, 1) := by decide +kernel
theorem dL_law_521 : decode (mB NM) 521 = .ok (.iadd, 1) := by decide +kernel
theorem dL_law_522 : decode (mB NM) 522 = .ok (.iaload, 1) := by decide +kernel
theorem dL_law_523 : decode (mB NM) 523 = .ok (.aload_n 0, 1) := by decide +kernel
theorem dL_law_524 : decode (mB NM) 524 = .ok (.iload_n 3, 1) := by decide +kernel
theorem dL_law_525 : decode (mB NM) 525 = .ok (.iconst 3, 1) := by decide +kernel
theorem dL_law_526 : decode (mB NM) 526 = .ok (.iadd, 1) := by decide +kernel
theorem dL_law_527 : decode (mB NM) 527 = .ok (.iaload, 1) := by decide +kernel
theorem dL_law_528 : decode (mB NM) 528 = .ok (.invokevirtual 56, 3) := by decide +kernel
theorem dL_law_531 : decode (mB NM) 531 = .ok (.if_icmp .eq 986, 3) := by decide +kernel
theorem dL_law_534 : decode (mB NM) 534 = .ok (.iconst 0, 1) := by decide +kernel
theorem dL_law_535 : decode (mB NM) 535 = .ok (.ireturn, 1) := by decide +kernel
theorem dL_law_536 : decode (mB NM) 536 = .ok (.aload_n 1, 1) := by decide +kernel
theorem dL_law_537 : decode (mB NM) 537 = .ok (.aload_n 0, 1) := by decide +kernel
theorem dL_law_538 : decode (mB NM) 538 = .ok (.iload_n 3, 1) := by decide +kernel
theorem dL_law_539 : decode (mB NM) 539 = .ok (.iconst 1, 1) := by decide +kernel
theorem dL_law_540 : decode (mB NM) 540 = .ok (.iadd, 1) := by decide +kernel
theorem dL_law_541 : decode (mB NM) 541 = .ok (.iaload, 1) := by decide +kernel
theorem dL_law_542 : decode (mB NM) 542 = .ok (.aload_n 0, 1) := by decide +kernel
theorem dL_law_543 : decode (mB NM) 543 = .ok (.iload_n 3, 1) := by decide +kernel
theorem dL_law_544 : decode (mB NM) 544 = .ok (.iconst 2, 1) := by decide +kernel
theorem dL_law_545 : decode (mB NM) 545 = .ok (.iadd, 1) := by decide +kernel
theorem dL_law_546 : decode (mB NM) 546 = .ok (.iaload, 1) := by decide +kernel
theorem dL_law_547 : decode (mB NM) 547 = .ok (.aload_n 0, 1) := by decide +kernel
theorem dL_law_548 : decode (mB NM) 548 = .ok (.iload_n 3, 1) := by decide +kernel
theorem dL_law_549 : decode (mB NM) 549 = .ok (.iconst 3, 1) := by decide +kernel
theorem dL_law_550 : decode (mB NM) 550 = .ok (.iadd, 1) := by decide +kernel
theorem dL_law_551 : decode (mB NM) 551 = .ok (.iaload, 1) := by decide +kernel
theorem dL_law_552 : decode (mB NM) 552 = .ok (.invokevirtual 57, 3) := by decide +kernel
theorem dL_law_555 : decode (mB NM) 555 = .ok (.aload_n 2, 1) := by decide +kernel
theorem dL_law_556 : decode (mB NM) 556 = .ok (.aload_n 0, 1) := by decide +kernel
theorem dL_law_557 : decode (mB NM) 557 = .ok (.iload_n 3, 1) := by decide +kernel
theorem dL_law_558 : decode (mB NM) 558 = .ok (.iconst 1, 1) := by decide +kernel
theorem dL_law_559 : decode (mB NM) 559 = .ok (.iadd, 1) := by decide +kernel
theorem dL_law_560 : decode (mB NM) 560 = .ok (.iaload, 1) := by decide +kernel
theorem dL_law_561 : decode (mB NM) 561 = .ok (.aload_n 0, 1) := by decide +kernel
theorem dL_law_562 : decode (mB NM) 562 = .ok (.iload_n 3, 1) := by decide +kernel
theorem dL_law_563 : decode (mB NM) 563 = .ok (.iconst 2, 1) := by decide +kernel
theorem dL_law_564 : decode (mB NM) 564 = .ok (.iadd, 1) := by decide +kernel
theorem dL_law_565 : decode (mB NM) 565 = .ok (.iaload, 1) := by decide +kernel
theorem dL_law_566 : decode (mB NM) 566 = .ok (.aload_n 0, 1) := by decide +kernel
theorem dL_law_567 : decode (mB NM) 567 = .ok (.iload_n 3, 1) := by decide +kernel
theorem dL_law_568 : decode (mB NM) 568 = .ok (.iconst 3, 1) := by decide +kernel
theorem dL_law_569 : decode (mB NM) 569 = .ok (.iadd, 1) := by decide +kernel
theorem dL_law_570 : decode (mB NM) 570 = .ok (.iaload, 1) := by decide +kernel
theorem dL_law_571 : decode (mB NM) 571 = .ok (.invokevirtual 61, 3) := by decide +kernel
theorem dL_law_574 : decode (mB NM) 574 = .ok (.lcmp, 1) := by decide +kernel
theorem dL_law_575 : decode (mB NM) 575 = .ok (.ifCond .eq 942, 3) := by decide +kernel
theorem dL_law_578 : decode (mB NM) 578 = .ok (.iconst 0, 1) := by decide +kernel
theorem dL_law_579 : decode (mB NM) 579 = .ok (.ireturn, 1) := by decide +kernel
theorem dL_law_580 : decode (mB NM) 580 = .ok (.aload_n 1, 1) := by decide +kernel
theorem dL_law_581 : decode (mB NM) 581 = .ok (.aload_n 0, 1) := by decide +kernel
theorem dL_law_582 : decode (mB NM) 582 = .ok (.iload_n 3, 1) := by decide +kernel
theorem dL_law_583 : decode (mB NM) 583 = .ok (.iconst 1, 1) := by decide +kernel
theorem dL_law_584 : decode (mB NM) 584 = .ok (.iadd, 1) := by decide +kernel
theorem dL_law_585 : decode (mB NM) 585 = .ok (.iaload, 1) := by decide +kernel
theorem dL_law_586 : decode (mB NM) 586 = .ok (.aload_n 0, 1) := by decide +kernel
theorem dL_law_587 : decode (mB NM) 587 = .ok (.iload_n 3, 1) := by decide +kernel
theorem dL_law_588 : decode (mB NM) 588 = .ok (.iconst 2, 1) := by decide +kernel
theorem dL_law_589 : decode (mB NM) 589 = .ok (.iadd, 1) := by decide +kernel
theorem dL_law_590 : decode (mB NM) 590 = .ok (.iaload, 1) := by decide +kernel
theorem dL_law_591 : decode (mB NM) 591 = .ok (.invokevirtual 62, 3) := by decide +kernel
theorem dL_law_594 : decode (mB NM) 594 = .ok (.aload_n 2, 1) := by decide +kernel
theorem dL_law_595 : decode (mB NM) 595 = .ok (.aload_n 0, 1) := by decide +kernel
theorem dL_law_596 : decode (mB NM) 596 = .ok (.iload_n 3, 1) := by decide +kernel
theorem dL_law_597 : decode (mB NM) 597 = .ok (.iconst 1, 1) := by decide +kernel
theorem dL_law_598 : decode (mB NM) 598 = .ok (.iadd, 1) := by decide +kernel
theorem dL_law_599 : decode (mB NM) 599 = .ok (.iaload, 1) := by decide +kernel
theorem dL_law_600 : decode (mB NM) 600 = .ok (.aload_n 0, 1) := by decide +kernel
theorem dL_law_601 : decode (mB NM) 601 = .ok (.iload_n 3, 1) := by decide +kernel
theorem dL_law_602 : decode (mB NM) 602 = .ok (.iconst 2, 1) := by decide +kernel
theorem dL_law_603 : decode (mB NM) 603 = .ok (.iadd, 1) := by decide +kernel
theorem dL_law_604 : decode (mB NM) 604 = .ok (.iaload, 1) := by decide +kernel
theorem dL_law_605 : decode (mB NM) 605 = .ok (.invokevirtual 66, 3) := by decide +kernel
theorem dL_law_608 : decode (mB NM) 608 = .ok (.lcmp, 1) := by decide +kernel
theorem dL_law_609 : decode (mB NM) 609 = .ok (.ifCond .eq 908, 3) := by decide +kernel
theorem dL_law_612 : decode (mB NM) 612 = .ok (.iconst 0, 1) := by decide +kernel
theorem dL_law_613 : decode (mB NM) 613 = .ok (.ireturn, 1) := by decide +kernel
theorem dL_law_614 : decode (mB NM) 614 = .ok (.aload_n 1, 1) := by decide +kernel
theorem dL_law_615 : decode (mB NM) 615 = .ok (.aload_n 0, 1) := by decide +kernel
theorem dL_law_616 : decode (mB NM) 616 = .ok (.iload_n 3, 1) := by decide +kernel
theorem dL_law_617 : decode (mB NM) 617 = .ok (.iconst 1, 1) := by decide +kernel
theorem dL_law_618 : decode (mB NM) 618 = .ok (.iadd, 1) := by decide +kernel
theorem dL_law_619 : decode (mB NM) 619 = .ok (.iaload, 1) := by decide +kernel
theorem dL_law_620 : decode (mB NM) 620 = .ok (.aload_n 0, 1) := by decide +kernel
theorem dL_law_621 : decode (mB NM) 621 = .ok (.iload_n 3, 1) := by decide +kernel
theorem dL_law_622 : decode (mB NM) 622 = .ok (.iconst 2, 1) := by decide +kernel
theorem dL_law_623 : decode (mB NM) 623 = .ok (.iadd, 1) := by decide +kernel
theorem dL_law_624 : decode (mB NM) 624 = .ok (.iaload, 1) := by decide +kernel
theorem dL_law_625 : decode (mB NM) 625 = .ok (.invokevirtual 67, 3) := by decide +kernel
theorem dL_law_628 : decode (mB NM) 628 = .ok (.aload_n 2, 1) := by decide +kernel
theorem dL_law_629 : decode (mB NM) 629 = .ok (.aload_n 0, 1) := by decide +kernel
theorem dL_law_630 : decode (mB NM) 630 = .ok (.iload_n 3, 1) := by decide +kernel
theorem dL_law_631 : decode (mB NM) 631 = .ok (.iconst 1, 1) := by decide +kernel
theorem dL_law_632 : decode (mB NM) 632 = .ok (.iadd, 1) := by decide +kernel
theorem dL_law_633 : decode (mB NM) 633 = .ok (.iaload, 1) := by decide +kernel
theorem dL_law_634 : decode (mB NM) 634 = .ok (.aload_n 0, 1) := by decide +kernel
theorem dL_law_635 : decode (mB NM) 635 = .ok (.iload_n 3, 1) := by decide +kernel
theorem dL_law_636 : decode (mB NM) 636 = .ok (.iconst 2, 1) := by decide +kernel
theorem dL_law_637 : decode (mB NM) 637 = .ok (.iadd, 1) := by decide +kernel
theorem dL_law_638 : decode (mB NM) 638 = .ok (.iaload, 1) := by decide +kernel
theorem dL_law_639 : decode (mB NM) 639 = .ok (.invokevirtual 70, 3) := by decide +kernel
theorem dL_law_642 : decode (mB NM) 642 = .ok (.lcmp, 1) := by decide +kernel
theorem dL_law_643 : decode (mB NM) 643 = .ok (.ifCond .eq 874, 3) := by decide +kernel
theorem dL_law_646 : decode (mB NM) 646 = .ok (.iconst 0, 1) := by decide +kernel
theorem dL_law_647 : decode (mB NM) 647 = .ok (.ireturn, 1) := by decide +kernel
theorem dL_law_648 : decode (mB NM) 648 = .ok (.aload_n 1, 1) := by decide +kernel
theorem dL_law_649 : decode (mB NM) 649 = .ok (.invokevirtual 71, 3) := by decide +kernel
theorem dL_law_652 : decode (mB NM) 652 = .ok (.aload_n 2, 1) := by decide +kernel
theorem dL_law_653 : decode (mB NM) 653 = .ok (.invokevirtual 74, 3) := by decide +kernel
theorem dL_law_656 : decode (mB NM) 656 = .ok (.if_icmp .eq 861, 3) := by decide +kernel
theorem dL_law_659 : decode (mB NM) 659 = .ok (.iconst 0, 1) := by decide +kernel
theorem dL_law_660 : decode (mB NM) 660 = .ok (.ireturn, 1) := by decide +kernel
theorem dL_law_661 : decode (mB NM) 661 = .ok (.aload_n 1, 1) := by decide +kernel
theorem dL_law_662 : decode (mB NM) 662 = .ok (.invokevirtual 75, 3) := by decide +kernel
theorem dL_law_665 : decode (mB NM) 665 = .ok (.aload_n 2, 1) := by decide +kernel
theorem dL_law_666 : decode (mB NM) 666 = .ok (.invokevirtual 78, 3) := by decide +kernel
theorem dL_law_669 : decode (mB NM) 669 = .ok (.if_icmp .eq 848, 3) := by decide +kernel
theorem dL_law_672 : decode (mB NM) 672 = .ok (.iconst 0, 1) := by decide +kernel
theorem dL_law_673 : decode (mB NM) 673 = .ok (.ireturn, 1) := by decide +kernel
theorem dL_law_674 : decode (mB NM) 674 = .ok (.aload_n 1, 1) := by decide +kernel
theorem dL_law_675 : decode (mB NM) 675 = .ok (.aload_n 0, 1) := by decide +kernel
theorem dL_law_676 : decode (mB NM) 676 = .ok (.iload_n 3, 1) := by decide +kernel
theorem dL_law_677 : decode (mB NM) 677 = .ok (.iconst 1, 1) := by decide +kernel
theorem dL_law_678 : decode (mB NM) 678 = .ok (.iadd, 1) := by decide +kernel
theorem dL_law_679 : decode (mB NM) 679 = .ok (.iaload, 1) := by decide +kernel
theorem dL_law_680 : decode (mB NM) 680 = .ok (.invokevirtual 79, 3) := by decide +kernel
theorem dL_law_683 : decode (mB NM) 683 = .ok (.aload_n 2, 1) := by decide +kernel
theorem dL_law_684 : decode (mB NM) 684 = .ok (.aload_n 0, 1) := by decide +kernel
theorem dL_law_685 : decode (mB NM) 685 = .ok (.iload_n 3, 1) := by decide +kernel
theorem dL_law_686 : decode (mB NM) 686 = .ok (.iconst 1, 1) := by decide +kernel
theorem dL_law_687 : decode (mB NM) 687 = .ok (.iadd, 1) := by decide +kernel
theorem dL_law_688 : decode (mB NM) 688 = .ok (.iaload, 1) := by decide +kernel
theorem dL_law_689 : decode (mB NM) 689 = .ok (.invokevirtual 82, 3) := by decide +kernel
theorem dL_law_692 : decode (mB NM) 692 = .ok (.if_icmp .eq 825, 3) := by decide +kernel
theorem dL_law_695 : decode (mB NM) 695 = .ok (.iconst 0, 1) := by decide +kernel
theorem dL_law_696 : decode (mB NM) 696 = .ok (.ireturn, 1) := by decide +kernel
theorem dL_law_697 : decode (mB NM) 697 = .ok (.aload_n 1, 1) := by decide +kernel
theorem dL_law_698 : decode (mB NM) 698 = .ok (.aload_n 0, 1) := by decide +kernel
theorem dL_law_699 : decode (mB NM) 699 = .ok (.iload_n 3, 1) := by decide +kernel
theorem dL_law_700 : decode (mB NM) 700 = .ok (.iconst 1, 1) := by decide +kernel
theorem dL_law_701 : decode (mB NM) 701 = .ok (.iadd, 1) := by decide +kernel
theorem dL_law_702 : decode (mB NM) 702 = .ok (.iaload, 1) := by decide +kernel
theorem dL_law_703 : decode (mB NM) 703 = .ok (.aload_n 0, 1) := by decide +kernel
theorem dL_law_704 : decode (mB NM) 704 = .ok (.iload_n 3, 1) := by decide +kernel
theorem dL_law_705 : decode (mB NM) 705 = .ok (.iconst 2, 1) := by decide +kernel
theorem dL_law_706 : decode (mB NM) 706 = .ok (.iadd, 1) := by decide +kernel
theorem dL_law_707 : decode (mB NM) 707 = .ok (.iaload, 1) := by decide +kernel
theorem dL_law_708 : decode (mB NM) 708 = .ok (.aload_n 0, 1) := by decide +kernel
theorem dL_law_709 : decode (mB NM) 709 = .ok (.iload_n 3, 1) := by decide +kernel
theorem dL_law_710 : decode (mB NM) 710 = .ok (.iconst 3, 1) := by decide +kernel
theorem dL_law_711 : decode (mB NM) 711 = .ok (.iadd, 1) := by decide +kernel
theorem dL_law_712 : decode (mB NM) 712 = .ok (.iaload, 1) := by decide +kernel
theorem dL_law_713 : decode (mB NM) 713 = .ok (.invokevirtual 83, 3) := by decide +kernel
theorem dL_law_716 : decode (mB NM) 716 = .ok (.aload_n 2, 1) := by decide +kernel
theorem dL_law_717 : decode (mB NM) 717 = .ok (.aload_n 0, 1) := by decide +kernel
theorem dL_law_718 : decode (mB NM) 718 = .ok (.iload_n 3, 1) := by decide +kernel
theorem dL_law_719 : decode (mB NM) 719 = .ok (.iconst 1, 1) := by decide +kernel
theorem dL_law_720 : decode (mB NM) 720 = .ok (.iadd, 1) := by decide +kernel
theorem dL_law_721 : decode (mB NM) 721 = .ok (.iaload, 1) := by decide +kernel
theorem dL_law_722 : decode (mB NM) 722 = .ok (.aload_n 0, 1) := by decide +kernel
theorem dL_law_723 : decode (mB NM) 723 = .ok (.iload_n 3, 1) := by decide +kernel
theorem dL_law_724 : decode (mB NM) 724 = .ok (.iconst 2, 1) := by decide +kernel
theorem dL_law_725 : decode (mB NM) 725 = .ok (.iadd, 1) := by decide +kernel
theorem dL_law_726 : decode (mB NM) 726 = .ok (.iaload, 1) := by decide +kernel
theorem dL_law_727 : decode (mB NM) 727 = .ok (.aload_n 0, 1) := by decide +kernel
theorem dL_law_728 : decode (mB NM) 728 = .ok (.iload_n 3, 1) := by decide +kernel
theorem dL_law_729 : decode (mB NM) 729 = .ok (.iconst 3, 1) := by decide +kernel
theorem dL_law_730 : decode (mB NM) 730 = .ok (.iadd, 1) := by decide +kernel
theorem dL_law_731 : decode (mB NM) 731 = .ok (.iaload, 1) := by decide +kernel
theorem dL_law_732 : decode (mB NM) 732 = .ok (.invokevirtual 86, 3) := by decide +kernel
theorem dL_law_735 : decode (mB NM) 735 = .ok (.lcmp, 1) := by decide +kernel
theorem dL_law_736 : decode (mB NM) 736 = .ok (.ifCond .eq 781, 3) := by decide +kernel
theorem dL_law_739 : decode (mB NM) 739 = .ok (.iconst 0, 1) := by decide +kernel
theorem dL_law_740 : decode (mB NM) 740 = .ok (.ireturn, 1) := by decide +kernel
theorem dL_law_741 : decode (mB NM) 741 = .ok (.aload_n 1, 1) := by decide +kernel
theorem dL_law_742 : decode (mB NM) 742 = .ok (.aload_n 0, 1) := by decide +kernel
theorem dL_law_743 : decode (mB NM) 743 = .ok (.iload_n 3, 1) := by decide +kernel
theorem dL_law_744 : decode (mB NM) 744 = .ok (.iconst 1, 1) := by decide +kernel
theorem dL_law_745 : decode (mB NM) 745 = .ok (.iadd, 1) := by decide +kernel
theorem dL_law_746 : decode (mB NM) 746 = .ok (.iaload, 1) := by decide +kernel
theorem dL_law_747 : decode (mB NM) 747 = .ok (.aload_n 0, 1) := by decide +kernel
theorem dL_law_748 : decode (mB NM) 748 = .ok (.iload_n 3, 1) := by decide +kernel
theorem dL_law_749 : decode (mB NM) 749 = .ok (.iconst 2, 1) := by decide +kernel
theorem dL_law_750 : decode (mB NM) 750 = .ok (.iadd, 1) := by decide +kernel
theorem dL_law_751 : decode (mB NM) 751 = .ok (.iaload, 1) := by decide +kernel
theorem dL_law_752 : decode (mB NM) 752 = .ok (.invokevirtual 87, 3) := by decide +kernel
theorem dL_law_755 : decode (mB NM) 755 = .ok (.aload_n 2, 1) := by decide +kernel
theorem dL_law_756 : decode (mB NM) 756 = .ok (.aload_n 0, 1) := by decide +kernel
theorem dL_law_757 : decode (mB NM) 757 = .ok (.iload_n 3, 1) := by decide +kernel
theorem dL_law_758 : decode (mB NM) 758 = .ok (.iconst 1, 1) := by decide +kernel
theorem dL_law_759 : decode (mB NM) 759 = .ok (.iadd, 1) := by decide +kernel
theorem dL_law_760 : decode (mB NM) 760 = .ok (.iaload, 1) := by decide +kernel
theorem dL_law_761 : decode (mB NM) 761 = .ok (.aload_n 0, 1) := by decide +kernel
theorem dL_law_762 : decode (mB NM) 762 = .ok (.iload_n 3, 1) := by decide +kernel
theorem dL_law_763 : decode (mB NM) 763 = .ok (.iconst 2, 1) := by decide +kernel
theorem dL_law_764 : decode (mB NM) 764 = .ok (.iadd, 1) := by decide +kernel
theorem dL_law_765 : decode (mB NM) 765 = .ok (.iaload, 1) := by decide +kernel
theorem dL_law_766 : decode (mB NM) 766 = .ok (.invokevirtual 90, 3) := by decide +kernel
theorem dL_law_769 : decode (mB NM) 769 = .ok (.if_icmp .eq 748, 3) := by decide +kernel
theorem dL_law_772 : decode (mB NM) 772 = .ok (.iconst 0, 1) := by decide +kernel
theorem dL_law_773 : decode (mB NM) 773 = .ok (.ireturn, 1) := by decide +kernel
theorem dL_law_774 : decode (mB NM) 774 = .ok (.aload_n 1, 1) := by decide +kernel
theorem dL_law_775 : decode (mB NM) 775 = .ok (.aload_n 0, 1) := by decide +kernel
theorem dL_law_776 : decode (mB NM) 776 = .ok (.iload_n 3, 1) := by decide +kernel
theorem dL_law_777 : decode (mB NM) 777 = .ok (.iconst 1, 1) := by decide +kernel
theorem dL_law_778 : decode (mB NM) 778 = .ok (.iadd, 1) := by decide +kernel
theorem dL_law_779 : decode (mB NM) 779 = .ok (.iaload, 1) := by decide +kernel
theorem dL_law_780 : decode (mB NM) 780 = .ok (.aload_n 0, 1) := by decide +kernel
theorem dL_law_781 : decode (mB NM) 781 = .ok (.iload_n 3, 1) := by decide +kernel
theorem dL_law_782 : decode (mB NM) 782 = .ok (.iconst 2, 1) := by decide +kernel
theorem dL_law_783 : decode (mB NM) 783 = .ok (.iadd, 1) := by decide +kernel
theorem dL_law_784 : decode (mB NM) 784 = .ok (.iaload, 1) := by decide +kernel
theorem dL_law_785 : decode (mB NM) 785 = .ok (.aload_n 0, 1) := by decide +kernel
theorem dL_law_786 : decode (mB NM) 786 = .ok (.iload_n 3, 1) := by decide +kernel
theorem dL_law_787 : decode (mB NM) 787 = .ok (.iconst 3, 1) := by decide +kernel
theorem dL_law_788 : decode (mB NM) 788 = .ok (.iadd, 1) := by decide +kernel
theorem dL_law_789 : decode (mB NM) 789 = .ok (.iaload, 1) := by decide +kernel
theorem dL_law_790 : decode (mB NM) 790 = .ok (.invokevirtual 91, 3) := by decide +kernel
theorem dL_law_793 : decode (mB NM) 793 = .ok (.aload_n 2, 1) := by decide +kernel
theorem dL_law_794 : decode (mB NM) 794 = .ok (.aload_n 0, 1) := by decide +kernel
theorem dL_law_795 : decode (mB NM) 795 = .ok (.iload_n 3, 1) := by decide +kernel
theorem dL_law_796 : decode (mB NM) 796 = .ok (.iconst 1, 1) := by decide +kernel
theorem dL_law_797 : decode (mB NM) 797 = .ok (.iadd, 1) := by decide +kernel
theorem dL_law_798 : decode (mB NM) 798 = .ok (.iaload, 1) := by decide +kernel
theorem dL_law_799 : decode (mB NM) 799 = .ok (.aload_n 0, 1) := by decide +kernel
theorem dL_law_800 : decode (mB NM) 800 = .ok (.iload_n 3, 1) := by decide +kernel
theorem dL_law_801 : decode (mB NM) 801 = .ok (.iconst 2, 1) := by decide +kernel
theorem dL_law_802 : decode (mB NM) 802 = .ok (.iadd, 1) := by decide +kernel
theorem dL_law_803 : decode (mB NM) 803 = .ok (.iaload, 1) := by decide +kernel
theorem dL_law_804 : decode (mB NM) 804 = .ok (.aload_n 0, 1) := by decide +kernel
theorem dL_law_805 : decode (mB NM) 805 = .ok (.iload_n 3, 1) := by decide +kernel
theorem dL_law_806 : decode (mB NM) 806 = .ok (.iconst 3, 1) := by decide +kernel
theorem dL_law_807 : decode (mB NM) 807 = .ok (.iadd, 1) := by decide +kernel
theorem dL_law_808 : decode (mB NM) 808 = .ok (.iaload, 1) := by decide +kernel
theorem dL_law_809 : decode (mB NM) 809 = .ok (.invokevirtual 94, 3) := by decide +kernel
theorem dL_law_812 : decode (mB NM) 812 = .ok (.if_icmp .eq 705, 3) := by decide +kernel
theorem dL_law_815 : decode (mB NM) 815 = .ok (.iconst 0, 1) := by decide +kernel
theorem dL_law_816 : decode (mB NM) 816 = .ok (.ireturn, 1) := by decide +kernel
theorem dL_law_817 : decode (mB NM) 817 = .ok (.aload_n 1, 1) := by decide +kernel
theorem dL_law_818 : decode (mB NM) 818 = .ok (.aload_n 0, 1) := by decide +kernel
theorem dL_law_819 : decode (mB NM) 819 = .ok (.iload_n 3, 1) := by decide +kernel
theorem dL_law_820 : decode (mB NM) 820 = .ok (.iconst 1, 1) := by decide +kernel
theorem dL_law_821 : decode (mB NM) 821 = .ok (.iadd, 1) := by decide +kernel
theorem dL_law_822 : decode (mB NM) 822 = .ok (.iaload, 1) := by decide +kernel
theorem dL_law_823 : decode (mB NM) 823 = .ok (.aload_n 0, 1) := by decide +kernel
theorem dL_law_824 : decode (mB NM) 824 = .ok (.iload_n 3, 1) := by decide +kernel
theorem dL_law_825 : decode (mB NM) 825 = .ok (.iconst 2, 1) := by decide +kernel
theorem dL_law_826 : decode (mB NM) 826 = .ok (.iadd, 1) := by decide +kernel
theorem dL_law_827 : decode (mB NM) 827 = .ok (.iaload, 1) := by decide +kernel
theorem dL_law_828 : decode (mB NM) 828 = .ok (.invokevirtual 95, 3) := by decide +kernel
theorem dL_law_831 : decode (mB NM) 831 = .ok (.aload_n 2, 1) := by decide +kernel
theorem dL_law_832 : decode (mB NM) 832 = .ok (.aload_n 0, 1) := by decide +kernel
theorem dL_law_833 : decode (mB NM) 833 = .ok (.iload_n 3, 1) := by decide +kernel
theorem dL_law_834 : decode (mB NM) 834 = .ok (.iconst 1, 1) := by decide +kernel
theorem dL_law_835 : decode (mB NM) 835 = .ok (.iadd, 1) := by decide +kernel
theorem dL_law_836 : decode (mB NM) 836 = .ok (.iaload, 1) := by decide +kernel
theorem dL_law_837 : decode (mB NM) 837 = .ok (.aload_n 0, 1) := by decide +kernel
theorem dL_law_838 : decode (mB NM) 838 = .ok (.iload_n 3, 1) := by decide +kernel
theorem dL_law_839 : decode (mB NM) 839 = .ok (.iconst 2, 1) := by decide +kernel
theorem dL_law_840 : decode (mB NM) 840 = .ok (.iadd, 1) := by decide +kernel
theorem dL_law_841 : decode (mB NM) 841 = .ok (.iaload, 1) := by decide +kernel
theorem dL_law_842 : decode (mB NM) 842 = .ok (.invokevirtual 98, 3) := by decide +kernel
theorem dL_law_845 : decode (mB NM) 845 = .ok (.if_icmp .eq 672, 3) := by decide +kernel
theorem dL_law_848 : decode (mB NM) 848 = .ok (.iconst 0, 1) := by decide +kernel
theorem dL_law_849 : decode (mB NM) 849 = .ok (.ireturn, 1) := by decide +kernel
theorem dL_law_850 : decode (mB NM) 850 = .ok (.aload_n 1, 1) := by decide +kernel
theorem dL_law_851 : decode (mB NM) 851 = .ok (.aload_n 0, 1) := by decide +kernel
theorem dL_law_852 : decode (mB NM) 852 = .ok (.iload_n 3, 1) := by decide +kernel
theorem dL_law_853 : decode (mB NM) 853 = .ok (.iconst 1, 1) := by decide +kernel
theorem dL_law_854 : decode (mB NM) 854 = .ok (.iadd, 1) := by decide +kernel
theorem dL_law_855 : decode (mB NM) 855 = .ok (.iaload, 1) := by decide +kernel
theorem dL_law_856 : decode (mB NM) 856 = .ok (.aload_n 0, 1) := by decide +kernel
theorem dL_law_857 : decode (mB NM) 857 = .ok (.iload_n 3, 1) := by decide +kernel
theorem dL_law_858 : decode (mB NM) 858 = .ok (.iconst 2, 1) := by decide +kernel
theorem dL_law_859 : decode (mB NM) 859 = .ok (.iadd, 1) := by decide +kernel
theorem dL_law_860 : decode (mB NM) 860 = .ok (.iaload, 1) := by decide +kernel
theorem dL_law_861 : decode (mB NM) 861 = .ok (.invokevirtual 99, 3) := by decide +kernel
theorem dL_law_864 : decode (mB NM) 864 = .ok (.aload_n 2, 1) := by decide +kernel
theorem dL_law_865 : decode (mB NM) 865 = .ok (.aload_n 0, 1) := by decide +kernel
theorem dL_law_866 : decode (mB NM) 866 = .ok (.iload_n 3, 1) := by decide +kernel
theorem dL_law_867 : decode (mB NM) 867 = .ok (.iconst 1, 1) := by decide +kernel
theorem dL_law_868 : decode (mB NM) 868 = .ok (.iadd, 1) := by decide +kernel
theorem dL_law_869 : decode (mB NM) 869 = .ok (.iaload, 1) := by decide +kernel
theorem dL_law_870 : decode (mB NM) 870 = .ok (.aload_n 0, 1) := by decide +kernel
theorem dL_law_871 : decode (mB NM) 871 = .ok (.iload_n 3, 1) := by decide +kernel
theorem dL_law_872 : decode (mB NM) 872 = .ok (.iconst 2, 1) := by decide +kernel
theorem dL_law_873 : decode (mB NM) 873 = .ok (.iadd, 1) := by decide +kernel
theorem dL_law_874 : decode (mB NM) 874 = .ok (.iaload, 1) := by decide +kernel
theorem dL_law_875 : decode (mB NM) 875 = .ok (.invokevirtual 102, 3) := by decide +kernel
theorem dL_law_878 : decode (mB NM) 878 = .ok (.if_icmp .eq 639, 3) := by decide +kernel
theorem dL_law_881 : decode (mB NM) 881 = .ok (.iconst 0, 1) := by decide +kernel
theorem dL_law_882 : decode (mB NM) 882 = .ok (.ireturn, 1) := by decide +kernel
theorem dL_law_883 : decode (mB NM) 883 = .ok (.aload_n 1, 1) := by decide +kernel
theorem dL_law_884 : decode (mB NM) 884 = .ok (.invokevirtual 103, 3) := by decide +kernel
theorem dL_law_887 : decode (mB NM) 887 = .ok (.aload_n 2, 1) := by decide +kernel
theorem dL_law_888 : decode (mB NM) 888 = .ok (.invokevirtual 106, 3) := by decide +kernel
theorem dL_law_891 : decode (mB NM) 891 = .ok (.if_icmp .eq 626, 3) := by decide +kernel
theorem dL_law_894 : decode (mB NM) 894 = .ok (.iconst 0, 1) := by decide +kernel
theorem dL_law_895 : decode (mB NM) 895 = .ok (.ireturn, 1) := by decide +kernel
theorem dL_law_896 : decode (mB NM) 896 = .ok (.aload_n 1, 1) := by decide +kernel
theorem dL_law_897 : decode (mB NM) 897 = .ok (.aload_n 0, 1) := by decide +kernel
theorem dL_law_898 : decode (mB NM) 898 = .ok (.iload_n 3, 1) := by decide +kernel
theorem dL_law_899 : decode (mB NM) 899 = .ok (.iconst 1, 1) := by decide +kernel
theorem dL_law_900 : decode (mB NM) 900 = .ok (.iadd, 1) := by decide +kernel
theorem dL_law_901 : decode (mB NM) 901 = .ok (.iaload, 1) := by decide +kernel
theorem dL_law_902 : decode (mB NM) 902 = .ok (.aload_n 0, 1) := by decide +kernel
theorem dL_law_903 : decode (mB NM) 903 = .ok (.iload_n 3, 1) := by decide +kernel
theorem dL_law_904 : decode (mB NM) 904 = .ok (.iconst 2, 1) := by decide +kernel
theorem dL_law_905 : decode (mB NM) 905 = .ok (.iadd, 1) := by decide +kernel
theorem dL_law_906 : decode (mB NM) 906 = .ok (.iaload, 1) := by decide +kernel
theorem dL_law_907 : decode (mB NM) 907 = .ok (.aload_n 0, 1) := by decide +kernel
theorem dL_law_908 : decode (mB NM) 908 = .ok (.iload_n 3, 1) := by decide +kernel
theorem dL_law_909 : decode (mB NM) 909 = .ok (.iconst 3, 1) := by decide +kernel
theorem dL_law_910 : decode (mB NM) 910 = .ok (.iadd, 1) := by decide +kernel
theorem dL_law_911 : decode (mB NM) 911 = .ok (.iaload, 1) := by decide +kernel
theorem dL_law_912 : decode (mB NM) 912 = .ok (.invokevirtual 107, 3) := by decide +kernel
theorem dL_law_915 : decode (mB NM) 915 = .ok (.aload_n 2, 1) := by decide +kernel
theorem dL_law_916 : decode (mB NM) 916 = .ok (.aload_n 0, 1) := by decide +kernel
theorem dL_law_917 : decode (mB NM) 917 = .ok (.iload_n 3, 1) := by decide +kernel
theorem dL_law_918 : decode (mB NM) 918 = .ok (.iconst 1, 1) := by decide +kernel
theorem dL_law_919 : decode (mB NM) 919 = .ok (.iadd, 1) := by decide +kernel
theorem dL_law_920 : decode (mB NM) 920 = .ok (.iaload, 1) := by decide +kernel
theorem dL_law_921 : decode (mB NM) 921 = .ok (.aload_n 0, 1) := by decide +kernel
theorem dL_law_922 : decode (mB NM) 922 = .ok (.iload_n 3, 1) := by decide +kernel
theorem dL_law_923 : decode (mB NM) 923 = .ok (.iconst 2, 1) := by decide +kernel
theorem dL_law_924 : decode (mB NM) 924 = .ok (.iadd, 1) := by decide +kernel
theorem dL_law_925 : decode (mB NM) 925 = .ok (.iaload, 1) := by decide +kernel
theorem dL_law_926 : decode (mB NM) 926 = .ok (.aload_n 0, 1) := by decide +kernel
theorem dL_law_927 : decode (mB NM) 927 = .ok (.iload_n 3, 1) := by decide +kernel
theorem dL_law_928 : decode (mB NM) 928 = .ok (.iconst 3, 1) := by decide +kernel
theorem dL_law_929 : decode (mB NM) 929 = .ok (.iadd, 1) := by decide +kernel
theorem dL_law_930 : decode (mB NM) 930 = .ok (.iaload, 1) := by decide +kernel
theorem dL_law_931 : decode (mB NM) 931 = .ok (.invokevirtual 110, 3) := by decide +kernel
theorem dL_law_934 : decode (mB NM) 934 = .ok (.if_icmp .eq 583, 3) := by decide +kernel
theorem dL_law_937 : decode (mB NM) 937 = .ok (.iconst 0, 1) := by decide +kernel
theorem dL_law_938 : decode (mB NM) 938 = .ok (.ireturn, 1) := by decide +kernel
theorem dL_law_939 : decode (mB NM) 939 = .ok (.aload_n 1, 1) := by decide +kernel
theorem dL_law_940 : decode (mB NM) 940 = .ok (.aload_n 0, 1) := by decide +kernel
theorem dL_law_941 : decode (mB NM) 941 = .ok (.iload_n 3, 1) := by decide +kernel
theorem dL_law_942 : decode (mB NM) 942 = .ok (.iconst 1, 1) := by decide +kernel
theorem dL_law_943 : decode (mB NM) 943 = .ok (.iadd, 1) := by decide +kernel
theorem dL_law_944 : decode (mB NM) 944 = .ok (.iaload, 1) := by decide +kernel
theorem dL_law_945 : decode (mB NM) 945 = .ok (.aload_n 0, 1) := by decide +kernel
theorem dL_law_946 : decode (mB NM) 946 = .ok (.iload_n 3, 1) := by decide +kernel
theorem dL_law_947 : decode (mB NM) 947 = .ok (.iconst 2, 1) := by decide +kernel
theorem dL_law_948 : decode (mB NM) 948 = .ok (.iadd, 1) := by decide +kernel
theorem dL_law_949 : decode (mB NM) 949 = .ok (.iaload, 1) := by decide +kernel
theorem dL_law_950 : decode (mB NM) 950 = .ok (.aload_n 0, 1) := by decide +kernel
theorem dL_law_951 : decode (mB NM) 951 = .ok (.iload_n 3, 1) := by decide +kernel
theorem dL_law_952 : decode (mB NM) 952 = .ok (.iconst 3, 1) := by decide +kernel
theorem dL_law_953 : decode (mB NM) 953 = .ok (.iadd, 1) := by decide +kernel
theorem dL_law_954 : decode (mB NM) 954 = .ok (.iaload, 1) := by decide +kernel
theorem dL_law_955 : decode (mB NM) 955 = .ok (.invokevirtual 111, 3) := by decide +kernel
theorem dL_law_958 : decode (mB NM) 958 = .ok (.aload_n 2, 1) := by decide +kernel
theorem dL_law_959 : decode (mB NM) 959 = .ok (.aload_n 0, 1) := by decide +kernel
theorem dL_law_960 : decode (mB NM) 960 = .ok (.iload_n 3, 1) := by decide +kernel
theorem dL_law_961 : decode (mB NM) 961 = .ok (.iconst 1, 1) := by decide +kernel
theorem dL_law_962 : decode (mB NM) 962 = .ok (.iadd, 1) := by decide +kernel
theorem dL_law_963 : decode (mB NM) 963 = .ok (.iaload, 1) := by decide +kernel
theorem dL_law_964 : decode (mB NM) 964 = .ok (.aload_n 0, 1) := by decide +kernel
theorem dL_law_965 : decode (mB NM) 965 = .ok (.iload_n 3, 1) := by decide +kernel
theorem dL_law_966 : decode (mB NM) 966 = .ok (.iconst 2, 1) := by decide +kernel
theorem dL_law_967 : decode (mB NM) 967 = .ok (.iadd, 1) := by decide +kernel
theorem dL_law_968 : decode (mB NM) 968 = .ok (.iaload, 1) := by decide +kernel
theorem dL_law_969 : decode (mB NM) 969 = .ok (.aload_n 0, 1) := by decide +kernel
theorem dL_law_970 : decode (mB NM) 970 = .ok (.iload_n 3, 1) := by decide +kernel
theorem dL_law_971 : decode (mB NM) 971 = .ok (.iconst 3, 1) := by decide +kernel
theorem dL_law_972 : decode (mB NM) 972 = .ok (.iadd, 1) := by decide +kernel
theorem dL_law_973 : decode (mB NM) 973 = .ok (.iaload, 1) := by decide +kernel
theorem dL_law_974 : decode (mB NM) 974 = .ok (.invokevirtual 114, 3) := by decide +kernel
theorem dL_law_977 : decode (mB NM) 977 = .ok (.if_icmp .eq 540, 3) := by decide +kernel
theorem dL_law_980 : decode (mB NM) 980 = .ok (.iconst 0, 1) := by decide +kernel
theorem dL_law_981 : decode (mB NM) 981 = .ok (.ireturn, 1) := by decide +kernel
theorem dL_law_982 : decode (mB NM) 982 = .ok (.aload_n 1, 1) := by decide +kernel
theorem dL_law_983 : decode (mB NM) 983 = .ok (.aload_n 0, 1) := by decide +kernel
theorem dL_law_984 : decode (mB NM) 984 = .ok (.iload_n 3, 1) := by decide +kernel
theorem dL_law_985 : decode (mB NM) 985 = .ok (.iconst 1, 1) := by decide +kernel
theorem dL_law_986 : decode (mB NM) 986 = .ok (.iadd, 1) := by decide +kernel
theorem dL_law_987 : decode (mB NM) 987 = .ok (.iaload, 1) := by decide +kernel
theorem dL_law_988 : decode (mB NM) 988 = .ok (.aload_n 0, 1) := by decide +kernel
theorem dL_law_989 : decode (mB NM) 989 = .ok (.iload_n 3, 1) := by decide +kernel
theorem dL_law_990 : decode (mB NM) 990 = .ok (.iconst 2, 1) := by decide +kernel
theorem dL_law_991 : decode (mB NM) 991 = .ok (.iadd, 1) := by decide +kernel
theorem dL_law_992 : decode (mB NM) 992 = .ok (.iaload, 1) := by decide +kernel
theorem dL_law_993 : decode (mB NM) 993 = .ok (.invokevirtual 115, 3) := by decide +kernel
theorem dL_law_996 : decode (mB NM) 996 = .ok (.aload_n 2, 1) := by decide +kernel
theorem dL_law_997 : decode (mB NM) 997 = .ok (.aload_n 0, 1) := by decide +kernel
theorem dL_law_998 : decode (mB NM) 998 = .ok (.iload_n 3, 1) := by decide +kernel
theorem dL_law_999 : decode (mB NM) 999 = .ok (.iconst 1, 1) := by decide +kernel
theorem dL_law_1000 : decode (mB NM) 1000 = .ok (.iadd, 1) := by decide +kernel
theorem dL_law_1001 : decode (mB NM) 1001 = .ok (.iaload, 1) := by decide +kernel
theorem dL_law_1002 : decode (mB NM) 1002 = .ok (.aload_n 0, 1) := by decide +kernel
theorem dL_law_1003 : decode (mB NM) 1003 = .ok (.iload_n 3, 1) := by decide +kernel
theorem dL_law_1004 : decode (mB NM) 1004 = .ok (.iconst 2, 1) := by decide +kernel
theorem dL_law_1005 : decode (mB NM) 1005 = .ok (.iadd, 1) := by decide +kernel
theorem dL_law_1006 : decode (mB NM) 1006 = .ok (.iaload, 1) := by decide +kernel
theorem dL_law_1007 : decode (mB NM) 1007 = .ok (.invokevirtual 118, 3) := by decide +kernel
theorem dL_law_1010 : decode (mB NM) 1010 = .ok (.if_icmp .eq 507, 3) := by decide +kernel
theorem dL_law_1013 : decode (mB NM) 1013 = .ok (.iconst 0, 1) := by decide +kernel
theorem dL_law_1014 : decode (mB NM) 1014 = .ok (.ireturn, 1) := by decide +kernel
theorem dL_law_1015 : decode (mB NM) 1015 = .ok (.aload_n 1, 1) := by decide +kernel
theorem dL_law_1016 : decode (mB NM) 1016 = .ok (.aload_n 0, 1) := by decide +kernel
theorem dL_law_1017 : decode (mB NM) 1017 = .ok (.iload_n 3, 1) := by decide +kernel
theorem dL_law_1018 : decode (mB NM) 1018 = .ok (.iconst 1, 1) := by decide +kernel
theorem dL_law_1019 : decode (mB NM) 1019 = .ok (.iadd, 1) := by decide +kernel
theorem dL_law_1020 : decode (mB NM) 1020 = .ok (.iaload, 1) := by decide +kernel
theorem dL_law_1021 : decode (mB NM) 1021 = .ok (.invokevirtual 119, 3) := by decide +kernel
theorem dL_law_1024 : decode (mB NM) 1024 = .ok (.aload_n 2, 1) := by decide +kernel
theorem dL_law_1025 : decode (mB NM) 1025 = .ok (.aload_n 0, 1) := by decide +kernel
theorem dL_law_1026 : decode (mB NM) 1026 = .ok (.iload_n 3, 1) := by decide +kernel
theorem dL_law_1027 : decode (mB NM) 1027 = .ok (.iconst 1, 1) := by decide +kernel
theorem dL_law_1028 : decode (mB NM) 1028 = .ok (.iadd, 1) := by decide +kernel
theorem dL_law_1029 : decode (mB NM) 1029 = .ok (.iaload, 1) := by decide +kernel
theorem dL_law_1030 : decode (mB NM) 1030 = .ok (.invokevirtual 122, 3) := by decide +kernel
theorem dL_law_1033 : decode (mB NM) 1033 = .ok (.if_icmp .eq 484, 3) := by decide +kernel
theorem dL_law_1036 : decode (mB NM) 1036 = .ok (.iconst 0, 1) := by decide +kernel
theorem dL_law_1037 : decode (mB NM) 1037 = .ok (.ireturn, 1) := by decide +kernel
theorem dL_law_1038 : decode (mB NM) 1038 = .ok (.aload_n 1, 1) := by decide +kernel
theorem dL_law_1039 : decode (mB NM) 1039 = .ok (.invokevirtual 123, 3) := by decide +kernel
theorem dL_law_1042 : decode (mB NM) 1042 = .ok (.aload_n 2, 1) := by decide +kernel
theorem dL_law_1043 : decode (mB NM) 1043 = .ok (.invokevirtual 126, 3) := by decide +kernel
theorem dL_law_1046 : decode (mB NM) 1046 = .ok (.if_icmp .eq 471, 3) := by decide +kernel
theorem dL_law_1049 : decode (mB NM) 1049 = .ok (.iconst 0, 1) := by decide +kernel
theorem dL_law_1050 : decode (mB NM) 1050 = .ok (.ireturn, 1) := by decide +kernel
theorem dL_law_1051 : decode (mB NM) 1051 = .ok (.aload_n 1, 1) := by decide +kernel
theorem dL_law_1052 : decode (mB NM) 1052 = .ok (.aload_n 0, 1) := by decide +kernel
theorem dL_law_1053 : decode (mB NM) 1053 = .ok (.iload_n 3, 1) := by decide +kernel
theorem dL_law_1054 : decode (mB NM) 1054 = .ok (.iconst 1, 1) := by decide +kernel
theorem dL_law_1055 : decode (mB NM) 1055 = .ok (.iadd, 1) := by decide +kernel
theorem dL_law_1056 : decode (mB NM) 1056 = .ok (.iaload, 1) := by decide +kernel
theorem dL_law_1057 : decode (mB NM) 1057 = .ok (.invokevirtual 127, 3) := by decide +kernel
theorem dL_law_1060 : decode (mB NM) 1060 = .ok (.aload_n 2, 1) := by decide +kernel
theorem dL_law_1061 : decode (mB NM) 1061 = .ok (.aload_n 0, 1) := by decide +kernel
theorem dL_law_1062 : decode (mB NM) 1062 = .ok (.iload_n 3, 1) := by decide +kernel
theorem dL_law_1063 : decode (mB NM) 1063 = .ok (.iconst 1, 1) := by decide +kernel
theorem dL_law_1064 : decode (mB NM) 1064 = .ok (.iadd, 1) := by decide +kernel
theorem dL_law_1065 : decode (mB NM) 1065 = .ok (.iaload, 1) := by decide +kernel
theorem dL_law_1066 : decode (mB NM) 1066 = .ok (.invokevirtual 130, 3) := by decide +kernel
theorem dL_law_1069 : decode (mB NM) 1069 = .ok (.if_icmp .eq 448, 3) := by decide +kernel
theorem dL_law_1072 : decode (mB NM) 1072 = .ok (.iconst 0, 1) := by decide +kernel
theorem dL_law_1073 : decode (mB NM) 1073 = .ok (.ireturn, 1) := by decide +kernel
theorem dL_law_1074 : decode (mB NM) 1074 = .ok (.aload_n 1, 1) := by decide +kernel
theorem dL_law_1075 : decode (mB NM) 1075 = .ok (.invokevirtual 131, 3) := by decide +kernel
theorem dL_law_1078 : decode (mB NM) 1078 = .ok (.aload_n 2, 1) := by decide +kernel
theorem dL_law_1079 : decode (mB NM) 1079 = .ok (.invokevirtual 134, 3) := by decide +kernel
theorem dL_law_1082 : decode (mB NM) 1082 = .ok (.if_icmp .eq 435, 3) := by decide +kernel
theorem dL_law_1085 : decode (mB NM) 1085 = .ok (.iconst 0, 1) := by decide +kernel
theorem dL_law_1086 : decode (mB NM) 1086 = .ok (.ireturn, 1) := by decide +kernel
theorem dL_law_1087 : decode (mB NM) 1087 = .ok (.aload_n 1, 1) := by decide +kernel
theorem dL_law_1088 : decode (mB NM) 1088 = .ok (.invokevirtual 135, 3) := by decide +kernel
theorem dL_law_1091 : decode (mB NM) 1091 = .ok (.aload_n 2, 1) := by decide +kernel
theorem dL_law_1092 : decode (mB NM) 1092 = .ok (.invokevirtual 138, 3) := by decide +kernel
theorem dL_law_1095 : decode (mB NM) 1095 = .ok (.if_icmp .eq 422, 3) := by decide +kernel
theorem dL_law_1098 : decode (mB NM) 1098 = .ok (.iconst 0, 1) := by decide +kernel
theorem dL_law_1099 : decode (mB NM) 1099 = .ok (.ireturn, 1) := by decide +kernel
theorem dL_law_1100 : decode (mB NM) 1100 = .ok (.aload_n 1, 1) := by decide +kernel
theorem dL_law_1101 : decode (mB NM) 1101 = .ok (.invokevirtual 139, 3) := by decide +kernel
theorem dL_law_1104 : decode (mB NM) 1104 = .ok (.aload_n 2, 1) := by decide +kernel
theorem dL_law_1105 : decode (mB NM) 1105 = .ok (.invokevirtual 142, 3) := by decide +kernel
theorem dL_law_1108 : decode (mB NM) 1108 = .ok (.if_icmp .eq 409, 3) := by decide +kernel
theorem dL_law_1111 : decode (mB NM) 1111 = .ok (.iconst 0, 1) := by decide +kernel
theorem dL_law_1112 : decode (mB NM) 1112 = .ok (.ireturn, 1) := by decide +kernel
theorem dL_law_1113 : decode (mB NM) 1113 = .ok (.aload_n 1, 1) := by decide +kernel
theorem dL_law_1114 : decode (mB NM) 1114 = .ok (.invokevirtual 143, 3) := by decide +kernel
theorem dL_law_1117 : decode (mB NM) 1117 = .ok (.aload_n 2, 1) := by decide +kernel
theorem dL_law_1118 : decode (mB NM) 1118 = .ok (.invokevirtual 146, 3) := by decide +kernel
theorem dL_law_1121 : decode (mB NM) 1121 = .ok (.if_icmp .eq 396, 3) := by decide +kernel
theorem dL_law_1124 : decode (mB NM) 1124 = .ok (.iconst 0, 1) := by decide +kernel
theorem dL_law_1125 : decode (mB NM) 1125 = .ok (.ireturn, 1) := by decide +kernel
theorem dL_law_1126 : decode (mB NM) 1126 = .ok (.aload_n 1, 1) := by decide +kernel
theorem dL_law_1127 : decode (mB NM) 1127 = .ok (.aload_n 0, 1) := by decide +kernel
theorem dL_law_1128 : decode (mB NM) 1128 = .ok (.iload_n 3, 1) := by decide +kernel
theorem dL_law_1129 : decode (mB NM) 1129 = .ok (.iconst 1, 1) := by decide +kernel
theorem dL_law_1130 : decode (mB NM) 1130 = .ok (.iadd, 1) := by decide +kernel
theorem dL_law_1131 : decode (mB NM) 1131 = .ok (.iaload, 1) := by decide +kernel
theorem dL_law_1132 : decode (mB NM) 1132 = .ok (.invokevirtual 147, 3) := by decide +kernel
theorem dL_law_1135 : decode (mB NM) 1135 = .ok (.aload_n 2, 1) := by decide +kernel
theorem dL_law_1136 : decode (mB NM) 1136 = .ok (.aload_n 0, 1) := by decide +kernel
theorem dL_law_1137 : decode (mB NM) 1137 = .ok (.iload_n 3, 1) := by decide +kernel
theorem dL_law_1138 : decode (mB NM) 1138 = .ok (.iconst 1, 1) := by decide +kernel
theorem dL_law_1139 : decode (mB NM) 1139 = .ok (.iadd, 1) := by decide +kernel
theorem dL_law_1140 : decode (mB NM) 1140 = .ok (.iaload, 1) := by decide +kernel
theorem dL_law_1141 : decode (mB NM) 1141 = .ok (.invokevirtual 150, 3) := by decide +kernel
theorem dL_law_1144 : decode (mB NM) 1144 = .ok (.if_icmp .eq 373, 3) := by decide +kernel
theorem dL_law_1147 : decode (mB NM) 1147 = .ok (.iconst 0, 1) := by decide +kernel
theorem dL_law_1148 : decode (mB NM) 1148 = .ok (.ireturn, 1) := by decide +kernel
theorem dL_law_1149 : decode (mB NM) 1149 = .ok (.aload_n 1, 1) := by decide +kernel
theorem dL_law_1150 : decode (mB NM) 1150 = .ok (.aload_n 0, 1) := by decide +kernel
theorem dL_law_1151 : decode (mB NM) 1151 = .ok (.iload_n 3, 1) := by decide +kernel
theorem dL_law_1152 : decode (mB NM) 1152 = .ok (.iconst 1, 1) := by decide +kernel
theorem dL_law_1153 : decode (mB NM) 1153 = .ok (.iadd, 1) := by decide +kernel
theorem dL_law_1154 : decode (mB NM) 1154 = .ok (.iaload, 1) := by decide +kernel
theorem dL_law_1155 : decode (mB NM) 1155 = .ok (.aload_n 0, 1) := by decide +kernel
theorem dL_law_1156 : decode (mB NM) 1156 = .ok (.iload_n 3, 1) := by decide +kernel
theorem dL_law_1157 : decode (mB NM) 1157 = .ok (.iconst 2, 1) := by decide +kernel
theorem dL_law_1158 : decode (mB NM) 1158 = .ok (.iadd, 1) := by decide +kernel
theorem dL_law_1159 : decode (mB NM) 1159 = .ok (.iaload, 1) := by decide +kernel
theorem dL_law_1160 : decode (mB NM) 1160 = .ok (.aload_n 0, 1) := by decide +kernel
theorem dL_law_1161 : decode (mB NM) 1161 = .ok (.iload_n 3, 1) := by decide +kernel
theorem dL_law_1162 : decode (mB NM) 1162 = .ok (.iconst 3, 1) := by decide +kernel
theorem dL_law_1163 : decode (mB NM) 1163 = .ok (.iadd, 1) := by decide +kernel
theorem dL_law_1164 : decode (mB NM) 1164 = .ok (.iaload, 1) := by decide +kernel
theorem dL_law_1165 : decode (mB NM) 1165 = .ok (.invokevirtual 151, 3) := by decide +kernel
theorem dL_law_1168 : decode (mB NM) 1168 = .ok (.aload_n 2, 1) := by decide +kernel
theorem dL_law_1169 : decode (mB NM) 1169 = .ok (.aload_n 0, 1) := by decide +kernel
theorem dL_law_1170 : decode (mB NM) 1170 = .ok (.iload_n 3, 1) := by decide +kernel
theorem dL_law_1171 : decode (mB NM) 1171 = .ok (.iconst 1, 1) := by decide +kernel
theorem dL_law_1172 : decode (mB NM) 1172 = .ok (.iadd, 1) := by decide +kernel
theorem dL_law_1173 : decode (mB NM) 1173 = .ok (.iaload, 1) := by decide +kernel
theorem dL_law_1174 : decode (mB NM) 1174 = .ok (.aload_n 0, 1) := by decide +kernel
theorem dL_law_1175 : decode (mB NM) 1175 = .ok (.iload_n 3, 1) := by decide +kernel
theorem dL_law_1176 : decode (mB NM) 1176 = .ok (.iconst 2, 1) := by decide +kernel
theorem dL_law_1177 : decode (mB NM) 1177 = .ok (.iadd, 1) := by decide +kernel
theorem dL_law_1178 : decode (mB NM) 1178 = .ok (.iaload, 1) := by decide +kernel
theorem dL_law_1179 : decode (mB NM) 1179 = .ok (.aload_n 0, 1) := by decide +kernel
theorem dL_law_1180 : decode (mB NM) 1180 = .ok (.iload_n 3, 1) := by decide +kernel
theorem dL_law_1181 : decode (mB NM) 1181 = .ok (.iconst 3, 1) := by decide +kernel
theorem dL_law_1182 : decode (mB NM) 1182 = .ok (.iadd, 1) := by decide +kernel
theorem dL_law_1183 : decode (mB NM) 1183 = .ok (.iaload, 1) := by decide +kernel
theorem dL_law_1184 : decode (mB NM) 1184 = .ok (.invokevirtual 154, 3) := by decide +kernel
theorem dL_law_1187 : decode (mB NM) 1187 = .ok (.if_icmp .eq 330, 3) := by decide +kernel
theorem dL_law_1190 : decode (mB NM) 1190 = .ok (.iconst 0, 1) := by decide +kernel
theorem dL_law_1191 : decode (mB NM) 1191 = .ok (.ireturn, 1) := by decide +kernel
theorem dL_law_1192 : decode (mB NM) 1192 = .ok (.aload_n 1, 1) := by decide +kernel
theorem dL_law_1193 : decode (mB NM) 1193 = .ok (.aload_n 0, 1) := by decide +kernel
theorem dL_law_1194 : decode (mB NM) 1194 = .ok (.iload_n 3, 1) := by decide +kernel
theorem dL_law_1195 : decode (mB NM) 1195 = .ok (.iconst 1, 1) := by decide +kernel
theorem dL_law_1196 : decode (mB NM) 1196 = .ok (.iadd, 1) := by decide +kernel
theorem dL_law_1197 : decode (mB NM) 1197 = .ok (.iaload, 1) := by decide +kernel
theorem dL_law_1198 : decode (mB NM) 1198 = .ok (.invokevirtual 155, 3) := by decide +kernel
theorem dL_law_1201 : decode (mB NM) 1201 = .ok (.aload_n 2, 1) := by decide +kernel
theorem dL_law_1202 : decode (mB NM) 1202 = .ok (.aload_n 0, 1) := by decide +kernel
theorem dL_law_1203 : decode (mB NM) 1203 = .ok (.iload_n 3, 1) := by decide +kernel
theorem dL_law_1204 : decode (mB NM) 1204 = .ok (.iconst 1, 1) := by decide +kernel
theorem dL_law_1205 : decode (mB NM) 1205 = .ok (.iadd, 1) := by decide +kernel
theorem dL_law_1206 : decode (mB NM) 1206 = .ok (.iaload, 1) := by decide +kernel
theorem dL_law_1207 : decode (mB NM) 1207 = .ok (.invokevirtual 158, 3) := by decide +kernel
theorem dL_law_1210 : decode (mB NM) 1210 = .ok (.if_icmp .eq 307, 3) := by decide +kernel
theorem dL_law_1213 : decode (mB NM) 1213 = .ok (.iconst 0, 1) := by decide +kernel
theorem dL_law_1214 : decode (mB NM) 1214 = .ok (.ireturn, 1) := by decide +kernel
theorem dL_law_1215 : decode (mB NM) 1215 = .ok (.aload_n 1, 1) := by decide +kernel
theorem dL_law_1216 : decode (mB NM) 1216 = .ok (.aload_n 0, 1) := by decide +kernel
theorem dL_law_1217 : decode (mB NM) 1217 = .ok (.iload_n 3, 1) := by decide +kernel
theorem dL_law_1218 : decode (mB NM) 1218 = .ok (.iconst 1, 1) := by decide +kernel
theorem dL_law_1219 : decode (mB NM) 1219 = .ok (.iadd, 1) := by decide +kernel
theorem dL_law_1220 : decode (mB NM) 1220 = .ok (.iaload, 1) := by decide +kernel
theorem dL_law_1221 : decode (mB NM) 1221 = .ok (.aload_n 0, 1) := by decide +kernel
theorem dL_law_1222 : decode (mB NM) 1222 = .ok (.iload_n 3, 1) := by decide +kernel
theorem dL_law_1223 : decode (mB NM) 1223 = .ok (.iconst 2, 1) := by decide +kernel
theorem dL_law_1224 : decode (mB NM) 1224 = .ok (.iadd, 1) := by decide +kernel
theorem dL_law_1225 : decode (mB NM) 1225 = .ok (.iaload, 1) := by decide +kernel
theorem dL_law_1226 : decode (mB NM) 1226 = .ok (.invokevirtual 159, 3) := by decide +kernel
theorem dL_law_1229 : decode (mB NM) 1229 = .ok (.aload_n 2, 1) := by decide +kernel
theorem dL_law_1230 : decode (mB NM) 1230 = .ok (.aload_n 0, 1) := by decide +kernel
theorem dL_law_1231 : decode (mB NM) 1231 = .ok (.iload_n 3, 1) := by decide +kernel
theorem dL_law_1232 : decode (mB NM) 1232 = .ok (.iconst 1, 1) := by decide +kernel
theorem dL_law_1233 : decode (mB NM) 1233 = .ok (.iadd, 1) := by decide +kernel
theorem dL_law_1234 : decode (mB NM) 1234 = .ok (.iaload, 1) := by decide +kernel
theorem dL_law_1235 : decode (mB NM) 1235 = .ok (.aload_n 0, 1) := by decide +kernel
theorem dL_law_1236 : decode (mB NM) 1236 = .ok (.iload_n 3, 1) := by decide +kernel
theorem dL_law_1237 : decode (mB NM) 1237 = .ok (.iconst 2, 1) := by decide +kernel
theorem dL_law_1238 : decode (mB NM) 1238 = .ok (.iadd, 1) := by decide +kernel
theorem dL_law_1239 : decode (mB NM) 1239 = .ok (.iaload, 1) := by decide +kernel
theorem dL_law_1240 : decode (mB NM) 1240 = .ok (.invokevirtual 162, 3) := by decide +kernel
theorem dL_law_1243 : decode (mB NM) 1243 = .ok (.if_icmp .eq 274, 3) := by decide +kernel
theorem dL_law_1246 : decode (mB NM) 1246 = .ok (.iconst 0, 1) := by decide +kernel
theorem dL_law_1247 : decode (mB NM) 1247 = .ok (.ireturn, 1) := by decide +kernel
theorem dL_law_1248 : decode (mB NM) 1248 = .ok (.aload_n 1, 1) := by decide +kernel
theorem dL_law_1249 : decode (mB NM) 1249 = .ok (.aload_n 0, 1) := by decide +kernel
theorem dL_law_1250 : decode (mB NM) 1250 = .ok (.iload_n 3, 1) := by decide +kernel
theorem dL_law_1251 : decode (mB NM) 1251 = .ok (.iconst 1, 1) := by decide +kernel
theorem dL_law_1252 : decode (mB NM) 1252 = .ok (.iadd, 1) := by decide +kernel
theorem dL_law_1253 : decode (mB NM) 1253 = .ok (.iaload, 1) := by decide +kernel
theorem dL_law_1254 : decode (mB NM) 1254 = .ok (.aload_n 0, 1) := by decide +kernel
theorem dL_law_1255 : decode (mB NM) 1255 = .ok (.iload_n 3, 1) := by decide +kernel
theorem dL_law_1256 : decode (mB NM) 1256 = .ok (.iconst 2, 1) := by decide +kernel
theorem dL_law_1257 : decode (mB NM) 1257 = .ok (.iadd, 1) := by decide +kernel
theorem dL_law_1258 : decode (mB NM) 1258 = .ok (.iaload, 1) := by decide +kernel
theorem dL_law_1259 : decode (mB NM) 1259 = .ok (.aload_n 0, 1) := by decide +kernel
theorem dL_law_1260 : decode (mB NM) 1260 = .ok (.iload_n 3, 1) := by decide +kernel
theorem dL_law_1261 : decode (mB NM) 1261 = .ok (.iconst 3, 1) := by decide +kernel
theorem dL_law_1262 : decode (mB NM) 1262 = .ok (.iadd, 1) := by decide +kernel
theorem dL_law_1263 : decode (mB NM) 1263 = .ok (.iaload, 1) := by decide +kernel
theorem dL_law_1264 : decode (mB NM) 1264 = .ok (.invokevirtual 163, 3) := by decide +kernel
theorem dL_law_1267 : decode (mB NM) 1267 = .ok (.aload_n 2, 1) := by decide +kernel
theorem dL_law_1268 : decode (mB NM) 1268 = .ok (.aload_n 0, 1) := by decide +kernel
theorem dL_law_1269 : decode (mB NM) 1269 = .ok (.iload_n 3, 1) := by decide +kernel
theorem dL_law_1270 : decode (mB NM) 1270 = .ok (.iconst 1, 1) := by decide +kernel
theorem dL_law_1271 : decode (mB NM) 1271 = .ok (.iadd, 1) := by decide +kernel
theorem dL_law_1272 : decode (mB NM) 1272 = .ok (.iaload, 1) := by decide +kernel
theorem dL_law_1273 : decode (mB NM) 1273 = .ok (.aload_n 0, 1) := by decide +kernel
theorem dL_law_1274 : decode (mB NM) 1274 = .ok (.iload_n 3, 1) := by decide +kernel
theorem dL_law_1275 : decode (mB NM) 1275 = .ok (.iconst 2, 1) := by decide +kernel
theorem dL_law_1276 : decode (mB NM) 1276 = .ok (.iadd, 1) := by decide +kernel
theorem dL_law_1277 : decode (mB NM) 1277 = .ok (.iaload, 1) := by decide +kernel
theorem dL_law_1278 : decode (mB NM) 1278 = .ok (.aload_n 0, 1) := by decide +kernel
theorem dL_law_1279 : decode (mB NM) 1279 = .ok (.iload_n 3, 1) := by decide +kernel
theorem dL_law_1280 : decode (mB NM) 1280 = .ok (.iconst 3, 1) := by decide +kernel
theorem dL_law_1281 : decode (mB NM) 1281 = .ok (.iadd, 1) := by decide +kernel
theorem dL_law_1282 : decode (mB NM) 1282 = .ok (.iaload, 1) := by decide +kernel
theorem dL_law_1283 : decode (mB NM) 1283 = .ok (.invokevirtual 166, 3) := by decide +kernel
theorem dL_law_1286 : decode (mB NM) 1286 = .ok (.if_icmp .eq 231, 3) := by decide +kernel
theorem dL_law_1289 : decode (mB NM) 1289 = .ok (.iconst 0, 1) := by decide +kernel
theorem dL_law_1290 : decode (mB NM) 1290 = .ok (.ireturn, 1) := by decide +kernel
theorem dL_law_1291 : decode (mB NM) 1291 = .ok (.aload_n 1, 1) := by decide +kernel
theorem dL_law_1292 : decode (mB NM) 1292 = .ok (.aload_n 0, 1) := by decide +kernel
theorem dL_law_1293 : decode (mB NM) 1293 = .ok (.iload_n 3, 1) := by decide +kernel
theorem dL_law_1294 : decode (mB NM) 1294 = .ok (.iconst 1, 1) := by decide +kernel
theorem dL_law_1295 : decode (mB NM) 1295 = .ok (.iadd, 1) := by decide +kernel
theorem dL_law_1296 : decode (mB NM) 1296 = .ok (.iaload, 1) := by decide +kernel
theorem dL_law_1297 : decode (mB NM) 1297 = .ok (.aload_n 0, 1) := by decide +kernel
theorem dL_law_1298 : decode (mB NM) 1298 = .ok (.iload_n 3, 1) := by decide +kernel
theorem dL_law_1299 : decode (mB NM) 1299 = .ok (.iconst 2, 1) := by decide +kernel
theorem dL_law_1300 : decode (mB NM) 1300 = .ok (.iadd, 1) := by decide +kernel
theorem dL_law_1301 : decode (mB NM) 1301 = .ok (.iaload, 1) := by decide +kernel
theorem dL_law_1302 : decode (mB NM) 1302 = .ok (.aload_n 0, 1) := by decide +kernel
theorem dL_law_1303 : decode (mB NM) 1303 = .ok (.iload_n 3, 1) := by decide +kernel
theorem dL_law_1304 : decode (mB NM) 1304 = .ok (.iconst 3, 1) := by decide +kernel
theorem dL_law_1305 : decode (mB NM) 1305 = .ok (.iadd, 1) := by decide +kernel
theorem dL_law_1306 : decode (mB NM) 1306 = .ok (.iaload, 1) := by decide +kernel
theorem dL_law_1307 : decode (mB NM) 1307 = .ok (.i2l, 1) := by decide +kernel
theorem dL_law_1308 : decode (mB NM) 1308 = .ok (.bipush 32, 2) := by decide +kernel
theorem dL_law_1310 : decode (mB NM) 1310 = .ok (.lshl, 1) := by decide +kernel
theorem dL_law_1311 : decode (mB NM) 1311 = .ok (.aload_n 0, 1) := by decide +kernel
theorem dL_law_1312 : decode (mB NM) 1312 = .ok (.iload_n 3, 1) := by decide +kernel
theorem dL_law_1313 : decode (mB NM) 1313 = .ok (.iconst 4, 1) := by decide +kernel
theorem dL_law_1314 : decode (mB NM) 1314 = .ok (.iadd, 1) := by decide +kernel
theorem dL_law_1315 : decode (mB NM) 1315 = .ok (.iaload, 1) := by decide +kernel
theorem dL_law_1316 : decode (mB NM) 1316 = .ok (.i2l, 1) := by decide +kernel
theorem dL_law_1317 : decode (mB NM) 1317 = .ok (.ldc2_w 167, 3) := by decide +kernel
theorem dL_law_1320 : decode (mB NM) 1320 = .ok (.land, 1) := by decide +kernel
theorem dL_law_1321 : decode (mB NM) 1321 = .ok (.lor, 1) := by decide +kernel
theorem dL_law_1322 : decode (mB NM) 1322 = .ok (.invokevirtual 169, 3) := by decide +kernel
theorem dL_law_1325 : decode (mB NM) 1325 = .ok (.aload_n 2, 1) := by decide +kernel
theorem dL_law_1326 : decode (mB NM) 1326 = .ok (.aload_n 0, 1) := by decide +kernel
theorem dL_law_1327 : decode (mB NM) 1327 = .ok (.iload_n 3, 1) := by decide +kernel
theorem dL_law_1328 : decode (mB NM) 1328 = .ok (.iconst 1, 1) := by decide +kernel
theorem dL_law_1329 : decode (mB NM) 1329 = .ok (.iadd, 1) := by decide +kernel
theorem dL_law_1330 : decode (mB NM) 1330 = .ok (.iaload, 1) := by decide +kernel
theorem dL_law_1331 : decode (mB NM) 1331 = .ok (.aload_n 0, 1) := by decide +kernel
theorem dL_law_1332 : decode (mB NM) 1332 = .ok (.iload_n 3, 1) := by decide +kernel
theorem dL_law_1333 : decode (mB NM) 1333 = .ok (.iconst 2, 1) := by decide +kernel
theorem dL_law_1334 : decode (mB NM) 1334 = .ok (.iadd, 1) := by decide +kernel
theorem dL_law_1335 : decode (mB NM) 1335 = .ok (.iaload, 1) := by decide +kernel
theorem dL_law_1336 : decode (mB NM) 1336 = .ok (.aload_n 0, 1) := by decide +kernel
theorem dL_law_1337 : decode (mB NM) 1337 = .ok (.iload_n 3, 1) := by decide +kernel
theorem dL_law_1338 : decode (mB NM) 1338 = .ok (.iconst 3, 1) := by decide +kernel
theorem dL_law_1339 : decode (mB NM) 1339 = .ok (.iadd, 1) := by decide +kernel
theorem dL_law_1340 : decode (mB NM) 1340 = .ok (.iaload, 1) := by decide +kernel
theorem dL_law_1341 : decode (mB NM) 1341 = .ok (.i2l, 1) := by decide +kernel
theorem dL_law_1342 : decode (mB NM) 1342 = .ok (.bipush 32, 2) := by decide +kernel
theorem dL_law_1344 : decode (mB NM) 1344 = .ok (.lshl, 1) := by decide +kernel
theorem dL_law_1345 : decode (mB NM) 1345 = .ok (.aload_n 0, 1) := by decide +kernel
theorem dL_law_1346 : decode (mB NM) 1346 = .ok (.iload_n 3, 1) := by decide +kernel
theorem dL_law_1347 : decode (mB NM) 1347 = .ok (.iconst 4, 1) := by decide +kernel
theorem dL_law_1348 : decode (mB NM) 1348 = .ok (.iadd, 1) := by decide +kernel
theorem dL_law_1349 : decode (mB NM) 1349 = .ok (.iaload, 1) := by decide +kernel
theorem dL_law_1350 : decode (mB NM) 1350 = .ok (.i2l, 1) := by decide +kernel
theorem dL_law_1351 : decode (mB NM) 1351 = .ok (.ldc2_w 167, 3) := by decide +kernel
theorem dL_law_1354 : decode (mB NM) 1354 = .ok (.land, 1) := by decide +kernel
theorem dL_law_1355 : decode (mB NM) 1355 = .ok (.lor, 1) := by decide +kernel
theorem dL_law_1356 : decode (mB NM) 1356 = .ok (.invokevirtual 173, 3) := by decide +kernel
theorem dL_law_1359 : decode (mB NM) 1359 = .ok (.if_icmp .eq 158, 3) := by decide +kernel
theorem dL_law_1362 : decode (mB NM) 1362 = .ok (.iconst 0, 1) := by decide +kernel
theorem dL_law_1363 : decode (mB NM) 1363 = .ok (.ireturn, 1) := by decide +kernel
theorem dL_law_1364 : decode (mB NM) 1364 = .ok (.aload_n 1, 1) := by decide +kernel
theorem dL_law_1365 : decode (mB NM) 1365 = .ok (.aload_n 0, 1) := by decide +kernel
theorem dL_law_1366 : decode (mB NM) 1366 = .ok (.iload_n 3, 1) := by decide +kernel
theorem dL_law_1367 : decode (mB NM) 1367 = .ok (.iconst 1, 1) := by decide +kernel
theorem dL_law_1368 : decode (mB NM) 1368 = .ok (.iadd, 1) := by decide +kernel
theorem dL_law_1369 : decode (mB NM) 1369 = .ok (.iaload, 1) := by decide +kernel
theorem dL_law_1370 : decode (mB NM) 1370 = .ok (.aload_n 0, 1) := by decide +kernel
theorem dL_law_1371 : decode (mB NM) 1371 = .ok (.iload_n 3, 1) := by decide +kernel
theorem dL_law_1372 : decode (mB NM) 1372 = .ok (.iconst 2, 1) := by decide +kernel
theorem dL_law_1373 : decode (mB NM) 1373 = .ok (.iadd, 1) := by decide +kernel
theorem dL_law_1374 : decode (mB NM) 1374 = .ok (.iaload, 1) := by decide +kernel
theorem dL_law_1375 : decode (mB NM) 1375 = .ok (.invokevirtual 174, 3) := by decide +kernel
theorem dL_law_1378 : decode (mB NM) 1378 = .ok (.aload_n 2, 1) := by decide +kernel
theorem dL_law_1379 : decode (mB NM) 1379 = .ok (.aload_n 0, 1) := by decide +kernel
theorem dL_law_1380 : decode (mB NM) 1380 = .ok (.iload_n 3, 1) := by decide +kernel
theorem dL_law_1381 : decode (mB NM) 1381 = .ok (.iconst 1, 1) := by decide +kernel
theorem dL_law_1382 : decode (mB NM) 1382 = .ok (.iadd, 1) := by decide +kernel
theorem dL_law_1383 : decode (mB NM) 1383 = .ok (.iaload, 1) := by decide +kernel
theorem dL_law_1384 : decode (mB NM) 1384 = .ok (.aload_n 0, 1) := by decide +kernel
theorem dL_law_1385 : decode (mB NM) 1385 = .ok (.iload_n 3, 1) := by decide +kernel
theorem dL_law_1386 : decode (mB NM) 1386 = .ok (.iconst 2, 1) := by decide +kernel
theorem dL_law_1387 : decode (mB NM) 1387 = .ok (.iadd, 1) := by decide +kernel
theorem dL_law_1388 : decode (mB NM) 1388 = .ok (.iaload, 1) := by decide +kernel
theorem dL_law_1389 : decode (mB NM) 1389 = .ok (.invokevirtual 177, 3) := by decide +kernel
theorem dL_law_1392 : decode (mB NM) 1392 = .ok (.lcmp, 1) := by decide +kernel
theorem dL_law_1393 : decode (mB NM) 1393 = .ok (.ifCond .eq 124, 3) := by decide +kernel
theorem dL_law_1396 : decode (mB NM) 1396 = .ok (.iconst 0, 1) := by decide +kernel
theorem dL_law_1397 : decode (mB NM) 1397 = .ok (.ireturn, 1) := by decide +kernel
theorem dL_law_1398 : decode (mB NM) 1398 = .ok (.aload_n 1, 1) := by decide +kernel
theorem dL_law_1399 : decode (mB NM) 1399 = .ok (.aload_n 0, 1) := by decide +kernel
theorem dL_law_1400 : decode (mB NM) 1400 = .ok (.iload_n 3, 1) := by decide +kernel
theorem dL_law_1401 : decode (mB NM) 1401 = .ok (.iconst 1, 1) := by decide +kernel
theorem dL_law_1402 : decode (mB NM) 1402 = .ok (.iadd, 1) := by decide +kernel
theorem dL_law_1403 : decode (mB NM) 1403 = .ok (.iaload, 1) := by decide +kernel
theorem dL_law_1404 : decode (mB NM) 1404 = .ok (.aload_n 0, 1) := by decide +kernel
theorem dL_law_1405 : decode (mB NM) 1405 = .ok (.iload_n 3, 1) := by decide +kernel
theorem dL_law_1406 : decode (mB NM) 1406 = .ok (.iconst 2, 1) := by decide +kernel
theorem dL_law_1407 : decode (mB NM) 1407 = .ok (.iadd, 1) := by decide +kernel
theorem dL_law_1408 : decode (mB NM) 1408 = .ok (.iaload, 1) := by decide +kernel
theorem dL_law_1409 : decode (mB NM) 1409 = .ok (.aload_n 0, 1) := by decide +kernel
theorem dL_law_1410 : decode (mB NM) 1410 = .ok (.iload_n 3, 1) := by decide +kernel
theorem dL_law_1411 : decode (mB NM) 1411 = .ok (.iconst 3, 1) := by decide +kernel
theorem dL_law_1412 : decode (mB NM) 1412 = .ok (.iadd, 1) := by decide +kernel
theorem dL_law_1413 : decode (mB NM) 1413 = .ok (.iaload, 1) := by decide +kernel
theorem dL_law_1414 : decode (mB NM) 1414 = .ok (.aload_n 0, 1) := by decide +kernel
theorem dL_law_1415 : decode (mB NM) 1415 = .ok (.iload_n 3, 1) := by decide +kernel
theorem dL_law_1416 : decode (mB NM) 1416 = .ok (.iconst 4, 1) := by decide +kernel
theorem dL_law_1417 : decode (mB NM) 1417 = .ok (.iadd, 1) := by decide +kernel
theorem dL_law_1418 : decode (mB NM) 1418 = .ok (.iaload, 1) := by decide +kernel
theorem dL_law_1419 : decode (mB NM) 1419 = .ok (.aload_n 0, 1) := by decide +kernel
theorem dL_law_1420 : decode (mB NM) 1420 = .ok (.iload_n 3, 1) := by decide +kernel
theorem dL_law_1421 : decode (mB NM) 1421 = .ok (.iconst 5, 1) := by decide +kernel
theorem dL_law_1422 : decode (mB NM) 1422 = .ok (.iadd, 1) := by decide +kernel
theorem dL_law_1423 : decode (mB NM) 1423 = .ok (.iaload, 1) := by decide +kernel
theorem dL_law_1424 : decode (mB NM) 1424 = .ok (.invokevirtual 178, 3) := by decide +kernel
theorem dL_law_1427 : decode (mB NM) 1427 = .ok (.aload_n 2, 1) := by decide +kernel
theorem dL_law_1428 : decode (mB NM) 1428 = .ok (.aload_n 0, 1) := by decide +kernel
theorem dL_law_1429 : decode (mB NM) 1429 = .ok (.iload_n 3, 1) := by decide +kernel
theorem dL_law_1430 : decode (mB NM) 1430 = .ok (.iconst 1, 1) := by decide +kernel
theorem dL_law_1431 : decode (mB NM) 1431 = .ok (.iadd, 1) := by decide +kernel
theorem dL_law_1432 : decode (mB NM) 1432 = .ok (.iaload, 1) := by decide +kernel
theorem dL_law_1433 : decode (mB NM) 1433 = .ok (.aload_n 0, 1) := by decide +kernel
theorem dL_law_1434 : decode (mB NM) 1434 = .ok (.iload_n 3, 1) := by decide +kernel
theorem dL_law_1435 : decode (mB NM) 1435 = .ok (.iconst 2, 1) := by decide +kernel
theorem dL_law_1436 : decode (mB NM) 1436 = .ok (.iadd, 1) := by decide +kernel
theorem dL_law_1437 : decode (mB NM) 1437 = .ok (.iaload, 1) := by decide +kernel
theorem dL_law_1438 : decode (mB NM) 1438 = .ok (.aload_n 0, 1) := by decide +kernel
theorem dL_law_1439 : decode (mB NM) 1439 = .ok (.iload_n 3, 1) := by decide +kernel
theorem dL_law_1440 : decode (mB NM) 1440 = .ok (.iconst 3, 1) := by decide +kernel
theorem dL_law_1441 : decode (mB NM) 1441 = .ok (.iadd, 1) := by decide +kernel
theorem dL_law_1442 : decode (mB NM) 1442 = .ok (.iaload, 1) := by decide +kernel
theorem dL_law_1443 : decode (mB NM) 1443 = .ok (.aload_n 0, 1) := by decide +kernel
theorem dL_law_1444 : decode (mB NM) 1444 = .ok (.iload_n 3, 1) := by decide +kernel
theorem dL_law_1445 : decode (mB NM) 1445 = .ok (.iconst 4, 1) := by decide +kernel
theorem dL_law_1446 : decode (mB NM) 1446 = .ok (.iadd, 1) := by decide +kernel
theorem dL_law_1447 : decode (mB NM) 1447 = .ok (.iaload, 1) := by decide +kernel
theorem dL_law_1448 : decode (mB NM) 1448 = .ok (.aload_n 0, 1) := by decide +kernel
theorem dL_law_1449 : decode (mB NM) 1449 = .ok (.iload_n 3, 1) := by decide +kernel
theorem dL_law_1450 : decode (mB NM) 1450 = .ok (.iconst 5, 1) := by decide +kernel
theorem dL_law_1451 : decode (mB NM) 1451 = .ok (.iadd, 1) := by decide +kernel
theorem dL_law_1452 : decode (mB NM) 1452 = .ok (.iaload, 1) := by decide +kernel
theorem dL_law_1453 : decode (mB NM) 1453 = .ok (.invokevirtual 182, 3) := by decide +kernel
theorem dL_law_1456 : decode (mB NM) 1456 = .ok (.if_icmp .eq 61, 3) := by decide +kernel
theorem dL_law_1459 : decode (mB NM) 1459 = .ok (.iconst 0, 1) := by decide +kernel
theorem dL_law_1460 : decode (mB NM) 1460 = .ok (.ireturn, 1) := by decide +kernel
theorem dL_law_1461 : decode (mB NM) 1461 = .ok (.aload_n 1, 1) := by decide +kernel
theorem dL_law_1462 : decode (mB NM) 1462 = .ok (.aload_n 0, 1) := by decide +kernel
theorem dL_law_1463 : decode (mB NM) 1463 = .ok (.iload_n 3, 1) := by decide +kernel
theorem dL_law_1464 : decode (mB NM) 1464 = .ok (.iconst 1, 1) := by decide +kernel
theorem dL_law_1465 : decode (mB NM) 1465 = .ok (.iadd, 1) := by decide +kernel
theorem dL_law_1466 : decode (mB NM) 1466 = .ok (.iaload, 1) := by decide +kernel
theorem dL_law_1467 : decode (mB NM) 1467 = .ok (.aload_n 0, 1) := by decide +kernel
theorem dL_law_1468 : decode (mB NM) 1468 = .ok (.iload_n 3, 1) := by decide +kernel
theorem dL_law_1469 : decode (mB NM) 1469 = .ok (.iconst 2, 1) := by decide +kernel
theorem dL_law_1470 : decode (mB NM) 1470 = .ok (.iadd, 1) := by decide +kernel
theorem dL_law_1471 : decode (mB NM) 1471 = .ok (.iaload, 1) := by decide +kernel
theorem dL_law_1472 : decode (mB NM) 1472 = .ok (.invokevirtual 183, 3) := by decide +kernel
theorem dL_law_1475 : decode (mB NM) 1475 = .ok (.aload_n 2, 1) := by decide +kernel
theorem dL_law_1476 : decode (mB NM) 1476 = .ok (.aload_n 0, 1) := by decide +kernel
theorem dL_law_1477 : decode (mB NM) 1477 = .ok (.iload_n 3, 1) := by decide +kernel
theorem dL_law_1478 : decode (mB NM) 1478 = .ok (.iconst 1, 1) := by decide +kernel
theorem dL_law_1479 : decode (mB NM) 1479 = .ok (.iadd, 1) := by decide +kernel
theorem dL_law_1480 : decode (mB NM) 1480 = .ok (.iaload, 1) := by decide +kernel
theorem dL_law_1481 : decode (mB NM) 1481 = .ok (.aload_n 0, 1) := by decide +kernel
theorem dL_law_1482 : decode (mB NM) 1482 = .ok (.iload_n 3, 1) := by decide +kernel
theorem dL_law_1483 : decode (mB NM) 1483 = .ok (.iconst 2, 1) := by decide +kernel
theorem dL_law_1484 : decode (mB NM) 1484 = .ok (.iadd, 1) := by decide +kernel
theorem dL_law_1485 : decode (mB NM) 1485 = .ok (.iaload, 1) := by decide +kernel
theorem dL_law_1486 : decode (mB NM) 1486 = .ok (.invokevirtual 186, 3) := by decide +kernel
theorem dL_law_1489 : decode (mB NM) 1489 = .ok (.if_icmp .eq 28, 3) := by decide +kernel
theorem dL_law_1492 : decode (mB NM) 1492 = .ok (.iconst 0, 1) := by decide +kernel
theorem dL_law_1493 : decode (mB NM) 1493 = .ok (.ireturn, 1) := by decide +kernel
theorem dL_law_1494 : decode (mB NM) 1494 = .ok (.aload_n 1, 1) := by decide +kernel
theorem dL_law_1495 : decode (mB NM) 1495 = .ok (.aload_n 0, 1) := by decide +kernel
theorem dL_law_1496 : decode (mB NM) 1496 = .ok (.iload_n 3, 1) := by decide +kernel
theorem dL_law_1497 : decode (mB NM) 1497 = .ok (.iconst 1, 1) := by decide +kernel
theorem dL_law_1498 : decode (mB NM) 1498 = .ok (.iadd, 1) := by decide +kernel
theorem dL_law_1499 : decode (mB NM) 1499 = .ok (.iaload, 1) := by decide +kernel
theorem dL_law_1500 : decode (mB NM) 1500 = .ok (.invokevirtual 187, 3) := by decide +kernel
theorem dL_law_1503 : decode (mB NM) 1503 = .ok (.aload_n 2, 1) := by decide +kernel
theorem dL_law_1504 : decode (mB NM) 1504 = .ok (.aload_n 0, 1) := by decide +kernel
theorem dL_law_1505 : decode (mB NM) 1505 = .ok (.iload_n 3, 1) := by decide +kernel
theorem dL_law_1506 : decode (mB NM) 1506 = .ok (.iconst 1, 1) := by decide +kernel
theorem dL_law_1507 : decode (mB NM) 1507 = .ok (.iadd, 1) := by decide +kernel
theorem dL_law_1508 : decode (mB NM) 1508 = .ok (.iaload, 1) := by decide +kernel
theorem dL_law_1509 : decode (mB NM) 1509 = .ok (.invokevirtual 190, 3) := by decide +kernel
theorem dL_law_1512 : decode (mB NM) 1512 = .ok (.if_icmp .eq 5, 3) := by decide +kernel
theorem dL_law_1515 : decode (mB NM) 1515 = .ok (.iconst 0, 1) := by decide +kernel
theorem dL_law_1516 : decode (mB NM) 1516 = .ok (.ireturn, 1) := by decide +kernel
theorem dL_law_1517 : decode (mB NM) 1517 = .ok (.iinc 3 6, 3) := by decide +kernel
theorem dL_law_1520 : decode (mB NM) 1520 = .ok (.goto (-1502), 3) := by decide +kernel
theorem dL_law_1523 : decode (mB NM) 1523 = .ok (.iconst 1, 1) := by decide +kernel
theorem dL_law_1524 : decode (mB NM) 1524 = .ok (.ireturn, 1) := by decide +kernel
