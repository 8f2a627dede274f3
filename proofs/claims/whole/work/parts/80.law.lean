theorem dk_La_law_16 : decode mi_La_law.2.1 16 = .ok (.iconst 0, 1) := by decide +kernel
theorem dk_La_law_17 : decode mi_La_law.2.1 17 = .ok (.istore_n 3, 1) := by decide +kernel
theorem dk_La_law_18 : decode mi_La_law.2.1 18 = .ok (.iload_n 3, 1) := by decide +kernel
theorem dk_La_law_19 : decode mi_La_law.2.1 19 = .ok (.aload_n 0, 1) := by decide +kernel
theorem dk_La_law_20 : decode mi_La_law.2.1 20 = .ok (.arraylength, 1) := by decide +kernel
theorem dk_La_law_21 : decode mi_La_law.2.1 21 = .ok (.bipush 6, 2) := by decide +kernel
theorem dk_La_law_23 : decode mi_La_law.2.1 23 = .ok (.isub, 1) := by decide +kernel
theorem dk_La_law_24 : decode mi_La_law.2.1 24 = .ok (.if_icmp .gt 1551, 3) := by decide +kernel
theorem dk_La_law_27 : decode mi_La_law.2.1 27 = .ok (.aload_n 0, 1) := by decide +kernel
theorem dk_La_law_28 : decode mi_La_law.2.1 28 = .ok (.iload_n 3, 1) := by decide +kernel
theorem dk_La_law_29 : decode mi_La_law.2.1 29 = .ok (.iaload, 1) := by decide +kernel
theorem dk_La_law_30 : decode mi_La_law.2.1 30 = .ok (.bipush 63, 2) := by decide +kernel
theorem dk_La_law_32 : decode mi_La_law.2.1 32 = .ok (.iand, 1) := by decide +kernel
theorem dk_La_law_33 : decode mi_La_law.2.1 33 = .ok (.tableswitch 1536 0 43 #[191, 234, 307, 370, 404, 437, 460, 493, 536, 559, 618, 677, 710, 743, 766, 779, 802, 815, 838, 861, 884, 907, 920, 943, 966, 979, 1012, 1055, 1098, 1131, 1174, 1207, 1250, 1283, 1316, 1349, 1362, 1375, 1398, 1421, 1464, 1487, 1500, 1513], 191) := by decide +kernel
theorem dk_La_law_224 : decode mi_La_law.2.1 224 = .ok (.aload_n 1, 1) := by decide +kernel
theorem dk_La_law_225 : decode mi_La_law.2.1 225 = .ok (.aload_n 0, 1) := by decide +kernel
theorem dk_La_law_226 : decode mi_La_law.2.1 226 = .ok (.iload_n 3, 1) := by decide +kernel
theorem dk_La_law_227 : decode mi_La_law.2.1 227 = .ok (.iconst 1, 1) := by decide +kernel
theorem dk_La_law_228 : decode mi_La_law.2.1 228 = .ok (.iadd, 1) := by decide +kernel
theorem dk_La_law_229 : decode mi_La_law.2.1 229 = .ok (.iaload, 1) := by decide +kernel
theorem dk_La_law_230 : decode mi_La_law.2.1 230 = .ok (.aload_n 0, 1) := by decide +kernel
theorem dk_La_law_231 : decode mi_La_law.2.1 231 = .ok (.iload_n 3, 1) := by decide +kernel
theorem dk_La_law_232 : decode mi_La_law.2.1 232 = .ok (.iconst 2, 1) := by decide +kernel
theorem dk_La_law_233 : decode mi_La_law.2.1 233 = .ok (.iadd, 1) := by decide +kernel
theorem dk_La_law_234 : decode mi_La_law.2.1 234 = .ok (.iaload, 1) := by decide +kernel
theorem dk_La_law_235 : decode mi_La_law.2.1 235 = .ok (.aload_n 0, 1) := by decide +kernel
theorem dk_La_law_236 : decode mi_La_law.2.1 236 = .ok (.iload_n 3, 1) := by decide +kernel
theorem dk_La_law_237 : decode mi_La_law.2.1 237 = .ok (.iconst 3, 1) := by decide +kernel
theorem dk_La_law_238 : decode mi_La_law.2.1 238 = .ok (.iadd, 1) := by decide +kernel
theorem dk_La_law_239 : decode mi_La_law.2.1 239 = .ok (.iaload, 1) := by decide +kernel
theorem dk_La_law_240 : decode mi_La_law.2.1 240 = .ok (.invokevirtual 13, 3) := by decide +kernel
theorem dk_La_law_243 : decode mi_La_law.2.1 243 = .ok (.aload_n 2, 1) := by decide +kernel
theorem dk_La_law_244 : decode mi_La_law.2.1 244 = .ok (.aload_n 0, 1) := by decide +kernel
theorem dk_La_law_245 : decode mi_La_law.2.1 245 = .ok (.iload_n 3, 1) := by decide +kernel
theorem dk_La_law_246 : decode mi_La_law.2.1 246 = .ok (.iconst 1, 1) := by decide +kernel
theorem dk_La_law_247 : decode mi_La_law.2.1 247 = .ok (.iadd, 1) := by decide +kernel
theorem dk_La_law_248 : decode mi_La_law.2.1 248 = .ok (.iaload, 1) := by decide +kernel
theorem dk_La_law_249 : decode mi_La_law.2.1 249 = .ok (.aload_n 0, 1) := by decide +kernel
theorem dk_La_law_250 : decode mi_La_law.2.1 250 = .ok (.iload_n 3, 1) := by decide +kernel
theorem dk_La_law_251 : decode mi_La_law.2.1 251 = .ok (.iconst 2, 1) := by decide +kernel
theorem dk_La_law_252 : decode mi_La_law.2.1 252 = .ok (.iadd, 1) := by decide +kernel
theorem dk_La_law_253 : decode mi_La_law.2.1 253 = .ok (.iaload, 1) := by decide +kernel
theorem dk_La_law_254 : decode mi_La_law.2.1 254 = .ok (.aload_n 0, 1) := by decide +kernel
theorem dk_La_law_255 : decode mi_La_law.2.1 255 = .ok (.iload_n 3, 1) := by decide +kernel
theorem dk_La_law_256 : decode mi_La_law.2.1 256 = .ok (.iconst 3, 1) := by decide +kernel
theorem dk_La_law_257 : decode mi_La_law.2.1 257 = .ok (.iadd, 1) := by decide +kernel
theorem dk_La_law_258 : decode mi_La_law.2.1 258 = .ok (.iaload, 1) := by decide +kernel
theorem dk_La_law_259 : decode mi_La_law.2.1 259 = .ok (.invokevirtual 17, 3) := by decide +kernel
theorem dk_La_law_262 : decode mi_La_law.2.1 262 = .ok (.if_icmp .eq 1307, 3) := by decide +kernel
theorem dk_La_law_265 : decode mi_La_law.2.1 265 = .ok (.iconst 0, 1) := by decide +kernel
theorem dk_La_law_266 : decode mi_La_law.2.1 266 = .ok (.ireturn, 1) := by decide +kernel
theorem dk_La_law_267 : decode mi_La_law.2.1 267 = .ok (.aload_n 1, 1) := by decide +kernel
theorem dk_La_law_268 : decode mi_La_law.2.1 268 = .ok (.aload_n 0, 1) := by decide +kernel
theorem dk_La_law_269 : decode mi_La_law.2.1 269 = .ok (.iload_n 3, 1) := by decide +kernel
theorem dk_La_law_270 : decode mi_La_law.2.1 270 = .ok (.iconst 1, 1) := by decide +kernel
theorem dk_La_law_271 : decode mi_La_law.2.1 271 = .ok (.iadd, 1) := by decide +kernel
theorem dk_La_law_272 : decode mi_La_law.2.1 272 = .ok (.iaload, 1) := by decide +kernel
theorem dk_La_law_273 : decode mi_La_law.2.1 273 = .ok (.aload_n 0, 1) := by decide +kernel
theorem dk_La_law_274 : decode mi_La_law.2.1 274 = .ok (.iload_n 3, 1) := by decide +kernel
theorem dk_La_law_275 : decode mi_La_law.2.1 275 = .ok (.iconst 2, 1) := by decide +kernel
theorem dk_La_law_276 : decode mi_La_law.2.1 276 = .ok (.iadd, 1) := by decide +kernel
theorem dk_La_law_277 : decode mi_La_law.2.1 277 = .ok (.iaload, 1) := by decide +kernel
theorem dk_La_law_278 : decode mi_La_law.2.1 278 = .ok (.aload_n 0, 1) := by decide +kernel
theorem dk_La_law_279 : decode mi_La_law.2.1 279 = .ok (.iload_n 3, 1) := by decide +kernel
theorem dk_La_law_280 : decode mi_La_law.2.1 280 = .ok (.iconst 3, 1) := by decide +kernel
theorem dk_La_law_281 : decode mi_La_law.2.1 281 = .ok (.iadd, 1) := by decide +kernel
theorem dk_La_law_282 : decode mi_La_law.2.1 282 = .ok (.iaload, 1) := by decide +kernel
theorem dk_La_law_283 : decode mi_La_law.2.1 283 = .ok (.i2l, 1) := by decide +kernel
theorem dk_La_law_284 : decode mi_La_law.2.1 284 = .ok (.bipush 32, 2) := by decide +kernel
theorem dk_La_law_286 : decode mi_La_law.2.1 286 = .ok (.lshl, 1) := by decide +kernel
theorem dk_La_law_287 : decode mi_La_law.2.1 287 = .ok (.aload_n 0, 1) := by decide +kernel
theorem dk_La_law_288 : decode mi_La_law.2.1 288 = .ok (.iload_n 3, 1) := by decide +kernel
theorem dk_La_law_289 : decode mi_La_law.2.1 289 = .ok (.iconst 4, 1) := by decide +kernel
theorem dk_La_law_290 : decode mi_La_law.2.1 290 = .ok (.iadd, 1) := by decide +kernel
theorem dk_La_law_291 : decode mi_La_law.2.1 291 = .ok (.iaload, 1) := by decide +kernel
theorem dk_La_law_292 : decode mi_La_law.2.1 292 = .ok (.i2l, 1) := by decide +kernel
theorem dk_La_law_293 : decode mi_La_law.2.1 293 = .ok (.ldc2_w 18, 3) := by decide +kernel
theorem dk_La_law_296 : decode mi_La_law.2.1 296 = .ok (.land, 1) := by decide +kernel
theorem dk_La_law_297 : decode mi_La_law.2.1 297 = .ok (.lor, 1) := by decide +kernel
theorem dk_La_law_298 : decode mi_La_law.2.1 298 = .ok (.invokevirtual 20, 3) := by decide +kernel
theorem dk_La_law_301 : decode mi_La_law.2.1 301 = .ok (.aload_n 2, 1) := by decide +kernel
theorem dk_La_law_302 : decode mi_La_law.2.1 302 = .ok (.aload_n 0, 1) := by decide +kernel
theorem dk_La_law_303 : decode mi_La_law.2.1 303 = .ok (.iload_n 3, 1) := by decide +kernel
theorem dk_La_law_304 : decode mi_La_law.2.1 304 = .ok (.iconst 1, 1) := by decide +kernel
theorem dk_La_law_305 : decode mi_La_law.2.1 305 = .ok (.iadd, 1) := by decide +kernel
theorem dk_La_law_306 : decode mi_La_law.2.1 306 = .ok (.iaload, 1) := by decide +kernel
theorem dk_La_law_307 : decode mi_La_law.2.1 307 = .ok (.aload_n 0, 1) := by decide +kernel
theorem dk_La_law_308 : decode mi_La_law.2.1 308 = .ok (.iload_n 3, 1) := by decide +kernel
theorem dk_La_law_309 : decode mi_La_law.2.1 309 = .ok (.iconst 2, 1) := by decide +kernel
theorem dk_La_law_310 : decode mi_La_law.2.1 310 = .ok (.iadd, 1) := by decide +kernel
theorem dk_La_law_311 : decode mi_La_law.2.1 311 = .ok (.iaload, 1) := by decide +kernel
theorem dk_La_law_312 : decode mi_La_law.2.1 312 = .ok (.aload_n 0, 1) := by decide +kernel
theorem dk_La_law_313 : decode mi_La_law.2.1 313 = .ok (.iload_n 3, 1) := by decide +kernel
theorem dk_La_law_314 : decode mi_La_law.2.1 314 = .ok (.iconst 3, 1) := by decide +kernel
theorem dk_La_law_315 : decode mi_La_law.2.1 315 = .ok (.iadd, 1) := by decide +kernel
theorem dk_La_law_316 : decode mi_La_law.2.1 316 = .ok (.iaload, 1) := by decide +kernel
theorem dk_La_law_317 : decode mi_La_law.2.1 317 = .ok (.i2l, 1) := by decide +kernel
theorem dk_La_law_318 : decode mi_La_law.2.1 318 = .ok (.bipush 32, 2) := by decide +kernel
theorem dk_La_law_320 : decode mi_La_law.2.1 320 = .ok (.lshl, 1) := by decide +kernel
theorem dk_La_law_321 : decode mi_La_law.2.1 321 = .ok (.aload_n 0, 1) := by decide +kernel
theorem dk_La_law_322 : decode mi_La_law.2.1 322 = .ok (.iload_n 3, 1) := by decide +kernel
theorem dk_La_law_323 : decode mi_La_law.2.1 323 = .ok (.iconst 4, 1) := by decide +kernel
theorem dk_La_law_324 : decode mi_La_law.2.1 324 = .ok (.iadd, 1) := by decide +kernel
theorem dk_La_law_325 : decode mi_La_law.2.1 325 = .ok (.iaload, 1) := by decide +kernel
theorem dk_La_law_326 : decode mi_La_law.2.1 326 = .ok (.i2l, 1) := by decide +kernel
theorem dk_La_law_327 : decode mi_La_law.2.1 327 = .ok (.ldc2_w 18, 3) := by decide +kernel
theorem dk_La_law_330 : decode mi_La_law.2.1 330 = .ok (.land, 1) := by decide +kernel
theorem dk_La_law_331 : decode mi_La_law.2.1 331 = .ok (.lor, 1) := by decide +kernel
theorem dk_La_law_332 : decode mi_La_law.2.1 332 = .ok (.invokevirtual 24, 3) := by decide +kernel
theorem dk_La_law_335 : decode mi_La_law.2.1 335 = .ok (.if_icmp .eq 1234, 3) := by decide +kernel
theorem dk_La_law_338 : decode mi_La_law.2.1 338 = .ok (.iconst 0, 1) := by decide +kernel
theorem dk_La_law_339 : decode mi_La_law.2.1 339 = .ok (.ireturn, 1) := by decide +kernel
theorem dk_La_law_340 : decode mi_La_law.2.1 340 = .ok (.aload_n 1, 1) := by decide +kernel
theorem dk_La_law_341 : decode mi_La_law.2.1 341 = .ok (.aload_n 0, 1) := by decide +kernel
theorem dk_La_law_342 : decode mi_La_law.2.1 342 = .ok (.iload_n 3, 1) := by decide +kernel
theorem dk_La_law_343 : decode mi_La_law.2.1 343 = .ok (.iconst 1, 1) := by decide +kernel
theorem dk_La_law_344 : decode mi_La_law.2.1 344 = .ok (.iadd, 1) := by decide +kernel
theorem dk_La_law_345 : decode mi_La_law.2.1 345 = .ok (.iaload, 1) := by decide +kernel
theorem dk_La_law_346 : decode mi_La_law.2.1 346 = .ok (.aload_n 0, 1) := by decide +kernel
theorem dk_La_law_347 : decode mi_La_law.2.1 347 = .ok (.iload_n 3, 1) := by decide +kernel
theorem dk_La_law_348 : decode mi_La_law.2.1 348 = .ok (.iconst 2, 1) := by decide +kernel
theorem dk_La_law_349 : decode mi_La_law.2.1 349 = .ok (.iadd, 1) := by decide +kernel
theorem dk_La_law_350 : decode mi_La_law.2.1 350 = .ok (.iaload, 1) := by decide +kernel
theorem dk_La_law_351 : decode mi_La_law.2.1 351 = .ok (.aload_n 0, 1) := by decide +kernel
theorem dk_La_law_352 : decode mi_La_law.2.1 352 = .ok (.iload_n 3, 1) := by decide +kernel
theorem dk_La_law_353 : decode mi_La_law.2.1 353 = .ok (.iconst 3, 1) := by decide +kernel
theorem dk_La_law_354 : decode mi_La_law.2.1 354 = .ok (.iadd, 1) := by decide +kernel
theorem dk_La_law_355 : decode mi_La_law.2.1 355 = .ok (.iaload, 1) := by decide +kernel
theorem dk_La_law_356 : decode mi_La_law.2.1 356 = .ok (.aload_n 0, 1) := by decide +kernel
theorem dk_La_law_357 : decode mi_La_law.2.1 357 = .ok (.iload_n 3, 1) := by decide +kernel
theorem dk_La_law_358 : decode mi_La_law.2.1 358 = .ok (.iconst 4, 1) := by decide +kernel
theorem dk_La_law_359 : decode mi_La_law.2.1 359 = .ok (.iadd, 1) := by decide +kernel
theorem dk_La_law_360 : decode mi_La_law.2.1 360 = .ok (.iaload, 1) := by decide +kernel
theorem dk_La_law_361 : decode mi_La_law.2.1 361 = .ok (.aload_n 0, 1) := by decide +kernel
theorem dk_La_law_362 : decode mi_La_law.2.1 362 = .ok (.iload_n 3, 1) := by decide +kernel
theorem dk_La_law_363 : decode mi_La_law.2.1 363 = .ok (.iconst 5, 1) := by decide +kernel
theorem dk_La_law_364 : decode mi_La_law.2.1 364 = .ok (.iadd, 1) := by decide +kernel
theorem dk_La_law_365 : decode mi_La_law.2.1 365 = .ok (.iaload, 1) := by decide +kernel
theorem dk_La_law_366 : decode mi_La_law.2.1 366 = .ok (.invokevirtual 25, 3) := by decide +kernel
theorem dk_La_law_369 : decode mi_La_law.2.1 369 = .ok (.aload_n 2, 1) := by decide +kernel
theorem dk_La_law_370 : decode mi_La_law.2.1 370 = .ok (.aload_n 0, 1) := by decide +kernel
theorem dk_La_law_371 : decode mi_La_law.2.1 371 = .ok (.iload_n 3, 1) := by decide +kernel
theorem dk_La_law_372 : decode mi_La_law.2.1 372 = .ok (.iconst 1, 1) := by decide +kernel
theorem dk_La_law_373 : decode mi_La_law.2.1 373 = .ok (.iadd, 1) := by decide +kernel
theorem dk_La_law_374 : decode mi_La_law.2.1 374 = .ok (.iaload, 1) := by decide +kernel
theorem dk_La_law_375 : decode mi_La_law.2.1 375 = .ok (.aload_n 0, 1) := by decide +kernel
theorem dk_La_law_376 : decode mi_La_law.2.1 376 = .ok (.iload_n 3, 1) := by decide +kernel
theorem dk_La_law_377 : decode mi_La_law.2.1 377 = .ok (.iconst 2, 1) := by decide +kernel
theorem dk_La_law_378 : decode mi_La_law.2.1 378 = .ok (.iadd, 1) := by decide +kernel
theorem dk_La_law_379 : decode mi_La_law.2.1 379 = .ok (.iaload, 1) := by decide +kernel
theorem dk_La_law_380 : decode mi_La_law.2.1 380 = .ok (.aload_n 0, 1) := by decide +kernel
theorem dk_La_law_381 : decode mi_La_law.2.1 381 = .ok (.iload_n 3, 1) := by decide +kernel
theorem dk_La_law_382 : decode mi_La_law.2.1 382 = .ok (.iconst 3, 1) := by decide +kernel
theorem dk_La_law_383 : decode mi_La_law.2.1 383 = .ok (.iadd, 1) := by decide +kernel
theorem dk_La_law_384 : decode mi_La_law.2.1 384 = .ok (.iaload, 1) := by decide +kernel
theorem dk_La_law_385 : decode mi_La_law.2.1 385 = .ok (.aload_n 0, 1) := by decide +kernel
theorem dk_La_law_386 : decode mi_La_law.2.1 386 = .ok (.iload_n 3, 1) := by decide +kernel
theorem dk_La_law_387 : decode mi_La_law.2.1 387 = .ok (.iconst 4, 1) := by decide +kernel
theorem dk_La_law_388 : decode mi_La_law.2.1 388 = .ok (.iadd, 1) := by decide +kernel
theorem dk_La_law_389 : decode mi_La_law.2.1 389 = .ok (.iaload, 1) := by decide +kernel
theorem dk_La_law_390 : decode mi_La_law.2.1 390 = .ok (.aload_n 0, 1) := by decide +kernel
theorem dk_La_law_391 : decode mi_La_law.2.1 391 = .ok (.iload_n 3, 1) := by decide +kernel
theorem dk_La_law_392 : decode mi_La_law.2.1 392 = .ok (.iconst 5, 1) := by decide +kernel
theorem dk_La_law_393 : decode mi_La_law.2.1 393 = .ok (.iadd, 1) := by decide +kernel
theorem dk_La_law_394 : decode mi_La_law.2.1 394 = .ok (.iaload, 1) := by decide +kernel
theorem dk_La_law_395 : decode mi_La_law.2.1 395 = .ok (.invokevirtual 29, 3) := by decide +kernel
theorem dk_La_law_398 : decode mi_La_law.2.1 398 = .ok (.if_icmp .eq 1171, 3) := by decide +kernel
theorem dk_La_law_401 : decode mi_La_law.2.1 401 = .ok (.iconst 0, 1) := by decide +kernel
theorem dk_La_law_402 : decode mi_La_law.2.1 402 = .ok (.ireturn, 1) := by decide +kernel
theorem dk_La_law_403 : decode mi_La_law.2.1 403 = .ok (.aload_n 1, 1) := by decide +kernel
theorem dk_La_law_404 : decode mi_La_law.2.1 404 = .ok (.aload_n 0, 1) := by decide +kernel
theorem dk_La_law_405 : decode mi_La_law.2.1 405 = .ok (.iload_n 3, 1) := by decide +kernel
theorem dk_La_law_406 : decode mi_La_law.2.1 406 = .ok (.iconst 1, 1) := by decide +kernel
theorem dk_La_law_407 : decode mi_La_law.2.1 407 = .ok (.iadd, 1) := by decide +kernel
theorem dk_La_law_408 : decode mi_La_law.2.1 408 = .ok (.iaload, 1) := by decide +kernel
theorem dk_La_law_409 : decode mi_La_law.2.1 409 = .ok (.aload_n 0, 1) := by decide +kernel
theorem dk_La_law_410 : decode mi_La_law.2.1 410 = .ok (.iload_n 3, 1) := by decide +kernel
theorem dk_La_law_411 : decode mi_La_law.2.1 411 = .ok (.iconst 2, 1) := by decide +kernel
theorem dk_La_law_412 : decode mi_La_law.2.1 412 = .ok (.iadd, 1) := by decide +kernel
theorem dk_La_law_413 : decode mi_La_law.2.1 413 = .ok (.iaload, 1) := by decide +kernel
theorem dk_La_law_414 : decode mi_La_law.2.1 414 = .ok (.invokevirtual 30, 3) := by decide +kernel
theorem dk_La_law_417 : decode mi_La_law.2.1 417 = .ok (.aload_n 2, 1) := by decide +kernel
theorem dk_La_law_418 : decode mi_La_law.2.1 418 = .ok (.aload_n 0, 1) := by decide +kernel
theorem dk_La_law_419 : decode mi_La_law.2.1 419 = .ok (.iload_n 3, 1) := by decide +kernel
theorem dk_La_law_420 : decode mi_La_law.2.1 420 = .ok (.iconst 1, 1) := by decide +kernel
theorem dk_La_law_421 : decode mi_La_law.2.1 421 = .ok (.iadd, 1) := by decide +kernel
theorem dk_La_law_422 : decode mi_La_law.2.1 422 = .ok (.iaload, 1) := by decide +kernel
theorem dk_La_law_423 : decode mi_La_law.2.1 423 = .ok (.aload_n 0, 1) := by decide +kernel
theorem dk_La_law_424 : decode mi_La_law.2.1 424 = .ok (.iload_n 3, 1) := by decide +kernel
theorem dk_La_law_425 : decode mi_La_law.2.1 425 = .ok (.iconst 2, 1) := by decide +kernel
theorem dk_La_law_426 : decode mi_La_law.2.1 426 = .ok (.iadd, 1) := by decide +kernel
theorem dk_La_law_427 : decode mi_La_law.2.1 427 = .ok (.iaload, 1) := by decide +kernel
theorem dk_La_law_428 : decode mi_La_law.2.1 428 = .ok (.invokevirtual 34, 3) := by decide +kernel
theorem dk_La_law_431 : decode mi_La_law.2.1 431 = .ok (.lcmp, 1) := by decide +kernel
theorem dk_La_law_432 : decode mi_La_law.2.1 432 = .ok (.ifCond .eq 1137, 3) := by decide +kernel
theorem dk_La_law_435 : decode mi_La_law.2.1 435 = .ok (.iconst 0, 1) := by decide +kernel
theorem dk_La_law_436 : decode mi_La_law.2.1 436 = .ok (.ireturn, 1) := by decide +kernel
theorem dk_La_law_437 : decode mi_La_law.2.1 437 = .ok (.aload_n 1, 1) := by decide +kernel
theorem dk_La_law_438 : decode mi_La_law.2.1 438 = .ok (.aload_n 0, 1) := by decide +kernel
theorem dk_La_law_439 : decode mi_La_law.2.1 439 = .ok (.iload_n 3, 1) := by decide +kernel
theorem dk_La_law_440 : decode mi_La_law.2.1 440 = .ok (.iconst 1, 1) := by decide +kernel
theorem dk_La_law_441 : decode mi_La_law.2.1 441 = .ok (.iadd, 1) := by decide +kernel
theorem dk_La_law_442 : decode mi_La_law.2.1 442 = .ok (.iaload, 1) := by decide +kernel
theorem dk_La_law_443 : decode mi_La_law.2.1 443 = .ok (.aload_n 0, 1) := by decide +kernel
theorem dk_La_law_444 : decode mi_La_law.2.1 444 = .ok (.iload_n 3, 1) := by decide +kernel
theorem dk_La_law_445 : decode mi_La_law.2.1 445 = .ok (.iconst 2, 1) := by decide +kernel
theorem dk_La_law_446 : decode mi_La_law.2.1 446 = .ok (.iadd, 1) := by decide +kernel
theorem dk_La_law_447 : decode mi_La_law.2.1 447 = .ok (.iaload, 1) := by decide +kernel
theorem dk_La_law_448 : decode mi_La_law.2.1 448 = .ok (.invokevirtual 35, 3) := by decide +kernel
theorem dk_La_law_451 : decode mi_La_law.2.1 451 = .ok (.aload_n 2, 1) := by decide +kernel
theorem dk_La_law_452 : decode mi_La_law.2.1 452 = .ok (.aload_n 0, 1) := by decide +kernel
theorem dk_La_law_453 : decode mi_La_law.2.1 453 = .ok (.iload_n 3, 1) := by decide +kernel
theorem dk_La_law_454 : decode mi_La_law.2.1 454 = .ok (.iconst 1, 1) := by decide +kernel
theorem dk_La_law_455 : decode mi_La_law.2.1 455 = .ok (.iadd, 1) := by decide +kernel
theorem dk_La_law_456 : decode mi_La_law.2.1 456 = .ok (.iaload, 1) := by decide +kernel
theorem dk_La_law_457 : decode mi_La_law.2.1 457 = .ok (.aload_n 0, 1) := by decide +kernel
theorem dk_La_law_458 : decode mi_La_law.2.1 458 = .ok (.iload_n 3, 1) := by decide +kernel
theorem dk_La_law_459 : decode mi_La_law.2.1 459 = .ok (.iconst 2, 1) := by decide +kernel
theorem dk_La_law_460 : decode mi_La_law.2.1 460 = .ok (.iadd, 1) := by decide +kernel
theorem dk_La_law_461 : decode mi_La_law.2.1 461 = .ok (.iaload, 1) := by decide +kernel
theorem dk_La_law_462 : decode mi_La_law.2.1 462 = .ok (.invokevirtual 39, 3) := by decide +kernel
theorem dk_La_law_465 : decode mi_La_law.2.1 465 = .ok (.if_icmp .eq 1104, 3) := by decide +kernel
theorem dk_La_law_468 : decode mi_La_law.2.1 468 = .ok (.iconst 0, 1) := by decide +kernel
theorem dk_La_law_469 : decode mi_La_law.2.1 469 = .ok (.ireturn, 1) := by decide +kernel
theorem dk_La_law_470 : decode mi_La_law.2.1 470 = .ok (.aload_n 1, 1) := by decide +kernel
theorem dk_La_law_471 : decode mi_La_law.2.1 471 = .ok (.aload_n 0, 1) := by decide +kernel
theorem dk_La_law_472 : decode mi_La_law.2.1 472 = .ok (.iload_n 3, 1) := by decide +kernel
theorem dk_La_law_473 : decode mi_La_law.2.1 473 = .ok (.iconst 1, 1) := by decide +kernel
theorem dk_La_law_474 : decode mi_La_law.2.1 474 = .ok (.iadd, 1) := by decide +kernel
theorem dk_La_law_475 : decode mi_La_law.2.1 475 = .ok (.iaload, 1) := by decide +kernel
theorem dk_La_law_476 : decode mi_La_law.2.1 476 = .ok (.invokevirtual 40, 3) := by decide +kernel
theorem dk_La_law_479 : decode mi_La_law.2.1 479 = .ok (.aload_n 2, 1) := by decide +kernel
theorem dk_La_law_480 : decode mi_La_law.2.1 480 = .ok (.aload_n 0, 1) := by decide +kernel
theorem dk_La_law_481 : decode mi_La_law.2.1 481 = .ok (.iload_n 3, 1) := by decide +kernel
theorem dk_La_law_482 : decode mi_La_law.2.1 482 = .ok (.iconst 1, 1) := by decide +kernel
theorem dk_La_law_483 : decode mi_La_law.2.1 483 = .ok (.iadd, 1) := by decide +kernel
theorem dk_La_law_484 : decode mi_La_law.2.1 484 = .ok (.iaload, 1) := by decide +kernel
theorem dk_La_law_485 : decode mi_La_law.2.1 485 = .ok (.invokevirtual 44, 3) := by decide +kernel
theorem dk_La_law_488 : decode mi_La_law.2.1 488 = .ok (.if_icmp .eq 1081, 3) := by decide +kernel
theorem dk_La_law_491 : decode mi_La_law.2.1 491 = .ok (.iconst 0, 1) := by decide +kernel
theorem dk_La_law_492 : decode mi_La_law.2.1 492 = .ok (.ireturn, 1) := by decide +kernel
theorem dk_La_law_493 : decode mi_La_law.2.1 493 = .ok (.aload_n 1, 1) := by decide +kernel
theorem dk_La_law_494 : decode mi_La_law.2.1 494 = .ok (.aload_n 0, 1) := by decide +kernel
theorem dk_La_law_495 : decode mi_La_law.2.1 495 = .ok (.iload_n 3, 1) := by decide +kernel
theorem dk_La_law_496 : decode mi_La_law.2.1 496 = .ok (.iconst 1, 1) := by decide +kernel
theorem dk_La_law_497 : decode mi_La_law.2.1 497 = .ok (.iadd, 1) := by decide +kernel
theorem dk_La_law_498 : decode mi_La_law.2.1 498 = .ok (.iaload, 1) := by decide +kernel
theorem dk_La_law_499 : decode mi_La_law.2.1 499 = .ok (.aload_n 0, 1) := by decide +kernel
theorem dk_La_law_500 : decode mi_La_law.2.1 500 = .ok (.iload_n 3, 1) := by decide +kernel
theorem dk_La_law_501 : decode mi_La_law.2.1 501 = .ok (.iconst 2, 1) := by decide +kernel
theorem dk_La_law_502 : decode mi_La_law.2.1 502 = .ok (.iadd, 1) := by decide +kernel
theorem dk_La_law_503 : decode mi_La_law.2.1 503 = .ok (.iaload, 1) := by decide +kernel
theorem dk_La_law_504 : decode mi_La_law.2.1 504 = .ok (.invokevirtual 45, 3) := by decide +kernel
theorem dk_La_law_507 : decode mi_La_law.2.1 507 = .ok (.aload_n 2, 1) := by decide +kernel
theorem dk_La_law_508 : decode mi_La_law.2.1 508 = .ok (.aload_n 0, 1) := by decide +kernel
theorem dk_La_law_509 : decode mi_La_law.2.1 509 = .ok (.iload_n 3, 1) := by decide +kernel
theorem dk_La_law_510 : decode mi_La_law.2.1 510 = .ok (.iconst 1, 1) := by decide +kernel
theorem dk_La_law_511 : decode mi_La_law.2.1 511 = .ok (.iadd, 1) := by decide +kernel
theorem dk_La_law_512 : decode mi_La_law.2.1 512 = .ok (.iaload, 1) := by decide +kernel
theorem dk_La_law_513 : decode mi_La_law.2.1 513 = .ok (.aload_n 0, 1) := by decide +kernel
theorem dk_La_law_514 : decode mi_La_law.2.1 514 = .ok (.iload_n 3, 1) := by decide +kernel
theorem dk_La_law_515 : decode mi_La_law.2.1 515 = .ok (.iconst 2, 1) := by decide +kernel
theorem dk_La_law_516 : decode mi_La_law.2.1 516 = .ok (.iadd, 1) := by decide +kernel
theorem dk_La_law_517 : decode mi_La_law.2.1 517 = .ok (.iaload, 1) := by decide +kernel
theorem dk_La_law_518 : decode mi_La_law.2.1 518 = .ok (.invokevirtual 48, 3) := by decide +kernel
theorem dk_La_law_521 : decode mi_La_law.2.1 521 = .ok (.if_icmp .eq 1048, 3) := by decide +kernel
theorem dk_La_law_524 : decode mi_La_law.2.1 524 = .ok (.iconst 0, 1) := by decide +kernel
theorem dk_La_law_525 : decode mi_La_law.2.1 525 = .ok (.ireturn, 1) := by decide +kernel
theorem dk_La_law_526 : decode mi_La_law.2.1 526 = .ok (.aload_n 1, 1) := by decide +kernel
theorem dk_La_law_527 : decode mi_La_law.2.1 527 = .ok (.aload_n 0, 1) := by decide +kernel
theorem dk_La_law_528 : decode mi_La_law.2.1 528 = .ok (.iload_n 3, 1) := by decide +kernel
theorem dk_La_law_529 : decode mi_La_law.2.1 529 = .ok (.iconst 1, 1) := by decide +kernel
theorem dk_La_law_530 : decode mi_La_law.2.1 530 = .ok (.iadd, 1) := by decide +kernel
theorem dk_La_law_531 : decode mi_La_law.2.1 531 = .ok (.iaload, 1) := by decide +kernel
theorem dk_La_law_532 : decode mi_La_law.2.1 532 = .ok (.aload_n 0, 1) := by decide +kernel
theorem dk_La_law_533 : decode mi_La_law.2.1 533 = .ok (.iload_n 3, 1) := by decide +kernel
theorem dk_La_law_534 : decode mi_La_law.2.1 534 = .ok (.iconst 2, 1) := by decide +kernel
theorem dk_La_law_535 : decode mi_La_law.2.1 535 = .ok (.iadd, 1) := by decide +kernel
theorem dk_La_law_536 : decode mi_La_law.2.1 536 = .ok (.iaload, 1) := by decide +kernel
theorem dk_La_law_537 : decode mi_La_law.2.1 537 = .ok (.aload_n 0, 1) := by decide +kernel
theorem dk_La_law_538 : decode mi_La_law.2.1 538 = .ok (.iload_n 3, 1) := by decide +kernel
theorem dk_La_law_539 : decode mi_La_law.2.1 539 = .ok (.iconst 3, 1) := by decide +kernel
theorem dk_La_law_540 : decode mi_La_law.2.1 540 = .ok (.iadd, 1) := by decide +kernel
theorem dk_La_law_541 : decode mi_La_law.2.1 541 = .ok (.iaload, 1) := by decide +kernel
theorem dk_La_law_542 : decode mi_La_law.2.1 542 = .ok (.invokevirtual 49, 3) := by decide +kernel
theorem dk_La_law_545 : decode mi_La_law.2.1 545 = .ok (.aload_n 2, 1) := by decide +kernel
theorem dk_La_law_546 : decode mi_La_law.2.1 546 = .ok (.aload_n 0, 1) := by decide +kernel
theorem dk_La_law_547 : decode mi_La_law.2.1 547 = .ok (.iload_n 3, 1) := by decide +kernel
theorem dk_La_law_548 : decode mi_La_law.2.1 548 = .ok (.iconst 1, 1) := by decide +kernel
theorem dk_La_law_549 : decode mi_La_law.2.1 549 = .ok (.iadd, 1) := by decide +kernel
theorem dk_La_law_550 : decode mi_La_law.2.1 550 = .ok (.iaload, 1) := by decide +kernel
theorem dk_La_law_551 : decode mi_La_law.2.1 551 = .ok (.aload_n 0, 1) := by decide +kernel
theorem dk_La_law_552 : decode mi_La_law.2.1 552 = .ok (.iload_n 3, 1) := by decide +kernel
theorem dk_La_law_553 : decode mi_La_law.2.1 553 = .ok (.iconst 2, 1) := by decide +kernel
theorem dk_La_law_554 : decode mi_La_law.2.1 554 = .ok (.iadd, 1) := by decide +kernel
theorem dk_La_law_555 : decode mi_La_law.2.1 555 = .ok (.iaload, 1) := by decide +kernel
theorem dk_La_law_556 : decode mi_La_law.2.1 556 = .ok (.aload_n 0, 1) := by decide +kernel
theorem dk_La_law_557 : decode mi_La_law.2.1 557 = .ok (.iload_n 3, 1) := by decide +kernel
theorem dk_La_law_558 : decode mi_La_law.2.1 558 = .ok (.iconst 3, 1) := by decide +kernel
theorem dk_La_law_559 : decode mi_La_law.2.1 559 = .ok (.iadd, 1) := by decide +kernel
theorem dk_La_law_560 : decode mi_La_law.2.1 560 = .ok (.iaload, 1) := by decide +kernel
theorem dk_La_law_561 : decode mi_La_law.2.1 561 = .ok (.invokevirtual 52, 3) := by decide +kernel
theorem dk_La_law_564 : decode mi_La_law.2.1 564 = .ok (.if_icmp .eq 1005, 3) := by decide +kernel
theorem dk_La_law_567 : decode mi_La_law.2.1 567 = .ok (.iconst 0, 1) := by decide +kernel
theorem dk_La_law_568 : decode mi_La_law.2.1 568 = .ok (.ireturn, 1) := by decide +kernel
theorem dk_La_law_569 : decode mi_La_law.2.1 569 = .ok (.aload_n 1, 1) := by decide +kernel
theorem dk_La_law_570 : decode mi_La_law.2.1 570 = .ok (.aload_n 0, 1) := by decide +kernel
theorem dk_La_law_571 : decode mi_La_law.2.1 571 = .ok (.iload_n 3, 1) := by decide +kernel
theorem dk_La_law_572 : decode mi_La_law.2.1 572 = .ok (.iconst 1, 1) := by decide +kernel
theorem dk_La_law_573 : decode mi_La_law.2.1 573 = .ok (.iadd, 1) := by decide +kernel
theorem dk_La_law_574 : decode mi_La_law.2.1 574 = .ok (.iaload, 1) := by decide +kernel
theorem dk_La_law_575 : decode mi_La_law.2.1 575 = .ok (.invokevirtual 53, 3) := by decide +kernel
theorem dk_La_law_578 : decode mi_La_law.2.1 578 = .ok (.aload_n 2, 1) := by decide +kernel
theorem dk_La_law_579 : decode mi_La_law.2.1 579 = .ok (.aload_n 0, 1) := by decide +kernel
theorem dk_La_law_580 : decode mi_La_law.2.1 580 = .ok (.iload_n 3, 1) := by decide +kernel
theorem dk_La_law_581 : decode mi_La_law.2.1 581 = .ok (.iconst 1, 1) := by decide +kernel
theorem dk_La_law_582 : decode mi_La_law.2.1 582 = .ok (.iadd, 1) := by decide +kernel
theorem dk_La_law_583 : decode mi_La_law.2.1 583 = .ok (.iaload, 1) := by decide +kernel
theorem dk_La_law_584 : decode mi_La_law.2.1 584 = .ok (.invokevirtual 56, 3) := by decide +kernel
theorem dk_La_law_587 : decode mi_La_law.2.1 587 = .ok (.if_icmp .eq 982, 3) := by decide +kernel
theorem dk_La_law_590 : decode mi_La_law.2.1 590 = .ok (.iconst 0, 1) := by decide +kernel
theorem dk_La_law_591 : decode mi_La_law.2.1 591 = .ok (.ireturn, 1) := by decide +kernel
theorem dk_La_law_592 : decode mi_La_law.2.1 592 = .ok (.aload_n 1, 1) := by decide +kernel
theorem dk_La_law_593 : decode mi_La_law.2.1 593 = .ok (.aload_n 0, 1) := by decide +kernel
theorem dk_La_law_594 : decode mi_La_law.2.1 594 = .ok (.iload_n 3, 1) := by decide +kernel
theorem dk_La_law_595 : decode mi_La_law.2.1 595 = .ok (.iconst 1, 1) := by decide +kernel
theorem dk_La_law_596 : decode mi_La_law.2.1 596 = .ok (.iadd, 1) := by decide +kernel
theorem dk_La_law_597 : decode mi_La_law.2.1 597 = .ok (.iaload, 1) := by decide +kernel
theorem dk_La_law_598 : decode mi_La_law.2.1 598 = .ok (.aload_n 0, 1) := by decide +kernel
theorem dk_La_law_599 : decode mi_La_law.2.1 599 = .ok (.iload_n 3, 1) := by decide +kernel
theorem dk_La_law_600 : decode mi_La_law.2.1 600 = .ok (.iconst 2, 1) := by decide +kernel
theorem dk_La_law_601 : decode mi_La_law.2.1 601 = .ok (.iadd, 1) := by decide +kernel
theorem dk_La_law_602 : decode mi_La_law.2.1 602 = .ok (.iaload, 1) := by decide +kernel
theorem dk_La_law_603 : decode mi_La_law.2.1 603 = .ok (.aload_n 0, 1) := by decide +kernel
theorem dk_La_law_604 : decode mi_La_law.2.1 604 = .ok (.iload_n 3, 1) := by decide +kernel
theorem dk_La_law_605 : decode mi_La_law.2.1 605 = .ok (.iconst 3, 1) := by decide +kernel
theorem dk_La_law_606 : decode mi_La_law.2.1 606 = .ok (.iadd, 1) := by decide +kernel
theorem dk_La_law_607 : decode mi_La_law.2.1 607 = .ok (.iaload, 1) := by decide +kernel
theorem dk_La_law_608 : decode mi_La_law.2.1 608 = .ok (.ifCond .eq 7, 3) := by decide +kernel
theorem dk_La_law_611 : decode mi_La_law.2.1 611 = .ok (.iconst 1, 1) := by decide +kernel
theorem dk_La_law_612 : decode mi_La_law.2.1 612 = .ok (.goto 4, 3) := by decide +kernel
theorem dk_La_law_615 : decode mi_La_law.2.1 615 = .ok (.iconst 0, 1) := by decide +kernel
theorem dk_La_law_616 : decode mi_La_law.2.1 616 = .ok (.invokevirtual 57, 3) := by decide +kernel
theorem dk_La_law_619 : decode mi_La_law.2.1 619 = .ok (.aload_n 2, 1) := by decide +kernel
theorem dk_La_law_620 : decode mi_La_law.2.1 620 = .ok (.aload_n 0, 1) := by decide +kernel
theorem dk_La_law_621 : decode mi_La_law.2.1 621 = .ok (.iload_n 3, 1) := by decide +kernel
theorem dk_La_law_622 : decode mi_La_law.2.1 622 = .ok (.iconst 1, 1) := by decide +kernel
theorem dk_La_law_623 : decode mi_La_law.2.1 623 = .ok (.iadd, 1) := by decide +kernel
theorem dk_La_law_624 : decode mi_La_law.2.1 624 = .ok (.iaload, 1) := by decide +kernel
theorem dk_La_law_625 : decode mi_La_law.2.1 625 = .ok (.aload_n 0, 1) := by decide +kernel
theorem dk_La_law_626 : decode mi_La_law.2.1 626 = .ok (.iload_n 3, 1) := by decide +kernel
theorem dk_La_law_627 : decode mi_La_law.2.1 627 = .ok (.iconst 2, 1) := by decide +kernel
theorem dk_La_law_628 : decode mi_La_law.2.1 628 = .ok (.iadd, 1) := by decide +kernel
theorem dk_La_law_629 : decode mi_La_law.2.1 629 = .ok (.iaload, 1) := by decide +kernel
theorem dk_La_law_630 : decode mi_La_law.2.1 630 = .ok (.aload_n 0, 1) := by decide +kernel
theorem dk_La_law_631 : decode mi_La_law.2.1 631 = .ok (.iload_n 3, 1) := by decide +kernel
theorem dk_La_law_632 : decode mi_La_law.2.1 632 = .ok (.iconst 3, 1) := by decide +kernel
theorem dk_La_law_633 : decode mi_La_law.2.1 633 = .ok (.iadd, 1) := by decide +kernel
theorem dk_La_law_634 : decode mi_La_law.2.1 634 = .ok (.iaload, 1) := by decide +kernel
theorem dk_La_law_635 : decode mi_La_law.2.1 635 = .ok (.ifCond .eq 7, 3) := by decide +kernel
theorem dk_La_law_638 : decode mi_La_law.2.1 638 = .ok (.iconst 1, 1) := by decide +kernel
theorem dk_La_law_639 : decode mi_La_law.2.1 639 = .ok (.goto 4, 3) := by decide +kernel
theorem dk_La_law_642 : decode mi_La_law.2.1 642 = .ok (.iconst 0, 1) := by decide +kernel
theorem dk_La_law_643 : decode mi_La_law.2.1 643 = .ok (.invokevirtual 61, 3) := by decide +kernel
theorem dk_La_law_646 : decode mi_La_law.2.1 646 = .ok (.if_icmp .eq 923, 3) := by decide +kernel
theorem dk_La_law_649 : decode mi_La_law.2.1 649 = .ok (.iconst 0, 1) := by decide +kernel
theorem dk_La_law_650 : decode mi_La_law.2.1 650 = .ok (.ireturn, 1) := by decide +kernel
theorem dk_La_law_651 : decode mi_La_law.2.1 651 = .ok (.aload_n 1, 1) := by decide +kernel
theorem dk_La_law_652 : decode mi_La_law.2.1 652 = .ok (.aload_n 0, 1) := by decide +kernel
theorem dk_La_law_653 : decode mi_La_law.2.1 653 = .ok (.iload_n 3, 1) := by decide +kernel
theorem dk_La_law_654 : decode mi_La_law.2.1 654 = .ok (.iconst 1, 1) := by decide +kernel
theorem dk_La_law_655 : decode mi_La_law.2.1 655 = .ok (.iadd, 1) := by decide +kernel
theorem dk_La_law_656 : decode mi_La_law.2.1 656 = .ok (.iaload, 1) := by decide +kernel
theorem dk_La_law_657 : decode mi_La_law.2.1 657 = .ok (.aload_n 0, 1) := by decide +kernel
theorem dk_La_law_658 : decode mi_La_law.2.1 658 = .ok (.iload_n 3, 1) := by decide +kernel
theorem dk_La_law_659 : decode mi_La_law.2.1 659 = .ok (.iconst 2, 1) := by decide +kernel
theorem dk_La_law_660 : decode mi_La_law.2.1 660 = .ok (.iadd, 1) := by decide +kernel
theorem dk_La_law_661 : decode mi_La_law.2.1 661 = .ok (.iaload, 1) := by decide +kernel
theorem dk_La_law_662 : decode mi_La_law.2.1 662 = .ok (.aload_n 0, 1) := by decide +kernel
theorem dk_La_law_663 : decode mi_La_law.2.1 663 = .ok (.iload_n 3, 1) := by decide +kernel
theorem dk_La_law_664 : decode mi_La_law.2.1 664 = .ok (.iconst 3, 1) := by decide +kernel
theorem dk_La_law_665 : decode mi_La_law.2.1 665 = .ok (.iadd, 1) := by decide +kernel
theorem dk_La_law_666 : decode mi_La_law.2.1 666 = .ok (.iaload, 1) := by decide +kernel
theorem dk_La_law_667 : decode mi_La_law.2.1 667 = .ok (.ifCond .eq 7, 3) := by decide +kernel
theorem dk_La_law_670 : decode mi_La_law.2.1 670 = .ok (.iconst 1, 1) := by decide +kernel
theorem dk_La_law_671 : decode mi_La_law.2.1 671 = .ok (.goto 4, 3) := by decide +kernel
theorem dk_La_law_674 : decode mi_La_law.2.1 674 = .ok (.iconst 0, 1) := by decide +kernel
theorem dk_La_law_675 : decode mi_La_law.2.1 675 = .ok (.invokevirtual 62, 3) := by decide +kernel
theorem dk_La_law_678 : decode mi_La_law.2.1 678 = .ok (.aload_n 2, 1) := by decide +kernel
theorem dk_La_law_679 : decode mi_La_law.2.1 679 = .ok (.aload_n 0, 1) := by decide +kernel
theorem dk_La_law_680 : decode mi_La_law.2.1 680 = .ok (.iload_n 3, 1) := by decide +kernel
theorem dk_La_law_681 : decode mi_La_law.2.1 681 = .ok (.iconst 1, 1) := by decide +kernel
theorem dk_La_law_682 : decode mi_La_law.2.1 682 = .ok (.iadd, 1) := by decide +kernel
theorem dk_La_law_683 : decode mi_La_law.2.1 683 = .ok (.iaload, 1) := by decide +kernel
theorem dk_La_law_684 : decode mi_La_law.2.1 684 = .ok (.aload_n 0, 1) := by decide +kernel
theorem dk_La_law_685 : decode mi_La_law.2.1 685 = .ok (.iload_n 3, 1) := by decide +kernel
theorem dk_La_law_686 : decode mi_La_law.2.1 686 = .ok (.iconst 2, 1) := by decide +kernel
theorem dk_La_law_687 : decode mi_La_law.2.1 687 = .ok (.iadd, 1) := by decide +kernel
theorem dk_La_law_688 : decode mi_La_law.2.1 688 = .ok (.iaload, 1) := by decide +kernel
theorem dk_La_law_689 : decode mi_La_law.2.1 689 = .ok (.aload_n 0, 1) := by decide +kernel
theorem dk_La_law_690 : decode mi_La_law.2.1 690 = .ok (.iload_n 3, 1) := by decide +kernel
theorem dk_La_law_691 : decode mi_La_law.2.1 691 = .ok (.iconst 3, 1) := by decide +kernel
theorem dk_La_law_692 : decode mi_La_law.2.1 692 = .ok (.iadd, 1) := by decide +kernel
theorem dk_La_law_693 : decode mi_La_law.2.1 693 = .ok (.iaload, 1) := by decide +kernel
theorem dk_La_law_694 : decode mi_La_law.2.1 694 = .ok (.ifCond .eq 7, 3) := by decide +kernel
theorem dk_La_law_697 : decode mi_La_law.2.1 697 = .ok (.iconst 1, 1) := by decide +kernel
theorem dk_La_law_698 : decode mi_La_law.2.1 698 = .ok (.goto 4, 3) := by decide +kernel
theorem dk_La_law_701 : decode mi_La_law.2.1 701 = .ok (.iconst 0, 1) := by decide +kernel
theorem dk_La_law_702 : decode mi_La_law.2.1 702 = .ok (.invokevirtual 65, 3) := by decide +kernel
theorem dk_La_law_705 : decode mi_La_law.2.1 705 = .ok (.if_icmp .eq 864, 3) := by decide +kernel
theorem dk_La_law_708 : decode mi_La_law.2.1 708 = .ok (.iconst 0, 1) := by decide +kernel
theorem dk_La_law_709 : decode mi_La_law.2.1 709 = .ok (.ireturn, 1) := by decide +kernel
theorem dk_La_law_710 : decode mi_La_law.2.1 710 = .ok (.aload_n 1, 1) := by decide +kernel
theorem dk_La_law_711 : decode mi_La_law.2.1 711 = .ok (.aload_n 0, 1) := by decide +kernel
theorem dk_La_law_712 : decode mi_La_law.2.1 712 = .ok (.iload_n 3, 1) := by decide +kernel
theorem dk_La_law_713 : decode mi_La_law.2.1 713 = .ok (.iconst 1, 1) := by decide +kernel
theorem dk_La_law_714 : decode mi_La_law.2.1 714 = .ok (.iadd, 1) := by decide +kernel
theorem dk_La_law_715 : decode mi_La_law.2.1 715 = .ok (.iaload, 1) := by decide +kernel
theorem dk_La_law_716 : decode mi_La_law.2.1 716 = .ok (.aload_n 0, 1) := by decide +kernel
theorem dk_La_law_717 : decode mi_La_law.2.1 717 = .ok (.iload_n 3, 1) := by decide +kernel
theorem dk_La_law_718 : decode mi_La_law.2.1 718 = .ok (.iconst 2, 1) := by decide +kernel
theorem dk_La_law_719 : decode mi_La_law.2.1 719 = .ok (.iadd, 1) := by decide +kernel
theorem dk_La_law_720 : decode mi_La_law.2.1 720 = .ok (.iaload, 1) := by decide +kernel
theorem dk_La_law_721 : decode mi_La_law.2.1 721 = .ok (.invokevirtual 66, 3) := by decide +kernel
theorem dk_La_law_724 : decode mi_La_law.2.1 724 = .ok (.aload_n 2, 1) := by decide +kernel
theorem dk_La_law_725 : decode mi_La_law.2.1 725 = .ok (.aload_n 0, 1) := by decide +kernel
theorem dk_La_law_726 : decode mi_La_law.2.1 726 = .ok (.iload_n 3, 1) := by decide +kernel
theorem dk_La_law_727 : decode mi_La_law.2.1 727 = .ok (.iconst 1, 1) := by decide +kernel
theorem dk_La_law_728 : decode mi_La_law.2.1 728 = .ok (.iadd, 1) := by decide +kernel
theorem dk_La_law_729 : decode mi_La_law.2.1 729 = .ok (.iaload, 1) := by decide +kernel
theorem dk_La_law_730 : decode mi_La_law.2.1 730 = .ok (.aload_n 0, 1) := by decide +kernel
theorem dk_La_law_731 : decode mi_La_law.2.1 731 = .ok (.iload_n 3, 1) := by decide +kernel
theorem dk_La_law_732 : decode mi_La_law.2.1 732 = .ok (.iconst 2, 1) := by decide +kernel
theorem dk_La_law_733 : decode mi_La_law.2.1 733 = .ok (.iadd, 1) := by decide +kernel
theorem dk_La_law_734 : decode mi_La_law.2.1 734 = .ok (.iaload, 1) := by decide +kernel
theorem dk_La_law_735 : decode mi_La_law.2.1 735 = .ok (.invokevirtual 69, 3) := by decide +kernel
theorem dk_La_law_738 : decode mi_La_law.2.1 738 = .ok (.if_icmp .eq 831, 3) := by decide +kernel
theorem dk_La_law_741 : decode mi_La_law.2.1 741 = .ok (.iconst 0, 1) := by decide +kernel
theorem dk_La_law_742 : decode mi_La_law.2.1 742 = .ok (.ireturn, 1) := by decide +kernel
theorem dk_La_law_743 : decode mi_La_law.2.1 743 = .ok (.aload_n 1, 1) := by decide +kernel
theorem dk_La_law_744 : decode mi_La_law.2.1 744 = .ok (.aload_n 0, 1) := by decide +kernel
theorem dk_La_law_745 : decode mi_La_law.2.1 745 = .ok (.iload_n 3, 1) := by decide +kernel
theorem dk_La_law_746 : decode mi_La_law.2.1 746 = .ok (.iconst 1, 1) := by decide +kernel
theorem dk_La_law_747 : decode mi_La_law.2.1 747 = .ok (.iadd, 1) := by decide +kernel
theorem dk_La_law_748 : decode mi_La_law.2.1 748 = .ok (.iaload, 1) := by decide +kernel
theorem dk_La_law_749 : decode mi_La_law.2.1 749 = .ok (.aload_n 0, 1) := by decide +kernel
theorem dk_La_law_750 : decode mi_La_law.2.1 750 = .ok (.iload_n 3, 1) := by decide +kernel
theorem dk_La_law_751 : decode mi_La_law.2.1 751 = .ok (.iconst 2, 1) := by decide +kernel
theorem dk_La_law_752 : decode mi_La_law.2.1 752 = .ok (.iadd, 1) := by decide +kernel
theorem dk_La_law_753 : decode mi_La_law.2.1 753 = .ok (.iaload, 1) := by decide +kernel
theorem dk_La_law_754 : decode mi_La_law.2.1 754 = .ok (.invokevirtual 70, 3) := by decide +kernel
theorem dk_La_law_757 : decode mi_La_law.2.1 757 = .ok (.aload_n 2, 1) := by decide +kernel
theorem dk_La_law_758 : decode mi_La_law.2.1 758 = .ok (.aload_n 0, 1) := by decide +kernel
theorem dk_La_law_759 : decode mi_La_law.2.1 759 = .ok (.iload_n 3, 1) := by decide +kernel
theorem dk_La_law_760 : decode mi_La_law.2.1 760 = .ok (.iconst 1, 1) := by decide +kernel
theorem dk_La_law_761 : decode mi_La_law.2.1 761 = .ok (.iadd, 1) := by decide +kernel
theorem dk_La_law_762 : decode mi_La_law.2.1 762 = .ok (.iaload, 1) := by decide +kernel
theorem dk_La_law_763 : decode mi_La_law.2.1 763 = .ok (.aload_n 0, 1) := by decide +kernel
theorem dk_La_law_764 : decode mi_La_law.2.1 764 = .ok (.iload_n 3, 1) := by decide +kernel
theorem dk_La_law_765 : decode mi_La_law.2.1 765 = .ok (.iconst 2, 1) := by decide +kernel
theorem dk_La_law_766 : decode mi_La_law.2.1 766 = .ok (.iadd, 1) := by decide +kernel
theorem dk_La_law_767 : decode mi_La_law.2.1 767 = .ok (.iaload, 1) := by decide +kernel
theorem dk_La_law_768 : decode mi_La_law.2.1 768 = .ok (.invokevirtual 73, 3) := by decide +kernel
theorem dk_La_law_771 : decode mi_La_law.2.1 771 = .ok (.if_icmp .eq 798, 3) := by decide +kernel
theorem dk_La_law_774 : decode mi_La_law.2.1 774 = .ok (.iconst 0, 1) := by decide +kernel
theorem dk_La_law_775 : decode mi_La_law.2.1 775 = .ok (.ireturn, 1) := by decide +kernel
theorem dk_La_law_776 : decode mi_La_law.2.1 776 = .ok (.aload_n 1, 1) := by decide +kernel
theorem dk_La_law_777 : decode mi_La_law.2.1 777 = .ok (.aload_n 0, 1) := by decide +kernel
theorem dk_La_law_778 : decode mi_La_law.2.1 778 = .ok (.iload_n 3, 1) := by decide +kernel
theorem dk_La_law_779 : decode mi_La_law.2.1 779 = .ok (.iconst 1, 1) := by decide +kernel
theorem dk_La_law_780 : decode mi_La_law.2.1 780 = .ok (.iadd, 1) := by decide +kernel
theorem dk_La_law_781 : decode mi_La_law.2.1 781 = .ok (.iaload, 1) := by decide +kernel
theorem dk_La_law_782 : decode mi_La_law.2.1 782 = .ok (.invokevirtual 74, 3) := by decide +kernel
theorem dk_La_law_785 : decode mi_La_law.2.1 785 = .ok (.aload_n 2, 1) := by decide +kernel
theorem dk_La_law_786 : decode mi_La_law.2.1 786 = .ok (.aload_n 0, 1) := by decide +kernel
theorem dk_La_law_787 : decode mi_La_law.2.1 787 = .ok (.iload_n 3, 1) := by decide +kernel
theorem dk_La_law_788 : decode mi_La_law.2.1 788 = .ok (.iconst 1, 1) := by decide +kernel
theorem dk_La_law_789 : decode mi_La_law.2.1 789 = .ok (.iadd, 1) := by decide +kernel
theorem dk_La_law_790 : decode mi_La_law.2.1 790 = .ok (.iaload, 1) := by decide +kernel
theorem dk_La_law_791 : decode mi_La_law.2.1 791 = .ok (.invokevirtual 77, 3) := by decide +kernel
theorem dk_La_law_794 : decode mi_La_law.2.1 794 = .ok (.if_icmp .eq 775, 3) := by decide +kernel
theorem dk_La_law_797 : decode mi_La_law.2.1 797 = .ok (.iconst 0, 1) := by decide +kernel
theorem dk_La_law_798 : decode mi_La_law.2.1 798 = .ok (.ireturn, 1) := by decide +kernel
theorem dk_La_law_799 : decode mi_La_law.2.1 799 = .ok (.aload_n 1, 1) := by decide +kernel
theorem dk_La_law_800 : decode mi_La_law.2.1 800 = .ok (.invokevirtual 78, 3) := by decide +kernel
theorem dk_La_law_803 : decode mi_La_law.2.1 803 = .ok (.aload_n 2, 1) := by decide +kernel
theorem dk_La_law_804 : decode mi_La_law.2.1 804 = .ok (.invokevirtual 82, 3) := by decide +kernel
theorem dk_La_law_807 : decode mi_La_law.2.1 807 = .ok (.if_icmp .eq 762, 3) := by decide +kernel
theorem dk_La_law_810 : decode mi_La_law.2.1 810 = .ok (.iconst 0, 1) := by decide +kernel
theorem dk_La_law_811 : decode mi_La_law.2.1 811 = .ok (.ireturn, 1) := by decide +kernel
theorem dk_La_law_812 : decode mi_La_law.2.1 812 = .ok (.aload_n 1, 1) := by decide +kernel
theorem dk_La_law_813 : decode mi_La_law.2.1 813 = .ok (.aload_n 0, 1) := by decide +kernel
theorem dk_La_law_814 : decode mi_La_law.2.1 814 = .ok (.iload_n 3, 1) := by decide +kernel
theorem dk_La_law_815 : decode mi_La_law.2.1 815 = .ok (.iconst 1, 1) := by decide +kernel
theorem dk_La_law_816 : decode mi_La_law.2.1 816 = .ok (.iadd, 1) := by decide +kernel
theorem dk_La_law_817 : decode mi_La_law.2.1 817 = .ok (.iaload, 1) := by decide +kernel
theorem dk_La_law_818 : decode mi_La_law.2.1 818 = .ok (.invokevirtual 83, 3) := by decide +kernel
theorem dk_La_law_821 : decode mi_La_law.2.1 821 = .ok (.aload_n 2, 1) := by decide +kernel
theorem dk_La_law_822 : decode mi_La_law.2.1 822 = .ok (.aload_n 0, 1) := by decide +kernel
theorem dk_La_law_823 : decode mi_La_law.2.1 823 = .ok (.iload_n 3, 1) := by decide +kernel
theorem dk_La_law_824 : decode mi_La_law.2.1 824 = .ok (.iconst 1, 1) := by decide +kernel
theorem dk_La_law_825 : decode mi_La_law.2.1 825 = .ok (.iadd, 1) := by decide +kernel
theorem dk_La_law_826 : decode mi_La_law.2.1 826 = .ok (.iaload, 1) := by decide +kernel
theorem dk_La_law_827 : decode mi_La_law.2.1 827 = .ok (.invokevirtual 86, 3) := by decide +kernel
theorem dk_La_law_830 : decode mi_La_law.2.1 830 = .ok (.if_icmp .eq 739, 3) := by decide +kernel
theorem dk_La_law_833 : decode mi_La_law.2.1 833 = .ok (.iconst 0, 1) := by decide +kernel
theorem dk_La_law_834 : decode mi_La_law.2.1 834 = .ok (.ireturn, 1) := by decide +kernel
theorem dk_La_law_835 : decode mi_La_law.2.1 835 = .ok (.aload_n 1, 1) := by decide +kernel
theorem dk_La_law_836 : decode mi_La_law.2.1 836 = .ok (.invokevirtual 87, 3) := by decide +kernel
theorem dk_La_law_839 : decode mi_La_law.2.1 839 = .ok (.aload_n 2, 1) := by decide +kernel
theorem dk_La_law_840 : decode mi_La_law.2.1 840 = .ok (.invokevirtual 90, 3) := by decide +kernel
theorem dk_La_law_843 : decode mi_La_law.2.1 843 = .ok (.if_icmp .eq 726, 3) := by decide +kernel
theorem dk_La_law_846 : decode mi_La_law.2.1 846 = .ok (.iconst 0, 1) := by decide +kernel
theorem dk_La_law_847 : decode mi_La_law.2.1 847 = .ok (.ireturn, 1) := by decide +kernel
theorem dk_La_law_848 : decode mi_La_law.2.1 848 = .ok (.aload_n 1, 1) := by decide +kernel
theorem dk_La_law_849 : decode mi_La_law.2.1 849 = .ok (.aload_n 0, 1) := by decide +kernel
theorem dk_La_law_850 : decode mi_La_law.2.1 850 = .ok (.iload_n 3, 1) := by decide +kernel
theorem dk_La_law_851 : decode mi_La_law.2.1 851 = .ok (.iconst 1, 1) := by decide +kernel
theorem dk_La_law_852 : decode mi_La_law.2.1 852 = .ok (.iadd, 1) := by decide +kernel
theorem dk_La_law_853 : decode mi_La_law.2.1 853 = .ok (.iaload, 1) := by decide +kernel
theorem dk_La_law_854 : decode mi_La_law.2.1 854 = .ok (.invokevirtual 91, 3) := by decide +kernel
theorem dk_La_law_857 : decode mi_La_law.2.1 857 = .ok (.aload_n 2, 1) := by decide +kernel
theorem dk_La_law_858 : decode mi_La_law.2.1 858 = .ok (.aload_n 0, 1) := by decide +kernel
theorem dk_La_law_859 : decode mi_La_law.2.1 859 = .ok (.iload_n 3, 1) := by decide +kernel
theorem dk_La_law_860 : decode mi_La_law.2.1 860 = .ok (.iconst 1, 1) := by decide +kernel
theorem dk_La_law_861 : decode mi_La_law.2.1 861 = .ok (.iadd, 1) := by decide +kernel
theorem dk_La_law_862 : decode mi_La_law.2.1 862 = .ok (.iaload, 1) := by decide +kernel
theorem dk_La_law_863 : decode mi_La_law.2.1 863 = .ok (.invokevirtual 94, 3) := by decide +kernel
theorem dk_La_law_866 : decode mi_La_law.2.1 866 = .ok (.if_icmp .eq 703, 3) := by decide +kernel
theorem dk_La_law_869 : decode mi_La_law.2.1 869 = .ok (.iconst 0, 1) := by decide +kernel
theorem dk_La_law_870 : decode mi_La_law.2.1 870 = .ok (.ireturn, 1) := by decide +kernel
theorem dk_La_law_871 : decode mi_La_law.2.1 871 = .ok (.aload_n 1, 1) := by decide +kernel
theorem dk_La_law_872 : decode mi_La_law.2.1 872 = .ok (.aload_n 0, 1) := by decide +kernel
theorem dk_La_law_873 : decode mi_La_law.2.1 873 = .ok (.iload_n 3, 1) := by decide +kernel
theorem dk_La_law_874 : decode mi_La_law.2.1 874 = .ok (.iconst 1, 1) := by decide +kernel
theorem dk_La_law_875 : decode mi_La_law.2.1 875 = .ok (.iadd, 1) := by decide +kernel
theorem dk_La_law_876 : decode mi_La_law.2.1 876 = .ok (.iaload, 1) := by decide +kernel
theorem dk_La_law_877 : decode mi_La_law.2.1 877 = .ok (.invokevirtual 95, 3) := by decide +kernel
theorem dk_La_law_880 : decode mi_La_law.2.1 880 = .ok (.aload_n 2, 1) := by decide +kernel
theorem dk_La_law_881 : decode mi_La_law.2.1 881 = .ok (.aload_n 0, 1) := by decide +kernel
theorem dk_La_law_882 : decode mi_La_law.2.1 882 = .ok (.iload_n 3, 1) := by decide +kernel
theorem dk_La_law_883 : decode mi_La_law.2.1 883 = .ok (.iconst 1, 1) := by decide +kernel
theorem dk_La_law_884 : decode mi_La_law.2.1 884 = .ok (.iadd, 1) := by decide +kernel
theorem dk_La_law_885 : decode mi_La_law.2.1 885 = .ok (.iaload, 1) := by decide +kernel
theorem dk_La_law_886 : decode mi_La_law.2.1 886 = .ok (.invokevirtual 98, 3) := by decide +kernel
theorem dk_La_law_889 : decode mi_La_law.2.1 889 = .ok (.if_icmp .eq 680, 3) := by decide +kernel
theorem dk_La_law_892 : decode mi_La_law.2.1 892 = .ok (.iconst 0, 1) := by decide +kernel
theorem dk_La_law_893 : decode mi_La_law.2.1 893 = .ok (.ireturn, 1) := by decide +kernel
theorem dk_La_law_894 : decode mi_La_law.2.1 894 = .ok (.aload_n 1, 1) := by decide +kernel
theorem dk_La_law_895 : decode mi_La_law.2.1 895 = .ok (.aload_n 0, 1) := by decide +kernel
theorem dk_La_law_896 : decode mi_La_law.2.1 896 = .ok (.iload_n 3, 1) := by decide +kernel
theorem dk_La_law_897 : decode mi_La_law.2.1 897 = .ok (.iconst 1, 1) := by decide +kernel
theorem dk_La_law_898 : decode mi_La_law.2.1 898 = .ok (.iadd, 1) := by decide +kernel
theorem dk_La_law_899 : decode mi_La_law.2.1 899 = .ok (.iaload, 1) := by decide +kernel
theorem dk_La_law_900 : decode mi_La_law.2.1 900 = .ok (.invokevirtual 99, 3) := by decide +kernel
theorem dk_La_law_903 : decode mi_La_law.2.1 903 = .ok (.aload_n 2, 1) := by decide +kernel
theorem dk_La_law_904 : decode mi_La_law.2.1 904 = .ok (.aload_n 0, 1) := by decide +kernel
theorem dk_La_law_905 : decode mi_La_law.2.1 905 = .ok (.iload_n 3, 1) := by decide +kernel
theorem dk_La_law_906 : decode mi_La_law.2.1 906 = .ok (.iconst 1, 1) := by decide +kernel
theorem dk_La_law_907 : decode mi_La_law.2.1 907 = .ok (.iadd, 1) := by decide +kernel
theorem dk_La_law_908 : decode mi_La_law.2.1 908 = .ok (.iaload, 1) := by decide +kernel
theorem dk_La_law_909 : decode mi_La_law.2.1 909 = .ok (.invokevirtual 102, 3) := by decide +kernel
theorem dk_La_law_912 : decode mi_La_law.2.1 912 = .ok (.if_icmp .eq 657, 3) := by decide +kernel
theorem dk_La_law_915 : decode mi_La_law.2.1 915 = .ok (.iconst 0, 1) := by decide +kernel
theorem dk_La_law_916 : decode mi_La_law.2.1 916 = .ok (.ireturn, 1) := by decide +kernel
theorem dk_La_law_917 : decode mi_La_law.2.1 917 = .ok (.aload_n 1, 1) := by decide +kernel
theorem dk_La_law_918 : decode mi_La_law.2.1 918 = .ok (.aload_n 0, 1) := by decide +kernel
theorem dk_La_law_919 : decode mi_La_law.2.1 919 = .ok (.iload_n 3, 1) := by decide +kernel
theorem dk_La_law_920 : decode mi_La_law.2.1 920 = .ok (.iconst 1, 1) := by decide +kernel
theorem dk_La_law_921 : decode mi_La_law.2.1 921 = .ok (.iadd, 1) := by decide +kernel
theorem dk_La_law_922 : decode mi_La_law.2.1 922 = .ok (.iaload, 1) := by decide +kernel
theorem dk_La_law_923 : decode mi_La_law.2.1 923 = .ok (.invokevirtual 103, 3) := by decide +kernel
theorem dk_La_law_926 : decode mi_La_law.2.1 926 = .ok (.aload_n 2, 1) := by decide +kernel
theorem dk_La_law_927 : decode mi_La_law.2.1 927 = .ok (.aload_n 0, 1) := by decide +kernel
theorem dk_La_law_928 : decode mi_La_law.2.1 928 = .ok (.iload_n 3, 1) := by decide +kernel
theorem dk_La_law_929 : decode mi_La_law.2.1 929 = .ok (.iconst 1, 1) := by decide +kernel
theorem dk_La_law_930 : decode mi_La_law.2.1 930 = .ok (.iadd, 1) := by decide +kernel
theorem dk_La_law_931 : decode mi_La_law.2.1 931 = .ok (.iaload, 1) := by decide +kernel
theorem dk_La_law_932 : decode mi_La_law.2.1 932 = .ok (.invokevirtual 106, 3) := by decide +kernel
theorem dk_La_law_935 : decode mi_La_law.2.1 935 = .ok (.if_icmp .eq 634, 3) := by decide +kernel
theorem dk_La_law_938 : decode mi_La_law.2.1 938 = .ok (.iconst 0, 1) := by decide +kernel
theorem dk_La_law_939 : decode mi_La_law.2.1 939 = .ok (.ireturn, 1) := by decide +kernel
theorem dk_La_law_940 : decode mi_La_law.2.1 940 = .ok (.aload_n 1, 1) := by decide +kernel
theorem dk_La_law_941 : decode mi_La_law.2.1 941 = .ok (.invokevirtual 107, 3) := by decide +kernel
theorem dk_La_law_944 : decode mi_La_law.2.1 944 = .ok (.aload_n 2, 1) := by decide +kernel
theorem dk_La_law_945 : decode mi_La_law.2.1 945 = .ok (.invokevirtual 110, 3) := by decide +kernel
theorem dk_La_law_948 : decode mi_La_law.2.1 948 = .ok (.if_icmp .eq 621, 3) := by decide +kernel
theorem dk_La_law_951 : decode mi_La_law.2.1 951 = .ok (.iconst 0, 1) := by decide +kernel
theorem dk_La_law_952 : decode mi_La_law.2.1 952 = .ok (.ireturn, 1) := by decide +kernel
theorem dk_La_law_953 : decode mi_La_law.2.1 953 = .ok (.aload_n 1, 1) := by decide +kernel
theorem dk_La_law_954 : decode mi_La_law.2.1 954 = .ok (.aload_n 0, 1) := by decide +kernel
theorem dk_La_law_955 : decode mi_La_law.2.1 955 = .ok (.iload_n 3, 1) := by decide +kernel
theorem dk_La_law_956 : decode mi_La_law.2.1 956 = .ok (.iconst 1, 1) := by decide +kernel
theorem dk_La_law_957 : decode mi_La_law.2.1 957 = .ok (.iadd, 1) := by decide +kernel
theorem dk_La_law_958 : decode mi_La_law.2.1 958 = .ok (.iaload, 1) := by decide +kernel
theorem dk_La_law_959 : decode mi_La_law.2.1 959 = .ok (.invokevirtual 111, 3) := by decide +kernel
theorem dk_La_law_962 : decode mi_La_law.2.1 962 = .ok (.aload_n 2, 1) := by decide +kernel
theorem dk_La_law_963 : decode mi_La_law.2.1 963 = .ok (.aload_n 0, 1) := by decide +kernel
theorem dk_La_law_964 : decode mi_La_law.2.1 964 = .ok (.iload_n 3, 1) := by decide +kernel
theorem dk_La_law_965 : decode mi_La_law.2.1 965 = .ok (.iconst 1, 1) := by decide +kernel
theorem dk_La_law_966 : decode mi_La_law.2.1 966 = .ok (.iadd, 1) := by decide +kernel
theorem dk_La_law_967 : decode mi_La_law.2.1 967 = .ok (.iaload, 1) := by decide +kernel
theorem dk_La_law_968 : decode mi_La_law.2.1 968 = .ok (.invokevirtual 114, 3) := by decide +kernel
theorem dk_La_law_971 : decode mi_La_law.2.1 971 = .ok (.if_icmp .eq 598, 3) := by decide +kernel
theorem dk_La_law_974 : decode mi_La_law.2.1 974 = .ok (.iconst 0, 1) := by decide +kernel
theorem dk_La_law_975 : decode mi_La_law.2.1 975 = .ok (.ireturn, 1) := by decide +kernel
theorem dk_La_law_976 : decode mi_La_law.2.1 976 = .ok (.aload_n 1, 1) := by decide +kernel
theorem dk_La_law_977 : decode mi_La_law.2.1 977 = .ok (.aload_n 0, 1) := by decide +kernel
theorem dk_La_law_978 : decode mi_La_law.2.1 978 = .ok (.iload_n 3, 1) := by decide +kernel
theorem dk_La_law_979 : decode mi_La_law.2.1 979 = .ok (.iconst 1, 1) := by decide +kernel
theorem dk_La_law_980 : decode mi_La_law.2.1 980 = .ok (.iadd, 1) := by decide +kernel
theorem dk_La_law_981 : decode mi_La_law.2.1 981 = .ok (.iaload, 1) := by decide +kernel
theorem dk_La_law_982 : decode mi_La_law.2.1 982 = .ok (.invokevirtual 115, 3) := by decide +kernel
theorem dk_La_law_985 : decode mi_La_law.2.1 985 = .ok (.aload_n 2, 1) := by decide +kernel
theorem dk_La_law_986 : decode mi_La_law.2.1 986 = .ok (.aload_n 0, 1) := by decide +kernel
theorem dk_La_law_987 : decode mi_La_law.2.1 987 = .ok (.iload_n 3, 1) := by decide +kernel
theorem dk_La_law_988 : decode mi_La_law.2.1 988 = .ok (.iconst 1, 1) := by decide +kernel
theorem dk_La_law_989 : decode mi_La_law.2.1 989 = .ok (.iadd, 1) := by decide +kernel
theorem dk_La_law_990 : decode mi_La_law.2.1 990 = .ok (.iaload, 1) := by decide +kernel
theorem dk_La_law_991 : decode mi_La_law.2.1 991 = .ok (.invokevirtual 118, 3) := by decide +kernel
theorem dk_La_law_994 : decode mi_La_law.2.1 994 = .ok (.if_icmp .eq 575, 3) := by decide +kernel
theorem dk_La_law_997 : decode mi_La_law.2.1 997 = .ok (.iconst 0, 1) := by decide +kernel
theorem dk_La_law_998 : decode mi_La_law.2.1 998 = .ok (.ireturn, 1) := by decide +kernel
theorem dk_La_law_999 : decode mi_La_law.2.1 999 = .ok (.aload_n 1, 1) := by decide +kernel
theorem dk_La_law_1000 : decode mi_La_law.2.1 1000 = .ok (.invokevirtual 119, 3) := by decide +kernel
theorem dk_La_law_1003 : decode mi_La_law.2.1 1003 = .ok (.aload_n 2, 1) := by decide +kernel
theorem dk_La_law_1004 : decode mi_La_law.2.1 1004 = .ok (.invokevirtual 122, 3) := by decide +kernel
theorem dk_La_law_1007 : decode mi_La_law.2.1 1007 = .ok (.if_icmp .eq 562, 3) := by decide +kernel
theorem dk_La_law_1010 : decode mi_La_law.2.1 1010 = .ok (.iconst 0, 1) := by decide +kernel
theorem dk_La_law_1011 : decode mi_La_law.2.1 1011 = .ok (.ireturn, 1) := by decide +kernel
theorem dk_La_law_1012 : decode mi_La_law.2.1 1012 = .ok (.aload_n 1, 1) := by decide +kernel
theorem dk_La_law_1013 : decode mi_La_law.2.1 1013 = .ok (.aload_n 0, 1) := by decide +kernel
theorem dk_La_law_1014 : decode mi_La_law.2.1 1014 = .ok (.iload_n 3, 1) := by decide +kernel
theorem dk_La_law_1015 : decode mi_La_law.2.1 1015 = .ok (.iconst 1, 1) := by decide +kernel
theorem dk_La_law_1016 : decode mi_La_law.2.1 1016 = .ok (.iadd, 1) := by decide +kernel
theorem dk_La_law_1017 : decode mi_La_law.2.1 1017 = .ok (.iaload, 1) := by decide +kernel
theorem dk_La_law_1018 : decode mi_La_law.2.1 1018 = .ok (.aload_n 0, 1) := by decide +kernel
theorem dk_La_law_1019 : decode mi_La_law.2.1 1019 = .ok (.iload_n 3, 1) := by decide +kernel
theorem dk_La_law_1020 : decode mi_La_law.2.1 1020 = .ok (.iconst 2, 1) := by decide +kernel
theorem dk_La_law_1021 : decode mi_La_law.2.1 1021 = .ok (.iadd, 1) := by decide +kernel
theorem dk_La_law_1022 : decode mi_La_law.2.1 1022 = .ok (.iaload, 1) := by decide +kernel
theorem dk_La_law_1023 : decode mi_La_law.2.1 1023 = .ok (.invokevirtual 123, 3) := by decide +kernel
theorem dk_La_law_1026 : decode mi_La_law.2.1 1026 = .ok (.aload_n 2, 1) := by decide +kernel
theorem dk_La_law_1027 : decode mi_La_law.2.1 1027 = .ok (.aload_n 0, 1) := by decide +kernel
theorem dk_La_law_1028 : decode mi_La_law.2.1 1028 = .ok (.iload_n 3, 1) := by decide +kernel
theorem dk_La_law_1029 : decode mi_La_law.2.1 1029 = .ok (.iconst 1, 1) := by decide +kernel
theorem dk_La_law_1030 : decode mi_La_law.2.1 1030 = .ok (.iadd, 1) := by decide +kernel
theorem dk_La_law_1031 : decode mi_La_law.2.1 1031 = .ok (.iaload, 1) := by decide +kernel
theorem dk_La_law_1032 : decode mi_La_law.2.1 1032 = .ok (.aload_n 0, 1) := by decide +kernel
theorem dk_La_law_1033 : decode mi_La_law.2.1 1033 = .ok (.iload_n 3, 1) := by decide +kernel
theorem dk_La_law_1034 : decode mi_La_law.2.1 1034 = .ok (.iconst 2, 1) := by decide +kernel
theorem dk_La_law_1035 : decode mi_La_law.2.1 1035 = .ok (.iadd, 1) := by decide +kernel
theorem dk_La_law_1036 : decode mi_La_law.2.1 1036 = .ok (.iaload, 1) := by decide +kernel
theorem dk_La_law_1037 : decode mi_La_law.2.1 1037 = .ok (.invokevirtual 126, 3) := by decide +kernel
theorem dk_La_law_1040 : decode mi_La_law.2.1 1040 = .ok (.if_icmp .eq 529, 3) := by decide +kernel
theorem dk_La_law_1043 : decode mi_La_law.2.1 1043 = .ok (.iconst 0, 1) := by decide +kernel
theorem dk_La_law_1044 : decode mi_La_law.2.1 1044 = .ok (.ireturn, 1) := by decide +kernel
theorem dk_La_law_1045 : decode mi_La_law.2.1 1045 = .ok (.aload_n 1, 1) := by decide +kernel
theorem dk_La_law_1046 : decode mi_La_law.2.1 1046 = .ok (.aload_n 0, 1) := by decide +kernel
theorem dk_La_law_1047 : decode mi_La_law.2.1 1047 = .ok (.iload_n 3, 1) := by decide +kernel
theorem dk_La_law_1048 : decode mi_La_law.2.1 1048 = .ok (.iconst 1, 1) := by decide +kernel
theorem dk_La_law_1049 : decode mi_La_law.2.1 1049 = .ok (.iadd, 1) := by decide +kernel
theorem dk_La_law_1050 : decode mi_La_law.2.1 1050 = .ok (.iaload, 1) := by decide +kernel
theorem dk_La_law_1051 : decode mi_La_law.2.1 1051 = .ok (.aload_n 0, 1) := by decide +kernel
theorem dk_La_law_1052 : decode mi_La_law.2.1 1052 = .ok (.iload_n 3, 1) := by decide +kernel
theorem dk_La_law_1053 : decode mi_La_law.2.1 1053 = .ok (.iconst 2, 1) := by decide +kernel
theorem dk_La_law_1054 : decode mi_La_law.2.1 1054 = .ok (.iadd, 1) := by decide +kernel
theorem dk_La_law_1055 : decode mi_La_law.2.1 1055 = .ok (.iaload, 1) := by decide +kernel
theorem dk_La_law_1056 : decode mi_La_law.2.1 1056 = .ok (.aload_n 0, 1) := by decide +kernel
theorem dk_La_law_1057 : decode mi_La_law.2.1 1057 = .ok (.iload_n 3, 1) := by decide +kernel
theorem dk_La_law_1058 : decode mi_La_law.2.1 1058 = .ok (.iconst 3, 1) := by decide +kernel
theorem dk_La_law_1059 : decode mi_La_law.2.1 1059 = .ok (.iadd, 1) := by decide +kernel
theorem dk_La_law_1060 : decode mi_La_law.2.1 1060 = .ok (.iaload, 1) := by decide +kernel
theorem dk_La_law_1061 : decode mi_La_law.2.1 1061 = .ok (.invokevirtual 127, 3) := by decide +kernel
theorem dk_La_law_1064 : decode mi_La_law.2.1 1064 = .ok (.aload_n 2, 1) := by decide +kernel
theorem dk_La_law_1065 : decode mi_La_law.2.1 1065 = .ok (.aload_n 0, 1) := by decide +kernel
theorem dk_La_law_1066 : decode mi_La_law.2.1 1066 = .ok (.iload_n 3, 1) := by decide +kernel
theorem dk_La_law_1067 : decode mi_La_law.2.1 1067 = .ok (.iconst 1, 1) := by decide +kernel
theorem dk_La_law_1068 : decode mi_La_law.2.1 1068 = .ok (.iadd, 1) := by decide +kernel
theorem dk_La_law_1069 : decode mi_La_law.2.1 1069 = .ok (.iaload, 1) := by decide +kernel
theorem dk_La_law_1070 : decode mi_La_law.2.1 1070 = .ok (.aload_n 0, 1) := by decide +kernel
theorem dk_La_law_1071 : decode mi_La_law.2.1 1071 = .ok (.iload_n 3, 1) := by decide +kernel
theorem dk_La_law_1072 : decode mi_La_law.2.1 1072 = .ok (.iconst 2, 1) := by decide +kernel
theorem dk_La_law_1073 : decode mi_La_law.2.1 1073 = .ok (.iadd, 1) := by decide +kernel
theorem dk_La_law_1074 : decode mi_La_law.2.1 1074 = .ok (.iaload, 1) := by decide +kernel
theorem dk_La_law_1075 : decode mi_La_law.2.1 1075 = .ok (.aload_n 0, 1) := by decide +kernel
theorem dk_La_law_1076 : decode mi_La_law.2.1 1076 = .ok (.iload_n 3, 1) := by decide +kernel
theorem dk_La_law_1077 : decode mi_La_law.2.1 1077 = .ok (.iconst 3, 1) := by decide +kernel
theorem dk_La_law_1078 : decode mi_La_law.2.1 1078 = .ok (.iadd, 1) := by decide +kernel
theorem dk_La_law_1079 : decode mi_La_law.2.1 1079 = .ok (.iaload, 1) := by decide +kernel
theorem dk_La_law_1080 : decode mi_La_law.2.1 1080 = .ok (.invokevirtual 130, 3) := by decide +kernel
theorem dk_La_law_1083 : decode mi_La_law.2.1 1083 = .ok (.if_icmp .eq 486, 3) := by decide +kernel
theorem dk_La_law_1086 : decode mi_La_law.2.1 1086 = .ok (.iconst 0, 1) := by decide +kernel
theorem dk_La_law_1087 : decode mi_La_law.2.1 1087 = .ok (.ireturn, 1) := by decide +kernel
theorem dk_La_law_1088 : decode mi_La_law.2.1 1088 = .ok (.aload_n 1, 1) := by decide +kernel
theorem dk_La_law_1089 : decode mi_La_law.2.1 1089 = .ok (.aload_n 0, 1) := by decide +kernel
theorem dk_La_law_1090 : decode mi_La_law.2.1 1090 = .ok (.iload_n 3, 1) := by decide +kernel
theorem dk_La_law_1091 : decode mi_La_law.2.1 1091 = .ok (.iconst 1, 1) := by decide +kernel
theorem dk_La_law_1092 : decode mi_La_law.2.1 1092 = .ok (.iadd, 1) := by decide +kernel
theorem dk_La_law_1093 : decode mi_La_law.2.1 1093 = .ok (.iaload, 1) := by decide +kernel
theorem dk_La_law_1094 : decode mi_La_law.2.1 1094 = .ok (.aload_n 0, 1) := by decide +kernel
theorem dk_La_law_1095 : decode mi_La_law.2.1 1095 = .ok (.iload_n 3, 1) := by decide +kernel
theorem dk_La_law_1096 : decode mi_La_law.2.1 1096 = .ok (.iconst 2, 1) := by decide +kernel
theorem dk_La_law_1097 : decode mi_La_law.2.1 1097 = .ok (.iadd, 1) := by decide +kernel
theorem dk_La_law_1098 : decode mi_La_law.2.1 1098 = .ok (.iaload, 1) := by decide +kernel
theorem dk_La_law_1099 : decode mi_La_law.2.1 1099 = .ok (.aload_n 0, 1) := by decide +kernel
theorem dk_La_law_1100 : decode mi_La_law.2.1 1100 = .ok (.iload_n 3, 1) := by decide +kernel
theorem dk_La_law_1101 : decode mi_La_law.2.1 1101 = .ok (.iconst 3, 1) := by decide +kernel
theorem dk_La_law_1102 : decode mi_La_law.2.1 1102 = .ok (.iadd, 1) := by decide +kernel
theorem dk_La_law_1103 : decode mi_La_law.2.1 1103 = .ok (.iaload, 1) := by decide +kernel
theorem dk_La_law_1104 : decode mi_La_law.2.1 1104 = .ok (.invokevirtual 131, 3) := by decide +kernel
theorem dk_La_law_1107 : decode mi_La_law.2.1 1107 = .ok (.aload_n 2, 1) := by decide +kernel
theorem dk_La_law_1108 : decode mi_La_law.2.1 1108 = .ok (.aload_n 0, 1) := by decide +kernel
theorem dk_La_law_1109 : decode mi_La_law.2.1 1109 = .ok (.iload_n 3, 1) := by decide +kernel
theorem dk_La_law_1110 : decode mi_La_law.2.1 1110 = .ok (.iconst 1, 1) := by decide +kernel
theorem dk_La_law_1111 : decode mi_La_law.2.1 1111 = .ok (.iadd, 1) := by decide +kernel
theorem dk_La_law_1112 : decode mi_La_law.2.1 1112 = .ok (.iaload, 1) := by decide +kernel
theorem dk_La_law_1113 : decode mi_La_law.2.1 1113 = .ok (.aload_n 0, 1) := by decide +kernel
theorem dk_La_law_1114 : decode mi_La_law.2.1 1114 = .ok (.iload_n 3, 1) := by decide +kernel
theorem dk_La_law_1115 : decode mi_La_law.2.1 1115 = .ok (.iconst 2, 1) := by decide +kernel
theorem dk_La_law_1116 : decode mi_La_law.2.1 1116 = .ok (.iadd, 1) := by decide +kernel
theorem dk_La_law_1117 : decode mi_La_law.2.1 1117 = .ok (.iaload, 1) := by decide +kernel
theorem dk_La_law_1118 : decode mi_La_law.2.1 1118 = .ok (.aload_n 0, 1) := by decide +kernel
theorem dk_La_law_1119 : decode mi_La_law.2.1 1119 = .ok (.iload_n 3, 1) := by decide +kernel
theorem dk_La_law_1120 : decode mi_La_law.2.1 1120 = .ok (.iconst 3, 1) := by decide +kernel
theorem dk_La_law_1121 : decode mi_La_law.2.1 1121 = .ok (.iadd, 1) := by decide +kernel
theorem dk_La_law_1122 : decode mi_La_law.2.1 1122 = .ok (.iaload, 1) := by decide +kernel
theorem dk_La_law_1123 : decode mi_La_law.2.1 1123 = .ok (.invokevirtual 134, 3) := by decide +kernel
theorem dk_La_law_1126 : decode mi_La_law.2.1 1126 = .ok (.if_icmp .eq 443, 3) := by decide +kernel
theorem dk_La_law_1129 : decode mi_La_law.2.1 1129 = .ok (.iconst 0, 1) := by decide +kernel
theorem dk_La_law_1130 : decode mi_La_law.2.1 1130 = .ok (.ireturn, 1) := by decide +kernel
theorem dk_La_law_1131 : decode mi_La_law.2.1 1131 = .ok (.aload_n 1, 1) := by decide +kernel
theorem dk_La_law_1132 : decode mi_La_law.2.1 1132 = .ok (.aload_n 0, 1) := by decide +kernel
theorem dk_La_law_1133 : decode mi_La_law.2.1 1133 = .ok (.iload_n 3, 1) := by decide +kernel
theorem dk_La_law_1134 : decode mi_La_law.2.1 1134 = .ok (.iconst 1, 1) := by decide +kernel
theorem dk_La_law_1135 : decode mi_La_law.2.1 1135 = .ok (.iadd, 1) := by decide +kernel
theorem dk_La_law_1136 : decode mi_La_law.2.1 1136 = .ok (.iaload, 1) := by decide +kernel
theorem dk_La_law_1137 : decode mi_La_law.2.1 1137 = .ok (.aload_n 0, 1) := by decide +kernel
theorem dk_La_law_1138 : decode mi_La_law.2.1 1138 = .ok (.iload_n 3, 1) := by decide +kernel
theorem dk_La_law_1139 : decode mi_La_law.2.1 1139 = .ok (.iconst 2, 1) := by decide +kernel
theorem dk_La_law_1140 : decode mi_La_law.2.1 1140 = .ok (.iadd, 1) := by decide +kernel
theorem dk_La_law_1141 : decode mi_La_law.2.1 1141 = .ok (.iaload, 1) := by decide +kernel
theorem dk_La_law_1142 : decode mi_La_law.2.1 1142 = .ok (.invokevirtual 135, 3) := by decide +kernel
theorem dk_La_law_1145 : decode mi_La_law.2.1 1145 = .ok (.aload_n 2, 1) := by decide +kernel
theorem dk_La_law_1146 : decode mi_La_law.2.1 1146 = .ok (.aload_n 0, 1) := by decide +kernel
theorem dk_La_law_1147 : decode mi_La_law.2.1 1147 = .ok (.iload_n 3, 1) := by decide +kernel
theorem dk_La_law_1148 : decode mi_La_law.2.1 1148 = .ok (.iconst 1, 1) := by decide +kernel
theorem dk_La_law_1149 : decode mi_La_law.2.1 1149 = .ok (.iadd, 1) := by decide +kernel
theorem dk_La_law_1150 : decode mi_La_law.2.1 1150 = .ok (.iaload, 1) := by decide +kernel
theorem dk_La_law_1151 : decode mi_La_law.2.1 1151 = .ok (.aload_n 0, 1) := by decide +kernel
theorem dk_La_law_1152 : decode mi_La_law.2.1 1152 = .ok (.iload_n 3, 1) := by decide +kernel
theorem dk_La_law_1153 : decode mi_La_law.2.1 1153 = .ok (.iconst 2, 1) := by decide +kernel
theorem dk_La_law_1154 : decode mi_La_law.2.1 1154 = .ok (.iadd, 1) := by decide +kernel
theorem dk_La_law_1155 : decode mi_La_law.2.1 1155 = .ok (.iaload, 1) := by decide +kernel
theorem dk_La_law_1156 : decode mi_La_law.2.1 1156 = .ok (.invokevirtual 138, 3) := by decide +kernel
theorem dk_La_law_1159 : decode mi_La_law.2.1 1159 = .ok (.if_icmp .eq 410, 3) := by decide +kernel
theorem dk_La_law_1162 : decode mi_La_law.2.1 1162 = .ok (.iconst 0, 1) := by decide +kernel
theorem dk_La_law_1163 : decode mi_La_law.2.1 1163 = .ok (.ireturn, 1) := by decide +kernel
theorem dk_La_law_1164 : decode mi_La_law.2.1 1164 = .ok (.aload_n 1, 1) := by decide +kernel
theorem dk_La_law_1165 : decode mi_La_law.2.1 1165 = .ok (.aload_n 0, 1) := by decide +kernel
theorem dk_La_law_1166 : decode mi_La_law.2.1 1166 = .ok (.iload_n 3, 1) := by decide +kernel
theorem dk_La_law_1167 : decode mi_La_law.2.1 1167 = .ok (.iconst 1, 1) := by decide +kernel
theorem dk_La_law_1168 : decode mi_La_law.2.1 1168 = .ok (.iadd, 1) := by decide +kernel
theorem dk_La_law_1169 : decode mi_La_law.2.1 1169 = .ok (.iaload, 1) := by decide +kernel
theorem dk_La_law_1170 : decode mi_La_law.2.1 1170 = .ok (.aload_n 0, 1) := by decide +kernel
theorem dk_La_law_1171 : decode mi_La_law.2.1 1171 = .ok (.iload_n 3, 1) := by decide +kernel
theorem dk_La_law_1172 : decode mi_La_law.2.1 1172 = .ok (.iconst 2, 1) := by decide +kernel
theorem dk_La_law_1173 : decode mi_La_law.2.1 1173 = .ok (.iadd, 1) := by decide +kernel
theorem dk_La_law_1174 : decode mi_La_law.2.1 1174 = .ok (.iaload, 1) := by decide +kernel
theorem dk_La_law_1175 : decode mi_La_law.2.1 1175 = .ok (.aload_n 0, 1) := by decide +kernel
theorem dk_La_law_1176 : decode mi_La_law.2.1 1176 = .ok (.iload_n 3, 1) := by decide +kernel
theorem dk_La_law_1177 : decode mi_La_law.2.1 1177 = .ok (.iconst 3, 1) := by decide +kernel
theorem dk_La_law_1178 : decode mi_La_law.2.1 1178 = .ok (.iadd, 1) := by decide +kernel
theorem dk_La_law_1179 : decode mi_La_law.2.1 1179 = .ok (.iaload, 1) := by decide +kernel
theorem dk_La_law_1180 : decode mi_La_law.2.1 1180 = .ok (.invokevirtual 139, 3) := by decide +kernel
theorem dk_La_law_1183 : decode mi_La_law.2.1 1183 = .ok (.aload_n 2, 1) := by decide +kernel
theorem dk_La_law_1184 : decode mi_La_law.2.1 1184 = .ok (.aload_n 0, 1) := by decide +kernel
theorem dk_La_law_1185 : decode mi_La_law.2.1 1185 = .ok (.iload_n 3, 1) := by decide +kernel
theorem dk_La_law_1186 : decode mi_La_law.2.1 1186 = .ok (.iconst 1, 1) := by decide +kernel
theorem dk_La_law_1187 : decode mi_La_law.2.1 1187 = .ok (.iadd, 1) := by decide +kernel
theorem dk_La_law_1188 : decode mi_La_law.2.1 1188 = .ok (.iaload, 1) := by decide +kernel
theorem dk_La_law_1189 : decode mi_La_law.2.1 1189 = .ok (.aload_n 0, 1) := by decide +kernel
theorem dk_La_law_1190 : decode mi_La_law.2.1 1190 = .ok (.iload_n 3, 1) := by decide +kernel
theorem dk_La_law_1191 : decode mi_La_law.2.1 1191 = .ok (.iconst 2, 1) := by decide +kernel
theorem dk_La_law_1192 : decode mi_La_law.2.1 1192 = .ok (.iadd, 1) := by decide +kernel
theorem dk_La_law_1193 : decode mi_La_law.2.1 1193 = .ok (.iaload, 1) := by decide +kernel
theorem dk_La_law_1194 : decode mi_La_law.2.1 1194 = .ok (.aload_n 0, 1) := by decide +kernel
theorem dk_La_law_1195 : decode mi_La_law.2.1 1195 = .ok (.iload_n 3, 1) := by decide +kernel
theorem dk_La_law_1196 : decode mi_La_law.2.1 1196 = .ok (.iconst 3, 1) := by decide +kernel
theorem dk_La_law_1197 : decode mi_La_law.2.1 1197 = .ok (.iadd, 1) := by decide +kernel
theorem dk_La_law_1198 : decode mi_La_law.2.1 1198 = .ok (.iaload, 1) := by decide +kernel
theorem dk_La_law_1199 : decode mi_La_law.2.1 1199 = .ok (.invokevirtual 142, 3) := by decide +kernel
theorem dk_La_law_1202 : decode mi_La_law.2.1 1202 = .ok (.if_icmp .eq 367, 3) := by decide +kernel
theorem dk_La_law_1205 : decode mi_La_law.2.1 1205 = .ok (.iconst 0, 1) := by decide +kernel
theorem dk_La_law_1206 : decode mi_La_law.2.1 1206 = .ok (.ireturn, 1) := by decide +kernel
theorem dk_La_law_1207 : decode mi_La_law.2.1 1207 = .ok (.aload_n 1, 1) := by decide +kernel
theorem dk_La_law_1208 : decode mi_La_law.2.1 1208 = .ok (.aload_n 0, 1) := by decide +kernel
theorem dk_La_law_1209 : decode mi_La_law.2.1 1209 = .ok (.iload_n 3, 1) := by decide +kernel
theorem dk_La_law_1210 : decode mi_La_law.2.1 1210 = .ok (.iconst 1, 1) := by decide +kernel
theorem dk_La_law_1211 : decode mi_La_law.2.1 1211 = .ok (.iadd, 1) := by decide +kernel
theorem dk_La_law_1212 : decode mi_La_law.2.1 1212 = .ok (.iaload, 1) := by decide +kernel
theorem dk_La_law_1213 : decode mi_La_law.2.1 1213 = .ok (.aload_n 0, 1) := by decide +kernel
theorem dk_La_law_1214 : decode mi_La_law.2.1 1214 = .ok (.iload_n 3, 1) := by decide +kernel
theorem dk_La_law_1215 : decode mi_La_law.2.1 1215 = .ok (.iconst 2, 1) := by decide +kernel
theorem dk_La_law_1216 : decode mi_La_law.2.1 1216 = .ok (.iadd, 1) := by decide +kernel
theorem dk_La_law_1217 : decode mi_La_law.2.1 1217 = .ok (.iaload, 1) := by decide +kernel
theorem dk_La_law_1218 : decode mi_La_law.2.1 1218 = .ok (.invokevirtual 143, 3) := by decide +kernel
theorem dk_La_law_1221 : decode mi_La_law.2.1 1221 = .ok (.aload_n 2, 1) := by decide +kernel
theorem dk_La_law_1222 : decode mi_La_law.2.1 1222 = .ok (.aload_n 0, 1) := by decide +kernel
theorem dk_La_law_1223 : decode mi_La_law.2.1 1223 = .ok (.iload_n 3, 1) := by decide +kernel
theorem dk_La_law_1224 : decode mi_La_law.2.1 1224 = .ok (.iconst 1, 1) := by decide +kernel
theorem dk_La_law_1225 : decode mi_La_law.2.1 1225 = .ok (.iadd, 1) := by decide +kernel
theorem dk_La_law_1226 : decode mi_La_law.2.1 1226 = .ok (.iaload, 1) := by decide +kernel
theorem dk_La_law_1227 : decode mi_La_law.2.1 1227 = .ok (.aload_n 0, 1) := by decide +kernel
theorem dk_La_law_1228 : decode mi_La_law.2.1 1228 = .ok (.iload_n 3, 1) := by decide +kernel
theorem dk_La_law_1229 : decode mi_La_law.2.1 1229 = .ok (.iconst 2, 1) := by decide +kernel
theorem dk_La_law_1230 : decode mi_La_law.2.1 1230 = .ok (.iadd, 1) := by decide +kernel
theorem dk_La_law_1231 : decode mi_La_law.2.1 1231 = .ok (.iaload, 1) := by decide +kernel
theorem dk_La_law_1232 : decode mi_La_law.2.1 1232 = .ok (.invokevirtual 146, 3) := by decide +kernel
theorem dk_La_law_1235 : decode mi_La_law.2.1 1235 = .ok (.if_icmp .eq 334, 3) := by decide +kernel
theorem dk_La_law_1238 : decode mi_La_law.2.1 1238 = .ok (.iconst 0, 1) := by decide +kernel
theorem dk_La_law_1239 : decode mi_La_law.2.1 1239 = .ok (.ireturn, 1) := by decide +kernel
theorem dk_La_law_1240 : decode mi_La_law.2.1 1240 = .ok (.aload_n 1, 1) := by decide +kernel
theorem dk_La_law_1241 : decode mi_La_law.2.1 1241 = .ok (.aload_n 0, 1) := by decide +kernel
theorem dk_La_law_1242 : decode mi_La_law.2.1 1242 = .ok (.iload_n 3, 1) := by decide +kernel
theorem dk_La_law_1243 : decode mi_La_law.2.1 1243 = .ok (.iconst 1, 1) := by decide +kernel
theorem dk_La_law_1244 : decode mi_La_law.2.1 1244 = .ok (.iadd, 1) := by decide +kernel
theorem dk_La_law_1245 : decode mi_La_law.2.1 1245 = .ok (.iaload, 1) := by decide +kernel
theorem dk_La_law_1246 : decode mi_La_law.2.1 1246 = .ok (.aload_n 0, 1) := by decide +kernel
theorem dk_La_law_1247 : decode mi_La_law.2.1 1247 = .ok (.iload_n 3, 1) := by decide +kernel
theorem dk_La_law_1248 : decode mi_La_law.2.1 1248 = .ok (.iconst 2, 1) := by decide +kernel
theorem dk_La_law_1249 : decode mi_La_law.2.1 1249 = .ok (.iadd, 1) := by decide +kernel
theorem dk_La_law_1250 : decode mi_La_law.2.1 1250 = .ok (.iaload, 1) := by decide +kernel
theorem dk_La_law_1251 : decode mi_La_law.2.1 1251 = .ok (.aload_n 0, 1) := by decide +kernel
theorem dk_La_law_1252 : decode mi_La_law.2.1 1252 = .ok (.iload_n 3, 1) := by decide +kernel
theorem dk_La_law_1253 : decode mi_La_law.2.1 1253 = .ok (.iconst 3, 1) := by decide +kernel
theorem dk_La_law_1254 : decode mi_La_law.2.1 1254 = .ok (.iadd, 1) := by decide +kernel
theorem dk_La_law_1255 : decode mi_La_law.2.1 1255 = .ok (.iaload, 1) := by decide +kernel
theorem dk_La_law_1256 : decode mi_La_law.2.1 1256 = .ok (.invokevirtual 147, 3) := by decide +kernel
theorem dk_La_law_1259 : decode mi_La_law.2.1 1259 = .ok (.aload_n 2, 1) := by decide +kernel
theorem dk_La_law_1260 : decode mi_La_law.2.1 1260 = .ok (.aload_n 0, 1) := by decide +kernel
theorem dk_La_law_1261 : decode mi_La_law.2.1 1261 = .ok (.iload_n 3, 1) := by decide +kernel
theorem dk_La_law_1262 : decode mi_La_law.2.1 1262 = .ok (.iconst 1, 1) := by decide +kernel
theorem dk_La_law_1263 : decode mi_La_law.2.1 1263 = .ok (.iadd, 1) := by decide +kernel
theorem dk_La_law_1264 : decode mi_La_law.2.1 1264 = .ok (.iaload, 1) := by decide +kernel
theorem dk_La_law_1265 : decode mi_La_law.2.1 1265 = .ok (.aload_n 0, 1) := by decide +kernel
theorem dk_La_law_1266 : decode mi_La_law.2.1 1266 = .ok (.iload_n 3, 1) := by decide +kernel
theorem dk_La_law_1267 : decode mi_La_law.2.1 1267 = .ok (.iconst 2, 1) := by decide +kernel
theorem dk_La_law_1268 : decode mi_La_law.2.1 1268 = .ok (.iadd, 1) := by decide +kernel
theorem dk_La_law_1269 : decode mi_La_law.2.1 1269 = .ok (.iaload, 1) := by decide +kernel
theorem dk_La_law_1270 : decode mi_La_law.2.1 1270 = .ok (.aload_n 0, 1) := by decide +kernel
theorem dk_La_law_1271 : decode mi_La_law.2.1 1271 = .ok (.iload_n 3, 1) := by decide +kernel
theorem dk_La_law_1272 : decode mi_La_law.2.1 1272 = .ok (.iconst 3, 1) := by decide +kernel
theorem dk_La_law_1273 : decode mi_La_law.2.1 1273 = .ok (.iadd, 1) := by decide +kernel
theorem dk_La_law_1274 : decode mi_La_law.2.1 1274 = .ok (.iaload, 1) := by decide +kernel
theorem dk_La_law_1275 : decode mi_La_law.2.1 1275 = .ok (.invokevirtual 150, 3) := by decide +kernel
theorem dk_La_law_1278 : decode mi_La_law.2.1 1278 = .ok (.if_icmp .eq 291, 3) := by decide +kernel
theorem dk_La_law_1281 : decode mi_La_law.2.1 1281 = .ok (.iconst 0, 1) := by decide +kernel
theorem dk_La_law_1282 : decode mi_La_law.2.1 1282 = .ok (.ireturn, 1) := by decide +kernel
theorem dk_La_law_1283 : decode mi_La_law.2.1 1283 = .ok (.aload_n 1, 1) := by decide +kernel
theorem dk_La_law_1284 : decode mi_La_law.2.1 1284 = .ok (.aload_n 0, 1) := by decide +kernel
theorem dk_La_law_1285 : decode mi_La_law.2.1 1285 = .ok (.iload_n 3, 1) := by decide +kernel
theorem dk_La_law_1286 : decode mi_La_law.2.1 1286 = .ok (.iconst 1, 1) := by decide +kernel
theorem dk_La_law_1287 : decode mi_La_law.2.1 1287 = .ok (.iadd, 1) := by decide +kernel
theorem dk_La_law_1288 : decode mi_La_law.2.1 1288 = .ok (.iaload, 1) := by decide +kernel
theorem dk_La_law_1289 : decode mi_La_law.2.1 1289 = .ok (.aload_n 0, 1) := by decide +kernel
theorem dk_La_law_1290 : decode mi_La_law.2.1 1290 = .ok (.iload_n 3, 1) := by decide +kernel
theorem dk_La_law_1291 : decode mi_La_law.2.1 1291 = .ok (.iconst 2, 1) := by decide +kernel
theorem dk_La_law_1292 : decode mi_La_law.2.1 1292 = .ok (.iadd, 1) := by decide +kernel
theorem dk_La_law_1293 : decode mi_La_law.2.1 1293 = .ok (.iaload, 1) := by decide +kernel
theorem dk_La_law_1294 : decode mi_La_law.2.1 1294 = .ok (.invokevirtual 151, 3) := by decide +kernel
theorem dk_La_law_1297 : decode mi_La_law.2.1 1297 = .ok (.aload_n 2, 1) := by decide +kernel
theorem dk_La_law_1298 : decode mi_La_law.2.1 1298 = .ok (.aload_n 0, 1) := by decide +kernel
theorem dk_La_law_1299 : decode mi_La_law.2.1 1299 = .ok (.iload_n 3, 1) := by decide +kernel
theorem dk_La_law_1300 : decode mi_La_law.2.1 1300 = .ok (.iconst 1, 1) := by decide +kernel
theorem dk_La_law_1301 : decode mi_La_law.2.1 1301 = .ok (.iadd, 1) := by decide +kernel
theorem dk_La_law_1302 : decode mi_La_law.2.1 1302 = .ok (.iaload, 1) := by decide +kernel
theorem dk_La_law_1303 : decode mi_La_law.2.1 1303 = .ok (.aload_n 0, 1) := by decide +kernel
theorem dk_La_law_1304 : decode mi_La_law.2.1 1304 = .ok (.iload_n 3, 1) := by decide +kernel
theorem dk_La_law_1305 : decode mi_La_law.2.1 1305 = .ok (.iconst 2, 1) := by decide +kernel
theorem dk_La_law_1306 : decode mi_La_law.2.1 1306 = .ok (.iadd, 1) := by decide +kernel
theorem dk_La_law_1307 : decode mi_La_law.2.1 1307 = .ok (.iaload, 1) := by decide +kernel
theorem dk_La_law_1308 : decode mi_La_law.2.1 1308 = .ok (.invokevirtual 154, 3) := by decide +kernel
theorem dk_La_law_1311 : decode mi_La_law.2.1 1311 = .ok (.if_icmp .eq 258, 3) := by decide +kernel
theorem dk_La_law_1314 : decode mi_La_law.2.1 1314 = .ok (.iconst 0, 1) := by decide +kernel
theorem dk_La_law_1315 : decode mi_La_law.2.1 1315 = .ok (.ireturn, 1) := by decide +kernel
theorem dk_La_law_1316 : decode mi_La_law.2.1 1316 = .ok (.aload_n 1, 1) := by decide +kernel
theorem dk_La_law_1317 : decode mi_La_law.2.1 1317 = .ok (.aload_n 0, 1) := by decide +kernel
theorem dk_La_law_1318 : decode mi_La_law.2.1 1318 = .ok (.iload_n 3, 1) := by decide +kernel
theorem dk_La_law_1319 : decode mi_La_law.2.1 1319 = .ok (.iconst 1, 1) := by decide +kernel
theorem dk_La_law_1320 : decode mi_La_law.2.1 1320 = .ok (.iadd, 1) := by decide +kernel
theorem dk_La_law_1321 : decode mi_La_law.2.1 1321 = .ok (.iaload, 1) := by decide +kernel
theorem dk_La_law_1322 : decode mi_La_law.2.1 1322 = .ok (.aload_n 0, 1) := by decide +kernel
theorem dk_La_law_1323 : decode mi_La_law.2.1 1323 = .ok (.iload_n 3, 1) := by decide +kernel
theorem dk_La_law_1324 : decode mi_La_law.2.1 1324 = .ok (.iconst 2, 1) := by decide +kernel
theorem dk_La_law_1325 : decode mi_La_law.2.1 1325 = .ok (.iadd, 1) := by decide +kernel
theorem dk_La_law_1326 : decode mi_La_law.2.1 1326 = .ok (.iaload, 1) := by decide +kernel
theorem dk_La_law_1327 : decode mi_La_law.2.1 1327 = .ok (.invokevirtual 155, 3) := by decide +kernel
theorem dk_La_law_1330 : decode mi_La_law.2.1 1330 = .ok (.aload_n 2, 1) := by decide +kernel
theorem dk_La_law_1331 : decode mi_La_law.2.1 1331 = .ok (.aload_n 0, 1) := by decide +kernel
theorem dk_La_law_1332 : decode mi_La_law.2.1 1332 = .ok (.iload_n 3, 1) := by decide +kernel
theorem dk_La_law_1333 : decode mi_La_law.2.1 1333 = .ok (.iconst 1, 1) := by decide +kernel
theorem dk_La_law_1334 : decode mi_La_law.2.1 1334 = .ok (.iadd, 1) := by decide +kernel
theorem dk_La_law_1335 : decode mi_La_law.2.1 1335 = .ok (.iaload, 1) := by decide +kernel
theorem dk_La_law_1336 : decode mi_La_law.2.1 1336 = .ok (.aload_n 0, 1) := by decide +kernel
theorem dk_La_law_1337 : decode mi_La_law.2.1 1337 = .ok (.iload_n 3, 1) := by decide +kernel
theorem dk_La_law_1338 : decode mi_La_law.2.1 1338 = .ok (.iconst 2, 1) := by decide +kernel
theorem dk_La_law_1339 : decode mi_La_law.2.1 1339 = .ok (.iadd, 1) := by decide +kernel
theorem dk_La_law_1340 : decode mi_La_law.2.1 1340 = .ok (.iaload, 1) := by decide +kernel
theorem dk_La_law_1341 : decode mi_La_law.2.1 1341 = .ok (.invokevirtual 158, 3) := by decide +kernel
theorem dk_La_law_1344 : decode mi_La_law.2.1 1344 = .ok (.if_icmp .eq 225, 3) := by decide +kernel
theorem dk_La_law_1347 : decode mi_La_law.2.1 1347 = .ok (.iconst 0, 1) := by decide +kernel
theorem dk_La_law_1348 : decode mi_La_law.2.1 1348 = .ok (.ireturn, 1) := by decide +kernel
theorem dk_La_law_1349 : decode mi_La_law.2.1 1349 = .ok (.aload_n 1, 1) := by decide +kernel
theorem dk_La_law_1350 : decode mi_La_law.2.1 1350 = .ok (.aload_n 0, 1) := by decide +kernel
theorem dk_La_law_1351 : decode mi_La_law.2.1 1351 = .ok (.iload_n 3, 1) := by decide +kernel
theorem dk_La_law_1352 : decode mi_La_law.2.1 1352 = .ok (.iconst 1, 1) := by decide +kernel
theorem dk_La_law_1353 : decode mi_La_law.2.1 1353 = .ok (.iadd, 1) := by decide +kernel
theorem dk_La_law_1354 : decode mi_La_law.2.1 1354 = .ok (.iaload, 1) := by decide +kernel
theorem dk_La_law_1355 : decode mi_La_law.2.1 1355 = .ok (.aload_n 0, 1) := by decide +kernel
theorem dk_La_law_1356 : decode mi_La_law.2.1 1356 = .ok (.iload_n 3, 1) := by decide +kernel
theorem dk_La_law_1357 : decode mi_La_law.2.1 1357 = .ok (.iconst 2, 1) := by decide +kernel
theorem dk_La_law_1358 : decode mi_La_law.2.1 1358 = .ok (.iadd, 1) := by decide +kernel
theorem dk_La_law_1359 : decode mi_La_law.2.1 1359 = .ok (.iaload, 1) := by decide +kernel
theorem dk_La_law_1360 : decode mi_La_law.2.1 1360 = .ok (.invokevirtual 159, 3) := by decide +kernel
theorem dk_La_law_1363 : decode mi_La_law.2.1 1363 = .ok (.aload_n 2, 1) := by decide +kernel
theorem dk_La_law_1364 : decode mi_La_law.2.1 1364 = .ok (.aload_n 0, 1) := by decide +kernel
theorem dk_La_law_1365 : decode mi_La_law.2.1 1365 = .ok (.iload_n 3, 1) := by decide +kernel
theorem dk_La_law_1366 : decode mi_La_law.2.1 1366 = .ok (.iconst 1, 1) := by decide +kernel
theorem dk_La_law_1367 : decode mi_La_law.2.1 1367 = .ok (.iadd, 1) := by decide +kernel
theorem dk_La_law_1368 : decode mi_La_law.2.1 1368 = .ok (.iaload, 1) := by decide +kernel
theorem dk_La_law_1369 : decode mi_La_law.2.1 1369 = .ok (.aload_n 0, 1) := by decide +kernel
theorem dk_La_law_1370 : decode mi_La_law.2.1 1370 = .ok (.iload_n 3, 1) := by decide +kernel
theorem dk_La_law_1371 : decode mi_La_law.2.1 1371 = .ok (.iconst 2, 1) := by decide +kernel
theorem dk_La_law_1372 : decode mi_La_law.2.1 1372 = .ok (.iadd, 1) := by decide +kernel
theorem dk_La_law_1373 : decode mi_La_law.2.1 1373 = .ok (.iaload, 1) := by decide +kernel
theorem dk_La_law_1374 : decode mi_La_law.2.1 1374 = .ok (.invokevirtual 162, 3) := by decide +kernel
theorem dk_La_law_1377 : decode mi_La_law.2.1 1377 = .ok (.if_icmp .eq 192, 3) := by decide +kernel
theorem dk_La_law_1380 : decode mi_La_law.2.1 1380 = .ok (.iconst 0, 1) := by decide +kernel
theorem dk_La_law_1381 : decode mi_La_law.2.1 1381 = .ok (.ireturn, 1) := by decide +kernel
theorem dk_La_law_1382 : decode mi_La_law.2.1 1382 = .ok (.aload_n 1, 1) := by decide +kernel
theorem dk_La_law_1383 : decode mi_La_law.2.1 1383 = .ok (.invokevirtual 163, 3) := by decide +kernel
theorem dk_La_law_1386 : decode mi_La_law.2.1 1386 = .ok (.aload_n 2, 1) := by decide +kernel
theorem dk_La_law_1387 : decode mi_La_law.2.1 1387 = .ok (.invokevirtual 166, 3) := by decide +kernel
theorem dk_La_law_1390 : decode mi_La_law.2.1 1390 = .ok (.if_icmp .eq 179, 3) := by decide +kernel
theorem dk_La_law_1393 : decode mi_La_law.2.1 1393 = .ok (.iconst 0, 1) := by decide +kernel
theorem dk_La_law_1394 : decode mi_La_law.2.1 1394 = .ok (.ireturn, 1) := by decide +kernel
theorem dk_La_law_1395 : decode mi_La_law.2.1 1395 = .ok (.aload_n 1, 1) := by decide +kernel
theorem dk_La_law_1396 : decode mi_La_law.2.1 1396 = .ok (.invokevirtual 167, 3) := by decide +kernel
theorem dk_La_law_1399 : decode mi_La_law.2.1 1399 = .ok (.aload_n 2, 1) := by decide +kernel
theorem dk_La_law_1400 : decode mi_La_law.2.1 1400 = .ok (.invokevirtual 170, 3) := by decide +kernel
theorem dk_La_law_1403 : decode mi_La_law.2.1 1403 = .ok (.if_icmp .eq 166, 3) := by decide +kernel
theorem dk_La_law_1406 : decode mi_La_law.2.1 1406 = .ok (.iconst 0, 1) := by decide +kernel
theorem dk_La_law_1407 : decode mi_La_law.2.1 1407 = .ok (.ireturn, 1) := by decide +kernel
theorem dk_La_law_1408 : decode mi_La_law.2.1 1408 = .ok (.aload_n 1, 1) := by decide +kernel
theorem dk_La_law_1409 : decode mi_La_law.2.1 1409 = .ok (.aload_n 0, 1) := by decide +kernel
theorem dk_La_law_1410 : decode mi_La_law.2.1 1410 = .ok (.iload_n 3, 1) := by decide +kernel
theorem dk_La_law_1411 : decode mi_La_law.2.1 1411 = .ok (.iconst 1, 1) := by decide +kernel
theorem dk_La_law_1412 : decode mi_La_law.2.1 1412 = .ok (.iadd, 1) := by decide +kernel
theorem dk_La_law_1413 : decode mi_La_law.2.1 1413 = .ok (.iaload, 1) := by decide +kernel
theorem dk_La_law_1414 : decode mi_La_law.2.1 1414 = .ok (.invokevirtual 171, 3) := by decide +kernel
theorem dk_La_law_1417 : decode mi_La_law.2.1 1417 = .ok (.aload_n 2, 1) := by decide +kernel
theorem dk_La_law_1418 : decode mi_La_law.2.1 1418 = .ok (.aload_n 0, 1) := by decide +kernel
theorem dk_La_law_1419 : decode mi_La_law.2.1 1419 = .ok (.iload_n 3, 1) := by decide +kernel
theorem dk_La_law_1420 : decode mi_La_law.2.1 1420 = .ok (.iconst 1, 1) := by decide +kernel
theorem dk_La_law_1421 : decode mi_La_law.2.1 1421 = .ok (.iadd, 1) := by decide +kernel
theorem dk_La_law_1422 : decode mi_La_law.2.1 1422 = .ok (.iaload, 1) := by decide +kernel
theorem dk_La_law_1423 : decode mi_La_law.2.1 1423 = .ok (.invokevirtual 174, 3) := by decide +kernel
theorem dk_La_law_1426 : decode mi_La_law.2.1 1426 = .ok (.if_icmp .eq 143, 3) := by decide +kernel
theorem dk_La_law_1429 : decode mi_La_law.2.1 1429 = .ok (.iconst 0, 1) := by decide +kernel
theorem dk_La_law_1430 : decode mi_La_law.2.1 1430 = .ok (.ireturn, 1) := by decide +kernel
theorem dk_La_law_1431 : decode mi_La_law.2.1 1431 = .ok (.aload_n 1, 1) := by decide +kernel
theorem dk_La_law_1432 : decode mi_La_law.2.1 1432 = .ok (.aload_n 0, 1) := by decide +kernel
theorem dk_La_law_1433 : decode mi_La_law.2.1 1433 = .ok (.iload_n 3, 1) := by decide +kernel
theorem dk_La_law_1434 : decode mi_La_law.2.1 1434 = .ok (.iconst 1, 1) := by decide +kernel
theorem dk_La_law_1435 : decode mi_La_law.2.1 1435 = .ok (.iadd, 1) := by decide +kernel
theorem dk_La_law_1436 : decode mi_La_law.2.1 1436 = .ok (.iaload, 1) := by decide +kernel
theorem dk_La_law_1437 : decode mi_La_law.2.1 1437 = .ok (.invokevirtual 175, 3) := by decide +kernel
theorem dk_La_law_1440 : decode mi_La_law.2.1 1440 = .ok (.aload_n 2, 1) := by decide +kernel
theorem dk_La_law_1441 : decode mi_La_law.2.1 1441 = .ok (.aload_n 0, 1) := by decide +kernel
theorem dk_La_law_1442 : decode mi_La_law.2.1 1442 = .ok (.iload_n 3, 1) := by decide +kernel
theorem dk_La_law_1443 : decode mi_La_law.2.1 1443 = .ok (.iconst 1, 1) := by decide +kernel
theorem dk_La_law_1444 : decode mi_La_law.2.1 1444 = .ok (.iadd, 1) := by decide +kernel
theorem dk_La_law_1445 : decode mi_La_law.2.1 1445 = .ok (.iaload, 1) := by decide +kernel
theorem dk_La_law_1446 : decode mi_La_law.2.1 1446 = .ok (.invokevirtual 178, 3) := by decide +kernel
theorem dk_La_law_1449 : decode mi_La_law.2.1 1449 = .ok (.if_icmp .eq 120, 3) := by decide +kernel
theorem dk_La_law_1452 : decode mi_La_law.2.1 1452 = .ok (.iconst 0, 1) := by decide +kernel
theorem dk_La_law_1453 : decode mi_La_law.2.1 1453 = .ok (.ireturn, 1) := by decide +kernel
theorem dk_La_law_1454 : decode mi_La_law.2.1 1454 = .ok (.aload_n 1, 1) := by decide +kernel
theorem dk_La_law_1455 : decode mi_La_law.2.1 1455 = .ok (.aload_n 0, 1) := by decide +kernel
theorem dk_La_law_1456 : decode mi_La_law.2.1 1456 = .ok (.iload_n 3, 1) := by decide +kernel
theorem dk_La_law_1457 : decode mi_La_law.2.1 1457 = .ok (.iconst 1, 1) := by decide +kernel
theorem dk_La_law_1458 : decode mi_La_law.2.1 1458 = .ok (.iadd, 1) := by decide +kernel
theorem dk_La_law_1459 : decode mi_La_law.2.1 1459 = .ok (.iaload, 1) := by decide +kernel
theorem dk_La_law_1460 : decode mi_La_law.2.1 1460 = .ok (.aload_n 0, 1) := by decide +kernel
theorem dk_La_law_1461 : decode mi_La_law.2.1 1461 = .ok (.iload_n 3, 1) := by decide +kernel
theorem dk_La_law_1462 : decode mi_La_law.2.1 1462 = .ok (.iconst 2, 1) := by decide +kernel
theorem dk_La_law_1463 : decode mi_La_law.2.1 1463 = .ok (.iadd, 1) := by decide +kernel
theorem dk_La_law_1464 : decode mi_La_law.2.1 1464 = .ok (.iaload, 1) := by decide +kernel
theorem dk_La_law_1465 : decode mi_La_law.2.1 1465 = .ok (.aload_n 0, 1) := by decide +kernel
theorem dk_La_law_1466 : decode mi_La_law.2.1 1466 = .ok (.iload_n 3, 1) := by decide +kernel
theorem dk_La_law_1467 : decode mi_La_law.2.1 1467 = .ok (.iconst 3, 1) := by decide +kernel
theorem dk_La_law_1468 : decode mi_La_law.2.1 1468 = .ok (.iadd, 1) := by decide +kernel
theorem dk_La_law_1469 : decode mi_La_law.2.1 1469 = .ok (.iaload, 1) := by decide +kernel
theorem dk_La_law_1470 : decode mi_La_law.2.1 1470 = .ok (.invokevirtual 179, 3) := by decide +kernel
theorem dk_La_law_1473 : decode mi_La_law.2.1 1473 = .ok (.aload_n 2, 1) := by decide +kernel
theorem dk_La_law_1474 : decode mi_La_law.2.1 1474 = .ok (.aload_n 0, 1) := by decide +kernel
theorem dk_La_law_1475 : decode mi_La_law.2.1 1475 = .ok (.iload_n 3, 1) := by decide +kernel
theorem dk_La_law_1476 : decode mi_La_law.2.1 1476 = .ok (.iconst 1, 1) := by decide +kernel
theorem dk_La_law_1477 : decode mi_La_law.2.1 1477 = .ok (.iadd, 1) := by decide +kernel
theorem dk_La_law_1478 : decode mi_La_law.2.1 1478 = .ok (.iaload, 1) := by decide +kernel
theorem dk_La_law_1479 : decode mi_La_law.2.1 1479 = .ok (.aload_n 0, 1) := by decide +kernel
theorem dk_La_law_1480 : decode mi_La_law.2.1 1480 = .ok (.iload_n 3, 1) := by decide +kernel
theorem dk_La_law_1481 : decode mi_La_law.2.1 1481 = .ok (.iconst 2, 1) := by decide +kernel
theorem dk_La_law_1482 : decode mi_La_law.2.1 1482 = .ok (.iadd, 1) := by decide +kernel
theorem dk_La_law_1483 : decode mi_La_law.2.1 1483 = .ok (.iaload, 1) := by decide +kernel
theorem dk_La_law_1484 : decode mi_La_law.2.1 1484 = .ok (.aload_n 0, 1) := by decide +kernel
theorem dk_La_law_1485 : decode mi_La_law.2.1 1485 = .ok (.iload_n 3, 1) := by decide +kernel
theorem dk_La_law_1486 : decode mi_La_law.2.1 1486 = .ok (.iconst 3, 1) := by decide +kernel
theorem dk_La_law_1487 : decode mi_La_law.2.1 1487 = .ok (.iadd, 1) := by decide +kernel
theorem dk_La_law_1488 : decode mi_La_law.2.1 1488 = .ok (.iaload, 1) := by decide +kernel
theorem dk_La_law_1489 : decode mi_La_law.2.1 1489 = .ok (.invokevirtual 182, 3) := by decide +kernel
theorem dk_La_law_1492 : decode mi_La_law.2.1 1492 = .ok (.if_icmp .eq 77, 3) := by decide +kernel
theorem dk_La_law_1495 : decode mi_La_law.2.1 1495 = .ok (.iconst 0, 1) := by decide +kernel
theorem dk_La_law_1496 : decode mi_La_law.2.1 1496 = .ok (.ireturn, 1) := by decide +kernel
theorem dk_La_law_1497 : decode mi_La_law.2.1 1497 = .ok (.aload_n 1, 1) := by decide +kernel
theorem dk_La_law_1498 : decode mi_La_law.2.1 1498 = .ok (.aload_n 0, 1) := by decide +kernel
theorem dk_La_law_1499 : decode mi_La_law.2.1 1499 = .ok (.iload_n 3, 1) := by decide +kernel
theorem dk_La_law_1500 : decode mi_La_law.2.1 1500 = .ok (.iconst 1, 1) := by decide +kernel
theorem dk_La_law_1501 : decode mi_La_law.2.1 1501 = .ok (.iadd, 1) := by decide +kernel
theorem dk_La_law_1502 : decode mi_La_law.2.1 1502 = .ok (.iaload, 1) := by decide +kernel
theorem dk_La_law_1503 : decode mi_La_law.2.1 1503 = .ok (.invokevirtual 183, 3) := by decide +kernel
theorem dk_La_law_1506 : decode mi_La_law.2.1 1506 = .ok (.aload_n 2, 1) := by decide +kernel
theorem dk_La_law_1507 : decode mi_La_law.2.1 1507 = .ok (.aload_n 0, 1) := by decide +kernel
theorem dk_La_law_1508 : decode mi_La_law.2.1 1508 = .ok (.iload_n 3, 1) := by decide +kernel
theorem dk_La_law_1509 : decode mi_La_law.2.1 1509 = .ok (.iconst 1, 1) := by decide +kernel
theorem dk_La_law_1510 : decode mi_La_law.2.1 1510 = .ok (.iadd, 1) := by decide +kernel
theorem dk_La_law_1511 : decode mi_La_law.2.1 1511 = .ok (.iaload, 1) := by decide +kernel
theorem dk_La_law_1512 : decode mi_La_law.2.1 1512 = .ok (.invokevirtual 186, 3) := by decide +kernel
theorem dk_La_law_1515 : decode mi_La_law.2.1 1515 = .ok (.if_icmp .eq 54, 3) := by decide +kernel
theorem dk_La_law_1518 : decode mi_La_law.2.1 1518 = .ok (.iconst 0, 1) := by decide +kernel
theorem dk_La_law_1519 : decode mi_La_law.2.1 1519 = .ok (.ireturn, 1) := by decide +kernel
theorem dk_La_law_1520 : decode mi_La_law.2.1 1520 = .ok (.aload_n 1, 1) := by decide +kernel
theorem dk_La_law_1521 : decode mi_La_law.2.1 1521 = .ok (.invokevirtual 187, 3) := by decide +kernel
theorem dk_La_law_1524 : decode mi_La_law.2.1 1524 = .ok (.aload_n 2, 1) := by decide +kernel
theorem dk_La_law_1525 : decode mi_La_law.2.1 1525 = .ok (.invokevirtual 190, 3) := by decide +kernel
theorem dk_La_law_1528 : decode mi_La_law.2.1 1528 = .ok (.if_icmp .eq 41, 3) := by decide +kernel
theorem dk_La_law_1531 : decode mi_La_law.2.1 1531 = .ok (.iconst 0, 1) := by decide +kernel
theorem dk_La_law_1532 : decode mi_La_law.2.1 1532 = .ok (.ireturn, 1) := by decide +kernel
theorem dk_La_law_1533 : decode mi_La_law.2.1 1533 = .ok (.aload_n 1, 1) := by decide +kernel
theorem dk_La_law_1534 : decode mi_La_law.2.1 1534 = .ok (.invokevirtual 191, 3) := by decide +kernel
theorem dk_La_law_1537 : decode mi_La_law.2.1 1537 = .ok (.aload_n 2, 1) := by decide +kernel
theorem dk_La_law_1538 : decode mi_La_law.2.1 1538 = .ok (.invokevirtual 194, 3) := by decide +kernel
theorem dk_La_law_1541 : decode mi_La_law.2.1 1541 = .ok (.if_icmp .eq 28, 3) := by decide +kernel
theorem dk_La_law_1544 : decode mi_La_law.2.1 1544 = .ok (.iconst 0, 1) := by decide +kernel
theorem dk_La_law_1545 : decode mi_La_law.2.1 1545 = .ok (.ireturn, 1) := by decide +kernel
theorem dk_La_law_1546 : decode mi_La_law.2.1 1546 = .ok (.aload_n 1, 1) := by decide +kernel
theorem dk_La_law_1547 : decode mi_La_law.2.1 1547 = .ok (.aload_n 0, 1) := by decide +kernel
theorem dk_La_law_1548 : decode mi_La_law.2.1 1548 = .ok (.iload_n 3, 1) := by decide +kernel
theorem dk_La_law_1549 : decode mi_La_law.2.1 1549 = .ok (.iconst 1, 1) := by decide +kernel
theorem dk_La_law_1550 : decode mi_La_law.2.1 1550 = .ok (.iadd, 1) := by decide +kernel
theorem dk_La_law_1551 : decode mi_La_law.2.1 1551 = .ok (.iaload, 1) := by decide +kernel
theorem dk_La_law_1552 : decode mi_La_law.2.1 1552 = .ok (.invokevirtual 195, 3) := by decide +kernel
theorem dk_La_law_1555 : decode mi_La_law.2.1 1555 = .ok (.aload_n 2, 1) := by decide +kernel
theorem dk_La_law_1556 : decode mi_La_law.2.1 1556 = .ok (.aload_n 0, 1) := by decide +kernel
theorem dk_La_law_1557 : decode mi_La_law.2.1 1557 = .ok (.iload_n 3, 1) := by decide +kernel
theorem dk_La_law_1558 : decode mi_La_law.2.1 1558 = .ok (.iconst 1, 1) := by decide +kernel
theorem dk_La_law_1559 : decode mi_La_law.2.1 1559 = .ok (.iadd, 1) := by decide +kernel
theorem dk_La_law_1560 : decode mi_La_law.2.1 1560 = .ok (.iaload, 1) := by decide +kernel
theorem dk_La_law_1561 : decode mi_La_law.2.1 1561 = .ok (.invokevirtual 198, 3) := by decide +kernel
theorem dk_La_law_1564 : decode mi_La_law.2.1 1564 = .ok (.if_icmp .eq 5, 3) := by decide +kernel
theorem dk_La_law_1567 : decode mi_La_law.2.1 1567 = .ok (.iconst 0, 1) := by decide +kernel
theorem dk_La_law_1568 : decode mi_La_law.2.1 1568 = .ok (.ireturn, 1) := by decide +kernel
theorem dk_La_law_1569 : decode mi_La_law.2.1 1569 = .ok (.iinc 3 6, 3) := by decide +kernel
theorem dk_La_law_1572 : decode mi_La_law.2.1 1572 = .ok (.goto (-1554), 3) := by decide +kernel
theorem dk_La_law_1575 : decode mi_La_law.2.1 1575 = .ok (.iconst 1, 1) := by decide +kernel
theorem dk_La_law_1576 : decode mi_La_law.2.1 1576 = .ok (.ireturn, 1) := by decide +kernel
def La_law_j643 (X : nm_X) (k_18 : Int32 → nm_St → Option (Int32 × nm_St)) (x3 : Int32) (y0 : Int32) (y2 : Int32) (y3 : Int32) (y4 : Int32) (σ : nm_St) : Option (Int32 × nm_St) :=
  ((Md_knows y2 y3 y4 σ).bind fun q86 =>
  (if y0 = q86.1 then
    k_18 (x3 + (6 : Int32)) q86.2
  else
    some ((0 : Int32), q86.2)))
set_option maxRecDepth 100000 in
set_option maxHeartbeats 4000000 in
theorem r_La_law_j643 (X : nm_X) (F : nm_F) (Qf : Int32 → nm_St → State → Prop) (hQ : ∀ L pc σ (x : Int32), decode mi_La_law.2.1 pc = .ok (.ireturn, 1) → Rn X mi_La_law F Qf L [.int x] pc σ (some (x, σ))) (hF0 : 85 ≤ nm_d F) (k_18 : Int32 → nm_St → Option (Int32 × nm_St)) (hk_18 : ∀ (x3 : Int32) (σ : nm_St), Rn X mi_La_law F Qf [(0, .ref 4000), (1, .ref 0), (2, .ref 70), (3, .int x3)] [] 18 σ (k_18 x3 σ)) (x3 : Int32) (y0 : Int32) (y2 : Int32) (y3 : Int32) (y4 : Int32) (σ : nm_St) : Rn X mi_La_law F Qf [(0, .ref 4000), (1, .ref 0), (2, .ref 70), (3, .int x3)] [.int y4, .int y3, .int y2, .ref 70, .int y0] 643 σ (La_law_j643 X k_18 x3 y0 y2 y3 y4 σ) := by
  unfold La_law_j643
  refine cl_La_61 (pc := 643) (As := [.int y2, .int y3, .int y4]) (st := [.int y0]) rfl (ct_Md_knows X y2 y3 y4 σ) (Nat.le_trans (Nat.le_of_ble_eq_true rfl) hF0) rfl rfl (Nat.le_of_ble_eq_true rfl) dk_La_law_643 (fun q86 => ?_)
  refine rn_icmp_eq (pc := 646) 1569 dk_La_law_646 (by decide) (fun c87 => ?_) (fun c87 => ?_)
  · refine rn_iinc (pc := 1569) (6 : Int32) dk_La_law_1569 cn_i_6 rfl rfl rfl ?_
    refine rn_goto (pc := 1572) 18 dk_La_law_1572 (by decide) ?_
    exact rn_sub (by rfl) (hk_18 (x3 + (6 : Int32)) q86.2)
  · refine rn_iconst (pc := 649) (0 : Int32) dk_La_law_649 cn_i_0 ?_
    exact hQ _ _ _ _ dk_La_law_650
def La_law_j616 (X : nm_X) (k_18 : Int32 → nm_St → Option (Int32 × nm_St)) (x3 : Int32) (y1 : Int32) (y2 : Int32) (y3 : Int32) (σ : nm_St) : Option (Int32 × nm_St) :=
  ((Nm_knows y1 y2 y3 σ).bind fun q81 =>
  (nm_g (nm_in (x3 + (1 : Int32)) (nm_L X)) (
  (nm_g (nm_in (x3 + (2 : Int32)) (nm_L X)) (
  (nm_g (nm_in (x3 + (3 : Int32)) (nm_L X)) (
  (if (nm_xs X (x3 + (3 : Int32)).toNatClampNeg) = 0 then
    La_law_j643 X k_18 x3 q81.1 (nm_xs X (x3 + (1 : Int32)).toNatClampNeg) (nm_xs X (x3 + (2 : Int32)).toNatClampNeg) (0 : Int32) q81.2
  else
    La_law_j643 X k_18 x3 q81.1 (nm_xs X (x3 + (1 : Int32)).toNatClampNeg) (nm_xs X (x3 + (2 : Int32)).toNatClampNeg) (1 : Int32) q81.2))))))))
set_option maxRecDepth 100000 in
set_option maxHeartbeats 4000000 in
theorem r_La_law_j616 (X : nm_X) (F : nm_F) (Qf : Int32 → nm_St → State → Prop) (hQ : ∀ L pc σ (x : Int32), decode mi_La_law.2.1 pc = .ok (.ireturn, 1) → Rn X mi_La_law F Qf L [.int x] pc σ (some (x, σ))) (hF0 : 85 ≤ nm_d F) (k_18 : Int32 → nm_St → Option (Int32 × nm_St)) (hk_18 : ∀ (x3 : Int32) (σ : nm_St), Rn X mi_La_law F Qf [(0, .ref 4000), (1, .ref 0), (2, .ref 70), (3, .int x3)] [] 18 σ (k_18 x3 σ)) (x3 : Int32) (y1 : Int32) (y2 : Int32) (y3 : Int32) (σ : nm_St) : Rn X mi_La_law F Qf [(0, .ref 4000), (1, .ref 0), (2, .ref 70), (3, .int x3)] [.int y3, .int y2, .int y1, .ref 0] 616 σ (La_law_j616 X k_18 x3 y1 y2 y3 σ) := by
  unfold La_law_j616
  refine cl_La_57 (pc := 616) (As := [.int y1, .int y2, .int y3]) (st := []) rfl (ct_Nm_knows X y1 y2 y3 σ) (Nat.le_trans (Nat.le_of_ble_eq_true rfl) hF0) rfl rfl (Nat.le_of_ble_eq_true rfl) dk_La_law_616 (fun q81 => ?_)
  refine rn_aload_n (pc := 619) 2 dk_La_law_619 rfl rfl rfl ?_
  refine rn_aload_n (pc := 620) 0 dk_La_law_620 rfl rfl rfl ?_
  refine rn_iload_n (pc := 621) 3 dk_La_law_621 rfl rfl ?_
  refine rn_iconst (pc := 622) (1 : Int32) dk_La_law_622 cn_i_1 ?_
  refine rn_iadd (pc := 623) dk_La_law_623 ?_
  refine rn_sld (pc := 624) dk_La_law_624 (fun g82 => ?_)
  refine rn_aload_n (pc := 625) 0 dk_La_law_625 rfl rfl rfl ?_
  refine rn_iload_n (pc := 626) 3 dk_La_law_626 rfl rfl ?_
  refine rn_iconst (pc := 627) (2 : Int32) dk_La_law_627 cn_i_2 ?_
  refine rn_iadd (pc := 628) dk_La_law_628 ?_
  refine rn_sld (pc := 629) dk_La_law_629 (fun g83 => ?_)
  refine rn_aload_n (pc := 630) 0 dk_La_law_630 rfl rfl rfl ?_
  refine rn_iload_n (pc := 631) 3 dk_La_law_631 rfl rfl ?_
  refine rn_iconst (pc := 632) (3 : Int32) dk_La_law_632 cn_i_3 ?_
  refine rn_iadd (pc := 633) dk_La_law_633 ?_
  refine rn_sld (pc := 634) dk_La_law_634 (fun g84 => ?_)
  refine rn_if_eq (pc := 635) 642 dk_La_law_635 (by decide) (fun c85 => ?_) (fun c85 => ?_)
  · refine rn_iconst (pc := 642) (0 : Int32) dk_La_law_642 cn_i_0 ?_
    exact rn_sub (by rfl) (r_La_law_j643 X F Qf hQ hF0 _ hk_18 x3 q81.1 (nm_xs X (x3 + (1 : Int32)).toNatClampNeg) (nm_xs X (x3 + (2 : Int32)).toNatClampNeg) (0 : Int32) q81.2)
  · refine rn_iconst (pc := 638) (1 : Int32) dk_La_law_638 cn_i_1 ?_
    refine rn_goto (pc := 639) 643 dk_La_law_639 (by decide) ?_
    exact rn_sub (by rfl) (r_La_law_j643 X F Qf hQ hF0 _ hk_18 x3 q81.1 (nm_xs X (x3 + (1 : Int32)).toNatClampNeg) (nm_xs X (x3 + (2 : Int32)).toNatClampNeg) (1 : Int32) q81.2)
def La_law_j702 (X : nm_X) (k_18 : Int32 → nm_St → Option (Int32 × nm_St)) (x3 : Int32) (y0 : Int32) (y2 : Int32) (y3 : Int32) (y4 : Int32) (σ : nm_St) : Option (Int32 × nm_St) :=
  ((Md_kin y2 y3 y4 σ).bind fun q97 =>
  (if y0 = q97.1 then
    k_18 (x3 + (6 : Int32)) q97.2
  else
    some ((0 : Int32), q97.2)))
set_option maxRecDepth 100000 in
set_option maxHeartbeats 4000000 in
theorem r_La_law_j702 (X : nm_X) (F : nm_F) (Qf : Int32 → nm_St → State → Prop) (hQ : ∀ L pc σ (x : Int32), decode mi_La_law.2.1 pc = .ok (.ireturn, 1) → Rn X mi_La_law F Qf L [.int x] pc σ (some (x, σ))) (hF0 : 85 ≤ nm_d F) (k_18 : Int32 → nm_St → Option (Int32 × nm_St)) (hk_18 : ∀ (x3 : Int32) (σ : nm_St), Rn X mi_La_law F Qf [(0, .ref 4000), (1, .ref 0), (2, .ref 70), (3, .int x3)] [] 18 σ (k_18 x3 σ)) (x3 : Int32) (y0 : Int32) (y2 : Int32) (y3 : Int32) (y4 : Int32) (σ : nm_St) : Rn X mi_La_law F Qf [(0, .ref 4000), (1, .ref 0), (2, .ref 70), (3, .int x3)] [.int y4, .int y3, .int y2, .ref 70, .int y0] 702 σ (La_law_j702 X k_18 x3 y0 y2 y3 y4 σ) := by
  unfold La_law_j702
  refine cl_La_65 (pc := 702) (As := [.int y2, .int y3, .int y4]) (st := [.int y0]) rfl (ct_Md_kin X y2 y3 y4 σ) (Nat.le_trans (Nat.le_of_ble_eq_true rfl) hF0) rfl rfl (Nat.le_of_ble_eq_true rfl) dk_La_law_702 (fun q97 => ?_)
  refine rn_icmp_eq (pc := 705) 1569 dk_La_law_705 (by decide) (fun c98 => ?_) (fun c98 => ?_)
  · refine rn_iinc (pc := 1569) (6 : Int32) dk_La_law_1569 cn_i_6 rfl rfl rfl ?_
    refine rn_goto (pc := 1572) 18 dk_La_law_1572 (by decide) ?_
    exact rn_sub (by rfl) (hk_18 (x3 + (6 : Int32)) q97.2)
  · refine rn_iconst (pc := 708) (0 : Int32) dk_La_law_708 cn_i_0 ?_
    exact hQ _ _ _ _ dk_La_law_709
def La_law_j675 (X : nm_X) (k_18 : Int32 → nm_St → Option (Int32 × nm_St)) (x3 : Int32) (y1 : Int32) (y2 : Int32) (y3 : Int32) (σ : nm_St) : Option (Int32 × nm_St) :=
  ((Nm_kin y1 y2 y3 σ).bind fun q92 =>
  (nm_g (nm_in (x3 + (1 : Int32)) (nm_L X)) (
  (nm_g (nm_in (x3 + (2 : Int32)) (nm_L X)) (
  (nm_g (nm_in (x3 + (3 : Int32)) (nm_L X)) (
  (if (nm_xs X (x3 + (3 : Int32)).toNatClampNeg) = 0 then
    La_law_j702 X k_18 x3 q92.1 (nm_xs X (x3 + (1 : Int32)).toNatClampNeg) (nm_xs X (x3 + (2 : Int32)).toNatClampNeg) (0 : Int32) q92.2
  else
    La_law_j702 X k_18 x3 q92.1 (nm_xs X (x3 + (1 : Int32)).toNatClampNeg) (nm_xs X (x3 + (2 : Int32)).toNatClampNeg) (1 : Int32) q92.2))))))))
set_option maxRecDepth 100000 in
set_option maxHeartbeats 4000000 in
theorem r_La_law_j675 (X : nm_X) (F : nm_F) (Qf : Int32 → nm_St → State → Prop) (hQ : ∀ L pc σ (x : Int32), decode mi_La_law.2.1 pc = .ok (.ireturn, 1) → Rn X mi_La_law F Qf L [.int x] pc σ (some (x, σ))) (hF0 : 85 ≤ nm_d F) (k_18 : Int32 → nm_St → Option (Int32 × nm_St)) (hk_18 : ∀ (x3 : Int32) (σ : nm_St), Rn X mi_La_law F Qf [(0, .ref 4000), (1, .ref 0), (2, .ref 70), (3, .int x3)] [] 18 σ (k_18 x3 σ)) (x3 : Int32) (y1 : Int32) (y2 : Int32) (y3 : Int32) (σ : nm_St) : Rn X mi_La_law F Qf [(0, .ref 4000), (1, .ref 0), (2, .ref 70), (3, .int x3)] [.int y3, .int y2, .int y1, .ref 0] 675 σ (La_law_j675 X k_18 x3 y1 y2 y3 σ) := by
  unfold La_law_j675
  refine cl_La_62 (pc := 675) (As := [.int y1, .int y2, .int y3]) (st := []) rfl (ct_Nm_kin X y1 y2 y3 σ) (Nat.le_trans (Nat.le_of_ble_eq_true rfl) hF0) rfl rfl (Nat.le_of_ble_eq_true rfl) dk_La_law_675 (fun q92 => ?_)
  refine rn_aload_n (pc := 678) 2 dk_La_law_678 rfl rfl rfl ?_
  refine rn_aload_n (pc := 679) 0 dk_La_law_679 rfl rfl rfl ?_
  refine rn_iload_n (pc := 680) 3 dk_La_law_680 rfl rfl ?_
  refine rn_iconst (pc := 681) (1 : Int32) dk_La_law_681 cn_i_1 ?_
  refine rn_iadd (pc := 682) dk_La_law_682 ?_
  refine rn_sld (pc := 683) dk_La_law_683 (fun g93 => ?_)
  refine rn_aload_n (pc := 684) 0 dk_La_law_684 rfl rfl rfl ?_
  refine rn_iload_n (pc := 685) 3 dk_La_law_685 rfl rfl ?_
  refine rn_iconst (pc := 686) (2 : Int32) dk_La_law_686 cn_i_2 ?_
  refine rn_iadd (pc := 687) dk_La_law_687 ?_
  refine rn_sld (pc := 688) dk_La_law_688 (fun g94 => ?_)
  refine rn_aload_n (pc := 689) 0 dk_La_law_689 rfl rfl rfl ?_
  refine rn_iload_n (pc := 690) 3 dk_La_law_690 rfl rfl ?_
  refine rn_iconst (pc := 691) (3 : Int32) dk_La_law_691 cn_i_3 ?_
  refine rn_iadd (pc := 692) dk_La_law_692 ?_
  refine rn_sld (pc := 693) dk_La_law_693 (fun g95 => ?_)
  refine rn_if_eq (pc := 694) 701 dk_La_law_694 (by decide) (fun c96 => ?_) (fun c96 => ?_)
  · refine rn_iconst (pc := 701) (0 : Int32) dk_La_law_701 cn_i_0 ?_
    exact rn_sub (by rfl) (r_La_law_j702 X F Qf hQ hF0 _ hk_18 x3 q92.1 (nm_xs X (x3 + (1 : Int32)).toNatClampNeg) (nm_xs X (x3 + (2 : Int32)).toNatClampNeg) (0 : Int32) q92.2)
  · refine rn_iconst (pc := 697) (1 : Int32) dk_La_law_697 cn_i_1 ?_
    refine rn_goto (pc := 698) 702 dk_La_law_698 (by decide) ?_
    exact rn_sub (by rfl) (r_La_law_j702 X F Qf hQ hF0 _ hk_18 x3 q92.1 (nm_xs X (x3 + (1 : Int32)).toNatClampNeg) (nm_xs X (x3 + (2 : Int32)).toNatClampNeg) (1 : Int32) q92.2)
def La_law_l18 (X : nm_X) (k_1575 : nm_St → Option (Int32 × nm_St)) : Nat → Int32 → nm_St → Option (Int32 × nm_St)
  | 0, _, _ => none
  | n + 1, x3, σ =>
    (if ((Int32.ofNat (nm_L X)) - (6 : Int32)) < x3 then
      k_1575 σ
    else
      (nm_g (nm_in x3 (nm_L X)) (
      (if ((nm_xs X x3.toNatClampNeg) &&& (63 : Int32)) = (0 : Int32) then
        (nm_g (nm_in (x3 + (1 : Int32)) (nm_L X)) (
        (nm_g (nm_in (x3 + (2 : Int32)) (nm_L X)) (
        (nm_g (nm_in (x3 + (3 : Int32)) (nm_L X)) (
        ((Nm_row (nm_xs X (x3 + (1 : Int32)).toNatClampNeg) (nm_xs X (x3 + (2 : Int32)).toNatClampNeg) (nm_xs X (x3 + (3 : Int32)).toNatClampNeg) σ).bind fun q7 =>
        (nm_g (nm_in (x3 + (1 : Int32)) (nm_L X)) (
        (nm_g (nm_in (x3 + (2 : Int32)) (nm_L X)) (
        (nm_g (nm_in (x3 + (3 : Int32)) (nm_L X)) (
        ((Md_row (nm_xs X (x3 + (1 : Int32)).toNatClampNeg) (nm_xs X (x3 + (2 : Int32)).toNatClampNeg) (nm_xs X (x3 + (3 : Int32)).toNatClampNeg) q7.2).bind fun q11 =>
        (if q7.1 = q11.1 then
          (La_law_l18 X k_1575 n) (x3 + (6 : Int32)) q11.2
        else
          some ((0 : Int32), q11.2))))))))))))))))
      else
      (if ((nm_xs X x3.toNatClampNeg) &&& (63 : Int32)) = (1 : Int32) then
        (nm_g (nm_in (x3 + (1 : Int32)) (nm_L X)) (
        (nm_g (nm_in (x3 + (2 : Int32)) (nm_L X)) (
        (nm_g (nm_in (x3 + (3 : Int32)) (nm_L X)) (
        (nm_g (nm_in (x3 + (4 : Int32)) (nm_L X)) (
        ((Nm_set (nm_xs X (x3 + (1 : Int32)).toNatClampNeg) (nm_xs X (x3 + (2 : Int32)).toNatClampNeg) (((Int32.toInt64 (nm_xs X (x3 + (3 : Int32)).toNatClampNeg)) <<< (Int32.toInt64 (32 : Int32) &&& 63)) ||| ((Int32.toInt64 (nm_xs X (x3 + (4 : Int32)).toNatClampNeg)) &&& (4294967295 : Int64))) σ).bind fun q17 =>
        (nm_g (nm_in (x3 + (1 : Int32)) (nm_L X)) (
        (nm_g (nm_in (x3 + (2 : Int32)) (nm_L X)) (
        (nm_g (nm_in (x3 + (3 : Int32)) (nm_L X)) (
        (nm_g (nm_in (x3 + (4 : Int32)) (nm_L X)) (
        ((Md_set (nm_xs X (x3 + (1 : Int32)).toNatClampNeg) (nm_xs X (x3 + (2 : Int32)).toNatClampNeg) (((Int32.toInt64 (nm_xs X (x3 + (3 : Int32)).toNatClampNeg)) <<< (Int32.toInt64 (32 : Int32) &&& 63)) ||| ((Int32.toInt64 (nm_xs X (x3 + (4 : Int32)).toNatClampNeg)) &&& (4294967295 : Int64))) q17.2).bind fun q22 =>
        (if q17.1 = q22.1 then
          (La_law_l18 X k_1575 n) (x3 + (6 : Int32)) q22.2
        else
          some ((0 : Int32), q22.2))))))))))))))))))))
      else
      (if ((nm_xs X x3.toNatClampNeg) &&& (63 : Int32)) = (2 : Int32) then
        (nm_g (nm_in (x3 + (1 : Int32)) (nm_L X)) (
        (nm_g (nm_in (x3 + (2 : Int32)) (nm_L X)) (
        (nm_g (nm_in (x3 + (3 : Int32)) (nm_L X)) (
        (nm_g (nm_in (x3 + (4 : Int32)) (nm_L X)) (
        (nm_g (nm_in (x3 + (5 : Int32)) (nm_L X)) (
        ((Nm_copy (nm_xs X (x3 + (1 : Int32)).toNatClampNeg) (nm_xs X (x3 + (2 : Int32)).toNatClampNeg) (nm_xs X (x3 + (3 : Int32)).toNatClampNeg) (nm_xs X (x3 + (4 : Int32)).toNatClampNeg) (nm_xs X (x3 + (5 : Int32)).toNatClampNeg) σ).bind fun q29 =>
        (nm_g (nm_in (x3 + (1 : Int32)) (nm_L X)) (
        (nm_g (nm_in (x3 + (2 : Int32)) (nm_L X)) (
        (nm_g (nm_in (x3 + (3 : Int32)) (nm_L X)) (
        (nm_g (nm_in (x3 + (4 : Int32)) (nm_L X)) (
        (nm_g (nm_in (x3 + (5 : Int32)) (nm_L X)) (
        ((Md_copy (nm_xs X (x3 + (1 : Int32)).toNatClampNeg) (nm_xs X (x3 + (2 : Int32)).toNatClampNeg) (nm_xs X (x3 + (3 : Int32)).toNatClampNeg) (nm_xs X (x3 + (4 : Int32)).toNatClampNeg) (nm_xs X (x3 + (5 : Int32)).toNatClampNeg) q29.2).bind fun q35 =>
        (if q29.1 = q35.1 then
          (La_law_l18 X k_1575 n) (x3 + (6 : Int32)) q35.2
        else
          some ((0 : Int32), q35.2))))))))))))))))))))))))
      else
      (if ((nm_xs X x3.toNatClampNeg) &&& (63 : Int32)) = (3 : Int32) then
        (nm_g (nm_in (x3 + (1 : Int32)) (nm_L X)) (
        (nm_g (nm_in (x3 + (2 : Int32)) (nm_L X)) (
        ((Nm_element (nm_xs X (x3 + (1 : Int32)).toNatClampNeg) (nm_xs X (x3 + (2 : Int32)).toNatClampNeg) σ).bind fun q39 =>
        (nm_g (nm_in (x3 + (1 : Int32)) (nm_L X)) (
        (nm_g (nm_in (x3 + (2 : Int32)) (nm_L X)) (
        ((Md_element (nm_xs X (x3 + (1 : Int32)).toNatClampNeg) (nm_xs X (x3 + (2 : Int32)).toNatClampNeg) q39.2).bind fun q42 =>
        (if (lg_cmp q39.1 q42.1) = 0 then
          (La_law_l18 X k_1575 n) (x3 + (6 : Int32)) q42.2
        else
          some ((0 : Int32), q42.2))))))))))))
      else
      (if ((nm_xs X x3.toNatClampNeg) &&& (63 : Int32)) = (4 : Int32) then
        (nm_g (nm_in (x3 + (1 : Int32)) (nm_L X)) (
        (nm_g (nm_in (x3 + (2 : Int32)) (nm_L X)) (
        ((Nm_show (nm_xs X (x3 + (1 : Int32)).toNatClampNeg) (nm_xs X (x3 + (2 : Int32)).toNatClampNeg) σ).bind fun q46 =>
        (nm_g (nm_in (x3 + (1 : Int32)) (nm_L X)) (
        (nm_g (nm_in (x3 + (2 : Int32)) (nm_L X)) (
        ((Md_show (nm_xs X (x3 + (1 : Int32)).toNatClampNeg) (nm_xs X (x3 + (2 : Int32)).toNatClampNeg) q46.2).bind fun q49 =>
        (if q46.1 = q49.1 then
          (La_law_l18 X k_1575 n) (x3 + (6 : Int32)) q49.2
        else
          some ((0 : Int32), q49.2))))))))))))
      else
      (if ((nm_xs X x3.toNatClampNeg) &&& (63 : Int32)) = (5 : Int32) then
        (nm_g (nm_in (x3 + (1 : Int32)) (nm_L X)) (
        ((Nm_holds (nm_xs X (x3 + (1 : Int32)).toNatClampNeg) σ).bind fun q52 =>
        (nm_g (nm_in (x3 + (1 : Int32)) (nm_L X)) (
        ((Md_holds (nm_xs X (x3 + (1 : Int32)).toNatClampNeg) q52.2).bind fun q54 =>
        (if q52.1 = q54.1 then
          (La_law_l18 X k_1575 n) (x3 + (6 : Int32)) q54.2
        else
          some ((0 : Int32), q54.2))))))))
      else
      (if ((nm_xs X x3.toNatClampNeg) &&& (63 : Int32)) = (6 : Int32) then
        (nm_g (nm_in (x3 + (1 : Int32)) (nm_L X)) (
        (nm_g (nm_in (x3 + (2 : Int32)) (nm_L X)) (
        ((Nm_says (nm_xs X (x3 + (1 : Int32)).toNatClampNeg) (nm_xs X (x3 + (2 : Int32)).toNatClampNeg) σ).bind fun q58 =>
        (nm_g (nm_in (x3 + (1 : Int32)) (nm_L X)) (
        (nm_g (nm_in (x3 + (2 : Int32)) (nm_L X)) (
        ((Md_says (nm_xs X (x3 + (1 : Int32)).toNatClampNeg) (nm_xs X (x3 + (2 : Int32)).toNatClampNeg) q58.2).bind fun q61 =>
        (if q58.1 = q61.1 then
          (La_law_l18 X k_1575 n) (x3 + (6 : Int32)) q61.2
        else
          some ((0 : Int32), q61.2))))))))))))
      else
      (if ((nm_xs X x3.toNatClampNeg) &&& (63 : Int32)) = (7 : Int32) then
        (nm_g (nm_in (x3 + (1 : Int32)) (nm_L X)) (
        (nm_g (nm_in (x3 + (2 : Int32)) (nm_L X)) (
        (nm_g (nm_in (x3 + (3 : Int32)) (nm_L X)) (
        ((Nm_maker (nm_xs X (x3 + (1 : Int32)).toNatClampNeg) (nm_xs X (x3 + (2 : Int32)).toNatClampNeg) (nm_xs X (x3 + (3 : Int32)).toNatClampNeg) σ).bind fun q66 =>
        (nm_g (nm_in (x3 + (1 : Int32)) (nm_L X)) (
        (nm_g (nm_in (x3 + (2 : Int32)) (nm_L X)) (
        (nm_g (nm_in (x3 + (3 : Int32)) (nm_L X)) (
        ((Md_maker (nm_xs X (x3 + (1 : Int32)).toNatClampNeg) (nm_xs X (x3 + (2 : Int32)).toNatClampNeg) (nm_xs X (x3 + (3 : Int32)).toNatClampNeg) q66.2).bind fun q70 =>
        (if q66.1 = q70.1 then
          (La_law_l18 X k_1575 n) (x3 + (6 : Int32)) q70.2
        else
          some ((0 : Int32), q70.2))))))))))))))))
      else
      (if ((nm_xs X x3.toNatClampNeg) &&& (63 : Int32)) = (8 : Int32) then
        (nm_g (nm_in (x3 + (1 : Int32)) (nm_L X)) (
        ((Nm_parts (nm_xs X (x3 + (1 : Int32)).toNatClampNeg) σ).bind fun q73 =>
        (nm_g (nm_in (x3 + (1 : Int32)) (nm_L X)) (
        ((Md_parts (nm_xs X (x3 + (1 : Int32)).toNatClampNeg) q73.2).bind fun q75 =>
        (if q73.1 = q75.1 then
          (La_law_l18 X k_1575 n) (x3 + (6 : Int32)) q75.2
        else
          some ((0 : Int32), q75.2))))))))
      else
      (if ((nm_xs X x3.toNatClampNeg) &&& (63 : Int32)) = (9 : Int32) then
        (nm_g (nm_in (x3 + (1 : Int32)) (nm_L X)) (
        (nm_g (nm_in (x3 + (2 : Int32)) (nm_L X)) (
        (nm_g (nm_in (x3 + (3 : Int32)) (nm_L X)) (
        (if (nm_xs X (x3 + (3 : Int32)).toNatClampNeg) = 0 then
          La_law_j616 X (La_law_l18 X k_1575 n) x3 (nm_xs X (x3 + (1 : Int32)).toNatClampNeg) (nm_xs X (x3 + (2 : Int32)).toNatClampNeg) (0 : Int32) σ
        else
          La_law_j616 X (La_law_l18 X k_1575 n) x3 (nm_xs X (x3 + (1 : Int32)).toNatClampNeg) (nm_xs X (x3 + (2 : Int32)).toNatClampNeg) (1 : Int32) σ)))))))
      else
      (if ((nm_xs X x3.toNatClampNeg) &&& (63 : Int32)) = (10 : Int32) then
        (nm_g (nm_in (x3 + (1 : Int32)) (nm_L X)) (
        (nm_g (nm_in (x3 + (2 : Int32)) (nm_L X)) (
        (nm_g (nm_in (x3 + (3 : Int32)) (nm_L X)) (
        (if (nm_xs X (x3 + (3 : Int32)).toNatClampNeg) = 0 then
          La_law_j675 X (La_law_l18 X k_1575 n) x3 (nm_xs X (x3 + (1 : Int32)).toNatClampNeg) (nm_xs X (x3 + (2 : Int32)).toNatClampNeg) (0 : Int32) σ
        else
          La_law_j675 X (La_law_l18 X k_1575 n) x3 (nm_xs X (x3 + (1 : Int32)).toNatClampNeg) (nm_xs X (x3 + (2 : Int32)).toNatClampNeg) (1 : Int32) σ)))))))
      else
      (if ((nm_xs X x3.toNatClampNeg) &&& (63 : Int32)) = (11 : Int32) then
        (nm_g (nm_in (x3 + (1 : Int32)) (nm_L X)) (
        (nm_g (nm_in (x3 + (2 : Int32)) (nm_L X)) (
        ((Nm_ask (nm_xs X (x3 + (1 : Int32)).toNatClampNeg) (nm_xs X (x3 + (2 : Int32)).toNatClampNeg) σ).bind fun q101 =>
        (nm_g (nm_in (x3 + (1 : Int32)) (nm_L X)) (
        (nm_g (nm_in (x3 + (2 : Int32)) (nm_L X)) (
        ((Md_ask (nm_xs X (x3 + (1 : Int32)).toNatClampNeg) (nm_xs X (x3 + (2 : Int32)).toNatClampNeg) q101.2).bind fun q104 =>
        (if q101.1 = q104.1 then
          (La_law_l18 X k_1575 n) (x3 + (6 : Int32)) q104.2
        else
          some ((0 : Int32), q104.2))))))))))))
      else
      (if ((nm_xs X x3.toNatClampNeg) &&& (63 : Int32)) = (12 : Int32) then
        (nm_g (nm_in (x3 + (1 : Int32)) (nm_L X)) (
        (nm_g (nm_in (x3 + (2 : Int32)) (nm_L X)) (
        ((Nm_makerOf (nm_xs X (x3 + (1 : Int32)).toNatClampNeg) (nm_xs X (x3 + (2 : Int32)).toNatClampNeg) σ).bind fun q108 =>
        (nm_g (nm_in (x3 + (1 : Int32)) (nm_L X)) (
        (nm_g (nm_in (x3 + (2 : Int32)) (nm_L X)) (
        ((Md_makerOf (nm_xs X (x3 + (1 : Int32)).toNatClampNeg) (nm_xs X (x3 + (2 : Int32)).toNatClampNeg) q108.2).bind fun q111 =>
        (if q108.1 = q111.1 then
          (La_law_l18 X k_1575 n) (x3 + (6 : Int32)) q111.2
        else
          some ((0 : Int32), q111.2))))))))))))
      else
      (if ((nm_xs X x3.toNatClampNeg) &&& (63 : Int32)) = (13 : Int32) then
        (nm_g (nm_in (x3 + (1 : Int32)) (nm_L X)) (
        ((Nm_island (nm_xs X (x3 + (1 : Int32)).toNatClampNeg) σ).bind fun q114 =>
        (nm_g (nm_in (x3 + (1 : Int32)) (nm_L X)) (
        ((Md_island (nm_xs X (x3 + (1 : Int32)).toNatClampNeg) q114.2).bind fun q116 =>
        (if q114.1 = q116.1 then
          (La_law_l18 X k_1575 n) (x3 + (6 : Int32)) q116.2
        else
          some ((0 : Int32), q116.2))))))))
      else
      (if ((nm_xs X x3.toNatClampNeg) &&& (63 : Int32)) = (14 : Int32) then
        ((Nm_fault σ).bind fun q118 =>
        ((Md_fault q118.2).bind fun q119 =>
        (if q118.1 = q119.1 then
          (La_law_l18 X k_1575 n) (x3 + (6 : Int32)) q119.2
        else
          some ((0 : Int32), q119.2))))
      else
      (if ((nm_xs X x3.toNatClampNeg) &&& (63 : Int32)) = (15 : Int32) then
        (nm_g (nm_in (x3 + (1 : Int32)) (nm_L X)) (
        ((Nm_abroad (nm_xs X (x3 + (1 : Int32)).toNatClampNeg) σ).bind fun q122 =>
        (nm_g (nm_in (x3 + (1 : Int32)) (nm_L X)) (
        ((Md_abroad (nm_xs X (x3 + (1 : Int32)).toNatClampNeg) q122.2).bind fun q124 =>
        (if q122.1 = q124.1 then
          (La_law_l18 X k_1575 n) (x3 + (6 : Int32)) q124.2
        else
          some ((0 : Int32), q124.2))))))))
      else
      (if ((nm_xs X x3.toNatClampNeg) &&& (63 : Int32)) = (16 : Int32) then
        ((Nm_fewest σ).bind fun q126 =>
        ((Md_fewest q126.2).bind fun q127 =>
        (if q126.1 = q127.1 then
          (La_law_l18 X k_1575 n) (x3 + (6 : Int32)) q127.2
        else
          some ((0 : Int32), q127.2))))
      else
      (if ((nm_xs X x3.toNatClampNeg) &&& (63 : Int32)) = (17 : Int32) then
        (nm_g (nm_in (x3 + (1 : Int32)) (nm_L X)) (
        ((Nm_cheapest (nm_xs X (x3 + (1 : Int32)).toNatClampNeg) σ).bind fun q130 =>
        (nm_g (nm_in (x3 + (1 : Int32)) (nm_L X)) (
        ((Md_cheapest (nm_xs X (x3 + (1 : Int32)).toNatClampNeg) q130.2).bind fun q132 =>
        (if q130.1 = q132.1 then
          (La_law_l18 X k_1575 n) (x3 + (6 : Int32)) q132.2
        else
          some ((0 : Int32), q132.2))))))))
      else
      (if ((nm_xs X x3.toNatClampNeg) &&& (63 : Int32)) = (18 : Int32) then
        (nm_g (nm_in (x3 + (1 : Int32)) (nm_L X)) (
        ((Nm_alone (nm_xs X (x3 + (1 : Int32)).toNatClampNeg) σ).bind fun q135 =>
        (nm_g (nm_in (x3 + (1 : Int32)) (nm_L X)) (
        ((Md_alone (nm_xs X (x3 + (1 : Int32)).toNatClampNeg) q135.2).bind fun q137 =>
        (if q135.1 = q137.1 then
          (La_law_l18 X k_1575 n) (x3 + (6 : Int32)) q137.2
        else
          some ((0 : Int32), q137.2))))))))
      else
      (if ((nm_xs X x3.toNatClampNeg) &&& (63 : Int32)) = (19 : Int32) then
        (nm_g (nm_in (x3 + (1 : Int32)) (nm_L X)) (
        ((Nm_without (nm_xs X (x3 + (1 : Int32)).toNatClampNeg) σ).bind fun q140 =>
        (nm_g (nm_in (x3 + (1 : Int32)) (nm_L X)) (
        ((Md_without (nm_xs X (x3 + (1 : Int32)).toNatClampNeg) q140.2).bind fun q142 =>
        (if q140.1 = q142.1 then
          (La_law_l18 X k_1575 n) (x3 + (6 : Int32)) q142.2
        else
          some ((0 : Int32), q142.2))))))))
      else
      (if ((nm_xs X x3.toNatClampNeg) &&& (63 : Int32)) = (20 : Int32) then
        (nm_g (nm_in (x3 + (1 : Int32)) (nm_L X)) (
        ((Nm_sold (nm_xs X (x3 + (1 : Int32)).toNatClampNeg) σ).bind fun q145 =>
        (nm_g (nm_in (x3 + (1 : Int32)) (nm_L X)) (
        ((Md_sold (nm_xs X (x3 + (1 : Int32)).toNatClampNeg) q145.2).bind fun q147 =>
        (if q145.1 = q147.1 then
          (La_law_l18 X k_1575 n) (x3 + (6 : Int32)) q147.2
        else
          some ((0 : Int32), q147.2))))))))
      else
      (if ((nm_xs X x3.toNatClampNeg) &&& (63 : Int32)) = (21 : Int32) then
        ((Nm_stands σ).bind fun q149 =>
        ((Md_stands0 q149.2).bind fun q150 =>
        (if q149.1 = q150.1 then
          (La_law_l18 X k_1575 n) (x3 + (6 : Int32)) q150.2
        else
          some ((0 : Int32), q150.2))))
      else
      (if ((nm_xs X x3.toNatClampNeg) &&& (63 : Int32)) = (22 : Int32) then
        (nm_g (nm_in (x3 + (1 : Int32)) (nm_L X)) (
        ((Nm_lessons (nm_xs X (x3 + (1 : Int32)).toNatClampNeg) σ).bind fun q153 =>
        (nm_g (nm_in (x3 + (1 : Int32)) (nm_L X)) (
        ((Md_lessons (nm_xs X (x3 + (1 : Int32)).toNatClampNeg) q153.2).bind fun q155 =>
        (if q153.1 = q155.1 then
          (La_law_l18 X k_1575 n) (x3 + (6 : Int32)) q155.2
        else
          some ((0 : Int32), q155.2))))))))
      else
      (if ((nm_xs X x3.toNatClampNeg) &&& (63 : Int32)) = (23 : Int32) then
        (nm_g (nm_in (x3 + (1 : Int32)) (nm_L X)) (
        ((Nm_offer (nm_xs X (x3 + (1 : Int32)).toNatClampNeg) σ).bind fun q158 =>
        (nm_g (nm_in (x3 + (1 : Int32)) (nm_L X)) (
        ((Md_offer (nm_xs X (x3 + (1 : Int32)).toNatClampNeg) q158.2).bind fun q160 =>
        (if q158.1 = q160.1 then
          (La_law_l18 X k_1575 n) (x3 + (6 : Int32)) q160.2
        else
          some ((0 : Int32), q160.2))))))))
      else
      (if ((nm_xs X x3.toNatClampNeg) &&& (63 : Int32)) = (24 : Int32) then
        ((Nm_spend σ).bind fun q162 =>
        ((Md_spend q162.2).bind fun q163 =>
        (if q162.1 = q163.1 then
          (La_law_l18 X k_1575 n) (x3 + (6 : Int32)) q163.2
        else
          some ((0 : Int32), q163.2))))
      else
      (if ((nm_xs X x3.toNatClampNeg) &&& (63 : Int32)) = (25 : Int32) then
        (nm_g (nm_in (x3 + (1 : Int32)) (nm_L X)) (
        (nm_g (nm_in (x3 + (2 : Int32)) (nm_L X)) (
        ((Nm_council (nm_xs X (x3 + (1 : Int32)).toNatClampNeg) (nm_xs X (x3 + (2 : Int32)).toNatClampNeg) σ).bind fun q167 =>
        (nm_g (nm_in (x3 + (1 : Int32)) (nm_L X)) (
        (nm_g (nm_in (x3 + (2 : Int32)) (nm_L X)) (
        ((Md_council (nm_xs X (x3 + (1 : Int32)).toNatClampNeg) (nm_xs X (x3 + (2 : Int32)).toNatClampNeg) q167.2).bind fun q170 =>
        (if q167.1 = q170.1 then
          (La_law_l18 X k_1575 n) (x3 + (6 : Int32)) q170.2
        else
          some ((0 : Int32), q170.2))))))))))))
      else
      (if ((nm_xs X x3.toNatClampNeg) &&& (63 : Int32)) = (26 : Int32) then
        (nm_g (nm_in (x3 + (1 : Int32)) (nm_L X)) (
        (nm_g (nm_in (x3 + (2 : Int32)) (nm_L X)) (
        (nm_g (nm_in (x3 + (3 : Int32)) (nm_L X)) (
        ((Nm_letter (nm_xs X (x3 + (1 : Int32)).toNatClampNeg) (nm_xs X (x3 + (2 : Int32)).toNatClampNeg) (nm_xs X (x3 + (3 : Int32)).toNatClampNeg) σ).bind fun q175 =>
        (nm_g (nm_in (x3 + (1 : Int32)) (nm_L X)) (
        (nm_g (nm_in (x3 + (2 : Int32)) (nm_L X)) (
        (nm_g (nm_in (x3 + (3 : Int32)) (nm_L X)) (
        ((Md_letter (nm_xs X (x3 + (1 : Int32)).toNatClampNeg) (nm_xs X (x3 + (2 : Int32)).toNatClampNeg) (nm_xs X (x3 + (3 : Int32)).toNatClampNeg) q175.2).bind fun q179 =>
        (if q175.1 = q179.1 then
          (La_law_l18 X k_1575 n) (x3 + (6 : Int32)) q179.2
        else
          some ((0 : Int32), q179.2))))))))))))))))
      else
      (if ((nm_xs X x3.toNatClampNeg) &&& (63 : Int32)) = (27 : Int32) then
        (nm_g (nm_in (x3 + (1 : Int32)) (nm_L X)) (
        (nm_g (nm_in (x3 + (2 : Int32)) (nm_L X)) (
        (nm_g (nm_in (x3 + (3 : Int32)) (nm_L X)) (
        ((Nm_keys (nm_xs X (x3 + (1 : Int32)).toNatClampNeg) (nm_xs X (x3 + (2 : Int32)).toNatClampNeg) (nm_xs X (x3 + (3 : Int32)).toNatClampNeg) σ).bind fun q184 =>
        (nm_g (nm_in (x3 + (1 : Int32)) (nm_L X)) (
        (nm_g (nm_in (x3 + (2 : Int32)) (nm_L X)) (
        (nm_g (nm_in (x3 + (3 : Int32)) (nm_L X)) (
        ((Md_keys (nm_xs X (x3 + (1 : Int32)).toNatClampNeg) (nm_xs X (x3 + (2 : Int32)).toNatClampNeg) (nm_xs X (x3 + (3 : Int32)).toNatClampNeg) q184.2).bind fun q188 =>
        (if q184.1 = q188.1 then
          (La_law_l18 X k_1575 n) (x3 + (6 : Int32)) q188.2
        else
          some ((0 : Int32), q188.2))))))))))))))))
      else
      (if ((nm_xs X x3.toNatClampNeg) &&& (63 : Int32)) = (28 : Int32) then
        (nm_g (nm_in (x3 + (1 : Int32)) (nm_L X)) (
        (nm_g (nm_in (x3 + (2 : Int32)) (nm_L X)) (
        ((Nm_tries (nm_xs X (x3 + (1 : Int32)).toNatClampNeg) (nm_xs X (x3 + (2 : Int32)).toNatClampNeg) σ).bind fun q192 =>
        (nm_g (nm_in (x3 + (1 : Int32)) (nm_L X)) (
        (nm_g (nm_in (x3 + (2 : Int32)) (nm_L X)) (
        ((Md_tries (nm_xs X (x3 + (1 : Int32)).toNatClampNeg) (nm_xs X (x3 + (2 : Int32)).toNatClampNeg) q192.2).bind fun q195 =>
        (if q192.1 = q195.1 then
          (La_law_l18 X k_1575 n) (x3 + (6 : Int32)) q195.2
        else
          some ((0 : Int32), q195.2))))))))))))
      else
      (if ((nm_xs X x3.toNatClampNeg) &&& (63 : Int32)) = (29 : Int32) then
        (nm_g (nm_in (x3 + (1 : Int32)) (nm_L X)) (
        (nm_g (nm_in (x3 + (2 : Int32)) (nm_L X)) (
        (nm_g (nm_in (x3 + (3 : Int32)) (nm_L X)) (
        ((Nm_who (nm_xs X (x3 + (1 : Int32)).toNatClampNeg) (nm_xs X (x3 + (2 : Int32)).toNatClampNeg) (nm_xs X (x3 + (3 : Int32)).toNatClampNeg) σ).bind fun q200 =>
        (nm_g (nm_in (x3 + (1 : Int32)) (nm_L X)) (
        (nm_g (nm_in (x3 + (2 : Int32)) (nm_L X)) (
        (nm_g (nm_in (x3 + (3 : Int32)) (nm_L X)) (
        ((Md_who (nm_xs X (x3 + (1 : Int32)).toNatClampNeg) (nm_xs X (x3 + (2 : Int32)).toNatClampNeg) (nm_xs X (x3 + (3 : Int32)).toNatClampNeg) q200.2).bind fun q204 =>
        (if q200.1 = q204.1 then
          (La_law_l18 X k_1575 n) (x3 + (6 : Int32)) q204.2
        else
          some ((0 : Int32), q204.2))))))))))))))))
      else
      (if ((nm_xs X x3.toNatClampNeg) &&& (63 : Int32)) = (30 : Int32) then
        (nm_g (nm_in (x3 + (1 : Int32)) (nm_L X)) (
        (nm_g (nm_in (x3 + (2 : Int32)) (nm_L X)) (
        ((Nm_judge (nm_xs X (x3 + (1 : Int32)).toNatClampNeg) (nm_xs X (x3 + (2 : Int32)).toNatClampNeg) σ).bind fun q208 =>
        (nm_g (nm_in (x3 + (1 : Int32)) (nm_L X)) (
        (nm_g (nm_in (x3 + (2 : Int32)) (nm_L X)) (
        ((Md_judge (nm_xs X (x3 + (1 : Int32)).toNatClampNeg) (nm_xs X (x3 + (2 : Int32)).toNatClampNeg) q208.2).bind fun q211 =>
        (if q208.1 = q211.1 then
          (La_law_l18 X k_1575 n) (x3 + (6 : Int32)) q211.2
        else
          some ((0 : Int32), q211.2))))))))))))
      else
      (if ((nm_xs X x3.toNatClampNeg) &&& (63 : Int32)) = (31 : Int32) then
        (nm_g (nm_in (x3 + (1 : Int32)) (nm_L X)) (
        (nm_g (nm_in (x3 + (2 : Int32)) (nm_L X)) (
        (nm_g (nm_in (x3 + (3 : Int32)) (nm_L X)) (
        ((Nm_behind (nm_xs X (x3 + (1 : Int32)).toNatClampNeg) (nm_xs X (x3 + (2 : Int32)).toNatClampNeg) (nm_xs X (x3 + (3 : Int32)).toNatClampNeg) σ).bind fun q216 =>
        (nm_g (nm_in (x3 + (1 : Int32)) (nm_L X)) (
        (nm_g (nm_in (x3 + (2 : Int32)) (nm_L X)) (
        (nm_g (nm_in (x3 + (3 : Int32)) (nm_L X)) (
        ((Md_behind (nm_xs X (x3 + (1 : Int32)).toNatClampNeg) (nm_xs X (x3 + (2 : Int32)).toNatClampNeg) (nm_xs X (x3 + (3 : Int32)).toNatClampNeg) q216.2).bind fun q220 =>
        (if q216.1 = q220.1 then
          (La_law_l18 X k_1575 n) (x3 + (6 : Int32)) q220.2
        else
          some ((0 : Int32), q220.2))))))))))))))))
      else
      (if ((nm_xs X x3.toNatClampNeg) &&& (63 : Int32)) = (32 : Int32) then
        (nm_g (nm_in (x3 + (1 : Int32)) (nm_L X)) (
        (nm_g (nm_in (x3 + (2 : Int32)) (nm_L X)) (
        ((Nm_done (nm_xs X (x3 + (1 : Int32)).toNatClampNeg) (nm_xs X (x3 + (2 : Int32)).toNatClampNeg) σ).bind fun q224 =>
        (nm_g (nm_in (x3 + (1 : Int32)) (nm_L X)) (
        (nm_g (nm_in (x3 + (2 : Int32)) (nm_L X)) (
        ((Md_done (nm_xs X (x3 + (1 : Int32)).toNatClampNeg) (nm_xs X (x3 + (2 : Int32)).toNatClampNeg) q224.2).bind fun q227 =>
        (if q224.1 = q227.1 then
          (La_law_l18 X k_1575 n) (x3 + (6 : Int32)) q227.2
        else
          some ((0 : Int32), q227.2))))))))))))
      else
      (if ((nm_xs X x3.toNatClampNeg) &&& (63 : Int32)) = (33 : Int32) then
        (nm_g (nm_in (x3 + (1 : Int32)) (nm_L X)) (
        (nm_g (nm_in (x3 + (2 : Int32)) (nm_L X)) (
        ((Nm_bid (nm_xs X (x3 + (1 : Int32)).toNatClampNeg) (nm_xs X (x3 + (2 : Int32)).toNatClampNeg) σ).bind fun q231 =>
        (nm_g (nm_in (x3 + (1 : Int32)) (nm_L X)) (
        (nm_g (nm_in (x3 + (2 : Int32)) (nm_L X)) (
        ((Md_bid (nm_xs X (x3 + (1 : Int32)).toNatClampNeg) (nm_xs X (x3 + (2 : Int32)).toNatClampNeg) q231.2).bind fun q234 =>
        (if q231.1 = q234.1 then
          (La_law_l18 X k_1575 n) (x3 + (6 : Int32)) q234.2
        else
          some ((0 : Int32), q234.2))))))))))))
      else
      (if ((nm_xs X x3.toNatClampNeg) &&& (63 : Int32)) = (34 : Int32) then
        (nm_g (nm_in (x3 + (1 : Int32)) (nm_L X)) (
        (nm_g (nm_in (x3 + (2 : Int32)) (nm_L X)) (
        ((Nm_deed (nm_xs X (x3 + (1 : Int32)).toNatClampNeg) (nm_xs X (x3 + (2 : Int32)).toNatClampNeg) σ).bind fun q238 =>
        (nm_g (nm_in (x3 + (1 : Int32)) (nm_L X)) (
        (nm_g (nm_in (x3 + (2 : Int32)) (nm_L X)) (
        ((Md_deed (nm_xs X (x3 + (1 : Int32)).toNatClampNeg) (nm_xs X (x3 + (2 : Int32)).toNatClampNeg) q238.2).bind fun q241 =>
        (if q238.1 = q241.1 then
          (La_law_l18 X k_1575 n) (x3 + (6 : Int32)) q241.2
        else
          some ((0 : Int32), q241.2))))))))))))
      else
      (if ((nm_xs X x3.toNatClampNeg) &&& (63 : Int32)) = (35 : Int32) then
        ((Nm_write σ).bind fun q243 =>
        ((Md_write q243.2).bind fun q244 =>
        (if q243.1 = q244.1 then
          (La_law_l18 X k_1575 n) (x3 + (6 : Int32)) q244.2
        else
          some ((0 : Int32), q244.2))))
      else
      (if ((nm_xs X x3.toNatClampNeg) &&& (63 : Int32)) = (36 : Int32) then
        ((Nm_month σ).bind fun q246 =>
        ((Md_month q246.2).bind fun q247 =>
        (if q246.1 = q247.1 then
          (La_law_l18 X k_1575 n) (x3 + (6 : Int32)) q247.2
        else
          some ((0 : Int32), q247.2))))
      else
      (if ((nm_xs X x3.toNatClampNeg) &&& (63 : Int32)) = (37 : Int32) then
        (nm_g (nm_in (x3 + (1 : Int32)) (nm_L X)) (
        ((Nm_years (nm_xs X (x3 + (1 : Int32)).toNatClampNeg) σ).bind fun q250 =>
        (nm_g (nm_in (x3 + (1 : Int32)) (nm_L X)) (
        ((Md_years (nm_xs X (x3 + (1 : Int32)).toNatClampNeg) q250.2).bind fun q252 =>
        (if q250.1 = q252.1 then
          (La_law_l18 X k_1575 n) (x3 + (6 : Int32)) q252.2
        else
          some ((0 : Int32), q252.2))))))))
      else
      (if ((nm_xs X x3.toNatClampNeg) &&& (63 : Int32)) = (38 : Int32) then
        (nm_g (nm_in (x3 + (1 : Int32)) (nm_L X)) (
        ((Nm_seed (nm_xs X (x3 + (1 : Int32)).toNatClampNeg) σ).bind fun q255 =>
        (nm_g (nm_in (x3 + (1 : Int32)) (nm_L X)) (
        ((Md_seed (nm_xs X (x3 + (1 : Int32)).toNatClampNeg) q255.2).bind fun q257 =>
        (if q255.1 = q257.1 then
          (La_law_l18 X k_1575 n) (x3 + (6 : Int32)) q257.2
        else
          some ((0 : Int32), q257.2))))))))
      else
      (if ((nm_xs X x3.toNatClampNeg) &&& (63 : Int32)) = (39 : Int32) then
        (nm_g (nm_in (x3 + (1 : Int32)) (nm_L X)) (
        (nm_g (nm_in (x3 + (2 : Int32)) (nm_L X)) (
        (nm_g (nm_in (x3 + (3 : Int32)) (nm_L X)) (
        ((Nm_act (nm_xs X (x3 + (1 : Int32)).toNatClampNeg) (nm_xs X (x3 + (2 : Int32)).toNatClampNeg) (nm_xs X (x3 + (3 : Int32)).toNatClampNeg) σ).bind fun q262 =>
        (nm_g (nm_in (x3 + (1 : Int32)) (nm_L X)) (
        (nm_g (nm_in (x3 + (2 : Int32)) (nm_L X)) (
        (nm_g (nm_in (x3 + (3 : Int32)) (nm_L X)) (
        ((Md_act (nm_xs X (x3 + (1 : Int32)).toNatClampNeg) (nm_xs X (x3 + (2 : Int32)).toNatClampNeg) (nm_xs X (x3 + (3 : Int32)).toNatClampNeg) q262.2).bind fun q266 =>
        (if q262.1 = q266.1 then
          (La_law_l18 X k_1575 n) (x3 + (6 : Int32)) q266.2
        else
          some ((0 : Int32), q266.2))))))))))))))))
      else
      (if ((nm_xs X x3.toNatClampNeg) &&& (63 : Int32)) = (40 : Int32) then
        (nm_g (nm_in (x3 + (1 : Int32)) (nm_L X)) (
        ((Nm_trace (nm_xs X (x3 + (1 : Int32)).toNatClampNeg) σ).bind fun q269 =>
        (nm_g (nm_in (x3 + (1 : Int32)) (nm_L X)) (
        ((Md_trace (nm_xs X (x3 + (1 : Int32)).toNatClampNeg) q269.2).bind fun q271 =>
        (if q269.1 = q271.1 then
          (La_law_l18 X k_1575 n) (x3 + (6 : Int32)) q271.2
        else
          some ((0 : Int32), q271.2))))))))
      else
      (if ((nm_xs X x3.toNatClampNeg) &&& (63 : Int32)) = (41 : Int32) then
        ((Nm_image σ).bind fun q273 =>
        ((Md_image q273.2).bind fun q274 =>
        (if q273.1 = q274.1 then
          (La_law_l18 X k_1575 n) (x3 + (6 : Int32)) q274.2
        else
          some ((0 : Int32), q274.2))))
      else
      (if ((nm_xs X x3.toNatClampNeg) &&& (63 : Int32)) = (42 : Int32) then
        ((Nm_restore σ).bind fun q276 =>
        ((Md_restore q276.2).bind fun q277 =>
        (if q276.1 = q277.1 then
          (La_law_l18 X k_1575 n) (x3 + (6 : Int32)) q277.2
        else
          some ((0 : Int32), q277.2))))
      else
      (if ((nm_xs X x3.toNatClampNeg) &&& (63 : Int32)) = (43 : Int32) then
        (nm_g (nm_in (x3 + (1 : Int32)) (nm_L X)) (
        ((Nm_status (nm_xs X (x3 + (1 : Int32)).toNatClampNeg) σ).bind fun q280 =>
        (nm_g (nm_in (x3 + (1 : Int32)) (nm_L X)) (
        ((Md_status (nm_xs X (x3 + (1 : Int32)).toNatClampNeg) q280.2).bind fun q282 =>
        (if q280.1 = q282.1 then
          (La_law_l18 X k_1575 n) (x3 + (6 : Int32)) q282.2
        else
          some ((0 : Int32), q282.2))))))))
      else
        (La_law_l18 X k_1575 n) (x3 + (6 : Int32)) σ)))))))))))))))))))))))))))))))))))))))))))))))
set_option maxRecDepth 100000 in
set_option maxHeartbeats 4000000 in
theorem r_La_law_l18 (X : nm_X) (F : nm_F) (Qf : Int32 → nm_St → State → Prop) (hQ : ∀ L pc σ (x : Int32), decode mi_La_law.2.1 pc = .ok (.ireturn, 1) → Rn X mi_La_law F Qf L [.int x] pc σ (some (x, σ))) (hF0 : 85 ≤ nm_d F) (k_1575 : nm_St → Option (Int32 × nm_St)) (hk_1575 : ∀ (σ : nm_St), Rn X mi_La_law F Qf [] [] 1575 σ (k_1575 σ)) : ∀ (n : Nat) (x3 : Int32) (σ : nm_St), Rn X mi_La_law F Qf [(0, .ref 4000), (1, .ref 0), (2, .ref 70), (3, .int x3)] [] 18 σ (La_law_l18 X k_1575 n x3 σ) := by
  intro n
  induction n with
  | zero =>
    intro x3 σ
    exact rn_none
  | succ n ih =>
    intro x3 σ
    unfold La_law_l18
    refine rn_iload_n (pc := 18) 3 dk_La_law_18 rfl rfl ?_
    refine rn_aload_n (pc := 19) 0 dk_La_law_19 rfl rfl rfl ?_
    refine rn_slen (pc := 20) dk_La_law_20 ?_
    refine rn_bipush (pc := 21) (6 : Int32) dk_La_law_21 cn_b_6 ?_
    refine rn_isub (pc := 23) dk_La_law_23 ?_
    refine rn_icmp_gt (pc := 24) 1575 dk_La_law_24 (by decide) (fun c1 => ?_) (fun c1 => ?_)
    · exact rn_sub (by rfl) (hk_1575 σ)
    · refine rn_aload_n (pc := 27) 0 dk_La_law_27 rfl rfl rfl ?_
      refine rn_iload_n (pc := 28) 3 dk_La_law_28 rfl rfl ?_
      refine rn_sld (pc := 29) dk_La_law_29 (fun g2 => ?_)
      refine rn_bipush (pc := 30) (63 : Int32) dk_La_law_30 cn_b_63 ?_
      refine rn_iand (pc := 32) dk_La_law_32 ?_
      refine rn_tcase (pc := 33) 0 (0 : Int32) 224 dk_La_law_33 (by decide) (by decide) rfl (by decide) (fun c3_0 => ?_) (fun c3_0 => ?_)
      · refine rn_aload_n (pc := 224) 1 dk_La_law_224 rfl rfl rfl ?_
        refine rn_aload_n (pc := 225) 0 dk_La_law_225 rfl rfl rfl ?_
        refine rn_iload_n (pc := 226) 3 dk_La_law_226 rfl rfl ?_
        refine rn_iconst (pc := 227) (1 : Int32) dk_La_law_227 cn_i_1 ?_
        refine rn_iadd (pc := 228) dk_La_law_228 ?_
        refine rn_sld (pc := 229) dk_La_law_229 (fun g4 => ?_)
        refine rn_aload_n (pc := 230) 0 dk_La_law_230 rfl rfl rfl ?_
        refine rn_iload_n (pc := 231) 3 dk_La_law_231 rfl rfl ?_
        refine rn_iconst (pc := 232) (2 : Int32) dk_La_law_232 cn_i_2 ?_
        refine rn_iadd (pc := 233) dk_La_law_233 ?_
        refine rn_sld (pc := 234) dk_La_law_234 (fun g5 => ?_)
        refine rn_aload_n (pc := 235) 0 dk_La_law_235 rfl rfl rfl ?_
        refine rn_iload_n (pc := 236) 3 dk_La_law_236 rfl rfl ?_
        refine rn_iconst (pc := 237) (3 : Int32) dk_La_law_237 cn_i_3 ?_
        refine rn_iadd (pc := 238) dk_La_law_238 ?_
        refine rn_sld (pc := 239) dk_La_law_239 (fun g6 => ?_)
        refine cl_La_13 (pc := 240) (As := [.int (nm_xs X (x3 + (1 : Int32)).toNatClampNeg), .int (nm_xs X (x3 + (2 : Int32)).toNatClampNeg), .int (nm_xs X (x3 + (3 : Int32)).toNatClampNeg)]) (st := []) rfl (ct_Nm_row X (nm_xs X (x3 + (1 : Int32)).toNatClampNeg) (nm_xs X (x3 + (2 : Int32)).toNatClampNeg) (nm_xs X (x3 + (3 : Int32)).toNatClampNeg) σ) (Nat.le_trans (Nat.le_of_ble_eq_true rfl) hF0) rfl rfl (Nat.le_of_ble_eq_true rfl) dk_La_law_240 (fun q7 => ?_)
        refine rn_aload_n (pc := 243) 2 dk_La_law_243 rfl rfl rfl ?_
        refine rn_aload_n (pc := 244) 0 dk_La_law_244 rfl rfl rfl ?_
        refine rn_iload_n (pc := 245) 3 dk_La_law_245 rfl rfl ?_
        refine rn_iconst (pc := 246) (1 : Int32) dk_La_law_246 cn_i_1 ?_
        refine rn_iadd (pc := 247) dk_La_law_247 ?_
        refine rn_sld (pc := 248) dk_La_law_248 (fun g8 => ?_)
        refine rn_aload_n (pc := 249) 0 dk_La_law_249 rfl rfl rfl ?_
        refine rn_iload_n (pc := 250) 3 dk_La_law_250 rfl rfl ?_
        refine rn_iconst (pc := 251) (2 : Int32) dk_La_law_251 cn_i_2 ?_
        refine rn_iadd (pc := 252) dk_La_law_252 ?_
        refine rn_sld (pc := 253) dk_La_law_253 (fun g9 => ?_)
        refine rn_aload_n (pc := 254) 0 dk_La_law_254 rfl rfl rfl ?_
        refine rn_iload_n (pc := 255) 3 dk_La_law_255 rfl rfl ?_
        refine rn_iconst (pc := 256) (3 : Int32) dk_La_law_256 cn_i_3 ?_
        refine rn_iadd (pc := 257) dk_La_law_257 ?_
        refine rn_sld (pc := 258) dk_La_law_258 (fun g10 => ?_)
        refine cl_La_17 (pc := 259) (As := [.int (nm_xs X (x3 + (1 : Int32)).toNatClampNeg), .int (nm_xs X (x3 + (2 : Int32)).toNatClampNeg), .int (nm_xs X (x3 + (3 : Int32)).toNatClampNeg)]) (st := [.int q7.1]) rfl (ct_Md_row X (nm_xs X (x3 + (1 : Int32)).toNatClampNeg) (nm_xs X (x3 + (2 : Int32)).toNatClampNeg) (nm_xs X (x3 + (3 : Int32)).toNatClampNeg) q7.2) (Nat.le_trans (Nat.le_of_ble_eq_true rfl) hF0) rfl rfl (Nat.le_of_ble_eq_true rfl) dk_La_law_259 (fun q11 => ?_)
        refine rn_icmp_eq (pc := 262) 1569 dk_La_law_262 (by decide) (fun c12 => ?_) (fun c12 => ?_)
        · refine rn_iinc (pc := 1569) (6 : Int32) dk_La_law_1569 cn_i_6 rfl rfl rfl ?_
          refine rn_goto (pc := 1572) 18 dk_La_law_1572 (by decide) ?_
          exact rn_sub (by rfl) (ih (x3 + (6 : Int32)) q11.2)
        · refine rn_iconst (pc := 265) (0 : Int32) dk_La_law_265 cn_i_0 ?_
          exact hQ _ _ _ _ dk_La_law_266
      refine rn_tcase (pc := 33) 1 (1 : Int32) 267 dk_La_law_33 (by decide) (by decide) rfl (by decide) (fun c3_1 => ?_) (fun c3_1 => ?_)
      · refine rn_aload_n (pc := 267) 1 dk_La_law_267 rfl rfl rfl ?_
        refine rn_aload_n (pc := 268) 0 dk_La_law_268 rfl rfl rfl ?_
        refine rn_iload_n (pc := 269) 3 dk_La_law_269 rfl rfl ?_
        refine rn_iconst (pc := 270) (1 : Int32) dk_La_law_270 cn_i_1 ?_
        refine rn_iadd (pc := 271) dk_La_law_271 ?_
        refine rn_sld (pc := 272) dk_La_law_272 (fun g13 => ?_)
        refine rn_aload_n (pc := 273) 0 dk_La_law_273 rfl rfl rfl ?_
        refine rn_iload_n (pc := 274) 3 dk_La_law_274 rfl rfl ?_
        refine rn_iconst (pc := 275) (2 : Int32) dk_La_law_275 cn_i_2 ?_
        refine rn_iadd (pc := 276) dk_La_law_276 ?_
        refine rn_sld (pc := 277) dk_La_law_277 (fun g14 => ?_)
        refine rn_aload_n (pc := 278) 0 dk_La_law_278 rfl rfl rfl ?_
        refine rn_iload_n (pc := 279) 3 dk_La_law_279 rfl rfl ?_
        refine rn_iconst (pc := 280) (3 : Int32) dk_La_law_280 cn_i_3 ?_
        refine rn_iadd (pc := 281) dk_La_law_281 ?_
        refine rn_sld (pc := 282) dk_La_law_282 (fun g15 => ?_)
        refine rn_i2l (pc := 283) dk_La_law_283 ?_
        refine rn_bipush (pc := 284) (32 : Int32) dk_La_law_284 cn_b_32 ?_
        refine rn_lshl (pc := 286) dk_La_law_286 ?_
        refine rn_aload_n (pc := 287) 0 dk_La_law_287 rfl rfl rfl ?_
        refine rn_iload_n (pc := 288) 3 dk_La_law_288 rfl rfl ?_
        refine rn_iconst (pc := 289) (4 : Int32) dk_La_law_289 cn_i_4 ?_
        refine rn_iadd (pc := 290) dk_La_law_290 ?_
        refine rn_sld (pc := 291) dk_La_law_291 (fun g16 => ?_)
        refine rn_i2l (pc := 292) dk_La_law_292 ?_
        refine rn_ldc2 (pc := 293) (4294967295 : Int64) dk_La_law_293 wd_1538 ?_
        refine rn_land (pc := 296) dk_La_law_296 ?_
        refine rn_lor (pc := 297) dk_La_law_297 ?_
        refine cl_La_20 (pc := 298) (As := [.int (nm_xs X (x3 + (1 : Int32)).toNatClampNeg), .int (nm_xs X (x3 + (2 : Int32)).toNatClampNeg), .long (((Int32.toInt64 (nm_xs X (x3 + (3 : Int32)).toNatClampNeg)) <<< (Int32.toInt64 (32 : Int32) &&& 63)) ||| ((Int32.toInt64 (nm_xs X (x3 + (4 : Int32)).toNatClampNeg)) &&& (4294967295 : Int64)))]) (st := []) rfl (ct_Nm_set X (nm_xs X (x3 + (1 : Int32)).toNatClampNeg) (nm_xs X (x3 + (2 : Int32)).toNatClampNeg) (((Int32.toInt64 (nm_xs X (x3 + (3 : Int32)).toNatClampNeg)) <<< (Int32.toInt64 (32 : Int32) &&& 63)) ||| ((Int32.toInt64 (nm_xs X (x3 + (4 : Int32)).toNatClampNeg)) &&& (4294967295 : Int64))) σ) (Nat.le_trans (Nat.le_of_ble_eq_true rfl) hF0) rfl rfl (Nat.le_of_ble_eq_true rfl) dk_La_law_298 (fun q17 => ?_)
        refine rn_aload_n (pc := 301) 2 dk_La_law_301 rfl rfl rfl ?_
        refine rn_aload_n (pc := 302) 0 dk_La_law_302 rfl rfl rfl ?_
        refine rn_iload_n (pc := 303) 3 dk_La_law_303 rfl rfl ?_
        refine rn_iconst (pc := 304) (1 : Int32) dk_La_law_304 cn_i_1 ?_
        refine rn_iadd (pc := 305) dk_La_law_305 ?_
        refine rn_sld (pc := 306) dk_La_law_306 (fun g18 => ?_)
        refine rn_aload_n (pc := 307) 0 dk_La_law_307 rfl rfl rfl ?_
        refine rn_iload_n (pc := 308) 3 dk_La_law_308 rfl rfl ?_
        refine rn_iconst (pc := 309) (2 : Int32) dk_La_law_309 cn_i_2 ?_
        refine rn_iadd (pc := 310) dk_La_law_310 ?_
        refine rn_sld (pc := 311) dk_La_law_311 (fun g19 => ?_)
        refine rn_aload_n (pc := 312) 0 dk_La_law_312 rfl rfl rfl ?_
        refine rn_iload_n (pc := 313) 3 dk_La_law_313 rfl rfl ?_
        refine rn_iconst (pc := 314) (3 : Int32) dk_La_law_314 cn_i_3 ?_
        refine rn_iadd (pc := 315) dk_La_law_315 ?_
        refine rn_sld (pc := 316) dk_La_law_316 (fun g20 => ?_)
        refine rn_i2l (pc := 317) dk_La_law_317 ?_
        refine rn_bipush (pc := 318) (32 : Int32) dk_La_law_318 cn_b_32 ?_
        refine rn_lshl (pc := 320) dk_La_law_320 ?_
        refine rn_aload_n (pc := 321) 0 dk_La_law_321 rfl rfl rfl ?_
        refine rn_iload_n (pc := 322) 3 dk_La_law_322 rfl rfl ?_
        refine rn_iconst (pc := 323) (4 : Int32) dk_La_law_323 cn_i_4 ?_
        refine rn_iadd (pc := 324) dk_La_law_324 ?_
        refine rn_sld (pc := 325) dk_La_law_325 (fun g21 => ?_)
        refine rn_i2l (pc := 326) dk_La_law_326 ?_
        refine rn_ldc2 (pc := 327) (4294967295 : Int64) dk_La_law_327 wd_1538 ?_
        refine rn_land (pc := 330) dk_La_law_330 ?_
        refine rn_lor (pc := 331) dk_La_law_331 ?_
        refine cl_La_24 (pc := 332) (As := [.int (nm_xs X (x3 + (1 : Int32)).toNatClampNeg), .int (nm_xs X (x3 + (2 : Int32)).toNatClampNeg), .long (((Int32.toInt64 (nm_xs X (x3 + (3 : Int32)).toNatClampNeg)) <<< (Int32.toInt64 (32 : Int32) &&& 63)) ||| ((Int32.toInt64 (nm_xs X (x3 + (4 : Int32)).toNatClampNeg)) &&& (4294967295 : Int64)))]) (st := [.int q17.1]) rfl (ct_Md_set X (nm_xs X (x3 + (1 : Int32)).toNatClampNeg) (nm_xs X (x3 + (2 : Int32)).toNatClampNeg) (((Int32.toInt64 (nm_xs X (x3 + (3 : Int32)).toNatClampNeg)) <<< (Int32.toInt64 (32 : Int32) &&& 63)) ||| ((Int32.toInt64 (nm_xs X (x3 + (4 : Int32)).toNatClampNeg)) &&& (4294967295 : Int64))) q17.2) (Nat.le_trans (Nat.le_of_ble_eq_true rfl) hF0) rfl rfl (Nat.le_of_ble_eq_true rfl) dk_La_law_332 (fun q22 => ?_)
        refine rn_icmp_eq (pc := 335) 1569 dk_La_law_335 (by decide) (fun c23 => ?_) (fun c23 => ?_)
        · refine rn_iinc (pc := 1569) (6 : Int32) dk_La_law_1569 cn_i_6 rfl rfl rfl ?_
          refine rn_goto (pc := 1572) 18 dk_La_law_1572 (by decide) ?_
          exact rn_sub (by rfl) (ih (x3 + (6 : Int32)) q22.2)
        · refine rn_iconst (pc := 338) (0 : Int32) dk_La_law_338 cn_i_0 ?_
          exact hQ _ _ _ _ dk_La_law_339
      refine rn_tcase (pc := 33) 2 (2 : Int32) 340 dk_La_law_33 (by decide) (by decide) rfl (by decide) (fun c3_2 => ?_) (fun c3_2 => ?_)
      · refine rn_aload_n (pc := 340) 1 dk_La_law_340 rfl rfl rfl ?_
        refine rn_aload_n (pc := 341) 0 dk_La_law_341 rfl rfl rfl ?_
        refine rn_iload_n (pc := 342) 3 dk_La_law_342 rfl rfl ?_
        refine rn_iconst (pc := 343) (1 : Int32) dk_La_law_343 cn_i_1 ?_
        refine rn_iadd (pc := 344) dk_La_law_344 ?_
        refine rn_sld (pc := 345) dk_La_law_345 (fun g24 => ?_)
        refine rn_aload_n (pc := 346) 0 dk_La_law_346 rfl rfl rfl ?_
        refine rn_iload_n (pc := 347) 3 dk_La_law_347 rfl rfl ?_
        refine rn_iconst (pc := 348) (2 : Int32) dk_La_law_348 cn_i_2 ?_
        refine rn_iadd (pc := 349) dk_La_law_349 ?_
        refine rn_sld (pc := 350) dk_La_law_350 (fun g25 => ?_)
        refine rn_aload_n (pc := 351) 0 dk_La_law_351 rfl rfl rfl ?_
        refine rn_iload_n (pc := 352) 3 dk_La_law_352 rfl rfl ?_
        refine rn_iconst (pc := 353) (3 : Int32) dk_La_law_353 cn_i_3 ?_
        refine rn_iadd (pc := 354) dk_La_law_354 ?_
        refine rn_sld (pc := 355) dk_La_law_355 (fun g26 => ?_)
        refine rn_aload_n (pc := 356) 0 dk_La_law_356 rfl rfl rfl ?_
        refine rn_iload_n (pc := 357) 3 dk_La_law_357 rfl rfl ?_
        refine rn_iconst (pc := 358) (4 : Int32) dk_La_law_358 cn_i_4 ?_
        refine rn_iadd (pc := 359) dk_La_law_359 ?_
        refine rn_sld (pc := 360) dk_La_law_360 (fun g27 => ?_)
        refine rn_aload_n (pc := 361) 0 dk_La_law_361 rfl rfl rfl ?_
        refine rn_iload_n (pc := 362) 3 dk_La_law_362 rfl rfl ?_
        refine rn_iconst (pc := 363) (5 : Int32) dk_La_law_363 cn_i_5 ?_
        refine rn_iadd (pc := 364) dk_La_law_364 ?_
        refine rn_sld (pc := 365) dk_La_law_365 (fun g28 => ?_)
        refine cl_La_25 (pc := 366) (As := [.int (nm_xs X (x3 + (1 : Int32)).toNatClampNeg), .int (nm_xs X (x3 + (2 : Int32)).toNatClampNeg), .int (nm_xs X (x3 + (3 : Int32)).toNatClampNeg), .int (nm_xs X (x3 + (4 : Int32)).toNatClampNeg), .int (nm_xs X (x3 + (5 : Int32)).toNatClampNeg)]) (st := []) rfl (ct_Nm_copy X (nm_xs X (x3 + (1 : Int32)).toNatClampNeg) (nm_xs X (x3 + (2 : Int32)).toNatClampNeg) (nm_xs X (x3 + (3 : Int32)).toNatClampNeg) (nm_xs X (x3 + (4 : Int32)).toNatClampNeg) (nm_xs X (x3 + (5 : Int32)).toNatClampNeg) σ) (Nat.le_trans (Nat.le_of_ble_eq_true rfl) hF0) rfl rfl (Nat.le_of_ble_eq_true rfl) dk_La_law_366 (fun q29 => ?_)
        refine rn_aload_n (pc := 369) 2 dk_La_law_369 rfl rfl rfl ?_
        refine rn_aload_n (pc := 370) 0 dk_La_law_370 rfl rfl rfl ?_
        refine rn_iload_n (pc := 371) 3 dk_La_law_371 rfl rfl ?_
        refine rn_iconst (pc := 372) (1 : Int32) dk_La_law_372 cn_i_1 ?_
        refine rn_iadd (pc := 373) dk_La_law_373 ?_
        refine rn_sld (pc := 374) dk_La_law_374 (fun g30 => ?_)
        refine rn_aload_n (pc := 375) 0 dk_La_law_375 rfl rfl rfl ?_
        refine rn_iload_n (pc := 376) 3 dk_La_law_376 rfl rfl ?_
        refine rn_iconst (pc := 377) (2 : Int32) dk_La_law_377 cn_i_2 ?_
        refine rn_iadd (pc := 378) dk_La_law_378 ?_
        refine rn_sld (pc := 379) dk_La_law_379 (fun g31 => ?_)
        refine rn_aload_n (pc := 380) 0 dk_La_law_380 rfl rfl rfl ?_
        refine rn_iload_n (pc := 381) 3 dk_La_law_381 rfl rfl ?_
        refine rn_iconst (pc := 382) (3 : Int32) dk_La_law_382 cn_i_3 ?_
        refine rn_iadd (pc := 383) dk_La_law_383 ?_
        refine rn_sld (pc := 384) dk_La_law_384 (fun g32 => ?_)
        refine rn_aload_n (pc := 385) 0 dk_La_law_385 rfl rfl rfl ?_
        refine rn_iload_n (pc := 386) 3 dk_La_law_386 rfl rfl ?_
        refine rn_iconst (pc := 387) (4 : Int32) dk_La_law_387 cn_i_4 ?_
        refine rn_iadd (pc := 388) dk_La_law_388 ?_
        refine rn_sld (pc := 389) dk_La_law_389 (fun g33 => ?_)
        refine rn_aload_n (pc := 390) 0 dk_La_law_390 rfl rfl rfl ?_
        refine rn_iload_n (pc := 391) 3 dk_La_law_391 rfl rfl ?_
        refine rn_iconst (pc := 392) (5 : Int32) dk_La_law_392 cn_i_5 ?_
        refine rn_iadd (pc := 393) dk_La_law_393 ?_
        refine rn_sld (pc := 394) dk_La_law_394 (fun g34 => ?_)
        refine cl_La_29 (pc := 395) (As := [.int (nm_xs X (x3 + (1 : Int32)).toNatClampNeg), .int (nm_xs X (x3 + (2 : Int32)).toNatClampNeg), .int (nm_xs X (x3 + (3 : Int32)).toNatClampNeg), .int (nm_xs X (x3 + (4 : Int32)).toNatClampNeg), .int (nm_xs X (x3 + (5 : Int32)).toNatClampNeg)]) (st := [.int q29.1]) rfl (ct_Md_copy X (nm_xs X (x3 + (1 : Int32)).toNatClampNeg) (nm_xs X (x3 + (2 : Int32)).toNatClampNeg) (nm_xs X (x3 + (3 : Int32)).toNatClampNeg) (nm_xs X (x3 + (4 : Int32)).toNatClampNeg) (nm_xs X (x3 + (5 : Int32)).toNatClampNeg) q29.2) (Nat.le_trans (Nat.le_of_ble_eq_true rfl) hF0) rfl rfl (Nat.le_of_ble_eq_true rfl) dk_La_law_395 (fun q35 => ?_)
        refine rn_icmp_eq (pc := 398) 1569 dk_La_law_398 (by decide) (fun c36 => ?_) (fun c36 => ?_)
        · refine rn_iinc (pc := 1569) (6 : Int32) dk_La_law_1569 cn_i_6 rfl rfl rfl ?_
          refine rn_goto (pc := 1572) 18 dk_La_law_1572 (by decide) ?_
          exact rn_sub (by rfl) (ih (x3 + (6 : Int32)) q35.2)
        · refine rn_iconst (pc := 401) (0 : Int32) dk_La_law_401 cn_i_0 ?_
          exact hQ _ _ _ _ dk_La_law_402
      refine rn_tcase (pc := 33) 3 (3 : Int32) 403 dk_La_law_33 (by decide) (by decide) rfl (by decide) (fun c3_3 => ?_) (fun c3_3 => ?_)
      · refine rn_aload_n (pc := 403) 1 dk_La_law_403 rfl rfl rfl ?_
        refine rn_aload_n (pc := 404) 0 dk_La_law_404 rfl rfl rfl ?_
        refine rn_iload_n (pc := 405) 3 dk_La_law_405 rfl rfl ?_
        refine rn_iconst (pc := 406) (1 : Int32) dk_La_law_406 cn_i_1 ?_
        refine rn_iadd (pc := 407) dk_La_law_407 ?_
        refine rn_sld (pc := 408) dk_La_law_408 (fun g37 => ?_)
        refine rn_aload_n (pc := 409) 0 dk_La_law_409 rfl rfl rfl ?_
        refine rn_iload_n (pc := 410) 3 dk_La_law_410 rfl rfl ?_
        refine rn_iconst (pc := 411) (2 : Int32) dk_La_law_411 cn_i_2 ?_
        refine rn_iadd (pc := 412) dk_La_law_412 ?_
        refine rn_sld (pc := 413) dk_La_law_413 (fun g38 => ?_)
        refine cl_La_30 (pc := 414) (As := [.int (nm_xs X (x3 + (1 : Int32)).toNatClampNeg), .int (nm_xs X (x3 + (2 : Int32)).toNatClampNeg)]) (st := []) rfl (ct_Nm_element X (nm_xs X (x3 + (1 : Int32)).toNatClampNeg) (nm_xs X (x3 + (2 : Int32)).toNatClampNeg) σ) (Nat.le_trans (Nat.le_of_ble_eq_true rfl) hF0) rfl rfl (Nat.le_of_ble_eq_true rfl) dk_La_law_414 (fun q39 => ?_)
        refine rn_aload_n (pc := 417) 2 dk_La_law_417 rfl rfl rfl ?_
        refine rn_aload_n (pc := 418) 0 dk_La_law_418 rfl rfl rfl ?_
        refine rn_iload_n (pc := 419) 3 dk_La_law_419 rfl rfl ?_
        refine rn_iconst (pc := 420) (1 : Int32) dk_La_law_420 cn_i_1 ?_
        refine rn_iadd (pc := 421) dk_La_law_421 ?_
        refine rn_sld (pc := 422) dk_La_law_422 (fun g40 => ?_)
        refine rn_aload_n (pc := 423) 0 dk_La_law_423 rfl rfl rfl ?_
        refine rn_iload_n (pc := 424) 3 dk_La_law_424 rfl rfl ?_
        refine rn_iconst (pc := 425) (2 : Int32) dk_La_law_425 cn_i_2 ?_
        refine rn_iadd (pc := 426) dk_La_law_426 ?_
        refine rn_sld (pc := 427) dk_La_law_427 (fun g41 => ?_)
        refine cl_La_34 (pc := 428) (As := [.int (nm_xs X (x3 + (1 : Int32)).toNatClampNeg), .int (nm_xs X (x3 + (2 : Int32)).toNatClampNeg)]) (st := [.long q39.1]) rfl (ct_Md_element X (nm_xs X (x3 + (1 : Int32)).toNatClampNeg) (nm_xs X (x3 + (2 : Int32)).toNatClampNeg) q39.2) (Nat.le_trans (Nat.le_of_ble_eq_true rfl) hF0) rfl rfl (Nat.le_of_ble_eq_true rfl) dk_La_law_428 (fun q42 => ?_)
        refine rn_lcmp (pc := 431) dk_La_law_431 ?_
        refine rn_if_eq (pc := 432) 1569 dk_La_law_432 (by decide) (fun c43 => ?_) (fun c43 => ?_)
        · refine rn_iinc (pc := 1569) (6 : Int32) dk_La_law_1569 cn_i_6 rfl rfl rfl ?_
          refine rn_goto (pc := 1572) 18 dk_La_law_1572 (by decide) ?_
          exact rn_sub (by rfl) (ih (x3 + (6 : Int32)) q42.2)
        · refine rn_iconst (pc := 435) (0 : Int32) dk_La_law_435 cn_i_0 ?_
          exact hQ _ _ _ _ dk_La_law_436
      refine rn_tcase (pc := 33) 4 (4 : Int32) 437 dk_La_law_33 (by decide) (by decide) rfl (by decide) (fun c3_4 => ?_) (fun c3_4 => ?_)
      · refine rn_aload_n (pc := 437) 1 dk_La_law_437 rfl rfl rfl ?_
        refine rn_aload_n (pc := 438) 0 dk_La_law_438 rfl rfl rfl ?_
        refine rn_iload_n (pc := 439) 3 dk_La_law_439 rfl rfl ?_
        refine rn_iconst (pc := 440) (1 : Int32) dk_La_law_440 cn_i_1 ?_
        refine rn_iadd (pc := 441) dk_La_law_441 ?_
        refine rn_sld (pc := 442) dk_La_law_442 (fun g44 => ?_)
        refine rn_aload_n (pc := 443) 0 dk_La_law_443 rfl rfl rfl ?_
        refine rn_iload_n (pc := 444) 3 dk_La_law_444 rfl rfl ?_
        refine rn_iconst (pc := 445) (2 : Int32) dk_La_law_445 cn_i_2 ?_
        refine rn_iadd (pc := 446) dk_La_law_446 ?_
        refine rn_sld (pc := 447) dk_La_law_447 (fun g45 => ?_)
        refine cl_La_35 (pc := 448) (As := [.int (nm_xs X (x3 + (1 : Int32)).toNatClampNeg), .int (nm_xs X (x3 + (2 : Int32)).toNatClampNeg)]) (st := []) rfl (ct_Nm_show X (nm_xs X (x3 + (1 : Int32)).toNatClampNeg) (nm_xs X (x3 + (2 : Int32)).toNatClampNeg) σ) (Nat.le_trans (Nat.le_of_ble_eq_true rfl) hF0) rfl rfl (Nat.le_of_ble_eq_true rfl) dk_La_law_448 (fun q46 => ?_)
        refine rn_aload_n (pc := 451) 2 dk_La_law_451 rfl rfl rfl ?_
        refine rn_aload_n (pc := 452) 0 dk_La_law_452 rfl rfl rfl ?_
        refine rn_iload_n (pc := 453) 3 dk_La_law_453 rfl rfl ?_
        refine rn_iconst (pc := 454) (1 : Int32) dk_La_law_454 cn_i_1 ?_
        refine rn_iadd (pc := 455) dk_La_law_455 ?_
        refine rn_sld (pc := 456) dk_La_law_456 (fun g47 => ?_)
        refine rn_aload_n (pc := 457) 0 dk_La_law_457 rfl rfl rfl ?_
        refine rn_iload_n (pc := 458) 3 dk_La_law_458 rfl rfl ?_
        refine rn_iconst (pc := 459) (2 : Int32) dk_La_law_459 cn_i_2 ?_
        refine rn_iadd (pc := 460) dk_La_law_460 ?_
        refine rn_sld (pc := 461) dk_La_law_461 (fun g48 => ?_)
        refine cl_La_39 (pc := 462) (As := [.int (nm_xs X (x3 + (1 : Int32)).toNatClampNeg), .int (nm_xs X (x3 + (2 : Int32)).toNatClampNeg)]) (st := [.int q46.1]) rfl (ct_Md_show X (nm_xs X (x3 + (1 : Int32)).toNatClampNeg) (nm_xs X (x3 + (2 : Int32)).toNatClampNeg) q46.2) (Nat.le_trans (Nat.le_of_ble_eq_true rfl) hF0) rfl rfl (Nat.le_of_ble_eq_true rfl) dk_La_law_462 (fun q49 => ?_)
        refine rn_icmp_eq (pc := 465) 1569 dk_La_law_465 (by decide) (fun c50 => ?_) (fun c50 => ?_)
        · refine rn_iinc (pc := 1569) (6 : Int32) dk_La_law_1569 cn_i_6 rfl rfl rfl ?_
          refine rn_goto (pc := 1572) 18 dk_La_law_1572 (by decide) ?_
          exact rn_sub (by rfl) (ih (x3 + (6 : Int32)) q49.2)
        · refine rn_iconst (pc := 468) (0 : Int32) dk_La_law_468 cn_i_0 ?_
          exact hQ _ _ _ _ dk_La_law_469
      refine rn_tcase (pc := 33) 5 (5 : Int32) 470 dk_La_law_33 (by decide) (by decide) rfl (by decide) (fun c3_5 => ?_) (fun c3_5 => ?_)
      · refine rn_aload_n (pc := 470) 1 dk_La_law_470 rfl rfl rfl ?_
        refine rn_aload_n (pc := 471) 0 dk_La_law_471 rfl rfl rfl ?_
        refine rn_iload_n (pc := 472) 3 dk_La_law_472 rfl rfl ?_
        refine rn_iconst (pc := 473) (1 : Int32) dk_La_law_473 cn_i_1 ?_
        refine rn_iadd (pc := 474) dk_La_law_474 ?_
        refine rn_sld (pc := 475) dk_La_law_475 (fun g51 => ?_)
        refine cl_La_40 (pc := 476) (As := [.int (nm_xs X (x3 + (1 : Int32)).toNatClampNeg)]) (st := []) rfl (ct_Nm_holds X (nm_xs X (x3 + (1 : Int32)).toNatClampNeg) σ) (Nat.le_trans (Nat.le_of_ble_eq_true rfl) hF0) rfl rfl (Nat.le_of_ble_eq_true rfl) dk_La_law_476 (fun q52 => ?_)
        refine rn_aload_n (pc := 479) 2 dk_La_law_479 rfl rfl rfl ?_
        refine rn_aload_n (pc := 480) 0 dk_La_law_480 rfl rfl rfl ?_
        refine rn_iload_n (pc := 481) 3 dk_La_law_481 rfl rfl ?_
        refine rn_iconst (pc := 482) (1 : Int32) dk_La_law_482 cn_i_1 ?_
        refine rn_iadd (pc := 483) dk_La_law_483 ?_
        refine rn_sld (pc := 484) dk_La_law_484 (fun g53 => ?_)
        refine cl_La_44 (pc := 485) (As := [.int (nm_xs X (x3 + (1 : Int32)).toNatClampNeg)]) (st := [.int q52.1]) rfl (ct_Md_holds X (nm_xs X (x3 + (1 : Int32)).toNatClampNeg) q52.2) (Nat.le_trans (Nat.le_of_ble_eq_true rfl) hF0) rfl rfl (Nat.le_of_ble_eq_true rfl) dk_La_law_485 (fun q54 => ?_)
        refine rn_icmp_eq (pc := 488) 1569 dk_La_law_488 (by decide) (fun c55 => ?_) (fun c55 => ?_)
        · refine rn_iinc (pc := 1569) (6 : Int32) dk_La_law_1569 cn_i_6 rfl rfl rfl ?_
          refine rn_goto (pc := 1572) 18 dk_La_law_1572 (by decide) ?_
          exact rn_sub (by rfl) (ih (x3 + (6 : Int32)) q54.2)
        · refine rn_iconst (pc := 491) (0 : Int32) dk_La_law_491 cn_i_0 ?_
          exact hQ _ _ _ _ dk_La_law_492
      refine rn_tcase (pc := 33) 6 (6 : Int32) 493 dk_La_law_33 (by decide) (by decide) rfl (by decide) (fun c3_6 => ?_) (fun c3_6 => ?_)
      · refine rn_aload_n (pc := 493) 1 dk_La_law_493 rfl rfl rfl ?_
        refine rn_aload_n (pc := 494) 0 dk_La_law_494 rfl rfl rfl ?_
        refine rn_iload_n (pc := 495) 3 dk_La_law_495 rfl rfl ?_
        refine rn_iconst (pc := 496) (1 : Int32) dk_La_law_496 cn_i_1 ?_
        refine rn_iadd (pc := 497) dk_La_law_497 ?_
        refine rn_sld (pc := 498) dk_La_law_498 (fun g56 => ?_)
        refine rn_aload_n (pc := 499) 0 dk_La_law_499 rfl rfl rfl ?_
        refine rn_iload_n (pc := 500) 3 dk_La_law_500 rfl rfl ?_
        refine rn_iconst (pc := 501) (2 : Int32) dk_La_law_501 cn_i_2 ?_
        refine rn_iadd (pc := 502) dk_La_law_502 ?_
        refine rn_sld (pc := 503) dk_La_law_503 (fun g57 => ?_)
        refine cl_La_45 (pc := 504) (As := [.int (nm_xs X (x3 + (1 : Int32)).toNatClampNeg), .int (nm_xs X (x3 + (2 : Int32)).toNatClampNeg)]) (st := []) rfl (ct_Nm_says X (nm_xs X (x3 + (1 : Int32)).toNatClampNeg) (nm_xs X (x3 + (2 : Int32)).toNatClampNeg) σ) (Nat.le_trans (Nat.le_of_ble_eq_true rfl) hF0) rfl rfl (Nat.le_of_ble_eq_true rfl) dk_La_law_504 (fun q58 => ?_)
        refine rn_aload_n (pc := 507) 2 dk_La_law_507 rfl rfl rfl ?_
        refine rn_aload_n (pc := 508) 0 dk_La_law_508 rfl rfl rfl ?_
        refine rn_iload_n (pc := 509) 3 dk_La_law_509 rfl rfl ?_
        refine rn_iconst (pc := 510) (1 : Int32) dk_La_law_510 cn_i_1 ?_
        refine rn_iadd (pc := 511) dk_La_law_511 ?_
        refine rn_sld (pc := 512) dk_La_law_512 (fun g59 => ?_)
        refine rn_aload_n (pc := 513) 0 dk_La_law_513 rfl rfl rfl ?_
        refine rn_iload_n (pc := 514) 3 dk_La_law_514 rfl rfl ?_
        refine rn_iconst (pc := 515) (2 : Int32) dk_La_law_515 cn_i_2 ?_
        refine rn_iadd (pc := 516) dk_La_law_516 ?_
        refine rn_sld (pc := 517) dk_La_law_517 (fun g60 => ?_)
        refine cl_La_48 (pc := 518) (As := [.int (nm_xs X (x3 + (1 : Int32)).toNatClampNeg), .int (nm_xs X (x3 + (2 : Int32)).toNatClampNeg)]) (st := [.int q58.1]) rfl (ct_Md_says X (nm_xs X (x3 + (1 : Int32)).toNatClampNeg) (nm_xs X (x3 + (2 : Int32)).toNatClampNeg) q58.2) (Nat.le_trans (Nat.le_of_ble_eq_true rfl) hF0) rfl rfl (Nat.le_of_ble_eq_true rfl) dk_La_law_518 (fun q61 => ?_)
        refine rn_icmp_eq (pc := 521) 1569 dk_La_law_521 (by decide) (fun c62 => ?_) (fun c62 => ?_)
        · refine rn_iinc (pc := 1569) (6 : Int32) dk_La_law_1569 cn_i_6 rfl rfl rfl ?_
          refine rn_goto (pc := 1572) 18 dk_La_law_1572 (by decide) ?_
          exact rn_sub (by rfl) (ih (x3 + (6 : Int32)) q61.2)
        · refine rn_iconst (pc := 524) (0 : Int32) dk_La_law_524 cn_i_0 ?_
          exact hQ _ _ _ _ dk_La_law_525
      refine rn_tcase (pc := 33) 7 (7 : Int32) 526 dk_La_law_33 (by decide) (by decide) rfl (by decide) (fun c3_7 => ?_) (fun c3_7 => ?_)
      · refine rn_aload_n (pc := 526) 1 dk_La_law_526 rfl rfl rfl ?_
        refine rn_aload_n (pc := 527) 0 dk_La_law_527 rfl rfl rfl ?_
        refine rn_iload_n (pc := 528) 3 dk_La_law_528 rfl rfl ?_
        refine rn_iconst (pc := 529) (1 : Int32) dk_La_law_529 cn_i_1 ?_
        refine rn_iadd (pc := 530) dk_La_law_530 ?_
        refine rn_sld (pc := 531) dk_La_law_531 (fun g63 => ?_)
        refine rn_aload_n (pc := 532) 0 dk_La_law_532 rfl rfl rfl ?_
        refine rn_iload_n (pc := 533) 3 dk_La_law_533 rfl rfl ?_
        refine rn_iconst (pc := 534) (2 : Int32) dk_La_law_534 cn_i_2 ?_
        refine rn_iadd (pc := 535) dk_La_law_535 ?_
        refine rn_sld (pc := 536) dk_La_law_536 (fun g64 => ?_)
        refine rn_aload_n (pc := 537) 0 dk_La_law_537 rfl rfl rfl ?_
        refine rn_iload_n (pc := 538) 3 dk_La_law_538 rfl rfl ?_
        refine rn_iconst (pc := 539) (3 : Int32) dk_La_law_539 cn_i_3 ?_
        refine rn_iadd (pc := 540) dk_La_law_540 ?_
        refine rn_sld (pc := 541) dk_La_law_541 (fun g65 => ?_)
        refine cl_La_49 (pc := 542) (As := [.int (nm_xs X (x3 + (1 : Int32)).toNatClampNeg), .int (nm_xs X (x3 + (2 : Int32)).toNatClampNeg), .int (nm_xs X (x3 + (3 : Int32)).toNatClampNeg)]) (st := []) rfl (ct_Nm_maker X (nm_xs X (x3 + (1 : Int32)).toNatClampNeg) (nm_xs X (x3 + (2 : Int32)).toNatClampNeg) (nm_xs X (x3 + (3 : Int32)).toNatClampNeg) σ) (Nat.le_trans (Nat.le_of_ble_eq_true rfl) hF0) rfl rfl (Nat.le_of_ble_eq_true rfl) dk_La_law_542 (fun q66 => ?_)
        refine rn_aload_n (pc := 545) 2 dk_La_law_545 rfl rfl rfl ?_
        refine rn_aload_n (pc := 546) 0 dk_La_law_546 rfl rfl rfl ?_
        refine rn_iload_n (pc := 547) 3 dk_La_law_547 rfl rfl ?_
        refine rn_iconst (pc := 548) (1 : Int32) dk_La_law_548 cn_i_1 ?_
        refine rn_iadd (pc := 549) dk_La_law_549 ?_
        refine rn_sld (pc := 550) dk_La_law_550 (fun g67 => ?_)
        refine rn_aload_n (pc := 551) 0 dk_La_law_551 rfl rfl rfl ?_
        refine rn_iload_n (pc := 552) 3 dk_La_law_552 rfl rfl ?_
        refine rn_iconst (pc := 553) (2 : Int32) dk_La_law_553 cn_i_2 ?_
        refine rn_iadd (pc := 554) dk_La_law_554 ?_
        refine rn_sld (pc := 555) dk_La_law_555 (fun g68 => ?_)
        refine rn_aload_n (pc := 556) 0 dk_La_law_556 rfl rfl rfl ?_
        refine rn_iload_n (pc := 557) 3 dk_La_law_557 rfl rfl ?_
        refine rn_iconst (pc := 558) (3 : Int32) dk_La_law_558 cn_i_3 ?_
        refine rn_iadd (pc := 559) dk_La_law_559 ?_
        refine rn_sld (pc := 560) dk_La_law_560 (fun g69 => ?_)
        refine cl_La_52 (pc := 561) (As := [.int (nm_xs X (x3 + (1 : Int32)).toNatClampNeg), .int (nm_xs X (x3 + (2 : Int32)).toNatClampNeg), .int (nm_xs X (x3 + (3 : Int32)).toNatClampNeg)]) (st := [.int q66.1]) rfl (ct_Md_maker X (nm_xs X (x3 + (1 : Int32)).toNatClampNeg) (nm_xs X (x3 + (2 : Int32)).toNatClampNeg) (nm_xs X (x3 + (3 : Int32)).toNatClampNeg) q66.2) (Nat.le_trans (Nat.le_of_ble_eq_true rfl) hF0) rfl rfl (Nat.le_of_ble_eq_true rfl) dk_La_law_561 (fun q70 => ?_)
        refine rn_icmp_eq (pc := 564) 1569 dk_La_law_564 (by decide) (fun c71 => ?_) (fun c71 => ?_)
        · refine rn_iinc (pc := 1569) (6 : Int32) dk_La_law_1569 cn_i_6 rfl rfl rfl ?_
          refine rn_goto (pc := 1572) 18 dk_La_law_1572 (by decide) ?_
          exact rn_sub (by rfl) (ih (x3 + (6 : Int32)) q70.2)
        · refine rn_iconst (pc := 567) (0 : Int32) dk_La_law_567 cn_i_0 ?_
          exact hQ _ _ _ _ dk_La_law_568
      refine rn_tcase (pc := 33) 8 (8 : Int32) 569 dk_La_law_33 (by decide) (by decide) rfl (by decide) (fun c3_8 => ?_) (fun c3_8 => ?_)
      · refine rn_aload_n (pc := 569) 1 dk_La_law_569 rfl rfl rfl ?_
        refine rn_aload_n (pc := 570) 0 dk_La_law_570 rfl rfl rfl ?_
        refine rn_iload_n (pc := 571) 3 dk_La_law_571 rfl rfl ?_
        refine rn_iconst (pc := 572) (1 : Int32) dk_La_law_572 cn_i_1 ?_
        refine rn_iadd (pc := 573) dk_La_law_573 ?_
        refine rn_sld (pc := 574) dk_La_law_574 (fun g72 => ?_)
        refine cl_La_53 (pc := 575) (As := [.int (nm_xs X (x3 + (1 : Int32)).toNatClampNeg)]) (st := []) rfl (ct_Nm_parts X (nm_xs X (x3 + (1 : Int32)).toNatClampNeg) σ) (Nat.le_trans (Nat.le_of_ble_eq_true rfl) hF0) rfl rfl (Nat.le_of_ble_eq_true rfl) dk_La_law_575 (fun q73 => ?_)
        refine rn_aload_n (pc := 578) 2 dk_La_law_578 rfl rfl rfl ?_
        refine rn_aload_n (pc := 579) 0 dk_La_law_579 rfl rfl rfl ?_
        refine rn_iload_n (pc := 580) 3 dk_La_law_580 rfl rfl ?_
        refine rn_iconst (pc := 581) (1 : Int32) dk_La_law_581 cn_i_1 ?_
        refine rn_iadd (pc := 582) dk_La_law_582 ?_
        refine rn_sld (pc := 583) dk_La_law_583 (fun g74 => ?_)
        refine cl_La_56 (pc := 584) (As := [.int (nm_xs X (x3 + (1 : Int32)).toNatClampNeg)]) (st := [.int q73.1]) rfl (ct_Md_parts X (nm_xs X (x3 + (1 : Int32)).toNatClampNeg) q73.2) (Nat.le_trans (Nat.le_of_ble_eq_true rfl) hF0) rfl rfl (Nat.le_of_ble_eq_true rfl) dk_La_law_584 (fun q75 => ?_)
        refine rn_icmp_eq (pc := 587) 1569 dk_La_law_587 (by decide) (fun c76 => ?_) (fun c76 => ?_)
        · refine rn_iinc (pc := 1569) (6 : Int32) dk_La_law_1569 cn_i_6 rfl rfl rfl ?_
          refine rn_goto (pc := 1572) 18 dk_La_law_1572 (by decide) ?_
          exact rn_sub (by rfl) (ih (x3 + (6 : Int32)) q75.2)
        · refine rn_iconst (pc := 590) (0 : Int32) dk_La_law_590 cn_i_0 ?_
          exact hQ _ _ _ _ dk_La_law_591
      refine rn_tcase (pc := 33) 9 (9 : Int32) 592 dk_La_law_33 (by decide) (by decide) rfl (by decide) (fun c3_9 => ?_) (fun c3_9 => ?_)
      · refine rn_aload_n (pc := 592) 1 dk_La_law_592 rfl rfl rfl ?_
        refine rn_aload_n (pc := 593) 0 dk_La_law_593 rfl rfl rfl ?_
        refine rn_iload_n (pc := 594) 3 dk_La_law_594 rfl rfl ?_
        refine rn_iconst (pc := 595) (1 : Int32) dk_La_law_595 cn_i_1 ?_
        refine rn_iadd (pc := 596) dk_La_law_596 ?_
        refine rn_sld (pc := 597) dk_La_law_597 (fun g77 => ?_)
        refine rn_aload_n (pc := 598) 0 dk_La_law_598 rfl rfl rfl ?_
        refine rn_iload_n (pc := 599) 3 dk_La_law_599 rfl rfl ?_
        refine rn_iconst (pc := 600) (2 : Int32) dk_La_law_600 cn_i_2 ?_
        refine rn_iadd (pc := 601) dk_La_law_601 ?_
        refine rn_sld (pc := 602) dk_La_law_602 (fun g78 => ?_)
        refine rn_aload_n (pc := 603) 0 dk_La_law_603 rfl rfl rfl ?_
        refine rn_iload_n (pc := 604) 3 dk_La_law_604 rfl rfl ?_
        refine rn_iconst (pc := 605) (3 : Int32) dk_La_law_605 cn_i_3 ?_
        refine rn_iadd (pc := 606) dk_La_law_606 ?_
        refine rn_sld (pc := 607) dk_La_law_607 (fun g79 => ?_)
        refine rn_if_eq (pc := 608) 615 dk_La_law_608 (by decide) (fun c80 => ?_) (fun c80 => ?_)
        · refine rn_iconst (pc := 615) (0 : Int32) dk_La_law_615 cn_i_0 ?_
          exact rn_sub (by rfl) (r_La_law_j616 X F Qf hQ hF0 _ ih x3 (nm_xs X (x3 + (1 : Int32)).toNatClampNeg) (nm_xs X (x3 + (2 : Int32)).toNatClampNeg) (0 : Int32) σ)
        · refine rn_iconst (pc := 611) (1 : Int32) dk_La_law_611 cn_i_1 ?_
          refine rn_goto (pc := 612) 616 dk_La_law_612 (by decide) ?_
          exact rn_sub (by rfl) (r_La_law_j616 X F Qf hQ hF0 _ ih x3 (nm_xs X (x3 + (1 : Int32)).toNatClampNeg) (nm_xs X (x3 + (2 : Int32)).toNatClampNeg) (1 : Int32) σ)
      refine rn_tcase (pc := 33) 10 (10 : Int32) 651 dk_La_law_33 (by decide) (by decide) rfl (by decide) (fun c3_10 => ?_) (fun c3_10 => ?_)
      · refine rn_aload_n (pc := 651) 1 dk_La_law_651 rfl rfl rfl ?_
        refine rn_aload_n (pc := 652) 0 dk_La_law_652 rfl rfl rfl ?_
        refine rn_iload_n (pc := 653) 3 dk_La_law_653 rfl rfl ?_
        refine rn_iconst (pc := 654) (1 : Int32) dk_La_law_654 cn_i_1 ?_
        refine rn_iadd (pc := 655) dk_La_law_655 ?_
        refine rn_sld (pc := 656) dk_La_law_656 (fun g88 => ?_)
        refine rn_aload_n (pc := 657) 0 dk_La_law_657 rfl rfl rfl ?_
        refine rn_iload_n (pc := 658) 3 dk_La_law_658 rfl rfl ?_
        refine rn_iconst (pc := 659) (2 : Int32) dk_La_law_659 cn_i_2 ?_
        refine rn_iadd (pc := 660) dk_La_law_660 ?_
        refine rn_sld (pc := 661) dk_La_law_661 (fun g89 => ?_)
        refine rn_aload_n (pc := 662) 0 dk_La_law_662 rfl rfl rfl ?_
        refine rn_iload_n (pc := 663) 3 dk_La_law_663 rfl rfl ?_
        refine rn_iconst (pc := 664) (3 : Int32) dk_La_law_664 cn_i_3 ?_
        refine rn_iadd (pc := 665) dk_La_law_665 ?_
        refine rn_sld (pc := 666) dk_La_law_666 (fun g90 => ?_)
        refine rn_if_eq (pc := 667) 674 dk_La_law_667 (by decide) (fun c91 => ?_) (fun c91 => ?_)
        · refine rn_iconst (pc := 674) (0 : Int32) dk_La_law_674 cn_i_0 ?_
          exact rn_sub (by rfl) (r_La_law_j675 X F Qf hQ hF0 _ ih x3 (nm_xs X (x3 + (1 : Int32)).toNatClampNeg) (nm_xs X (x3 + (2 : Int32)).toNatClampNeg) (0 : Int32) σ)
        · refine rn_iconst (pc := 670) (1 : Int32) dk_La_law_670 cn_i_1 ?_
          refine rn_goto (pc := 671) 675 dk_La_law_671 (by decide) ?_
          exact rn_sub (by rfl) (r_La_law_j675 X F Qf hQ hF0 _ ih x3 (nm_xs X (x3 + (1 : Int32)).toNatClampNeg) (nm_xs X (x3 + (2 : Int32)).toNatClampNeg) (1 : Int32) σ)
      refine rn_tcase (pc := 33) 11 (11 : Int32) 710 dk_La_law_33 (by decide) (by decide) rfl (by decide) (fun c3_11 => ?_) (fun c3_11 => ?_)
      · refine rn_aload_n (pc := 710) 1 dk_La_law_710 rfl rfl rfl ?_
        refine rn_aload_n (pc := 711) 0 dk_La_law_711 rfl rfl rfl ?_
        refine rn_iload_n (pc := 712) 3 dk_La_law_712 rfl rfl ?_
        refine rn_iconst (pc := 713) (1 : Int32) dk_La_law_713 cn_i_1 ?_
        refine rn_iadd (pc := 714) dk_La_law_714 ?_
        refine rn_sld (pc := 715) dk_La_law_715 (fun g99 => ?_)
        refine rn_aload_n (pc := 716) 0 dk_La_law_716 rfl rfl rfl ?_
        refine rn_iload_n (pc := 717) 3 dk_La_law_717 rfl rfl ?_
        refine rn_iconst (pc := 718) (2 : Int32) dk_La_law_718 cn_i_2 ?_
        refine rn_iadd (pc := 719) dk_La_law_719 ?_
        refine rn_sld (pc := 720) dk_La_law_720 (fun g100 => ?_)
        refine cl_La_66 (pc := 721) (As := [.int (nm_xs X (x3 + (1 : Int32)).toNatClampNeg), .int (nm_xs X (x3 + (2 : Int32)).toNatClampNeg)]) (st := []) rfl (ct_Nm_ask X (nm_xs X (x3 + (1 : Int32)).toNatClampNeg) (nm_xs X (x3 + (2 : Int32)).toNatClampNeg) σ) (Nat.le_trans (Nat.le_of_ble_eq_true rfl) hF0) rfl rfl (Nat.le_of_ble_eq_true rfl) dk_La_law_721 (fun q101 => ?_)
        refine rn_aload_n (pc := 724) 2 dk_La_law_724 rfl rfl rfl ?_
        refine rn_aload_n (pc := 725) 0 dk_La_law_725 rfl rfl rfl ?_
        refine rn_iload_n (pc := 726) 3 dk_La_law_726 rfl rfl ?_
        refine rn_iconst (pc := 727) (1 : Int32) dk_La_law_727 cn_i_1 ?_
        refine rn_iadd (pc := 728) dk_La_law_728 ?_
        refine rn_sld (pc := 729) dk_La_law_729 (fun g102 => ?_)
        refine rn_aload_n (pc := 730) 0 dk_La_law_730 rfl rfl rfl ?_
        refine rn_iload_n (pc := 731) 3 dk_La_law_731 rfl rfl ?_
        refine rn_iconst (pc := 732) (2 : Int32) dk_La_law_732 cn_i_2 ?_
        refine rn_iadd (pc := 733) dk_La_law_733 ?_
        refine rn_sld (pc := 734) dk_La_law_734 (fun g103 => ?_)
        refine cl_La_69 (pc := 735) (As := [.int (nm_xs X (x3 + (1 : Int32)).toNatClampNeg), .int (nm_xs X (x3 + (2 : Int32)).toNatClampNeg)]) (st := [.int q101.1]) rfl (ct_Md_ask X (nm_xs X (x3 + (1 : Int32)).toNatClampNeg) (nm_xs X (x3 + (2 : Int32)).toNatClampNeg) q101.2) (Nat.le_trans (Nat.le_of_ble_eq_true rfl) hF0) rfl rfl (Nat.le_of_ble_eq_true rfl) dk_La_law_735 (fun q104 => ?_)
        refine rn_icmp_eq (pc := 738) 1569 dk_La_law_738 (by decide) (fun c105 => ?_) (fun c105 => ?_)
        · refine rn_iinc (pc := 1569) (6 : Int32) dk_La_law_1569 cn_i_6 rfl rfl rfl ?_
          refine rn_goto (pc := 1572) 18 dk_La_law_1572 (by decide) ?_
          exact rn_sub (by rfl) (ih (x3 + (6 : Int32)) q104.2)
        · refine rn_iconst (pc := 741) (0 : Int32) dk_La_law_741 cn_i_0 ?_
          exact hQ _ _ _ _ dk_La_law_742
      refine rn_tcase (pc := 33) 12 (12 : Int32) 743 dk_La_law_33 (by decide) (by decide) rfl (by decide) (fun c3_12 => ?_) (fun c3_12 => ?_)
      · refine rn_aload_n (pc := 743) 1 dk_La_law_743 rfl rfl rfl ?_
        refine rn_aload_n (pc := 744) 0 dk_La_law_744 rfl rfl rfl ?_
        refine rn_iload_n (pc := 745) 3 dk_La_law_745 rfl rfl ?_
        refine rn_iconst (pc := 746) (1 : Int32) dk_La_law_746 cn_i_1 ?_
        refine rn_iadd (pc := 747) dk_La_law_747 ?_
        refine rn_sld (pc := 748) dk_La_law_748 (fun g106 => ?_)
        refine rn_aload_n (pc := 749) 0 dk_La_law_749 rfl rfl rfl ?_
        refine rn_iload_n (pc := 750) 3 dk_La_law_750 rfl rfl ?_
        refine rn_iconst (pc := 751) (2 : Int32) dk_La_law_751 cn_i_2 ?_
        refine rn_iadd (pc := 752) dk_La_law_752 ?_
        refine rn_sld (pc := 753) dk_La_law_753 (fun g107 => ?_)
        refine cl_La_70 (pc := 754) (As := [.int (nm_xs X (x3 + (1 : Int32)).toNatClampNeg), .int (nm_xs X (x3 + (2 : Int32)).toNatClampNeg)]) (st := []) rfl (ct_Nm_makerOf X (nm_xs X (x3 + (1 : Int32)).toNatClampNeg) (nm_xs X (x3 + (2 : Int32)).toNatClampNeg) σ) (Nat.le_trans (Nat.le_of_ble_eq_true rfl) hF0) rfl rfl (Nat.le_of_ble_eq_true rfl) dk_La_law_754 (fun q108 => ?_)
        refine rn_aload_n (pc := 757) 2 dk_La_law_757 rfl rfl rfl ?_
        refine rn_aload_n (pc := 758) 0 dk_La_law_758 rfl rfl rfl ?_
        refine rn_iload_n (pc := 759) 3 dk_La_law_759 rfl rfl ?_
        refine rn_iconst (pc := 760) (1 : Int32) dk_La_law_760 cn_i_1 ?_
        refine rn_iadd (pc := 761) dk_La_law_761 ?_
        refine rn_sld (pc := 762) dk_La_law_762 (fun g109 => ?_)
        refine rn_aload_n (pc := 763) 0 dk_La_law_763 rfl rfl rfl ?_
        refine rn_iload_n (pc := 764) 3 dk_La_law_764 rfl rfl ?_
        refine rn_iconst (pc := 765) (2 : Int32) dk_La_law_765 cn_i_2 ?_
        refine rn_iadd (pc := 766) dk_La_law_766 ?_
        refine rn_sld (pc := 767) dk_La_law_767 (fun g110 => ?_)
        refine cl_La_73 (pc := 768) (As := [.int (nm_xs X (x3 + (1 : Int32)).toNatClampNeg), .int (nm_xs X (x3 + (2 : Int32)).toNatClampNeg)]) (st := [.int q108.1]) rfl (ct_Md_makerOf X (nm_xs X (x3 + (1 : Int32)).toNatClampNeg) (nm_xs X (x3 + (2 : Int32)).toNatClampNeg) q108.2) (Nat.le_trans (Nat.le_of_ble_eq_true rfl) hF0) rfl rfl (Nat.le_of_ble_eq_true rfl) dk_La_law_768 (fun q111 => ?_)
        refine rn_icmp_eq (pc := 771) 1569 dk_La_law_771 (by decide) (fun c112 => ?_) (fun c112 => ?_)
        · refine rn_iinc (pc := 1569) (6 : Int32) dk_La_law_1569 cn_i_6 rfl rfl rfl ?_
          refine rn_goto (pc := 1572) 18 dk_La_law_1572 (by decide) ?_
          exact rn_sub (by rfl) (ih (x3 + (6 : Int32)) q111.2)
        · refine rn_iconst (pc := 774) (0 : Int32) dk_La_law_774 cn_i_0 ?_
          exact hQ _ _ _ _ dk_La_law_775
      refine rn_tcase (pc := 33) 13 (13 : Int32) 776 dk_La_law_33 (by decide) (by decide) rfl (by decide) (fun c3_13 => ?_) (fun c3_13 => ?_)
      · refine rn_aload_n (pc := 776) 1 dk_La_law_776 rfl rfl rfl ?_
        refine rn_aload_n (pc := 777) 0 dk_La_law_777 rfl rfl rfl ?_
        refine rn_iload_n (pc := 778) 3 dk_La_law_778 rfl rfl ?_
        refine rn_iconst (pc := 779) (1 : Int32) dk_La_law_779 cn_i_1 ?_
        refine rn_iadd (pc := 780) dk_La_law_780 ?_
        refine rn_sld (pc := 781) dk_La_law_781 (fun g113 => ?_)
        refine cl_La_74 (pc := 782) (As := [.int (nm_xs X (x3 + (1 : Int32)).toNatClampNeg)]) (st := []) rfl (ct_Nm_island X (nm_xs X (x3 + (1 : Int32)).toNatClampNeg) σ) (Nat.le_trans (Nat.le_of_ble_eq_true rfl) hF0) rfl rfl (Nat.le_of_ble_eq_true rfl) dk_La_law_782 (fun q114 => ?_)
        refine rn_aload_n (pc := 785) 2 dk_La_law_785 rfl rfl rfl ?_
        refine rn_aload_n (pc := 786) 0 dk_La_law_786 rfl rfl rfl ?_
        refine rn_iload_n (pc := 787) 3 dk_La_law_787 rfl rfl ?_
        refine rn_iconst (pc := 788) (1 : Int32) dk_La_law_788 cn_i_1 ?_
        refine rn_iadd (pc := 789) dk_La_law_789 ?_
        refine rn_sld (pc := 790) dk_La_law_790 (fun g115 => ?_)
        refine cl_La_77 (pc := 791) (As := [.int (nm_xs X (x3 + (1 : Int32)).toNatClampNeg)]) (st := [.int q114.1]) rfl (ct_Md_island X (nm_xs X (x3 + (1 : Int32)).toNatClampNeg) q114.2) (Nat.le_trans (Nat.le_of_ble_eq_true rfl) hF0) rfl rfl (Nat.le_of_ble_eq_true rfl) dk_La_law_791 (fun q116 => ?_)
        refine rn_icmp_eq (pc := 794) 1569 dk_La_law_794 (by decide) (fun c117 => ?_) (fun c117 => ?_)
        · refine rn_iinc (pc := 1569) (6 : Int32) dk_La_law_1569 cn_i_6 rfl rfl rfl ?_
          refine rn_goto (pc := 1572) 18 dk_La_law_1572 (by decide) ?_
          exact rn_sub (by rfl) (ih (x3 + (6 : Int32)) q116.2)
        · refine rn_iconst (pc := 797) (0 : Int32) dk_La_law_797 cn_i_0 ?_
          exact hQ _ _ _ _ dk_La_law_798
      refine rn_tcase (pc := 33) 14 (14 : Int32) 799 dk_La_law_33 (by decide) (by decide) rfl (by decide) (fun c3_14 => ?_) (fun c3_14 => ?_)
      · refine rn_aload_n (pc := 799) 1 dk_La_law_799 rfl rfl rfl ?_
        refine cl_La_78 (pc := 800) (As := []) (st := []) rfl (ct_Nm_fault X σ) (Nat.le_trans (Nat.le_of_ble_eq_true rfl) hF0) rfl rfl (Nat.le_of_ble_eq_true rfl) dk_La_law_800 (fun q118 => ?_)
        refine rn_aload_n (pc := 803) 2 dk_La_law_803 rfl rfl rfl ?_
        refine cl_La_82 (pc := 804) (As := []) (st := [.int q118.1]) rfl (ct_Md_fault X q118.2) (Nat.le_trans (Nat.le_of_ble_eq_true rfl) hF0) rfl rfl (Nat.le_of_ble_eq_true rfl) dk_La_law_804 (fun q119 => ?_)
        refine rn_icmp_eq (pc := 807) 1569 dk_La_law_807 (by decide) (fun c120 => ?_) (fun c120 => ?_)
        · refine rn_iinc (pc := 1569) (6 : Int32) dk_La_law_1569 cn_i_6 rfl rfl rfl ?_
          refine rn_goto (pc := 1572) 18 dk_La_law_1572 (by decide) ?_
          exact rn_sub (by rfl) (ih (x3 + (6 : Int32)) q119.2)
        · refine rn_iconst (pc := 810) (0 : Int32) dk_La_law_810 cn_i_0 ?_
          exact hQ _ _ _ _ dk_La_law_811
      refine rn_tcase (pc := 33) 15 (15 : Int32) 812 dk_La_law_33 (by decide) (by decide) rfl (by decide) (fun c3_15 => ?_) (fun c3_15 => ?_)
      · refine rn_aload_n (pc := 812) 1 dk_La_law_812 rfl rfl rfl ?_
        refine rn_aload_n (pc := 813) 0 dk_La_law_813 rfl rfl rfl ?_
        refine rn_iload_n (pc := 814) 3 dk_La_law_814 rfl rfl ?_
        refine rn_iconst (pc := 815) (1 : Int32) dk_La_law_815 cn_i_1 ?_
        refine rn_iadd (pc := 816) dk_La_law_816 ?_
        refine rn_sld (pc := 817) dk_La_law_817 (fun g121 => ?_)
        refine cl_La_83 (pc := 818) (As := [.int (nm_xs X (x3 + (1 : Int32)).toNatClampNeg)]) (st := []) rfl (ct_Nm_abroad X (nm_xs X (x3 + (1 : Int32)).toNatClampNeg) σ) (Nat.le_trans (Nat.le_of_ble_eq_true rfl) hF0) rfl rfl (Nat.le_of_ble_eq_true rfl) dk_La_law_818 (fun q122 => ?_)
        refine rn_aload_n (pc := 821) 2 dk_La_law_821 rfl rfl rfl ?_
        refine rn_aload_n (pc := 822) 0 dk_La_law_822 rfl rfl rfl ?_
        refine rn_iload_n (pc := 823) 3 dk_La_law_823 rfl rfl ?_
        refine rn_iconst (pc := 824) (1 : Int32) dk_La_law_824 cn_i_1 ?_
        refine rn_iadd (pc := 825) dk_La_law_825 ?_
        refine rn_sld (pc := 826) dk_La_law_826 (fun g123 => ?_)
        refine cl_La_86 (pc := 827) (As := [.int (nm_xs X (x3 + (1 : Int32)).toNatClampNeg)]) (st := [.int q122.1]) rfl (ct_Md_abroad X (nm_xs X (x3 + (1 : Int32)).toNatClampNeg) q122.2) (Nat.le_trans (Nat.le_of_ble_eq_true rfl) hF0) rfl rfl (Nat.le_of_ble_eq_true rfl) dk_La_law_827 (fun q124 => ?_)
        refine rn_icmp_eq (pc := 830) 1569 dk_La_law_830 (by decide) (fun c125 => ?_) (fun c125 => ?_)
        · refine rn_iinc (pc := 1569) (6 : Int32) dk_La_law_1569 cn_i_6 rfl rfl rfl ?_
          refine rn_goto (pc := 1572) 18 dk_La_law_1572 (by decide) ?_
          exact rn_sub (by rfl) (ih (x3 + (6 : Int32)) q124.2)
        · refine rn_iconst (pc := 833) (0 : Int32) dk_La_law_833 cn_i_0 ?_
          exact hQ _ _ _ _ dk_La_law_834
      refine rn_tcase (pc := 33) 16 (16 : Int32) 835 dk_La_law_33 (by decide) (by decide) rfl (by decide) (fun c3_16 => ?_) (fun c3_16 => ?_)
      · refine rn_aload_n (pc := 835) 1 dk_La_law_835 rfl rfl rfl ?_
        refine cl_La_87 (pc := 836) (As := []) (st := []) rfl (ct_Nm_fewest X σ) (Nat.le_trans (Nat.le_of_ble_eq_true rfl) hF0) rfl rfl (Nat.le_of_ble_eq_true rfl) dk_La_law_836 (fun q126 => ?_)
        refine rn_aload_n (pc := 839) 2 dk_La_law_839 rfl rfl rfl ?_
        refine cl_La_90 (pc := 840) (As := []) (st := [.int q126.1]) rfl (ct_Md_fewest X q126.2) (Nat.le_trans (Nat.le_of_ble_eq_true rfl) hF0) rfl rfl (Nat.le_of_ble_eq_true rfl) dk_La_law_840 (fun q127 => ?_)
        refine rn_icmp_eq (pc := 843) 1569 dk_La_law_843 (by decide) (fun c128 => ?_) (fun c128 => ?_)
        · refine rn_iinc (pc := 1569) (6 : Int32) dk_La_law_1569 cn_i_6 rfl rfl rfl ?_
          refine rn_goto (pc := 1572) 18 dk_La_law_1572 (by decide) ?_
          exact rn_sub (by rfl) (ih (x3 + (6 : Int32)) q127.2)
        · refine rn_iconst (pc := 846) (0 : Int32) dk_La_law_846 cn_i_0 ?_
          exact hQ _ _ _ _ dk_La_law_847
      refine rn_tcase (pc := 33) 17 (17 : Int32) 848 dk_La_law_33 (by decide) (by decide) rfl (by decide) (fun c3_17 => ?_) (fun c3_17 => ?_)
      · refine rn_aload_n (pc := 848) 1 dk_La_law_848 rfl rfl rfl ?_
        refine rn_aload_n (pc := 849) 0 dk_La_law_849 rfl rfl rfl ?_
        refine rn_iload_n (pc := 850) 3 dk_La_law_850 rfl rfl ?_
        refine rn_iconst (pc := 851) (1 : Int32) dk_La_law_851 cn_i_1 ?_
        refine rn_iadd (pc := 852) dk_La_law_852 ?_
        refine rn_sld (pc := 853) dk_La_law_853 (fun g129 => ?_)
        refine cl_La_91 (pc := 854) (As := [.int (nm_xs X (x3 + (1 : Int32)).toNatClampNeg)]) (st := []) rfl (ct_Nm_cheapest X (nm_xs X (x3 + (1 : Int32)).toNatClampNeg) σ) (Nat.le_trans (Nat.le_of_ble_eq_true rfl) hF0) rfl rfl (Nat.le_of_ble_eq_true rfl) dk_La_law_854 (fun q130 => ?_)
        refine rn_aload_n (pc := 857) 2 dk_La_law_857 rfl rfl rfl ?_
        refine rn_aload_n (pc := 858) 0 dk_La_law_858 rfl rfl rfl ?_
        refine rn_iload_n (pc := 859) 3 dk_La_law_859 rfl rfl ?_
        refine rn_iconst (pc := 860) (1 : Int32) dk_La_law_860 cn_i_1 ?_
        refine rn_iadd (pc := 861) dk_La_law_861 ?_
        refine rn_sld (pc := 862) dk_La_law_862 (fun g131 => ?_)
        refine cl_La_94 (pc := 863) (As := [.int (nm_xs X (x3 + (1 : Int32)).toNatClampNeg)]) (st := [.int q130.1]) rfl (ct_Md_cheapest X (nm_xs X (x3 + (1 : Int32)).toNatClampNeg) q130.2) (Nat.le_trans (Nat.le_of_ble_eq_true rfl) hF0) rfl rfl (Nat.le_of_ble_eq_true rfl) dk_La_law_863 (fun q132 => ?_)
        refine rn_icmp_eq (pc := 866) 1569 dk_La_law_866 (by decide) (fun c133 => ?_) (fun c133 => ?_)
        · refine rn_iinc (pc := 1569) (6 : Int32) dk_La_law_1569 cn_i_6 rfl rfl rfl ?_
          refine rn_goto (pc := 1572) 18 dk_La_law_1572 (by decide) ?_
          exact rn_sub (by rfl) (ih (x3 + (6 : Int32)) q132.2)
        · refine rn_iconst (pc := 869) (0 : Int32) dk_La_law_869 cn_i_0 ?_
          exact hQ _ _ _ _ dk_La_law_870
      refine rn_tcase (pc := 33) 18 (18 : Int32) 871 dk_La_law_33 (by decide) (by decide) rfl (by decide) (fun c3_18 => ?_) (fun c3_18 => ?_)
      · refine rn_aload_n (pc := 871) 1 dk_La_law_871 rfl rfl rfl ?_
        refine rn_aload_n (pc := 872) 0 dk_La_law_872 rfl rfl rfl ?_
        refine rn_iload_n (pc := 873) 3 dk_La_law_873 rfl rfl ?_
        refine rn_iconst (pc := 874) (1 : Int32) dk_La_law_874 cn_i_1 ?_
        refine rn_iadd (pc := 875) dk_La_law_875 ?_
        refine rn_sld (pc := 876) dk_La_law_876 (fun g134 => ?_)
        refine cl_La_95 (pc := 877) (As := [.int (nm_xs X (x3 + (1 : Int32)).toNatClampNeg)]) (st := []) rfl (ct_Nm_alone X (nm_xs X (x3 + (1 : Int32)).toNatClampNeg) σ) (Nat.le_trans (Nat.le_of_ble_eq_true rfl) hF0) rfl rfl (Nat.le_of_ble_eq_true rfl) dk_La_law_877 (fun q135 => ?_)
        refine rn_aload_n (pc := 880) 2 dk_La_law_880 rfl rfl rfl ?_
        refine rn_aload_n (pc := 881) 0 dk_La_law_881 rfl rfl rfl ?_
        refine rn_iload_n (pc := 882) 3 dk_La_law_882 rfl rfl ?_
        refine rn_iconst (pc := 883) (1 : Int32) dk_La_law_883 cn_i_1 ?_
        refine rn_iadd (pc := 884) dk_La_law_884 ?_
        refine rn_sld (pc := 885) dk_La_law_885 (fun g136 => ?_)
        refine cl_La_98 (pc := 886) (As := [.int (nm_xs X (x3 + (1 : Int32)).toNatClampNeg)]) (st := [.int q135.1]) rfl (ct_Md_alone X (nm_xs X (x3 + (1 : Int32)).toNatClampNeg) q135.2) (Nat.le_trans (Nat.le_of_ble_eq_true rfl) hF0) rfl rfl (Nat.le_of_ble_eq_true rfl) dk_La_law_886 (fun q137 => ?_)
        refine rn_icmp_eq (pc := 889) 1569 dk_La_law_889 (by decide) (fun c138 => ?_) (fun c138 => ?_)
        · refine rn_iinc (pc := 1569) (6 : Int32) dk_La_law_1569 cn_i_6 rfl rfl rfl ?_
          refine rn_goto (pc := 1572) 18 dk_La_law_1572 (by decide) ?_
          exact rn_sub (by rfl) (ih (x3 + (6 : Int32)) q137.2)
        · refine rn_iconst (pc := 892) (0 : Int32) dk_La_law_892 cn_i_0 ?_
          exact hQ _ _ _ _ dk_La_law_893
      refine rn_tcase (pc := 33) 19 (19 : Int32) 894 dk_La_law_33 (by decide) (by decide) rfl (by decide) (fun c3_19 => ?_) (fun c3_19 => ?_)
      · refine rn_aload_n (pc := 894) 1 dk_La_law_894 rfl rfl rfl ?_
        refine rn_aload_n (pc := 895) 0 dk_La_law_895 rfl rfl rfl ?_
        refine rn_iload_n (pc := 896) 3 dk_La_law_896 rfl rfl ?_
        refine rn_iconst (pc := 897) (1 : Int32) dk_La_law_897 cn_i_1 ?_
        refine rn_iadd (pc := 898) dk_La_law_898 ?_
        refine rn_sld (pc := 899) dk_La_law_899 (fun g139 => ?_)
        refine cl_La_99 (pc := 900) (As := [.int (nm_xs X (x3 + (1 : Int32)).toNatClampNeg)]) (st := []) rfl (ct_Nm_without X (nm_xs X (x3 + (1 : Int32)).toNatClampNeg) σ) (Nat.le_trans (Nat.le_of_ble_eq_true rfl) hF0) rfl rfl (Nat.le_of_ble_eq_true rfl) dk_La_law_900 (fun q140 => ?_)
        refine rn_aload_n (pc := 903) 2 dk_La_law_903 rfl rfl rfl ?_
        refine rn_aload_n (pc := 904) 0 dk_La_law_904 rfl rfl rfl ?_
        refine rn_iload_n (pc := 905) 3 dk_La_law_905 rfl rfl ?_
        refine rn_iconst (pc := 906) (1 : Int32) dk_La_law_906 cn_i_1 ?_
        refine rn_iadd (pc := 907) dk_La_law_907 ?_
        refine rn_sld (pc := 908) dk_La_law_908 (fun g141 => ?_)
        refine cl_La_102 (pc := 909) (As := [.int (nm_xs X (x3 + (1 : Int32)).toNatClampNeg)]) (st := [.int q140.1]) rfl (ct_Md_without X (nm_xs X (x3 + (1 : Int32)).toNatClampNeg) q140.2) (Nat.le_trans (Nat.le_of_ble_eq_true rfl) hF0) rfl rfl (Nat.le_of_ble_eq_true rfl) dk_La_law_909 (fun q142 => ?_)
        refine rn_icmp_eq (pc := 912) 1569 dk_La_law_912 (by decide) (fun c143 => ?_) (fun c143 => ?_)
        · refine rn_iinc (pc := 1569) (6 : Int32) dk_La_law_1569 cn_i_6 rfl rfl rfl ?_
          refine rn_goto (pc := 1572) 18 dk_La_law_1572 (by decide) ?_
          exact rn_sub (by rfl) (ih (x3 + (6 : Int32)) q142.2)
        · refine rn_iconst (pc := 915) (0 : Int32) dk_La_law_915 cn_i_0 ?_
          exact hQ _ _ _ _ dk_La_law_916
      refine rn_tcase (pc := 33) 20 (20 : Int32) 917 dk_La_law_33 (by decide) (by decide) rfl (by decide) (fun c3_20 => ?_) (fun c3_20 => ?_)
      · refine rn_aload_n (pc := 917) 1 dk_La_law_917 rfl rfl rfl ?_
        refine rn_aload_n (pc := 918) 0 dk_La_law_918 rfl rfl rfl ?_
        refine rn_iload_n (pc := 919) 3 dk_La_law_919 rfl rfl ?_
        refine rn_iconst (pc := 920) (1 : Int32) dk_La_law_920 cn_i_1 ?_
        refine rn_iadd (pc := 921) dk_La_law_921 ?_
        refine rn_sld (pc := 922) dk_La_law_922 (fun g144 => ?_)
        refine cl_La_103 (pc := 923) (As := [.int (nm_xs X (x3 + (1 : Int32)).toNatClampNeg)]) (st := []) rfl (ct_Nm_sold X (nm_xs X (x3 + (1 : Int32)).toNatClampNeg) σ) (Nat.le_trans (Nat.le_of_ble_eq_true rfl) hF0) rfl rfl (Nat.le_of_ble_eq_true rfl) dk_La_law_923 (fun q145 => ?_)
        refine rn_aload_n (pc := 926) 2 dk_La_law_926 rfl rfl rfl ?_
        refine rn_aload_n (pc := 927) 0 dk_La_law_927 rfl rfl rfl ?_
        refine rn_iload_n (pc := 928) 3 dk_La_law_928 rfl rfl ?_
        refine rn_iconst (pc := 929) (1 : Int32) dk_La_law_929 cn_i_1 ?_
        refine rn_iadd (pc := 930) dk_La_law_930 ?_
        refine rn_sld (pc := 931) dk_La_law_931 (fun g146 => ?_)
        refine cl_La_106 (pc := 932) (As := [.int (nm_xs X (x3 + (1 : Int32)).toNatClampNeg)]) (st := [.int q145.1]) rfl (ct_Md_sold X (nm_xs X (x3 + (1 : Int32)).toNatClampNeg) q145.2) (Nat.le_trans (Nat.le_of_ble_eq_true rfl) hF0) rfl rfl (Nat.le_of_ble_eq_true rfl) dk_La_law_932 (fun q147 => ?_)
        refine rn_icmp_eq (pc := 935) 1569 dk_La_law_935 (by decide) (fun c148 => ?_) (fun c148 => ?_)
        · refine rn_iinc (pc := 1569) (6 : Int32) dk_La_law_1569 cn_i_6 rfl rfl rfl ?_
          refine rn_goto (pc := 1572) 18 dk_La_law_1572 (by decide) ?_
          exact rn_sub (by rfl) (ih (x3 + (6 : Int32)) q147.2)
        · refine rn_iconst (pc := 938) (0 : Int32) dk_La_law_938 cn_i_0 ?_
          exact hQ _ _ _ _ dk_La_law_939
      refine rn_tcase (pc := 33) 21 (21 : Int32) 940 dk_La_law_33 (by decide) (by decide) rfl (by decide) (fun c3_21 => ?_) (fun c3_21 => ?_)
      · refine rn_aload_n (pc := 940) 1 dk_La_law_940 rfl rfl rfl ?_
        refine cl_La_107 (pc := 941) (As := []) (st := []) rfl (ct_Nm_stands X σ) (Nat.le_trans (Nat.le_of_ble_eq_true rfl) hF0) rfl rfl (Nat.le_of_ble_eq_true rfl) dk_La_law_941 (fun q149 => ?_)
        refine rn_aload_n (pc := 944) 2 dk_La_law_944 rfl rfl rfl ?_
        refine cl_La_110 (pc := 945) (As := []) (st := [.int q149.1]) rfl (ct_Md_stands0 X q149.2) (Nat.le_trans (Nat.le_of_ble_eq_true rfl) hF0) rfl rfl (Nat.le_of_ble_eq_true rfl) dk_La_law_945 (fun q150 => ?_)
        refine rn_icmp_eq (pc := 948) 1569 dk_La_law_948 (by decide) (fun c151 => ?_) (fun c151 => ?_)
        · refine rn_iinc (pc := 1569) (6 : Int32) dk_La_law_1569 cn_i_6 rfl rfl rfl ?_
          refine rn_goto (pc := 1572) 18 dk_La_law_1572 (by decide) ?_
          exact rn_sub (by rfl) (ih (x3 + (6 : Int32)) q150.2)
        · refine rn_iconst (pc := 951) (0 : Int32) dk_La_law_951 cn_i_0 ?_
          exact hQ _ _ _ _ dk_La_law_952
      refine rn_tcase (pc := 33) 22 (22 : Int32) 953 dk_La_law_33 (by decide) (by decide) rfl (by decide) (fun c3_22 => ?_) (fun c3_22 => ?_)
      · refine rn_aload_n (pc := 953) 1 dk_La_law_953 rfl rfl rfl ?_
        refine rn_aload_n (pc := 954) 0 dk_La_law_954 rfl rfl rfl ?_
        refine rn_iload_n (pc := 955) 3 dk_La_law_955 rfl rfl ?_
        refine rn_iconst (pc := 956) (1 : Int32) dk_La_law_956 cn_i_1 ?_
        refine rn_iadd (pc := 957) dk_La_law_957 ?_
        refine rn_sld (pc := 958) dk_La_law_958 (fun g152 => ?_)
        refine cl_La_111 (pc := 959) (As := [.int (nm_xs X (x3 + (1 : Int32)).toNatClampNeg)]) (st := []) rfl (ct_Nm_lessons X (nm_xs X (x3 + (1 : Int32)).toNatClampNeg) σ) (Nat.le_trans (Nat.le_of_ble_eq_true rfl) hF0) rfl rfl (Nat.le_of_ble_eq_true rfl) dk_La_law_959 (fun q153 => ?_)
        refine rn_aload_n (pc := 962) 2 dk_La_law_962 rfl rfl rfl ?_
        refine rn_aload_n (pc := 963) 0 dk_La_law_963 rfl rfl rfl ?_
        refine rn_iload_n (pc := 964) 3 dk_La_law_964 rfl rfl ?_
        refine rn_iconst (pc := 965) (1 : Int32) dk_La_law_965 cn_i_1 ?_
        refine rn_iadd (pc := 966) dk_La_law_966 ?_
        refine rn_sld (pc := 967) dk_La_law_967 (fun g154 => ?_)
        refine cl_La_114 (pc := 968) (As := [.int (nm_xs X (x3 + (1 : Int32)).toNatClampNeg)]) (st := [.int q153.1]) rfl (ct_Md_lessons X (nm_xs X (x3 + (1 : Int32)).toNatClampNeg) q153.2) (Nat.le_trans (Nat.le_of_ble_eq_true rfl) hF0) rfl rfl (Nat.le_of_ble_eq_true rfl) dk_La_law_968 (fun q155 => ?_)
        refine rn_icmp_eq (pc := 971) 1569 dk_La_law_971 (by decide) (fun c156 => ?_) (fun c156 => ?_)
        · refine rn_iinc (pc := 1569) (6 : Int32) dk_La_law_1569 cn_i_6 rfl rfl rfl ?_
          refine rn_goto (pc := 1572) 18 dk_La_law_1572 (by decide) ?_
          exact rn_sub (by rfl) (ih (x3 + (6 : Int32)) q155.2)
        · refine rn_iconst (pc := 974) (0 : Int32) dk_La_law_974 cn_i_0 ?_
          exact hQ _ _ _ _ dk_La_law_975
      refine rn_tcase (pc := 33) 23 (23 : Int32) 976 dk_La_law_33 (by decide) (by decide) rfl (by decide) (fun c3_23 => ?_) (fun c3_23 => ?_)
      · refine rn_aload_n (pc := 976) 1 dk_La_law_976 rfl rfl rfl ?_
        refine rn_aload_n (pc := 977) 0 dk_La_law_977 rfl rfl rfl ?_
        refine rn_iload_n (pc := 978) 3 dk_La_law_978 rfl rfl ?_
        refine rn_iconst (pc := 979) (1 : Int32) dk_La_law_979 cn_i_1 ?_
        refine rn_iadd (pc := 980) dk_La_law_980 ?_
        refine rn_sld (pc := 981) dk_La_law_981 (fun g157 => ?_)
        refine cl_La_115 (pc := 982) (As := [.int (nm_xs X (x3 + (1 : Int32)).toNatClampNeg)]) (st := []) rfl (ct_Nm_offer X (nm_xs X (x3 + (1 : Int32)).toNatClampNeg) σ) (Nat.le_trans (Nat.le_of_ble_eq_true rfl) hF0) rfl rfl (Nat.le_of_ble_eq_true rfl) dk_La_law_982 (fun q158 => ?_)
        refine rn_aload_n (pc := 985) 2 dk_La_law_985 rfl rfl rfl ?_
        refine rn_aload_n (pc := 986) 0 dk_La_law_986 rfl rfl rfl ?_
        refine rn_iload_n (pc := 987) 3 dk_La_law_987 rfl rfl ?_
        refine rn_iconst (pc := 988) (1 : Int32) dk_La_law_988 cn_i_1 ?_
        refine rn_iadd (pc := 989) dk_La_law_989 ?_
        refine rn_sld (pc := 990) dk_La_law_990 (fun g159 => ?_)
        refine cl_La_118 (pc := 991) (As := [.int (nm_xs X (x3 + (1 : Int32)).toNatClampNeg)]) (st := [.int q158.1]) rfl (ct_Md_offer X (nm_xs X (x3 + (1 : Int32)).toNatClampNeg) q158.2) (Nat.le_trans (Nat.le_of_ble_eq_true rfl) hF0) rfl rfl (Nat.le_of_ble_eq_true rfl) dk_La_law_991 (fun q160 => ?_)
        refine rn_icmp_eq (pc := 994) 1569 dk_La_law_994 (by decide) (fun c161 => ?_) (fun c161 => ?_)
        · refine rn_iinc (pc := 1569) (6 : Int32) dk_La_law_1569 cn_i_6 rfl rfl rfl ?_
          refine rn_goto (pc := 1572) 18 dk_La_law_1572 (by decide) ?_
          exact rn_sub (by rfl) (ih (x3 + (6 : Int32)) q160.2)
        · refine rn_iconst (pc := 997) (0 : Int32) dk_La_law_997 cn_i_0 ?_
          exact hQ _ _ _ _ dk_La_law_998
      refine rn_tcase (pc := 33) 24 (24 : Int32) 999 dk_La_law_33 (by decide) (by decide) rfl (by decide) (fun c3_24 => ?_) (fun c3_24 => ?_)
      · refine rn_aload_n (pc := 999) 1 dk_La_law_999 rfl rfl rfl ?_
        refine cl_La_119 (pc := 1000) (As := []) (st := []) rfl (ct_Nm_spend X σ) (Nat.le_trans (Nat.le_of_ble_eq_true rfl) hF0) rfl rfl (Nat.le_of_ble_eq_true rfl) dk_La_law_1000 (fun q162 => ?_)
        refine rn_aload_n (pc := 1003) 2 dk_La_law_1003 rfl rfl rfl ?_
        refine cl_La_122 (pc := 1004) (As := []) (st := [.int q162.1]) rfl (ct_Md_spend X q162.2) (Nat.le_trans (Nat.le_of_ble_eq_true rfl) hF0) rfl rfl (Nat.le_of_ble_eq_true rfl) dk_La_law_1004 (fun q163 => ?_)
        refine rn_icmp_eq (pc := 1007) 1569 dk_La_law_1007 (by decide) (fun c164 => ?_) (fun c164 => ?_)
        · refine rn_iinc (pc := 1569) (6 : Int32) dk_La_law_1569 cn_i_6 rfl rfl rfl ?_
          refine rn_goto (pc := 1572) 18 dk_La_law_1572 (by decide) ?_
          exact rn_sub (by rfl) (ih (x3 + (6 : Int32)) q163.2)
        · refine rn_iconst (pc := 1010) (0 : Int32) dk_La_law_1010 cn_i_0 ?_
          exact hQ _ _ _ _ dk_La_law_1011
      refine rn_tcase (pc := 33) 25 (25 : Int32) 1012 dk_La_law_33 (by decide) (by decide) rfl (by decide) (fun c3_25 => ?_) (fun c3_25 => ?_)
      · refine rn_aload_n (pc := 1012) 1 dk_La_law_1012 rfl rfl rfl ?_
        refine rn_aload_n (pc := 1013) 0 dk_La_law_1013 rfl rfl rfl ?_
        refine rn_iload_n (pc := 1014) 3 dk_La_law_1014 rfl rfl ?_
        refine rn_iconst (pc := 1015) (1 : Int32) dk_La_law_1015 cn_i_1 ?_
        refine rn_iadd (pc := 1016) dk_La_law_1016 ?_
        refine rn_sld (pc := 1017) dk_La_law_1017 (fun g165 => ?_)
        refine rn_aload_n (pc := 1018) 0 dk_La_law_1018 rfl rfl rfl ?_
        refine rn_iload_n (pc := 1019) 3 dk_La_law_1019 rfl rfl ?_
        refine rn_iconst (pc := 1020) (2 : Int32) dk_La_law_1020 cn_i_2 ?_
        refine rn_iadd (pc := 1021) dk_La_law_1021 ?_
        refine rn_sld (pc := 1022) dk_La_law_1022 (fun g166 => ?_)
        refine cl_La_123 (pc := 1023) (As := [.int (nm_xs X (x3 + (1 : Int32)).toNatClampNeg), .int (nm_xs X (x3 + (2 : Int32)).toNatClampNeg)]) (st := []) rfl (ct_Nm_council X (nm_xs X (x3 + (1 : Int32)).toNatClampNeg) (nm_xs X (x3 + (2 : Int32)).toNatClampNeg) σ) (Nat.le_trans (Nat.le_of_ble_eq_true rfl) hF0) rfl rfl (Nat.le_of_ble_eq_true rfl) dk_La_law_1023 (fun q167 => ?_)
        refine rn_aload_n (pc := 1026) 2 dk_La_law_1026 rfl rfl rfl ?_
        refine rn_aload_n (pc := 1027) 0 dk_La_law_1027 rfl rfl rfl ?_
        refine rn_iload_n (pc := 1028) 3 dk_La_law_1028 rfl rfl ?_
        refine rn_iconst (pc := 1029) (1 : Int32) dk_La_law_1029 cn_i_1 ?_
        refine rn_iadd (pc := 1030) dk_La_law_1030 ?_
        refine rn_sld (pc := 1031) dk_La_law_1031 (fun g168 => ?_)
        refine rn_aload_n (pc := 1032) 0 dk_La_law_1032 rfl rfl rfl ?_
        refine rn_iload_n (pc := 1033) 3 dk_La_law_1033 rfl rfl ?_
        refine rn_iconst (pc := 1034) (2 : Int32) dk_La_law_1034 cn_i_2 ?_
        refine rn_iadd (pc := 1035) dk_La_law_1035 ?_
        refine rn_sld (pc := 1036) dk_La_law_1036 (fun g169 => ?_)
        refine cl_La_126 (pc := 1037) (As := [.int (nm_xs X (x3 + (1 : Int32)).toNatClampNeg), .int (nm_xs X (x3 + (2 : Int32)).toNatClampNeg)]) (st := [.int q167.1]) rfl (ct_Md_council X (nm_xs X (x3 + (1 : Int32)).toNatClampNeg) (nm_xs X (x3 + (2 : Int32)).toNatClampNeg) q167.2) (Nat.le_trans (Nat.le_of_ble_eq_true rfl) hF0) rfl rfl (Nat.le_of_ble_eq_true rfl) dk_La_law_1037 (fun q170 => ?_)
        refine rn_icmp_eq (pc := 1040) 1569 dk_La_law_1040 (by decide) (fun c171 => ?_) (fun c171 => ?_)
        · refine rn_iinc (pc := 1569) (6 : Int32) dk_La_law_1569 cn_i_6 rfl rfl rfl ?_
          refine rn_goto (pc := 1572) 18 dk_La_law_1572 (by decide) ?_
          exact rn_sub (by rfl) (ih (x3 + (6 : Int32)) q170.2)
        · refine rn_iconst (pc := 1043) (0 : Int32) dk_La_law_1043 cn_i_0 ?_
          exact hQ _ _ _ _ dk_La_law_1044
      refine rn_tcase (pc := 33) 26 (26 : Int32) 1045 dk_La_law_33 (by decide) (by decide) rfl (by decide) (fun c3_26 => ?_) (fun c3_26 => ?_)
      · refine rn_aload_n (pc := 1045) 1 dk_La_law_1045 rfl rfl rfl ?_
        refine rn_aload_n (pc := 1046) 0 dk_La_law_1046 rfl rfl rfl ?_
        refine rn_iload_n (pc := 1047) 3 dk_La_law_1047 rfl rfl ?_
        refine rn_iconst (pc := 1048) (1 : Int32) dk_La_law_1048 cn_i_1 ?_
        refine rn_iadd (pc := 1049) dk_La_law_1049 ?_
        refine rn_sld (pc := 1050) dk_La_law_1050 (fun g172 => ?_)
        refine rn_aload_n (pc := 1051) 0 dk_La_law_1051 rfl rfl rfl ?_
        refine rn_iload_n (pc := 1052) 3 dk_La_law_1052 rfl rfl ?_
        refine rn_iconst (pc := 1053) (2 : Int32) dk_La_law_1053 cn_i_2 ?_
        refine rn_iadd (pc := 1054) dk_La_law_1054 ?_
        refine rn_sld (pc := 1055) dk_La_law_1055 (fun g173 => ?_)
        refine rn_aload_n (pc := 1056) 0 dk_La_law_1056 rfl rfl rfl ?_
        refine rn_iload_n (pc := 1057) 3 dk_La_law_1057 rfl rfl ?_
        refine rn_iconst (pc := 1058) (3 : Int32) dk_La_law_1058 cn_i_3 ?_
        refine rn_iadd (pc := 1059) dk_La_law_1059 ?_
        refine rn_sld (pc := 1060) dk_La_law_1060 (fun g174 => ?_)
        refine cl_La_127 (pc := 1061) (As := [.int (nm_xs X (x3 + (1 : Int32)).toNatClampNeg), .int (nm_xs X (x3 + (2 : Int32)).toNatClampNeg), .int (nm_xs X (x3 + (3 : Int32)).toNatClampNeg)]) (st := []) rfl (ct_Nm_letter X (nm_xs X (x3 + (1 : Int32)).toNatClampNeg) (nm_xs X (x3 + (2 : Int32)).toNatClampNeg) (nm_xs X (x3 + (3 : Int32)).toNatClampNeg) σ) (Nat.le_trans (Nat.le_of_ble_eq_true rfl) hF0) rfl rfl (Nat.le_of_ble_eq_true rfl) dk_La_law_1061 (fun q175 => ?_)
        refine rn_aload_n (pc := 1064) 2 dk_La_law_1064 rfl rfl rfl ?_
        refine rn_aload_n (pc := 1065) 0 dk_La_law_1065 rfl rfl rfl ?_
        refine rn_iload_n (pc := 1066) 3 dk_La_law_1066 rfl rfl ?_
        refine rn_iconst (pc := 1067) (1 : Int32) dk_La_law_1067 cn_i_1 ?_
        refine rn_iadd (pc := 1068) dk_La_law_1068 ?_
        refine rn_sld (pc := 1069) dk_La_law_1069 (fun g176 => ?_)
        refine rn_aload_n (pc := 1070) 0 dk_La_law_1070 rfl rfl rfl ?_
        refine rn_iload_n (pc := 1071) 3 dk_La_law_1071 rfl rfl ?_
        refine rn_iconst (pc := 1072) (2 : Int32) dk_La_law_1072 cn_i_2 ?_
        refine rn_iadd (pc := 1073) dk_La_law_1073 ?_
        refine rn_sld (pc := 1074) dk_La_law_1074 (fun g177 => ?_)
        refine rn_aload_n (pc := 1075) 0 dk_La_law_1075 rfl rfl rfl ?_
        refine rn_iload_n (pc := 1076) 3 dk_La_law_1076 rfl rfl ?_
        refine rn_iconst (pc := 1077) (3 : Int32) dk_La_law_1077 cn_i_3 ?_
        refine rn_iadd (pc := 1078) dk_La_law_1078 ?_
        refine rn_sld (pc := 1079) dk_La_law_1079 (fun g178 => ?_)
        refine cl_La_130 (pc := 1080) (As := [.int (nm_xs X (x3 + (1 : Int32)).toNatClampNeg), .int (nm_xs X (x3 + (2 : Int32)).toNatClampNeg), .int (nm_xs X (x3 + (3 : Int32)).toNatClampNeg)]) (st := [.int q175.1]) rfl (ct_Md_letter X (nm_xs X (x3 + (1 : Int32)).toNatClampNeg) (nm_xs X (x3 + (2 : Int32)).toNatClampNeg) (nm_xs X (x3 + (3 : Int32)).toNatClampNeg) q175.2) (Nat.le_trans (Nat.le_of_ble_eq_true rfl) hF0) rfl rfl (Nat.le_of_ble_eq_true rfl) dk_La_law_1080 (fun q179 => ?_)
        refine rn_icmp_eq (pc := 1083) 1569 dk_La_law_1083 (by decide) (fun c180 => ?_) (fun c180 => ?_)
        · refine rn_iinc (pc := 1569) (6 : Int32) dk_La_law_1569 cn_i_6 rfl rfl rfl ?_
          refine rn_goto (pc := 1572) 18 dk_La_law_1572 (by decide) ?_
          exact rn_sub (by rfl) (ih (x3 + (6 : Int32)) q179.2)
        · refine rn_iconst (pc := 1086) (0 : Int32) dk_La_law_1086 cn_i_0 ?_
          exact hQ _ _ _ _ dk_La_law_1087
      refine rn_tcase (pc := 33) 27 (27 : Int32) 1088 dk_La_law_33 (by decide) (by decide) rfl (by decide) (fun c3_27 => ?_) (fun c3_27 => ?_)
      · refine rn_aload_n (pc := 1088) 1 dk_La_law_1088 rfl rfl rfl ?_
        refine rn_aload_n (pc := 1089) 0 dk_La_law_1089 rfl rfl rfl ?_
        refine rn_iload_n (pc := 1090) 3 dk_La_law_1090 rfl rfl ?_
        refine rn_iconst (pc := 1091) (1 : Int32) dk_La_law_1091 cn_i_1 ?_
        refine rn_iadd (pc := 1092) dk_La_law_1092 ?_
        refine rn_sld (pc := 1093) dk_La_law_1093 (fun g181 => ?_)
        refine rn_aload_n (pc := 1094) 0 dk_La_law_1094 rfl rfl rfl ?_
        refine rn_iload_n (pc := 1095) 3 dk_La_law_1095 rfl rfl ?_
        refine rn_iconst (pc := 1096) (2 : Int32) dk_La_law_1096 cn_i_2 ?_
        refine rn_iadd (pc := 1097) dk_La_law_1097 ?_
        refine rn_sld (pc := 1098) dk_La_law_1098 (fun g182 => ?_)
        refine rn_aload_n (pc := 1099) 0 dk_La_law_1099 rfl rfl rfl ?_
        refine rn_iload_n (pc := 1100) 3 dk_La_law_1100 rfl rfl ?_
        refine rn_iconst (pc := 1101) (3 : Int32) dk_La_law_1101 cn_i_3 ?_
        refine rn_iadd (pc := 1102) dk_La_law_1102 ?_
        refine rn_sld (pc := 1103) dk_La_law_1103 (fun g183 => ?_)
        refine cl_La_131 (pc := 1104) (As := [.int (nm_xs X (x3 + (1 : Int32)).toNatClampNeg), .int (nm_xs X (x3 + (2 : Int32)).toNatClampNeg), .int (nm_xs X (x3 + (3 : Int32)).toNatClampNeg)]) (st := []) rfl (ct_Nm_keys X (nm_xs X (x3 + (1 : Int32)).toNatClampNeg) (nm_xs X (x3 + (2 : Int32)).toNatClampNeg) (nm_xs X (x3 + (3 : Int32)).toNatClampNeg) σ) (Nat.le_trans (Nat.le_of_ble_eq_true rfl) hF0) rfl rfl (Nat.le_of_ble_eq_true rfl) dk_La_law_1104 (fun q184 => ?_)
        refine rn_aload_n (pc := 1107) 2 dk_La_law_1107 rfl rfl rfl ?_
        refine rn_aload_n (pc := 1108) 0 dk_La_law_1108 rfl rfl rfl ?_
        refine rn_iload_n (pc := 1109) 3 dk_La_law_1109 rfl rfl ?_
        refine rn_iconst (pc := 1110) (1 : Int32) dk_La_law_1110 cn_i_1 ?_
        refine rn_iadd (pc := 1111) dk_La_law_1111 ?_
        refine rn_sld (pc := 1112) dk_La_law_1112 (fun g185 => ?_)
        refine rn_aload_n (pc := 1113) 0 dk_La_law_1113 rfl rfl rfl ?_
        refine rn_iload_n (pc := 1114) 3 dk_La_law_1114 rfl rfl ?_
        refine rn_iconst (pc := 1115) (2 : Int32) dk_La_law_1115 cn_i_2 ?_
        refine rn_iadd (pc := 1116) dk_La_law_1116 ?_
        refine rn_sld (pc := 1117) dk_La_law_1117 (fun g186 => ?_)
        refine rn_aload_n (pc := 1118) 0 dk_La_law_1118 rfl rfl rfl ?_
        refine rn_iload_n (pc := 1119) 3 dk_La_law_1119 rfl rfl ?_
        refine rn_iconst (pc := 1120) (3 : Int32) dk_La_law_1120 cn_i_3 ?_
        refine rn_iadd (pc := 1121) dk_La_law_1121 ?_
        refine rn_sld (pc := 1122) dk_La_law_1122 (fun g187 => ?_)
        refine cl_La_134 (pc := 1123) (As := [.int (nm_xs X (x3 + (1 : Int32)).toNatClampNeg), .int (nm_xs X (x3 + (2 : Int32)).toNatClampNeg), .int (nm_xs X (x3 + (3 : Int32)).toNatClampNeg)]) (st := [.int q184.1]) rfl (ct_Md_keys X (nm_xs X (x3 + (1 : Int32)).toNatClampNeg) (nm_xs X (x3 + (2 : Int32)).toNatClampNeg) (nm_xs X (x3 + (3 : Int32)).toNatClampNeg) q184.2) (Nat.le_trans (Nat.le_of_ble_eq_true rfl) hF0) rfl rfl (Nat.le_of_ble_eq_true rfl) dk_La_law_1123 (fun q188 => ?_)
        refine rn_icmp_eq (pc := 1126) 1569 dk_La_law_1126 (by decide) (fun c189 => ?_) (fun c189 => ?_)
        · refine rn_iinc (pc := 1569) (6 : Int32) dk_La_law_1569 cn_i_6 rfl rfl rfl ?_
          refine rn_goto (pc := 1572) 18 dk_La_law_1572 (by decide) ?_
          exact rn_sub (by rfl) (ih (x3 + (6 : Int32)) q188.2)
        · refine rn_iconst (pc := 1129) (0 : Int32) dk_La_law_1129 cn_i_0 ?_
          exact hQ _ _ _ _ dk_La_law_1130
      refine rn_tcase (pc := 33) 28 (28 : Int32) 1131 dk_La_law_33 (by decide) (by decide) rfl (by decide) (fun c3_28 => ?_) (fun c3_28 => ?_)
      · refine rn_aload_n (pc := 1131) 1 dk_La_law_1131 rfl rfl rfl ?_
        refine rn_aload_n (pc := 1132) 0 dk_La_law_1132 rfl rfl rfl ?_
        refine rn_iload_n (pc := 1133) 3 dk_La_law_1133 rfl rfl ?_
        refine rn_iconst (pc := 1134) (1 : Int32) dk_La_law_1134 cn_i_1 ?_
        refine rn_iadd (pc := 1135) dk_La_law_1135 ?_
        refine rn_sld (pc := 1136) dk_La_law_1136 (fun g190 => ?_)
        refine rn_aload_n (pc := 1137) 0 dk_La_law_1137 rfl rfl rfl ?_
        refine rn_iload_n (pc := 1138) 3 dk_La_law_1138 rfl rfl ?_
        refine rn_iconst (pc := 1139) (2 : Int32) dk_La_law_1139 cn_i_2 ?_
        refine rn_iadd (pc := 1140) dk_La_law_1140 ?_
        refine rn_sld (pc := 1141) dk_La_law_1141 (fun g191 => ?_)
        refine cl_La_135 (pc := 1142) (As := [.int (nm_xs X (x3 + (1 : Int32)).toNatClampNeg), .int (nm_xs X (x3 + (2 : Int32)).toNatClampNeg)]) (st := []) rfl (ct_Nm_tries X (nm_xs X (x3 + (1 : Int32)).toNatClampNeg) (nm_xs X (x3 + (2 : Int32)).toNatClampNeg) σ) (Nat.le_trans (Nat.le_of_ble_eq_true rfl) hF0) rfl rfl (Nat.le_of_ble_eq_true rfl) dk_La_law_1142 (fun q192 => ?_)
        refine rn_aload_n (pc := 1145) 2 dk_La_law_1145 rfl rfl rfl ?_
        refine rn_aload_n (pc := 1146) 0 dk_La_law_1146 rfl rfl rfl ?_
        refine rn_iload_n (pc := 1147) 3 dk_La_law_1147 rfl rfl ?_
        refine rn_iconst (pc := 1148) (1 : Int32) dk_La_law_1148 cn_i_1 ?_
        refine rn_iadd (pc := 1149) dk_La_law_1149 ?_
        refine rn_sld (pc := 1150) dk_La_law_1150 (fun g193 => ?_)
        refine rn_aload_n (pc := 1151) 0 dk_La_law_1151 rfl rfl rfl ?_
        refine rn_iload_n (pc := 1152) 3 dk_La_law_1152 rfl rfl ?_
        refine rn_iconst (pc := 1153) (2 : Int32) dk_La_law_1153 cn_i_2 ?_
        refine rn_iadd (pc := 1154) dk_La_law_1154 ?_
        refine rn_sld (pc := 1155) dk_La_law_1155 (fun g194 => ?_)
        refine cl_La_138 (pc := 1156) (As := [.int (nm_xs X (x3 + (1 : Int32)).toNatClampNeg), .int (nm_xs X (x3 + (2 : Int32)).toNatClampNeg)]) (st := [.int q192.1]) rfl (ct_Md_tries X (nm_xs X (x3 + (1 : Int32)).toNatClampNeg) (nm_xs X (x3 + (2 : Int32)).toNatClampNeg) q192.2) (Nat.le_trans (Nat.le_of_ble_eq_true rfl) hF0) rfl rfl (Nat.le_of_ble_eq_true rfl) dk_La_law_1156 (fun q195 => ?_)
        refine rn_icmp_eq (pc := 1159) 1569 dk_La_law_1159 (by decide) (fun c196 => ?_) (fun c196 => ?_)
        · refine rn_iinc (pc := 1569) (6 : Int32) dk_La_law_1569 cn_i_6 rfl rfl rfl ?_
          refine rn_goto (pc := 1572) 18 dk_La_law_1572 (by decide) ?_
          exact rn_sub (by rfl) (ih (x3 + (6 : Int32)) q195.2)
        · refine rn_iconst (pc := 1162) (0 : Int32) dk_La_law_1162 cn_i_0 ?_
          exact hQ _ _ _ _ dk_La_law_1163
      refine rn_tcase (pc := 33) 29 (29 : Int32) 1164 dk_La_law_33 (by decide) (by decide) rfl (by decide) (fun c3_29 => ?_) (fun c3_29 => ?_)
      · refine rn_aload_n (pc := 1164) 1 dk_La_law_1164 rfl rfl rfl ?_
        refine rn_aload_n (pc := 1165) 0 dk_La_law_1165 rfl rfl rfl ?_
        refine rn_iload_n (pc := 1166) 3 dk_La_law_1166 rfl rfl ?_
        refine rn_iconst (pc := 1167) (1 : Int32) dk_La_law_1167 cn_i_1 ?_
        refine rn_iadd (pc := 1168) dk_La_law_1168 ?_
        refine rn_sld (pc := 1169) dk_La_law_1169 (fun g197 => ?_)
        refine rn_aload_n (pc := 1170) 0 dk_La_law_1170 rfl rfl rfl ?_
        refine rn_iload_n (pc := 1171) 3 dk_La_law_1171 rfl rfl ?_
        refine rn_iconst (pc := 1172) (2 : Int32) dk_La_law_1172 cn_i_2 ?_
        refine rn_iadd (pc := 1173) dk_La_law_1173 ?_
        refine rn_sld (pc := 1174) dk_La_law_1174 (fun g198 => ?_)
        refine rn_aload_n (pc := 1175) 0 dk_La_law_1175 rfl rfl rfl ?_
        refine rn_iload_n (pc := 1176) 3 dk_La_law_1176 rfl rfl ?_
        refine rn_iconst (pc := 1177) (3 : Int32) dk_La_law_1177 cn_i_3 ?_
        refine rn_iadd (pc := 1178) dk_La_law_1178 ?_
        refine rn_sld (pc := 1179) dk_La_law_1179 (fun g199 => ?_)
        refine cl_La_139 (pc := 1180) (As := [.int (nm_xs X (x3 + (1 : Int32)).toNatClampNeg), .int (nm_xs X (x3 + (2 : Int32)).toNatClampNeg), .int (nm_xs X (x3 + (3 : Int32)).toNatClampNeg)]) (st := []) rfl (ct_Nm_who X (nm_xs X (x3 + (1 : Int32)).toNatClampNeg) (nm_xs X (x3 + (2 : Int32)).toNatClampNeg) (nm_xs X (x3 + (3 : Int32)).toNatClampNeg) σ) (Nat.le_trans (Nat.le_of_ble_eq_true rfl) hF0) rfl rfl (Nat.le_of_ble_eq_true rfl) dk_La_law_1180 (fun q200 => ?_)
        refine rn_aload_n (pc := 1183) 2 dk_La_law_1183 rfl rfl rfl ?_
        refine rn_aload_n (pc := 1184) 0 dk_La_law_1184 rfl rfl rfl ?_
        refine rn_iload_n (pc := 1185) 3 dk_La_law_1185 rfl rfl ?_
        refine rn_iconst (pc := 1186) (1 : Int32) dk_La_law_1186 cn_i_1 ?_
        refine rn_iadd (pc := 1187) dk_La_law_1187 ?_
        refine rn_sld (pc := 1188) dk_La_law_1188 (fun g201 => ?_)
        refine rn_aload_n (pc := 1189) 0 dk_La_law_1189 rfl rfl rfl ?_
        refine rn_iload_n (pc := 1190) 3 dk_La_law_1190 rfl rfl ?_
        refine rn_iconst (pc := 1191) (2 : Int32) dk_La_law_1191 cn_i_2 ?_
        refine rn_iadd (pc := 1192) dk_La_law_1192 ?_
        refine rn_sld (pc := 1193) dk_La_law_1193 (fun g202 => ?_)
        refine rn_aload_n (pc := 1194) 0 dk_La_law_1194 rfl rfl rfl ?_
        refine rn_iload_n (pc := 1195) 3 dk_La_law_1195 rfl rfl ?_
        refine rn_iconst (pc := 1196) (3 : Int32) dk_La_law_1196 cn_i_3 ?_
        refine rn_iadd (pc := 1197) dk_La_law_1197 ?_
        refine rn_sld (pc := 1198) dk_La_law_1198 (fun g203 => ?_)
        refine cl_La_142 (pc := 1199) (As := [.int (nm_xs X (x3 + (1 : Int32)).toNatClampNeg), .int (nm_xs X (x3 + (2 : Int32)).toNatClampNeg), .int (nm_xs X (x3 + (3 : Int32)).toNatClampNeg)]) (st := [.int q200.1]) rfl (ct_Md_who X (nm_xs X (x3 + (1 : Int32)).toNatClampNeg) (nm_xs X (x3 + (2 : Int32)).toNatClampNeg) (nm_xs X (x3 + (3 : Int32)).toNatClampNeg) q200.2) (Nat.le_trans (Nat.le_of_ble_eq_true rfl) hF0) rfl rfl (Nat.le_of_ble_eq_true rfl) dk_La_law_1199 (fun q204 => ?_)
        refine rn_icmp_eq (pc := 1202) 1569 dk_La_law_1202 (by decide) (fun c205 => ?_) (fun c205 => ?_)
        · refine rn_iinc (pc := 1569) (6 : Int32) dk_La_law_1569 cn_i_6 rfl rfl rfl ?_
          refine rn_goto (pc := 1572) 18 dk_La_law_1572 (by decide) ?_
          exact rn_sub (by rfl) (ih (x3 + (6 : Int32)) q204.2)
        · refine rn_iconst (pc := 1205) (0 : Int32) dk_La_law_1205 cn_i_0 ?_
          exact hQ _ _ _ _ dk_La_law_1206
      refine rn_tcase (pc := 33) 30 (30 : Int32) 1207 dk_La_law_33 (by decide) (by decide) rfl (by decide) (fun c3_30 => ?_) (fun c3_30 => ?_)
      · refine rn_aload_n (pc := 1207) 1 dk_La_law_1207 rfl rfl rfl ?_
        refine rn_aload_n (pc := 1208) 0 dk_La_law_1208 rfl rfl rfl ?_
        refine rn_iload_n (pc := 1209) 3 dk_La_law_1209 rfl rfl ?_
        refine rn_iconst (pc := 1210) (1 : Int32) dk_La_law_1210 cn_i_1 ?_
        refine rn_iadd (pc := 1211) dk_La_law_1211 ?_
        refine rn_sld (pc := 1212) dk_La_law_1212 (fun g206 => ?_)
        refine rn_aload_n (pc := 1213) 0 dk_La_law_1213 rfl rfl rfl ?_
        refine rn_iload_n (pc := 1214) 3 dk_La_law_1214 rfl rfl ?_
        refine rn_iconst (pc := 1215) (2 : Int32) dk_La_law_1215 cn_i_2 ?_
        refine rn_iadd (pc := 1216) dk_La_law_1216 ?_
        refine rn_sld (pc := 1217) dk_La_law_1217 (fun g207 => ?_)
        refine cl_La_143 (pc := 1218) (As := [.int (nm_xs X (x3 + (1 : Int32)).toNatClampNeg), .int (nm_xs X (x3 + (2 : Int32)).toNatClampNeg)]) (st := []) rfl (ct_Nm_judge X (nm_xs X (x3 + (1 : Int32)).toNatClampNeg) (nm_xs X (x3 + (2 : Int32)).toNatClampNeg) σ) (Nat.le_trans (Nat.le_of_ble_eq_true rfl) hF0) rfl rfl (Nat.le_of_ble_eq_true rfl) dk_La_law_1218 (fun q208 => ?_)
        refine rn_aload_n (pc := 1221) 2 dk_La_law_1221 rfl rfl rfl ?_
        refine rn_aload_n (pc := 1222) 0 dk_La_law_1222 rfl rfl rfl ?_
        refine rn_iload_n (pc := 1223) 3 dk_La_law_1223 rfl rfl ?_
        refine rn_iconst (pc := 1224) (1 : Int32) dk_La_law_1224 cn_i_1 ?_
        refine rn_iadd (pc := 1225) dk_La_law_1225 ?_
        refine rn_sld (pc := 1226) dk_La_law_1226 (fun g209 => ?_)
        refine rn_aload_n (pc := 1227) 0 dk_La_law_1227 rfl rfl rfl ?_
        refine rn_iload_n (pc := 1228) 3 dk_La_law_1228 rfl rfl ?_
        refine rn_iconst (pc := 1229) (2 : Int32) dk_La_law_1229 cn_i_2 ?_
        refine rn_iadd (pc := 1230) dk_La_law_1230 ?_
        refine rn_sld (pc := 1231) dk_La_law_1231 (fun g210 => ?_)
        refine cl_La_146 (pc := 1232) (As := [.int (nm_xs X (x3 + (1 : Int32)).toNatClampNeg), .int (nm_xs X (x3 + (2 : Int32)).toNatClampNeg)]) (st := [.int q208.1]) rfl (ct_Md_judge X (nm_xs X (x3 + (1 : Int32)).toNatClampNeg) (nm_xs X (x3 + (2 : Int32)).toNatClampNeg) q208.2) (Nat.le_trans (Nat.le_of_ble_eq_true rfl) hF0) rfl rfl (Nat.le_of_ble_eq_true rfl) dk_La_law_1232 (fun q211 => ?_)
        refine rn_icmp_eq (pc := 1235) 1569 dk_La_law_1235 (by decide) (fun c212 => ?_) (fun c212 => ?_)
        · refine rn_iinc (pc := 1569) (6 : Int32) dk_La_law_1569 cn_i_6 rfl rfl rfl ?_
          refine rn_goto (pc := 1572) 18 dk_La_law_1572 (by decide) ?_
          exact rn_sub (by rfl) (ih (x3 + (6 : Int32)) q211.2)
        · refine rn_iconst (pc := 1238) (0 : Int32) dk_La_law_1238 cn_i_0 ?_
          exact hQ _ _ _ _ dk_La_law_1239
      refine rn_tcase (pc := 33) 31 (31 : Int32) 1240 dk_La_law_33 (by decide) (by decide) rfl (by decide) (fun c3_31 => ?_) (fun c3_31 => ?_)
      · refine rn_aload_n (pc := 1240) 1 dk_La_law_1240 rfl rfl rfl ?_
        refine rn_aload_n (pc := 1241) 0 dk_La_law_1241 rfl rfl rfl ?_
        refine rn_iload_n (pc := 1242) 3 dk_La_law_1242 rfl rfl ?_
        refine rn_iconst (pc := 1243) (1 : Int32) dk_La_law_1243 cn_i_1 ?_
        refine rn_iadd (pc := 1244) dk_La_law_1244 ?_
        refine rn_sld (pc := 1245) dk_La_law_1245 (fun g213 => ?_)
        refine rn_aload_n (pc := 1246) 0 dk_La_law_1246 rfl rfl rfl ?_
        refine rn_iload_n (pc := 1247) 3 dk_La_law_1247 rfl rfl ?_
        refine rn_iconst (pc := 1248) (2 : Int32) dk_La_law_1248 cn_i_2 ?_
        refine rn_iadd (pc := 1249) dk_La_law_1249 ?_
        refine rn_sld (pc := 1250) dk_La_law_1250 (fun g214 => ?_)
        refine rn_aload_n (pc := 1251) 0 dk_La_law_1251 rfl rfl rfl ?_
        refine rn_iload_n (pc := 1252) 3 dk_La_law_1252 rfl rfl ?_
        refine rn_iconst (pc := 1253) (3 : Int32) dk_La_law_1253 cn_i_3 ?_
        refine rn_iadd (pc := 1254) dk_La_law_1254 ?_
        refine rn_sld (pc := 1255) dk_La_law_1255 (fun g215 => ?_)
        refine cl_La_147 (pc := 1256) (As := [.int (nm_xs X (x3 + (1 : Int32)).toNatClampNeg), .int (nm_xs X (x3 + (2 : Int32)).toNatClampNeg), .int (nm_xs X (x3 + (3 : Int32)).toNatClampNeg)]) (st := []) rfl (ct_Nm_behind X (nm_xs X (x3 + (1 : Int32)).toNatClampNeg) (nm_xs X (x3 + (2 : Int32)).toNatClampNeg) (nm_xs X (x3 + (3 : Int32)).toNatClampNeg) σ) (Nat.le_trans (Nat.le_of_ble_eq_true rfl) hF0) rfl rfl (Nat.le_of_ble_eq_true rfl) dk_La_law_1256 (fun q216 => ?_)
        refine rn_aload_n (pc := 1259) 2 dk_La_law_1259 rfl rfl rfl ?_
        refine rn_aload_n (pc := 1260) 0 dk_La_law_1260 rfl rfl rfl ?_
        refine rn_iload_n (pc := 1261) 3 dk_La_law_1261 rfl rfl ?_
        refine rn_iconst (pc := 1262) (1 : Int32) dk_La_law_1262 cn_i_1 ?_
        refine rn_iadd (pc := 1263) dk_La_law_1263 ?_
        refine rn_sld (pc := 1264) dk_La_law_1264 (fun g217 => ?_)
        refine rn_aload_n (pc := 1265) 0 dk_La_law_1265 rfl rfl rfl ?_
        refine rn_iload_n (pc := 1266) 3 dk_La_law_1266 rfl rfl ?_
        refine rn_iconst (pc := 1267) (2 : Int32) dk_La_law_1267 cn_i_2 ?_
        refine rn_iadd (pc := 1268) dk_La_law_1268 ?_
        refine rn_sld (pc := 1269) dk_La_law_1269 (fun g218 => ?_)
        refine rn_aload_n (pc := 1270) 0 dk_La_law_1270 rfl rfl rfl ?_
        refine rn_iload_n (pc := 1271) 3 dk_La_law_1271 rfl rfl ?_
        refine rn_iconst (pc := 1272) (3 : Int32) dk_La_law_1272 cn_i_3 ?_
        refine rn_iadd (pc := 1273) dk_La_law_1273 ?_
        refine rn_sld (pc := 1274) dk_La_law_1274 (fun g219 => ?_)
        refine cl_La_150 (pc := 1275) (As := [.int (nm_xs X (x3 + (1 : Int32)).toNatClampNeg), .int (nm_xs X (x3 + (2 : Int32)).toNatClampNeg), .int (nm_xs X (x3 + (3 : Int32)).toNatClampNeg)]) (st := [.int q216.1]) rfl (ct_Md_behind X (nm_xs X (x3 + (1 : Int32)).toNatClampNeg) (nm_xs X (x3 + (2 : Int32)).toNatClampNeg) (nm_xs X (x3 + (3 : Int32)).toNatClampNeg) q216.2) (Nat.le_trans (Nat.le_of_ble_eq_true rfl) hF0) rfl rfl (Nat.le_of_ble_eq_true rfl) dk_La_law_1275 (fun q220 => ?_)
        refine rn_icmp_eq (pc := 1278) 1569 dk_La_law_1278 (by decide) (fun c221 => ?_) (fun c221 => ?_)
        · refine rn_iinc (pc := 1569) (6 : Int32) dk_La_law_1569 cn_i_6 rfl rfl rfl ?_
          refine rn_goto (pc := 1572) 18 dk_La_law_1572 (by decide) ?_
          exact rn_sub (by rfl) (ih (x3 + (6 : Int32)) q220.2)
        · refine rn_iconst (pc := 1281) (0 : Int32) dk_La_law_1281 cn_i_0 ?_
          exact hQ _ _ _ _ dk_La_law_1282
      refine rn_tcase (pc := 33) 32 (32 : Int32) 1283 dk_La_law_33 (by decide) (by decide) rfl (by decide) (fun c3_32 => ?_) (fun c3_32 => ?_)
      · refine rn_aload_n (pc := 1283) 1 dk_La_law_1283 rfl rfl rfl ?_
        refine rn_aload_n (pc := 1284) 0 dk_La_law_1284 rfl rfl rfl ?_
        refine rn_iload_n (pc := 1285) 3 dk_La_law_1285 rfl rfl ?_
        refine rn_iconst (pc := 1286) (1 : Int32) dk_La_law_1286 cn_i_1 ?_
        refine rn_iadd (pc := 1287) dk_La_law_1287 ?_
        refine rn_sld (pc := 1288) dk_La_law_1288 (fun g222 => ?_)
        refine rn_aload_n (pc := 1289) 0 dk_La_law_1289 rfl rfl rfl ?_
        refine rn_iload_n (pc := 1290) 3 dk_La_law_1290 rfl rfl ?_
        refine rn_iconst (pc := 1291) (2 : Int32) dk_La_law_1291 cn_i_2 ?_
        refine rn_iadd (pc := 1292) dk_La_law_1292 ?_
        refine rn_sld (pc := 1293) dk_La_law_1293 (fun g223 => ?_)
        refine cl_La_151 (pc := 1294) (As := [.int (nm_xs X (x3 + (1 : Int32)).toNatClampNeg), .int (nm_xs X (x3 + (2 : Int32)).toNatClampNeg)]) (st := []) rfl (ct_Nm_done X (nm_xs X (x3 + (1 : Int32)).toNatClampNeg) (nm_xs X (x3 + (2 : Int32)).toNatClampNeg) σ) (Nat.le_trans (Nat.le_of_ble_eq_true rfl) hF0) rfl rfl (Nat.le_of_ble_eq_true rfl) dk_La_law_1294 (fun q224 => ?_)
        refine rn_aload_n (pc := 1297) 2 dk_La_law_1297 rfl rfl rfl ?_
        refine rn_aload_n (pc := 1298) 0 dk_La_law_1298 rfl rfl rfl ?_
        refine rn_iload_n (pc := 1299) 3 dk_La_law_1299 rfl rfl ?_
        refine rn_iconst (pc := 1300) (1 : Int32) dk_La_law_1300 cn_i_1 ?_
        refine rn_iadd (pc := 1301) dk_La_law_1301 ?_
        refine rn_sld (pc := 1302) dk_La_law_1302 (fun g225 => ?_)
        refine rn_aload_n (pc := 1303) 0 dk_La_law_1303 rfl rfl rfl ?_
        refine rn_iload_n (pc := 1304) 3 dk_La_law_1304 rfl rfl ?_
        refine rn_iconst (pc := 1305) (2 : Int32) dk_La_law_1305 cn_i_2 ?_
        refine rn_iadd (pc := 1306) dk_La_law_1306 ?_
        refine rn_sld (pc := 1307) dk_La_law_1307 (fun g226 => ?_)
        refine cl_La_154 (pc := 1308) (As := [.int (nm_xs X (x3 + (1 : Int32)).toNatClampNeg), .int (nm_xs X (x3 + (2 : Int32)).toNatClampNeg)]) (st := [.int q224.1]) rfl (ct_Md_done X (nm_xs X (x3 + (1 : Int32)).toNatClampNeg) (nm_xs X (x3 + (2 : Int32)).toNatClampNeg) q224.2) (Nat.le_trans (Nat.le_of_ble_eq_true rfl) hF0) rfl rfl (Nat.le_of_ble_eq_true rfl) dk_La_law_1308 (fun q227 => ?_)
        refine rn_icmp_eq (pc := 1311) 1569 dk_La_law_1311 (by decide) (fun c228 => ?_) (fun c228 => ?_)
        · refine rn_iinc (pc := 1569) (6 : Int32) dk_La_law_1569 cn_i_6 rfl rfl rfl ?_
          refine rn_goto (pc := 1572) 18 dk_La_law_1572 (by decide) ?_
          exact rn_sub (by rfl) (ih (x3 + (6 : Int32)) q227.2)
        · refine rn_iconst (pc := 1314) (0 : Int32) dk_La_law_1314 cn_i_0 ?_
          exact hQ _ _ _ _ dk_La_law_1315
      refine rn_tcase (pc := 33) 33 (33 : Int32) 1316 dk_La_law_33 (by decide) (by decide) rfl (by decide) (fun c3_33 => ?_) (fun c3_33 => ?_)
      · refine rn_aload_n (pc := 1316) 1 dk_La_law_1316 rfl rfl rfl ?_
        refine rn_aload_n (pc := 1317) 0 dk_La_law_1317 rfl rfl rfl ?_
        refine rn_iload_n (pc := 1318) 3 dk_La_law_1318 rfl rfl ?_
        refine rn_iconst (pc := 1319) (1 : Int32) dk_La_law_1319 cn_i_1 ?_
        refine rn_iadd (pc := 1320) dk_La_law_1320 ?_
        refine rn_sld (pc := 1321) dk_La_law_1321 (fun g229 => ?_)
        refine rn_aload_n (pc := 1322) 0 dk_La_law_1322 rfl rfl rfl ?_
        refine rn_iload_n (pc := 1323) 3 dk_La_law_1323 rfl rfl ?_
        refine rn_iconst (pc := 1324) (2 : Int32) dk_La_law_1324 cn_i_2 ?_
        refine rn_iadd (pc := 1325) dk_La_law_1325 ?_
        refine rn_sld (pc := 1326) dk_La_law_1326 (fun g230 => ?_)
        refine cl_La_155 (pc := 1327) (As := [.int (nm_xs X (x3 + (1 : Int32)).toNatClampNeg), .int (nm_xs X (x3 + (2 : Int32)).toNatClampNeg)]) (st := []) rfl (ct_Nm_bid X (nm_xs X (x3 + (1 : Int32)).toNatClampNeg) (nm_xs X (x3 + (2 : Int32)).toNatClampNeg) σ) (Nat.le_trans (Nat.le_of_ble_eq_true rfl) hF0) rfl rfl (Nat.le_of_ble_eq_true rfl) dk_La_law_1327 (fun q231 => ?_)
        refine rn_aload_n (pc := 1330) 2 dk_La_law_1330 rfl rfl rfl ?_
        refine rn_aload_n (pc := 1331) 0 dk_La_law_1331 rfl rfl rfl ?_
        refine rn_iload_n (pc := 1332) 3 dk_La_law_1332 rfl rfl ?_
        refine rn_iconst (pc := 1333) (1 : Int32) dk_La_law_1333 cn_i_1 ?_
        refine rn_iadd (pc := 1334) dk_La_law_1334 ?_
        refine rn_sld (pc := 1335) dk_La_law_1335 (fun g232 => ?_)
        refine rn_aload_n (pc := 1336) 0 dk_La_law_1336 rfl rfl rfl ?_
        refine rn_iload_n (pc := 1337) 3 dk_La_law_1337 rfl rfl ?_
        refine rn_iconst (pc := 1338) (2 : Int32) dk_La_law_1338 cn_i_2 ?_
        refine rn_iadd (pc := 1339) dk_La_law_1339 ?_
        refine rn_sld (pc := 1340) dk_La_law_1340 (fun g233 => ?_)
        refine cl_La_158 (pc := 1341) (As := [.int (nm_xs X (x3 + (1 : Int32)).toNatClampNeg), .int (nm_xs X (x3 + (2 : Int32)).toNatClampNeg)]) (st := [.int q231.1]) rfl (ct_Md_bid X (nm_xs X (x3 + (1 : Int32)).toNatClampNeg) (nm_xs X (x3 + (2 : Int32)).toNatClampNeg) q231.2) (Nat.le_trans (Nat.le_of_ble_eq_true rfl) hF0) rfl rfl (Nat.le_of_ble_eq_true rfl) dk_La_law_1341 (fun q234 => ?_)
        refine rn_icmp_eq (pc := 1344) 1569 dk_La_law_1344 (by decide) (fun c235 => ?_) (fun c235 => ?_)
        · refine rn_iinc (pc := 1569) (6 : Int32) dk_La_law_1569 cn_i_6 rfl rfl rfl ?_
          refine rn_goto (pc := 1572) 18 dk_La_law_1572 (by decide) ?_
          exact rn_sub (by rfl) (ih (x3 + (6 : Int32)) q234.2)
        · refine rn_iconst (pc := 1347) (0 : Int32) dk_La_law_1347 cn_i_0 ?_
          exact hQ _ _ _ _ dk_La_law_1348
      refine rn_tcase (pc := 33) 34 (34 : Int32) 1349 dk_La_law_33 (by decide) (by decide) rfl (by decide) (fun c3_34 => ?_) (fun c3_34 => ?_)
      · refine rn_aload_n (pc := 1349) 1 dk_La_law_1349 rfl rfl rfl ?_
        refine rn_aload_n (pc := 1350) 0 dk_La_law_1350 rfl rfl rfl ?_
        refine rn_iload_n (pc := 1351) 3 dk_La_law_1351 rfl rfl ?_
        refine rn_iconst (pc := 1352) (1 : Int32) dk_La_law_1352 cn_i_1 ?_
        refine rn_iadd (pc := 1353) dk_La_law_1353 ?_
        refine rn_sld (pc := 1354) dk_La_law_1354 (fun g236 => ?_)
        refine rn_aload_n (pc := 1355) 0 dk_La_law_1355 rfl rfl rfl ?_
        refine rn_iload_n (pc := 1356) 3 dk_La_law_1356 rfl rfl ?_
        refine rn_iconst (pc := 1357) (2 : Int32) dk_La_law_1357 cn_i_2 ?_
        refine rn_iadd (pc := 1358) dk_La_law_1358 ?_
        refine rn_sld (pc := 1359) dk_La_law_1359 (fun g237 => ?_)
        refine cl_La_159 (pc := 1360) (As := [.int (nm_xs X (x3 + (1 : Int32)).toNatClampNeg), .int (nm_xs X (x3 + (2 : Int32)).toNatClampNeg)]) (st := []) rfl (ct_Nm_deed X (nm_xs X (x3 + (1 : Int32)).toNatClampNeg) (nm_xs X (x3 + (2 : Int32)).toNatClampNeg) σ) (Nat.le_trans (Nat.le_of_ble_eq_true rfl) hF0) rfl rfl (Nat.le_of_ble_eq_true rfl) dk_La_law_1360 (fun q238 => ?_)
        refine rn_aload_n (pc := 1363) 2 dk_La_law_1363 rfl rfl rfl ?_
        refine rn_aload_n (pc := 1364) 0 dk_La_law_1364 rfl rfl rfl ?_
        refine rn_iload_n (pc := 1365) 3 dk_La_law_1365 rfl rfl ?_
        refine rn_iconst (pc := 1366) (1 : Int32) dk_La_law_1366 cn_i_1 ?_
        refine rn_iadd (pc := 1367) dk_La_law_1367 ?_
        refine rn_sld (pc := 1368) dk_La_law_1368 (fun g239 => ?_)
        refine rn_aload_n (pc := 1369) 0 dk_La_law_1369 rfl rfl rfl ?_
        refine rn_iload_n (pc := 1370) 3 dk_La_law_1370 rfl rfl ?_
        refine rn_iconst (pc := 1371) (2 : Int32) dk_La_law_1371 cn_i_2 ?_
        refine rn_iadd (pc := 1372) dk_La_law_1372 ?_
        refine rn_sld (pc := 1373) dk_La_law_1373 (fun g240 => ?_)
        refine cl_La_162 (pc := 1374) (As := [.int (nm_xs X (x3 + (1 : Int32)).toNatClampNeg), .int (nm_xs X (x3 + (2 : Int32)).toNatClampNeg)]) (st := [.int q238.1]) rfl (ct_Md_deed X (nm_xs X (x3 + (1 : Int32)).toNatClampNeg) (nm_xs X (x3 + (2 : Int32)).toNatClampNeg) q238.2) (Nat.le_trans (Nat.le_of_ble_eq_true rfl) hF0) rfl rfl (Nat.le_of_ble_eq_true rfl) dk_La_law_1374 (fun q241 => ?_)
        refine rn_icmp_eq (pc := 1377) 1569 dk_La_law_1377 (by decide) (fun c242 => ?_) (fun c242 => ?_)
        · refine rn_iinc (pc := 1569) (6 : Int32) dk_La_law_1569 cn_i_6 rfl rfl rfl ?_
          refine rn_goto (pc := 1572) 18 dk_La_law_1572 (by decide) ?_
          exact rn_sub (by rfl) (ih (x3 + (6 : Int32)) q241.2)
        · refine rn_iconst (pc := 1380) (0 : Int32) dk_La_law_1380 cn_i_0 ?_
          exact hQ _ _ _ _ dk_La_law_1381
      refine rn_tcase (pc := 33) 35 (35 : Int32) 1382 dk_La_law_33 (by decide) (by decide) rfl (by decide) (fun c3_35 => ?_) (fun c3_35 => ?_)
      · refine rn_aload_n (pc := 1382) 1 dk_La_law_1382 rfl rfl rfl ?_
        refine cl_La_163 (pc := 1383) (As := []) (st := []) rfl (ct_Nm_write X σ) (Nat.le_trans (Nat.le_of_ble_eq_true rfl) hF0) rfl rfl (Nat.le_of_ble_eq_true rfl) dk_La_law_1383 (fun q243 => ?_)
        refine rn_aload_n (pc := 1386) 2 dk_La_law_1386 rfl rfl rfl ?_
        refine cl_La_166 (pc := 1387) (As := []) (st := [.int q243.1]) rfl (ct_Md_write X q243.2) (Nat.le_trans (Nat.le_of_ble_eq_true rfl) hF0) rfl rfl (Nat.le_of_ble_eq_true rfl) dk_La_law_1387 (fun q244 => ?_)
        refine rn_icmp_eq (pc := 1390) 1569 dk_La_law_1390 (by decide) (fun c245 => ?_) (fun c245 => ?_)
        · refine rn_iinc (pc := 1569) (6 : Int32) dk_La_law_1569 cn_i_6 rfl rfl rfl ?_
          refine rn_goto (pc := 1572) 18 dk_La_law_1572 (by decide) ?_
          exact rn_sub (by rfl) (ih (x3 + (6 : Int32)) q244.2)
        · refine rn_iconst (pc := 1393) (0 : Int32) dk_La_law_1393 cn_i_0 ?_
          exact hQ _ _ _ _ dk_La_law_1394
      refine rn_tcase (pc := 33) 36 (36 : Int32) 1395 dk_La_law_33 (by decide) (by decide) rfl (by decide) (fun c3_36 => ?_) (fun c3_36 => ?_)
      · refine rn_aload_n (pc := 1395) 1 dk_La_law_1395 rfl rfl rfl ?_
        refine cl_La_167 (pc := 1396) (As := []) (st := []) rfl (ct_Nm_month X σ) (Nat.le_trans (Nat.le_of_ble_eq_true rfl) hF0) rfl rfl (Nat.le_of_ble_eq_true rfl) dk_La_law_1396 (fun q246 => ?_)
        refine rn_aload_n (pc := 1399) 2 dk_La_law_1399 rfl rfl rfl ?_
        refine cl_La_170 (pc := 1400) (As := []) (st := [.int q246.1]) rfl (ct_Md_month X q246.2) (Nat.le_trans (Nat.le_of_ble_eq_true rfl) hF0) rfl rfl (Nat.le_of_ble_eq_true rfl) dk_La_law_1400 (fun q247 => ?_)
        refine rn_icmp_eq (pc := 1403) 1569 dk_La_law_1403 (by decide) (fun c248 => ?_) (fun c248 => ?_)
        · refine rn_iinc (pc := 1569) (6 : Int32) dk_La_law_1569 cn_i_6 rfl rfl rfl ?_
          refine rn_goto (pc := 1572) 18 dk_La_law_1572 (by decide) ?_
          exact rn_sub (by rfl) (ih (x3 + (6 : Int32)) q247.2)
        · refine rn_iconst (pc := 1406) (0 : Int32) dk_La_law_1406 cn_i_0 ?_
          exact hQ _ _ _ _ dk_La_law_1407
      refine rn_tcase (pc := 33) 37 (37 : Int32) 1408 dk_La_law_33 (by decide) (by decide) rfl (by decide) (fun c3_37 => ?_) (fun c3_37 => ?_)
      · refine rn_aload_n (pc := 1408) 1 dk_La_law_1408 rfl rfl rfl ?_
        refine rn_aload_n (pc := 1409) 0 dk_La_law_1409 rfl rfl rfl ?_
        refine rn_iload_n (pc := 1410) 3 dk_La_law_1410 rfl rfl ?_
        refine rn_iconst (pc := 1411) (1 : Int32) dk_La_law_1411 cn_i_1 ?_
        refine rn_iadd (pc := 1412) dk_La_law_1412 ?_
        refine rn_sld (pc := 1413) dk_La_law_1413 (fun g249 => ?_)
        refine cl_La_171 (pc := 1414) (As := [.int (nm_xs X (x3 + (1 : Int32)).toNatClampNeg)]) (st := []) rfl (ct_Nm_years X (nm_xs X (x3 + (1 : Int32)).toNatClampNeg) σ) (Nat.le_trans (Nat.le_of_ble_eq_true rfl) hF0) rfl rfl (Nat.le_of_ble_eq_true rfl) dk_La_law_1414 (fun q250 => ?_)
        refine rn_aload_n (pc := 1417) 2 dk_La_law_1417 rfl rfl rfl ?_
        refine rn_aload_n (pc := 1418) 0 dk_La_law_1418 rfl rfl rfl ?_
        refine rn_iload_n (pc := 1419) 3 dk_La_law_1419 rfl rfl ?_
        refine rn_iconst (pc := 1420) (1 : Int32) dk_La_law_1420 cn_i_1 ?_
        refine rn_iadd (pc := 1421) dk_La_law_1421 ?_
        refine rn_sld (pc := 1422) dk_La_law_1422 (fun g251 => ?_)
        refine cl_La_174 (pc := 1423) (As := [.int (nm_xs X (x3 + (1 : Int32)).toNatClampNeg)]) (st := [.int q250.1]) rfl (ct_Md_years X (nm_xs X (x3 + (1 : Int32)).toNatClampNeg) q250.2) (Nat.le_trans (Nat.le_of_ble_eq_true rfl) hF0) rfl rfl (Nat.le_of_ble_eq_true rfl) dk_La_law_1423 (fun q252 => ?_)
        refine rn_icmp_eq (pc := 1426) 1569 dk_La_law_1426 (by decide) (fun c253 => ?_) (fun c253 => ?_)
        · refine rn_iinc (pc := 1569) (6 : Int32) dk_La_law_1569 cn_i_6 rfl rfl rfl ?_
          refine rn_goto (pc := 1572) 18 dk_La_law_1572 (by decide) ?_
          exact rn_sub (by rfl) (ih (x3 + (6 : Int32)) q252.2)
        · refine rn_iconst (pc := 1429) (0 : Int32) dk_La_law_1429 cn_i_0 ?_
          exact hQ _ _ _ _ dk_La_law_1430
      refine rn_tcase (pc := 33) 38 (38 : Int32) 1431 dk_La_law_33 (by decide) (by decide) rfl (by decide) (fun c3_38 => ?_) (fun c3_38 => ?_)
      · refine rn_aload_n (pc := 1431) 1 dk_La_law_1431 rfl rfl rfl ?_
        refine rn_aload_n (pc := 1432) 0 dk_La_law_1432 rfl rfl rfl ?_
        refine rn_iload_n (pc := 1433) 3 dk_La_law_1433 rfl rfl ?_
        refine rn_iconst (pc := 1434) (1 : Int32) dk_La_law_1434 cn_i_1 ?_
        refine rn_iadd (pc := 1435) dk_La_law_1435 ?_
        refine rn_sld (pc := 1436) dk_La_law_1436 (fun g254 => ?_)
        refine cl_La_175 (pc := 1437) (As := [.int (nm_xs X (x3 + (1 : Int32)).toNatClampNeg)]) (st := []) rfl (ct_Nm_seed X (nm_xs X (x3 + (1 : Int32)).toNatClampNeg) σ) (Nat.le_trans (Nat.le_of_ble_eq_true rfl) hF0) rfl rfl (Nat.le_of_ble_eq_true rfl) dk_La_law_1437 (fun q255 => ?_)
        refine rn_aload_n (pc := 1440) 2 dk_La_law_1440 rfl rfl rfl ?_
        refine rn_aload_n (pc := 1441) 0 dk_La_law_1441 rfl rfl rfl ?_
        refine rn_iload_n (pc := 1442) 3 dk_La_law_1442 rfl rfl ?_
        refine rn_iconst (pc := 1443) (1 : Int32) dk_La_law_1443 cn_i_1 ?_
        refine rn_iadd (pc := 1444) dk_La_law_1444 ?_
        refine rn_sld (pc := 1445) dk_La_law_1445 (fun g256 => ?_)
        refine cl_La_178 (pc := 1446) (As := [.int (nm_xs X (x3 + (1 : Int32)).toNatClampNeg)]) (st := [.int q255.1]) rfl (ct_Md_seed X (nm_xs X (x3 + (1 : Int32)).toNatClampNeg) q255.2) (Nat.le_trans (Nat.le_of_ble_eq_true rfl) hF0) rfl rfl (Nat.le_of_ble_eq_true rfl) dk_La_law_1446 (fun q257 => ?_)
        refine rn_icmp_eq (pc := 1449) 1569 dk_La_law_1449 (by decide) (fun c258 => ?_) (fun c258 => ?_)
        · refine rn_iinc (pc := 1569) (6 : Int32) dk_La_law_1569 cn_i_6 rfl rfl rfl ?_
          refine rn_goto (pc := 1572) 18 dk_La_law_1572 (by decide) ?_
          exact rn_sub (by rfl) (ih (x3 + (6 : Int32)) q257.2)
        · refine rn_iconst (pc := 1452) (0 : Int32) dk_La_law_1452 cn_i_0 ?_
          exact hQ _ _ _ _ dk_La_law_1453
      refine rn_tcase (pc := 33) 39 (39 : Int32) 1454 dk_La_law_33 (by decide) (by decide) rfl (by decide) (fun c3_39 => ?_) (fun c3_39 => ?_)
      · refine rn_aload_n (pc := 1454) 1 dk_La_law_1454 rfl rfl rfl ?_
        refine rn_aload_n (pc := 1455) 0 dk_La_law_1455 rfl rfl rfl ?_
        refine rn_iload_n (pc := 1456) 3 dk_La_law_1456 rfl rfl ?_
        refine rn_iconst (pc := 1457) (1 : Int32) dk_La_law_1457 cn_i_1 ?_
        refine rn_iadd (pc := 1458) dk_La_law_1458 ?_
        refine rn_sld (pc := 1459) dk_La_law_1459 (fun g259 => ?_)
        refine rn_aload_n (pc := 1460) 0 dk_La_law_1460 rfl rfl rfl ?_
        refine rn_iload_n (pc := 1461) 3 dk_La_law_1461 rfl rfl ?_
        refine rn_iconst (pc := 1462) (2 : Int32) dk_La_law_1462 cn_i_2 ?_
        refine rn_iadd (pc := 1463) dk_La_law_1463 ?_
        refine rn_sld (pc := 1464) dk_La_law_1464 (fun g260 => ?_)
        refine rn_aload_n (pc := 1465) 0 dk_La_law_1465 rfl rfl rfl ?_
        refine rn_iload_n (pc := 1466) 3 dk_La_law_1466 rfl rfl ?_
        refine rn_iconst (pc := 1467) (3 : Int32) dk_La_law_1467 cn_i_3 ?_
        refine rn_iadd (pc := 1468) dk_La_law_1468 ?_
        refine rn_sld (pc := 1469) dk_La_law_1469 (fun g261 => ?_)
        refine cl_La_179 (pc := 1470) (As := [.int (nm_xs X (x3 + (1 : Int32)).toNatClampNeg), .int (nm_xs X (x3 + (2 : Int32)).toNatClampNeg), .int (nm_xs X (x3 + (3 : Int32)).toNatClampNeg)]) (st := []) rfl (ct_Nm_act X (nm_xs X (x3 + (1 : Int32)).toNatClampNeg) (nm_xs X (x3 + (2 : Int32)).toNatClampNeg) (nm_xs X (x3 + (3 : Int32)).toNatClampNeg) σ) (Nat.le_trans (Nat.le_of_ble_eq_true rfl) hF0) rfl rfl (Nat.le_of_ble_eq_true rfl) dk_La_law_1470 (fun q262 => ?_)
        refine rn_aload_n (pc := 1473) 2 dk_La_law_1473 rfl rfl rfl ?_
        refine rn_aload_n (pc := 1474) 0 dk_La_law_1474 rfl rfl rfl ?_
        refine rn_iload_n (pc := 1475) 3 dk_La_law_1475 rfl rfl ?_
        refine rn_iconst (pc := 1476) (1 : Int32) dk_La_law_1476 cn_i_1 ?_
        refine rn_iadd (pc := 1477) dk_La_law_1477 ?_
        refine rn_sld (pc := 1478) dk_La_law_1478 (fun g263 => ?_)
        refine rn_aload_n (pc := 1479) 0 dk_La_law_1479 rfl rfl rfl ?_
        refine rn_iload_n (pc := 1480) 3 dk_La_law_1480 rfl rfl ?_
        refine rn_iconst (pc := 1481) (2 : Int32) dk_La_law_1481 cn_i_2 ?_
        refine rn_iadd (pc := 1482) dk_La_law_1482 ?_
        refine rn_sld (pc := 1483) dk_La_law_1483 (fun g264 => ?_)
        refine rn_aload_n (pc := 1484) 0 dk_La_law_1484 rfl rfl rfl ?_
        refine rn_iload_n (pc := 1485) 3 dk_La_law_1485 rfl rfl ?_
        refine rn_iconst (pc := 1486) (3 : Int32) dk_La_law_1486 cn_i_3 ?_
        refine rn_iadd (pc := 1487) dk_La_law_1487 ?_
        refine rn_sld (pc := 1488) dk_La_law_1488 (fun g265 => ?_)
        refine cl_La_182 (pc := 1489) (As := [.int (nm_xs X (x3 + (1 : Int32)).toNatClampNeg), .int (nm_xs X (x3 + (2 : Int32)).toNatClampNeg), .int (nm_xs X (x3 + (3 : Int32)).toNatClampNeg)]) (st := [.int q262.1]) rfl (ct_Md_act X (nm_xs X (x3 + (1 : Int32)).toNatClampNeg) (nm_xs X (x3 + (2 : Int32)).toNatClampNeg) (nm_xs X (x3 + (3 : Int32)).toNatClampNeg) q262.2) (Nat.le_trans (Nat.le_of_ble_eq_true rfl) hF0) rfl rfl (Nat.le_of_ble_eq_true rfl) dk_La_law_1489 (fun q266 => ?_)
        refine rn_icmp_eq (pc := 1492) 1569 dk_La_law_1492 (by decide) (fun c267 => ?_) (fun c267 => ?_)
        · refine rn_iinc (pc := 1569) (6 : Int32) dk_La_law_1569 cn_i_6 rfl rfl rfl ?_
          refine rn_goto (pc := 1572) 18 dk_La_law_1572 (by decide) ?_
          exact rn_sub (by rfl) (ih (x3 + (6 : Int32)) q266.2)
        · refine rn_iconst (pc := 1495) (0 : Int32) dk_La_law_1495 cn_i_0 ?_
          exact hQ _ _ _ _ dk_La_law_1496
      refine rn_tcase (pc := 33) 40 (40 : Int32) 1497 dk_La_law_33 (by decide) (by decide) rfl (by decide) (fun c3_40 => ?_) (fun c3_40 => ?_)
      · refine rn_aload_n (pc := 1497) 1 dk_La_law_1497 rfl rfl rfl ?_
        refine rn_aload_n (pc := 1498) 0 dk_La_law_1498 rfl rfl rfl ?_
        refine rn_iload_n (pc := 1499) 3 dk_La_law_1499 rfl rfl ?_
        refine rn_iconst (pc := 1500) (1 : Int32) dk_La_law_1500 cn_i_1 ?_
        refine rn_iadd (pc := 1501) dk_La_law_1501 ?_
        refine rn_sld (pc := 1502) dk_La_law_1502 (fun g268 => ?_)
        refine cl_La_183 (pc := 1503) (As := [.int (nm_xs X (x3 + (1 : Int32)).toNatClampNeg)]) (st := []) rfl (ct_Nm_trace X (nm_xs X (x3 + (1 : Int32)).toNatClampNeg) σ) (Nat.le_trans (Nat.le_of_ble_eq_true rfl) hF0) rfl rfl (Nat.le_of_ble_eq_true rfl) dk_La_law_1503 (fun q269 => ?_)
        refine rn_aload_n (pc := 1506) 2 dk_La_law_1506 rfl rfl rfl ?_
        refine rn_aload_n (pc := 1507) 0 dk_La_law_1507 rfl rfl rfl ?_
        refine rn_iload_n (pc := 1508) 3 dk_La_law_1508 rfl rfl ?_
        refine rn_iconst (pc := 1509) (1 : Int32) dk_La_law_1509 cn_i_1 ?_
        refine rn_iadd (pc := 1510) dk_La_law_1510 ?_
        refine rn_sld (pc := 1511) dk_La_law_1511 (fun g270 => ?_)
        refine cl_La_186 (pc := 1512) (As := [.int (nm_xs X (x3 + (1 : Int32)).toNatClampNeg)]) (st := [.int q269.1]) rfl (ct_Md_trace X (nm_xs X (x3 + (1 : Int32)).toNatClampNeg) q269.2) (Nat.le_trans (Nat.le_of_ble_eq_true rfl) hF0) rfl rfl (Nat.le_of_ble_eq_true rfl) dk_La_law_1512 (fun q271 => ?_)
        refine rn_icmp_eq (pc := 1515) 1569 dk_La_law_1515 (by decide) (fun c272 => ?_) (fun c272 => ?_)
        · refine rn_iinc (pc := 1569) (6 : Int32) dk_La_law_1569 cn_i_6 rfl rfl rfl ?_
          refine rn_goto (pc := 1572) 18 dk_La_law_1572 (by decide) ?_
          exact rn_sub (by rfl) (ih (x3 + (6 : Int32)) q271.2)
        · refine rn_iconst (pc := 1518) (0 : Int32) dk_La_law_1518 cn_i_0 ?_
          exact hQ _ _ _ _ dk_La_law_1519
      refine rn_tcase (pc := 33) 41 (41 : Int32) 1520 dk_La_law_33 (by decide) (by decide) rfl (by decide) (fun c3_41 => ?_) (fun c3_41 => ?_)
      · refine rn_aload_n (pc := 1520) 1 dk_La_law_1520 rfl rfl rfl ?_
        refine cl_La_187 (pc := 1521) (As := []) (st := []) rfl (ct_Nm_image X σ) (Nat.le_trans (Nat.le_of_ble_eq_true rfl) hF0) rfl rfl (Nat.le_of_ble_eq_true rfl) dk_La_law_1521 (fun q273 => ?_)
        refine rn_aload_n (pc := 1524) 2 dk_La_law_1524 rfl rfl rfl ?_
        refine cl_La_190 (pc := 1525) (As := []) (st := [.int q273.1]) rfl (ct_Md_image X q273.2) (Nat.le_trans (Nat.le_of_ble_eq_true rfl) hF0) rfl rfl (Nat.le_of_ble_eq_true rfl) dk_La_law_1525 (fun q274 => ?_)
        refine rn_icmp_eq (pc := 1528) 1569 dk_La_law_1528 (by decide) (fun c275 => ?_) (fun c275 => ?_)
        · refine rn_iinc (pc := 1569) (6 : Int32) dk_La_law_1569 cn_i_6 rfl rfl rfl ?_
          refine rn_goto (pc := 1572) 18 dk_La_law_1572 (by decide) ?_
          exact rn_sub (by rfl) (ih (x3 + (6 : Int32)) q274.2)
        · refine rn_iconst (pc := 1531) (0 : Int32) dk_La_law_1531 cn_i_0 ?_
          exact hQ _ _ _ _ dk_La_law_1532
      refine rn_tcase (pc := 33) 42 (42 : Int32) 1533 dk_La_law_33 (by decide) (by decide) rfl (by decide) (fun c3_42 => ?_) (fun c3_42 => ?_)
      · refine rn_aload_n (pc := 1533) 1 dk_La_law_1533 rfl rfl rfl ?_
        refine cl_La_191 (pc := 1534) (As := []) (st := []) rfl (ct_Nm_restore X σ) (Nat.le_trans (Nat.le_of_ble_eq_true rfl) hF0) rfl rfl (Nat.le_of_ble_eq_true rfl) dk_La_law_1534 (fun q276 => ?_)
        refine rn_aload_n (pc := 1537) 2 dk_La_law_1537 rfl rfl rfl ?_
        refine cl_La_194 (pc := 1538) (As := []) (st := [.int q276.1]) rfl (ct_Md_restore X q276.2) (Nat.le_trans (Nat.le_of_ble_eq_true rfl) hF0) rfl rfl (Nat.le_of_ble_eq_true rfl) dk_La_law_1538 (fun q277 => ?_)
        refine rn_icmp_eq (pc := 1541) 1569 dk_La_law_1541 (by decide) (fun c278 => ?_) (fun c278 => ?_)
        · refine rn_iinc (pc := 1569) (6 : Int32) dk_La_law_1569 cn_i_6 rfl rfl rfl ?_
          refine rn_goto (pc := 1572) 18 dk_La_law_1572 (by decide) ?_
          exact rn_sub (by rfl) (ih (x3 + (6 : Int32)) q277.2)
        · refine rn_iconst (pc := 1544) (0 : Int32) dk_La_law_1544 cn_i_0 ?_
          exact hQ _ _ _ _ dk_La_law_1545
      refine rn_tcase (pc := 33) 43 (43 : Int32) 1546 dk_La_law_33 (by decide) (by decide) rfl (by decide) (fun c3_43 => ?_) (fun c3_43 => ?_)
      · refine rn_aload_n (pc := 1546) 1 dk_La_law_1546 rfl rfl rfl ?_
        refine rn_aload_n (pc := 1547) 0 dk_La_law_1547 rfl rfl rfl ?_
        refine rn_iload_n (pc := 1548) 3 dk_La_law_1548 rfl rfl ?_
        refine rn_iconst (pc := 1549) (1 : Int32) dk_La_law_1549 cn_i_1 ?_
        refine rn_iadd (pc := 1550) dk_La_law_1550 ?_
        refine rn_sld (pc := 1551) dk_La_law_1551 (fun g279 => ?_)
        refine cl_La_195 (pc := 1552) (As := [.int (nm_xs X (x3 + (1 : Int32)).toNatClampNeg)]) (st := []) rfl (ct_Nm_status X (nm_xs X (x3 + (1 : Int32)).toNatClampNeg) σ) (Nat.le_trans (Nat.le_of_ble_eq_true rfl) hF0) rfl rfl (Nat.le_of_ble_eq_true rfl) dk_La_law_1552 (fun q280 => ?_)
        refine rn_aload_n (pc := 1555) 2 dk_La_law_1555 rfl rfl rfl ?_
        refine rn_aload_n (pc := 1556) 0 dk_La_law_1556 rfl rfl rfl ?_
        refine rn_iload_n (pc := 1557) 3 dk_La_law_1557 rfl rfl ?_
        refine rn_iconst (pc := 1558) (1 : Int32) dk_La_law_1558 cn_i_1 ?_
        refine rn_iadd (pc := 1559) dk_La_law_1559 ?_
        refine rn_sld (pc := 1560) dk_La_law_1560 (fun g281 => ?_)
        refine cl_La_198 (pc := 1561) (As := [.int (nm_xs X (x3 + (1 : Int32)).toNatClampNeg)]) (st := [.int q280.1]) rfl (ct_Md_status X (nm_xs X (x3 + (1 : Int32)).toNatClampNeg) q280.2) (Nat.le_trans (Nat.le_of_ble_eq_true rfl) hF0) rfl rfl (Nat.le_of_ble_eq_true rfl) dk_La_law_1561 (fun q282 => ?_)
        refine rn_icmp_eq (pc := 1564) 1569 dk_La_law_1564 (by decide) (fun c283 => ?_) (fun c283 => ?_)
        · refine rn_iinc (pc := 1569) (6 : Int32) dk_La_law_1569 cn_i_6 rfl rfl rfl ?_
          refine rn_goto (pc := 1572) 18 dk_La_law_1572 (by decide) ?_
          exact rn_sub (by rfl) (ih (x3 + (6 : Int32)) q282.2)
        · refine rn_iconst (pc := 1567) (0 : Int32) dk_La_law_1567 cn_i_0 ?_
          exact hQ _ _ _ _ dk_La_law_1568
      refine rn_tdef (pc := 33) [(0 : Int32), (1 : Int32), (2 : Int32), (3 : Int32), (4 : Int32), (5 : Int32), (6 : Int32), (7 : Int32), (8 : Int32), (9 : Int32), (10 : Int32), (11 : Int32), (12 : Int32), (13 : Int32), (14 : Int32), (15 : Int32), (16 : Int32), (17 : Int32), (18 : Int32), (19 : Int32), (20 : Int32), (21 : Int32), (22 : Int32), (23 : Int32), (24 : Int32), (25 : Int32), (26 : Int32), (27 : Int32), (28 : Int32), (29 : Int32), (30 : Int32), (31 : Int32), (32 : Int32), (33 : Int32), (34 : Int32), (35 : Int32), (36 : Int32), (37 : Int32), (38 : Int32), (39 : Int32), (40 : Int32), (41 : Int32), (42 : Int32), (43 : Int32)] 1569 dk_La_law_33 (by decide) (by decide) (List.forall_mem_cons.mpr ⟨c3_0, (List.forall_mem_cons.mpr ⟨c3_1, (List.forall_mem_cons.mpr ⟨c3_2, (List.forall_mem_cons.mpr ⟨c3_3, (List.forall_mem_cons.mpr ⟨c3_4, (List.forall_mem_cons.mpr ⟨c3_5, (List.forall_mem_cons.mpr ⟨c3_6, (List.forall_mem_cons.mpr ⟨c3_7, (List.forall_mem_cons.mpr ⟨c3_8, (List.forall_mem_cons.mpr ⟨c3_9, (List.forall_mem_cons.mpr ⟨c3_10, (List.forall_mem_cons.mpr ⟨c3_11, (List.forall_mem_cons.mpr ⟨c3_12, (List.forall_mem_cons.mpr ⟨c3_13, (List.forall_mem_cons.mpr ⟨c3_14, (List.forall_mem_cons.mpr ⟨c3_15, (List.forall_mem_cons.mpr ⟨c3_16, (List.forall_mem_cons.mpr ⟨c3_17, (List.forall_mem_cons.mpr ⟨c3_18, (List.forall_mem_cons.mpr ⟨c3_19, (List.forall_mem_cons.mpr ⟨c3_20, (List.forall_mem_cons.mpr ⟨c3_21, (List.forall_mem_cons.mpr ⟨c3_22, (List.forall_mem_cons.mpr ⟨c3_23, (List.forall_mem_cons.mpr ⟨c3_24, (List.forall_mem_cons.mpr ⟨c3_25, (List.forall_mem_cons.mpr ⟨c3_26, (List.forall_mem_cons.mpr ⟨c3_27, (List.forall_mem_cons.mpr ⟨c3_28, (List.forall_mem_cons.mpr ⟨c3_29, (List.forall_mem_cons.mpr ⟨c3_30, (List.forall_mem_cons.mpr ⟨c3_31, (List.forall_mem_cons.mpr ⟨c3_32, (List.forall_mem_cons.mpr ⟨c3_33, (List.forall_mem_cons.mpr ⟨c3_34, (List.forall_mem_cons.mpr ⟨c3_35, (List.forall_mem_cons.mpr ⟨c3_36, (List.forall_mem_cons.mpr ⟨c3_37, (List.forall_mem_cons.mpr ⟨c3_38, (List.forall_mem_cons.mpr ⟨c3_39, (List.forall_mem_cons.mpr ⟨c3_40, (List.forall_mem_cons.mpr ⟨c3_41, (List.forall_mem_cons.mpr ⟨c3_42, (List.forall_mem_cons.mpr ⟨c3_43, (fun _ h => absurd h List.not_mem_nil)⟩)⟩)⟩)⟩)⟩)⟩)⟩)⟩)⟩)⟩)⟩)⟩)⟩)⟩)⟩)⟩)⟩)⟩)⟩)⟩)⟩)⟩)⟩)⟩)⟩)⟩)⟩)⟩)⟩)⟩)⟩)⟩)⟩)⟩)⟩)⟩)⟩)⟩)⟩)⟩)⟩)⟩)⟩)⟩) (by decide) ?_
      refine rn_iinc (pc := 1569) (6 : Int32) dk_La_law_1569 cn_i_6 rfl rfl rfl ?_
      refine rn_goto (pc := 1572) 18 dk_La_law_1572 (by decide) ?_
      exact rn_sub (by rfl) (ih (x3 + (6 : Int32)) σ)
def La_law (X : nm_X) (σ : nm_St) : Option (Int32 × nm_St) :=
  La_law_l18 X (fun (s284 : nm_St) =>
    some ((1 : Int32), s284)) 1000 (0 : Int32) σ
set_option maxRecDepth 100000 in
set_option maxHeartbeats 4000000 in
theorem r_La_law (X : nm_X) (F : nm_F) (Qf : Int32 → nm_St → State → Prop) (hQ : ∀ L pc σ (x : Int32), decode mi_La_law.2.1 pc = .ok (.ireturn, 1) → Rn X mi_La_law F Qf L [.int x] pc σ (some (x, σ))) (hF0 : 85 ≤ nm_d F) (σ : nm_St) : Rn X mi_La_law F Qf [(0, .ref 4000), (1, .ref 0), (2, .ref 70)] [] 16 σ (La_law X σ) := by
  unfold La_law
  refine rn_iconst (pc := 16) (0 : Int32) dk_La_law_16 cn_i_0 ?_
  refine rn_istore_n (pc := 17) 3 dk_La_law_17 rfl rfl rfl ?_
  refine rn_sub (by rfl) (r_La_law_l18 X F Qf hQ hF0 _ (fun s284 => ?_) 1000 (0 : Int32) σ)
  refine rn_iconst (pc := 1575) (1 : Int32) dk_La_law_1575 cn_i_1 ?_
  exact hQ _ _ _ _ dk_La_law_1576
