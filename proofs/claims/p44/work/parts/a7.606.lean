/-! checked by the kernel, part 6 -/
set_option maxRecDepth 10000000 in
theorem ck_360 : ty_kok ty_h (ty_ex 7 6) 184 kc_360 = true := by decide +kernel
set_option maxRecDepth 10000000 in
theorem ck_361 : ty_kok ty_h (ty_ex 7 6) 184 kc_361 = true := by decide +kernel
set_option maxRecDepth 10000000 in
theorem ck_362 : ty_kok ty_h (ty_ex 7 6) 184 kc_362 = true := by decide +kernel
set_option maxRecDepth 10000000 in
theorem ck_363 : ty_kok ty_h (ty_ex 7 6) 184 kc_363 = true := by decide +kernel
set_option maxRecDepth 10000000 in
theorem ck_364 : ty_kok ty_h (ty_ex 7 6) 184 kc_364 = true := by decide +kernel
set_option maxRecDepth 10000000 in
theorem ck_365 : ty_kok ty_h (ty_ex 7 6) 184 kc_365 = true := by decide +kernel
set_option maxRecDepth 10000000 in
theorem ck_366 : ty_kok ty_h (ty_ex 7 6) 184 kc_366 = true := by decide +kernel
set_option maxRecDepth 10000000 in
theorem ck_367 : ty_kok ty_h (ty_ex 7 6) 184 kc_367 = true := by decide +kernel
set_option maxRecDepth 10000000 in
theorem ck_368 : ty_kok ty_h (ty_ex 7 6) 184 kc_368 = true := by decide +kernel
set_option maxRecDepth 10000000 in
theorem ck_369 : ty_kok ty_h (ty_ex 7 6) 184 kc_369 = true := by decide +kernel
set_option maxRecDepth 10000000 in
theorem ck_370 : ty_kok ty_h (ty_ex 7 6) 206 kc_370 = true := by decide +kernel
set_option maxRecDepth 10000000 in
theorem ck_371 : ty_kok ty_h (ty_ex 7 6) 206 kc_371 = true := by decide +kernel
set_option maxRecDepth 10000000 in
theorem ck_372 : ty_kok ty_h (ty_ex 7 6) 206 kc_372 = true := by decide +kernel
set_option maxRecDepth 10000000 in
theorem ck_373 : ty_kok ty_h (ty_ex 7 6) 206 kc_373 = true := by decide +kernel
set_option maxRecDepth 10000000 in
theorem ck_374 : ty_kok ty_h (ty_ex 7 6) 206 kc_374 = true := by decide +kernel
set_option maxRecDepth 10000000 in
theorem ck_375 : ty_kok ty_h (ty_ex 7 6) 206 kc_375 = true := by decide +kernel
set_option maxRecDepth 10000000 in
theorem ck_376 : ty_kok ty_h (ty_ex 7 6) 206 kc_376 = true := by decide +kernel
set_option maxRecDepth 10000000 in
theorem ck_377 : ty_kok ty_h (ty_ex 7 6) 206 kc_377 = true := by decide +kernel
set_option maxRecDepth 10000000 in
theorem ck_378 : ty_kok ty_h (ty_ex 7 6) 206 kc_378 = true := by decide +kernel
set_option maxRecDepth 10000000 in
theorem ck_379 : ty_kok ty_h (ty_ex 7 6) 206 kc_379 = true := by decide +kernel
set_option maxRecDepth 10000000 in
theorem ck_380 : ty_kok ty_h (ty_ex 7 6) 206 kc_380 = true := by decide +kernel
set_option maxRecDepth 10000000 in
theorem ck_381 : ty_kok ty_h (ty_ex 7 6) 206 kc_381 = true := by decide +kernel
set_option maxRecDepth 10000000 in
theorem ck_382 : ty_kok ty_h (ty_ex 7 6) 206 kc_382 = true := by decide +kernel
set_option maxRecDepth 10000000 in
theorem ck_383 : ty_kok ty_h (ty_ex 7 6) 206 kc_383 = true := by decide +kernel
set_option maxRecDepth 10000000 in
theorem ck_384 : ty_kok ty_h (ty_ex 7 6) 206 kc_384 = true := by decide +kernel
set_option maxRecDepth 10000000 in
theorem ck_385 : ty_kok ty_h (ty_ex 7 6) 206 kc_385 = true := by decide +kernel
set_option maxRecDepth 10000000 in
theorem ck_386 : ty_kok ty_h (ty_ex 7 6) 206 kc_386 = true := by decide +kernel
set_option maxRecDepth 10000000 in
theorem ck_387 : ty_kok ty_h (ty_ex 7 6) 206 kc_387 = true := by decide +kernel
set_option maxRecDepth 10000000 in
theorem ck_388 : ty_kok ty_h (ty_ex 7 6) 206 kc_388 = true := by decide +kernel
set_option maxRecDepth 10000000 in
theorem ck_389 : ty_kok ty_h (ty_ex 7 6) 206 kc_389 = true := by decide +kernel
set_option maxRecDepth 10000000 in
theorem ck_390 : ty_kok ty_h (ty_ex 7 6) 206 kc_390 = true := by decide +kernel
set_option maxRecDepth 10000000 in
theorem ck_391 : ty_kok ty_h (ty_ex 7 6) 206 kc_391 = true := by decide +kernel
set_option maxRecDepth 10000000 in
theorem ck_392 : ty_kok ty_h (ty_ex 7 6) 206 kc_392 = true := by decide +kernel
set_option maxRecDepth 10000000 in
theorem ck_393 : ty_kok ty_h (ty_ex 7 6) 206 kc_393 = true := by decide +kernel
set_option maxRecDepth 10000000 in
theorem ck_394 : ty_kok ty_h (ty_ex 7 6) 206 kc_394 = true := by decide +kernel
set_option maxRecDepth 10000000 in
theorem ck_395 : ty_kok ty_h (ty_ex 7 6) 206 kc_395 = true := by decide +kernel
set_option maxRecDepth 10000000 in
theorem ck_396 : ty_kok ty_h (ty_ex 7 6) 206 kc_396 = true := by decide +kernel
set_option maxRecDepth 10000000 in
theorem ck_397 : ty_kok ty_h (ty_ex 7 6) 206 kc_397 = true := by decide +kernel
set_option maxRecDepth 10000000 in
theorem ck_398 : ty_kok ty_h (ty_ex 7 6) 206 kc_398 = true := by decide +kernel
set_option maxRecDepth 10000000 in
theorem ck_399 : ty_kok ty_h (ty_ex 7 6) 206 kc_399 = true := by decide +kernel
set_option maxRecDepth 10000000 in
theorem ck_400 : ty_kok ty_h (ty_ex 7 6) 206 kc_400 = true := by decide +kernel
set_option maxRecDepth 10000000 in
theorem ck_401 : ty_kok ty_h (ty_ex 7 6) 206 kc_401 = true := by decide +kernel
set_option maxRecDepth 10000000 in
theorem ck_402 : ty_kok ty_h (ty_ex 7 6) 206 kc_402 = true := by decide +kernel
set_option maxRecDepth 10000000 in
theorem ck_403 : ty_kok ty_h (ty_ex 7 6) 206 kc_403 = true := by decide +kernel
set_option maxRecDepth 10000000 in
theorem ck_404 : ty_kok ty_h (ty_ex 7 6) 206 kc_404 = true := by decide +kernel
set_option maxRecDepth 10000000 in
theorem ck_405 : ty_kok ty_h (ty_ex 7 6) 206 kc_405 = true := by decide +kernel
set_option maxRecDepth 10000000 in
theorem ck_406 : ty_kok ty_h (ty_ex 8 6) 183 kc_406 = true := by decide +kernel
set_option maxRecDepth 10000000 in
theorem ck_407 : ty_kok ty_h (ty_ex 8 6) 183 kc_407 = true := by decide +kernel
set_option maxRecDepth 10000000 in
theorem ck_408 : ty_kok ty_h (ty_ex 8 6) 183 kc_408 = true := by decide +kernel
set_option maxRecDepth 10000000 in
theorem ck_409 : ty_kok ty_h (ty_ex 8 6) 183 kc_409 = true := by decide +kernel
set_option maxRecDepth 10000000 in
theorem ck_410 : ty_kok ty_h (ty_ex 8 6) 183 kc_410 = true := by decide +kernel
set_option maxRecDepth 10000000 in
theorem ck_411 : ty_kok ty_h (ty_ex 8 6) 183 kc_411 = true := by decide +kernel
set_option maxRecDepth 10000000 in
theorem ck_412 : ty_kok ty_h (ty_ex 8 6) 183 kc_412 = true := by decide +kernel
set_option maxRecDepth 10000000 in
theorem ck_413 : ty_kok ty_h (ty_ex 8 6) 183 kc_413 = true := by decide +kernel
set_option maxRecDepth 10000000 in
theorem ck_414 : ty_kok ty_h (ty_ex 8 6) 183 kc_414 = true := by decide +kernel
set_option maxRecDepth 10000000 in
theorem ck_415 : ty_kok ty_h (ty_ex 8 6) 183 kc_415 = true := by decide +kernel
set_option maxRecDepth 10000000 in
theorem ck_416 : ty_kok ty_h (ty_ex 8 6) 183 kc_416 = true := by decide +kernel
set_option maxRecDepth 10000000 in
theorem ck_417 : ty_kok ty_h (ty_ex 8 6) 183 kc_417 = true := by decide +kernel
set_option maxRecDepth 10000000 in
theorem ck_418 : ty_kok ty_h (ty_ex 8 6) 183 kc_418 = true := by decide +kernel
set_option maxRecDepth 10000000 in
theorem ck_419 : ty_kok ty_h (ty_ex 8 6) 183 kc_419 = true := by decide +kernel
