/-! checked by the kernel, part 7 -/
set_option maxRecDepth 10000000 in
theorem ck_420 : ty_kok ty_h (ty_ex 8 6) 183 kc_420 = true := by decide +kernel
set_option maxRecDepth 10000000 in
theorem ck_421 : ty_kok ty_h (ty_ex 8 6) 183 kc_421 = true := by decide +kernel
set_option maxRecDepth 10000000 in
theorem ck_422 : ty_kok ty_h (ty_ex 8 6) 183 kc_422 = true := by decide +kernel
set_option maxRecDepth 10000000 in
theorem ck_423 : ty_kok ty_h (ty_ex 8 6) 183 kc_423 = true := by decide +kernel
set_option maxRecDepth 10000000 in
theorem ck_424 : ty_kok ty_h (ty_ex 8 6) 183 kc_424 = true := by decide +kernel
set_option maxRecDepth 10000000 in
theorem ck_425 : ty_kok ty_h (ty_ex 8 6) 183 kc_425 = true := by decide +kernel
set_option maxRecDepth 10000000 in
theorem ck_426 : ty_kok ty_h (ty_ex 8 6) 183 kc_426 = true := by decide +kernel
set_option maxRecDepth 10000000 in
theorem ck_427 : ty_kok ty_h (ty_ex 8 6) 183 kc_427 = true := by decide +kernel
set_option maxRecDepth 10000000 in
theorem ck_428 : ty_kok ty_h (ty_ex 8 6) 183 kc_428 = true := by decide +kernel
set_option maxRecDepth 10000000 in
theorem ck_429 : ty_kok ty_h (ty_ex 8 6) 183 kc_429 = true := by decide +kernel
set_option maxRecDepth 10000000 in
theorem ck_430 : ty_kok ty_h (ty_ex 8 6) 183 kc_430 = true := by decide +kernel
set_option maxRecDepth 10000000 in
theorem ck_431 : ty_kok ty_h (ty_ex 8 6) 183 kc_431 = true := by decide +kernel
set_option maxRecDepth 10000000 in
theorem ck_432 : ty_kok ty_h (ty_ex 8 6) 183 kc_432 = true := by decide +kernel
set_option maxRecDepth 10000000 in
theorem ck_433 : ty_kok ty_h (ty_ex 8 6) 183 kc_433 = true := by decide +kernel
set_option maxRecDepth 10000000 in
theorem ck_434 : ty_kok ty_h (ty_ex 8 6) 183 kc_434 = true := by decide +kernel
set_option maxRecDepth 10000000 in
theorem ck_435 : ty_kok ty_h (ty_ex 8 6) 183 kc_435 = true := by decide +kernel
set_option maxRecDepth 10000000 in
theorem ck_436 : ty_kok ty_h (ty_ex 8 6) 183 kc_436 = true := by decide +kernel
set_option maxRecDepth 10000000 in
theorem ck_437 : ty_kok ty_h (ty_ex 8 6) 183 kc_437 = true := by decide +kernel
set_option maxRecDepth 10000000 in
theorem ck_438 : ty_kok ty_h (ty_ex 8 6) 183 kc_438 = true := by decide +kernel
set_option maxRecDepth 10000000 in
theorem ck_439 : ty_kok ty_h (ty_ex 8 6) 183 kc_439 = true := by decide +kernel
set_option maxRecDepth 10000000 in
theorem ck_440 : ty_kok ty_h (ty_ex 8 6) 183 kc_440 = true := by decide +kernel
set_option maxRecDepth 10000000 in
theorem ck_441 : ty_kok ty_h (ty_ex 8 6) 183 kc_441 = true := by decide +kernel
set_option maxRecDepth 10000000 in
theorem ck_442 : ty_kok ty_h (ty_ex 8 6) 183 kc_442 = true := by decide +kernel
set_option maxRecDepth 10000000 in
theorem ck_443 : ty_kok ty_h (ty_ex 8 6) 183 kc_443 = true := by decide +kernel
set_option maxRecDepth 10000000 in
theorem ck_444 : ty_kok ty_h (ty_ex 8 6) 202 kc_444 = true := by decide +kernel
set_option maxRecDepth 10000000 in
theorem ck_445 : ty_kok ty_h (ty_ex 8 6) 202 kc_445 = true := by decide +kernel
set_option maxRecDepth 10000000 in
theorem ck_446 : ty_kok ty_h (ty_ex 8 6) 202 kc_446 = true := by decide +kernel
set_option maxRecDepth 10000000 in
theorem ck_447 : ty_kok ty_h (ty_ex 8 6) 202 kc_447 = true := by decide +kernel
set_option maxRecDepth 10000000 in
theorem ck_448 : ty_kok ty_h (ty_ex 8 6) 202 kc_448 = true := by decide +kernel
set_option maxRecDepth 10000000 in
theorem ck_449 : ty_kok ty_h (ty_ex 8 6) 202 kc_449 = true := by decide +kernel
set_option maxRecDepth 10000000 in
theorem ck_450 : ty_kok ty_h (ty_ex 8 6) 202 kc_450 = true := by decide +kernel
set_option maxRecDepth 10000000 in
theorem ck_451 : ty_kok ty_h (ty_ex 8 6) 202 kc_451 = true := by decide +kernel
set_option maxRecDepth 10000000 in
theorem ck_452 : ty_kok ty_h (ty_ex 8 6) 202 kc_452 = true := by decide +kernel
set_option maxRecDepth 10000000 in
theorem ck_453 : ty_kok ty_h (ty_ex 8 6) 202 kc_453 = true := by decide +kernel
set_option maxRecDepth 10000000 in
theorem ck_454 : ty_kok ty_h (ty_ex 8 6) 202 kc_454 = true := by decide +kernel
set_option maxRecDepth 10000000 in
theorem ck_455 : ty_kok ty_h (ty_ex 8 6) 202 kc_455 = true := by decide +kernel
set_option maxRecDepth 10000000 in
theorem ck_456 : ty_kok ty_h (ty_ex 8 6) 202 kc_456 = true := by decide +kernel
set_option maxRecDepth 10000000 in
theorem ck_457 : ty_kok ty_h (ty_ex 8 6) 202 kc_457 = true := by decide +kernel
set_option maxRecDepth 10000000 in
theorem ck_458 : ty_kok ty_h (ty_ex 8 6) 202 kc_458 = true := by decide +kernel
set_option maxRecDepth 10000000 in
theorem ck_459 : ty_kok ty_h (ty_ex 8 6) 202 kc_459 = true := by decide +kernel
set_option maxRecDepth 10000000 in
theorem ck_460 : ty_kok ty_h (ty_ex 8 6) 202 kc_460 = true := by decide +kernel
set_option maxRecDepth 10000000 in
theorem ck_461 : ty_kok ty_h (ty_ex 8 6) 202 kc_461 = true := by decide +kernel
set_option maxRecDepth 10000000 in
theorem ck_462 : ty_kok ty_h (ty_ex 8 6) 202 kc_462 = true := by decide +kernel
set_option maxRecDepth 10000000 in
theorem ck_463 : ty_kok ty_h (ty_ex 8 6) 202 kc_463 = true := by decide +kernel
set_option maxRecDepth 10000000 in
theorem ck_464 : ty_kok ty_h (ty_ex 8 6) 202 kc_464 = true := by decide +kernel
set_option maxRecDepth 10000000 in
theorem ck_465 : ty_kok ty_h (ty_ex 8 6) 202 kc_465 = true := by decide +kernel
set_option maxRecDepth 10000000 in
theorem ck_466 : ty_kok ty_h (ty_ex 8 6) 202 kc_466 = true := by decide +kernel
set_option maxRecDepth 10000000 in
theorem ck_467 : ty_kok ty_h (ty_ex 8 6) 202 kc_467 = true := by decide +kernel
set_option maxRecDepth 10000000 in
theorem ck_468 : ty_kok ty_h (ty_ex 8 6) 202 kc_468 = true := by decide +kernel
set_option maxRecDepth 10000000 in
theorem ck_469 : ty_kok ty_h (ty_ex 8 6) 202 kc_469 = true := by decide +kernel
set_option maxRecDepth 10000000 in
theorem ck_470 : ty_kok ty_h (ty_ex 8 6) 202 kc_470 = true := by decide +kernel
set_option maxRecDepth 10000000 in
theorem ck_471 : ty_kok ty_h (ty_ex 8 6) 202 kc_471 = true := by decide +kernel
set_option maxRecDepth 10000000 in
theorem ck_472 : ty_kok ty_h (ty_ex 8 6) 202 kc_472 = true := by decide +kernel
set_option maxRecDepth 10000000 in
theorem ck_473 : ty_kok ty_h (ty_ex 8 6) 202 kc_473 = true := by decide +kernel
set_option maxRecDepth 10000000 in
theorem ck_474 : ty_kok ty_h (ty_ex 8 6) 202 kc_474 = true := by decide +kernel
set_option maxRecDepth 10000000 in
theorem ck_475 : ty_kok ty_h (ty_ex 8 6) 202 kc_475 = true := by decide +kernel
set_option maxRecDepth 10000000 in
theorem ck_476 : ty_kok ty_h (ty_ex 8 6) 202 kc_476 = true := by decide +kernel
set_option maxRecDepth 10000000 in
theorem ck_477 : ty_kok ty_h (ty_ex 8 6) 202 kc_477 = true := by decide +kernel
set_option maxRecDepth 10000000 in
theorem ck_478 : ty_kok ty_h (ty_ex 8 6) 202 kc_478 = true := by decide +kernel
set_option maxRecDepth 10000000 in
theorem ck_479 : ty_kok ty_h (ty_ex 8 6) 202 kc_479 = true := by decide +kernel
