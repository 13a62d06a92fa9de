/-! checked by the kernel, part 8 -/
set_option maxRecDepth 10000000 in
theorem ck_480 : ty_kok ty_h (ty_ex 9 6) 172 kc_480 = true := by decide +kernel
set_option maxRecDepth 10000000 in
theorem ck_481 : ty_kok ty_h (ty_ex 9 6) 172 kc_481 = true := by decide +kernel
set_option maxRecDepth 10000000 in
theorem ck_482 : ty_kok ty_h (ty_ex 9 6) 182 kc_482 = true := by decide +kernel
set_option maxRecDepth 10000000 in
theorem ck_483 : ty_kok ty_h (ty_ex 9 6) 182 kc_483 = true := by decide +kernel
set_option maxRecDepth 10000000 in
theorem ck_484 : ty_kok ty_h (ty_ex 10 6) 101 kc_484 = true := by decide +kernel
set_option maxRecDepth 10000000 in
theorem ck_485 : ty_kok ty_h (ty_ex 10 6) 101 kc_485 = true := by decide +kernel
set_option maxRecDepth 10000000 in
theorem ck_486 : ty_kok ty_h (ty_ex 10 6) 177 kc_486 = true := by decide +kernel
set_option maxRecDepth 10000000 in
theorem ck_487 : ty_kok ty_h (ty_ex 10 6) 177 kc_487 = true := by decide +kernel
set_option maxRecDepth 10000000 in
theorem ck_488 : ty_kok ty_h (ty_ex 11 6) 185 kc_488 = true := by decide +kernel
set_option maxRecDepth 10000000 in
theorem ck_489 : ty_kok ty_h (ty_ex 11 6) 185 kc_489 = true := by decide +kernel
set_option maxRecDepth 10000000 in
theorem ck_490 : ty_kok ty_h (ty_ex 11 6) 208 kc_490 = true := by decide +kernel
set_option maxRecDepth 10000000 in
theorem ck_491 : ty_kok ty_h (ty_ex 11 6) 208 kc_491 = true := by decide +kernel
set_option maxRecDepth 10000000 in
theorem ck_492 : ty_kok ty_h (ty_ex 12 6) 167 kc_492 = true := by decide +kernel
set_option maxRecDepth 10000000 in
theorem ck_493 : ty_kok ty_h (ty_ex 12 6) 167 kc_493 = true := by decide +kernel
set_option maxRecDepth 10000000 in
theorem ck_494 : ty_kok ty_h (ty_ex 12 6) 167 kc_494 = true := by decide +kernel
set_option maxRecDepth 10000000 in
theorem ck_495 : ty_kok ty_h (ty_ex 12 6) 167 kc_495 = true := by decide +kernel
set_option maxRecDepth 10000000 in
theorem ck_496 : ty_kok ty_h (ty_ex 12 6) 167 kc_496 = true := by decide +kernel
set_option maxRecDepth 10000000 in
theorem ck_497 : ty_kok ty_h (ty_ex 12 6) 167 kc_497 = true := by decide +kernel
set_option maxRecDepth 10000000 in
theorem ck_498 : ty_kok ty_h (ty_ex 12 6) 167 kc_498 = true := by decide +kernel
set_option maxRecDepth 10000000 in
theorem ck_499 : ty_kok ty_h (ty_ex 12 6) 167 kc_499 = true := by decide +kernel
set_option maxRecDepth 10000000 in
theorem ck_500 : ty_kok ty_h (ty_ex 12 6) 167 kc_500 = true := by decide +kernel
set_option maxRecDepth 10000000 in
theorem ck_501 : ty_kok ty_h (ty_ex 12 6) 167 kc_501 = true := by decide +kernel
set_option maxRecDepth 10000000 in
theorem ck_502 : ty_kok ty_h (ty_ex 12 6) 167 kc_502 = true := by decide +kernel
set_option maxRecDepth 10000000 in
theorem ck_503 : ty_kok ty_h (ty_ex 12 6) 167 kc_503 = true := by decide +kernel
set_option maxRecDepth 10000000 in
theorem ck_504 : ty_kok ty_h (ty_ex 12 6) 167 kc_504 = true := by decide +kernel
set_option maxRecDepth 10000000 in
theorem ck_505 : ty_kok ty_h (ty_ex 12 6) 167 kc_505 = true := by decide +kernel
set_option maxRecDepth 10000000 in
theorem ck_506 : ty_kok ty_h (ty_ex 12 6) 167 kc_506 = true := by decide +kernel
set_option maxRecDepth 10000000 in
theorem ck_507 : ty_kok ty_h (ty_ex 12 6) 167 kc_507 = true := by decide +kernel
set_option maxRecDepth 10000000 in
theorem ck_508 : ty_kok ty_h (ty_ex 12 6) 167 kc_508 = true := by decide +kernel
set_option maxRecDepth 10000000 in
theorem ck_509 : ty_kok ty_h (ty_ex 12 6) 167 kc_509 = true := by decide +kernel
set_option maxRecDepth 10000000 in
theorem ck_510 : ty_kok ty_h (ty_ex 12 6) 167 kc_510 = true := by decide +kernel
set_option maxRecDepth 10000000 in
theorem ck_511 : ty_kok ty_h (ty_ex 12 6) 167 kc_511 = true := by decide +kernel
set_option maxRecDepth 10000000 in
theorem ck_512 : ty_kok ty_h (ty_ex 12 6) 167 kc_512 = true := by decide +kernel
set_option maxRecDepth 10000000 in
theorem ck_513 : ty_kok ty_h (ty_ex 12 6) 167 kc_513 = true := by decide +kernel
set_option maxRecDepth 10000000 in
theorem ck_514 : ty_kok ty_h (ty_ex 12 6) 167 kc_514 = true := by decide +kernel
set_option maxRecDepth 10000000 in
theorem ck_515 : ty_kok ty_h (ty_ex 12 6) 167 kc_515 = true := by decide +kernel
set_option maxRecDepth 10000000 in
theorem ck_516 : ty_kok ty_h (ty_ex 12 6) 167 kc_516 = true := by decide +kernel
set_option maxRecDepth 10000000 in
theorem ck_517 : ty_kok ty_h (ty_ex 12 6) 167 kc_517 = true := by decide +kernel
set_option maxRecDepth 10000000 in
theorem ck_518 : ty_kok ty_h (ty_ex 12 6) 167 kc_518 = true := by decide +kernel
set_option maxRecDepth 10000000 in
theorem ck_519 : ty_kok ty_h (ty_ex 12 6) 167 kc_519 = true := by decide +kernel
set_option maxRecDepth 10000000 in
theorem ck_520 : ty_kok ty_h (ty_ex 12 6) 167 kc_520 = true := by decide +kernel
set_option maxRecDepth 10000000 in
theorem ck_521 : ty_kok ty_h (ty_ex 12 6) 167 kc_521 = true := by decide +kernel
set_option maxRecDepth 10000000 in
theorem ck_522 : ty_kok ty_h (ty_ex 12 6) 167 kc_522 = true := by decide +kernel
set_option maxRecDepth 10000000 in
theorem ck_523 : ty_kok ty_h (ty_ex 12 6) 167 kc_523 = true := by decide +kernel
set_option maxRecDepth 10000000 in
theorem ck_524 : ty_kok ty_h (ty_ex 12 6) 181 kc_524 = true := by decide +kernel
set_option maxRecDepth 10000000 in
theorem ck_525 : ty_kok ty_h (ty_ex 12 6) 181 kc_525 = true := by decide +kernel
set_option maxRecDepth 10000000 in
theorem ck_526 : ty_kok ty_h (ty_ex 12 6) 181 kc_526 = true := by decide +kernel
set_option maxRecDepth 10000000 in
theorem ck_527 : ty_kok ty_h (ty_ex 12 6) 181 kc_527 = true := by decide +kernel
set_option maxRecDepth 10000000 in
theorem ck_528 : ty_kok ty_h (ty_ex 12 6) 181 kc_528 = true := by decide +kernel
set_option maxRecDepth 10000000 in
theorem ck_529 : ty_kok ty_h (ty_ex 12 6) 181 kc_529 = true := by decide +kernel
set_option maxRecDepth 10000000 in
theorem ck_530 : ty_kok ty_h (ty_ex 12 6) 181 kc_530 = true := by decide +kernel
set_option maxRecDepth 10000000 in
theorem ck_531 : ty_kok ty_h (ty_ex 12 6) 181 kc_531 = true := by decide +kernel
set_option maxRecDepth 10000000 in
theorem ck_532 : ty_kok ty_h (ty_ex 12 6) 181 kc_532 = true := by decide +kernel
set_option maxRecDepth 10000000 in
theorem ck_533 : ty_kok ty_h (ty_ex 12 6) 181 kc_533 = true := by decide +kernel
set_option maxRecDepth 10000000 in
theorem ck_534 : ty_kok ty_h (ty_ex 12 6) 181 kc_534 = true := by decide +kernel
set_option maxRecDepth 10000000 in
theorem ck_535 : ty_kok ty_h (ty_ex 12 6) 181 kc_535 = true := by decide +kernel
set_option maxRecDepth 10000000 in
theorem ck_536 : ty_kok ty_h (ty_ex 12 6) 181 kc_536 = true := by decide +kernel
set_option maxRecDepth 10000000 in
theorem ck_537 : ty_kok ty_h (ty_ex 12 6) 181 kc_537 = true := by decide +kernel
set_option maxRecDepth 10000000 in
theorem ck_538 : ty_kok ty_h (ty_ex 12 6) 181 kc_538 = true := by decide +kernel
set_option maxRecDepth 10000000 in
theorem ck_539 : ty_kok ty_h (ty_ex 12 6) 181 kc_539 = true := by decide +kernel
