/-! checked by the kernel, part 9 -/
set_option maxRecDepth 10000000 in
theorem ck_540 : ty_kok ty_h (ty_ex 12 6) 181 kc_540 = true := by decide +kernel
set_option maxRecDepth 10000000 in
theorem ck_541 : ty_kok ty_h (ty_ex 12 6) 181 kc_541 = true := by decide +kernel
set_option maxRecDepth 10000000 in
theorem ck_542 : ty_kok ty_h (ty_ex 12 6) 181 kc_542 = true := by decide +kernel
set_option maxRecDepth 10000000 in
theorem ck_543 : ty_kok ty_h (ty_ex 12 6) 181 kc_543 = true := by decide +kernel
set_option maxRecDepth 10000000 in
theorem ck_544 : ty_kok ty_h (ty_ex 12 6) 181 kc_544 = true := by decide +kernel
set_option maxRecDepth 10000000 in
theorem ck_545 : ty_kok ty_h (ty_ex 12 6) 181 kc_545 = true := by decide +kernel
set_option maxRecDepth 10000000 in
theorem ck_546 : ty_kok ty_h (ty_ex 12 6) 181 kc_546 = true := by decide +kernel
set_option maxRecDepth 10000000 in
theorem ck_547 : ty_kok ty_h (ty_ex 12 6) 181 kc_547 = true := by decide +kernel
set_option maxRecDepth 10000000 in
theorem ck_548 : ty_kok ty_h (ty_ex 12 6) 181 kc_548 = true := by decide +kernel
set_option maxRecDepth 10000000 in
theorem ck_549 : ty_kok ty_h (ty_ex 12 6) 181 kc_549 = true := by decide +kernel
set_option maxRecDepth 10000000 in
theorem ck_550 : ty_kok ty_h (ty_ex 12 6) 181 kc_550 = true := by decide +kernel
set_option maxRecDepth 10000000 in
theorem ck_551 : ty_kok ty_h (ty_ex 12 6) 181 kc_551 = true := by decide +kernel
set_option maxRecDepth 10000000 in
theorem ck_552 : ty_kok ty_h (ty_ex 12 6) 181 kc_552 = true := by decide +kernel
set_option maxRecDepth 10000000 in
theorem ck_553 : ty_kok ty_h (ty_ex 12 6) 181 kc_553 = true := by decide +kernel
set_option maxRecDepth 10000000 in
theorem ck_554 : ty_kok ty_h (ty_ex 12 6) 181 kc_554 = true := by decide +kernel
set_option maxRecDepth 10000000 in
theorem ck_555 : ty_kok ty_h (ty_ex 12 6) 181 kc_555 = true := by decide +kernel
set_option maxRecDepth 10000000 in
theorem ck_556 : ty_kok ty_h (ty_ex 12 6) 181 kc_556 = true := by decide +kernel
set_option maxRecDepth 10000000 in
theorem ck_557 : ty_kok ty_h (ty_ex 12 6) 181 kc_557 = true := by decide +kernel
set_option maxRecDepth 10000000 in
theorem ck_558 : ty_kok ty_h (ty_ex 13 6) 184 kc_558 = true := by decide +kernel
set_option maxRecDepth 10000000 in
theorem ck_559 : ty_kok ty_h (ty_ex 13 6) 184 kc_559 = true := by decide +kernel
set_option maxRecDepth 10000000 in
theorem ck_560 : ty_kok ty_h (ty_ex 13 6) 184 kc_560 = true := by decide +kernel
set_option maxRecDepth 10000000 in
theorem ck_561 : ty_kok ty_h (ty_ex 13 6) 184 kc_561 = true := by decide +kernel
set_option maxRecDepth 10000000 in
theorem ck_562 : ty_kok ty_h (ty_ex 13 6) 184 kc_562 = true := by decide +kernel
set_option maxRecDepth 10000000 in
theorem ck_563 : ty_kok ty_h (ty_ex 13 6) 184 kc_563 = true := by decide +kernel
set_option maxRecDepth 10000000 in
theorem ck_564 : ty_kok ty_h (ty_ex 13 6) 184 kc_564 = true := by decide +kernel
set_option maxRecDepth 10000000 in
theorem ck_565 : ty_kok ty_h (ty_ex 13 6) 184 kc_565 = true := by decide +kernel
set_option maxRecDepth 10000000 in
theorem ck_566 : ty_kok ty_h (ty_ex 13 6) 184 kc_566 = true := by decide +kernel
set_option maxRecDepth 10000000 in
theorem ck_567 : ty_kok ty_h (ty_ex 13 6) 184 kc_567 = true := by decide +kernel
set_option maxRecDepth 10000000 in
theorem ck_568 : ty_kok ty_h (ty_ex 13 6) 184 kc_568 = true := by decide +kernel
set_option maxRecDepth 10000000 in
theorem ck_569 : ty_kok ty_h (ty_ex 13 6) 184 kc_569 = true := by decide +kernel
set_option maxRecDepth 10000000 in
theorem ck_570 : ty_kok ty_h (ty_ex 13 6) 184 kc_570 = true := by decide +kernel
set_option maxRecDepth 10000000 in
theorem ck_571 : ty_kok ty_h (ty_ex 13 6) 184 kc_571 = true := by decide +kernel
set_option maxRecDepth 10000000 in
theorem ck_572 : ty_kok ty_h (ty_ex 13 6) 184 kc_572 = true := by decide +kernel
set_option maxRecDepth 10000000 in
theorem ck_573 : ty_kok ty_h (ty_ex 13 6) 184 kc_573 = true := by decide +kernel
set_option maxRecDepth 10000000 in
theorem ck_574 : ty_kok ty_h (ty_ex 13 6) 184 kc_574 = true := by decide +kernel
set_option maxRecDepth 10000000 in
theorem ck_575 : ty_kok ty_h (ty_ex 13 6) 184 kc_575 = true := by decide +kernel
set_option maxRecDepth 10000000 in
theorem ck_576 : ty_kok ty_h (ty_ex 13 6) 184 kc_576 = true := by decide +kernel
set_option maxRecDepth 10000000 in
theorem ck_577 : ty_kok ty_h (ty_ex 13 6) 184 kc_577 = true := by decide +kernel
set_option maxRecDepth 10000000 in
theorem ck_578 : ty_kok ty_h (ty_ex 13 6) 184 kc_578 = true := by decide +kernel
set_option maxRecDepth 10000000 in
theorem ck_579 : ty_kok ty_h (ty_ex 13 6) 184 kc_579 = true := by decide +kernel
set_option maxRecDepth 10000000 in
theorem ck_580 : ty_kok ty_h (ty_ex 13 6) 184 kc_580 = true := by decide +kernel
set_option maxRecDepth 10000000 in
theorem ck_581 : ty_kok ty_h (ty_ex 13 6) 184 kc_581 = true := by decide +kernel
set_option maxRecDepth 10000000 in
theorem ck_582 : ty_kok ty_h (ty_ex 13 6) 184 kc_582 = true := by decide +kernel
set_option maxRecDepth 10000000 in
theorem ck_583 : ty_kok ty_h (ty_ex 13 6) 184 kc_583 = true := by decide +kernel
set_option maxRecDepth 10000000 in
theorem ck_584 : ty_kok ty_h (ty_ex 13 6) 184 kc_584 = true := by decide +kernel
set_option maxRecDepth 10000000 in
theorem ck_585 : ty_kok ty_h (ty_ex 13 6) 184 kc_585 = true := by decide +kernel
set_option maxRecDepth 10000000 in
theorem ck_586 : ty_kok ty_h (ty_ex 13 6) 184 kc_586 = true := by decide +kernel
set_option maxRecDepth 10000000 in
theorem ck_587 : ty_kok ty_h (ty_ex 13 6) 184 kc_587 = true := by decide +kernel
set_option maxRecDepth 10000000 in
theorem ck_588 : ty_kok ty_h (ty_ex 13 6) 184 kc_588 = true := by decide +kernel
set_option maxRecDepth 10000000 in
theorem ck_589 : ty_kok ty_h (ty_ex 13 6) 184 kc_589 = true := by decide +kernel
set_option maxRecDepth 10000000 in
theorem ck_590 : ty_kok ty_h (ty_ex 13 6) 184 kc_590 = true := by decide +kernel
set_option maxRecDepth 10000000 in
theorem ck_591 : ty_kok ty_h (ty_ex 13 6) 184 kc_591 = true := by decide +kernel
set_option maxRecDepth 10000000 in
theorem ck_592 : ty_kok ty_h (ty_ex 13 6) 206 kc_592 = true := by decide +kernel
set_option maxRecDepth 10000000 in
theorem ck_593 : ty_kok ty_h (ty_ex 13 6) 206 kc_593 = true := by decide +kernel
set_option maxRecDepth 10000000 in
theorem ck_594 : ty_kok ty_h (ty_ex 13 6) 206 kc_594 = true := by decide +kernel
set_option maxRecDepth 10000000 in
theorem ck_595 : ty_kok ty_h (ty_ex 13 6) 206 kc_595 = true := by decide +kernel
set_option maxRecDepth 10000000 in
theorem ck_596 : ty_kok ty_h (ty_ex 13 6) 206 kc_596 = true := by decide +kernel
set_option maxRecDepth 10000000 in
theorem ck_597 : ty_kok ty_h (ty_ex 13 6) 206 kc_597 = true := by decide +kernel
set_option maxRecDepth 10000000 in
theorem ck_598 : ty_kok ty_h (ty_ex 13 6) 206 kc_598 = true := by decide +kernel
set_option maxRecDepth 10000000 in
theorem ck_599 : ty_kok ty_h (ty_ex 13 6) 206 kc_599 = true := by decide +kernel
