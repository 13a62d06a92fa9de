/-! checked by the kernel, part 10 -/
set_option maxRecDepth 10000000 in
theorem ck_600 : ty_kok ty_h (ty_ex 13 6) 206 kc_600 = true := by decide +kernel
set_option maxRecDepth 10000000 in
theorem ck_601 : ty_kok ty_h (ty_ex 13 6) 206 kc_601 = true := by decide +kernel
set_option maxRecDepth 10000000 in
theorem ck_602 : ty_kok ty_h (ty_ex 13 6) 206 kc_602 = true := by decide +kernel
set_option maxRecDepth 10000000 in
theorem ck_603 : ty_kok ty_h (ty_ex 13 6) 206 kc_603 = true := by decide +kernel
set_option maxRecDepth 10000000 in
theorem ck_604 : ty_kok ty_h (ty_ex 13 6) 206 kc_604 = true := by decide +kernel
set_option maxRecDepth 10000000 in
theorem ck_605 : ty_kok ty_h (ty_ex 13 6) 206 kc_605 = true := by decide +kernel
set_option maxRecDepth 10000000 in
theorem ck_606 : ty_kok ty_h (ty_ex 13 6) 206 kc_606 = true := by decide +kernel
set_option maxRecDepth 10000000 in
theorem ck_607 : ty_kok ty_h (ty_ex 13 6) 206 kc_607 = true := by decide +kernel
set_option maxRecDepth 10000000 in
theorem ck_608 : ty_kok ty_h (ty_ex 13 6) 206 kc_608 = true := by decide +kernel
set_option maxRecDepth 10000000 in
theorem ck_609 : ty_kok ty_h (ty_ex 13 6) 206 kc_609 = true := by decide +kernel
set_option maxRecDepth 10000000 in
theorem ck_610 : ty_kok ty_h (ty_ex 13 6) 206 kc_610 = true := by decide +kernel
set_option maxRecDepth 10000000 in
theorem ck_611 : ty_kok ty_h (ty_ex 13 6) 206 kc_611 = true := by decide +kernel
set_option maxRecDepth 10000000 in
theorem ck_612 : ty_kok ty_h (ty_ex 13 6) 206 kc_612 = true := by decide +kernel
set_option maxRecDepth 10000000 in
theorem ck_613 : ty_kok ty_h (ty_ex 13 6) 206 kc_613 = true := by decide +kernel
set_option maxRecDepth 10000000 in
theorem ck_614 : ty_kok ty_h (ty_ex 13 6) 206 kc_614 = true := by decide +kernel
set_option maxRecDepth 10000000 in
theorem ck_615 : ty_kok ty_h (ty_ex 13 6) 206 kc_615 = true := by decide +kernel
set_option maxRecDepth 10000000 in
theorem ck_616 : ty_kok ty_h (ty_ex 13 6) 206 kc_616 = true := by decide +kernel
set_option maxRecDepth 10000000 in
theorem ck_617 : ty_kok ty_h (ty_ex 13 6) 206 kc_617 = true := by decide +kernel
set_option maxRecDepth 10000000 in
theorem ck_618 : ty_kok ty_h (ty_ex 13 6) 206 kc_618 = true := by decide +kernel
set_option maxRecDepth 10000000 in
theorem ck_619 : ty_kok ty_h (ty_ex 13 6) 206 kc_619 = true := by decide +kernel
set_option maxRecDepth 10000000 in
theorem ck_620 : ty_kok ty_h (ty_ex 13 6) 206 kc_620 = true := by decide +kernel
set_option maxRecDepth 10000000 in
theorem ck_621 : ty_kok ty_h (ty_ex 13 6) 206 kc_621 = true := by decide +kernel
set_option maxRecDepth 10000000 in
theorem ck_622 : ty_kok ty_h (ty_ex 13 6) 206 kc_622 = true := by decide +kernel
set_option maxRecDepth 10000000 in
theorem ck_623 : ty_kok ty_h (ty_ex 13 6) 206 kc_623 = true := by decide +kernel
set_option maxRecDepth 10000000 in
theorem ck_624 : ty_kok ty_h (ty_ex 14 6) 183 kc_624 = true := by decide +kernel
set_option maxRecDepth 10000000 in
theorem ck_625 : ty_kok ty_h (ty_ex 14 6) 183 kc_625 = true := by decide +kernel
set_option maxRecDepth 10000000 in
theorem ck_626 : ty_kok ty_h (ty_ex 14 6) 183 kc_626 = true := by decide +kernel
set_option maxRecDepth 10000000 in
theorem ck_627 : ty_kok ty_h (ty_ex 14 6) 183 kc_627 = true := by decide +kernel
set_option maxRecDepth 10000000 in
theorem ck_628 : ty_kok ty_h (ty_ex 14 6) 183 kc_628 = true := by decide +kernel
set_option maxRecDepth 10000000 in
theorem ck_629 : ty_kok ty_h (ty_ex 14 6) 183 kc_629 = true := by decide +kernel
set_option maxRecDepth 10000000 in
theorem ck_630 : ty_kok ty_h (ty_ex 14 6) 183 kc_630 = true := by decide +kernel
set_option maxRecDepth 10000000 in
theorem ck_631 : ty_kok ty_h (ty_ex 14 6) 183 kc_631 = true := by decide +kernel
set_option maxRecDepth 10000000 in
theorem ck_632 : ty_kok ty_h (ty_ex 14 6) 183 kc_632 = true := by decide +kernel
set_option maxRecDepth 10000000 in
theorem ck_633 : ty_kok ty_h (ty_ex 14 6) 183 kc_633 = true := by decide +kernel
set_option maxRecDepth 10000000 in
theorem ck_634 : ty_kok ty_h (ty_ex 14 6) 183 kc_634 = true := by decide +kernel
set_option maxRecDepth 10000000 in
theorem ck_635 : ty_kok ty_h (ty_ex 14 6) 183 kc_635 = true := by decide +kernel
set_option maxRecDepth 10000000 in
theorem ck_636 : ty_kok ty_h (ty_ex 14 6) 183 kc_636 = true := by decide +kernel
set_option maxRecDepth 10000000 in
theorem ck_637 : ty_kok ty_h (ty_ex 14 6) 183 kc_637 = true := by decide +kernel
set_option maxRecDepth 10000000 in
theorem ck_638 : ty_kok ty_h (ty_ex 14 6) 183 kc_638 = true := by decide +kernel
set_option maxRecDepth 10000000 in
theorem ck_639 : ty_kok ty_h (ty_ex 14 6) 183 kc_639 = true := by decide +kernel
set_option maxRecDepth 10000000 in
theorem ck_640 : ty_kok ty_h (ty_ex 14 6) 183 kc_640 = true := by decide +kernel
set_option maxRecDepth 10000000 in
theorem ck_641 : ty_kok ty_h (ty_ex 14 6) 183 kc_641 = true := by decide +kernel
set_option maxRecDepth 10000000 in
theorem ck_642 : ty_kok ty_h (ty_ex 14 6) 183 kc_642 = true := by decide +kernel
set_option maxRecDepth 10000000 in
theorem ck_643 : ty_kok ty_h (ty_ex 14 6) 183 kc_643 = true := by decide +kernel
set_option maxRecDepth 10000000 in
theorem ck_644 : ty_kok ty_h (ty_ex 14 6) 183 kc_644 = true := by decide +kernel
set_option maxRecDepth 10000000 in
theorem ck_645 : ty_kok ty_h (ty_ex 14 6) 183 kc_645 = true := by decide +kernel
set_option maxRecDepth 10000000 in
theorem ck_646 : ty_kok ty_h (ty_ex 14 6) 183 kc_646 = true := by decide +kernel
set_option maxRecDepth 10000000 in
theorem ck_647 : ty_kok ty_h (ty_ex 14 6) 183 kc_647 = true := by decide +kernel
set_option maxRecDepth 10000000 in
theorem ck_648 : ty_kok ty_h (ty_ex 14 6) 183 kc_648 = true := by decide +kernel
set_option maxRecDepth 10000000 in
theorem ck_649 : ty_kok ty_h (ty_ex 14 6) 183 kc_649 = true := by decide +kernel
set_option maxRecDepth 10000000 in
theorem ck_650 : ty_kok ty_h (ty_ex 14 6) 183 kc_650 = true := by decide +kernel
set_option maxRecDepth 10000000 in
theorem ck_651 : ty_kok ty_h (ty_ex 14 6) 183 kc_651 = true := by decide +kernel
set_option maxRecDepth 10000000 in
theorem ck_652 : ty_kok ty_h (ty_ex 14 6) 183 kc_652 = true := by decide +kernel
set_option maxRecDepth 10000000 in
theorem ck_653 : ty_kok ty_h (ty_ex 14 6) 183 kc_653 = true := by decide +kernel
set_option maxRecDepth 10000000 in
theorem ck_654 : ty_kok ty_h (ty_ex 14 6) 183 kc_654 = true := by decide +kernel
set_option maxRecDepth 10000000 in
theorem ck_655 : ty_kok ty_h (ty_ex 14 6) 183 kc_655 = true := by decide +kernel
set_option maxRecDepth 10000000 in
theorem ck_656 : ty_kok ty_h (ty_ex 14 6) 183 kc_656 = true := by decide +kernel
set_option maxRecDepth 10000000 in
theorem ck_657 : ty_kok ty_h (ty_ex 14 6) 183 kc_657 = true := by decide +kernel
set_option maxRecDepth 10000000 in
theorem ck_658 : ty_kok ty_h (ty_ex 14 6) 202 kc_658 = true := by decide +kernel
set_option maxRecDepth 10000000 in
theorem ck_659 : ty_kok ty_h (ty_ex 14 6) 202 kc_659 = true := by decide +kernel
