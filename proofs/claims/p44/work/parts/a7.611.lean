/-! checked by the kernel, part 11 -/
set_option maxRecDepth 10000000 in
theorem ck_660 : ty_kok ty_h (ty_ex 14 6) 202 kc_660 = true := by decide +kernel
set_option maxRecDepth 10000000 in
theorem ck_661 : ty_kok ty_h (ty_ex 14 6) 202 kc_661 = true := by decide +kernel
set_option maxRecDepth 10000000 in
theorem ck_662 : ty_kok ty_h (ty_ex 14 6) 202 kc_662 = true := by decide +kernel
set_option maxRecDepth 10000000 in
theorem ck_663 : ty_kok ty_h (ty_ex 14 6) 202 kc_663 = true := by decide +kernel
set_option maxRecDepth 10000000 in
theorem ck_664 : ty_kok ty_h (ty_ex 14 6) 202 kc_664 = true := by decide +kernel
set_option maxRecDepth 10000000 in
theorem ck_665 : ty_kok ty_h (ty_ex 14 6) 202 kc_665 = true := by decide +kernel
set_option maxRecDepth 10000000 in
theorem ck_666 : ty_kok ty_h (ty_ex 14 6) 202 kc_666 = true := by decide +kernel
set_option maxRecDepth 10000000 in
theorem ck_667 : ty_kok ty_h (ty_ex 14 6) 202 kc_667 = true := by decide +kernel
set_option maxRecDepth 10000000 in
theorem ck_668 : ty_kok ty_h (ty_ex 14 6) 202 kc_668 = true := by decide +kernel
set_option maxRecDepth 10000000 in
theorem ck_669 : ty_kok ty_h (ty_ex 14 6) 202 kc_669 = true := by decide +kernel
set_option maxRecDepth 10000000 in
theorem ck_670 : ty_kok ty_h (ty_ex 14 6) 202 kc_670 = true := by decide +kernel
set_option maxRecDepth 10000000 in
theorem ck_671 : ty_kok ty_h (ty_ex 14 6) 202 kc_671 = true := by decide +kernel
set_option maxRecDepth 10000000 in
theorem ck_672 : ty_kok ty_h (ty_ex 14 6) 202 kc_672 = true := by decide +kernel
set_option maxRecDepth 10000000 in
theorem ck_673 : ty_kok ty_h (ty_ex 14 6) 202 kc_673 = true := by decide +kernel
set_option maxRecDepth 10000000 in
theorem ck_674 : ty_kok ty_h (ty_ex 14 6) 202 kc_674 = true := by decide +kernel
set_option maxRecDepth 10000000 in
theorem ck_675 : ty_kok ty_h (ty_ex 14 6) 202 kc_675 = true := by decide +kernel
set_option maxRecDepth 10000000 in
theorem ck_676 : ty_kok ty_h (ty_ex 14 6) 202 kc_676 = true := by decide +kernel
set_option maxRecDepth 10000000 in
theorem ck_677 : ty_kok ty_h (ty_ex 14 6) 202 kc_677 = true := by decide +kernel
set_option maxRecDepth 10000000 in
theorem ck_678 : ty_kok ty_h (ty_ex 14 6) 202 kc_678 = true := by decide +kernel
set_option maxRecDepth 10000000 in
theorem ck_679 : ty_kok ty_h (ty_ex 14 6) 202 kc_679 = true := by decide +kernel
set_option maxRecDepth 10000000 in
theorem ck_680 : ty_kok ty_h (ty_ex 14 6) 202 kc_680 = true := by decide +kernel
set_option maxRecDepth 10000000 in
theorem ck_681 : ty_kok ty_h (ty_ex 14 6) 202 kc_681 = true := by decide +kernel
set_option maxRecDepth 10000000 in
theorem ck_682 : ty_kok ty_h (ty_ex 14 6) 202 kc_682 = true := by decide +kernel
set_option maxRecDepth 10000000 in
theorem ck_683 : ty_kok ty_h (ty_ex 14 6) 202 kc_683 = true := by decide +kernel
set_option maxRecDepth 10000000 in
theorem ck_684 : ty_kok ty_h (ty_ex 14 6) 202 kc_684 = true := by decide +kernel
set_option maxRecDepth 10000000 in
theorem ck_685 : ty_kok ty_h (ty_ex 14 6) 202 kc_685 = true := by decide +kernel
set_option maxRecDepth 10000000 in
theorem ck_686 : ty_kok ty_h (ty_ex 14 6) 202 kc_686 = true := by decide +kernel
set_option maxRecDepth 10000000 in
theorem ck_687 : ty_kok ty_h (ty_ex 14 6) 202 kc_687 = true := by decide +kernel
set_option maxRecDepth 10000000 in
theorem ck_688 : ty_kok ty_h (ty_ex 14 6) 202 kc_688 = true := by decide +kernel
set_option maxRecDepth 10000000 in
theorem ck_689 : ty_kok ty_h (ty_ex 14 6) 202 kc_689 = true := by decide +kernel
set_option maxRecDepth 10000000 in
theorem ck_690 : ty_kok ty_h (ty_ex 15 6) 172 kc_690 = true := by decide +kernel
set_option maxRecDepth 10000000 in
theorem ck_691 : ty_kok ty_h (ty_ex 15 6) 172 kc_691 = true := by decide +kernel
set_option maxRecDepth 10000000 in
theorem ck_692 : ty_kok ty_h (ty_ex 15 6) 182 kc_692 = true := by decide +kernel
set_option maxRecDepth 10000000 in
theorem ck_693 : ty_kok ty_h (ty_ex 15 6) 182 kc_693 = true := by decide +kernel
set_option maxRecDepth 10000000 in
theorem ck_694 : ty_kok ty_h (ty_ex 16 6) 101 kc_694 = true := by decide +kernel
set_option maxRecDepth 10000000 in
theorem ck_695 : ty_kok ty_h (ty_ex 16 6) 101 kc_695 = true := by decide +kernel
set_option maxRecDepth 10000000 in
theorem ck_696 : ty_kok ty_h (ty_ex 16 6) 177 kc_696 = true := by decide +kernel
set_option maxRecDepth 10000000 in
theorem ck_697 : ty_kok ty_h (ty_ex 16 6) 177 kc_697 = true := by decide +kernel
set_option maxRecDepth 10000000 in
theorem ck_698 : ty_kok ty_h (ty_ex 17 6) 185 kc_698 = true := by decide +kernel
set_option maxRecDepth 10000000 in
theorem ck_699 : ty_kok ty_h (ty_ex 17 6) 185 kc_699 = true := by decide +kernel
set_option maxRecDepth 10000000 in
theorem ck_700 : ty_kok ty_h (ty_ex 17 6) 208 kc_700 = true := by decide +kernel
set_option maxRecDepth 10000000 in
theorem ck_701 : ty_kok ty_h (ty_ex 17 6) 208 kc_701 = true := by decide +kernel
set_option maxRecDepth 10000000 in
theorem ck_702 : ty_kok ty_h (ty_ex 18 6) 167 kc_702 = true := by decide +kernel
set_option maxRecDepth 10000000 in
theorem ck_703 : ty_kok ty_h (ty_ex 18 6) 167 kc_703 = true := by decide +kernel
set_option maxRecDepth 10000000 in
theorem ck_704 : ty_kok ty_h (ty_ex 18 6) 167 kc_704 = true := by decide +kernel
set_option maxRecDepth 10000000 in
theorem ck_705 : ty_kok ty_h (ty_ex 18 6) 167 kc_705 = true := by decide +kernel
set_option maxRecDepth 10000000 in
theorem ck_706 : ty_kok ty_h (ty_ex 18 6) 167 kc_706 = true := by decide +kernel
set_option maxRecDepth 10000000 in
theorem ck_707 : ty_kok ty_h (ty_ex 18 6) 167 kc_707 = true := by decide +kernel
set_option maxRecDepth 10000000 in
theorem ck_708 : ty_kok ty_h (ty_ex 18 6) 167 kc_708 = true := by decide +kernel
set_option maxRecDepth 10000000 in
theorem ck_709 : ty_kok ty_h (ty_ex 18 6) 167 kc_709 = true := by decide +kernel
set_option maxRecDepth 10000000 in
theorem ck_710 : ty_kok ty_h (ty_ex 18 6) 167 kc_710 = true := by decide +kernel
set_option maxRecDepth 10000000 in
theorem ck_711 : ty_kok ty_h (ty_ex 18 6) 167 kc_711 = true := by decide +kernel
set_option maxRecDepth 10000000 in
theorem ck_712 : ty_kok ty_h (ty_ex 18 6) 167 kc_712 = true := by decide +kernel
set_option maxRecDepth 10000000 in
theorem ck_713 : ty_kok ty_h (ty_ex 18 6) 167 kc_713 = true := by decide +kernel
set_option maxRecDepth 10000000 in
theorem ck_714 : ty_kok ty_h (ty_ex 18 6) 167 kc_714 = true := by decide +kernel
set_option maxRecDepth 10000000 in
theorem ck_715 : ty_kok ty_h (ty_ex 18 6) 167 kc_715 = true := by decide +kernel
set_option maxRecDepth 10000000 in
theorem ck_716 : ty_kok ty_h (ty_ex 18 6) 167 kc_716 = true := by decide +kernel
set_option maxRecDepth 10000000 in
theorem ck_717 : ty_kok ty_h (ty_ex 18 6) 167 kc_717 = true := by decide +kernel
set_option maxRecDepth 10000000 in
theorem ck_718 : ty_kok ty_h (ty_ex 18 6) 167 kc_718 = true := by decide +kernel
set_option maxRecDepth 10000000 in
theorem ck_719 : ty_kok ty_h (ty_ex 18 6) 167 kc_719 = true := by decide +kernel
