/-! checked by the kernel, part 12 -/
set_option maxRecDepth 10000000 in
theorem ck_720 : ty_kok ty_h (ty_ex 18 6) 167 kc_720 = true := by decide +kernel
set_option maxRecDepth 10000000 in
theorem ck_721 : ty_kok ty_h (ty_ex 18 6) 167 kc_721 = true := by decide +kernel
set_option maxRecDepth 10000000 in
theorem ck_722 : ty_kok ty_h (ty_ex 18 6) 167 kc_722 = true := by decide +kernel
set_option maxRecDepth 10000000 in
theorem ck_723 : ty_kok ty_h (ty_ex 18 6) 167 kc_723 = true := by decide +kernel
set_option maxRecDepth 10000000 in
theorem ck_724 : ty_kok ty_h (ty_ex 18 6) 167 kc_724 = true := by decide +kernel
set_option maxRecDepth 10000000 in
theorem ck_725 : ty_kok ty_h (ty_ex 18 6) 167 kc_725 = true := by decide +kernel
set_option maxRecDepth 10000000 in
theorem ck_726 : ty_kok ty_h (ty_ex 18 6) 167 kc_726 = true := by decide +kernel
set_option maxRecDepth 10000000 in
theorem ck_727 : ty_kok ty_h (ty_ex 18 6) 167 kc_727 = true := by decide +kernel
set_option maxRecDepth 10000000 in
theorem ck_728 : ty_kok ty_h (ty_ex 18 6) 167 kc_728 = true := by decide +kernel
set_option maxRecDepth 10000000 in
theorem ck_729 : ty_kok ty_h (ty_ex 18 6) 167 kc_729 = true := by decide +kernel
set_option maxRecDepth 10000000 in
theorem ck_730 : ty_kok ty_h (ty_ex 18 6) 181 kc_730 = true := by decide +kernel
set_option maxRecDepth 10000000 in
theorem ck_731 : ty_kok ty_h (ty_ex 18 6) 181 kc_731 = true := by decide +kernel
set_option maxRecDepth 10000000 in
theorem ck_732 : ty_kok ty_h (ty_ex 18 6) 181 kc_732 = true := by decide +kernel
set_option maxRecDepth 10000000 in
theorem ck_733 : ty_kok ty_h (ty_ex 18 6) 181 kc_733 = true := by decide +kernel
set_option maxRecDepth 10000000 in
theorem ck_734 : ty_kok ty_h (ty_ex 18 6) 181 kc_734 = true := by decide +kernel
set_option maxRecDepth 10000000 in
theorem ck_735 : ty_kok ty_h (ty_ex 18 6) 181 kc_735 = true := by decide +kernel
set_option maxRecDepth 10000000 in
theorem ck_736 : ty_kok ty_h (ty_ex 18 6) 181 kc_736 = true := by decide +kernel
set_option maxRecDepth 10000000 in
theorem ck_737 : ty_kok ty_h (ty_ex 18 6) 181 kc_737 = true := by decide +kernel
set_option maxRecDepth 10000000 in
theorem ck_738 : ty_kok ty_h (ty_ex 18 6) 181 kc_738 = true := by decide +kernel
set_option maxRecDepth 10000000 in
theorem ck_739 : ty_kok ty_h (ty_ex 18 6) 181 kc_739 = true := by decide +kernel
set_option maxRecDepth 10000000 in
theorem ck_740 : ty_kok ty_h (ty_ex 18 6) 181 kc_740 = true := by decide +kernel
set_option maxRecDepth 10000000 in
theorem ck_741 : ty_kok ty_h (ty_ex 18 6) 181 kc_741 = true := by decide +kernel
set_option maxRecDepth 10000000 in
theorem ck_742 : ty_kok ty_h (ty_ex 18 6) 181 kc_742 = true := by decide +kernel
set_option maxRecDepth 10000000 in
theorem ck_743 : ty_kok ty_h (ty_ex 18 6) 181 kc_743 = true := by decide +kernel
set_option maxRecDepth 10000000 in
theorem ck_744 : ty_kok ty_h (ty_ex 18 6) 181 kc_744 = true := by decide +kernel
set_option maxRecDepth 10000000 in
theorem ck_745 : ty_kok ty_h (ty_ex 18 6) 181 kc_745 = true := by decide +kernel
set_option maxRecDepth 10000000 in
theorem ck_746 : ty_kok ty_h (ty_ex 18 6) 181 kc_746 = true := by decide +kernel
set_option maxRecDepth 10000000 in
theorem ck_747 : ty_kok ty_h (ty_ex 18 6) 181 kc_747 = true := by decide +kernel
set_option maxRecDepth 10000000 in
theorem ck_748 : ty_kok ty_h (ty_ex 18 6) 181 kc_748 = true := by decide +kernel
set_option maxRecDepth 10000000 in
theorem ck_749 : ty_kok ty_h (ty_ex 18 6) 181 kc_749 = true := by decide +kernel
set_option maxRecDepth 10000000 in
theorem ck_750 : ty_kok ty_h (ty_ex 18 6) 181 kc_750 = true := by decide +kernel
set_option maxRecDepth 10000000 in
theorem ck_751 : ty_kok ty_h (ty_ex 18 6) 181 kc_751 = true := by decide +kernel
set_option maxRecDepth 10000000 in
theorem ck_752 : ty_kok ty_h (ty_ex 18 6) 181 kc_752 = true := by decide +kernel
set_option maxRecDepth 10000000 in
theorem ck_753 : ty_kok ty_h (ty_ex 18 6) 181 kc_753 = true := by decide +kernel
set_option maxRecDepth 10000000 in
theorem ck_754 : ty_kok ty_h (ty_ex 18 6) 181 kc_754 = true := by decide +kernel
set_option maxRecDepth 10000000 in
theorem ck_755 : ty_kok ty_h (ty_ex 18 6) 181 kc_755 = true := by decide +kernel
set_option maxRecDepth 10000000 in
theorem ck_756 : ty_kok ty_h (ty_ex 18 6) 181 kc_756 = true := by decide +kernel
set_option maxRecDepth 10000000 in
theorem ck_757 : ty_kok ty_h (ty_ex 18 6) 181 kc_757 = true := by decide +kernel
set_option maxRecDepth 10000000 in
theorem ck_758 : ty_kok ty_h (ty_ex 18 6) 181 kc_758 = true := by decide +kernel
set_option maxRecDepth 10000000 in
theorem ck_759 : ty_kok ty_h (ty_ex 18 6) 181 kc_759 = true := by decide +kernel
set_option maxRecDepth 10000000 in
theorem ck_760 : ty_kok ty_h (ty_ex 19 6) 184 kc_760 = true := by decide +kernel
set_option maxRecDepth 10000000 in
theorem ck_761 : ty_kok ty_h (ty_ex 19 6) 184 kc_761 = true := by decide +kernel
set_option maxRecDepth 10000000 in
theorem ck_762 : ty_kok ty_h (ty_ex 19 6) 184 kc_762 = true := by decide +kernel
set_option maxRecDepth 10000000 in
theorem ck_763 : ty_kok ty_h (ty_ex 19 6) 184 kc_763 = true := by decide +kernel
set_option maxRecDepth 10000000 in
theorem ck_764 : ty_kok ty_h (ty_ex 19 6) 184 kc_764 = true := by decide +kernel
set_option maxRecDepth 10000000 in
theorem ck_765 : ty_kok ty_h (ty_ex 19 6) 184 kc_765 = true := by decide +kernel
set_option maxRecDepth 10000000 in
theorem ck_766 : ty_kok ty_h (ty_ex 19 6) 184 kc_766 = true := by decide +kernel
set_option maxRecDepth 10000000 in
theorem ck_767 : ty_kok ty_h (ty_ex 19 6) 184 kc_767 = true := by decide +kernel
set_option maxRecDepth 10000000 in
theorem ck_768 : ty_kok ty_h (ty_ex 19 6) 184 kc_768 = true := by decide +kernel
set_option maxRecDepth 10000000 in
theorem ck_769 : ty_kok ty_h (ty_ex 19 6) 184 kc_769 = true := by decide +kernel
set_option maxRecDepth 10000000 in
theorem ck_770 : ty_kok ty_h (ty_ex 19 6) 184 kc_770 = true := by decide +kernel
set_option maxRecDepth 10000000 in
theorem ck_771 : ty_kok ty_h (ty_ex 19 6) 184 kc_771 = true := by decide +kernel
set_option maxRecDepth 10000000 in
theorem ck_772 : ty_kok ty_h (ty_ex 19 6) 184 kc_772 = true := by decide +kernel
set_option maxRecDepth 10000000 in
theorem ck_773 : ty_kok ty_h (ty_ex 19 6) 184 kc_773 = true := by decide +kernel
set_option maxRecDepth 10000000 in
theorem ck_774 : ty_kok ty_h (ty_ex 19 6) 184 kc_774 = true := by decide +kernel
set_option maxRecDepth 10000000 in
theorem ck_775 : ty_kok ty_h (ty_ex 19 6) 184 kc_775 = true := by decide +kernel
set_option maxRecDepth 10000000 in
theorem ck_776 : ty_kok ty_h (ty_ex 19 6) 184 kc_776 = true := by decide +kernel
set_option maxRecDepth 10000000 in
theorem ck_777 : ty_kok ty_h (ty_ex 19 6) 184 kc_777 = true := by decide +kernel
set_option maxRecDepth 10000000 in
theorem ck_778 : ty_kok ty_h (ty_ex 19 6) 184 kc_778 = true := by decide +kernel
set_option maxRecDepth 10000000 in
theorem ck_779 : ty_kok ty_h (ty_ex 19 6) 184 kc_779 = true := by decide +kernel
