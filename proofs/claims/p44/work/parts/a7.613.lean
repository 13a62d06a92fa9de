/-! checked by the kernel, part 13 -/
set_option maxRecDepth 10000000 in
theorem ck_780 : ty_kok ty_h (ty_ex 19 6) 184 kc_780 = true := by decide +kernel
set_option maxRecDepth 10000000 in
theorem ck_781 : ty_kok ty_h (ty_ex 19 6) 184 kc_781 = true := by decide +kernel
set_option maxRecDepth 10000000 in
theorem ck_782 : ty_kok ty_h (ty_ex 19 6) 184 kc_782 = true := by decide +kernel
set_option maxRecDepth 10000000 in
theorem ck_783 : ty_kok ty_h (ty_ex 19 6) 184 kc_783 = true := by decide +kernel
set_option maxRecDepth 10000000 in
theorem ck_784 : ty_kok ty_h (ty_ex 19 6) 184 kc_784 = true := by decide +kernel
set_option maxRecDepth 10000000 in
theorem ck_785 : ty_kok ty_h (ty_ex 19 6) 184 kc_785 = true := by decide +kernel
set_option maxRecDepth 10000000 in
theorem ck_786 : ty_kok ty_h (ty_ex 19 6) 184 kc_786 = true := by decide +kernel
set_option maxRecDepth 10000000 in
theorem ck_787 : ty_kok ty_h (ty_ex 19 6) 184 kc_787 = true := by decide +kernel
set_option maxRecDepth 10000000 in
theorem ck_788 : ty_kok ty_h (ty_ex 19 6) 184 kc_788 = true := by decide +kernel
set_option maxRecDepth 10000000 in
theorem ck_789 : ty_kok ty_h (ty_ex 19 6) 184 kc_789 = true := by decide +kernel
set_option maxRecDepth 10000000 in
theorem ck_790 : ty_kok ty_h (ty_ex 19 6) 206 kc_790 = true := by decide +kernel
set_option maxRecDepth 10000000 in
theorem ck_791 : ty_kok ty_h (ty_ex 19 6) 206 kc_791 = true := by decide +kernel
set_option maxRecDepth 10000000 in
theorem ck_792 : ty_kok ty_h (ty_ex 19 6) 206 kc_792 = true := by decide +kernel
set_option maxRecDepth 10000000 in
theorem ck_793 : ty_kok ty_h (ty_ex 19 6) 206 kc_793 = true := by decide +kernel
set_option maxRecDepth 10000000 in
theorem ck_794 : ty_kok ty_h (ty_ex 19 6) 206 kc_794 = true := by decide +kernel
set_option maxRecDepth 10000000 in
theorem ck_795 : ty_kok ty_h (ty_ex 19 6) 206 kc_795 = true := by decide +kernel
set_option maxRecDepth 10000000 in
theorem ck_796 : ty_kok ty_h (ty_ex 19 6) 206 kc_796 = true := by decide +kernel
set_option maxRecDepth 10000000 in
theorem ck_797 : ty_kok ty_h (ty_ex 19 6) 206 kc_797 = true := by decide +kernel
set_option maxRecDepth 10000000 in
theorem ck_798 : ty_kok ty_h (ty_ex 19 6) 206 kc_798 = true := by decide +kernel
set_option maxRecDepth 10000000 in
theorem ck_799 : ty_kok ty_h (ty_ex 19 6) 206 kc_799 = true := by decide +kernel
set_option maxRecDepth 10000000 in
theorem ck_800 : ty_kok ty_h (ty_ex 19 6) 206 kc_800 = true := by decide +kernel
set_option maxRecDepth 10000000 in
theorem ck_801 : ty_kok ty_h (ty_ex 19 6) 206 kc_801 = true := by decide +kernel
set_option maxRecDepth 10000000 in
theorem ck_802 : ty_kok ty_h (ty_ex 19 6) 206 kc_802 = true := by decide +kernel
set_option maxRecDepth 10000000 in
theorem ck_803 : ty_kok ty_h (ty_ex 19 6) 206 kc_803 = true := by decide +kernel
set_option maxRecDepth 10000000 in
theorem ck_804 : ty_kok ty_h (ty_ex 19 6) 206 kc_804 = true := by decide +kernel
set_option maxRecDepth 10000000 in
theorem ck_805 : ty_kok ty_h (ty_ex 19 6) 206 kc_805 = true := by decide +kernel
set_option maxRecDepth 10000000 in
theorem ck_806 : ty_kok ty_h (ty_ex 19 6) 206 kc_806 = true := by decide +kernel
set_option maxRecDepth 10000000 in
theorem ck_807 : ty_kok ty_h (ty_ex 19 6) 206 kc_807 = true := by decide +kernel
set_option maxRecDepth 10000000 in
theorem ck_808 : ty_kok ty_h (ty_ex 19 6) 206 kc_808 = true := by decide +kernel
set_option maxRecDepth 10000000 in
theorem ck_809 : ty_kok ty_h (ty_ex 19 6) 206 kc_809 = true := by decide +kernel
set_option maxRecDepth 10000000 in
theorem ck_810 : ty_kok ty_h (ty_ex 19 6) 206 kc_810 = true := by decide +kernel
set_option maxRecDepth 10000000 in
theorem ck_811 : ty_kok ty_h (ty_ex 19 6) 206 kc_811 = true := by decide +kernel
set_option maxRecDepth 10000000 in
theorem ck_812 : ty_kok ty_h (ty_ex 19 6) 206 kc_812 = true := by decide +kernel
set_option maxRecDepth 10000000 in
theorem ck_813 : ty_kok ty_h (ty_ex 19 6) 206 kc_813 = true := by decide +kernel
set_option maxRecDepth 10000000 in
theorem ck_814 : ty_kok ty_h (ty_ex 19 6) 206 kc_814 = true := by decide +kernel
set_option maxRecDepth 10000000 in
theorem ck_815 : ty_kok ty_h (ty_ex 19 6) 206 kc_815 = true := by decide +kernel
set_option maxRecDepth 10000000 in
theorem ck_816 : ty_kok ty_h (ty_ex 19 6) 206 kc_816 = true := by decide +kernel
set_option maxRecDepth 10000000 in
theorem ck_817 : ty_kok ty_h (ty_ex 19 6) 206 kc_817 = true := by decide +kernel
set_option maxRecDepth 10000000 in
theorem ck_818 : ty_kok ty_h (ty_ex 20 6) 183 kc_818 = true := by decide +kernel
set_option maxRecDepth 10000000 in
theorem ck_819 : ty_kok ty_h (ty_ex 20 6) 183 kc_819 = true := by decide +kernel
set_option maxRecDepth 10000000 in
theorem ck_820 : ty_kok ty_h (ty_ex 20 6) 183 kc_820 = true := by decide +kernel
set_option maxRecDepth 10000000 in
theorem ck_821 : ty_kok ty_h (ty_ex 20 6) 183 kc_821 = true := by decide +kernel
set_option maxRecDepth 10000000 in
theorem ck_822 : ty_kok ty_h (ty_ex 20 6) 183 kc_822 = true := by decide +kernel
set_option maxRecDepth 10000000 in
theorem ck_823 : ty_kok ty_h (ty_ex 20 6) 183 kc_823 = true := by decide +kernel
set_option maxRecDepth 10000000 in
theorem ck_824 : ty_kok ty_h (ty_ex 20 6) 183 kc_824 = true := by decide +kernel
set_option maxRecDepth 10000000 in
theorem ck_825 : ty_kok ty_h (ty_ex 20 6) 183 kc_825 = true := by decide +kernel
set_option maxRecDepth 10000000 in
theorem ck_826 : ty_kok ty_h (ty_ex 20 6) 183 kc_826 = true := by decide +kernel
set_option maxRecDepth 10000000 in
theorem ck_827 : ty_kok ty_h (ty_ex 20 6) 183 kc_827 = true := by decide +kernel
set_option maxRecDepth 10000000 in
theorem ck_828 : ty_kok ty_h (ty_ex 20 6) 183 kc_828 = true := by decide +kernel
set_option maxRecDepth 10000000 in
theorem ck_829 : ty_kok ty_h (ty_ex 20 6) 183 kc_829 = true := by decide +kernel
set_option maxRecDepth 10000000 in
theorem ck_830 : ty_kok ty_h (ty_ex 20 6) 183 kc_830 = true := by decide +kernel
set_option maxRecDepth 10000000 in
theorem ck_831 : ty_kok ty_h (ty_ex 20 6) 183 kc_831 = true := by decide +kernel
set_option maxRecDepth 10000000 in
theorem ck_832 : ty_kok ty_h (ty_ex 20 6) 183 kc_832 = true := by decide +kernel
set_option maxRecDepth 10000000 in
theorem ck_833 : ty_kok ty_h (ty_ex 20 6) 183 kc_833 = true := by decide +kernel
set_option maxRecDepth 10000000 in
theorem ck_834 : ty_kok ty_h (ty_ex 20 6) 183 kc_834 = true := by decide +kernel
set_option maxRecDepth 10000000 in
theorem ck_835 : ty_kok ty_h (ty_ex 20 6) 183 kc_835 = true := by decide +kernel
set_option maxRecDepth 10000000 in
theorem ck_836 : ty_kok ty_h (ty_ex 20 6) 183 kc_836 = true := by decide +kernel
set_option maxRecDepth 10000000 in
theorem ck_837 : ty_kok ty_h (ty_ex 20 6) 183 kc_837 = true := by decide +kernel
set_option maxRecDepth 10000000 in
theorem ck_838 : ty_kok ty_h (ty_ex 20 6) 183 kc_838 = true := by decide +kernel
set_option maxRecDepth 10000000 in
theorem ck_839 : ty_kok ty_h (ty_ex 20 6) 183 kc_839 = true := by decide +kernel
