/-! checked by the kernel, part 14 -/
set_option maxRecDepth 10000000 in
theorem ck_840 : ty_kok ty_h (ty_ex 20 6) 183 kc_840 = true := by decide +kernel
set_option maxRecDepth 10000000 in
theorem ck_841 : ty_kok ty_h (ty_ex 20 6) 183 kc_841 = true := by decide +kernel
set_option maxRecDepth 10000000 in
theorem ck_842 : ty_kok ty_h (ty_ex 20 6) 183 kc_842 = true := by decide +kernel
set_option maxRecDepth 10000000 in
theorem ck_843 : ty_kok ty_h (ty_ex 20 6) 183 kc_843 = true := by decide +kernel
set_option maxRecDepth 10000000 in
theorem ck_844 : ty_kok ty_h (ty_ex 20 6) 183 kc_844 = true := by decide +kernel
set_option maxRecDepth 10000000 in
theorem ck_845 : ty_kok ty_h (ty_ex 20 6) 183 kc_845 = true := by decide +kernel
set_option maxRecDepth 10000000 in
theorem ck_846 : ty_kok ty_h (ty_ex 20 6) 183 kc_846 = true := by decide +kernel
set_option maxRecDepth 10000000 in
theorem ck_847 : ty_kok ty_h (ty_ex 20 6) 183 kc_847 = true := by decide +kernel
set_option maxRecDepth 10000000 in
theorem ck_848 : ty_kok ty_h (ty_ex 20 6) 202 kc_848 = true := by decide +kernel
set_option maxRecDepth 10000000 in
theorem ck_849 : ty_kok ty_h (ty_ex 20 6) 202 kc_849 = true := by decide +kernel
set_option maxRecDepth 10000000 in
theorem ck_850 : ty_kok ty_h (ty_ex 20 6) 202 kc_850 = true := by decide +kernel
set_option maxRecDepth 10000000 in
theorem ck_851 : ty_kok ty_h (ty_ex 20 6) 202 kc_851 = true := by decide +kernel
set_option maxRecDepth 10000000 in
theorem ck_852 : ty_kok ty_h (ty_ex 20 6) 202 kc_852 = true := by decide +kernel
set_option maxRecDepth 10000000 in
theorem ck_853 : ty_kok ty_h (ty_ex 20 6) 202 kc_853 = true := by decide +kernel
set_option maxRecDepth 10000000 in
theorem ck_854 : ty_kok ty_h (ty_ex 20 6) 202 kc_854 = true := by decide +kernel
set_option maxRecDepth 10000000 in
theorem ck_855 : ty_kok ty_h (ty_ex 20 6) 202 kc_855 = true := by decide +kernel
set_option maxRecDepth 10000000 in
theorem ck_856 : ty_kok ty_h (ty_ex 20 6) 202 kc_856 = true := by decide +kernel
set_option maxRecDepth 10000000 in
theorem ck_857 : ty_kok ty_h (ty_ex 20 6) 202 kc_857 = true := by decide +kernel
set_option maxRecDepth 10000000 in
theorem ck_858 : ty_kok ty_h (ty_ex 20 6) 202 kc_858 = true := by decide +kernel
set_option maxRecDepth 10000000 in
theorem ck_859 : ty_kok ty_h (ty_ex 20 6) 202 kc_859 = true := by decide +kernel
set_option maxRecDepth 10000000 in
theorem ck_860 : ty_kok ty_h (ty_ex 20 6) 202 kc_860 = true := by decide +kernel
set_option maxRecDepth 10000000 in
theorem ck_861 : ty_kok ty_h (ty_ex 20 6) 202 kc_861 = true := by decide +kernel
set_option maxRecDepth 10000000 in
theorem ck_862 : ty_kok ty_h (ty_ex 20 6) 202 kc_862 = true := by decide +kernel
set_option maxRecDepth 10000000 in
theorem ck_863 : ty_kok ty_h (ty_ex 20 6) 202 kc_863 = true := by decide +kernel
set_option maxRecDepth 10000000 in
theorem ck_864 : ty_kok ty_h (ty_ex 20 6) 202 kc_864 = true := by decide +kernel
set_option maxRecDepth 10000000 in
theorem ck_865 : ty_kok ty_h (ty_ex 20 6) 202 kc_865 = true := by decide +kernel
set_option maxRecDepth 10000000 in
theorem ck_866 : ty_kok ty_h (ty_ex 20 6) 202 kc_866 = true := by decide +kernel
set_option maxRecDepth 10000000 in
theorem ck_867 : ty_kok ty_h (ty_ex 20 6) 202 kc_867 = true := by decide +kernel
set_option maxRecDepth 10000000 in
theorem ck_868 : ty_kok ty_h (ty_ex 20 6) 202 kc_868 = true := by decide +kernel
set_option maxRecDepth 10000000 in
theorem ck_869 : ty_kok ty_h (ty_ex 20 6) 202 kc_869 = true := by decide +kernel
set_option maxRecDepth 10000000 in
theorem ck_870 : ty_kok ty_h (ty_ex 20 6) 202 kc_870 = true := by decide +kernel
set_option maxRecDepth 10000000 in
theorem ck_871 : ty_kok ty_h (ty_ex 20 6) 202 kc_871 = true := by decide +kernel
set_option maxRecDepth 10000000 in
theorem ck_872 : ty_kok ty_h (ty_ex 20 6) 202 kc_872 = true := by decide +kernel
set_option maxRecDepth 10000000 in
theorem ck_873 : ty_kok ty_h (ty_ex 20 6) 202 kc_873 = true := by decide +kernel
set_option maxRecDepth 10000000 in
theorem ck_874 : ty_kok ty_h (ty_ex 20 6) 202 kc_874 = true := by decide +kernel
set_option maxRecDepth 10000000 in
theorem ck_875 : ty_kok ty_h (ty_ex 20 6) 202 kc_875 = true := by decide +kernel
set_option maxRecDepth 10000000 in
theorem ck_876 : ty_kok ty_h (ty_ex 21 6) 172 kc_876 = true := by decide +kernel
set_option maxRecDepth 10000000 in
theorem ck_877 : ty_kok ty_h (ty_ex 21 6) 172 kc_877 = true := by decide +kernel
set_option maxRecDepth 10000000 in
theorem ck_878 : ty_kok ty_h (ty_ex 21 6) 182 kc_878 = true := by decide +kernel
set_option maxRecDepth 10000000 in
theorem ck_879 : ty_kok ty_h (ty_ex 21 6) 182 kc_879 = true := by decide +kernel
set_option maxRecDepth 10000000 in
theorem ck_880 : ty_kok ty_h (ty_ex 22 6) 101 kc_880 = true := by decide +kernel
set_option maxRecDepth 10000000 in
theorem ck_881 : ty_kok ty_h (ty_ex 22 6) 101 kc_881 = true := by decide +kernel
set_option maxRecDepth 10000000 in
theorem ck_882 : ty_kok ty_h (ty_ex 22 6) 177 kc_882 = true := by decide +kernel
set_option maxRecDepth 10000000 in
theorem ck_883 : ty_kok ty_h (ty_ex 22 6) 177 kc_883 = true := by decide +kernel
set_option maxRecDepth 10000000 in
theorem ck_884 : ty_kok ty_h (ty_ex 23 6) 185 kc_884 = true := by decide +kernel
set_option maxRecDepth 10000000 in
theorem ck_885 : ty_kok ty_h (ty_ex 23 6) 185 kc_885 = true := by decide +kernel
set_option maxRecDepth 10000000 in
theorem ck_886 : ty_kok ty_h (ty_ex 23 6) 208 kc_886 = true := by decide +kernel
set_option maxRecDepth 10000000 in
theorem ck_887 : ty_kok ty_h (ty_ex 23 6) 208 kc_887 = true := by decide +kernel
set_option maxRecDepth 10000000 in
theorem ck_888 : ty_kok ty_h (ty_ex 24 6) 167 kc_888 = true := by decide +kernel
set_option maxRecDepth 10000000 in
theorem ck_889 : ty_kok ty_h (ty_ex 24 6) 167 kc_889 = true := by decide +kernel
set_option maxRecDepth 10000000 in
theorem ck_890 : ty_kok ty_h (ty_ex 24 6) 167 kc_890 = true := by decide +kernel
set_option maxRecDepth 10000000 in
theorem ck_891 : ty_kok ty_h (ty_ex 24 6) 167 kc_891 = true := by decide +kernel
set_option maxRecDepth 10000000 in
theorem ck_892 : ty_kok ty_h (ty_ex 24 6) 167 kc_892 = true := by decide +kernel
set_option maxRecDepth 10000000 in
theorem ck_893 : ty_kok ty_h (ty_ex 24 6) 167 kc_893 = true := by decide +kernel
set_option maxRecDepth 10000000 in
theorem ck_894 : ty_kok ty_h (ty_ex 24 6) 167 kc_894 = true := by decide +kernel
set_option maxRecDepth 10000000 in
theorem ck_895 : ty_kok ty_h (ty_ex 24 6) 167 kc_895 = true := by decide +kernel
set_option maxRecDepth 10000000 in
theorem ck_896 : ty_kok ty_h (ty_ex 24 6) 167 kc_896 = true := by decide +kernel
set_option maxRecDepth 10000000 in
theorem ck_897 : ty_kok ty_h (ty_ex 24 6) 167 kc_897 = true := by decide +kernel
set_option maxRecDepth 10000000 in
theorem ck_898 : ty_kok ty_h (ty_ex 24 6) 167 kc_898 = true := by decide +kernel
set_option maxRecDepth 10000000 in
theorem ck_899 : ty_kok ty_h (ty_ex 24 6) 167 kc_899 = true := by decide +kernel
