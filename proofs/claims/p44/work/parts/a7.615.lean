/-! checked by the kernel, part 15 -/
set_option maxRecDepth 10000000 in
theorem ck_900 : ty_kok ty_h (ty_ex 24 6) 167 kc_900 = true := by decide +kernel
set_option maxRecDepth 10000000 in
theorem ck_901 : ty_kok ty_h (ty_ex 24 6) 167 kc_901 = true := by decide +kernel
set_option maxRecDepth 10000000 in
theorem ck_902 : ty_kok ty_h (ty_ex 24 6) 167 kc_902 = true := by decide +kernel
set_option maxRecDepth 10000000 in
theorem ck_903 : ty_kok ty_h (ty_ex 24 6) 167 kc_903 = true := by decide +kernel
set_option maxRecDepth 10000000 in
theorem ck_904 : ty_kok ty_h (ty_ex 24 6) 167 kc_904 = true := by decide +kernel
set_option maxRecDepth 10000000 in
theorem ck_905 : ty_kok ty_h (ty_ex 24 6) 167 kc_905 = true := by decide +kernel
set_option maxRecDepth 10000000 in
theorem ck_906 : ty_kok ty_h (ty_ex 24 6) 167 kc_906 = true := by decide +kernel
set_option maxRecDepth 10000000 in
theorem ck_907 : ty_kok ty_h (ty_ex 24 6) 167 kc_907 = true := by decide +kernel
set_option maxRecDepth 10000000 in
theorem ck_908 : ty_kok ty_h (ty_ex 24 6) 167 kc_908 = true := by decide +kernel
set_option maxRecDepth 10000000 in
theorem ck_909 : ty_kok ty_h (ty_ex 24 6) 167 kc_909 = true := by decide +kernel
set_option maxRecDepth 10000000 in
theorem ck_910 : ty_kok ty_h (ty_ex 24 6) 167 kc_910 = true := by decide +kernel
set_option maxRecDepth 10000000 in
theorem ck_911 : ty_kok ty_h (ty_ex 24 6) 167 kc_911 = true := by decide +kernel
set_option maxRecDepth 10000000 in
theorem ck_912 : ty_kok ty_h (ty_ex 24 6) 181 kc_912 = true := by decide +kernel
set_option maxRecDepth 10000000 in
theorem ck_913 : ty_kok ty_h (ty_ex 24 6) 181 kc_913 = true := by decide +kernel
set_option maxRecDepth 10000000 in
theorem ck_914 : ty_kok ty_h (ty_ex 24 6) 181 kc_914 = true := by decide +kernel
set_option maxRecDepth 10000000 in
theorem ck_915 : ty_kok ty_h (ty_ex 24 6) 181 kc_915 = true := by decide +kernel
set_option maxRecDepth 10000000 in
theorem ck_916 : ty_kok ty_h (ty_ex 24 6) 181 kc_916 = true := by decide +kernel
set_option maxRecDepth 10000000 in
theorem ck_917 : ty_kok ty_h (ty_ex 24 6) 181 kc_917 = true := by decide +kernel
set_option maxRecDepth 10000000 in
theorem ck_918 : ty_kok ty_h (ty_ex 24 6) 181 kc_918 = true := by decide +kernel
set_option maxRecDepth 10000000 in
theorem ck_919 : ty_kok ty_h (ty_ex 24 6) 181 kc_919 = true := by decide +kernel
set_option maxRecDepth 10000000 in
theorem ck_920 : ty_kok ty_h (ty_ex 24 6) 181 kc_920 = true := by decide +kernel
set_option maxRecDepth 10000000 in
theorem ck_921 : ty_kok ty_h (ty_ex 24 6) 181 kc_921 = true := by decide +kernel
set_option maxRecDepth 10000000 in
theorem ck_922 : ty_kok ty_h (ty_ex 24 6) 181 kc_922 = true := by decide +kernel
set_option maxRecDepth 10000000 in
theorem ck_923 : ty_kok ty_h (ty_ex 24 6) 181 kc_923 = true := by decide +kernel
set_option maxRecDepth 10000000 in
theorem ck_924 : ty_kok ty_h (ty_ex 24 6) 181 kc_924 = true := by decide +kernel
set_option maxRecDepth 10000000 in
theorem ck_925 : ty_kok ty_h (ty_ex 24 6) 181 kc_925 = true := by decide +kernel
set_option maxRecDepth 10000000 in
theorem ck_926 : ty_kok ty_h (ty_ex 24 6) 181 kc_926 = true := by decide +kernel
set_option maxRecDepth 10000000 in
theorem ck_927 : ty_kok ty_h (ty_ex 24 6) 181 kc_927 = true := by decide +kernel
set_option maxRecDepth 10000000 in
theorem ck_928 : ty_kok ty_h (ty_ex 24 6) 181 kc_928 = true := by decide +kernel
set_option maxRecDepth 10000000 in
theorem ck_929 : ty_kok ty_h (ty_ex 24 6) 181 kc_929 = true := by decide +kernel
set_option maxRecDepth 10000000 in
theorem ck_930 : ty_kok ty_h (ty_ex 24 6) 181 kc_930 = true := by decide +kernel
set_option maxRecDepth 10000000 in
theorem ck_931 : ty_kok ty_h (ty_ex 24 6) 181 kc_931 = true := by decide +kernel
set_option maxRecDepth 10000000 in
theorem ck_932 : ty_kok ty_h (ty_ex 24 6) 181 kc_932 = true := by decide +kernel
set_option maxRecDepth 10000000 in
theorem ck_933 : ty_kok ty_h (ty_ex 24 6) 181 kc_933 = true := by decide +kernel
set_option maxRecDepth 10000000 in
theorem ck_934 : ty_kok ty_h (ty_ex 24 6) 181 kc_934 = true := by decide +kernel
set_option maxRecDepth 10000000 in
theorem ck_935 : ty_kok ty_h (ty_ex 24 6) 181 kc_935 = true := by decide +kernel
set_option maxRecDepth 10000000 in
theorem ck_936 : ty_kok ty_h (ty_ex 24 6) 181 kc_936 = true := by decide +kernel
set_option maxRecDepth 10000000 in
theorem ck_937 : ty_kok ty_h (ty_ex 24 6) 181 kc_937 = true := by decide +kernel
set_option maxRecDepth 10000000 in
theorem ck_938 : ty_kok ty_h (ty_ex 25 6) 184 kc_938 = true := by decide +kernel
set_option maxRecDepth 10000000 in
theorem ck_939 : ty_kok ty_h (ty_ex 25 6) 184 kc_939 = true := by decide +kernel
set_option maxRecDepth 10000000 in
theorem ck_940 : ty_kok ty_h (ty_ex 25 6) 184 kc_940 = true := by decide +kernel
set_option maxRecDepth 10000000 in
theorem ck_941 : ty_kok ty_h (ty_ex 25 6) 184 kc_941 = true := by decide +kernel
set_option maxRecDepth 10000000 in
theorem ck_942 : ty_kok ty_h (ty_ex 25 6) 184 kc_942 = true := by decide +kernel
set_option maxRecDepth 10000000 in
theorem ck_943 : ty_kok ty_h (ty_ex 25 6) 184 kc_943 = true := by decide +kernel
set_option maxRecDepth 10000000 in
theorem ck_944 : ty_kok ty_h (ty_ex 25 6) 184 kc_944 = true := by decide +kernel
set_option maxRecDepth 10000000 in
theorem ck_945 : ty_kok ty_h (ty_ex 25 6) 184 kc_945 = true := by decide +kernel
set_option maxRecDepth 10000000 in
theorem ck_946 : ty_kok ty_h (ty_ex 25 6) 184 kc_946 = true := by decide +kernel
set_option maxRecDepth 10000000 in
theorem ck_947 : ty_kok ty_h (ty_ex 25 6) 184 kc_947 = true := by decide +kernel
set_option maxRecDepth 10000000 in
theorem ck_948 : ty_kok ty_h (ty_ex 25 6) 184 kc_948 = true := by decide +kernel
set_option maxRecDepth 10000000 in
theorem ck_949 : ty_kok ty_h (ty_ex 25 6) 184 kc_949 = true := by decide +kernel
set_option maxRecDepth 10000000 in
theorem ck_950 : ty_kok ty_h (ty_ex 25 6) 184 kc_950 = true := by decide +kernel
set_option maxRecDepth 10000000 in
theorem ck_951 : ty_kok ty_h (ty_ex 25 6) 184 kc_951 = true := by decide +kernel
set_option maxRecDepth 10000000 in
theorem ck_952 : ty_kok ty_h (ty_ex 25 6) 184 kc_952 = true := by decide +kernel
set_option maxRecDepth 10000000 in
theorem ck_953 : ty_kok ty_h (ty_ex 25 6) 184 kc_953 = true := by decide +kernel
set_option maxRecDepth 10000000 in
theorem ck_954 : ty_kok ty_h (ty_ex 25 6) 184 kc_954 = true := by decide +kernel
set_option maxRecDepth 10000000 in
theorem ck_955 : ty_kok ty_h (ty_ex 25 6) 184 kc_955 = true := by decide +kernel
set_option maxRecDepth 10000000 in
theorem ck_956 : ty_kok ty_h (ty_ex 25 6) 184 kc_956 = true := by decide +kernel
set_option maxRecDepth 10000000 in
theorem ck_957 : ty_kok ty_h (ty_ex 25 6) 184 kc_957 = true := by decide +kernel
set_option maxRecDepth 10000000 in
theorem ck_958 : ty_kok ty_h (ty_ex 25 6) 184 kc_958 = true := by decide +kernel
set_option maxRecDepth 10000000 in
theorem ck_959 : ty_kok ty_h (ty_ex 25 6) 184 kc_959 = true := by decide +kernel
