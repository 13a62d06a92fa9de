/-! checked by the kernel, part 16 -/
set_option maxRecDepth 10000000 in
theorem ck_960 : ty_kok ty_h (ty_ex 25 6) 184 kc_960 = true := by decide +kernel
set_option maxRecDepth 10000000 in
theorem ck_961 : ty_kok ty_h (ty_ex 25 6) 184 kc_961 = true := by decide +kernel
set_option maxRecDepth 10000000 in
theorem ck_962 : ty_kok ty_h (ty_ex 25 6) 184 kc_962 = true := by decide +kernel
set_option maxRecDepth 10000000 in
theorem ck_963 : ty_kok ty_h (ty_ex 25 6) 184 kc_963 = true := by decide +kernel
set_option maxRecDepth 10000000 in
theorem ck_964 : ty_kok ty_h (ty_ex 25 6) 206 kc_964 = true := by decide +kernel
set_option maxRecDepth 10000000 in
theorem ck_965 : ty_kok ty_h (ty_ex 25 6) 206 kc_965 = true := by decide +kernel
set_option maxRecDepth 10000000 in
theorem ck_966 : ty_kok ty_h (ty_ex 25 6) 206 kc_966 = true := by decide +kernel
set_option maxRecDepth 10000000 in
theorem ck_967 : ty_kok ty_h (ty_ex 25 6) 206 kc_967 = true := by decide +kernel
set_option maxRecDepth 10000000 in
theorem ck_968 : ty_kok ty_h (ty_ex 25 6) 206 kc_968 = true := by decide +kernel
set_option maxRecDepth 10000000 in
theorem ck_969 : ty_kok ty_h (ty_ex 25 6) 206 kc_969 = true := by decide +kernel
set_option maxRecDepth 10000000 in
theorem ck_970 : ty_kok ty_h (ty_ex 25 6) 206 kc_970 = true := by decide +kernel
set_option maxRecDepth 10000000 in
theorem ck_971 : ty_kok ty_h (ty_ex 25 6) 206 kc_971 = true := by decide +kernel
set_option maxRecDepth 10000000 in
theorem ck_972 : ty_kok ty_h (ty_ex 25 6) 206 kc_972 = true := by decide +kernel
set_option maxRecDepth 10000000 in
theorem ck_973 : ty_kok ty_h (ty_ex 25 6) 206 kc_973 = true := by decide +kernel
set_option maxRecDepth 10000000 in
theorem ck_974 : ty_kok ty_h (ty_ex 25 6) 206 kc_974 = true := by decide +kernel
set_option maxRecDepth 10000000 in
theorem ck_975 : ty_kok ty_h (ty_ex 25 6) 206 kc_975 = true := by decide +kernel
set_option maxRecDepth 10000000 in
theorem ck_976 : ty_kok ty_h (ty_ex 25 6) 206 kc_976 = true := by decide +kernel
set_option maxRecDepth 10000000 in
theorem ck_977 : ty_kok ty_h (ty_ex 25 6) 206 kc_977 = true := by decide +kernel
set_option maxRecDepth 10000000 in
theorem ck_978 : ty_kok ty_h (ty_ex 25 6) 206 kc_978 = true := by decide +kernel
set_option maxRecDepth 10000000 in
theorem ck_979 : ty_kok ty_h (ty_ex 25 6) 206 kc_979 = true := by decide +kernel
set_option maxRecDepth 10000000 in
theorem ck_980 : ty_kok ty_h (ty_ex 25 6) 206 kc_980 = true := by decide +kernel
set_option maxRecDepth 10000000 in
theorem ck_981 : ty_kok ty_h (ty_ex 25 6) 206 kc_981 = true := by decide +kernel
set_option maxRecDepth 10000000 in
theorem ck_982 : ty_kok ty_h (ty_ex 25 6) 206 kc_982 = true := by decide +kernel
set_option maxRecDepth 10000000 in
theorem ck_983 : ty_kok ty_h (ty_ex 25 6) 206 kc_983 = true := by decide +kernel
set_option maxRecDepth 10000000 in
theorem ck_984 : ty_kok ty_h (ty_ex 25 6) 206 kc_984 = true := by decide +kernel
set_option maxRecDepth 10000000 in
theorem ck_985 : ty_kok ty_h (ty_ex 25 6) 206 kc_985 = true := by decide +kernel
set_option maxRecDepth 10000000 in
theorem ck_986 : ty_kok ty_h (ty_ex 25 6) 206 kc_986 = true := by decide +kernel
set_option maxRecDepth 10000000 in
theorem ck_987 : ty_kok ty_h (ty_ex 25 6) 206 kc_987 = true := by decide +kernel
set_option maxRecDepth 10000000 in
theorem ck_988 : ty_kok ty_h (ty_ex 26 6) 183 kc_988 = true := by decide +kernel
set_option maxRecDepth 10000000 in
theorem ck_989 : ty_kok ty_h (ty_ex 26 6) 183 kc_989 = true := by decide +kernel
set_option maxRecDepth 10000000 in
theorem ck_990 : ty_kok ty_h (ty_ex 26 6) 183 kc_990 = true := by decide +kernel
set_option maxRecDepth 10000000 in
theorem ck_991 : ty_kok ty_h (ty_ex 26 6) 183 kc_991 = true := by decide +kernel
set_option maxRecDepth 10000000 in
theorem ck_992 : ty_kok ty_h (ty_ex 26 6) 183 kc_992 = true := by decide +kernel
set_option maxRecDepth 10000000 in
theorem ck_993 : ty_kok ty_h (ty_ex 26 6) 183 kc_993 = true := by decide +kernel
set_option maxRecDepth 10000000 in
theorem ck_994 : ty_kok ty_h (ty_ex 26 6) 183 kc_994 = true := by decide +kernel
set_option maxRecDepth 10000000 in
theorem ck_995 : ty_kok ty_h (ty_ex 26 6) 183 kc_995 = true := by decide +kernel
set_option maxRecDepth 10000000 in
theorem ck_996 : ty_kok ty_h (ty_ex 26 6) 183 kc_996 = true := by decide +kernel
set_option maxRecDepth 10000000 in
theorem ck_997 : ty_kok ty_h (ty_ex 26 6) 183 kc_997 = true := by decide +kernel
set_option maxRecDepth 10000000 in
theorem ck_998 : ty_kok ty_h (ty_ex 26 6) 183 kc_998 = true := by decide +kernel
set_option maxRecDepth 10000000 in
theorem ck_999 : ty_kok ty_h (ty_ex 26 6) 183 kc_999 = true := by decide +kernel
set_option maxRecDepth 10000000 in
theorem ck_1000 : ty_kok ty_h (ty_ex 26 6) 183 kc_1000 = true := by decide +kernel
set_option maxRecDepth 10000000 in
theorem ck_1001 : ty_kok ty_h (ty_ex 26 6) 183 kc_1001 = true := by decide +kernel
set_option maxRecDepth 10000000 in
theorem ck_1002 : ty_kok ty_h (ty_ex 26 6) 183 kc_1002 = true := by decide +kernel
set_option maxRecDepth 10000000 in
theorem ck_1003 : ty_kok ty_h (ty_ex 26 6) 183 kc_1003 = true := by decide +kernel
set_option maxRecDepth 10000000 in
theorem ck_1004 : ty_kok ty_h (ty_ex 26 6) 183 kc_1004 = true := by decide +kernel
set_option maxRecDepth 10000000 in
theorem ck_1005 : ty_kok ty_h (ty_ex 26 6) 183 kc_1005 = true := by decide +kernel
set_option maxRecDepth 10000000 in
theorem ck_1006 : ty_kok ty_h (ty_ex 26 6) 183 kc_1006 = true := by decide +kernel
set_option maxRecDepth 10000000 in
theorem ck_1007 : ty_kok ty_h (ty_ex 26 6) 183 kc_1007 = true := by decide +kernel
set_option maxRecDepth 10000000 in
theorem ck_1008 : ty_kok ty_h (ty_ex 26 6) 183 kc_1008 = true := by decide +kernel
set_option maxRecDepth 10000000 in
theorem ck_1009 : ty_kok ty_h (ty_ex 26 6) 183 kc_1009 = true := by decide +kernel
set_option maxRecDepth 10000000 in
theorem ck_1010 : ty_kok ty_h (ty_ex 26 6) 183 kc_1010 = true := by decide +kernel
set_option maxRecDepth 10000000 in
theorem ck_1011 : ty_kok ty_h (ty_ex 26 6) 183 kc_1011 = true := by decide +kernel
set_option maxRecDepth 10000000 in
theorem ck_1012 : ty_kok ty_h (ty_ex 26 6) 183 kc_1012 = true := by decide +kernel
set_option maxRecDepth 10000000 in
theorem ck_1013 : ty_kok ty_h (ty_ex 26 6) 183 kc_1013 = true := by decide +kernel
set_option maxRecDepth 10000000 in
theorem ck_1014 : ty_kok ty_h (ty_ex 26 6) 202 kc_1014 = true := by decide +kernel
set_option maxRecDepth 10000000 in
theorem ck_1015 : ty_kok ty_h (ty_ex 26 6) 202 kc_1015 = true := by decide +kernel
set_option maxRecDepth 10000000 in
theorem ck_1016 : ty_kok ty_h (ty_ex 26 6) 202 kc_1016 = true := by decide +kernel
set_option maxRecDepth 10000000 in
theorem ck_1017 : ty_kok ty_h (ty_ex 26 6) 202 kc_1017 = true := by decide +kernel
set_option maxRecDepth 10000000 in
theorem ck_1018 : ty_kok ty_h (ty_ex 26 6) 202 kc_1018 = true := by decide +kernel
set_option maxRecDepth 10000000 in
theorem ck_1019 : ty_kok ty_h (ty_ex 26 6) 202 kc_1019 = true := by decide +kernel
