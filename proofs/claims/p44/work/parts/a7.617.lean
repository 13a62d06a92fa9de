/-! checked by the kernel, part 17 -/
set_option maxRecDepth 10000000 in
theorem ck_1020 : ty_kok ty_h (ty_ex 26 6) 202 kc_1020 = true := by decide +kernel
set_option maxRecDepth 10000000 in
theorem ck_1021 : ty_kok ty_h (ty_ex 26 6) 202 kc_1021 = true := by decide +kernel
set_option maxRecDepth 10000000 in
theorem ck_1022 : ty_kok ty_h (ty_ex 26 6) 202 kc_1022 = true := by decide +kernel
set_option maxRecDepth 10000000 in
theorem ck_1023 : ty_kok ty_h (ty_ex 26 6) 202 kc_1023 = true := by decide +kernel
set_option maxRecDepth 10000000 in
theorem ck_1024 : ty_kok ty_h (ty_ex 26 6) 202 kc_1024 = true := by decide +kernel
set_option maxRecDepth 10000000 in
theorem ck_1025 : ty_kok ty_h (ty_ex 26 6) 202 kc_1025 = true := by decide +kernel
set_option maxRecDepth 10000000 in
theorem ck_1026 : ty_kok ty_h (ty_ex 26 6) 202 kc_1026 = true := by decide +kernel
set_option maxRecDepth 10000000 in
theorem ck_1027 : ty_kok ty_h (ty_ex 26 6) 202 kc_1027 = true := by decide +kernel
set_option maxRecDepth 10000000 in
theorem ck_1028 : ty_kok ty_h (ty_ex 26 6) 202 kc_1028 = true := by decide +kernel
set_option maxRecDepth 10000000 in
theorem ck_1029 : ty_kok ty_h (ty_ex 26 6) 202 kc_1029 = true := by decide +kernel
set_option maxRecDepth 10000000 in
theorem ck_1030 : ty_kok ty_h (ty_ex 26 6) 202 kc_1030 = true := by decide +kernel
set_option maxRecDepth 10000000 in
theorem ck_1031 : ty_kok ty_h (ty_ex 26 6) 202 kc_1031 = true := by decide +kernel
set_option maxRecDepth 10000000 in
theorem ck_1032 : ty_kok ty_h (ty_ex 26 6) 202 kc_1032 = true := by decide +kernel
set_option maxRecDepth 10000000 in
theorem ck_1033 : ty_kok ty_h (ty_ex 26 6) 202 kc_1033 = true := by decide +kernel
set_option maxRecDepth 10000000 in
theorem ck_1034 : ty_kok ty_h (ty_ex 26 6) 202 kc_1034 = true := by decide +kernel
set_option maxRecDepth 10000000 in
theorem ck_1035 : ty_kok ty_h (ty_ex 26 6) 202 kc_1035 = true := by decide +kernel
set_option maxRecDepth 10000000 in
theorem ck_1036 : ty_kok ty_h (ty_ex 26 6) 202 kc_1036 = true := by decide +kernel
set_option maxRecDepth 10000000 in
theorem ck_1037 : ty_kok ty_h (ty_ex 26 6) 202 kc_1037 = true := by decide +kernel
set_option maxRecDepth 10000000 in
theorem ck_1038 : ty_kok ty_h (ty_ex 27 6) 172 kc_1038 = true := by decide +kernel
set_option maxRecDepth 10000000 in
theorem ck_1039 : ty_kok ty_h (ty_ex 27 6) 172 kc_1039 = true := by decide +kernel
set_option maxRecDepth 10000000 in
theorem ck_1040 : ty_kok ty_h (ty_ex 27 6) 182 kc_1040 = true := by decide +kernel
set_option maxRecDepth 10000000 in
theorem ck_1041 : ty_kok ty_h (ty_ex 27 6) 182 kc_1041 = true := by decide +kernel
set_option maxRecDepth 10000000 in
theorem ck_1042 : ty_kok ty_h (ty_ex 28 6) 101 kc_1042 = true := by decide +kernel
set_option maxRecDepth 10000000 in
theorem ck_1043 : ty_kok ty_h (ty_ex 28 6) 101 kc_1043 = true := by decide +kernel
set_option maxRecDepth 10000000 in
theorem ck_1044 : ty_kok ty_h (ty_ex 28 6) 177 kc_1044 = true := by decide +kernel
set_option maxRecDepth 10000000 in
theorem ck_1045 : ty_kok ty_h (ty_ex 28 6) 177 kc_1045 = true := by decide +kernel
set_option maxRecDepth 10000000 in
theorem ck_1046 : ty_kok ty_h (ty_ex 29 6) 185 kc_1046 = true := by decide +kernel
set_option maxRecDepth 10000000 in
theorem ck_1047 : ty_kok ty_h (ty_ex 29 6) 185 kc_1047 = true := by decide +kernel
set_option maxRecDepth 10000000 in
theorem ck_1048 : ty_kok ty_h (ty_ex 29 6) 208 kc_1048 = true := by decide +kernel
set_option maxRecDepth 10000000 in
theorem ck_1049 : ty_kok ty_h (ty_ex 29 6) 208 kc_1049 = true := by decide +kernel
set_option maxRecDepth 10000000 in
theorem ck_1050 : ty_kok ty_h (ty_ex 30 6) 167 kc_1050 = true := by decide +kernel
set_option maxRecDepth 10000000 in
theorem ck_1051 : ty_kok ty_h (ty_ex 30 6) 167 kc_1051 = true := by decide +kernel
set_option maxRecDepth 10000000 in
theorem ck_1052 : ty_kok ty_h (ty_ex 30 6) 167 kc_1052 = true := by decide +kernel
set_option maxRecDepth 10000000 in
theorem ck_1053 : ty_kok ty_h (ty_ex 30 6) 167 kc_1053 = true := by decide +kernel
set_option maxRecDepth 10000000 in
theorem ck_1054 : ty_kok ty_h (ty_ex 30 6) 167 kc_1054 = true := by decide +kernel
set_option maxRecDepth 10000000 in
theorem ck_1055 : ty_kok ty_h (ty_ex 30 6) 167 kc_1055 = true := by decide +kernel
set_option maxRecDepth 10000000 in
theorem ck_1056 : ty_kok ty_h (ty_ex 30 6) 167 kc_1056 = true := by decide +kernel
set_option maxRecDepth 10000000 in
theorem ck_1057 : ty_kok ty_h (ty_ex 30 6) 167 kc_1057 = true := by decide +kernel
set_option maxRecDepth 10000000 in
theorem ck_1058 : ty_kok ty_h (ty_ex 30 6) 167 kc_1058 = true := by decide +kernel
set_option maxRecDepth 10000000 in
theorem ck_1059 : ty_kok ty_h (ty_ex 30 6) 167 kc_1059 = true := by decide +kernel
set_option maxRecDepth 10000000 in
theorem ck_1060 : ty_kok ty_h (ty_ex 30 6) 167 kc_1060 = true := by decide +kernel
set_option maxRecDepth 10000000 in
theorem ck_1061 : ty_kok ty_h (ty_ex 30 6) 167 kc_1061 = true := by decide +kernel
set_option maxRecDepth 10000000 in
theorem ck_1062 : ty_kok ty_h (ty_ex 30 6) 167 kc_1062 = true := by decide +kernel
set_option maxRecDepth 10000000 in
theorem ck_1063 : ty_kok ty_h (ty_ex 30 6) 167 kc_1063 = true := by decide +kernel
set_option maxRecDepth 10000000 in
theorem ck_1064 : ty_kok ty_h (ty_ex 30 6) 167 kc_1064 = true := by decide +kernel
set_option maxRecDepth 10000000 in
theorem ck_1065 : ty_kok ty_h (ty_ex 30 6) 167 kc_1065 = true := by decide +kernel
set_option maxRecDepth 10000000 in
theorem ck_1066 : ty_kok ty_h (ty_ex 30 6) 167 kc_1066 = true := by decide +kernel
set_option maxRecDepth 10000000 in
theorem ck_1067 : ty_kok ty_h (ty_ex 30 6) 167 kc_1067 = true := by decide +kernel
set_option maxRecDepth 10000000 in
theorem ck_1068 : ty_kok ty_h (ty_ex 30 6) 167 kc_1068 = true := by decide +kernel
set_option maxRecDepth 10000000 in
theorem ck_1069 : ty_kok ty_h (ty_ex 30 6) 167 kc_1069 = true := by decide +kernel
set_option maxRecDepth 10000000 in
theorem ck_1070 : ty_kok ty_h (ty_ex 30 6) 181 kc_1070 = true := by decide +kernel
set_option maxRecDepth 10000000 in
theorem ck_1071 : ty_kok ty_h (ty_ex 30 6) 181 kc_1071 = true := by decide +kernel
set_option maxRecDepth 10000000 in
theorem ck_1072 : ty_kok ty_h (ty_ex 30 6) 181 kc_1072 = true := by decide +kernel
set_option maxRecDepth 10000000 in
theorem ck_1073 : ty_kok ty_h (ty_ex 30 6) 181 kc_1073 = true := by decide +kernel
set_option maxRecDepth 10000000 in
theorem ck_1074 : ty_kok ty_h (ty_ex 30 6) 181 kc_1074 = true := by decide +kernel
set_option maxRecDepth 10000000 in
theorem ck_1075 : ty_kok ty_h (ty_ex 30 6) 181 kc_1075 = true := by decide +kernel
set_option maxRecDepth 10000000 in
theorem ck_1076 : ty_kok ty_h (ty_ex 30 6) 181 kc_1076 = true := by decide +kernel
set_option maxRecDepth 10000000 in
theorem ck_1077 : ty_kok ty_h (ty_ex 30 6) 181 kc_1077 = true := by decide +kernel
set_option maxRecDepth 10000000 in
theorem ck_1078 : ty_kok ty_h (ty_ex 30 6) 181 kc_1078 = true := by decide +kernel
set_option maxRecDepth 10000000 in
theorem ck_1079 : ty_kok ty_h (ty_ex 30 6) 181 kc_1079 = true := by decide +kernel
