/-! checked by the kernel, part 18 -/
set_option maxRecDepth 10000000 in
theorem ck_1080 : ty_kok ty_h (ty_ex 30 6) 181 kc_1080 = true := by decide +kernel
set_option maxRecDepth 10000000 in
theorem ck_1081 : ty_kok ty_h (ty_ex 30 6) 181 kc_1081 = true := by decide +kernel
set_option maxRecDepth 10000000 in
theorem ck_1082 : ty_kok ty_h (ty_ex 30 6) 181 kc_1082 = true := by decide +kernel
set_option maxRecDepth 10000000 in
theorem ck_1083 : ty_kok ty_h (ty_ex 30 6) 181 kc_1083 = true := by decide +kernel
set_option maxRecDepth 10000000 in
theorem ck_1084 : ty_kok ty_h (ty_ex 30 6) 181 kc_1084 = true := by decide +kernel
set_option maxRecDepth 10000000 in
theorem ck_1085 : ty_kok ty_h (ty_ex 30 6) 181 kc_1085 = true := by decide +kernel
set_option maxRecDepth 10000000 in
theorem ck_1086 : ty_kok ty_h (ty_ex 30 6) 181 kc_1086 = true := by decide +kernel
set_option maxRecDepth 10000000 in
theorem ck_1087 : ty_kok ty_h (ty_ex 30 6) 181 kc_1087 = true := by decide +kernel
set_option maxRecDepth 10000000 in
theorem ck_1088 : ty_kok ty_h (ty_ex 30 6) 181 kc_1088 = true := by decide +kernel
set_option maxRecDepth 10000000 in
theorem ck_1089 : ty_kok ty_h (ty_ex 30 6) 181 kc_1089 = true := by decide +kernel
set_option maxRecDepth 10000000 in
theorem ck_1090 : ty_kok ty_h (ty_ex 30 6) 181 kc_1090 = true := by decide +kernel
set_option maxRecDepth 10000000 in
theorem ck_1091 : ty_kok ty_h (ty_ex 30 6) 181 kc_1091 = true := by decide +kernel
set_option maxRecDepth 10000000 in
theorem ck_1092 : ty_kok ty_h (ty_ex 31 6) 184 kc_1092 = true := by decide +kernel
set_option maxRecDepth 10000000 in
theorem ck_1093 : ty_kok ty_h (ty_ex 31 6) 184 kc_1093 = true := by decide +kernel
set_option maxRecDepth 10000000 in
theorem ck_1094 : ty_kok ty_h (ty_ex 31 6) 184 kc_1094 = true := by decide +kernel
set_option maxRecDepth 10000000 in
theorem ck_1095 : ty_kok ty_h (ty_ex 31 6) 184 kc_1095 = true := by decide +kernel
set_option maxRecDepth 10000000 in
theorem ck_1096 : ty_kok ty_h (ty_ex 31 6) 184 kc_1096 = true := by decide +kernel
set_option maxRecDepth 10000000 in
theorem ck_1097 : ty_kok ty_h (ty_ex 31 6) 184 kc_1097 = true := by decide +kernel
set_option maxRecDepth 10000000 in
theorem ck_1098 : ty_kok ty_h (ty_ex 31 6) 184 kc_1098 = true := by decide +kernel
set_option maxRecDepth 10000000 in
theorem ck_1099 : ty_kok ty_h (ty_ex 31 6) 184 kc_1099 = true := by decide +kernel
set_option maxRecDepth 10000000 in
theorem ck_1100 : ty_kok ty_h (ty_ex 31 6) 184 kc_1100 = true := by decide +kernel
set_option maxRecDepth 10000000 in
theorem ck_1101 : ty_kok ty_h (ty_ex 31 6) 184 kc_1101 = true := by decide +kernel
set_option maxRecDepth 10000000 in
theorem ck_1102 : ty_kok ty_h (ty_ex 31 6) 184 kc_1102 = true := by decide +kernel
set_option maxRecDepth 10000000 in
theorem ck_1103 : ty_kok ty_h (ty_ex 31 6) 184 kc_1103 = true := by decide +kernel
set_option maxRecDepth 10000000 in
theorem ck_1104 : ty_kok ty_h (ty_ex 31 6) 184 kc_1104 = true := by decide +kernel
set_option maxRecDepth 10000000 in
theorem ck_1105 : ty_kok ty_h (ty_ex 31 6) 184 kc_1105 = true := by decide +kernel
set_option maxRecDepth 10000000 in
theorem ck_1106 : ty_kok ty_h (ty_ex 31 6) 184 kc_1106 = true := by decide +kernel
set_option maxRecDepth 10000000 in
theorem ck_1107 : ty_kok ty_h (ty_ex 31 6) 184 kc_1107 = true := by decide +kernel
set_option maxRecDepth 10000000 in
theorem ck_1108 : ty_kok ty_h (ty_ex 31 6) 184 kc_1108 = true := by decide +kernel
set_option maxRecDepth 10000000 in
theorem ck_1109 : ty_kok ty_h (ty_ex 31 6) 184 kc_1109 = true := by decide +kernel
set_option maxRecDepth 10000000 in
theorem ck_1110 : ty_kok ty_h (ty_ex 31 6) 184 kc_1110 = true := by decide +kernel
set_option maxRecDepth 10000000 in
theorem ck_1111 : ty_kok ty_h (ty_ex 31 6) 184 kc_1111 = true := by decide +kernel
set_option maxRecDepth 10000000 in
theorem ck_1112 : ty_kok ty_h (ty_ex 31 6) 184 kc_1112 = true := by decide +kernel
set_option maxRecDepth 10000000 in
theorem ck_1113 : ty_kok ty_h (ty_ex 31 6) 184 kc_1113 = true := by decide +kernel
set_option maxRecDepth 10000000 in
theorem ck_1114 : ty_kok ty_h (ty_ex 31 6) 206 kc_1114 = true := by decide +kernel
set_option maxRecDepth 10000000 in
theorem ck_1115 : ty_kok ty_h (ty_ex 31 6) 206 kc_1115 = true := by decide +kernel
set_option maxRecDepth 10000000 in
theorem ck_1116 : ty_kok ty_h (ty_ex 31 6) 206 kc_1116 = true := by decide +kernel
set_option maxRecDepth 10000000 in
theorem ck_1117 : ty_kok ty_h (ty_ex 31 6) 206 kc_1117 = true := by decide +kernel
set_option maxRecDepth 10000000 in
theorem ck_1118 : ty_kok ty_h (ty_ex 31 6) 206 kc_1118 = true := by decide +kernel
set_option maxRecDepth 10000000 in
theorem ck_1119 : ty_kok ty_h (ty_ex 31 6) 206 kc_1119 = true := by decide +kernel
set_option maxRecDepth 10000000 in
theorem ck_1120 : ty_kok ty_h (ty_ex 31 6) 206 kc_1120 = true := by decide +kernel
set_option maxRecDepth 10000000 in
theorem ck_1121 : ty_kok ty_h (ty_ex 31 6) 206 kc_1121 = true := by decide +kernel
set_option maxRecDepth 10000000 in
theorem ck_1122 : ty_kok ty_h (ty_ex 31 6) 206 kc_1122 = true := by decide +kernel
set_option maxRecDepth 10000000 in
theorem ck_1123 : ty_kok ty_h (ty_ex 31 6) 206 kc_1123 = true := by decide +kernel
set_option maxRecDepth 10000000 in
theorem ck_1124 : ty_kok ty_h (ty_ex 31 6) 206 kc_1124 = true := by decide +kernel
set_option maxRecDepth 10000000 in
theorem ck_1125 : ty_kok ty_h (ty_ex 31 6) 206 kc_1125 = true := by decide +kernel
set_option maxRecDepth 10000000 in
theorem ck_1126 : ty_kok ty_h (ty_ex 31 6) 206 kc_1126 = true := by decide +kernel
set_option maxRecDepth 10000000 in
theorem ck_1127 : ty_kok ty_h (ty_ex 31 6) 206 kc_1127 = true := by decide +kernel
set_option maxRecDepth 10000000 in
theorem ck_1128 : ty_kok ty_h (ty_ex 31 6) 206 kc_1128 = true := by decide +kernel
set_option maxRecDepth 10000000 in
theorem ck_1129 : ty_kok ty_h (ty_ex 31 6) 206 kc_1129 = true := by decide +kernel
set_option maxRecDepth 10000000 in
theorem ck_1130 : ty_kok ty_h (ty_ex 31 6) 206 kc_1130 = true := by decide +kernel
set_option maxRecDepth 10000000 in
theorem ck_1131 : ty_kok ty_h (ty_ex 31 6) 206 kc_1131 = true := by decide +kernel
set_option maxRecDepth 10000000 in
theorem ck_1132 : ty_kok ty_h (ty_ex 31 6) 206 kc_1132 = true := by decide +kernel
set_option maxRecDepth 10000000 in
theorem ck_1133 : ty_kok ty_h (ty_ex 31 6) 206 kc_1133 = true := by decide +kernel
set_option maxRecDepth 10000000 in
theorem ck_1134 : ty_kok ty_h (ty_ex 32 6) 183 kc_1134 = true := by decide +kernel
set_option maxRecDepth 10000000 in
theorem ck_1135 : ty_kok ty_h (ty_ex 32 6) 183 kc_1135 = true := by decide +kernel
set_option maxRecDepth 10000000 in
theorem ck_1136 : ty_kok ty_h (ty_ex 32 6) 183 kc_1136 = true := by decide +kernel
set_option maxRecDepth 10000000 in
theorem ck_1137 : ty_kok ty_h (ty_ex 32 6) 183 kc_1137 = true := by decide +kernel
set_option maxRecDepth 10000000 in
theorem ck_1138 : ty_kok ty_h (ty_ex 32 6) 183 kc_1138 = true := by decide +kernel
set_option maxRecDepth 10000000 in
theorem ck_1139 : ty_kok ty_h (ty_ex 32 6) 183 kc_1139 = true := by decide +kernel
