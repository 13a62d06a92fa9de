/-! checked by the kernel, part 19 -/
set_option maxRecDepth 10000000 in
theorem ck_1140 : ty_kok ty_h (ty_ex 32 6) 183 kc_1140 = true := by decide +kernel
set_option maxRecDepth 10000000 in
theorem ck_1141 : ty_kok ty_h (ty_ex 32 6) 183 kc_1141 = true := by decide +kernel
set_option maxRecDepth 10000000 in
theorem ck_1142 : ty_kok ty_h (ty_ex 32 6) 183 kc_1142 = true := by decide +kernel
set_option maxRecDepth 10000000 in
theorem ck_1143 : ty_kok ty_h (ty_ex 32 6) 183 kc_1143 = true := by decide +kernel
set_option maxRecDepth 10000000 in
theorem ck_1144 : ty_kok ty_h (ty_ex 32 6) 183 kc_1144 = true := by decide +kernel
set_option maxRecDepth 10000000 in
theorem ck_1145 : ty_kok ty_h (ty_ex 32 6) 183 kc_1145 = true := by decide +kernel
set_option maxRecDepth 10000000 in
theorem ck_1146 : ty_kok ty_h (ty_ex 32 6) 183 kc_1146 = true := by decide +kernel
set_option maxRecDepth 10000000 in
theorem ck_1147 : ty_kok ty_h (ty_ex 32 6) 183 kc_1147 = true := by decide +kernel
set_option maxRecDepth 10000000 in
theorem ck_1148 : ty_kok ty_h (ty_ex 32 6) 183 kc_1148 = true := by decide +kernel
set_option maxRecDepth 10000000 in
theorem ck_1149 : ty_kok ty_h (ty_ex 32 6) 183 kc_1149 = true := by decide +kernel
set_option maxRecDepth 10000000 in
theorem ck_1150 : ty_kok ty_h (ty_ex 32 6) 183 kc_1150 = true := by decide +kernel
set_option maxRecDepth 10000000 in
theorem ck_1151 : ty_kok ty_h (ty_ex 32 6) 183 kc_1151 = true := by decide +kernel
set_option maxRecDepth 10000000 in
theorem ck_1152 : ty_kok ty_h (ty_ex 32 6) 183 kc_1152 = true := by decide +kernel
set_option maxRecDepth 10000000 in
theorem ck_1153 : ty_kok ty_h (ty_ex 32 6) 183 kc_1153 = true := by decide +kernel
set_option maxRecDepth 10000000 in
theorem ck_1154 : ty_kok ty_h (ty_ex 32 6) 183 kc_1154 = true := by decide +kernel
set_option maxRecDepth 10000000 in
theorem ck_1155 : ty_kok ty_h (ty_ex 32 6) 183 kc_1155 = true := by decide +kernel
set_option maxRecDepth 10000000 in
theorem ck_1156 : ty_kok ty_h (ty_ex 32 6) 202 kc_1156 = true := by decide +kernel
set_option maxRecDepth 10000000 in
theorem ck_1157 : ty_kok ty_h (ty_ex 32 6) 202 kc_1157 = true := by decide +kernel
set_option maxRecDepth 10000000 in
theorem ck_1158 : ty_kok ty_h (ty_ex 32 6) 202 kc_1158 = true := by decide +kernel
set_option maxRecDepth 10000000 in
theorem ck_1159 : ty_kok ty_h (ty_ex 32 6) 202 kc_1159 = true := by decide +kernel
set_option maxRecDepth 10000000 in
theorem ck_1160 : ty_kok ty_h (ty_ex 32 6) 202 kc_1160 = true := by decide +kernel
set_option maxRecDepth 10000000 in
theorem ck_1161 : ty_kok ty_h (ty_ex 32 6) 202 kc_1161 = true := by decide +kernel
set_option maxRecDepth 10000000 in
theorem ck_1162 : ty_kok ty_h (ty_ex 32 6) 202 kc_1162 = true := by decide +kernel
set_option maxRecDepth 10000000 in
theorem ck_1163 : ty_kok ty_h (ty_ex 32 6) 202 kc_1163 = true := by decide +kernel
set_option maxRecDepth 10000000 in
theorem ck_1164 : ty_kok ty_h (ty_ex 32 6) 202 kc_1164 = true := by decide +kernel
set_option maxRecDepth 10000000 in
theorem ck_1165 : ty_kok ty_h (ty_ex 32 6) 202 kc_1165 = true := by decide +kernel
set_option maxRecDepth 10000000 in
theorem ck_1166 : ty_kok ty_h (ty_ex 32 6) 202 kc_1166 = true := by decide +kernel
set_option maxRecDepth 10000000 in
theorem ck_1167 : ty_kok ty_h (ty_ex 32 6) 202 kc_1167 = true := by decide +kernel
set_option maxRecDepth 10000000 in
theorem ck_1168 : ty_kok ty_h (ty_ex 32 6) 202 kc_1168 = true := by decide +kernel
set_option maxRecDepth 10000000 in
theorem ck_1169 : ty_kok ty_h (ty_ex 32 6) 202 kc_1169 = true := by decide +kernel
set_option maxRecDepth 10000000 in
theorem ck_1170 : ty_kok ty_h (ty_ex 32 6) 202 kc_1170 = true := by decide +kernel
set_option maxRecDepth 10000000 in
theorem ck_1171 : ty_kok ty_h (ty_ex 32 6) 202 kc_1171 = true := by decide +kernel
set_option maxRecDepth 10000000 in
theorem ck_1172 : ty_kok ty_h (ty_ex 32 6) 202 kc_1172 = true := by decide +kernel
set_option maxRecDepth 10000000 in
theorem ck_1173 : ty_kok ty_h (ty_ex 32 6) 202 kc_1173 = true := by decide +kernel
set_option maxRecDepth 10000000 in
theorem ck_1174 : ty_kok ty_h (ty_ex 32 6) 202 kc_1174 = true := by decide +kernel
set_option maxRecDepth 10000000 in
theorem ck_1175 : ty_kok ty_h (ty_ex 32 6) 202 kc_1175 = true := by decide +kernel
set_option maxRecDepth 10000000 in
theorem ck_1176 : ty_kok ty_h (ty_ex 33 6) 172 kc_1176 = true := by decide +kernel
set_option maxRecDepth 10000000 in
theorem ck_1177 : ty_kok ty_h (ty_ex 33 6) 172 kc_1177 = true := by decide +kernel
set_option maxRecDepth 10000000 in
theorem ck_1178 : ty_kok ty_h (ty_ex 33 6) 182 kc_1178 = true := by decide +kernel
set_option maxRecDepth 10000000 in
theorem ck_1179 : ty_kok ty_h (ty_ex 33 6) 182 kc_1179 = true := by decide +kernel
set_option maxRecDepth 10000000 in
theorem ck_1180 : ty_kok ty_h (ty_ex 34 6) 101 kc_1180 = true := by decide +kernel
set_option maxRecDepth 10000000 in
theorem ck_1181 : ty_kok ty_h (ty_ex 34 6) 101 kc_1181 = true := by decide +kernel
set_option maxRecDepth 10000000 in
theorem ck_1182 : ty_kok ty_h (ty_ex 34 6) 177 kc_1182 = true := by decide +kernel
set_option maxRecDepth 10000000 in
theorem ck_1183 : ty_kok ty_h (ty_ex 34 6) 177 kc_1183 = true := by decide +kernel
set_option maxRecDepth 10000000 in
theorem ck_1184 : ty_kok ty_h (ty_ex 35 6) 185 kc_1184 = true := by decide +kernel
set_option maxRecDepth 10000000 in
theorem ck_1185 : ty_kok ty_h (ty_ex 35 6) 185 kc_1185 = true := by decide +kernel
set_option maxRecDepth 10000000 in
theorem ck_1186 : ty_kok ty_h (ty_ex 35 6) 208 kc_1186 = true := by decide +kernel
set_option maxRecDepth 10000000 in
theorem ck_1187 : ty_kok ty_h (ty_ex 35 6) 208 kc_1187 = true := by decide +kernel
set_option maxRecDepth 10000000 in
theorem ck_1188 : ty_kok ty_h (ty_ex 36 6) 167 kc_1188 = true := by decide +kernel
set_option maxRecDepth 10000000 in
theorem ck_1189 : ty_kok ty_h (ty_ex 36 6) 167 kc_1189 = true := by decide +kernel
set_option maxRecDepth 10000000 in
theorem ck_1190 : ty_kok ty_h (ty_ex 36 6) 167 kc_1190 = true := by decide +kernel
set_option maxRecDepth 10000000 in
theorem ck_1191 : ty_kok ty_h (ty_ex 36 6) 167 kc_1191 = true := by decide +kernel
set_option maxRecDepth 10000000 in
theorem ck_1192 : ty_kok ty_h (ty_ex 36 6) 167 kc_1192 = true := by decide +kernel
set_option maxRecDepth 10000000 in
theorem ck_1193 : ty_kok ty_h (ty_ex 36 6) 167 kc_1193 = true := by decide +kernel
set_option maxRecDepth 10000000 in
theorem ck_1194 : ty_kok ty_h (ty_ex 36 6) 167 kc_1194 = true := by decide +kernel
set_option maxRecDepth 10000000 in
theorem ck_1195 : ty_kok ty_h (ty_ex 36 6) 167 kc_1195 = true := by decide +kernel
set_option maxRecDepth 10000000 in
theorem ck_1196 : ty_kok ty_h (ty_ex 36 6) 167 kc_1196 = true := by decide +kernel
set_option maxRecDepth 10000000 in
theorem ck_1197 : ty_kok ty_h (ty_ex 36 6) 167 kc_1197 = true := by decide +kernel
set_option maxRecDepth 10000000 in
theorem ck_1198 : ty_kok ty_h (ty_ex 36 6) 167 kc_1198 = true := by decide +kernel
set_option maxRecDepth 10000000 in
theorem ck_1199 : ty_kok ty_h (ty_ex 36 6) 167 kc_1199 = true := by decide +kernel
