/-! checked by the kernel, part 20 -/
set_option maxRecDepth 10000000 in
theorem ck_1200 : ty_kok ty_h (ty_ex 36 6) 167 kc_1200 = true := by decide +kernel
set_option maxRecDepth 10000000 in
theorem ck_1201 : ty_kok ty_h (ty_ex 36 6) 167 kc_1201 = true := by decide +kernel
set_option maxRecDepth 10000000 in
theorem ck_1202 : ty_kok ty_h (ty_ex 36 6) 167 kc_1202 = true := by decide +kernel
set_option maxRecDepth 10000000 in
theorem ck_1203 : ty_kok ty_h (ty_ex 36 6) 167 kc_1203 = true := by decide +kernel
set_option maxRecDepth 10000000 in
theorem ck_1204 : ty_kok ty_h (ty_ex 36 6) 181 kc_1204 = true := by decide +kernel
set_option maxRecDepth 10000000 in
theorem ck_1205 : ty_kok ty_h (ty_ex 36 6) 181 kc_1205 = true := by decide +kernel
set_option maxRecDepth 10000000 in
theorem ck_1206 : ty_kok ty_h (ty_ex 36 6) 181 kc_1206 = true := by decide +kernel
set_option maxRecDepth 10000000 in
theorem ck_1207 : ty_kok ty_h (ty_ex 36 6) 181 kc_1207 = true := by decide +kernel
set_option maxRecDepth 10000000 in
theorem ck_1208 : ty_kok ty_h (ty_ex 36 6) 181 kc_1208 = true := by decide +kernel
set_option maxRecDepth 10000000 in
theorem ck_1209 : ty_kok ty_h (ty_ex 36 6) 181 kc_1209 = true := by decide +kernel
set_option maxRecDepth 10000000 in
theorem ck_1210 : ty_kok ty_h (ty_ex 36 6) 181 kc_1210 = true := by decide +kernel
set_option maxRecDepth 10000000 in
theorem ck_1211 : ty_kok ty_h (ty_ex 36 6) 181 kc_1211 = true := by decide +kernel
set_option maxRecDepth 10000000 in
theorem ck_1212 : ty_kok ty_h (ty_ex 36 6) 181 kc_1212 = true := by decide +kernel
set_option maxRecDepth 10000000 in
theorem ck_1213 : ty_kok ty_h (ty_ex 36 6) 181 kc_1213 = true := by decide +kernel
set_option maxRecDepth 10000000 in
theorem ck_1214 : ty_kok ty_h (ty_ex 36 6) 181 kc_1214 = true := by decide +kernel
set_option maxRecDepth 10000000 in
theorem ck_1215 : ty_kok ty_h (ty_ex 36 6) 181 kc_1215 = true := by decide +kernel
set_option maxRecDepth 10000000 in
theorem ck_1216 : ty_kok ty_h (ty_ex 36 6) 181 kc_1216 = true := by decide +kernel
set_option maxRecDepth 10000000 in
theorem ck_1217 : ty_kok ty_h (ty_ex 36 6) 181 kc_1217 = true := by decide +kernel
set_option maxRecDepth 10000000 in
theorem ck_1218 : ty_kok ty_h (ty_ex 36 6) 181 kc_1218 = true := by decide +kernel
set_option maxRecDepth 10000000 in
theorem ck_1219 : ty_kok ty_h (ty_ex 36 6) 181 kc_1219 = true := by decide +kernel
set_option maxRecDepth 10000000 in
theorem ck_1220 : ty_kok ty_h (ty_ex 36 6) 181 kc_1220 = true := by decide +kernel
set_option maxRecDepth 10000000 in
theorem ck_1221 : ty_kok ty_h (ty_ex 36 6) 181 kc_1221 = true := by decide +kernel
set_option maxRecDepth 10000000 in
theorem ck_1222 : ty_kok ty_h (ty_ex 37 6) 184 kc_1222 = true := by decide +kernel
set_option maxRecDepth 10000000 in
theorem ck_1223 : ty_kok ty_h (ty_ex 37 6) 184 kc_1223 = true := by decide +kernel
set_option maxRecDepth 10000000 in
theorem ck_1224 : ty_kok ty_h (ty_ex 37 6) 184 kc_1224 = true := by decide +kernel
set_option maxRecDepth 10000000 in
theorem ck_1225 : ty_kok ty_h (ty_ex 37 6) 184 kc_1225 = true := by decide +kernel
set_option maxRecDepth 10000000 in
theorem ck_1226 : ty_kok ty_h (ty_ex 37 6) 184 kc_1226 = true := by decide +kernel
set_option maxRecDepth 10000000 in
theorem ck_1227 : ty_kok ty_h (ty_ex 37 6) 184 kc_1227 = true := by decide +kernel
set_option maxRecDepth 10000000 in
theorem ck_1228 : ty_kok ty_h (ty_ex 37 6) 184 kc_1228 = true := by decide +kernel
set_option maxRecDepth 10000000 in
theorem ck_1229 : ty_kok ty_h (ty_ex 37 6) 184 kc_1229 = true := by decide +kernel
set_option maxRecDepth 10000000 in
theorem ck_1230 : ty_kok ty_h (ty_ex 37 6) 184 kc_1230 = true := by decide +kernel
set_option maxRecDepth 10000000 in
theorem ck_1231 : ty_kok ty_h (ty_ex 37 6) 184 kc_1231 = true := by decide +kernel
set_option maxRecDepth 10000000 in
theorem ck_1232 : ty_kok ty_h (ty_ex 37 6) 184 kc_1232 = true := by decide +kernel
set_option maxRecDepth 10000000 in
theorem ck_1233 : ty_kok ty_h (ty_ex 37 6) 184 kc_1233 = true := by decide +kernel
set_option maxRecDepth 10000000 in
theorem ck_1234 : ty_kok ty_h (ty_ex 37 6) 184 kc_1234 = true := by decide +kernel
set_option maxRecDepth 10000000 in
theorem ck_1235 : ty_kok ty_h (ty_ex 37 6) 184 kc_1235 = true := by decide +kernel
set_option maxRecDepth 10000000 in
theorem ck_1236 : ty_kok ty_h (ty_ex 37 6) 184 kc_1236 = true := by decide +kernel
set_option maxRecDepth 10000000 in
theorem ck_1237 : ty_kok ty_h (ty_ex 37 6) 184 kc_1237 = true := by decide +kernel
set_option maxRecDepth 10000000 in
theorem ck_1238 : ty_kok ty_h (ty_ex 37 6) 184 kc_1238 = true := by decide +kernel
set_option maxRecDepth 10000000 in
theorem ck_1239 : ty_kok ty_h (ty_ex 37 6) 184 kc_1239 = true := by decide +kernel
set_option maxRecDepth 10000000 in
theorem ck_1240 : ty_kok ty_h (ty_ex 37 6) 206 kc_1240 = true := by decide +kernel
set_option maxRecDepth 10000000 in
theorem ck_1241 : ty_kok ty_h (ty_ex 37 6) 206 kc_1241 = true := by decide +kernel
set_option maxRecDepth 10000000 in
theorem ck_1242 : ty_kok ty_h (ty_ex 37 6) 206 kc_1242 = true := by decide +kernel
set_option maxRecDepth 10000000 in
theorem ck_1243 : ty_kok ty_h (ty_ex 37 6) 206 kc_1243 = true := by decide +kernel
set_option maxRecDepth 10000000 in
theorem ck_1244 : ty_kok ty_h (ty_ex 37 6) 206 kc_1244 = true := by decide +kernel
set_option maxRecDepth 10000000 in
theorem ck_1245 : ty_kok ty_h (ty_ex 37 6) 206 kc_1245 = true := by decide +kernel
set_option maxRecDepth 10000000 in
theorem ck_1246 : ty_kok ty_h (ty_ex 37 6) 206 kc_1246 = true := by decide +kernel
set_option maxRecDepth 10000000 in
theorem ck_1247 : ty_kok ty_h (ty_ex 37 6) 206 kc_1247 = true := by decide +kernel
set_option maxRecDepth 10000000 in
theorem ck_1248 : ty_kok ty_h (ty_ex 37 6) 206 kc_1248 = true := by decide +kernel
set_option maxRecDepth 10000000 in
theorem ck_1249 : ty_kok ty_h (ty_ex 37 6) 206 kc_1249 = true := by decide +kernel
set_option maxRecDepth 10000000 in
theorem ck_1250 : ty_kok ty_h (ty_ex 37 6) 206 kc_1250 = true := by decide +kernel
set_option maxRecDepth 10000000 in
theorem ck_1251 : ty_kok ty_h (ty_ex 37 6) 206 kc_1251 = true := by decide +kernel
set_option maxRecDepth 10000000 in
theorem ck_1252 : ty_kok ty_h (ty_ex 37 6) 206 kc_1252 = true := by decide +kernel
set_option maxRecDepth 10000000 in
theorem ck_1253 : ty_kok ty_h (ty_ex 37 6) 206 kc_1253 = true := by decide +kernel
set_option maxRecDepth 10000000 in
theorem ck_1254 : ty_kok ty_h (ty_ex 37 6) 206 kc_1254 = true := by decide +kernel
set_option maxRecDepth 10000000 in
theorem ck_1255 : ty_kok ty_h (ty_ex 37 6) 206 kc_1255 = true := by decide +kernel
set_option maxRecDepth 10000000 in
theorem ck_1256 : ty_kok ty_h (ty_ex 38 6) 183 kc_1256 = true := by decide +kernel
set_option maxRecDepth 10000000 in
theorem ck_1257 : ty_kok ty_h (ty_ex 38 6) 183 kc_1257 = true := by decide +kernel
set_option maxRecDepth 10000000 in
theorem ck_1258 : ty_kok ty_h (ty_ex 38 6) 183 kc_1258 = true := by decide +kernel
set_option maxRecDepth 10000000 in
theorem ck_1259 : ty_kok ty_h (ty_ex 38 6) 183 kc_1259 = true := by decide +kernel
