/-! checked by the kernel, part 21 -/
set_option maxRecDepth 10000000 in
theorem ck_1260 : ty_kok ty_h (ty_ex 38 6) 183 kc_1260 = true := by decide +kernel
set_option maxRecDepth 10000000 in
theorem ck_1261 : ty_kok ty_h (ty_ex 38 6) 183 kc_1261 = true := by decide +kernel
set_option maxRecDepth 10000000 in
theorem ck_1262 : ty_kok ty_h (ty_ex 38 6) 183 kc_1262 = true := by decide +kernel
set_option maxRecDepth 10000000 in
theorem ck_1263 : ty_kok ty_h (ty_ex 38 6) 183 kc_1263 = true := by decide +kernel
set_option maxRecDepth 10000000 in
theorem ck_1264 : ty_kok ty_h (ty_ex 38 6) 183 kc_1264 = true := by decide +kernel
set_option maxRecDepth 10000000 in
theorem ck_1265 : ty_kok ty_h (ty_ex 38 6) 183 kc_1265 = true := by decide +kernel
set_option maxRecDepth 10000000 in
theorem ck_1266 : ty_kok ty_h (ty_ex 38 6) 183 kc_1266 = true := by decide +kernel
set_option maxRecDepth 10000000 in
theorem ck_1267 : ty_kok ty_h (ty_ex 38 6) 183 kc_1267 = true := by decide +kernel
set_option maxRecDepth 10000000 in
theorem ck_1268 : ty_kok ty_h (ty_ex 38 6) 183 kc_1268 = true := by decide +kernel
set_option maxRecDepth 10000000 in
theorem ck_1269 : ty_kok ty_h (ty_ex 38 6) 183 kc_1269 = true := by decide +kernel
set_option maxRecDepth 10000000 in
theorem ck_1270 : ty_kok ty_h (ty_ex 38 6) 183 kc_1270 = true := by decide +kernel
set_option maxRecDepth 10000000 in
theorem ck_1271 : ty_kok ty_h (ty_ex 38 6) 183 kc_1271 = true := by decide +kernel
set_option maxRecDepth 10000000 in
theorem ck_1272 : ty_kok ty_h (ty_ex 38 6) 183 kc_1272 = true := by decide +kernel
set_option maxRecDepth 10000000 in
theorem ck_1273 : ty_kok ty_h (ty_ex 38 6) 183 kc_1273 = true := by decide +kernel
set_option maxRecDepth 10000000 in
theorem ck_1274 : ty_kok ty_h (ty_ex 38 6) 202 kc_1274 = true := by decide +kernel
set_option maxRecDepth 10000000 in
theorem ck_1275 : ty_kok ty_h (ty_ex 38 6) 202 kc_1275 = true := by decide +kernel
set_option maxRecDepth 10000000 in
theorem ck_1276 : ty_kok ty_h (ty_ex 38 6) 202 kc_1276 = true := by decide +kernel
set_option maxRecDepth 10000000 in
theorem ck_1277 : ty_kok ty_h (ty_ex 38 6) 202 kc_1277 = true := by decide +kernel
set_option maxRecDepth 10000000 in
theorem ck_1278 : ty_kok ty_h (ty_ex 38 6) 202 kc_1278 = true := by decide +kernel
set_option maxRecDepth 10000000 in
theorem ck_1279 : ty_kok ty_h (ty_ex 38 6) 202 kc_1279 = true := by decide +kernel
set_option maxRecDepth 10000000 in
theorem ck_1280 : ty_kok ty_h (ty_ex 38 6) 202 kc_1280 = true := by decide +kernel
set_option maxRecDepth 10000000 in
theorem ck_1281 : ty_kok ty_h (ty_ex 38 6) 202 kc_1281 = true := by decide +kernel
set_option maxRecDepth 10000000 in
theorem ck_1282 : ty_kok ty_h (ty_ex 38 6) 202 kc_1282 = true := by decide +kernel
set_option maxRecDepth 10000000 in
theorem ck_1283 : ty_kok ty_h (ty_ex 38 6) 202 kc_1283 = true := by decide +kernel
set_option maxRecDepth 10000000 in
theorem ck_1284 : ty_kok ty_h (ty_ex 38 6) 202 kc_1284 = true := by decide +kernel
set_option maxRecDepth 10000000 in
theorem ck_1285 : ty_kok ty_h (ty_ex 38 6) 202 kc_1285 = true := by decide +kernel
set_option maxRecDepth 10000000 in
theorem ck_1286 : ty_kok ty_h (ty_ex 38 6) 202 kc_1286 = true := by decide +kernel
set_option maxRecDepth 10000000 in
theorem ck_1287 : ty_kok ty_h (ty_ex 38 6) 202 kc_1287 = true := by decide +kernel
set_option maxRecDepth 10000000 in
theorem ck_1288 : ty_kok ty_h (ty_ex 38 6) 202 kc_1288 = true := by decide +kernel
set_option maxRecDepth 10000000 in
theorem ck_1289 : ty_kok ty_h (ty_ex 38 6) 202 kc_1289 = true := by decide +kernel
set_option maxRecDepth 10000000 in
theorem ck_1290 : ty_kok ty_h (ty_ex 39 6) 172 kc_1290 = true := by decide +kernel
set_option maxRecDepth 10000000 in
theorem ck_1291 : ty_kok ty_h (ty_ex 39 6) 172 kc_1291 = true := by decide +kernel
set_option maxRecDepth 10000000 in
theorem ck_1292 : ty_kok ty_h (ty_ex 39 6) 182 kc_1292 = true := by decide +kernel
set_option maxRecDepth 10000000 in
theorem ck_1293 : ty_kok ty_h (ty_ex 39 6) 182 kc_1293 = true := by decide +kernel
set_option maxRecDepth 10000000 in
theorem ck_1294 : ty_kok ty_h (ty_ex 40 6) 101 kc_1294 = true := by decide +kernel
set_option maxRecDepth 10000000 in
theorem ck_1295 : ty_kok ty_h (ty_ex 40 6) 101 kc_1295 = true := by decide +kernel
set_option maxRecDepth 10000000 in
theorem ck_1296 : ty_kok ty_h (ty_ex 40 6) 177 kc_1296 = true := by decide +kernel
set_option maxRecDepth 10000000 in
theorem ck_1297 : ty_kok ty_h (ty_ex 40 6) 177 kc_1297 = true := by decide +kernel
set_option maxRecDepth 10000000 in
theorem ck_1298 : ty_kok ty_h (ty_ex 41 6) 185 kc_1298 = true := by decide +kernel
set_option maxRecDepth 10000000 in
theorem ck_1299 : ty_kok ty_h (ty_ex 41 6) 185 kc_1299 = true := by decide +kernel
set_option maxRecDepth 10000000 in
theorem ck_1300 : ty_kok ty_h (ty_ex 41 6) 208 kc_1300 = true := by decide +kernel
set_option maxRecDepth 10000000 in
theorem ck_1301 : ty_kok ty_h (ty_ex 41 6) 208 kc_1301 = true := by decide +kernel
set_option maxRecDepth 10000000 in
theorem ck_1302 : ty_kok ty_h (ty_ex 42 6) 167 kc_1302 = true := by decide +kernel
set_option maxRecDepth 10000000 in
theorem ck_1303 : ty_kok ty_h (ty_ex 42 6) 167 kc_1303 = true := by decide +kernel
set_option maxRecDepth 10000000 in
theorem ck_1304 : ty_kok ty_h (ty_ex 42 6) 167 kc_1304 = true := by decide +kernel
set_option maxRecDepth 10000000 in
theorem ck_1305 : ty_kok ty_h (ty_ex 42 6) 167 kc_1305 = true := by decide +kernel
set_option maxRecDepth 10000000 in
theorem ck_1306 : ty_kok ty_h (ty_ex 42 6) 167 kc_1306 = true := by decide +kernel
set_option maxRecDepth 10000000 in
theorem ck_1307 : ty_kok ty_h (ty_ex 42 6) 167 kc_1307 = true := by decide +kernel
set_option maxRecDepth 10000000 in
theorem ck_1308 : ty_kok ty_h (ty_ex 42 6) 167 kc_1308 = true := by decide +kernel
set_option maxRecDepth 10000000 in
theorem ck_1309 : ty_kok ty_h (ty_ex 42 6) 167 kc_1309 = true := by decide +kernel
set_option maxRecDepth 10000000 in
theorem ck_1310 : ty_kok ty_h (ty_ex 42 6) 167 kc_1310 = true := by decide +kernel
set_option maxRecDepth 10000000 in
theorem ck_1311 : ty_kok ty_h (ty_ex 42 6) 167 kc_1311 = true := by decide +kernel
set_option maxRecDepth 10000000 in
theorem ck_1312 : ty_kok ty_h (ty_ex 42 6) 167 kc_1312 = true := by decide +kernel
set_option maxRecDepth 10000000 in
theorem ck_1313 : ty_kok ty_h (ty_ex 42 6) 167 kc_1313 = true := by decide +kernel
set_option maxRecDepth 10000000 in
theorem ck_1314 : ty_kok ty_h (ty_ex 42 6) 181 kc_1314 = true := by decide +kernel
set_option maxRecDepth 10000000 in
theorem ck_1315 : ty_kok ty_h (ty_ex 42 6) 181 kc_1315 = true := by decide +kernel
set_option maxRecDepth 10000000 in
theorem ck_1316 : ty_kok ty_h (ty_ex 42 6) 181 kc_1316 = true := by decide +kernel
set_option maxRecDepth 10000000 in
theorem ck_1317 : ty_kok ty_h (ty_ex 42 6) 181 kc_1317 = true := by decide +kernel
set_option maxRecDepth 10000000 in
theorem ck_1318 : ty_kok ty_h (ty_ex 42 6) 181 kc_1318 = true := by decide +kernel
set_option maxRecDepth 10000000 in
theorem ck_1319 : ty_kok ty_h (ty_ex 42 6) 181 kc_1319 = true := by decide +kernel
