/-! checked by the kernel, part 22 -/
set_option maxRecDepth 10000000 in
theorem ck_1320 : ty_kok ty_h (ty_ex 42 6) 181 kc_1320 = true := by decide +kernel
set_option maxRecDepth 10000000 in
theorem ck_1321 : ty_kok ty_h (ty_ex 42 6) 181 kc_1321 = true := by decide +kernel
set_option maxRecDepth 10000000 in
theorem ck_1322 : ty_kok ty_h (ty_ex 42 6) 181 kc_1322 = true := by decide +kernel
set_option maxRecDepth 10000000 in
theorem ck_1323 : ty_kok ty_h (ty_ex 42 6) 181 kc_1323 = true := by decide +kernel
set_option maxRecDepth 10000000 in
theorem ck_1324 : ty_kok ty_h (ty_ex 42 6) 181 kc_1324 = true := by decide +kernel
set_option maxRecDepth 10000000 in
theorem ck_1325 : ty_kok ty_h (ty_ex 42 6) 181 kc_1325 = true := by decide +kernel
set_option maxRecDepth 10000000 in
theorem ck_1326 : ty_kok ty_h (ty_ex 42 6) 181 kc_1326 = true := by decide +kernel
set_option maxRecDepth 10000000 in
theorem ck_1327 : ty_kok ty_h (ty_ex 42 6) 181 kc_1327 = true := by decide +kernel
set_option maxRecDepth 10000000 in
theorem ck_1328 : ty_kok ty_h (ty_ex 43 6) 184 kc_1328 = true := by decide +kernel
set_option maxRecDepth 10000000 in
theorem ck_1329 : ty_kok ty_h (ty_ex 43 6) 184 kc_1329 = true := by decide +kernel
set_option maxRecDepth 10000000 in
theorem ck_1330 : ty_kok ty_h (ty_ex 43 6) 184 kc_1330 = true := by decide +kernel
set_option maxRecDepth 10000000 in
theorem ck_1331 : ty_kok ty_h (ty_ex 43 6) 184 kc_1331 = true := by decide +kernel
set_option maxRecDepth 10000000 in
theorem ck_1332 : ty_kok ty_h (ty_ex 43 6) 184 kc_1332 = true := by decide +kernel
set_option maxRecDepth 10000000 in
theorem ck_1333 : ty_kok ty_h (ty_ex 43 6) 184 kc_1333 = true := by decide +kernel
set_option maxRecDepth 10000000 in
theorem ck_1334 : ty_kok ty_h (ty_ex 43 6) 184 kc_1334 = true := by decide +kernel
set_option maxRecDepth 10000000 in
theorem ck_1335 : ty_kok ty_h (ty_ex 43 6) 184 kc_1335 = true := by decide +kernel
set_option maxRecDepth 10000000 in
theorem ck_1336 : ty_kok ty_h (ty_ex 43 6) 184 kc_1336 = true := by decide +kernel
set_option maxRecDepth 10000000 in
theorem ck_1337 : ty_kok ty_h (ty_ex 43 6) 184 kc_1337 = true := by decide +kernel
set_option maxRecDepth 10000000 in
theorem ck_1338 : ty_kok ty_h (ty_ex 43 6) 184 kc_1338 = true := by decide +kernel
set_option maxRecDepth 10000000 in
theorem ck_1339 : ty_kok ty_h (ty_ex 43 6) 184 kc_1339 = true := by decide +kernel
set_option maxRecDepth 10000000 in
theorem ck_1340 : ty_kok ty_h (ty_ex 43 6) 184 kc_1340 = true := by decide +kernel
set_option maxRecDepth 10000000 in
theorem ck_1341 : ty_kok ty_h (ty_ex 43 6) 184 kc_1341 = true := by decide +kernel
set_option maxRecDepth 10000000 in
theorem ck_1342 : ty_kok ty_h (ty_ex 43 6) 206 kc_1342 = true := by decide +kernel
set_option maxRecDepth 10000000 in
theorem ck_1343 : ty_kok ty_h (ty_ex 43 6) 206 kc_1343 = true := by decide +kernel
set_option maxRecDepth 10000000 in
theorem ck_1344 : ty_kok ty_h (ty_ex 43 6) 206 kc_1344 = true := by decide +kernel
set_option maxRecDepth 10000000 in
theorem ck_1345 : ty_kok ty_h (ty_ex 43 6) 206 kc_1345 = true := by decide +kernel
set_option maxRecDepth 10000000 in
theorem ck_1346 : ty_kok ty_h (ty_ex 43 6) 206 kc_1346 = true := by decide +kernel
set_option maxRecDepth 10000000 in
theorem ck_1347 : ty_kok ty_h (ty_ex 43 6) 206 kc_1347 = true := by decide +kernel
set_option maxRecDepth 10000000 in
theorem ck_1348 : ty_kok ty_h (ty_ex 43 6) 206 kc_1348 = true := by decide +kernel
set_option maxRecDepth 10000000 in
theorem ck_1349 : ty_kok ty_h (ty_ex 43 6) 206 kc_1349 = true := by decide +kernel
set_option maxRecDepth 10000000 in
theorem ck_1350 : ty_kok ty_h (ty_ex 43 6) 206 kc_1350 = true := by decide +kernel
set_option maxRecDepth 10000000 in
theorem ck_1351 : ty_kok ty_h (ty_ex 43 6) 206 kc_1351 = true := by decide +kernel
set_option maxRecDepth 10000000 in
theorem ck_1352 : ty_kok ty_h (ty_ex 43 6) 206 kc_1352 = true := by decide +kernel
set_option maxRecDepth 10000000 in
theorem ck_1353 : ty_kok ty_h (ty_ex 43 6) 206 kc_1353 = true := by decide +kernel
set_option maxRecDepth 10000000 in
theorem ck_1354 : ty_kok ty_h (ty_ex 44 6) 183 kc_1354 = true := by decide +kernel
set_option maxRecDepth 10000000 in
theorem ck_1355 : ty_kok ty_h (ty_ex 44 6) 183 kc_1355 = true := by decide +kernel
set_option maxRecDepth 10000000 in
theorem ck_1356 : ty_kok ty_h (ty_ex 44 6) 183 kc_1356 = true := by decide +kernel
set_option maxRecDepth 10000000 in
theorem ck_1357 : ty_kok ty_h (ty_ex 44 6) 183 kc_1357 = true := by decide +kernel
set_option maxRecDepth 10000000 in
theorem ck_1358 : ty_kok ty_h (ty_ex 44 6) 183 kc_1358 = true := by decide +kernel
set_option maxRecDepth 10000000 in
theorem ck_1359 : ty_kok ty_h (ty_ex 44 6) 183 kc_1359 = true := by decide +kernel
set_option maxRecDepth 10000000 in
theorem ck_1360 : ty_kok ty_h (ty_ex 44 6) 183 kc_1360 = true := by decide +kernel
set_option maxRecDepth 10000000 in
theorem ck_1361 : ty_kok ty_h (ty_ex 44 6) 183 kc_1361 = true := by decide +kernel
set_option maxRecDepth 10000000 in
theorem ck_1362 : ty_kok ty_h (ty_ex 44 6) 183 kc_1362 = true := by decide +kernel
set_option maxRecDepth 10000000 in
theorem ck_1363 : ty_kok ty_h (ty_ex 44 6) 183 kc_1363 = true := by decide +kernel
set_option maxRecDepth 10000000 in
theorem ck_1364 : ty_kok ty_h (ty_ex 44 6) 183 kc_1364 = true := by decide +kernel
set_option maxRecDepth 10000000 in
theorem ck_1365 : ty_kok ty_h (ty_ex 44 6) 183 kc_1365 = true := by decide +kernel
set_option maxRecDepth 10000000 in
theorem ck_1366 : ty_kok ty_h (ty_ex 44 6) 183 kc_1366 = true := by decide +kernel
set_option maxRecDepth 10000000 in
theorem ck_1367 : ty_kok ty_h (ty_ex 44 6) 183 kc_1367 = true := by decide +kernel
set_option maxRecDepth 10000000 in
theorem ck_1368 : ty_kok ty_h (ty_ex 44 6) 202 kc_1368 = true := by decide +kernel
set_option maxRecDepth 10000000 in
theorem ck_1369 : ty_kok ty_h (ty_ex 44 6) 202 kc_1369 = true := by decide +kernel
set_option maxRecDepth 10000000 in
theorem ck_1370 : ty_kok ty_h (ty_ex 44 6) 202 kc_1370 = true := by decide +kernel
set_option maxRecDepth 10000000 in
theorem ck_1371 : ty_kok ty_h (ty_ex 44 6) 202 kc_1371 = true := by decide +kernel
set_option maxRecDepth 10000000 in
theorem ck_1372 : ty_kok ty_h (ty_ex 44 6) 202 kc_1372 = true := by decide +kernel
set_option maxRecDepth 10000000 in
theorem ck_1373 : ty_kok ty_h (ty_ex 44 6) 202 kc_1373 = true := by decide +kernel
set_option maxRecDepth 10000000 in
theorem ck_1374 : ty_kok ty_h (ty_ex 44 6) 202 kc_1374 = true := by decide +kernel
set_option maxRecDepth 10000000 in
theorem ck_1375 : ty_kok ty_h (ty_ex 44 6) 202 kc_1375 = true := by decide +kernel
set_option maxRecDepth 10000000 in
theorem ck_1376 : ty_kok ty_h (ty_ex 44 6) 202 kc_1376 = true := by decide +kernel
set_option maxRecDepth 10000000 in
theorem ck_1377 : ty_kok ty_h (ty_ex 44 6) 202 kc_1377 = true := by decide +kernel
set_option maxRecDepth 10000000 in
theorem ck_1378 : ty_kok ty_h (ty_ex 44 6) 202 kc_1378 = true := by decide +kernel
set_option maxRecDepth 10000000 in
theorem ck_1379 : ty_kok ty_h (ty_ex 44 6) 202 kc_1379 = true := by decide +kernel
