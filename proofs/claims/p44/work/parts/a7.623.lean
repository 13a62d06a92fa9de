/-! checked by the kernel, part 23 -/
set_option maxRecDepth 10000000 in
theorem ck_1380 : ty_kok ty_h (ty_ex 45 6) 172 kc_1380 = true := by decide +kernel
set_option maxRecDepth 10000000 in
theorem ck_1381 : ty_kok ty_h (ty_ex 45 6) 172 kc_1381 = true := by decide +kernel
set_option maxRecDepth 10000000 in
theorem ck_1382 : ty_kok ty_h (ty_ex 45 6) 182 kc_1382 = true := by decide +kernel
set_option maxRecDepth 10000000 in
theorem ck_1383 : ty_kok ty_h (ty_ex 45 6) 182 kc_1383 = true := by decide +kernel
set_option maxRecDepth 10000000 in
theorem ck_1384 : ty_kok ty_h (ty_ex 46 6) 101 kc_1384 = true := by decide +kernel
set_option maxRecDepth 10000000 in
theorem ck_1385 : ty_kok ty_h (ty_ex 46 6) 101 kc_1385 = true := by decide +kernel
set_option maxRecDepth 10000000 in
theorem ck_1386 : ty_kok ty_h (ty_ex 46 6) 177 kc_1386 = true := by decide +kernel
set_option maxRecDepth 10000000 in
theorem ck_1387 : ty_kok ty_h (ty_ex 46 6) 177 kc_1387 = true := by decide +kernel
set_option maxRecDepth 10000000 in
theorem ck_1388 : ty_kok ty_h (ty_ex 47 6) 185 kc_1388 = true := by decide +kernel
set_option maxRecDepth 10000000 in
theorem ck_1389 : ty_kok ty_h (ty_ex 47 6) 185 kc_1389 = true := by decide +kernel
set_option maxRecDepth 10000000 in
theorem ck_1390 : ty_kok ty_h (ty_ex 47 6) 208 kc_1390 = true := by decide +kernel
set_option maxRecDepth 10000000 in
theorem ck_1391 : ty_kok ty_h (ty_ex 47 6) 208 kc_1391 = true := by decide +kernel
set_option maxRecDepth 10000000 in
theorem ck_1392 : ty_kok ty_h (ty_ex 48 6) 167 kc_1392 = true := by decide +kernel
set_option maxRecDepth 10000000 in
theorem ck_1393 : ty_kok ty_h (ty_ex 48 6) 167 kc_1393 = true := by decide +kernel
set_option maxRecDepth 10000000 in
theorem ck_1394 : ty_kok ty_h (ty_ex 48 6) 167 kc_1394 = true := by decide +kernel
set_option maxRecDepth 10000000 in
theorem ck_1395 : ty_kok ty_h (ty_ex 48 6) 167 kc_1395 = true := by decide +kernel
set_option maxRecDepth 10000000 in
theorem ck_1396 : ty_kok ty_h (ty_ex 48 6) 167 kc_1396 = true := by decide +kernel
set_option maxRecDepth 10000000 in
theorem ck_1397 : ty_kok ty_h (ty_ex 48 6) 167 kc_1397 = true := by decide +kernel
set_option maxRecDepth 10000000 in
theorem ck_1398 : ty_kok ty_h (ty_ex 48 6) 167 kc_1398 = true := by decide +kernel
set_option maxRecDepth 10000000 in
theorem ck_1399 : ty_kok ty_h (ty_ex 48 6) 167 kc_1399 = true := by decide +kernel
set_option maxRecDepth 10000000 in
theorem ck_1400 : ty_kok ty_h (ty_ex 48 6) 181 kc_1400 = true := by decide +kernel
set_option maxRecDepth 10000000 in
theorem ck_1401 : ty_kok ty_h (ty_ex 48 6) 181 kc_1401 = true := by decide +kernel
set_option maxRecDepth 10000000 in
theorem ck_1402 : ty_kok ty_h (ty_ex 48 6) 181 kc_1402 = true := by decide +kernel
set_option maxRecDepth 10000000 in
theorem ck_1403 : ty_kok ty_h (ty_ex 48 6) 181 kc_1403 = true := by decide +kernel
set_option maxRecDepth 10000000 in
theorem ck_1404 : ty_kok ty_h (ty_ex 48 6) 181 kc_1404 = true := by decide +kernel
set_option maxRecDepth 10000000 in
theorem ck_1405 : ty_kok ty_h (ty_ex 48 6) 181 kc_1405 = true := by decide +kernel
set_option maxRecDepth 10000000 in
theorem ck_1406 : ty_kok ty_h (ty_ex 48 6) 181 kc_1406 = true := by decide +kernel
set_option maxRecDepth 10000000 in
theorem ck_1407 : ty_kok ty_h (ty_ex 48 6) 181 kc_1407 = true := by decide +kernel
set_option maxRecDepth 10000000 in
theorem ck_1408 : ty_kok ty_h (ty_ex 48 6) 181 kc_1408 = true := by decide +kernel
set_option maxRecDepth 10000000 in
theorem ck_1409 : ty_kok ty_h (ty_ex 48 6) 181 kc_1409 = true := by decide +kernel
set_option maxRecDepth 10000000 in
theorem ck_1410 : ty_kok ty_h (ty_ex 49 6) 184 kc_1410 = true := by decide +kernel
set_option maxRecDepth 10000000 in
theorem ck_1411 : ty_kok ty_h (ty_ex 49 6) 184 kc_1411 = true := by decide +kernel
set_option maxRecDepth 10000000 in
theorem ck_1412 : ty_kok ty_h (ty_ex 49 6) 184 kc_1412 = true := by decide +kernel
set_option maxRecDepth 10000000 in
theorem ck_1413 : ty_kok ty_h (ty_ex 49 6) 184 kc_1413 = true := by decide +kernel
set_option maxRecDepth 10000000 in
theorem ck_1414 : ty_kok ty_h (ty_ex 49 6) 184 kc_1414 = true := by decide +kernel
set_option maxRecDepth 10000000 in
theorem ck_1415 : ty_kok ty_h (ty_ex 49 6) 184 kc_1415 = true := by decide +kernel
set_option maxRecDepth 10000000 in
theorem ck_1416 : ty_kok ty_h (ty_ex 49 6) 184 kc_1416 = true := by decide +kernel
set_option maxRecDepth 10000000 in
theorem ck_1417 : ty_kok ty_h (ty_ex 49 6) 184 kc_1417 = true := by decide +kernel
set_option maxRecDepth 10000000 in
theorem ck_1418 : ty_kok ty_h (ty_ex 49 6) 184 kc_1418 = true := by decide +kernel
set_option maxRecDepth 10000000 in
theorem ck_1419 : ty_kok ty_h (ty_ex 49 6) 184 kc_1419 = true := by decide +kernel
set_option maxRecDepth 10000000 in
theorem ck_1420 : ty_kok ty_h (ty_ex 49 6) 206 kc_1420 = true := by decide +kernel
set_option maxRecDepth 10000000 in
theorem ck_1421 : ty_kok ty_h (ty_ex 49 6) 206 kc_1421 = true := by decide +kernel
set_option maxRecDepth 10000000 in
theorem ck_1422 : ty_kok ty_h (ty_ex 49 6) 206 kc_1422 = true := by decide +kernel
set_option maxRecDepth 10000000 in
theorem ck_1423 : ty_kok ty_h (ty_ex 49 6) 206 kc_1423 = true := by decide +kernel
set_option maxRecDepth 10000000 in
theorem ck_1424 : ty_kok ty_h (ty_ex 49 6) 206 kc_1424 = true := by decide +kernel
set_option maxRecDepth 10000000 in
theorem ck_1425 : ty_kok ty_h (ty_ex 49 6) 206 kc_1425 = true := by decide +kernel
set_option maxRecDepth 10000000 in
theorem ck_1426 : ty_kok ty_h (ty_ex 49 6) 206 kc_1426 = true := by decide +kernel
set_option maxRecDepth 10000000 in
theorem ck_1427 : ty_kok ty_h (ty_ex 49 6) 206 kc_1427 = true := by decide +kernel
set_option maxRecDepth 10000000 in
theorem ck_1428 : ty_kok ty_h (ty_ex 50 6) 183 kc_1428 = true := by decide +kernel
set_option maxRecDepth 10000000 in
theorem ck_1429 : ty_kok ty_h (ty_ex 50 6) 183 kc_1429 = true := by decide +kernel
set_option maxRecDepth 10000000 in
theorem ck_1430 : ty_kok ty_h (ty_ex 50 6) 183 kc_1430 = true := by decide +kernel
set_option maxRecDepth 10000000 in
theorem ck_1431 : ty_kok ty_h (ty_ex 50 6) 183 kc_1431 = true := by decide +kernel
set_option maxRecDepth 10000000 in
theorem ck_1432 : ty_kok ty_h (ty_ex 50 6) 183 kc_1432 = true := by decide +kernel
set_option maxRecDepth 10000000 in
theorem ck_1433 : ty_kok ty_h (ty_ex 50 6) 183 kc_1433 = true := by decide +kernel
set_option maxRecDepth 10000000 in
theorem ck_1434 : ty_kok ty_h (ty_ex 50 6) 183 kc_1434 = true := by decide +kernel
set_option maxRecDepth 10000000 in
theorem ck_1435 : ty_kok ty_h (ty_ex 50 6) 183 kc_1435 = true := by decide +kernel
set_option maxRecDepth 10000000 in
theorem ck_1436 : ty_kok ty_h (ty_ex 50 6) 183 kc_1436 = true := by decide +kernel
set_option maxRecDepth 10000000 in
theorem ck_1437 : ty_kok ty_h (ty_ex 50 6) 183 kc_1437 = true := by decide +kernel
set_option maxRecDepth 10000000 in
theorem ck_1438 : ty_kok ty_h (ty_ex 50 6) 202 kc_1438 = true := by decide +kernel
set_option maxRecDepth 10000000 in
theorem ck_1439 : ty_kok ty_h (ty_ex 50 6) 202 kc_1439 = true := by decide +kernel
