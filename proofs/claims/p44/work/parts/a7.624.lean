/-! checked by the kernel, part 24 -/
set_option maxRecDepth 10000000 in
theorem ck_1440 : ty_kok ty_h (ty_ex 50 6) 202 kc_1440 = true := by decide +kernel
set_option maxRecDepth 10000000 in
theorem ck_1441 : ty_kok ty_h (ty_ex 50 6) 202 kc_1441 = true := by decide +kernel
set_option maxRecDepth 10000000 in
theorem ck_1442 : ty_kok ty_h (ty_ex 50 6) 202 kc_1442 = true := by decide +kernel
set_option maxRecDepth 10000000 in
theorem ck_1443 : ty_kok ty_h (ty_ex 50 6) 202 kc_1443 = true := by decide +kernel
set_option maxRecDepth 10000000 in
theorem ck_1444 : ty_kok ty_h (ty_ex 50 6) 202 kc_1444 = true := by decide +kernel
set_option maxRecDepth 10000000 in
theorem ck_1445 : ty_kok ty_h (ty_ex 50 6) 202 kc_1445 = true := by decide +kernel
set_option maxRecDepth 10000000 in
theorem ck_1446 : ty_kok ty_h (ty_ex 51 6) 172 kc_1446 = true := by decide +kernel
set_option maxRecDepth 10000000 in
theorem ck_1447 : ty_kok ty_h (ty_ex 51 6) 172 kc_1447 = true := by decide +kernel
set_option maxRecDepth 10000000 in
theorem ck_1448 : ty_kok ty_h (ty_ex 51 6) 182 kc_1448 = true := by decide +kernel
set_option maxRecDepth 10000000 in
theorem ck_1449 : ty_kok ty_h (ty_ex 51 6) 182 kc_1449 = true := by decide +kernel
set_option maxRecDepth 10000000 in
theorem ck_1450 : ty_kok ty_h (ty_ex 52 6) 101 kc_1450 = true := by decide +kernel
set_option maxRecDepth 10000000 in
theorem ck_1451 : ty_kok ty_h (ty_ex 52 6) 101 kc_1451 = true := by decide +kernel
set_option maxRecDepth 10000000 in
theorem ck_1452 : ty_kok ty_h (ty_ex 52 6) 177 kc_1452 = true := by decide +kernel
set_option maxRecDepth 10000000 in
theorem ck_1453 : ty_kok ty_h (ty_ex 52 6) 177 kc_1453 = true := by decide +kernel
set_option maxRecDepth 10000000 in
theorem ck_1454 : ty_kok ty_h (ty_ex 53 6) 185 kc_1454 = true := by decide +kernel
set_option maxRecDepth 10000000 in
theorem ck_1455 : ty_kok ty_h (ty_ex 53 6) 185 kc_1455 = true := by decide +kernel
set_option maxRecDepth 10000000 in
theorem ck_1456 : ty_kok ty_h (ty_ex 53 6) 208 kc_1456 = true := by decide +kernel
set_option maxRecDepth 10000000 in
theorem ck_1457 : ty_kok ty_h (ty_ex 53 6) 208 kc_1457 = true := by decide +kernel
set_option maxRecDepth 10000000 in
theorem ck_1460 : ty_kok ty_h (ty_ex 54 9) 143 kc_1460 = true := by decide +kernel
set_option maxRecDepth 10000000 in
theorem ck_1461 : ty_kok ty_h (ty_ex 54 9) 179 kc_1461 = true := by decide +kernel
set_option maxRecDepth 10000000 in
theorem ck_1462 : ty_kok ty_h (ty_ex 54 9) 179 kc_1462 = true := by decide +kernel
set_option maxRecDepth 10000000 in
theorem ck_1465 : ty_kok ty_h (ty_ex 54 9) 216 kc_1465 = true := by decide +kernel
set_option maxRecDepth 10000000 in
theorem ck_1466 : ty_kok ty_h (ty_ex 54 9) 217 kc_1466 = true := by decide +kernel
set_option maxRecDepth 10000000 in
theorem ck_1471 : ty_kok ty_h (ty_ex 56 9) 147 kc_1471 = true := by decide +kernel
set_option maxRecDepth 10000000 in
theorem ck_1472 : ty_kok ty_h (ty_ex 58 9) 96 kc_1472 = true := by decide +kernel
set_option maxRecDepth 10000000 in
theorem ck_1473 : ty_kok ty_h (ty_ex 58 9) 123 kc_1473 = true := by decide +kernel
set_option maxRecDepth 10000000 in
theorem ck_1474 : ty_kok ty_h (ty_ex 58 9) 151 kc_1474 = true := by decide +kernel
set_option maxRecDepth 10000000 in
theorem ck_1475 : ty_kok ty_h (ty_ex 58 9) 220 kc_1475 = true := by decide +kernel
set_option maxRecDepth 10000000 in
theorem ck_1477 : ty_kok ty_h (ty_ex 59 9) 189 kc_1477 = true := by decide +kernel
set_option maxRecDepth 10000000 in
theorem ck_1478 : ty_kok ty_h (ty_ex 60 9) 146 kc_1478 = true := by decide +kernel
set_option maxRecDepth 10000000 in
theorem ck_1479 : ty_kok ty_h (ty_ex 60 9) 194 kc_1479 = true := by decide +kernel
set_option maxRecDepth 10000000 in
theorem ck_1480 : ty_kok ty_h (ty_ex 61 9) 193 kc_1480 = true := by decide +kernel
set_option maxRecDepth 10000000 in
theorem ck_1481 : ty_kok ty_h (ty_ex 62 9) 97 kc_1481 = true := by decide +kernel
set_option maxRecDepth 10000000 in
theorem ck_1482 : ty_kok ty_h (ty_ex 62 9) 98 kc_1482 = true := by decide +kernel
set_option maxRecDepth 10000000 in
theorem ck_1483 : ty_kok ty_h (ty_ex 62 9) 103 kc_1483 = true := by decide +kernel
set_option maxRecDepth 10000000 in
theorem ck_1484 : ty_kok ty_h (ty_ex 62 9) 104 kc_1484 = true := by decide +kernel
set_option maxRecDepth 10000000 in
theorem ck_1485 : ty_kok ty_h (ty_ex 62 9) 108 kc_1485 = true := by decide +kernel
set_option maxRecDepth 10000000 in
theorem ck_1486 : ty_kok ty_h (ty_ex 62 9) 109 kc_1486 = true := by decide +kernel
set_option maxRecDepth 10000000 in
theorem ck_1487 : ty_kok ty_h (ty_ex 62 9) 110 kc_1487 = true := by decide +kernel
set_option maxRecDepth 10000000 in
theorem ck_1488 : ty_kok ty_h (ty_ex 62 9) 112 kc_1488 = true := by decide +kernel
set_option maxRecDepth 10000000 in
theorem ck_1489 : ty_kok ty_h (ty_ex 62 9) 113 kc_1489 = true := by decide +kernel
set_option maxRecDepth 10000000 in
theorem ck_1490 : ty_kok ty_h (ty_ex 62 9) 114 kc_1490 = true := by decide +kernel
set_option maxRecDepth 10000000 in
theorem ck_1491 : ty_kok ty_h (ty_ex 62 9) 115 kc_1491 = true := by decide +kernel
set_option maxRecDepth 10000000 in
theorem ck_1492 : ty_kok ty_h (ty_ex 62 9) 117 kc_1492 = true := by decide +kernel
set_option maxRecDepth 10000000 in
theorem ck_1493 : ty_kok ty_h (ty_ex 62 9) 120 kc_1493 = true := by decide +kernel
set_option maxRecDepth 10000000 in
theorem ck_1494 : ty_kok ty_h (ty_ex 62 9) 121 kc_1494 = true := by decide +kernel
set_option maxRecDepth 10000000 in
theorem ck_1495 : ty_kok ty_h (ty_ex 62 9) 122 kc_1495 = true := by decide +kernel
set_option maxRecDepth 10000000 in
theorem ck_1496 : ty_kok ty_h (ty_ex 62 9) 127 kc_1496 = true := by decide +kernel
set_option maxRecDepth 10000000 in
theorem ck_1497 : ty_kok ty_h (ty_ex 62 9) 129 kc_1497 = true := by decide +kernel
set_option maxRecDepth 10000000 in
theorem ck_1498 : ty_kok ty_h (ty_ex 62 9) 130 kc_1498 = true := by decide +kernel
set_option maxRecDepth 10000000 in
theorem ck_1499 : ty_kok ty_h (ty_ex 62 9) 131 kc_1499 = true := by decide +kernel
set_option maxRecDepth 10000000 in
theorem ck_1500 : ty_kok ty_h (ty_ex 62 9) 132 kc_1500 = true := by decide +kernel
set_option maxRecDepth 10000000 in
theorem ck_1501 : ty_kok ty_h (ty_ex 62 9) 132 kc_1501 = true := by decide +kernel
set_option maxRecDepth 10000000 in
theorem ck_1502 : ty_kok ty_h (ty_ex 62 9) 132 kc_1502 = true := by decide +kernel
set_option maxRecDepth 10000000 in
theorem ck_1504 : ty_kok ty_h (ty_ex 62 9) 152 kc_1504 = true := by decide +kernel
set_option maxRecDepth 10000000 in
theorem ck_1505 : ty_kok ty_h (ty_ex 62 9) 156 kc_1505 = true := by decide +kernel
set_option maxRecDepth 10000000 in
theorem ck_1506 : ty_kok ty_h (ty_ex 62 9) 161 kc_1506 = true := by decide +kernel
set_option maxRecDepth 10000000 in
theorem ck_1508 : ty_kok ty_h (ty_ex 62 9) 165 kc_1508 = true := by decide +kernel
set_option maxRecDepth 10000000 in
theorem ck_1509 : ty_kok ty_h (ty_ex 62 9) 166 kc_1509 = true := by decide +kernel
set_option maxRecDepth 10000000 in
theorem ck_1510 : ty_kok ty_h (ty_ex 62 9) 169 kc_1510 = true := by decide +kernel
