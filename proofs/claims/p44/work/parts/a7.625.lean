/-! checked by the kernel, part 25 -/
set_option maxRecDepth 10000000 in
theorem ck_1511 : ty_kok ty_h (ty_ex 62 9) 170 kc_1511 = true := by decide +kernel
set_option maxRecDepth 10000000 in
theorem ck_1512 : ty_kok ty_h (ty_ex 62 9) 174 kc_1512 = true := by decide +kernel
set_option maxRecDepth 10000000 in
theorem ck_1513 : ty_kok ty_h (ty_ex 62 9) 175 kc_1513 = true := by decide +kernel
set_option maxRecDepth 10000000 in
theorem ck_1514 : ty_kok ty_h (ty_ex 62 9) 176 kc_1514 = true := by decide +kernel
set_option maxRecDepth 10000000 in
theorem ck_1515 : ty_kok ty_h (ty_ex 62 9) 190 kc_1515 = true := by decide +kernel
set_option maxRecDepth 10000000 in
theorem ck_1517 : ty_kok ty_h (ty_ex 62 9) 197 kc_1517 = true := by decide +kernel
set_option maxRecDepth 10000000 in
theorem ck_1518 : ty_kok ty_h (ty_ex 62 9) 199 kc_1518 = true := by decide +kernel
set_option maxRecDepth 10000000 in
theorem ck_1519 : ty_kok ty_h (ty_ex 62 9) 200 kc_1519 = true := by decide +kernel
set_option maxRecDepth 10000000 in
theorem ck_1520 : ty_kok ty_h (ty_ex 62 9) 201 kc_1520 = true := by decide +kernel
set_option maxRecDepth 10000000 in
theorem ck_1521 : ty_kok ty_h (ty_ex 62 9) 205 kc_1521 = true := by decide +kernel
set_option maxRecDepth 10000000 in
theorem ck_1522 : ty_kok ty_h (ty_ex 62 9) 207 kc_1522 = true := by decide +kernel
set_option maxRecDepth 10000000 in
theorem ck_1523 : ty_kok ty_h (ty_ex 62 9) 209 kc_1523 = true := by decide +kernel
set_option maxRecDepth 10000000 in
theorem ck_1524 : ty_kok ty_h (ty_ex 62 9) 212 kc_1524 = true := by decide +kernel
set_option maxRecDepth 10000000 in
theorem ck_1525 : ty_kok ty_h (ty_ex 62 9) 213 kc_1525 = true := by decide +kernel
set_option maxRecDepth 10000000 in
theorem ck_1527 : ty_kok ty_h (ty_ex 62 9) 219 kc_1527 = true := by decide +kernel
