/-! checked by the kernel: X12_beside -/
set_option maxRecDepth 10000000 in
theorem ck_1458 : ty_kok ty_h (ty_ex 54 9) 100 kc_1458 = true := by decide +kernel
