/-! checked by the kernel: X12_obeys -/
set_option maxRecDepth 10000000 in
theorem ck_1468 : ty_kok ty_h (ty_ex 55 9) 160 kc_1468 = true := by decide +kernel
