/-! checked by the kernel, part 27 -/
set_option maxRecDepth 10000000 in
theorem ck_1465 : ty_kok ty_h (ty_ex 55 9) 211 kc_1465 = true := by decide +kernel
