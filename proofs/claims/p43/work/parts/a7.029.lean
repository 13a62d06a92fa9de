/-! checked by the kernel, part 29 -/
set_option maxRecDepth 10000000 in
theorem ck_1497 : ty_kok ty_h (ty_ex 62 9) 144 kc_1497 = true := by decide +kernel
