/-! checked by the kernel: X12_goesAlong -/
set_option maxRecDepth 10000000 in
theorem ck_1459 : ty_kok ty_h (ty_ex 54 9) 124 kc_1459 = true := by decide +kernel
