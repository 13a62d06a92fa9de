/-! checked by the kernel: X12_undo -/
set_option maxRecDepth 10000000 in
theorem ck_1526 : ty_kok ty_h (ty_ex 62 9) 218 kc_1526 = true := by decide +kernel
