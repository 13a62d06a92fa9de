/-! checked by the kernel: X12_row -/
set_option maxRecDepth 10000000 in
theorem ck_1516 : ty_kok ty_h (ty_ex 62 9) 192 kc_1516 = true := by decide +kernel
