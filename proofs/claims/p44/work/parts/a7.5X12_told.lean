/-! checked by the kernel: X12_told -/
set_option maxRecDepth 10000000 in
theorem ck_1469 : ty_kok ty_h (ty_ex 55 9) 211 kc_1469 = true := by decide +kernel
