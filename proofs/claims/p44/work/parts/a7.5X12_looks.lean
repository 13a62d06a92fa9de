/-! checked by the kernel: X12_looks -/
set_option maxRecDepth 10000000 in
theorem ck_1476 : ty_kok ty_h (ty_ex 59 9) 153 kc_1476 = true := by decide +kernel
