/-! checked by the kernel: X12_orders -/
set_option maxRecDepth 10000000 in
theorem ck_1507 : ty_kok ty_h (ty_ex 62 9) 163 kc_1507 = true := by decide +kernel
