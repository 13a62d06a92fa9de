/-! checked by the kernel: X12_law -/
set_option maxRecDepth 10000000 in
theorem ck_1503 : ty_kok ty_h (ty_ex 62 9) 144 kc_1503 = true := by decide +kernel
