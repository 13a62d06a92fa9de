/-! checked by the kernel: X12_standsBy -/
set_option maxRecDepth 10000000 in
theorem ck_1463 : ty_kok ty_h (ty_ex 54 9) 198 kc_1463 = true := by decide +kernel
