/-! checked by the kernel, part 28 -/
set_option maxRecDepth 10000000 in
theorem ck_1466 : ty_kok ty_h (ty_ex 56 9) 105 kc_1466 = true := by decide +kernel
