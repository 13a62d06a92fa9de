/-! checked by the kernel: X6_asked -/
set_option maxRecDepth 10000000 in
theorem cd_15 : ty_kok ty_h (ty_ej 1 9) 297 kd_15 = true := by decide +kernel
