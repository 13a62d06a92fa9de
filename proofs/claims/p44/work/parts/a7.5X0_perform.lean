/-! checked by the kernel: X0_perform -/
set_option maxRecDepth 10000000 in
theorem cd_16 : ty_kok ty_h (ty_ej 2 9) 23 kd_16 = true := by decide +kernel
