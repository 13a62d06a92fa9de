/-! checked by the kernel: X0_run -/
set_option maxRecDepth 10000000 in
theorem cd_24 : ty_kok ty_h (ty_ej 5 9) 24 kd_24 = true := by decide +kernel
