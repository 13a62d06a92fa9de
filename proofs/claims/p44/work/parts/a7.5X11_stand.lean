/-! checked by the kernel: X11_stand -/
set_option maxRecDepth 10000000 in
theorem cd_115 : ty_kok ty_h (ty_ej 34 11) 82 kd_115 = true := by decide +kernel
