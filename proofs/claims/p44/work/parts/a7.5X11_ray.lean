/-! checked by the kernel: X11_ray -/
set_option maxRecDepth 10000000 in
theorem cd_112 : ty_kok ty_h (ty_ej 34 11) 76 kd_112 = true := by decide +kernel
