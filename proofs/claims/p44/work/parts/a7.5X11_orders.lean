/-! checked by the kernel: X11_orders -/
set_option maxRecDepth 10000000 in
theorem cd_105 : ty_kok ty_h (ty_ej 34 11) 68 kd_105 = true := by decide +kernel
