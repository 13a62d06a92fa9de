/-! checked by the kernel: X12_takesKind -/
set_option maxRecDepth 10000000 in
theorem ck_1464 : ty_kok ty_h (ty_ex 54 9) 204 kc_1464 = true := by decide +kernel
