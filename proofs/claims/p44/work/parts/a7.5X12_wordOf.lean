/-! checked by the kernel: X12_wordOf -/
set_option maxRecDepth 10000000 in
theorem ck_1467 : ty_kok ty_h (ty_ex 54 9) 221 kc_1467 = true := by decide +kernel
