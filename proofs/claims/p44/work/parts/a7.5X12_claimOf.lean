/-! checked by the kernel: X12_claimOf -/
set_option maxRecDepth 10000000 in
theorem ck_1470 : ty_kok ty_h (ty_ex 56 9) 105 kc_1470 = true := by decide +kernel
