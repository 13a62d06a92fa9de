/-! tests -/
set_option maxRecDepth 10000000 in
theorem xtest_1 : ix_good (iz_law iz_S2 6 ((ix_Bop 22).set 1 (2147483648, 2147483651))) = true := by decide +kernel
set_option maxRecDepth 10000000 in
theorem xtest_2 : ix_good (iz_law iz_S1 6 ((ix_Bop 22).set 1 (2147483648, 2147483648))) = true := by decide +kernel
