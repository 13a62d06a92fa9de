/-! longer runs -/
set_option maxRecDepth 10000000 in
theorem xh_22_1 : ix_good (iz_law iz_S2 6 ((ix_Bop 22).set 1 (2147483648, 2147483651))) = true := by decide +kernel
