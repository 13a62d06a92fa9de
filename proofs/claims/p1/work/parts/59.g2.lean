/-! longer runs -/
set_option maxRecDepth 10000000 in
theorem xh_21_5 : ix_good (iz_law iz_S2 6 ((ix_Bop 21).set 1 (2147483680, 2147483687))) = true := by decide +kernel
set_option maxRecDepth 10000000 in
theorem xh_21_6 : ix_good (iz_law iz_S2 6 ((ix_Bop 21).set 1 (2147483688, 2147483695))) = true := by decide +kernel
