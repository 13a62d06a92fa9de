/-! longer runs -/
set_option maxRecDepth 10000000 in
theorem xh_21_7 : ix_good (iz_law iz_S2 6 ((ix_Bop 21).set 1 (2147483696, 2147483699))) = true := by decide +kernel
set_option maxRecDepth 10000000 in
theorem xh_21_8 : ix_good (iz_law iz_S2 6 ((ix_Bop 21).set 1 (2147483700, 2147483703))) = true := by decide +kernel
set_option maxRecDepth 10000000 in
theorem xh_21_10 : ix_good (iz_law iz_S2 6 ((ix_Bop 21).set 1 (2147483704, 2147483707))) = true := by decide +kernel
set_option maxRecDepth 10000000 in
theorem xh_21_11 : ix_good (iz_law iz_S2 6 ((ix_Bop 21).set 1 (2147483708, 2147483711))) = true := by decide +kernel
