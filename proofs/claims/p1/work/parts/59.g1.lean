/-! longer runs -/
set_option maxRecDepth 10000000 in
theorem xh_21_3 : ix_good (iz_law iz_S2 6 ((ix_Bop 21).set 1 (2147483664, 2147483671))) = true := by decide +kernel
set_option maxRecDepth 10000000 in
theorem xh_21_4 : ix_good (iz_law iz_S2 6 ((ix_Bop 21).set 1 (2147483672, 2147483679))) = true := by decide +kernel
