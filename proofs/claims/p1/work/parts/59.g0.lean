/-! longer runs -/
set_option maxRecDepth 10000000 in
theorem xh_21_0 : ix_good (iz_law iz_S2 6 ((ix_Bop 21).set 1 (0, 2147483647))) = true := by decide +kernel
set_option maxRecDepth 10000000 in
theorem xh_21_9 : ix_good (iz_law iz_S2 6 ((ix_Bop 21).set 1 (2147483712, 4294967295))) = true := by decide +kernel
set_option maxRecDepth 10000000 in
theorem xh_21_1 : ix_good (iz_law iz_S2 6 ((ix_Bop 21).set 1 (2147483648, 2147483655))) = true := by decide +kernel
set_option maxRecDepth 10000000 in
theorem xh_21_2 : ix_good (iz_law iz_S2 6 ((ix_Bop 21).set 1 (2147483656, 2147483663))) = true := by decide +kernel
