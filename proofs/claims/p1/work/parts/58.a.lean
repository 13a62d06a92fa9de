/-! longer runs -/
set_option maxRecDepth 10000000 in
theorem xh_22_0 : ix_good (iz_law iz_S2 6 ((ix_Bop 22).set 1 (0, 2147483647))) = true := by decide +kernel
set_option maxRecDepth 10000000 in
theorem xh_22_1 : ix_good (iz_law iz_S2 6 ((ix_Bop 22).set 1 (2147483648, 2147483663))) = true := by decide +kernel
set_option maxRecDepth 10000000 in
theorem xh_22_2 : ix_good (iz_law iz_S2 6 ((ix_Bop 22).set 1 (2147483664, 2147483679))) = true := by decide +kernel
set_option maxRecDepth 10000000 in
theorem xh_22_3 : ix_good (iz_law iz_S2 6 ((ix_Bop 22).set 1 (2147483680, 2147483695))) = true := by decide +kernel
set_option maxRecDepth 10000000 in
theorem xh_22_4 : ix_good (iz_law iz_S2 6 ((ix_Bop 22).set 1 (2147483696, 2147483711))) = true := by decide +kernel
set_option maxRecDepth 10000000 in
theorem xh_22_5 : ix_good (iz_law iz_S2 6 ((ix_Bop 22).set 1 (2147483712, 4294967295))) = true := by decide +kernel
set_option maxRecDepth 10000000 in
theorem xh_32_0 : ix_good (iz_law iz_S1 6 ((ix_Bop 32).set 1 (0, 2147483646))) = true := by decide +kernel
set_option maxRecDepth 10000000 in
theorem xh_32_1 : ix_good (iz_law iz_S1 6 ((ix_Bop 32).set 1 (2147483647, 2147483647))) = true := by decide +kernel
set_option maxRecDepth 10000000 in
theorem xh_32_2 : ix_good (iz_law iz_S1 6 ((ix_Bop 32).set 1 (2147483648, 2147483679))) = true := by decide +kernel
set_option maxRecDepth 10000000 in
theorem xh_32_3 : ix_good (iz_law iz_S1 6 ((ix_Bop 32).set 1 (2147483680, 2147483711))) = true := by decide +kernel
set_option maxRecDepth 10000000 in
theorem xh_32_4 : ix_good (iz_law iz_S1 6 ((ix_Bop 32).set 1 (2147483712, 4294967295))) = true := by decide +kernel
