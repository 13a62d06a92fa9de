/-! longer runs -/
set_option maxRecDepth 10000000 in
theorem xh_20_0 : ix_good (iz_law iz_S1 6 ((ix_Bop 20).set 1 (0, 2147483647))) = true := by decide +kernel
set_option maxRecDepth 10000000 in
theorem xh_20_65 : ix_good (iz_law iz_S1 6 ((ix_Bop 20).set 1 (2147483712, 4294967295))) = true := by decide +kernel
set_option maxRecDepth 10000000 in
theorem xh_20_1 : ix_good (iz_law iz_S1 6 ((ix_Bop 20).set 1 (2147483648, 2147483648))) = true := by decide +kernel
set_option maxRecDepth 10000000 in
theorem xh_20_2 : ix_good (iz_law iz_S1 6 ((ix_Bop 20).set 1 (2147483649, 2147483649))) = true := by decide +kernel
set_option maxRecDepth 10000000 in
theorem xh_20_3 : ix_good (iz_law iz_S1 6 ((ix_Bop 20).set 1 (2147483650, 2147483650))) = true := by decide +kernel
set_option maxRecDepth 10000000 in
theorem xh_20_4 : ix_good (iz_law iz_S1 6 ((ix_Bop 20).set 1 (2147483651, 2147483651))) = true := by decide +kernel
set_option maxRecDepth 10000000 in
theorem xh_20_5 : ix_good (iz_law iz_S1 6 ((ix_Bop 20).set 1 (2147483652, 2147483652))) = true := by decide +kernel
set_option maxRecDepth 10000000 in
theorem xh_20_6 : ix_good (iz_law iz_S1 6 ((ix_Bop 20).set 1 (2147483653, 2147483653))) = true := by decide +kernel
set_option maxRecDepth 10000000 in
theorem xh_20_7 : ix_good (iz_law iz_S1 6 ((ix_Bop 20).set 1 (2147483654, 2147483654))) = true := by decide +kernel
set_option maxRecDepth 10000000 in
theorem xh_20_8 : ix_good (iz_law iz_S1 6 ((ix_Bop 20).set 1 (2147483655, 2147483655))) = true := by decide +kernel
set_option maxRecDepth 10000000 in
theorem xh_20_9 : ix_good (iz_law iz_S1 6 ((ix_Bop 20).set 1 (2147483656, 2147483656))) = true := by decide +kernel
set_option maxRecDepth 10000000 in
theorem xh_20_10 : ix_good (iz_law iz_S1 6 ((ix_Bop 20).set 1 (2147483657, 2147483657))) = true := by decide +kernel
set_option maxRecDepth 10000000 in
theorem xh_20_11 : ix_good (iz_law iz_S1 6 ((ix_Bop 20).set 1 (2147483658, 2147483658))) = true := by decide +kernel
set_option maxRecDepth 10000000 in
theorem xh_20_12 : ix_good (iz_law iz_S1 6 ((ix_Bop 20).set 1 (2147483659, 2147483659))) = true := by decide +kernel
set_option maxRecDepth 10000000 in
theorem xh_20_13 : ix_good (iz_law iz_S1 6 ((ix_Bop 20).set 1 (2147483660, 2147483660))) = true := by decide +kernel
set_option maxRecDepth 10000000 in
theorem xh_20_14 : ix_good (iz_law iz_S1 6 ((ix_Bop 20).set 1 (2147483661, 2147483661))) = true := by decide +kernel
set_option maxRecDepth 10000000 in
theorem xh_20_15 : ix_good (iz_law iz_S1 6 ((ix_Bop 20).set 1 (2147483662, 2147483662))) = true := by decide +kernel
set_option maxRecDepth 10000000 in
theorem xh_20_16 : ix_good (iz_law iz_S1 6 ((ix_Bop 20).set 1 (2147483663, 2147483663))) = true := by decide +kernel
