/-! longer runs -/
set_option maxRecDepth 10000000 in
theorem xh_20_17 : ix_good (iz_law iz_S1 6 ((ix_Bop 20).set 1 (2147483664, 2147483664))) = true := by decide +kernel
set_option maxRecDepth 10000000 in
theorem xh_20_18 : ix_good (iz_law iz_S1 6 ((ix_Bop 20).set 1 (2147483665, 2147483665))) = true := by decide +kernel
set_option maxRecDepth 10000000 in
theorem xh_20_19 : ix_good (iz_law iz_S1 6 ((ix_Bop 20).set 1 (2147483666, 2147483666))) = true := by decide +kernel
set_option maxRecDepth 10000000 in
theorem xh_20_20 : ix_good (iz_law iz_S1 6 ((ix_Bop 20).set 1 (2147483667, 2147483667))) = true := by decide +kernel
set_option maxRecDepth 10000000 in
theorem xh_20_21 : ix_good (iz_law iz_S1 6 ((ix_Bop 20).set 1 (2147483668, 2147483668))) = true := by decide +kernel
set_option maxRecDepth 10000000 in
theorem xh_20_22 : ix_good (iz_law iz_S1 6 ((ix_Bop 20).set 1 (2147483669, 2147483669))) = true := by decide +kernel
set_option maxRecDepth 10000000 in
theorem xh_20_23 : ix_good (iz_law iz_S1 6 ((ix_Bop 20).set 1 (2147483670, 2147483670))) = true := by decide +kernel
set_option maxRecDepth 10000000 in
theorem xh_20_24 : ix_good (iz_law iz_S1 6 ((ix_Bop 20).set 1 (2147483671, 2147483671))) = true := by decide +kernel
set_option maxRecDepth 10000000 in
theorem xh_20_25 : ix_good (iz_law iz_S1 6 ((ix_Bop 20).set 1 (2147483672, 2147483672))) = true := by decide +kernel
set_option maxRecDepth 10000000 in
theorem xh_20_26 : ix_good (iz_law iz_S1 6 ((ix_Bop 20).set 1 (2147483673, 2147483673))) = true := by decide +kernel
set_option maxRecDepth 10000000 in
theorem xh_20_27 : ix_good (iz_law iz_S1 6 ((ix_Bop 20).set 1 (2147483674, 2147483674))) = true := by decide +kernel
set_option maxRecDepth 10000000 in
theorem xh_20_28 : ix_good (iz_law iz_S1 6 ((ix_Bop 20).set 1 (2147483675, 2147483675))) = true := by decide +kernel
set_option maxRecDepth 10000000 in
theorem xh_20_29 : ix_good (iz_law iz_S1 6 ((ix_Bop 20).set 1 (2147483676, 2147483676))) = true := by decide +kernel
set_option maxRecDepth 10000000 in
theorem xh_20_30 : ix_good (iz_law iz_S1 6 ((ix_Bop 20).set 1 (2147483677, 2147483677))) = true := by decide +kernel
set_option maxRecDepth 10000000 in
theorem xh_20_31 : ix_good (iz_law iz_S1 6 ((ix_Bop 20).set 1 (2147483678, 2147483678))) = true := by decide +kernel
set_option maxRecDepth 10000000 in
theorem xh_20_32 : ix_good (iz_law iz_S1 6 ((ix_Bop 20).set 1 (2147483679, 2147483679))) = true := by decide +kernel
