/-! longer runs -/
set_option maxRecDepth 10000000 in
theorem xh_20_49 : ix_good (iz_law iz_S1 6 ((ix_Bop 20).set 1 (2147483696, 2147483696))) = true := by decide +kernel
set_option maxRecDepth 10000000 in
theorem xh_20_50 : ix_good (iz_law iz_S1 6 ((ix_Bop 20).set 1 (2147483697, 2147483697))) = true := by decide +kernel
set_option maxRecDepth 10000000 in
theorem xh_20_51 : ix_good (iz_law iz_S1 6 ((ix_Bop 20).set 1 (2147483698, 2147483698))) = true := by decide +kernel
set_option maxRecDepth 10000000 in
theorem xh_20_52 : ix_good (iz_law iz_S1 6 ((ix_Bop 20).set 1 (2147483699, 2147483699))) = true := by decide +kernel
set_option maxRecDepth 10000000 in
theorem xh_20_53 : ix_good (iz_law iz_S1 6 ((ix_Bop 20).set 1 (2147483700, 2147483700))) = true := by decide +kernel
set_option maxRecDepth 10000000 in
theorem xh_20_54 : ix_good (iz_law iz_S1 6 ((ix_Bop 20).set 1 (2147483701, 2147483701))) = true := by decide +kernel
set_option maxRecDepth 10000000 in
theorem xh_20_55 : ix_good (iz_law iz_S1 6 ((ix_Bop 20).set 1 (2147483702, 2147483702))) = true := by decide +kernel
set_option maxRecDepth 10000000 in
theorem xh_20_56 : ix_good (iz_law iz_S1 6 ((ix_Bop 20).set 1 (2147483703, 2147483703))) = true := by decide +kernel
set_option maxRecDepth 10000000 in
theorem xh_20_57 : ix_good (iz_law iz_S1 6 ((ix_Bop 20).set 1 (2147483704, 2147483704))) = true := by decide +kernel
set_option maxRecDepth 10000000 in
theorem xh_20_58 : ix_good (iz_law iz_S1 6 ((ix_Bop 20).set 1 (2147483705, 2147483705))) = true := by decide +kernel
set_option maxRecDepth 10000000 in
theorem xh_20_59 : ix_good (iz_law iz_S1 6 ((ix_Bop 20).set 1 (2147483706, 2147483706))) = true := by decide +kernel
set_option maxRecDepth 10000000 in
theorem xh_20_60 : ix_good (iz_law iz_S1 6 ((ix_Bop 20).set 1 (2147483707, 2147483707))) = true := by decide +kernel
set_option maxRecDepth 10000000 in
theorem xh_20_61 : ix_good (iz_law iz_S1 6 ((ix_Bop 20).set 1 (2147483708, 2147483708))) = true := by decide +kernel
set_option maxRecDepth 10000000 in
theorem xh_20_62 : ix_good (iz_law iz_S1 6 ((ix_Bop 20).set 1 (2147483709, 2147483709))) = true := by decide +kernel
set_option maxRecDepth 10000000 in
theorem xh_20_63 : ix_good (iz_law iz_S1 6 ((ix_Bop 20).set 1 (2147483710, 2147483710))) = true := by decide +kernel
set_option maxRecDepth 10000000 in
theorem xh_20_64 : ix_good (iz_law iz_S1 6 ((ix_Bop 20).set 1 (2147483711, 2147483711))) = true := by decide +kernel
