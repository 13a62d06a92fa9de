/-! longer runs -/
set_option maxRecDepth 10000000 in
theorem xh_20_33 : ix_good (iz_law iz_S1 6 ((ix_Bop 20).set 1 (2147483680, 2147483680))) = true := by decide +kernel
set_option maxRecDepth 10000000 in
theorem xh_20_34 : ix_good (iz_law iz_S1 6 ((ix_Bop 20).set 1 (2147483681, 2147483681))) = true := by decide +kernel
set_option maxRecDepth 10000000 in
theorem xh_20_35 : ix_good (iz_law iz_S1 6 ((ix_Bop 20).set 1 (2147483682, 2147483682))) = true := by decide +kernel
set_option maxRecDepth 10000000 in
theorem xh_20_36 : ix_good (iz_law iz_S1 6 ((ix_Bop 20).set 1 (2147483683, 2147483683))) = true := by decide +kernel
set_option maxRecDepth 10000000 in
theorem xh_20_37 : ix_good (iz_law iz_S1 6 ((ix_Bop 20).set 1 (2147483684, 2147483684))) = true := by decide +kernel
set_option maxRecDepth 10000000 in
theorem xh_20_38 : ix_good (iz_law iz_S1 6 ((ix_Bop 20).set 1 (2147483685, 2147483685))) = true := by decide +kernel
set_option maxRecDepth 10000000 in
theorem xh_20_39 : ix_good (iz_law iz_S1 6 ((ix_Bop 20).set 1 (2147483686, 2147483686))) = true := by decide +kernel
set_option maxRecDepth 10000000 in
theorem xh_20_40 : ix_good (iz_law iz_S1 6 ((ix_Bop 20).set 1 (2147483687, 2147483687))) = true := by decide +kernel
set_option maxRecDepth 10000000 in
theorem xh_20_41 : ix_good (iz_law iz_S1 6 ((ix_Bop 20).set 1 (2147483688, 2147483688))) = true := by decide +kernel
set_option maxRecDepth 10000000 in
theorem xh_20_42 : ix_good (iz_law iz_S1 6 ((ix_Bop 20).set 1 (2147483689, 2147483689))) = true := by decide +kernel
set_option maxRecDepth 10000000 in
theorem xh_20_43 : ix_good (iz_law iz_S1 6 ((ix_Bop 20).set 1 (2147483690, 2147483690))) = true := by decide +kernel
set_option maxRecDepth 10000000 in
theorem xh_20_44 : ix_good (iz_law iz_S1 6 ((ix_Bop 20).set 1 (2147483691, 2147483691))) = true := by decide +kernel
set_option maxRecDepth 10000000 in
theorem xh_20_45 : ix_good (iz_law iz_S1 6 ((ix_Bop 20).set 1 (2147483692, 2147483692))) = true := by decide +kernel
set_option maxRecDepth 10000000 in
theorem xh_20_46 : ix_good (iz_law iz_S1 6 ((ix_Bop 20).set 1 (2147483693, 2147483693))) = true := by decide +kernel
set_option maxRecDepth 10000000 in
theorem xh_20_47 : ix_good (iz_law iz_S1 6 ((ix_Bop 20).set 1 (2147483694, 2147483694))) = true := by decide +kernel
set_option maxRecDepth 10000000 in
theorem xh_20_48 : ix_good (iz_law iz_S1 6 ((ix_Bop 20).set 1 (2147483695, 2147483695))) = true := by decide +kernel
