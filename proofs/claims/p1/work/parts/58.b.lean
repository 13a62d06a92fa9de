/-! longer runs -/
set_option maxRecDepth 10000000 in
theorem xh_39_0 : ix_good (iz_law iz_S1 6 (ix_Bop 39)) = true := by decide +kernel
set_option maxRecDepth 10000000 in
theorem xh_38_0 : ix_good (iz_law ix_none 6 (ix_Bop 38)) = true := by decide +kernel
