/-! looks and views, part 0 -/
set_option maxRecDepth 10000000 in
theorem xok_see0 : ix_made (ix_exec (ix_tbl (ix_O0 6)) ix_none 100000 5) xsm_see0 = true := by decide +kernel
set_option maxRecDepth 10000000 in
theorem xok_see1 : ix_made (ix_exec (ix_tbl (ix_O0 6)) ix_none 100000 5) xsm_see1 = true := by decide +kernel
set_option maxRecDepth 10000000 in
theorem xok_see2 : ix_made (ix_exec (ix_tbl (ix_O0 6)) ix_none 100000 5) xsm_see2 = true := by decide +kernel
set_option maxRecDepth 10000000 in
theorem xok_see3 : ix_made (ix_exec (ix_tbl (ix_O0 6)) ix_none 100000 5) xsm_see3 = true := by decide +kernel
set_option maxRecDepth 10000000 in
theorem xok_see4 : ix_made (ix_exec (ix_tbl (ix_O0 6)) ix_none 100000 5) xsm_see4 = true := by decide +kernel
set_option maxRecDepth 10000000 in
theorem xok_see5 : ix_made (ix_exec (ix_tbl (ix_O0 6)) ix_none 100000 5) xsm_see5 = true := by decide +kernel
set_option maxRecDepth 10000000 in
theorem xok_see6 : ix_made (ix_exec (ix_tbl (ix_O0 6)) ix_none 100000 5) xsm_see6 = true := by decide +kernel
set_option maxRecDepth 10000000 in
theorem xok_see7 : ix_made (ix_exec (ix_tbl (ix_O0 6)) ix_none 100000 5) xsm_see7 = true := by decide +kernel
set_option maxRecDepth 10000000 in
theorem xok_see8 : ix_made (ix_exec (ix_tbl (ix_O0 6)) ix_none 100000 5) xsm_see8 = true := by decide +kernel
set_option maxRecDepth 10000000 in
theorem xok_see9 : ix_made (ix_exec (ix_tbl (ix_O0 6)) ix_none 100000 5) xsm_see9 = true := by decide +kernel
set_option maxRecDepth 10000000 in
theorem xok_see10 : ix_made (ix_exec (ix_tbl (ix_O0 6)) ix_none 100000 5) xsm_see10 = true := by decide +kernel
set_option maxRecDepth 10000000 in
theorem xok_see11 : ix_made (ix_exec (ix_tbl (ix_O0 6)) ix_none 100000 5) xsm_see11 = true := by decide +kernel
set_option maxRecDepth 10000000 in
theorem xok_see12 : ix_made (ix_exec (ix_tbl (ix_O0 6)) ix_none 100000 5) xsm_see12 = true := by decide +kernel
set_option maxRecDepth 10000000 in
theorem xok_see13 : ix_made (ix_exec (ix_tbl (ix_O0 6)) ix_none 100000 5) xsm_see13 = true := by decide +kernel
set_option maxRecDepth 10000000 in
theorem xok_see14 : ix_made (ix_exec (ix_tbl (ix_O0 6)) ix_none 100000 5) xsm_see14 = true := by decide +kernel
set_option maxRecDepth 10000000 in
theorem xok_see15 : ix_made (ix_exec (ix_tbl (ix_O0 6)) ix_none 100000 5) xsm_see15 = true := by decide +kernel
set_option maxRecDepth 10000000 in
theorem xok_stv0 : ix_made (ix_exec (ix_tbl (ix_O0 6)) (ix_sums xS1) 100000 4) xsm_stv0 = true := by decide +kernel
set_option maxRecDepth 10000000 in
theorem xok_stv1 : ix_made (ix_exec (ix_tbl (ix_O0 6)) (ix_sums xS1) 100000 4) xsm_stv1 = true := by decide +kernel
set_option maxRecDepth 10000000 in
theorem xok_stv2 : ix_made (ix_exec (ix_tbl (ix_O0 6)) (ix_sums xS1) 100000 4) xsm_stv2 = true := by decide +kernel
set_option maxRecDepth 10000000 in
theorem xok_stv3 : ix_made (ix_exec (ix_tbl (ix_O0 6)) (ix_sums xS1) 100000 4) xsm_stv3 = true := by decide +kernel
set_option maxRecDepth 10000000 in
theorem xok_stv4 : ix_made (ix_exec (ix_tbl (ix_O0 6)) (ix_sums xS1) 100000 4) xsm_stv4 = true := by decide +kernel
set_option maxRecDepth 10000000 in
theorem xok_stv5 : ix_made (ix_exec (ix_tbl (ix_O0 6)) (ix_sums xS1) 100000 4) xsm_stv5 = true := by decide +kernel
set_option maxRecDepth 10000000 in
theorem xok_stv6 : ix_made (ix_exec (ix_tbl (ix_O0 6)) (ix_sums xS1) 100000 4) xsm_stv6 = true := by decide +kernel
set_option maxRecDepth 10000000 in
theorem xok_stv7 : ix_made (ix_exec (ix_tbl (ix_O0 6)) (ix_sums xS1) 100000 4) xsm_stv7 = true := by decide +kernel
set_option maxRecDepth 10000000 in
theorem xok_stv8 : ix_made (ix_exec (ix_tbl (ix_O0 6)) (ix_sums xS1) 100000 4) xsm_stv8 = true := by decide +kernel
set_option maxRecDepth 10000000 in
theorem xok_stv9 : ix_made (ix_exec (ix_tbl (ix_O0 6)) (ix_sums xS1) 100000 4) xsm_stv9 = true := by decide +kernel
set_option maxRecDepth 10000000 in
theorem xok_stv10 : ix_made (ix_exec (ix_tbl (ix_O0 6)) (ix_sums xS1) 100000 4) xsm_stv10 = true := by decide +kernel
set_option maxRecDepth 10000000 in
theorem xok_stv11 : ix_made (ix_exec (ix_tbl (ix_O0 6)) (ix_sums xS1) 100000 4) xsm_stv11 = true := by decide +kernel
set_option maxRecDepth 10000000 in
theorem xok_stv12 : ix_made (ix_exec (ix_tbl (ix_O0 6)) (ix_sums xS1) 100000 4) xsm_stv12 = true := by decide +kernel
set_option maxRecDepth 10000000 in
theorem xok_stv13 : ix_made (ix_exec (ix_tbl (ix_O0 6)) (ix_sums xS1) 100000 4) xsm_stv13 = true := by decide +kernel
set_option maxRecDepth 10000000 in
theorem xok_stv14 : ix_made (ix_exec (ix_tbl (ix_O0 6)) (ix_sums xS1) 100000 4) xsm_stv14 = true := by decide +kernel
set_option maxRecDepth 10000000 in
theorem xok_stv15 : ix_made (ix_exec (ix_tbl (ix_O0 6)) (ix_sums xS1) 100000 4) xsm_stv15 = true := by decide +kernel
