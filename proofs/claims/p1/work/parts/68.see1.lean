/-! looks and views, part 1 -/
set_option maxRecDepth 10000000 in
theorem xok_see16 : ix_made (ix_exec (ix_tbl (ix_O0 6)) ix_none 100000 5) xsm_see16 = true := by decide +kernel
set_option maxRecDepth 10000000 in
theorem xok_see17 : ix_made (ix_exec (ix_tbl (ix_O0 6)) ix_none 100000 5) xsm_see17 = true := by decide +kernel
set_option maxRecDepth 10000000 in
theorem xok_see18 : ix_made (ix_exec (ix_tbl (ix_O0 6)) ix_none 100000 5) xsm_see18 = true := by decide +kernel
set_option maxRecDepth 10000000 in
theorem xok_see19 : ix_made (ix_exec (ix_tbl (ix_O0 6)) ix_none 100000 5) xsm_see19 = true := by decide +kernel
set_option maxRecDepth 10000000 in
theorem xok_see20 : ix_made (ix_exec (ix_tbl (ix_O0 6)) ix_none 100000 5) xsm_see20 = true := by decide +kernel
set_option maxRecDepth 10000000 in
theorem xok_see21 : ix_made (ix_exec (ix_tbl (ix_O0 6)) ix_none 100000 5) xsm_see21 = true := by decide +kernel
set_option maxRecDepth 10000000 in
theorem xok_see22 : ix_made (ix_exec (ix_tbl (ix_O0 6)) ix_none 100000 5) xsm_see22 = true := by decide +kernel
set_option maxRecDepth 10000000 in
theorem xok_see23 : ix_made (ix_exec (ix_tbl (ix_O0 6)) ix_none 100000 5) xsm_see23 = true := by decide +kernel
set_option maxRecDepth 10000000 in
theorem xok_see24 : ix_made (ix_exec (ix_tbl (ix_O0 6)) ix_none 100000 5) xsm_see24 = true := by decide +kernel
set_option maxRecDepth 10000000 in
theorem xok_see25 : ix_made (ix_exec (ix_tbl (ix_O0 6)) ix_none 100000 5) xsm_see25 = true := by decide +kernel
set_option maxRecDepth 10000000 in
theorem xok_see26 : ix_made (ix_exec (ix_tbl (ix_O0 6)) ix_none 100000 5) xsm_see26 = true := by decide +kernel
set_option maxRecDepth 10000000 in
theorem xok_see27 : ix_made (ix_exec (ix_tbl (ix_O0 6)) ix_none 100000 5) xsm_see27 = true := by decide +kernel
set_option maxRecDepth 10000000 in
theorem xok_see28 : ix_made (ix_exec (ix_tbl (ix_O0 6)) ix_none 100000 5) xsm_see28 = true := by decide +kernel
set_option maxRecDepth 10000000 in
theorem xok_see29 : ix_made (ix_exec (ix_tbl (ix_O0 6)) ix_none 100000 5) xsm_see29 = true := by decide +kernel
set_option maxRecDepth 10000000 in
theorem xok_see30 : ix_made (ix_exec (ix_tbl (ix_O0 6)) ix_none 100000 5) xsm_see30 = true := by decide +kernel
set_option maxRecDepth 10000000 in
theorem xok_see31 : ix_made (ix_exec (ix_tbl (ix_O0 6)) ix_none 100000 5) xsm_see31 = true := by decide +kernel
set_option maxRecDepth 10000000 in
theorem xok_stv16 : ix_made (ix_exec (ix_tbl (ix_O0 6)) (ix_sums xS1) 100000 4) xsm_stv16 = true := by decide +kernel
set_option maxRecDepth 10000000 in
theorem xok_stv17 : ix_made (ix_exec (ix_tbl (ix_O0 6)) (ix_sums xS1) 100000 4) xsm_stv17 = true := by decide +kernel
set_option maxRecDepth 10000000 in
theorem xok_stv18 : ix_made (ix_exec (ix_tbl (ix_O0 6)) (ix_sums xS1) 100000 4) xsm_stv18 = true := by decide +kernel
set_option maxRecDepth 10000000 in
theorem xok_stv19 : ix_made (ix_exec (ix_tbl (ix_O0 6)) (ix_sums xS1) 100000 4) xsm_stv19 = true := by decide +kernel
set_option maxRecDepth 10000000 in
theorem xok_stv20 : ix_made (ix_exec (ix_tbl (ix_O0 6)) (ix_sums xS1) 100000 4) xsm_stv20 = true := by decide +kernel
set_option maxRecDepth 10000000 in
theorem xok_stv21 : ix_made (ix_exec (ix_tbl (ix_O0 6)) (ix_sums xS1) 100000 4) xsm_stv21 = true := by decide +kernel
set_option maxRecDepth 10000000 in
theorem xok_stv22 : ix_made (ix_exec (ix_tbl (ix_O0 6)) (ix_sums xS1) 100000 4) xsm_stv22 = true := by decide +kernel
set_option maxRecDepth 10000000 in
theorem xok_stv23 : ix_made (ix_exec (ix_tbl (ix_O0 6)) (ix_sums xS1) 100000 4) xsm_stv23 = true := by decide +kernel
set_option maxRecDepth 10000000 in
theorem xok_stv24 : ix_made (ix_exec (ix_tbl (ix_O0 6)) (ix_sums xS1) 100000 4) xsm_stv24 = true := by decide +kernel
set_option maxRecDepth 10000000 in
theorem xok_stv25 : ix_made (ix_exec (ix_tbl (ix_O0 6)) (ix_sums xS1) 100000 4) xsm_stv25 = true := by decide +kernel
set_option maxRecDepth 10000000 in
theorem xok_stv26 : ix_made (ix_exec (ix_tbl (ix_O0 6)) (ix_sums xS1) 100000 4) xsm_stv26 = true := by decide +kernel
set_option maxRecDepth 10000000 in
theorem xok_stv27 : ix_made (ix_exec (ix_tbl (ix_O0 6)) (ix_sums xS1) 100000 4) xsm_stv27 = true := by decide +kernel
set_option maxRecDepth 10000000 in
theorem xok_stv28 : ix_made (ix_exec (ix_tbl (ix_O0 6)) (ix_sums xS1) 100000 4) xsm_stv28 = true := by decide +kernel
set_option maxRecDepth 10000000 in
theorem xok_stv29 : ix_made (ix_exec (ix_tbl (ix_O0 6)) (ix_sums xS1) 100000 4) xsm_stv29 = true := by decide +kernel
set_option maxRecDepth 10000000 in
theorem xok_stv30 : ix_made (ix_exec (ix_tbl (ix_O0 6)) (ix_sums xS1) 100000 4) xsm_stv30 = true := by decide +kernel
set_option maxRecDepth 10000000 in
theorem xok_stv31 : ix_made (ix_exec (ix_tbl (ix_O0 6)) (ix_sums xS1) 100000 4) xsm_stv31 = true := by decide +kernel
