/-! looks and views, part 2 -/
set_option maxRecDepth 10000000 in
theorem xok_see32 : ix_made (ix_exec (ix_tbl (ix_O0 6)) ix_none 100000 5) xsm_see32 = true := by decide +kernel
set_option maxRecDepth 10000000 in
theorem xok_see33 : ix_made (ix_exec (ix_tbl (ix_O0 6)) ix_none 100000 5) xsm_see33 = true := by decide +kernel
set_option maxRecDepth 10000000 in
theorem xok_see34 : ix_made (ix_exec (ix_tbl (ix_O0 6)) ix_none 100000 5) xsm_see34 = true := by decide +kernel
set_option maxRecDepth 10000000 in
theorem xok_see35 : ix_made (ix_exec (ix_tbl (ix_O0 6)) ix_none 100000 5) xsm_see35 = true := by decide +kernel
set_option maxRecDepth 10000000 in
theorem xok_see36 : ix_made (ix_exec (ix_tbl (ix_O0 6)) ix_none 100000 5) xsm_see36 = true := by decide +kernel
set_option maxRecDepth 10000000 in
theorem xok_see37 : ix_made (ix_exec (ix_tbl (ix_O0 6)) ix_none 100000 5) xsm_see37 = true := by decide +kernel
set_option maxRecDepth 10000000 in
theorem xok_see38 : ix_made (ix_exec (ix_tbl (ix_O0 6)) ix_none 100000 5) xsm_see38 = true := by decide +kernel
set_option maxRecDepth 10000000 in
theorem xok_see39 : ix_made (ix_exec (ix_tbl (ix_O0 6)) ix_none 100000 5) xsm_see39 = true := by decide +kernel
set_option maxRecDepth 10000000 in
theorem xok_see40 : ix_made (ix_exec (ix_tbl (ix_O0 6)) ix_none 100000 5) xsm_see40 = true := by decide +kernel
set_option maxRecDepth 10000000 in
theorem xok_see41 : ix_made (ix_exec (ix_tbl (ix_O0 6)) ix_none 100000 5) xsm_see41 = true := by decide +kernel
set_option maxRecDepth 10000000 in
theorem xok_see42 : ix_made (ix_exec (ix_tbl (ix_O0 6)) ix_none 100000 5) xsm_see42 = true := by decide +kernel
set_option maxRecDepth 10000000 in
theorem xok_see43 : ix_made (ix_exec (ix_tbl (ix_O0 6)) ix_none 100000 5) xsm_see43 = true := by decide +kernel
set_option maxRecDepth 10000000 in
theorem xok_see44 : ix_made (ix_exec (ix_tbl (ix_O0 6)) ix_none 100000 5) xsm_see44 = true := by decide +kernel
set_option maxRecDepth 10000000 in
theorem xok_see45 : ix_made (ix_exec (ix_tbl (ix_O0 6)) ix_none 100000 5) xsm_see45 = true := by decide +kernel
set_option maxRecDepth 10000000 in
theorem xok_see46 : ix_made (ix_exec (ix_tbl (ix_O0 6)) ix_none 100000 5) xsm_see46 = true := by decide +kernel
set_option maxRecDepth 10000000 in
theorem xok_see47 : ix_made (ix_exec (ix_tbl (ix_O0 6)) ix_none 100000 5) xsm_see47 = true := by decide +kernel
set_option maxRecDepth 10000000 in
theorem xok_stv32 : ix_made (ix_exec (ix_tbl (ix_O0 6)) (ix_sums xS1) 100000 4) xsm_stv32 = true := by decide +kernel
set_option maxRecDepth 10000000 in
theorem xok_stv33 : ix_made (ix_exec (ix_tbl (ix_O0 6)) (ix_sums xS1) 100000 4) xsm_stv33 = true := by decide +kernel
set_option maxRecDepth 10000000 in
theorem xok_stv34 : ix_made (ix_exec (ix_tbl (ix_O0 6)) (ix_sums xS1) 100000 4) xsm_stv34 = true := by decide +kernel
set_option maxRecDepth 10000000 in
theorem xok_stv35 : ix_made (ix_exec (ix_tbl (ix_O0 6)) (ix_sums xS1) 100000 4) xsm_stv35 = true := by decide +kernel
set_option maxRecDepth 10000000 in
theorem xok_stv36 : ix_made (ix_exec (ix_tbl (ix_O0 6)) (ix_sums xS1) 100000 4) xsm_stv36 = true := by decide +kernel
set_option maxRecDepth 10000000 in
theorem xok_stv37 : ix_made (ix_exec (ix_tbl (ix_O0 6)) (ix_sums xS1) 100000 4) xsm_stv37 = true := by decide +kernel
set_option maxRecDepth 10000000 in
theorem xok_stv38 : ix_made (ix_exec (ix_tbl (ix_O0 6)) (ix_sums xS1) 100000 4) xsm_stv38 = true := by decide +kernel
set_option maxRecDepth 10000000 in
theorem xok_stv39 : ix_made (ix_exec (ix_tbl (ix_O0 6)) (ix_sums xS1) 100000 4) xsm_stv39 = true := by decide +kernel
set_option maxRecDepth 10000000 in
theorem xok_stv40 : ix_made (ix_exec (ix_tbl (ix_O0 6)) (ix_sums xS1) 100000 4) xsm_stv40 = true := by decide +kernel
set_option maxRecDepth 10000000 in
theorem xok_stv41 : ix_made (ix_exec (ix_tbl (ix_O0 6)) (ix_sums xS1) 100000 4) xsm_stv41 = true := by decide +kernel
set_option maxRecDepth 10000000 in
theorem xok_stv42 : ix_made (ix_exec (ix_tbl (ix_O0 6)) (ix_sums xS1) 100000 4) xsm_stv42 = true := by decide +kernel
set_option maxRecDepth 10000000 in
theorem xok_stv43 : ix_made (ix_exec (ix_tbl (ix_O0 6)) (ix_sums xS1) 100000 4) xsm_stv43 = true := by decide +kernel
set_option maxRecDepth 10000000 in
theorem xok_stv44 : ix_made (ix_exec (ix_tbl (ix_O0 6)) (ix_sums xS1) 100000 4) xsm_stv44 = true := by decide +kernel
set_option maxRecDepth 10000000 in
theorem xok_stv45 : ix_made (ix_exec (ix_tbl (ix_O0 6)) (ix_sums xS1) 100000 4) xsm_stv45 = true := by decide +kernel
set_option maxRecDepth 10000000 in
theorem xok_stv46 : ix_made (ix_exec (ix_tbl (ix_O0 6)) (ix_sums xS1) 100000 4) xsm_stv46 = true := by decide +kernel
set_option maxRecDepth 10000000 in
theorem xok_stv47 : ix_made (ix_exec (ix_tbl (ix_O0 6)) (ix_sums xS1) 100000 4) xsm_stv47 = true := by decide +kernel
