/-! looks from each cell, part 1 -/
theorem xok_look16 : ix_made (ix_exec (ix_tbl (ix_O0 6)) (ix_sums xS1) 100000 3) xsm_look16 = true := by decide +kernel
theorem xok_look17 : ix_made (ix_exec (ix_tbl (ix_O0 6)) (ix_sums xS1) 100000 3) xsm_look17 = true := by decide +kernel
theorem xok_look18 : ix_made (ix_exec (ix_tbl (ix_O0 6)) (ix_sums xS1) 100000 3) xsm_look18 = true := by decide +kernel
theorem xok_look19 : ix_made (ix_exec (ix_tbl (ix_O0 6)) (ix_sums xS1) 100000 3) xsm_look19 = true := by decide +kernel
theorem xok_look20 : ix_made (ix_exec (ix_tbl (ix_O0 6)) (ix_sums xS1) 100000 3) xsm_look20 = true := by decide +kernel
theorem xok_look21 : ix_made (ix_exec (ix_tbl (ix_O0 6)) (ix_sums xS1) 100000 3) xsm_look21 = true := by decide +kernel
theorem xok_look22 : ix_made (ix_exec (ix_tbl (ix_O0 6)) (ix_sums xS1) 100000 3) xsm_look22 = true := by decide +kernel
theorem xok_look23 : ix_made (ix_exec (ix_tbl (ix_O0 6)) (ix_sums xS1) 100000 3) xsm_look23 = true := by decide +kernel
theorem xok_look24 : ix_made (ix_exec (ix_tbl (ix_O0 6)) (ix_sums xS1) 100000 3) xsm_look24 = true := by decide +kernel
theorem xok_look25 : ix_made (ix_exec (ix_tbl (ix_O0 6)) (ix_sums xS1) 100000 3) xsm_look25 = true := by decide +kernel
theorem xok_look26 : ix_made (ix_exec (ix_tbl (ix_O0 6)) (ix_sums xS1) 100000 3) xsm_look26 = true := by decide +kernel
theorem xok_look27 : ix_made (ix_exec (ix_tbl (ix_O0 6)) (ix_sums xS1) 100000 3) xsm_look27 = true := by decide +kernel
theorem xok_look28 : ix_made (ix_exec (ix_tbl (ix_O0 6)) (ix_sums xS1) 100000 3) xsm_look28 = true := by decide +kernel
theorem xok_look29 : ix_made (ix_exec (ix_tbl (ix_O0 6)) (ix_sums xS1) 100000 3) xsm_look29 = true := by decide +kernel
theorem xok_look30 : ix_made (ix_exec (ix_tbl (ix_O0 6)) (ix_sums xS1) 100000 3) xsm_look30 = true := by decide +kernel
theorem xok_look31 : ix_made (ix_exec (ix_tbl (ix_O0 6)) (ix_sums xS1) 100000 3) xsm_look31 = true := by decide +kernel
