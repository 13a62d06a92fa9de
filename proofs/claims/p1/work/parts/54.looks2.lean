/-! looks from each cell, part 2 -/
theorem xok_look32 : ix_made (ix_exec (ix_tbl (ix_O0 6)) (ix_sums xS1) 100000 3) xsm_look32 = true := by decide +kernel
theorem xok_look33 : ix_made (ix_exec (ix_tbl (ix_O0 6)) (ix_sums xS1) 100000 3) xsm_look33 = true := by decide +kernel
theorem xok_look34 : ix_made (ix_exec (ix_tbl (ix_O0 6)) (ix_sums xS1) 100000 3) xsm_look34 = true := by decide +kernel
theorem xok_look35 : ix_made (ix_exec (ix_tbl (ix_O0 6)) (ix_sums xS1) 100000 3) xsm_look35 = true := by decide +kernel
theorem xok_look36 : ix_made (ix_exec (ix_tbl (ix_O0 6)) (ix_sums xS1) 100000 3) xsm_look36 = true := by decide +kernel
theorem xok_look37 : ix_made (ix_exec (ix_tbl (ix_O0 6)) (ix_sums xS1) 100000 3) xsm_look37 = true := by decide +kernel
theorem xok_look38 : ix_made (ix_exec (ix_tbl (ix_O0 6)) (ix_sums xS1) 100000 3) xsm_look38 = true := by decide +kernel
theorem xok_look39 : ix_made (ix_exec (ix_tbl (ix_O0 6)) (ix_sums xS1) 100000 3) xsm_look39 = true := by decide +kernel
theorem xok_look40 : ix_made (ix_exec (ix_tbl (ix_O0 6)) (ix_sums xS1) 100000 3) xsm_look40 = true := by decide +kernel
theorem xok_look41 : ix_made (ix_exec (ix_tbl (ix_O0 6)) (ix_sums xS1) 100000 3) xsm_look41 = true := by decide +kernel
theorem xok_look42 : ix_made (ix_exec (ix_tbl (ix_O0 6)) (ix_sums xS1) 100000 3) xsm_look42 = true := by decide +kernel
theorem xok_look43 : ix_made (ix_exec (ix_tbl (ix_O0 6)) (ix_sums xS1) 100000 3) xsm_look43 = true := by decide +kernel
theorem xok_look44 : ix_made (ix_exec (ix_tbl (ix_O0 6)) (ix_sums xS1) 100000 3) xsm_look44 = true := by decide +kernel
theorem xok_look45 : ix_made (ix_exec (ix_tbl (ix_O0 6)) (ix_sums xS1) 100000 3) xsm_look45 = true := by decide +kernel
theorem xok_look46 : ix_made (ix_exec (ix_tbl (ix_O0 6)) (ix_sums xS1) 100000 3) xsm_look46 = true := by decide +kernel
theorem xok_look47 : ix_made (ix_exec (ix_tbl (ix_O0 6)) (ix_sums xS1) 100000 3) xsm_look47 = true := by decide +kernel
