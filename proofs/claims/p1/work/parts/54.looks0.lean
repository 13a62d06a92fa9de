/-! looks from each cell, part 0 -/
theorem xok_look0 : ix_made (ix_exec (ix_tbl (ix_O0 6)) (ix_sums xS1) 100000 3) xsm_look0 = true := by decide +kernel
theorem xok_look1 : ix_made (ix_exec (ix_tbl (ix_O0 6)) (ix_sums xS1) 100000 3) xsm_look1 = true := by decide +kernel
theorem xok_look2 : ix_made (ix_exec (ix_tbl (ix_O0 6)) (ix_sums xS1) 100000 3) xsm_look2 = true := by decide +kernel
theorem xok_look3 : ix_made (ix_exec (ix_tbl (ix_O0 6)) (ix_sums xS1) 100000 3) xsm_look3 = true := by decide +kernel
theorem xok_look4 : ix_made (ix_exec (ix_tbl (ix_O0 6)) (ix_sums xS1) 100000 3) xsm_look4 = true := by decide +kernel
theorem xok_look5 : ix_made (ix_exec (ix_tbl (ix_O0 6)) (ix_sums xS1) 100000 3) xsm_look5 = true := by decide +kernel
theorem xok_look6 : ix_made (ix_exec (ix_tbl (ix_O0 6)) (ix_sums xS1) 100000 3) xsm_look6 = true := by decide +kernel
theorem xok_look7 : ix_made (ix_exec (ix_tbl (ix_O0 6)) (ix_sums xS1) 100000 3) xsm_look7 = true := by decide +kernel
theorem xok_look8 : ix_made (ix_exec (ix_tbl (ix_O0 6)) (ix_sums xS1) 100000 3) xsm_look8 = true := by decide +kernel
theorem xok_look9 : ix_made (ix_exec (ix_tbl (ix_O0 6)) (ix_sums xS1) 100000 3) xsm_look9 = true := by decide +kernel
theorem xok_look10 : ix_made (ix_exec (ix_tbl (ix_O0 6)) (ix_sums xS1) 100000 3) xsm_look10 = true := by decide +kernel
theorem xok_look11 : ix_made (ix_exec (ix_tbl (ix_O0 6)) (ix_sums xS1) 100000 3) xsm_look11 = true := by decide +kernel
theorem xok_look12 : ix_made (ix_exec (ix_tbl (ix_O0 6)) (ix_sums xS1) 100000 3) xsm_look12 = true := by decide +kernel
theorem xok_look13 : ix_made (ix_exec (ix_tbl (ix_O0 6)) (ix_sums xS1) 100000 3) xsm_look13 = true := by decide +kernel
theorem xok_look14 : ix_made (ix_exec (ix_tbl (ix_O0 6)) (ix_sums xS1) 100000 3) xsm_look14 = true := by decide +kernel
theorem xok_look15 : ix_made (ix_exec (ix_tbl (ix_O0 6)) (ix_sums xS1) 100000 3) xsm_look15 = true := by decide +kernel
