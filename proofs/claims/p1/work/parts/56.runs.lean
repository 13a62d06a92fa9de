/-! the law's runs by our machine: a script that is too short; calls that end soon -/
noncomputable def ix_Bfull : ix_B := [ix_full, ix_full, ix_full, ix_full, ix_full, ix_full, ix_full, ix_full]
noncomputable def ix_Brest : ix_B := [ix_full, ix_full, ix_full, ix_full, ix_full, ix_full, ix_full, (ix_bias 45, ix_bias 63)]
theorem xgL_0 : ix_good (ix_law ix_none 0 ix_Bfull) = true := by decide +kernel
theorem xgL_1 : ix_good (ix_law ix_none 1 ix_Bfull) = true := by decide +kernel
theorem xgL_2 : ix_good (ix_law ix_none 2 ix_Bfull) = true := by decide +kernel
theorem xgL_3 : ix_good (ix_law ix_none 3 ix_Bfull) = true := by decide +kernel
theorem xgL_4 : ix_good (ix_law ix_none 4 ix_Bfull) = true := by decide +kernel
theorem xgL_5 : ix_good (ix_law ix_none 5 ix_Bfull) = true := by decide +kernel
theorem xg_rest : ix_good (ix_law ix_none 6 ix_Brest) = true := by decide +kernel
theorem xg_0 : ix_good (ix_law ix_none 6 (ix_Bop 0)) = true := by decide +kernel
theorem xg_1 : ix_good (ix_law ix_none 6 (ix_Bop 1)) = true := by decide +kernel
theorem xg_2 : ix_good (ix_law ix_none 6 (ix_Bop 2)) = true := by decide +kernel
theorem xg_3 : ix_good (ix_law ix_none 6 (ix_Bop 3)) = true := by decide +kernel
theorem xg_4 : ix_good (ix_law ix_none 6 (ix_Bop 4)) = true := by decide +kernel
theorem xg_5 : ix_good (ix_law ix_none 6 (ix_Bop 5)) = true := by decide +kernel
theorem xg_6 : ix_good (ix_law ix_none 6 (ix_Bop 6)) = true := by decide +kernel
theorem xg_7 : ix_good (ix_law ix_none 6 (ix_Bop 7)) = true := by decide +kernel
theorem xg_8 : ix_good (ix_law ix_none 6 (ix_Bop 8)) = true := by decide +kernel
theorem xg_9 : ix_good (ix_law ix_none 6 (ix_Bop 9)) = true := by decide +kernel
theorem xg_10 : ix_good (ix_law ix_none 6 (ix_Bop 10)) = true := by decide +kernel
theorem xg_11 : ix_good (ix_law ix_none 6 (ix_Bop 11)) = true := by decide +kernel
theorem xg_12 : ix_good (ix_law ix_none 6 (ix_Bop 12)) = true := by decide +kernel
theorem xg_13 : ix_good (ix_law ix_none 6 (ix_Bop 13)) = true := by decide +kernel
theorem xg_14 : ix_good (ix_law ix_none 6 (ix_Bop 14)) = true := by decide +kernel
theorem xg_15 : ix_good (ix_law ix_none 6 (ix_Bop 15)) = true := by decide +kernel
theorem xg_16 : ix_good (ix_law ix_none 6 (ix_Bop 16)) = true := by decide +kernel
theorem xg_17 : ix_good (ix_law ix_none 6 (ix_Bop 17)) = true := by decide +kernel
theorem xg_18 : ix_good (ix_law ix_none 6 (ix_Bop 18)) = true := by decide +kernel
theorem xg_19 : ix_good (ix_law ix_none 6 (ix_Bop 19)) = true := by decide +kernel
theorem xg_23 : ix_good (ix_law ix_none 6 (ix_Bop 23)) = true := by decide +kernel
theorem xg_24 : ix_good (ix_law ix_none 6 (ix_Bop 24)) = true := by decide +kernel
theorem xg_25 : ix_good (ix_law ix_none 6 (ix_Bop 25)) = true := by decide +kernel
theorem xg_26 : ix_good (ix_law ix_none 6 (ix_Bop 26)) = true := by decide +kernel
theorem xg_27 : ix_good (ix_law ix_none 6 (ix_Bop 27)) = true := by decide +kernel
theorem xg_29 : ix_good (ix_law ix_none 6 (ix_Bop 29)) = true := by decide +kernel
theorem xg_30 : ix_good (ix_law ix_none 6 (ix_Bop 30)) = true := by decide +kernel
theorem xg_31 : ix_good (ix_law ix_none 6 (ix_Bop 31)) = true := by decide +kernel
theorem xg_33 : ix_good (ix_law ix_none 6 (ix_Bop 33)) = true := by decide +kernel
theorem xg_34 : ix_good (ix_law ix_none 6 (ix_Bop 34)) = true := by decide +kernel
theorem xg_35 : ix_good (ix_law ix_none 6 (ix_Bop 35)) = true := by decide +kernel
theorem xg_36 : ix_good (ix_law ix_none 6 (ix_Bop 36)) = true := by decide +kernel
theorem xg_37 : ix_good (ix_law ix_none 6 (ix_Bop 37)) = true := by decide +kernel
theorem xg_40 : ix_good (ix_law ix_none 6 (ix_Bop 40)) = true := by decide +kernel
theorem xg_42 : ix_good (ix_law ix_none 6 (ix_Bop 42)) = true := by decide +kernel
theorem xg_43 : ix_good (ix_law ix_none 6 (ix_Bop 43)) = true := by decide +kernel
theorem xg_44 : ix_good (ix_law ix_none 6 (ix_Bop 44)) = true := by decide +kernel
