theorem ix_t0 : ix_good (ix_law 6 38) = true := by decide +kernel
