/-! for now: to try what is behind -/
theorem xh_41_0 : ix_good (iz_law ix_none 6 ((ix_Bop 41).set 1 (0, 2147483647))) = true := sorry
theorem xh_41_1 : ix_good (iz_law ix_none 6 ((ix_Bop 41).set 1 (2147483648, 2147483648))) = true := sorry
theorem xh_41_2 : ix_good (iz_law ix_none 6 ((ix_Bop 41).set 1 (2147483649, 2147483649))) = true := sorry
theorem xh_41_3 : ix_good (iz_law ix_none 6 ((ix_Bop 41).set 1 (2147483650, 4294967295))) = true := sorry
