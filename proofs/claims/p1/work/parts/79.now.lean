/-! for now: to try what is behind -/
theorem ix_ff {σ : ix_Sg} (n : Nat) : ix_ib σ (List.replicate n ix_full) := by
  intro x lo hi hx
  have hm : (lo, hi) = ix_full := List.eq_of_mem_replicate (List.mem_of_getElem? hx)
  have hl := ix_bz_lt (σ.1 x)
  have h1 : lo = 0 := congrArg Prod.fst hm
  have h2 : hi = 4294967295 := congrArg Prod.snd hm
  exact ⟨by omega, by omega⟩
noncomputable def iz_S4 : Nat → ix_Call := ix_none
theorem iz_co4 {l : Launch} : ∀ d, ix_CO l xTs xcl (ix_O0 6) xsl xJ (d + 1) (iz_S4 d) := xnone
theorem xh_28_0 : ix_good (iz_law iz_S4 6 ((ix_Bop 28).set 1 (0, 2147483648))) = true := sorry
theorem xh_28_1 : ix_good (iz_law iz_S4 6 ((ix_Bop 28).set 1 (2147483649, 2147483649))) = true := sorry
theorem xh_28_2 : ix_good (iz_law iz_S4 6 ((ix_Bop 28).set 1 (2147483650, 2147483650))) = true := sorry
theorem xh_28_3 : ix_good (iz_law iz_S4 6 ((ix_Bop 28).set 1 (2147483651, 2147483651))) = true := sorry
theorem xh_28_4 : ix_good (iz_law iz_S4 6 ((ix_Bop 28).set 1 (2147483652, 2147483652))) = true := sorry
theorem xh_28_5 : ix_good (iz_law iz_S4 6 ((ix_Bop 28).set 1 (2147483653, 4294967295))) = true := sorry
