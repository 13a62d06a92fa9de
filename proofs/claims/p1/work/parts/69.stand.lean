/-! stand: one and two by a run, and the law's runs -/
noncomputable def xsm_sb1 : ix_Sm := (1, 198, [ix_vR 80, ix_vI 1], 114, [(79, xC141), (81, xC142), (105, xC143), (106, xC74), (107, xC144)], [([ix_vI 64], [(79, xC141), (81, xC142), (105, xC143), (106, xC74), (107, xC145)])])
set_option maxRecDepth 10000000 in
theorem xok_sb1 : ix_made (ix_exec (ix_tbl (ix_O0 6)) ix_none 200000 1) xsm_sb1 = true := by decide +kernel
noncomputable def xS4 : List ix_Sm := xsm_sb1 :: xsm_sb2 :: xsm_sb3 :: xsm_sb4 :: xS3
theorem xco4 {l : Launch} : ∀ d, ix_CO l xTs xcl (ix_O0 6) xsl xJ (d + 1) (ix_sums xS4 d) := ix_sums_ok xS4 (List.forall_mem_cons.mpr ⟨⟨_, ix_exec_ok (fun y => xM y) xnone xgood _, xok_sb1⟩, List.forall_mem_cons.mpr ⟨⟨_, ix_c1_ok xq2_mt, xok_sb2⟩, List.forall_mem_cons.mpr ⟨⟨_, ix_c1_ok xq3_mt, xok_sb3⟩, List.forall_mem_cons.mpr ⟨⟨_, ix_c1_ok xq4_mt, xok_sb4⟩, xv3⟩⟩⟩⟩)
noncomputable def iz_p4 (y : Nat) : Bool := Nat.beq y 147 || (Nat.beq y 318 || (Nat.beq y 220 || Nat.beq y 198))
noncomputable def iz_S4 : Nat → ix_Call := iz_flt iz_p4 (ix_sums xS4)
theorem iz_co4 {l : Launch} : ∀ d, ix_CO l xTs xcl (ix_O0 6) xsl xJ (d + 1) (iz_S4 d) := iz_flt_ok xco4
set_option maxRecDepth 10000000 in
theorem xh_28_0 : ix_good (iz_law iz_S4 6 ((ix_Bop 28).set 1 (0, 2147483648))) = true := by decide +kernel
set_option maxRecDepth 10000000 in
theorem xh_28_1 : ix_good (iz_law iz_S4 6 ((ix_Bop 28).set 1 (2147483649, 2147483649))) = true := by decide +kernel
set_option maxRecDepth 10000000 in
theorem xh_28_2 : ix_good (iz_law iz_S4 6 ((ix_Bop 28).set 1 (2147483650, 2147483650))) = true := by decide +kernel
set_option maxRecDepth 10000000 in
theorem xh_28_3 : ix_good (iz_law iz_S4 6 ((ix_Bop 28).set 1 (2147483651, 2147483651))) = true := by decide +kernel
set_option maxRecDepth 10000000 in
theorem xh_28_4 : ix_good (iz_law iz_S4 6 ((ix_Bop 28).set 1 (2147483652, 2147483652))) = true := by decide +kernel
set_option maxRecDepth 10000000 in
theorem xh_28_5 : ix_good (iz_law iz_S4 6 ((ix_Bop 28).set 1 (2147483653, 4294967295))) = true := by decide +kernel
