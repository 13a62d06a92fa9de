/-! each call of the script -/
section LWE
variable {O : ix_O} {L i n ce sl : Nat} {f : ix_A} {v : Nat → Nat} {t : ix_T}
def lw_T (O : ix_O) (i n ce sl pc : Nat) (t : ix_T) : Prop := ∃ n' t', lw_hp n' t' ∧ n' ≤ n + 16 ∧ ∃ ce' sl', ce' ≤ ce + 16 ∧ sl' ≤ sl + 600 ∧ ty_rt (ix_tbl O) 410 (ix_cLw O) pc (lw_ls i, [], n, t, ce, sl) 1493 (lw_ls i, [], n', t', ce', sl')
def lw_H (O : ix_O) (L : Nat) (f : ix_A) (v : Nat → Nat) (i n ce sl : Nat) (t : ix_T) : Prop := ty_hO O ∧ O 1000000 = some (L, f) ∧ (∀ j, j < L → ix_g f j = .inl (v j)) ∧ (∀ j, v j < 4294967296) ∧ L ≤ 3072 ∧ i + 6 ≤ L ∧ n + 16 ≤ 16384 ∧ ce + 16 ≤ 600000 ∧ sl + 600 ≤ 7302250 ∧ lw_hp n t
set_option maxRecDepth 100000 in
set_option maxHeartbeats 4000000 in
theorem lw_op0 (H : lw_H O L f v i n ce sl t) : lw_T O i n ce sl 228 t := by
  obtain ⟨hO, h0, h1, h2, h3, h4, h5, h6, h7, h8⟩ := H
  exact lw_two (p := 228) (q := 243) (cs := [1, 2]) (y1 := 74) (y2 := 174) (mc1 := 0) (ms1 := 0) (mc2 := 0) (ms2 := 0) (K1 := kd_110) (K2 := kc_1512) (lo1 := 2147483648) (hi1 := 6442450943) (lo2 := 2147483648) (hi2 := 6442450943) h0 h1 h2 h3 (fun c hc => by simp at hc <;> omega) h5 h6 h7 h8 rfl (by decide) (by decide) (fun _ => rfl) ⟨fun _ => rfl, fun _ => rfl, fun _ => rfl, fun _ => rfl, fun _ => rfl, fun _ => rfl, fun _ => rfl, fun _ => rfl, fun _ => rfl, fun _ => rfl, trivial⟩ (fun _ => rfl) (fun _ => rfl) (fun _ => rfl) ⟨fun _ => rfl, fun _ => rfl, fun _ => rfl, fun _ => rfl, fun _ => rfl, fun _ => rfl, fun _ => rfl, fun _ => rfl, fun _ => rfl, fun _ => rfl, trivial⟩ (fun _ => rfl) (fun _ => rfl) (fun _ => rfl) rfl rfl (tj_qk34 hO 740000000 kd_110 rfl 97) (ty_qk62 hO 1740000000 kc_1512 rfl 0) rfl rfl rfl rfl rfl rfl
set_option maxRecDepth 100000 in
set_option maxHeartbeats 4000000 in
theorem lw_op1 (H : lw_H O L f v i n ce sl t) : lw_T O i n ce sl 261 t := by
  obtain ⟨hO, h0, h1, h2, h3, h4, h5, h6, h7, h8⟩ := H
  exact lw_two (p := 261) (q := 276) (cs := [1, 2]) (y1 := 34) (y2 := 97) (mc1 := 0) (ms1 := 0) (mc2 := 0) (ms2 := 0) (K1 := kd_79) (K2 := kc_1481) (lo1 := 2147483648) (hi1 := 6442450943) (lo2 := 2147483648) (hi2 := 6442450943) h0 h1 h2 h3 (fun c hc => by simp at hc <;> omega) h5 h6 h7 h8 rfl (by decide) (by decide) (fun _ => rfl) ⟨fun _ => rfl, fun _ => rfl, fun _ => rfl, fun _ => rfl, fun _ => rfl, fun _ => rfl, fun _ => rfl, fun _ => rfl, fun _ => rfl, fun _ => rfl, trivial⟩ (fun _ => rfl) (fun _ => rfl) (fun _ => rfl) ⟨fun _ => rfl, fun _ => rfl, fun _ => rfl, fun _ => rfl, fun _ => rfl, fun _ => rfl, fun _ => rfl, fun _ => rfl, fun _ => rfl, fun _ => rfl, trivial⟩ (fun _ => rfl) (fun _ => rfl) (fun _ => rfl) rfl rfl (tj_qk34 hO 340000000 kd_79 rfl 97) (ty_qk62 hO 970000000 kc_1481 rfl 0) rfl rfl rfl rfl rfl rfl
set_option maxRecDepth 100000 in
set_option maxHeartbeats 4000000 in
theorem lw_op2 (H : lw_H O L f v i n ce sl t) : lw_T O i n ce sl 294 t := by
  obtain ⟨hO, h0, h1, h2, h3, h4, h5, h6, h7, h8⟩ := H
  exact lw_two (p := 294) (q := 314) (cs := [1, 2, 3]) (y1 := 73) (y2 := 170) (mc1 := 0) (ms1 := 0) (mc2 := 0) (ms2 := 0) (K1 := kd_109) (K2 := kc_1511) (lo1 := 2147483648) (hi1 := 6442450943) (lo2 := 2147483648) (hi2 := 6442450943) h0 h1 h2 h3 (fun c hc => by simp at hc <;> omega) h5 h6 h7 h8 rfl (by decide) (by decide) (fun _ => rfl) ⟨fun _ => rfl, fun _ => rfl, fun _ => rfl, fun _ => rfl, fun _ => rfl, fun _ => rfl, fun _ => rfl, fun _ => rfl, fun _ => rfl, fun _ => rfl, fun _ => rfl, fun _ => rfl, fun _ => rfl, fun _ => rfl, fun _ => rfl, trivial⟩ (fun _ => rfl) (fun _ => rfl) (fun _ => rfl) ⟨fun _ => rfl, fun _ => rfl, fun _ => rfl, fun _ => rfl, fun _ => rfl, fun _ => rfl, fun _ => rfl, fun _ => rfl, fun _ => rfl, fun _ => rfl, fun _ => rfl, fun _ => rfl, fun _ => rfl, fun _ => rfl, fun _ => rfl, trivial⟩ (fun _ => rfl) (fun _ => rfl) (fun _ => rfl) rfl rfl (tj_qk34 hO 730000000 kd_109 rfl 97) (ty_qk62 hO 1700000000 kc_1511 rfl 0) rfl rfl rfl rfl rfl rfl
set_option maxRecDepth 100000 in
set_option maxHeartbeats 4000000 in
theorem lw_op3 (H : lw_H O L f v i n ce sl t) : lw_T O i n ce sl 337 t := by
  obtain ⟨hO, h0, h1, h2, h3, h4, h5, h6, h7, h8⟩ := H
  exact lw_two (p := 337) (q := 352) (cs := [1, 2]) (y1 := 67) (y2 := 161) (mc1 := 0) (ms1 := 0) (mc2 := 0) (ms2 := 0) (K1 := kd_104) (K2 := kc_1506) (lo1 := 2147483648) (hi1 := 6442450943) (lo2 := 2147483648) (hi2 := 6442450943) h0 h1 h2 h3 (fun c hc => by simp at hc <;> omega) h5 h6 h7 h8 rfl (by decide) (by decide) (fun _ => rfl) ⟨fun _ => rfl, fun _ => rfl, fun _ => rfl, fun _ => rfl, fun _ => rfl, fun _ => rfl, fun _ => rfl, fun _ => rfl, fun _ => rfl, fun _ => rfl, trivial⟩ (fun _ => rfl) (fun _ => rfl) (fun _ => rfl) ⟨fun _ => rfl, fun _ => rfl, fun _ => rfl, fun _ => rfl, fun _ => rfl, fun _ => rfl, fun _ => rfl, fun _ => rfl, fun _ => rfl, fun _ => rfl, trivial⟩ (fun _ => rfl) (fun _ => rfl) (fun _ => rfl) rfl rfl (tj_qk34 hO 670000000 kd_104 rfl 97) (ty_qk62 hO 1610000000 kc_1506 rfl 0) rfl rfl rfl rfl rfl rfl
set_option maxRecDepth 100000 in
set_option maxHeartbeats 4000000 in
theorem lw_op4 (H : lw_H O L f v i n ce sl t) : lw_T O i n ce sl 370 t := by
  obtain ⟨hO, h0, h1, h2, h3, h4, h5, h6, h7, h8⟩ := H
  exact lw_two (p := 370) (q := 380) (cs := [1]) (y1 := 90) (y2 := 212) (mc1 := 0) (ms1 := 0) (mc2 := 0) (ms2 := 0) (K1 := kd_122) (K2 := kc_1524) (lo1 := 2147483648) (hi1 := 6442450943) (lo2 := 2147483648) (hi2 := 6442450943) h0 h1 h2 h3 (fun c hc => by simp at hc <;> omega) h5 h6 h7 h8 rfl (by decide) (by decide) (fun _ => rfl) ⟨fun _ => rfl, fun _ => rfl, fun _ => rfl, fun _ => rfl, fun _ => rfl, trivial⟩ (fun _ => rfl) (fun _ => rfl) (fun _ => rfl) ⟨fun _ => rfl, fun _ => rfl, fun _ => rfl, fun _ => rfl, fun _ => rfl, trivial⟩ (fun _ => rfl) (fun _ => rfl) (fun _ => rfl) rfl rfl (tj_qk34 hO 900000000 kd_122 rfl 97) (ty_qk62 hO 2120000000 kc_1524 rfl 0) rfl rfl rfl rfl rfl rfl
set_option maxRecDepth 100000 in
set_option maxHeartbeats 4000000 in
theorem lw_op5 (H : lw_H O L f v i n ce sl t) : lw_T O i n ce sl 393 t := by
  obtain ⟨hO, h0, h1, h2, h3, h4, h5, h6, h7, h8⟩ := H
  exact lw_two (p := 393) (q := 408) (cs := [1, 2]) (y1 := 54) (y2 := 127) (mc1 := 0) (ms1 := 0) (mc2 := 0) (ms2 := 0) (K1 := kd_94) (K2 := kc_1496) (lo1 := 2147483648) (hi1 := 6442450943) (lo2 := 2147483648) (hi2 := 6442450943) h0 h1 h2 h3 (fun c hc => by simp at hc <;> omega) h5 h6 h7 h8 rfl (by decide) (by decide) (fun _ => rfl) ⟨fun _ => rfl, fun _ => rfl, fun _ => rfl, fun _ => rfl, fun _ => rfl, fun _ => rfl, fun _ => rfl, fun _ => rfl, fun _ => rfl, fun _ => rfl, trivial⟩ (fun _ => rfl) (fun _ => rfl) (fun _ => rfl) ⟨fun _ => rfl, fun _ => rfl, fun _ => rfl, fun _ => rfl, fun _ => rfl, fun _ => rfl, fun _ => rfl, fun _ => rfl, fun _ => rfl, fun _ => rfl, trivial⟩ (fun _ => rfl) (fun _ => rfl) (fun _ => rfl) rfl rfl (tj_qk34 hO 540000000 kd_94 rfl 97) (ty_qk62 hO 1270000000 kc_1496 rfl 0) rfl rfl rfl rfl rfl rfl
set_option maxRecDepth 100000 in
set_option maxHeartbeats 4000000 in
theorem lw_op6 (H : lw_H O L f v i n ce sl t) : lw_T O i n ce sl 426 t := by
  obtain ⟨hO, h0, h1, h2, h3, h4, h5, h6, h7, h8⟩ := H
  exact lw_two (p := 426) (q := 441) (cs := [1, 2]) (y1 := 66) (y2 := 156) (mc1 := 0) (ms1 := 0) (mc2 := 0) (ms2 := 0) (K1 := kd_103) (K2 := kc_1505) (lo1 := 2147483648) (hi1 := 6442450943) (lo2 := 2147483648) (hi2 := 6442450943) h0 h1 h2 h3 (fun c hc => by simp at hc <;> omega) h5 h6 h7 h8 rfl (by decide) (by decide) (fun _ => rfl) ⟨fun _ => rfl, fun _ => rfl, fun _ => rfl, fun _ => rfl, fun _ => rfl, fun _ => rfl, fun _ => rfl, fun _ => rfl, fun _ => rfl, fun _ => rfl, trivial⟩ (fun _ => rfl) (fun _ => rfl) (fun _ => rfl) ⟨fun _ => rfl, fun _ => rfl, fun _ => rfl, fun _ => rfl, fun _ => rfl, fun _ => rfl, fun _ => rfl, fun _ => rfl, fun _ => rfl, fun _ => rfl, trivial⟩ (fun _ => rfl) (fun _ => rfl) (fun _ => rfl) rfl rfl (tj_qk34 hO 660000000 kd_103 rfl 97) (ty_qk62 hO 1560000000 kc_1505 rfl 0) rfl rfl rfl rfl rfl rfl
set_option maxRecDepth 100000 in
set_option maxHeartbeats 4000000 in
theorem lw_op7 (H : lw_H O L f v i n ce sl t) : lw_T O i n ce sl 459 t := by
  obtain ⟨hO, h0, h1, h2, h3, h4, h5, h6, h7, h8⟩ := H
  exact lw_two (p := 459) (q := 464) (cs := []) (y1 := 93) (y2 := 218) (mc1 := 0) (ms1 := 0) (mc2 := 0) (ms2 := 0) (K1 := kd_124) (K2 := kc_1526) (lo1 := 2147483648) (hi1 := 6442450943) (lo2 := 2147483648) (hi2 := 6442450943) h0 h1 h2 h3 (fun c hc => by simp at hc <;> omega) h5 h6 h7 h8 rfl (by decide) (by decide) (fun _ => rfl) trivial (fun _ => rfl) (fun _ => rfl) (fun _ => rfl) trivial (fun _ => rfl) (fun _ => rfl) (fun _ => rfl) rfl rfl (tj_qk34 hO 930000000 kd_124 rfl 97) (ty_qk62 hO 2180000000 kc_1526 rfl 0) rfl rfl rfl rfl rfl rfl
set_option maxRecDepth 100000 in
set_option maxHeartbeats 4000000 in
theorem lw_op8 (H : lw_H O L f v i n ce sl t) : lw_T O i n ce sl 472 t := by
  obtain ⟨hO, h0, h1, h2, h3, h4, h5, h6, h7, h8⟩ := H
  exact lw_two (p := 472) (q := 492) (cs := [1, 2, 3]) (y1 := 89) (y2 := 209) (mc1 := 0) (ms1 := 0) (mc2 := 0) (ms2 := 0) (K1 := kd_121) (K2 := kc_1523) (lo1 := 2147483648) (hi1 := 6442450943) (lo2 := 2147483648) (hi2 := 6442450943) h0 h1 h2 h3 (fun c hc => by simp at hc <;> omega) h5 h6 h7 h8 rfl (by decide) (by decide) (fun _ => rfl) ⟨fun _ => rfl, fun _ => rfl, fun _ => rfl, fun _ => rfl, fun _ => rfl, fun _ => rfl, fun _ => rfl, fun _ => rfl, fun _ => rfl, fun _ => rfl, fun _ => rfl, fun _ => rfl, fun _ => rfl, fun _ => rfl, fun _ => rfl, trivial⟩ (fun _ => rfl) (fun _ => rfl) (fun _ => rfl) ⟨fun _ => rfl, fun _ => rfl, fun _ => rfl, fun _ => rfl, fun _ => rfl, fun _ => rfl, fun _ => rfl, fun _ => rfl, fun _ => rfl, fun _ => rfl, fun _ => rfl, fun _ => rfl, fun _ => rfl, fun _ => rfl, fun _ => rfl, trivial⟩ (fun _ => rfl) (fun _ => rfl) (fun _ => rfl) rfl rfl (tj_qk34 hO 890000000 kd_121 rfl 97) (ty_qk62 hO 2090000000 kc_1523 rfl 0) rfl rfl rfl rfl rfl rfl
set_option maxRecDepth 100000 in
set_option maxHeartbeats 4000000 in
theorem lw_op9 (H : lw_H O L f v i n ce sl t) : lw_T O i n ce sl 515 t := by
  obtain ⟨hO, h0, h1, h2, h3, h4, h5, h6, h7, h8⟩ := H
  exact lw_two (p := 515) (q := 525) (cs := [1]) (y1 := 37) (y2 := 103) (mc1 := 0) (ms1 := 0) (mc2 := 0) (ms2 := 0) (K1 := kd_81) (K2 := kc_1483) (lo1 := 2147483648) (hi1 := 6442450943) (lo2 := 2147483648) (hi2 := 6442450943) h0 h1 h2 h3 (fun c hc => by simp at hc <;> omega) h5 h6 h7 h8 rfl (by decide) (by decide) (fun _ => rfl) ⟨fun _ => rfl, fun _ => rfl, fun _ => rfl, fun _ => rfl, fun _ => rfl, trivial⟩ (fun _ => rfl) (fun _ => rfl) (fun _ => rfl) ⟨fun _ => rfl, fun _ => rfl, fun _ => rfl, fun _ => rfl, fun _ => rfl, trivial⟩ (fun _ => rfl) (fun _ => rfl) (fun _ => rfl) rfl rfl (tj_qk34 hO 370000000 kd_81 rfl 97) (ty_qk62 hO 1030000000 kc_1483 rfl 0) rfl rfl rfl rfl rfl rfl
set_option maxRecDepth 100000 in
set_option maxHeartbeats 4000000 in
theorem lw_op10 (H : lw_H O L f v i n ce sl t) : lw_T O i n ce sl 538 t := by
  obtain ⟨hO, h0, h1, h2, h3, h4, h5, h6, h7, h8⟩ := H
  exact lw_two (p := 538) (q := 553) (cs := [1, 2]) (y1 := 88) (y2 := 207) (mc1 := 0) (ms1 := 0) (mc2 := 0) (ms2 := 0) (K1 := kd_120) (K2 := kc_1522) (lo1 := 2147483648) (hi1 := 6442450943) (lo2 := 2147483648) (hi2 := 6442450943) h0 h1 h2 h3 (fun c hc => by simp at hc <;> omega) h5 h6 h7 h8 rfl (by decide) (by decide) (fun _ => rfl) ⟨fun _ => rfl, fun _ => rfl, fun _ => rfl, fun _ => rfl, fun _ => rfl, fun _ => rfl, fun _ => rfl, fun _ => rfl, fun _ => rfl, fun _ => rfl, trivial⟩ (fun _ => rfl) (fun _ => rfl) (fun _ => rfl) ⟨fun _ => rfl, fun _ => rfl, fun _ => rfl, fun _ => rfl, fun _ => rfl, fun _ => rfl, fun _ => rfl, fun _ => rfl, fun _ => rfl, fun _ => rfl, trivial⟩ (fun _ => rfl) (fun _ => rfl) (fun _ => rfl) rfl rfl (tj_qk34 hO 880000000 kd_120 rfl 97) (ty_qk62 hO 2070000000 kc_1522 rfl 0) rfl rfl rfl rfl rfl rfl
set_option maxRecDepth 100000 in
set_option maxHeartbeats 4000000 in
theorem lw_op11 (H : lw_H O L f v i n ce sl t) : lw_T O i n ce sl 571 t := by
  obtain ⟨hO, h0, h1, h2, h3, h4, h5, h6, h7, h8⟩ := H
  exact lw_two (p := 571) (q := 601) (cs := [1, 2, 3, 4, 5]) (y1 := 48) (y2 := 117) (mc1 := 0) (ms1 := 0) (mc2 := 0) (ms2 := 0) (K1 := kd_90) (K2 := kc_1492) (lo1 := 2147483648) (hi1 := 6442450943) (lo2 := 2147483648) (hi2 := 6442450943) h0 h1 h2 h3 (fun c hc => by simp at hc <;> omega) h5 h6 h7 h8 rfl (by decide) (by decide) (fun _ => rfl) ⟨fun _ => rfl, fun _ => rfl, fun _ => rfl, fun _ => rfl, fun _ => rfl, fun _ => rfl, fun _ => rfl, fun _ => rfl, fun _ => rfl, fun _ => rfl, fun _ => rfl, fun _ => rfl, fun _ => rfl, fun _ => rfl, fun _ => rfl, fun _ => rfl, fun _ => rfl, fun _ => rfl, fun _ => rfl, fun _ => rfl, fun _ => rfl, fun _ => rfl, fun _ => rfl, fun _ => rfl, fun _ => rfl, trivial⟩ (fun _ => rfl) (fun _ => rfl) (fun _ => rfl) ⟨fun _ => rfl, fun _ => rfl, fun _ => rfl, fun _ => rfl, fun _ => rfl, fun _ => rfl, fun _ => rfl, fun _ => rfl, fun _ => rfl, fun _ => rfl, fun _ => rfl, fun _ => rfl, fun _ => rfl, fun _ => rfl, fun _ => rfl, fun _ => rfl, fun _ => rfl, fun _ => rfl, fun _ => rfl, fun _ => rfl, fun _ => rfl, fun _ => rfl, fun _ => rfl, fun _ => rfl, fun _ => rfl, trivial⟩ (fun _ => rfl) (fun _ => rfl) (fun _ => rfl) rfl rfl (tj_qk34 hO 480000000 kd_90 rfl 97) (ty_qk62 hO 1170000000 kc_1492 rfl 0) rfl rfl rfl rfl rfl rfl
set_option maxRecDepth 100000 in
set_option maxHeartbeats 4000000 in
theorem lw_op12 (H : lw_H O L f v i n ce sl t) : lw_T O i n ce sl 634 t := by
  obtain ⟨hO, h0, h1, h2, h3, h4, h5, h6, h7, h8⟩ := H
  exact lw_two (p := 634) (q := 644) (cs := [1]) (y1 := 45) (y2 := 113) (mc1 := 0) (ms1 := 0) (mc2 := 0) (ms2 := 0) (K1 := kd_87) (K2 := kc_1489) (lo1 := 2147483648) (hi1 := 6442450943) (lo2 := 2147483648) (hi2 := 6442450943) h0 h1 h2 h3 (fun c hc => by simp at hc <;> omega) h5 h6 h7 h8 rfl (by decide) (by decide) (fun _ => rfl) ⟨fun _ => rfl, fun _ => rfl, fun _ => rfl, fun _ => rfl, fun _ => rfl, trivial⟩ (fun _ => rfl) (fun _ => rfl) (fun _ => rfl) ⟨fun _ => rfl, fun _ => rfl, fun _ => rfl, fun _ => rfl, fun _ => rfl, trivial⟩ (fun _ => rfl) (fun _ => rfl) (fun _ => rfl) rfl rfl (tj_qk34 hO 450000000 kd_87 rfl 97) (ty_qk62 hO 1130000000 kc_1489 rfl 0) rfl rfl rfl rfl rfl rfl
set_option maxRecDepth 100000 in
set_option maxHeartbeats 4000000 in
theorem lw_op13 (H : lw_H O L f v i n ce sl t) : lw_T O i n ce sl 657 t := by
  obtain ⟨hO, h0, h1, h2, h3, h4, h5, h6, h7, h8⟩ := H
  exact lw_two (p := 657) (q := 662) (cs := []) (y1 := 80) (y2 := 192) (mc1 := 0) (ms1 := 0) (mc2 := 0) (ms2 := 0) (K1 := kd_114) (K2 := kc_1516) (lo1 := 2147483648) (hi1 := 6442450943) (lo2 := 2147483648) (hi2 := 6442450943) h0 h1 h2 h3 (fun c hc => by simp at hc <;> omega) h5 h6 h7 h8 rfl (by decide) (by decide) (fun _ => rfl) trivial (fun _ => rfl) (fun _ => rfl) (fun _ => rfl) trivial (fun _ => rfl) (fun _ => rfl) (fun _ => rfl) rfl rfl (tj_qk34 hO 800000000 kd_114 rfl 97) (ty_qk62 hO 1920000000 kc_1516 rfl 0) rfl rfl rfl rfl rfl rfl
set_option maxRecDepth 100000 in
set_option maxHeartbeats 4000000 in
theorem lw_op14 (H : lw_H O L f v i n ce sl t) : lw_T O i n ce sl 670 t := by
  obtain ⟨hO, h0, h1, h2, h3, h4, h5, h6, h7, h8⟩ := H
  exact lw_two (p := 670) (q := 675) (cs := []) (y1 := 44) (y2 := 112) (mc1 := 0) (ms1 := 0) (mc2 := 0) (ms2 := 0) (K1 := kd_86) (K2 := kc_1488) (lo1 := 2147483648) (hi1 := 6442450943) (lo2 := 2147483648) (hi2 := 6442450943) h0 h1 h2 h3 (fun c hc => by simp at hc <;> omega) h5 h6 h7 h8 rfl (by decide) (by decide) (fun _ => rfl) trivial (fun _ => rfl) (fun _ => rfl) (fun _ => rfl) trivial (fun _ => rfl) (fun _ => rfl) (fun _ => rfl) rfl rfl (tj_qk34 hO 440000000 kd_86 rfl 97) (ty_qk62 hO 1120000000 kc_1488 rfl 0) rfl rfl rfl rfl rfl rfl
set_option maxRecDepth 100000 in
set_option maxHeartbeats 4000000 in
theorem lw_op15 (H : lw_H O L f v i n ce sl t) : lw_T O i n ce sl 683 t := by
  obtain ⟨hO, h0, h1, h2, h3, h4, h5, h6, h7, h8⟩ := H
  exact lw_two (p := 683) (q := 688) (cs := []) (y1 := 64) (y2 := 144) (mc1 := 4) (ms1 := 482) (mc2 := 0) (ms2 := 0) (K1 := kd_101) (K2 := kc_1503) (lo1 := 2147483648) (hi1 := 6442450943) (lo2 := 2147483648) (hi2 := 6442450943) h0 h1 h2 h3 (fun c hc => by simp at hc <;> omega) h5 h6 h7 h8 rfl (by decide) (by decide) (fun _ => rfl) trivial (fun _ => rfl) (fun _ => rfl) (fun _ => rfl) trivial (fun _ => rfl) (fun _ => rfl) (fun _ => rfl) rfl rfl (tj_qk34 hO 640000000 kd_101 rfl 97) (ty_qk62 hO 1440000000 kc_1503 rfl 0) rfl rfl rfl rfl rfl rfl
set_option maxRecDepth 100000 in
set_option maxHeartbeats 4000000 in
theorem lw_op16 (H : lw_H O L f v i n ce sl t) : lw_T O i n ce sl 696 t := by
  obtain ⟨hO, h0, h1, h2, h3, h4, h5, h6, h7, h8⟩ := H
  exact lw_two (p := 696) (q := 701) (cs := []) (y1 := 68) (y2 := 163) (mc1 := 0) (ms1 := 0) (mc2 := 0) (ms2 := 0) (K1 := kd_105) (K2 := kc_1507) (lo1 := 2147483648) (hi1 := 6442450943) (lo2 := 2147483648) (hi2 := 6442450943) h0 h1 h2 h3 (fun c hc => by simp at hc <;> omega) h5 h6 h7 h8 rfl (by decide) (by decide) (fun _ => rfl) trivial (fun _ => rfl) (fun _ => rfl) (fun _ => rfl) trivial (fun _ => rfl) (fun _ => rfl) (fun _ => rfl) rfl rfl (tj_qk34 hO 680000000 kd_105 rfl 97) (ty_qk62 hO 1630000000 kc_1507 rfl 0) rfl rfl rfl rfl rfl rfl
set_option maxRecDepth 100000 in
set_option maxHeartbeats 4000000 in
theorem lw_op17 (H : lw_H O L f v i n ce sl t) : lw_T O i n ce sl 709 t := by
  obtain ⟨hO, h0, h1, h2, h3, h4, h5, h6, h7, h8⟩ := H
  exact lw_two (p := 709) (q := 714) (cs := []) (y1 := 47) (y2 := 115) (mc1 := 0) (ms1 := 0) (mc2 := 0) (ms2 := 0) (K1 := kd_89) (K2 := kc_1491) (lo1 := 2147483648) (hi1 := 6442450943) (lo2 := 2147483648) (hi2 := 6442450943) h0 h1 h2 h3 (fun c hc => by simp at hc <;> omega) h5 h6 h7 h8 rfl (by decide) (by decide) (fun _ => rfl) trivial (fun _ => rfl) (fun _ => rfl) (fun _ => rfl) trivial (fun _ => rfl) (fun _ => rfl) (fun _ => rfl) rfl rfl (tj_qk34 hO 470000000 kd_89 rfl 97) (ty_qk62 hO 1150000000 kc_1491 rfl 0) rfl rfl rfl rfl rfl rfl
set_option maxRecDepth 100000 in
set_option maxHeartbeats 4000000 in
theorem lw_op18 (H : lw_H O L f v i n ce sl t) : lw_T O i n ce sl 722 t := by
  obtain ⟨hO, h0, h1, h2, h3, h4, h5, h6, h7, h8⟩ := H
  exact lw_two (p := 722) (q := 727) (cs := []) (y1 := 85) (y2 := 200) (mc1 := 0) (ms1 := 0) (mc2 := 0) (ms2 := 0) (K1 := kd_117) (K2 := kc_1519) (lo1 := 2147483648) (hi1 := 6442450943) (lo2 := 2147483648) (hi2 := 6442450943) h0 h1 h2 h3 (fun c hc => by simp at hc <;> omega) h5 h6 h7 h8 rfl (by decide) (by decide) (fun _ => rfl) trivial (fun _ => rfl) (fun _ => rfl) (fun _ => rfl) trivial (fun _ => rfl) (fun _ => rfl) (fun _ => rfl) rfl rfl (tj_qk34 hO 850000000 kd_117 rfl 97) (ty_qk62 hO 2000000000 kc_1519 rfl 0) rfl rfl rfl rfl rfl rfl
set_option maxRecDepth 100000 in
set_option maxHeartbeats 4000000 in
theorem lw_op19 (H : lw_H O L f v i n ce sl t) : lw_T O i n ce sl 735 t := by
  obtain ⟨hO, h0, h1, h2, h3, h4, h5, h6, h7, h8⟩ := H
  exact lw_two (p := 735) (q := 745) (cs := [1]) (y1 := 49) (y2 := 120) (mc1 := 0) (ms1 := 0) (mc2 := 0) (ms2 := 0) (K1 := kd_91) (K2 := kc_1493) (lo1 := 2147483648) (hi1 := 6442450943) (lo2 := 2147483648) (hi2 := 6442450943) h0 h1 h2 h3 (fun c hc => by simp at hc <;> omega) h5 h6 h7 h8 rfl (by decide) (by decide) (fun _ => rfl) ⟨fun _ => rfl, fun _ => rfl, fun _ => rfl, fun _ => rfl, fun _ => rfl, trivial⟩ (fun _ => rfl) (fun _ => rfl) (fun _ => rfl) ⟨fun _ => rfl, fun _ => rfl, fun _ => rfl, fun _ => rfl, fun _ => rfl, trivial⟩ (fun _ => rfl) (fun _ => rfl) (fun _ => rfl) rfl rfl (tj_qk34 hO 490000000 kd_91 rfl 97) (ty_qk62 hO 1200000000 kc_1493 rfl 0) rfl rfl rfl rfl rfl rfl
set_option maxRecDepth 100000 in
set_option maxHeartbeats 4000000 in
theorem lw_op20 (H : lw_H O L f v i n ce sl t) : lw_T O i n ce sl 758 t := by
  obtain ⟨hO, h0, h1, h2, h3, h4, h5, h6, h7, h8⟩ := H
  exact lw_two (p := 758) (q := 778) (cs := [1, 2, 3]) (y1 := 76) (y2 := 176) (mc1 := 0) (ms1 := 0) (mc2 := 0) (ms2 := 0) (K1 := kd_112) (K2 := kc_1514) (lo1 := 2147483648) (hi1 := 6442450943) (lo2 := 2147483648) (hi2 := 6442450943) h0 h1 h2 h3 (fun c hc => by simp at hc <;> omega) h5 h6 h7 h8 rfl (by decide) (by decide) (fun _ => rfl) ⟨fun _ => rfl, fun _ => rfl, fun _ => rfl, fun _ => rfl, fun _ => rfl, fun _ => rfl, fun _ => rfl, fun _ => rfl, fun _ => rfl, fun _ => rfl, fun _ => rfl, fun _ => rfl, fun _ => rfl, fun _ => rfl, fun _ => rfl, trivial⟩ (fun _ => rfl) (fun _ => rfl) (fun _ => rfl) ⟨fun _ => rfl, fun _ => rfl, fun _ => rfl, fun _ => rfl, fun _ => rfl, fun _ => rfl, fun _ => rfl, fun _ => rfl, fun _ => rfl, fun _ => rfl, fun _ => rfl, fun _ => rfl, fun _ => rfl, fun _ => rfl, fun _ => rfl, trivial⟩ (fun _ => rfl) (fun _ => rfl) (fun _ => rfl) rfl rfl (tj_qk34 hO 760000000 kd_112 rfl 97) (ty_qk62 hO 1760000000 kc_1514 rfl 0) rfl rfl rfl rfl rfl rfl
set_option maxRecDepth 100000 in
set_option maxHeartbeats 4000000 in
theorem lw_op21 (H : lw_H O L f v i n ce sl t) : lw_T O i n ce sl 801 t := by
  obtain ⟨hO, h0, h1, h2, h3, h4, h5, h6, h7, h8⟩ := H
  exact lw_two (p := 801) (q := 816) (cs := [1, 2]) (y1 := 51) (y2 := 122) (mc1 := 0) (ms1 := 0) (mc2 := 0) (ms2 := 0) (K1 := kd_93) (K2 := kc_1495) (lo1 := 2147483648) (hi1 := 6442450943) (lo2 := 2147483648) (hi2 := 6442450943) h0 h1 h2 h3 (fun c hc => by simp at hc <;> omega) h5 h6 h7 h8 rfl (by decide) (by decide) (fun _ => rfl) ⟨fun _ => rfl, fun _ => rfl, fun _ => rfl, fun _ => rfl, fun _ => rfl, fun _ => rfl, fun _ => rfl, fun _ => rfl, fun _ => rfl, fun _ => rfl, trivial⟩ (fun _ => rfl) (fun _ => rfl) (fun _ => rfl) ⟨fun _ => rfl, fun _ => rfl, fun _ => rfl, fun _ => rfl, fun _ => rfl, fun _ => rfl, fun _ => rfl, fun _ => rfl, fun _ => rfl, fun _ => rfl, trivial⟩ (fun _ => rfl) (fun _ => rfl) (fun _ => rfl) rfl rfl (tj_qk34 hO 510000000 kd_93 rfl 97) (ty_qk62 hO 1220000000 kc_1495 rfl 0) rfl rfl rfl rfl rfl rfl
set_option maxRecDepth 100000 in
set_option maxHeartbeats 4000000 in
theorem lw_op22 (H : lw_H O L f v i n ce sl t) : lw_T O i n ce sl 834 t := by
  obtain ⟨hO, h0, h1, h2, h3, h4, h5, h6, h7, h8⟩ := H
  exact lw_two (p := 834) (q := 844) (cs := [1]) (y1 := 94) (y2 := 219) (mc1 := 0) (ms1 := 0) (mc2 := 0) (ms2 := 0) (K1 := kd_125) (K2 := kc_1527) (lo1 := 2147483648) (hi1 := 6442450943) (lo2 := 2147483648) (hi2 := 6442450943) h0 h1 h2 h3 (fun c hc => by simp at hc <;> omega) h5 h6 h7 h8 rfl (by decide) (by decide) (fun _ => rfl) ⟨fun _ => rfl, fun _ => rfl, fun _ => rfl, fun _ => rfl, fun _ => rfl, trivial⟩ (fun _ => rfl) (fun _ => rfl) (fun _ => rfl) ⟨fun _ => rfl, fun _ => rfl, fun _ => rfl, fun _ => rfl, fun _ => rfl, trivial⟩ (fun _ => rfl) (fun _ => rfl) (fun _ => rfl) rfl rfl (tj_qk34 hO 940000000 kd_125 rfl 97) (ty_qk62 hO 2190000000 kc_1527 rfl 0) rfl rfl rfl rfl rfl rfl
set_option maxRecDepth 100000 in
set_option maxHeartbeats 4000000 in
theorem lw_op23 (H : lw_H O L f v i n ce sl t) : lw_T O i n ce sl 857 t := by
  obtain ⟨hO, h0, h1, h2, h3, h4, h5, h6, h7, h8⟩ := H
  exact lw_two (p := 857) (q := 872) (cs := [1, 2]) (y1 := 70) (y2 := 166) (mc1 := 0) (ms1 := 0) (mc2 := 0) (ms2 := 0) (K1 := kd_107) (K2 := kc_1509) (lo1 := 2147483648) (hi1 := 6442450943) (lo2 := 2147483648) (hi2 := 6442450943) h0 h1 h2 h3 (fun c hc => by simp at hc <;> omega) h5 h6 h7 h8 rfl (by decide) (by decide) (fun _ => rfl) ⟨fun _ => rfl, fun _ => rfl, fun _ => rfl, fun _ => rfl, fun _ => rfl, fun _ => rfl, fun _ => rfl, fun _ => rfl, fun _ => rfl, fun _ => rfl, trivial⟩ (fun _ => rfl) (fun _ => rfl) (fun _ => rfl) ⟨fun _ => rfl, fun _ => rfl, fun _ => rfl, fun _ => rfl, fun _ => rfl, fun _ => rfl, fun _ => rfl, fun _ => rfl, fun _ => rfl, fun _ => rfl, trivial⟩ (fun _ => rfl) (fun _ => rfl) (fun _ => rfl) rfl rfl (tj_qk34 hO 700000000 kd_107 rfl 97) (ty_qk62 hO 1660000000 kc_1509 rfl 0) rfl rfl rfl rfl rfl rfl
set_option maxRecDepth 100000 in
set_option maxHeartbeats 4000000 in
theorem lw_op24 (H : lw_H O L f v i n ce sl t) : lw_T O i n ce sl 890 t := by
  obtain ⟨hO, h0, h1, h2, h3, h4, h5, h6, h7, h8⟩ := H
  exact lw_two (p := 890) (q := 910) (cs := [1, 2, 3]) (y1 := 38) (y2 := 104) (mc1 := 0) (ms1 := 0) (mc2 := 0) (ms2 := 0) (K1 := kd_82) (K2 := kc_1484) (lo1 := 2147483648) (hi1 := 6442450943) (lo2 := 2147483648) (hi2 := 6442450943) h0 h1 h2 h3 (fun c hc => by simp at hc <;> omega) h5 h6 h7 h8 rfl (by decide) (by decide) (fun _ => rfl) ⟨fun _ => rfl, fun _ => rfl, fun _ => rfl, fun _ => rfl, fun _ => rfl, fun _ => rfl, fun _ => rfl, fun _ => rfl, fun _ => rfl, fun _ => rfl, fun _ => rfl, fun _ => rfl, fun _ => rfl, fun _ => rfl, fun _ => rfl, trivial⟩ (fun _ => rfl) (fun _ => rfl) (fun _ => rfl) ⟨fun _ => rfl, fun _ => rfl, fun _ => rfl, fun _ => rfl, fun _ => rfl, fun _ => rfl, fun _ => rfl, fun _ => rfl, fun _ => rfl, fun _ => rfl, fun _ => rfl, fun _ => rfl, fun _ => rfl, fun _ => rfl, fun _ => rfl, trivial⟩ (fun _ => rfl) (fun _ => rfl) (fun _ => rfl) rfl rfl (tj_qk34 hO 380000000 kd_82 rfl 97) (ty_qk62 hO 1040000000 kc_1484 rfl 0) rfl rfl rfl rfl rfl rfl
set_option maxRecDepth 100000 in
set_option maxHeartbeats 4000000 in
theorem lw_op25 (H : lw_H O L f v i n ce sl t) : lw_T O i n ce sl 933 t := by
  obtain ⟨hO, h0, h1, h2, h3, h4, h5, h6, h7, h8⟩ := H
  exact lw_two (p := 933) (q := 948) (cs := [1, 2]) (y1 := 69) (y2 := 165) (mc1 := 0) (ms1 := 0) (mc2 := 0) (ms2 := 0) (K1 := kd_106) (K2 := kc_1508) (lo1 := 2147483648) (hi1 := 6442450943) (lo2 := 2147483648) (hi2 := 6442450943) h0 h1 h2 h3 (fun c hc => by simp at hc <;> omega) h5 h6 h7 h8 rfl (by decide) (by decide) (fun _ => rfl) ⟨fun _ => rfl, fun _ => rfl, fun _ => rfl, fun _ => rfl, fun _ => rfl, fun _ => rfl, fun _ => rfl, fun _ => rfl, fun _ => rfl, fun _ => rfl, trivial⟩ (fun _ => rfl) (fun _ => rfl) (fun _ => rfl) ⟨fun _ => rfl, fun _ => rfl, fun _ => rfl, fun _ => rfl, fun _ => rfl, fun _ => rfl, fun _ => rfl, fun _ => rfl, fun _ => rfl, fun _ => rfl, trivial⟩ (fun _ => rfl) (fun _ => rfl) (fun _ => rfl) rfl rfl (tj_qk34 hO 690000000 kd_106 rfl 97) (ty_qk62 hO 1650000000 kc_1508 rfl 0) rfl rfl rfl rfl rfl rfl
set_option maxRecDepth 100000 in
set_option maxHeartbeats 4000000 in
theorem lw_op26 (H : lw_H O L f v i n ce sl t) : lw_T O i n ce sl 966 t := by
  obtain ⟨hO, h0, h1, h2, h3, h4, h5, h6, h7, h8⟩ := H
  exact lw_two (p := 966) (q := 976) (cs := [1]) (y1 := 46) (y2 := 114) (mc1 := 0) (ms1 := 0) (mc2 := 0) (ms2 := 0) (K1 := kd_88) (K2 := kc_1490) (lo1 := 2147483648) (hi1 := 6442450943) (lo2 := 2147483648) (hi2 := 6442450943) h0 h1 h2 h3 (fun c hc => by simp at hc <;> omega) h5 h6 h7 h8 rfl (by decide) (by decide) (fun _ => rfl) ⟨fun _ => rfl, fun _ => rfl, fun _ => rfl, fun _ => rfl, fun _ => rfl, trivial⟩ (fun _ => rfl) (fun _ => rfl) (fun _ => rfl) ⟨fun _ => rfl, fun _ => rfl, fun _ => rfl, fun _ => rfl, fun _ => rfl, trivial⟩ (fun _ => rfl) (fun _ => rfl) (fun _ => rfl) rfl rfl (tj_qk34 hO 460000000 kd_88 rfl 97) (ty_qk62 hO 1140000000 kc_1490 rfl 0) rfl rfl rfl rfl rfl rfl
set_option maxRecDepth 100000 in
set_option maxHeartbeats 4000000 in
theorem lw_op27 (H : lw_H O L f v i n ce sl t) : lw_T O i n ce sl 989 t := by
  obtain ⟨hO, h0, h1, h2, h3, h4, h5, h6, h7, h8⟩ := H
  exact lw_two (p := 989) (q := 999) (cs := [1]) (y1 := 65) (y2 := 152) (mc1 := 0) (ms1 := 0) (mc2 := 0) (ms2 := 0) (K1 := kd_102) (K2 := kc_1504) (lo1 := 2147483648) (hi1 := 6442450943) (lo2 := 2147483648) (hi2 := 6442450943) h0 h1 h2 h3 (fun c hc => by simp at hc <;> omega) h5 h6 h7 h8 rfl (by decide) (by decide) (fun _ => rfl) ⟨fun _ => rfl, fun _ => rfl, fun _ => rfl, fun _ => rfl, fun _ => rfl, trivial⟩ (fun _ => rfl) (fun _ => rfl) (fun _ => rfl) ⟨fun _ => rfl, fun _ => rfl, fun _ => rfl, fun _ => rfl, fun _ => rfl, trivial⟩ (fun _ => rfl) (fun _ => rfl) (fun _ => rfl) rfl rfl (tj_qk34 hO 650000000 kd_102 rfl 97) (ty_qk62 hO 1520000000 kc_1504 rfl 0) rfl rfl rfl rfl rfl rfl
set_option maxRecDepth 100000 in
set_option maxHeartbeats 4000000 in
theorem lw_op28 (H : lw_H O L f v i n ce sl t) : lw_T O i n ce sl 1012 t := by
  obtain ⟨hO, h0, h1, h2, h3, h4, h5, h6, h7, h8⟩ := H
  exact lw_two (p := 1012) (q := 1027) (cs := [1, 2]) (y1 := 82) (y2 := 197) (mc1 := 0) (ms1 := 0) (mc2 := 0) (ms2 := 0) (K1 := kd_115) (K2 := kc_1517) (lo1 := 2147483648) (hi1 := 6442450943) (lo2 := 2147483648) (hi2 := 6442450943) h0 h1 h2 h3 (fun c hc => by simp at hc <;> omega) h5 h6 h7 h8 rfl (by decide) (by decide) (fun _ => rfl) ⟨fun _ => rfl, fun _ => rfl, fun _ => rfl, fun _ => rfl, fun _ => rfl, fun _ => rfl, fun _ => rfl, fun _ => rfl, fun _ => rfl, fun _ => rfl, trivial⟩ (fun _ => rfl) (fun _ => rfl) (fun _ => rfl) ⟨fun _ => rfl, fun _ => rfl, fun _ => rfl, fun _ => rfl, fun _ => rfl, fun _ => rfl, fun _ => rfl, fun _ => rfl, fun _ => rfl, fun _ => rfl, trivial⟩ (fun _ => rfl) (fun _ => rfl) (fun _ => rfl) rfl rfl (tj_qk34 hO 820000000 kd_115 rfl 97) (ty_qk62 hO 1970000000 kc_1517 rfl 0) rfl rfl rfl rfl rfl rfl
set_option maxRecDepth 100000 in
set_option maxHeartbeats 4000000 in
theorem lw_op29 (H : lw_H O L f v i n ce sl t) : lw_T O i n ce sl 1045 t := by
  obtain ⟨hO, h0, h1, h2, h3, h4, h5, h6, h7, h8⟩ := H
  exact lw_two (p := 1045) (q := 1065) (cs := [1, 2, 3]) (y1 := 87) (y2 := 205) (mc1 := 0) (ms1 := 0) (mc2 := 0) (ms2 := 0) (K1 := kd_119) (K2 := kc_1521) (lo1 := 2147483648) (hi1 := 6442450943) (lo2 := 2147483648) (hi2 := 6442450943) h0 h1 h2 h3 (fun c hc => by simp at hc <;> omega) h5 h6 h7 h8 rfl (by decide) (by decide) (fun _ => rfl) ⟨fun _ => rfl, fun _ => rfl, fun _ => rfl, fun _ => rfl, fun _ => rfl, fun _ => rfl, fun _ => rfl, fun _ => rfl, fun _ => rfl, fun _ => rfl, fun _ => rfl, fun _ => rfl, fun _ => rfl, fun _ => rfl, fun _ => rfl, trivial⟩ (fun _ => rfl) (fun _ => rfl) (fun _ => rfl) ⟨fun _ => rfl, fun _ => rfl, fun _ => rfl, fun _ => rfl, fun _ => rfl, fun _ => rfl, fun _ => rfl, fun _ => rfl, fun _ => rfl, fun _ => rfl, fun _ => rfl, fun _ => rfl, fun _ => rfl, fun _ => rfl, fun _ => rfl, trivial⟩ (fun _ => rfl) (fun _ => rfl) (fun _ => rfl) rfl rfl (tj_qk34 hO 870000000 kd_119 rfl 97) (ty_qk62 hO 2050000000 kc_1521 rfl 0) rfl rfl rfl rfl rfl rfl
set_option maxRecDepth 100000 in
set_option maxHeartbeats 4000000 in
theorem lw_op30 (H : lw_H O L f v i n ce sl t) : lw_T O i n ce sl 1088 t := by
  obtain ⟨hO, h0, h1, h2, h3, h4, h5, h6, h7, h8⟩ := H
  exact lw_two (p := 1088) (q := 1098) (cs := [1]) (y1 := 91) (y2 := 213) (mc1 := 0) (ms1 := 0) (mc2 := 0) (ms2 := 0) (K1 := kd_123) (K2 := kc_1525) (lo1 := 2147483648) (hi1 := 6442450943) (lo2 := 2147483648) (hi2 := 6442450943) h0 h1 h2 h3 (fun c hc => by simp at hc <;> omega) h5 h6 h7 h8 rfl (by decide) (by decide) (fun _ => rfl) ⟨fun _ => rfl, fun _ => rfl, fun _ => rfl, fun _ => rfl, fun _ => rfl, trivial⟩ (fun _ => rfl) (fun _ => rfl) (fun _ => rfl) ⟨fun _ => rfl, fun _ => rfl, fun _ => rfl, fun _ => rfl, fun _ => rfl, trivial⟩ (fun _ => rfl) (fun _ => rfl) (fun _ => rfl) rfl rfl (tj_qk34 hO 910000000 kd_123 rfl 97) (ty_qk62 hO 2130000000 kc_1525 rfl 0) rfl rfl rfl rfl rfl rfl
set_option maxRecDepth 100000 in
set_option maxHeartbeats 4000000 in
theorem lw_op31 (H : lw_H O L f v i n ce sl t) : lw_T O i n ce sl 1111 t := by
  obtain ⟨hO, h0, h1, h2, h3, h4, h5, h6, h7, h8⟩ := H
  exact lw_two (p := 1111) (q := 1126) (cs := [1, 2]) (y1 := 57) (y2 := 131) (mc1 := 0) (ms1 := 0) (mc2 := 0) (ms2 := 0) (K1 := kd_97) (K2 := kc_1499) (lo1 := 2147483648) (hi1 := 6442450943) (lo2 := 2147483648) (hi2 := 6442450943) h0 h1 h2 h3 (fun c hc => by simp at hc <;> omega) h5 h6 h7 h8 rfl (by decide) (by decide) (fun _ => rfl) ⟨fun _ => rfl, fun _ => rfl, fun _ => rfl, fun _ => rfl, fun _ => rfl, fun _ => rfl, fun _ => rfl, fun _ => rfl, fun _ => rfl, fun _ => rfl, trivial⟩ (fun _ => rfl) (fun _ => rfl) (fun _ => rfl) ⟨fun _ => rfl, fun _ => rfl, fun _ => rfl, fun _ => rfl, fun _ => rfl, fun _ => rfl, fun _ => rfl, fun _ => rfl, fun _ => rfl, fun _ => rfl, trivial⟩ (fun _ => rfl) (fun _ => rfl) (fun _ => rfl) rfl rfl (tj_qk34 hO 570000000 kd_97 rfl 97) (ty_qk62 hO 1310000000 kc_1499 rfl 0) rfl rfl rfl rfl rfl rfl
set_option maxRecDepth 100000 in
set_option maxHeartbeats 4000000 in
theorem lw_op32 (H : lw_H O L f v i n ce sl t) : lw_T O i n ce sl 1144 t := by
  obtain ⟨hO, h0, h1, h2, h3, h4, h5, h6, h7, h8⟩ := H
  exact lw_two (p := 1144) (q := 1154) (cs := [1]) (y1 := 86) (y2 := 201) (mc1 := 0) (ms1 := 0) (mc2 := 0) (ms2 := 0) (K1 := kd_118) (K2 := kc_1520) (lo1 := 2147483648) (hi1 := 6442450943) (lo2 := 2147483648) (hi2 := 6442450943) h0 h1 h2 h3 (fun c hc => by simp at hc <;> omega) h5 h6 h7 h8 rfl (by decide) (by decide) (fun _ => rfl) ⟨fun _ => rfl, fun _ => rfl, fun _ => rfl, fun _ => rfl, fun _ => rfl, trivial⟩ (fun _ => rfl) (fun _ => rfl) (fun _ => rfl) ⟨fun _ => rfl, fun _ => rfl, fun _ => rfl, fun _ => rfl, fun _ => rfl, trivial⟩ (fun _ => rfl) (fun _ => rfl) (fun _ => rfl) rfl rfl (tj_qk34 hO 860000000 kd_118 rfl 97) (ty_qk62 hO 2010000000 kc_1520 rfl 0) rfl rfl rfl rfl rfl rfl
set_option maxRecDepth 100000 in
set_option maxHeartbeats 4000000 in
theorem lw_op33 (H : lw_H O L f v i n ce sl t) : lw_T O i n ce sl 1167 t := by
  obtain ⟨hO, h0, h1, h2, h3, h4, h5, h6, h7, h8⟩ := H
  exact lw_two (p := 1167) (q := 1172) (cs := []) (y1 := 50) (y2 := 121) (mc1 := 0) (ms1 := 0) (mc2 := 0) (ms2 := 0) (K1 := kd_92) (K2 := kc_1494) (lo1 := 2147483648) (hi1 := 6442450943) (lo2 := 2147483648) (hi2 := 6442450943) h0 h1 h2 h3 (fun c hc => by simp at hc <;> omega) h5 h6 h7 h8 rfl (by decide) (by decide) (fun _ => rfl) trivial (fun _ => rfl) (fun _ => rfl) (fun _ => rfl) trivial (fun _ => rfl) (fun _ => rfl) (fun _ => rfl) rfl rfl (tj_qk34 hO 500000000 kd_92 rfl 97) (ty_qk62 hO 1210000000 kc_1494 rfl 0) rfl rfl rfl rfl rfl rfl
set_option maxRecDepth 100000 in
set_option maxHeartbeats 4000000 in
theorem lw_op34 (H : lw_H O L f v i n ce sl t) : lw_T O i n ce sl 1180 t := by
  obtain ⟨hO, h0, h1, h2, h3, h4, h5, h6, h7, h8⟩ := H
  exact lw_two (p := 1180) (q := 1205) (cs := [1, 2, 3, 4]) (y1 := 79) (y2 := 190) (mc1 := 0) (ms1 := 0) (mc2 := 0) (ms2 := 0) (K1 := kd_113) (K2 := kc_1515) (lo1 := 2147483648) (hi1 := 6442450943) (lo2 := 2147483648) (hi2 := 6442450943) h0 h1 h2 h3 (fun c hc => by simp at hc <;> omega) h5 h6 h7 h8 rfl (by decide) (by decide) (fun _ => rfl) ⟨fun _ => rfl, fun _ => rfl, fun _ => rfl, fun _ => rfl, fun _ => rfl, fun _ => rfl, fun _ => rfl, fun _ => rfl, fun _ => rfl, fun _ => rfl, fun _ => rfl, fun _ => rfl, fun _ => rfl, fun _ => rfl, fun _ => rfl, fun _ => rfl, fun _ => rfl, fun _ => rfl, fun _ => rfl, fun _ => rfl, trivial⟩ (fun _ => rfl) (fun _ => rfl) (fun _ => rfl) ⟨fun _ => rfl, fun _ => rfl, fun _ => rfl, fun _ => rfl, fun _ => rfl, fun _ => rfl, fun _ => rfl, fun _ => rfl, fun _ => rfl, fun _ => rfl, fun _ => rfl, fun _ => rfl, fun _ => rfl, fun _ => rfl, fun _ => rfl, fun _ => rfl, fun _ => rfl, fun _ => rfl, fun _ => rfl, fun _ => rfl, trivial⟩ (fun _ => rfl) (fun _ => rfl) (fun _ => rfl) rfl rfl (tj_qk34 hO 790000000 kd_113 rfl 97) (ty_qk62 hO 1900000000 kc_1515 rfl 0) rfl rfl rfl rfl rfl rfl
set_option maxRecDepth 100000 in
set_option maxHeartbeats 4000000 in
theorem lw_op35 (H : lw_H O L f v i n ce sl t) : lw_T O i n ce sl 1233 t := by
  obtain ⟨hO, h0, h1, h2, h3, h4, h5, h6, h7, h8⟩ := H
  exact lw_two (p := 1233) (q := 1253) (cs := [1, 2, 3]) (y1 := 55) (y2 := 129) (mc1 := 0) (ms1 := 0) (mc2 := 0) (ms2 := 0) (K1 := kd_95) (K2 := kc_1497) (lo1 := 2147483648) (hi1 := 6442450943) (lo2 := 2147483648) (hi2 := 6442450943) h0 h1 h2 h3 (fun c hc => by simp at hc <;> omega) h5 h6 h7 h8 rfl (by decide) (by decide) (fun _ => rfl) ⟨fun _ => rfl, fun _ => rfl, fun _ => rfl, fun _ => rfl, fun _ => rfl, fun _ => rfl, fun _ => rfl, fun _ => rfl, fun _ => rfl, fun _ => rfl, fun _ => rfl, fun _ => rfl, fun _ => rfl, fun _ => rfl, fun _ => rfl, trivial⟩ (fun _ => rfl) (fun _ => rfl) (fun _ => rfl) ⟨fun _ => rfl, fun _ => rfl, fun _ => rfl, fun _ => rfl, fun _ => rfl, fun _ => rfl, fun _ => rfl, fun _ => rfl, fun _ => rfl, fun _ => rfl, fun _ => rfl, fun _ => rfl, fun _ => rfl, fun _ => rfl, fun _ => rfl, trivial⟩ (fun _ => rfl) (fun _ => rfl) (fun _ => rfl) rfl rfl (tj_qk34 hO 550000000 kd_95 rfl 97) (ty_qk62 hO 1290000000 kc_1497 rfl 0) rfl rfl rfl rfl rfl rfl
set_option maxRecDepth 100000 in
set_option maxHeartbeats 4000000 in
theorem lw_op36 (H : lw_H O L f v i n ce sl t) : lw_T O i n ce sl 1276 t := by
  obtain ⟨hO, h0, h1, h2, h3, h4, h5, h6, h7, h8⟩ := H
  exact lw_two (p := 1276) (q := 1286) (cs := [1]) (y1 := 56) (y2 := 130) (mc1 := 0) (ms1 := 0) (mc2 := 0) (ms2 := 0) (K1 := kd_96) (K2 := kc_1498) (lo1 := 2147483648) (hi1 := 6442450943) (lo2 := 2147483648) (hi2 := 6442450943) h0 h1 h2 h3 (fun c hc => by simp at hc <;> omega) h5 h6 h7 h8 rfl (by decide) (by decide) (fun _ => rfl) ⟨fun _ => rfl, fun _ => rfl, fun _ => rfl, fun _ => rfl, fun _ => rfl, trivial⟩ (fun _ => rfl) (fun _ => rfl) (fun _ => rfl) ⟨fun _ => rfl, fun _ => rfl, fun _ => rfl, fun _ => rfl, fun _ => rfl, trivial⟩ (fun _ => rfl) (fun _ => rfl) (fun _ => rfl) rfl rfl (tj_qk34 hO 560000000 kd_96 rfl 97) (ty_qk62 hO 1300000000 kc_1498 rfl 0) rfl rfl rfl rfl rfl rfl
set_option maxRecDepth 100000 in
set_option maxHeartbeats 4000000 in
theorem lw_op37 (H : lw_H O L f v i n ce sl t) : lw_T O i n ce sl 1299 t := by
  obtain ⟨hO, h0, h1, h2, h3, h4, h5, h6, h7, h8⟩ := H
  exact lw_two (p := 1299) (q := 1309) (cs := [1]) (y1 := 71) (y2 := 169) (mc1 := 0) (ms1 := 0) (mc2 := 0) (ms2 := 0) (K1 := kd_108) (K2 := kc_1510) (lo1 := 2147483648) (hi1 := 6442450943) (lo2 := 2147483648) (hi2 := 6442450943) h0 h1 h2 h3 (fun c hc => by simp at hc <;> omega) h5 h6 h7 h8 rfl (by decide) (by decide) (fun _ => rfl) ⟨fun _ => rfl, fun _ => rfl, fun _ => rfl, fun _ => rfl, fun _ => rfl, trivial⟩ (fun _ => rfl) (fun _ => rfl) (fun _ => rfl) ⟨fun _ => rfl, fun _ => rfl, fun _ => rfl, fun _ => rfl, fun _ => rfl, trivial⟩ (fun _ => rfl) (fun _ => rfl) (fun _ => rfl) rfl rfl (tj_qk34 hO 710000000 kd_108 rfl 97) (ty_qk62 hO 1690000000 kc_1510 rfl 0) rfl rfl rfl rfl rfl rfl
set_option maxRecDepth 100000 in
set_option maxHeartbeats 4000000 in
theorem lw_op38 (H : lw_H O L f v i n ce sl t) : lw_T O i n ce sl 1322 t := by
  obtain ⟨hO, h0, h1, h2, h3, h4, h5, h6, h7, h8⟩ := H
  exact lw_two (p := 1322) (q := 1332) (cs := [1]) (y1 := 75) (y2 := 175) (mc1 := 0) (ms1 := 0) (mc2 := 0) (ms2 := 0) (K1 := kd_111) (K2 := kc_1513) (lo1 := 2147483648) (hi1 := 6442450943) (lo2 := 2147483648) (hi2 := 6442450943) h0 h1 h2 h3 (fun c hc => by simp at hc <;> omega) h5 h6 h7 h8 rfl (by decide) (by decide) (fun _ => rfl) ⟨fun _ => rfl, fun _ => rfl, fun _ => rfl, fun _ => rfl, fun _ => rfl, trivial⟩ (fun _ => rfl) (fun _ => rfl) (fun _ => rfl) ⟨fun _ => rfl, fun _ => rfl, fun _ => rfl, fun _ => rfl, fun _ => rfl, trivial⟩ (fun _ => rfl) (fun _ => rfl) (fun _ => rfl) rfl rfl (tj_qk34 hO 750000000 kd_111 rfl 97) (ty_qk62 hO 1750000000 kc_1513 rfl 0) rfl rfl rfl rfl rfl rfl
set_option maxRecDepth 100000 in
set_option maxHeartbeats 4000000 in
theorem lw_op39 (H : lw_H O L f v i n ce sl t) : lw_T O i n ce sl 1345 t := by
  obtain ⟨hO, h0, h1, h2, h3, h4, h5, h6, h7, h8⟩ := H
  exact lw_two (p := 1345) (q := 1360) (cs := [1, 2]) (y1 := 42) (y2 := 109) (mc1 := 0) (ms1 := 0) (mc2 := 0) (ms2 := 0) (K1 := kd_84) (K2 := kc_1486) (lo1 := 2147483648) (hi1 := 6442450943) (lo2 := 2147483648) (hi2 := 6442450943) h0 h1 h2 h3 (fun c hc => by simp at hc <;> omega) h5 h6 h7 h8 rfl (by decide) (by decide) (fun _ => rfl) ⟨fun _ => rfl, fun _ => rfl, fun _ => rfl, fun _ => rfl, fun _ => rfl, fun _ => rfl, fun _ => rfl, fun _ => rfl, fun _ => rfl, fun _ => rfl, trivial⟩ (fun _ => rfl) (fun _ => rfl) (fun _ => rfl) ⟨fun _ => rfl, fun _ => rfl, fun _ => rfl, fun _ => rfl, fun _ => rfl, fun _ => rfl, fun _ => rfl, fun _ => rfl, fun _ => rfl, fun _ => rfl, trivial⟩ (fun _ => rfl) (fun _ => rfl) (fun _ => rfl) rfl rfl (tj_qk34 hO 420000000 kd_84 rfl 97) (ty_qk62 hO 1090000000 kc_1486 rfl 0) rfl rfl rfl rfl rfl rfl
set_option maxRecDepth 100000 in
set_option maxHeartbeats 4000000 in
theorem lw_op40 (H : lw_H O L f v i n ce sl t) : lw_T O i n ce sl 1378 t := by
  obtain ⟨hO, h0, h1, h2, h3, h4, h5, h6, h7, h8⟩ := H
  exact lw_two (p := 1378) (q := 1393) (cs := [1, 2]) (y1 := 43) (y2 := 110) (mc1 := 0) (ms1 := 0) (mc2 := 0) (ms2 := 0) (K1 := kd_85) (K2 := kc_1487) (lo1 := 2147483648) (hi1 := 6442450943) (lo2 := 2147483648) (hi2 := 6442450943) h0 h1 h2 h3 (fun c hc => by simp at hc <;> omega) h5 h6 h7 h8 rfl (by decide) (by decide) (fun _ => rfl) ⟨fun _ => rfl, fun _ => rfl, fun _ => rfl, fun _ => rfl, fun _ => rfl, fun _ => rfl, fun _ => rfl, fun _ => rfl, fun _ => rfl, fun _ => rfl, trivial⟩ (fun _ => rfl) (fun _ => rfl) (fun _ => rfl) ⟨fun _ => rfl, fun _ => rfl, fun _ => rfl, fun _ => rfl, fun _ => rfl, fun _ => rfl, fun _ => rfl, fun _ => rfl, fun _ => rfl, fun _ => rfl, trivial⟩ (fun _ => rfl) (fun _ => rfl) (fun _ => rfl) rfl rfl (tj_qk34 hO 430000000 kd_85 rfl 97) (ty_qk62 hO 1100000000 kc_1487 rfl 0) rfl rfl rfl rfl rfl rfl
set_option maxRecDepth 100000 in
set_option maxHeartbeats 4000000 in
theorem lw_op41 (H : lw_H O L f v i n ce sl t) : lw_T O i n ce sl 1411 t := by
  obtain ⟨hO, h0, h1, h2, h3, h4, h5, h6, h7, h8⟩ := H
  have u1 := ty_kp_lo (v (i + 1))
  have u2 := ty_kp_hi (v (i + 1))
  by_cases a : ty_kp (v (i + 1)) ≤ 4294967295
  · exact lw_cmp (p := 1411) (q := 1420) (y1 := 58) (y2 := 132) (mc1 := 16) (ms1 := 540) (mc2 := 0) (ms2 := 0) (K1 := kd_98) (K2 := kc_1500) (lo := 2147483648) (hi := 4294967295) (z := 4294967295) h0 h1 h3 (by omega) h5 h6 h7 h8 (h2 _) (by omega) (by omega) rfl (by decide) (by decide) (fun _ => rfl) ⟨fun _ => rfl, fun _ => rfl, fun _ => rfl, fun _ => rfl, fun _ => rfl, trivial⟩ (fun _ => rfl) (fun _ => rfl) ⟨fun _ => rfl, fun _ => rfl, fun _ => rfl, fun _ => rfl, fun _ => rfl, trivial⟩ (fun _ => rfl) (fun _ => rfl) rfl rfl (tj_qk34 hO 580000000 kd_98 rfl 97) (ty_qk62 hO 1320000000 kc_1500 rfl 0) rfl rfl rfl rfl rfl rfl
  by_cases b : ty_kp (v (i + 1)) ≤ 4294967297
  · exact lw_cmp (p := 1411) (q := 1420) (y1 := 58) (y2 := 132) (mc1 := 16) (ms1 := 540) (mc2 := 0) (ms2 := 0) (K1 := kd_99) (K2 := kc_1501) (lo := 4294967296) (hi := 4294967297) (z := 4294967296) h0 h1 h3 (by omega) h5 h6 h7 h8 (h2 _) (by omega) (by omega) rfl (by decide) (by decide) (fun _ => rfl) ⟨fun _ => rfl, fun _ => rfl, fun _ => rfl, fun _ => rfl, fun _ => rfl, trivial⟩ (fun _ => rfl) (fun _ => rfl) ⟨fun _ => rfl, fun _ => rfl, fun _ => rfl, fun _ => rfl, fun _ => rfl, trivial⟩ (fun _ => rfl) (fun _ => rfl) rfl rfl (tj_qk34 hO 580000001 kd_99 rfl 97) (ty_qk62 hO 1320000001 kc_1501 rfl 0) rfl rfl rfl rfl rfl rfl
  · exact lw_cmp (p := 1411) (q := 1420) (y1 := 58) (y2 := 132) (mc1 := 16) (ms1 := 540) (mc2 := 0) (ms2 := 0) (K1 := kd_100) (K2 := kc_1502) (lo := 4294967298) (hi := 6442450943) (z := 4294967295) h0 h1 h3 (by omega) h5 h6 h7 h8 (h2 _) (by omega) (by omega) rfl (by decide) (by decide) (fun _ => rfl) ⟨fun _ => rfl, fun _ => rfl, fun _ => rfl, fun _ => rfl, fun _ => rfl, trivial⟩ (fun _ => rfl) (fun _ => rfl) ⟨fun _ => rfl, fun _ => rfl, fun _ => rfl, fun _ => rfl, fun _ => rfl, trivial⟩ (fun _ => rfl) (fun _ => rfl) rfl rfl (tj_qk34 hO 580000002 kd_100 rfl 97) (ty_qk62 hO 1320000002 kc_1502 rfl 0) rfl rfl rfl rfl rfl rfl
set_option maxRecDepth 100000 in
set_option maxHeartbeats 4000000 in
theorem lw_op42 (H : lw_H O L f v i n ce sl t) : lw_T O i n ce sl 1434 t := by
  obtain ⟨hO, h0, h1, h2, h3, h4, h5, h6, h7, h8⟩ := H
  exact lw_two (p := 1434) (q := 1444) (cs := [1]) (y1 := 35) (y2 := 98) (mc1 := 0) (ms1 := 0) (mc2 := 0) (ms2 := 0) (K1 := kd_80) (K2 := kc_1482) (lo1 := 2147483648) (hi1 := 6442450943) (lo2 := 2147483648) (hi2 := 6442450943) h0 h1 h2 h3 (fun c hc => by simp at hc <;> omega) h5 h6 h7 h8 rfl (by decide) (by decide) (fun _ => rfl) ⟨fun _ => rfl, fun _ => rfl, fun _ => rfl, fun _ => rfl, fun _ => rfl, trivial⟩ (fun _ => rfl) (fun _ => rfl) (fun _ => rfl) ⟨fun _ => rfl, fun _ => rfl, fun _ => rfl, fun _ => rfl, fun _ => rfl, trivial⟩ (fun _ => rfl) (fun _ => rfl) (fun _ => rfl) rfl rfl (tj_qk34 hO 350000000 kd_80 rfl 97) (ty_qk62 hO 980000000 kc_1482 rfl 0) rfl rfl rfl rfl rfl rfl
set_option maxRecDepth 100000 in
set_option maxHeartbeats 4000000 in
theorem lw_op43 (H : lw_H O L f v i n ce sl t) : lw_T O i n ce sl 1457 t := by
  obtain ⟨hO, h0, h1, h2, h3, h4, h5, h6, h7, h8⟩ := H
  exact lw_two (p := 1457) (q := 1467) (cs := [1]) (y1 := 39) (y2 := 108) (mc1 := 0) (ms1 := 0) (mc2 := 0) (ms2 := 0) (K1 := kd_83) (K2 := kc_1485) (lo1 := 2147483648) (hi1 := 6442450943) (lo2 := 2147483648) (hi2 := 6442450943) h0 h1 h2 h3 (fun c hc => by simp at hc <;> omega) h5 h6 h7 h8 rfl (by decide) (by decide) (fun _ => rfl) ⟨fun _ => rfl, fun _ => rfl, fun _ => rfl, fun _ => rfl, fun _ => rfl, trivial⟩ (fun _ => rfl) (fun _ => rfl) (fun _ => rfl) ⟨fun _ => rfl, fun _ => rfl, fun _ => rfl, fun _ => rfl, fun _ => rfl, trivial⟩ (fun _ => rfl) (fun _ => rfl) (fun _ => rfl) rfl rfl (tj_qk34 hO 390000000 kd_83 rfl 97) (ty_qk62 hO 1080000000 kc_1485 rfl 0) rfl rfl rfl rfl rfl rfl
set_option maxRecDepth 100000 in
set_option maxHeartbeats 4000000 in
theorem lw_op44 (H : lw_H O L f v i n ce sl t) : lw_T O i n ce sl 1480 t := by
  obtain ⟨hO, h0, h1, h2, h3, h4, h5, h6, h7, h8⟩ := H
  exact lw_two (p := 1480) (q := 1485) (cs := []) (y1 := 83) (y2 := 199) (mc1 := 0) (ms1 := 0) (mc2 := 0) (ms2 := 0) (K1 := kd_116) (K2 := kc_1518) (lo1 := 2147483648) (hi1 := 6442450943) (lo2 := 2147483648) (hi2 := 6442450943) h0 h1 h2 h3 (fun c hc => by simp at hc <;> omega) h5 h6 h7 h8 rfl (by decide) (by decide) (fun _ => rfl) trivial (fun _ => rfl) (fun _ => rfl) (fun _ => rfl) trivial (fun _ => rfl) (fun _ => rfl) (fun _ => rfl) rfl rfl (tj_qk34 hO 830000000 kd_116 rfl 97) (ty_qk62 hO 1990000000 kc_1518 rfl 0) rfl rfl rfl rfl rfl rfl
end LWE
