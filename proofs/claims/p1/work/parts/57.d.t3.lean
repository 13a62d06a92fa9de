/-! the second place, by each first one -/
set_option maxRecDepth 1000000 in
theorem xq3_kB0 : (List.range 4).all (fun i => ix_chk (ix_seg xq_P 117 300 33 (xq_Ba (4 * 0 + i), xq3_LB, [], 114, xq3_tB, 0, 0)) 117 xq3_LBo 114 xq3_tB) = true := by decide +kernel
set_option maxRecDepth 1000000 in
theorem xq3_kB1 : (List.range 4).all (fun i => ix_chk (ix_seg xq_P 117 300 33 (xq_Ba (4 * 1 + i), xq3_LB, [], 114, xq3_tB, 0, 0)) 117 xq3_LBo 114 xq3_tB) = true := by decide +kernel
set_option maxRecDepth 1000000 in
theorem xq3_kB2 : (List.range 4).all (fun i => ix_chk (ix_seg xq_P 117 300 33 (xq_Ba (4 * 2 + i), xq3_LB, [], 114, xq3_tB, 0, 0)) 117 xq3_LBo 114 xq3_tB) = true := by decide +kernel
set_option maxRecDepth 1000000 in
theorem xq3_kB3 : (List.range 4).all (fun i => ix_chk (ix_seg xq_P 117 300 33 (xq_Ba (4 * 3 + i), xq3_LB, [], 114, xq3_tB, 0, 0)) 117 xq3_LBo 114 xq3_tB) = true := by decide +kernel
set_option maxRecDepth 1000000 in
theorem xq3_kB4 : (List.range 4).all (fun i => ix_chk (ix_seg xq_P 117 300 33 (xq_Ba (4 * 4 + i), xq3_LB, [], 114, xq3_tB, 0, 0)) 117 xq3_LBo 114 xq3_tB) = true := by decide +kernel
set_option maxRecDepth 1000000 in
theorem xq3_kB5 : (List.range 4).all (fun i => ix_chk (ix_seg xq_P 117 300 33 (xq_Ba (4 * 5 + i), xq3_LB, [], 114, xq3_tB, 0, 0)) 117 xq3_LBo 114 xq3_tB) = true := by decide +kernel
set_option maxRecDepth 1000000 in
theorem xq3_kB6 : (List.range 4).all (fun i => ix_chk (ix_seg xq_P 117 300 33 (xq_Ba (4 * 6 + i), xq3_LB, [], 114, xq3_tB, 0, 0)) 117 xq3_LBo 114 xq3_tB) = true := by decide +kernel
set_option maxRecDepth 1000000 in
theorem xq3_kB7 : (List.range 4).all (fun i => ix_chk (ix_seg xq_P 117 300 33 (xq_Ba (4 * 7 + i), xq3_LB, [], 114, xq3_tB, 0, 0)) 117 xq3_LBo 114 xq3_tB) = true := by decide +kernel
set_option maxRecDepth 1000000 in
theorem xq3_kB8 : (List.range 4).all (fun i => ix_chk (ix_seg xq_P 117 300 33 (xq_Ba (4 * 8 + i), xq3_LB, [], 114, xq3_tB, 0, 0)) 117 xq3_LBo 114 xq3_tB) = true := by decide +kernel
set_option maxRecDepth 1000000 in
theorem xq3_kB9 : (List.range 4).all (fun i => ix_chk (ix_seg xq_P 117 300 33 (xq_Ba (4 * 9 + i), xq3_LB, [], 114, xq3_tB, 0, 0)) 117 xq3_LBo 114 xq3_tB) = true := by decide +kernel
set_option maxRecDepth 1000000 in
theorem xq3_kB10 : (List.range 4).all (fun i => ix_chk (ix_seg xq_P 117 300 33 (xq_Ba (4 * 10 + i), xq3_LB, [], 114, xq3_tB, 0, 0)) 117 xq3_LBo 114 xq3_tB) = true := by decide +kernel
set_option maxRecDepth 1000000 in
theorem xq3_kB11 : (List.range 4).all (fun i => ix_chk (ix_seg xq_P 117 300 33 (xq_Ba (4 * 11 + i), xq3_LB, [], 114, xq3_tB, 0, 0)) 117 xq3_LBo 114 xq3_tB) = true := by decide +kernel
set_option maxRecDepth 1000000 in
theorem xq3_kB12 : (List.range 4).all (fun i => ix_chk (ix_seg xq_P 117 300 33 (xq_Ba (4 * 12 + i), xq3_LB, [], 114, xq3_tB, 0, 0)) 117 xq3_LBo 114 xq3_tB) = true := by decide +kernel
set_option maxRecDepth 1000000 in
theorem xq3_kB13 : (List.range 4).all (fun i => ix_chk (ix_seg xq_P 117 300 33 (xq_Ba (4 * 13 + i), xq3_LB, [], 114, xq3_tB, 0, 0)) 117 xq3_LBo 114 xq3_tB) = true := by decide +kernel
set_option maxRecDepth 1000000 in
theorem xq3_kB14 : (List.range 4).all (fun i => ix_chk (ix_seg xq_P 117 300 33 (xq_Ba (4 * 14 + i), xq3_LB, [], 114, xq3_tB, 0, 0)) 117 xq3_LBo 114 xq3_tB) = true := by decide +kernel
set_option maxRecDepth 1000000 in
theorem xq3_kB15 : (List.range 4).all (fun i => ix_chk (ix_seg xq_P 117 300 33 (xq_Ba (4 * 15 + i), xq3_LB, [], 114, xq3_tB, 0, 0)) 117 xq3_LBo 114 xq3_tB) = true := by decide +kernel
theorem xq3_kB {a : Nat} (h : a ≤ 63) : ix_chk (ix_seg xq_P 117 300 33 (xq_Ba (a), xq3_LB, [], 114, xq3_tB, 0, 0)) 117 xq3_LBo 114 xq3_tB = true := by
  obtain ⟨g, i, hg, hi, rfl⟩ : ∃ g i, g ≤ 15 ∧ i < 4 ∧ a = 4 * g + i := ⟨a / 4, a % 4, by omega, by omega, by omega⟩
  match g, hg with
  | 0, _ => exact List.all_eq_true.mp xq3_kB0 i (List.mem_range.mpr hi)
  | 1, _ => exact List.all_eq_true.mp xq3_kB1 i (List.mem_range.mpr hi)
  | 2, _ => exact List.all_eq_true.mp xq3_kB2 i (List.mem_range.mpr hi)
  | 3, _ => exact List.all_eq_true.mp xq3_kB3 i (List.mem_range.mpr hi)
  | 4, _ => exact List.all_eq_true.mp xq3_kB4 i (List.mem_range.mpr hi)
  | 5, _ => exact List.all_eq_true.mp xq3_kB5 i (List.mem_range.mpr hi)
  | 6, _ => exact List.all_eq_true.mp xq3_kB6 i (List.mem_range.mpr hi)
  | 7, _ => exact List.all_eq_true.mp xq3_kB7 i (List.mem_range.mpr hi)
  | 8, _ => exact List.all_eq_true.mp xq3_kB8 i (List.mem_range.mpr hi)
  | 9, _ => exact List.all_eq_true.mp xq3_kB9 i (List.mem_range.mpr hi)
  | 10, _ => exact List.all_eq_true.mp xq3_kB10 i (List.mem_range.mpr hi)
  | 11, _ => exact List.all_eq_true.mp xq3_kB11 i (List.mem_range.mpr hi)
  | 12, _ => exact List.all_eq_true.mp xq3_kB12 i (List.mem_range.mpr hi)
  | 13, _ => exact List.all_eq_true.mp xq3_kB13 i (List.mem_range.mpr hi)
  | 14, _ => exact List.all_eq_true.mp xq3_kB14 i (List.mem_range.mpr hi)
  | 15, _ => exact List.all_eq_true.mp xq3_kB15 i (List.mem_range.mpr hi)
  | g + 16, hg => omega
