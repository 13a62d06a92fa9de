/-! for now -/
theorem xq2_kB {a : Nat} (h : a ≤ 63) : ix_chk (ix_seg xq_P 33 300 33 (xq_Ba (a), xq2_LB, [], 114, xq2_tB, 0, 0)) 33 xq2_LBo 114 xq2_tB = true := sorry
theorem xq3_kB {a : Nat} (h : a ≤ 63) : ix_chk (ix_seg xq_P 117 300 33 (xq_Ba (a), xq3_LB, [], 114, xq3_tB, 0, 0)) 117 xq3_LBo 114 xq3_tB = true := sorry
theorem xq4_kB {a : Nat} (h : a ≤ 63) : ix_chk (ix_seg xq_P 117 300 33 (xq_Ba (a), xq4_LB, [], 114, xq4_tB, 0, 0)) 117 xq4_LBo 114 xq4_tB = true := sorry
