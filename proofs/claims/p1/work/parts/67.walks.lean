/-! the walks through the loops -/
def xq2_F1 : Nat → Nat
  | 0 => 0
  | j + 1 => 1 + xq2_F1 j
def xq2_F2 : Nat → Nat
  | 0 => 0
  | j + 1 => 1 + xq2_F2 j
def xq2_F3 : Nat → Nat
  | 0 => 0
  | j + 1 => xq2_F2 j + xq2_F3 j
set_option maxHeartbeats 400000 in
theorem xq2_B {k : ix_K} {E : ix_E} (hok : ∀ f pc, ix_ok k (ix_Eo E f) pc (xq_P pc)) : ∀ (j a b w : Nat), b + j = 64 → a ≤ 63 → 1 ≤ w → w + xq2_F2 j ≤ 700000 → ix_Go k E 18 ([], ix_con (xfv (w + xq2_F2 j) (a + 1) 0 0 0) xq2_LA, [], 114, xq2_tB, 0, 0) → ix_Go k E 33 ([], ix_con (xfv w a b 0 0) xq2_LB, [], 114, xq2_tB, 0, 0)
  | 0, a, b, w, h, ha, hw, hw2, g => by
    have e : b = 64 := h
    subst e
    have e1 : xq2_F2 0 = 0 := rfl
    have e2 : ix_con (xfv w a 64 0 0) xq2_LB = ix_con (xfv w a 0 0 0) xq2_LBx := rfl
    rw [e2]
    exact ix_part (hok _) (xq_f (by omega) (by omega) (by omega) (by omega) (by omega)) (by decide) (by decide) (xq_ib (by omega) (by omega) (by omega) (by omega) (by omega) (by omega)) xq2_sBx.1 xq2_sBx.2 xq2_lB xq2_lB xq2_kBx (g)
  | j + 1, a, b, w, h, ha, hw, hw2, g => by
    have e1 : xq2_F2 (j + 1) = 1 + xq2_F2 j := rfl
    exact ix_part (xq_ok2 hok _) (xq_f (by omega) (by omega) (by omega) (by omega) (by omega)) (by decide) (by decide) (xq_ib (by omega) (by omega) (by omega) (by omega) (by omega) (by omega)) xq2_sB.1 xq2_sB.2 xq2_lB xq2_lB xq2_kB (xq2_B hok j a (b + 1) (w + 1) (by omega) ha (by omega) (by omega) (by rw [show w + 1 + xq2_F2 j = w + xq2_F2 (j + 1) by omega]; exact g))
set_option maxHeartbeats 400000 in
theorem xq2_A {k : ix_K} {E : ix_E} (hok : ∀ f pc, ix_ok k (ix_Eo E f) pc (xq_P pc)) : ∀ (j a w : Nat), a + j = 64 → 1 ≤ w → w + xq2_F3 j ≤ 700000 → ix_Go k E 18 ([], ix_con (xfv (w + xq2_F3 j) 64 0 0 0) xq2_LA, [], 114, xq2_tB, 0, 0) → ix_Go k E 18 ([], ix_con (xfv w a 0 0 0) xq2_LA, [], 114, xq2_tB, 0, 0)
  | 0, a, w, h, hw, hw2, g => by
    have e : a = 64 := h
    subst e
    exact g
  | j + 1, a, w, h, hw, hw2, g => by
    have e1 : xq2_F3 (j + 1) = xq2_F2 j + xq2_F3 j := rfl
    exact ix_part (hok _) (xq_f (by omega) (by omega) (by omega) (by omega) (by omega)) (by decide) (by decide) (xq_ib (by omega) (by omega) (by omega) (by omega) (by omega) (by omega)) xq2_sA.1 xq2_sA.2 xq2_lB xq2_lB xq2_kA (xq2_B hok j a (a + 1) w (by omega) (by omega) hw (by omega) (xq2_A hok j (a + 1) (w + xq2_F2 j) (by omega) (by omega) (by omega) (by rw [show w + xq2_F2 j + xq2_F3 j = w + xq2_F3 (j + 1) by omega]; exact g)))
noncomputable def xq2_outs : List ix_S := (ix_loop xq_P 50 18 ([], ix_con (xfv 2016 64 0 0 0) xq2_LA, [], 114, xq2_tB, 0, 0)).getD []
theorem xq2_is : (ix_loop xq_P 50 18 ([], ix_con (xfv 2016 64 0 0 0) xq2_LA, [], 114, xq2_tB, 0, 0)).isSome = true := by decide +kernel
theorem xq2_num : 1 + xq2_F2 62 + xq2_F3 63 = 2016 := by decide +kernel
set_option maxHeartbeats 400000 in
theorem xq2_mt {l : Launch} : ix_MT l xTs xcl (ix_O0 6) xsl xJ 1 198 [ix_vR 80, ix_vI 2] 114 xq2_tA xq2_outs := by
  refine ix_mt_of2 (d := 0) (call := xq_no) xm_X12_standsBy (fun y as B n t outs h => by cases h) xgood (by decide) xq_lo (fun k E hok0 hok hF => ?_)
  have e0 : ix_pad (ix_args [ix_vR 80, ix_vI 2]) (Nat.sub (xJ 198).2.2.1 (ix_args [ix_vR 80, ix_vI 2]).length) = ix_con (xfv 1 0 0 0 0) xq2_L0 := rfl
  rw [e0]
  have hnum := xq2_num
  have e1 : ix_con (xfv 1 0 0 0 0) xq2_L2 = ix_con (xfv 1 0 2 0 0) xq2_LB := rfl
  refine ix_part (hok _) (xq_f (by omega) (by omega) (by omega) (by omega) (by omega)) (by decide) (by decide) (xq_ib (by omega) (by omega) (by omega) (by omega) (by omega) (by omega)) xq2_s0.1 xq2_s0.2 xq2_lA xq2_lB xq2_k0 ?_
  refine ix_part (hok _) (xq_f (by omega) (by omega) (by omega) (by omega) (by omega)) (by decide) (by decide) (xq_ib (by omega) (by omega) (by omega) (by omega) (by omega) (by omega)) xq2_s1.1 xq2_s1.2 xq2_lB xq2_lB xq2_k1 ?_
  rw [e1]
  refine xq2_B hok 62 0 2 _ rfl (by omega) (by omega) (by omega) ?_
  refine xq2_A hok 63 1 _ rfl (by omega) (by omega) ?_
  rw [hnum]
  obtain ⟨r, hr⟩ := Option.isSome_iff_exists.mp xq2_is
  have er : xq2_outs = r := by unfold xq2_outs; rw [hr]; rfl
  exact ix_loop_ok hok0 50 18 _ r hr (fun o ho => (hF o).mpr (by rw [er]; exact ho))
theorem xq2_ends : (ix_ends 114 xq2_outs [([ix_vI 2016], xq2_fin)] && (Nat.ble 114 256 && (xq2_req.all (fun q => Nat.blt q.1 114 && !(Nat.beq q.2.1 98)) && [([ix_vI 2016], xq2_fin)].all (fun o => o.2.all (fun q => Nat.blt q.1 114 && !(Nat.beq q.2.1 98)))))) = true := by decide +kernel
noncomputable def xsm_sb2 : ix_Sm := (1, 198, [ix_vR 80, ix_vI 2], 114, xq2_req, [([ix_vI 2016], xq2_fin)])
theorem xok_sb2 : ix_made (ix_c1 198 [ix_vR 80, ix_vI 2] 114 xq2_tA xq2_outs) xsm_sb2 = true := ix_c1_made xq2_ends
def xq3_F1 : Nat → Nat
  | 0 => 0
  | j + 1 => 1 + xq3_F1 j
def xq3_F2 : Nat → Nat
  | 0 => 0
  | j + 1 => xq3_F1 j + xq3_F2 j
def xq3_F3 : Nat → Nat
  | 0 => 0
  | j + 1 => xq3_F2 j + xq3_F3 j
set_option maxHeartbeats 400000 in
theorem xq3_C {k : ix_K} {E : ix_E} (hok : ∀ f pc, ix_ok k (ix_Eo E f) pc (xq_P pc)) : ∀ (j a b c w : Nat), c + j = 64 → a ≤ 63 → b ≤ 63 → 1 ≤ w → w + xq3_F1 j ≤ 700000 → ix_Go k E 33 ([], ix_con (xfv (w + xq3_F1 j) a (b + 1) 0 0) xq3_LB, [], 114, xq3_tB, 0, 0) → ix_Go k E 117 ([], ix_con (xfv w a b c 0) xq3_LC, [], 114, xq3_tB, 0, 0)
  | 0, a, b, c, w, h, ha, hb, hw, hw2, g => by
    have e : c = 64 := h
    subst e
    have e1 : xq3_F1 0 = 0 := rfl
    have e2 : ix_con (xfv w a b 64 0) xq3_LC = ix_con (xfv w a b 0 0) xq3_LCx := rfl
    rw [e2]
    exact ix_part (hok _) (xq_f (by omega) (by omega) (by omega) (by omega) (by omega)) (by decide) (by decide) (xq_ib (by omega) (by omega) (by omega) (by omega) (by omega) (by omega)) xq3_sCx.1 xq3_sCx.2 xq3_lB xq3_lB xq3_kCx (g)
  | j + 1, a, b, c, w, h, ha, hb, hw, hw2, g => by
    have e1 : xq3_F1 (j + 1) = 1 + xq3_F1 j := rfl
    exact ix_part (hok _) (xq_f (by omega) (by omega) (by omega) (by omega) (by omega)) (by decide) (by decide) (xq_ib (by omega) (by omega) (by omega) (by omega) (by omega) (by omega)) xq3_sC.1 xq3_sC.2 xq3_lB xq3_lB xq3_kC (xq3_C hok j a b (c + 1) (w + 1) (by omega) ha hb (by omega) (by omega) (by rw [show w + 1 + xq3_F1 j = w + xq3_F1 (j + 1) by omega]; exact g))
set_option maxHeartbeats 400000 in
theorem xq3_B {k : ix_K} {E : ix_E} (hok : ∀ f pc, ix_ok k (ix_Eo E f) pc (xq_P pc)) : ∀ (j a b w : Nat), b + j = 64 → a ≤ 63 → 1 ≤ w → w + xq3_F2 j ≤ 700000 → ix_Go k E 18 ([], ix_con (xfv (w + xq3_F2 j) (a + 1) 0 0 0) xq3_LA, [], 114, xq3_tB, 0, 0) → ix_Go k E 33 ([], ix_con (xfv w a b 0 0) xq3_LB, [], 114, xq3_tB, 0, 0)
  | 0, a, b, w, h, ha, hw, hw2, g => by
    have e : b = 64 := h
    subst e
    have e1 : xq3_F2 0 = 0 := rfl
    have e2 : ix_con (xfv w a 64 0 0) xq3_LB = ix_con (xfv w a 0 0 0) xq3_LBx := rfl
    rw [e2]
    exact ix_part (hok _) (xq_f (by omega) (by omega) (by omega) (by omega) (by omega)) (by decide) (by decide) (xq_ib (by omega) (by omega) (by omega) (by omega) (by omega) (by omega)) xq3_sBx.1 xq3_sBx.2 xq3_lB xq3_lB xq3_kBx (g)
  | j + 1, a, b, w, h, ha, hw, hw2, g => by
    have e1 : xq3_F2 (j + 1) = xq3_F1 j + xq3_F2 j := rfl
    exact ix_part (xq_ok2 hok _) (xq_f (by omega) (by omega) (by omega) (by omega) (by omega)) (by decide) (by decide) (xq_ib (by omega) (by omega) (by omega) (by omega) (by omega) (by omega)) xq3_sB.1 xq3_sB.2 xq3_lB xq3_lB xq3_kB (xq3_C hok j a b (b + 1) w (by omega) ha (by omega) hw (by omega) (xq3_B hok j a (b + 1) (w + xq3_F1 j) (by omega) ha (by omega) (by omega) (by rw [show w + xq3_F1 j + xq3_F2 j = w + xq3_F2 (j + 1) by omega]; exact g)))
set_option maxHeartbeats 400000 in
theorem xq3_A {k : ix_K} {E : ix_E} (hok : ∀ f pc, ix_ok k (ix_Eo E f) pc (xq_P pc)) : ∀ (j a w : Nat), a + j = 64 → 1 ≤ w → w + xq3_F3 j ≤ 700000 → ix_Go k E 18 ([], ix_con (xfv (w + xq3_F3 j) 64 0 0 0) xq3_LA, [], 114, xq3_tB, 0, 0) → ix_Go k E 18 ([], ix_con (xfv w a 0 0 0) xq3_LA, [], 114, xq3_tB, 0, 0)
  | 0, a, w, h, hw, hw2, g => by
    have e : a = 64 := h
    subst e
    exact g
  | j + 1, a, w, h, hw, hw2, g => by
    have e1 : xq3_F3 (j + 1) = xq3_F2 j + xq3_F3 j := rfl
    exact ix_part (hok _) (xq_f (by omega) (by omega) (by omega) (by omega) (by omega)) (by decide) (by decide) (xq_ib (by omega) (by omega) (by omega) (by omega) (by omega) (by omega)) xq3_sA.1 xq3_sA.2 xq3_lB xq3_lB xq3_kA (xq3_B hok j a (a + 1) w (by omega) (by omega) hw (by omega) (xq3_A hok j (a + 1) (w + xq3_F2 j) (by omega) (by omega) (by omega) (by rw [show w + xq3_F2 j + xq3_F3 j = w + xq3_F3 (j + 1) by omega]; exact g)))
noncomputable def xq3_outs : List ix_S := (ix_loop xq_P 50 18 ([], ix_con (xfv 41664 64 0 0 0) xq3_LA, [], 114, xq3_tB, 0, 0)).getD []
theorem xq3_is : (ix_loop xq_P 50 18 ([], ix_con (xfv 41664 64 0 0 0) xq3_LA, [], 114, xq3_tB, 0, 0)).isSome = true := by decide +kernel
theorem xq3_num : 1 + xq3_F1 61 + xq3_F2 62 + xq3_F3 63 = 41664 := by decide +kernel
set_option maxHeartbeats 400000 in
theorem xq3_mt {l : Launch} : ix_MT l xTs xcl (ix_O0 6) xsl xJ 1 198 [ix_vR 80, ix_vI 3] 114 xq3_tA xq3_outs := by
  refine ix_mt_of2 (d := 0) (call := xq_no) xm_X12_standsBy (fun y as B n t outs h => by cases h) xgood (by decide) xq_lo (fun k E hok0 hok hF => ?_)
  have e0 : ix_pad (ix_args [ix_vR 80, ix_vI 3]) (Nat.sub (xJ 198).2.2.1 (ix_args [ix_vR 80, ix_vI 3]).length) = ix_con (xfv 1 0 0 0 0) xq3_L0 := rfl
  rw [e0]
  have hnum := xq3_num
  have e1 : ix_con (xfv 1 0 0 0 0) xq3_L2 = ix_con (xfv 1 0 1 3 0) xq3_LC := rfl
  refine ix_part (hok _) (xq_f (by omega) (by omega) (by omega) (by omega) (by omega)) (by decide) (by decide) (xq_ib (by omega) (by omega) (by omega) (by omega) (by omega) (by omega)) xq3_s0.1 xq3_s0.2 xq3_lA xq3_lB xq3_k0 ?_
  refine ix_part (hok _) (xq_f (by omega) (by omega) (by omega) (by omega) (by omega)) (by decide) (by decide) (xq_ib (by omega) (by omega) (by omega) (by omega) (by omega) (by omega)) xq3_s1.1 xq3_s1.2 xq3_lB xq3_lB xq3_k1 ?_
  rw [e1]
  refine xq3_C hok 61 0 1 3 1 rfl (by omega) (by omega) (by omega) (by omega) ?_
  refine xq3_B hok 62 0 2 _ rfl (by omega) (by omega) (by omega) ?_
  refine xq3_A hok 63 1 _ rfl (by omega) (by omega) ?_
  rw [hnum]
  obtain ⟨r, hr⟩ := Option.isSome_iff_exists.mp xq3_is
  have er : xq3_outs = r := by unfold xq3_outs; rw [hr]; rfl
  exact ix_loop_ok hok0 50 18 _ r hr (fun o ho => (hF o).mpr (by rw [er]; exact ho))
theorem xq3_ends : (ix_ends 114 xq3_outs [([ix_vI 41664], xq3_fin)] && (Nat.ble 114 256 && (xq3_req.all (fun q => Nat.blt q.1 114 && !(Nat.beq q.2.1 98)) && [([ix_vI 41664], xq3_fin)].all (fun o => o.2.all (fun q => Nat.blt q.1 114 && !(Nat.beq q.2.1 98)))))) = true := by decide +kernel
noncomputable def xsm_sb3 : ix_Sm := (1, 198, [ix_vR 80, ix_vI 3], 114, xq3_req, [([ix_vI 41664], xq3_fin)])
theorem xok_sb3 : ix_made (ix_c1 198 [ix_vR 80, ix_vI 3] 114 xq3_tA xq3_outs) xsm_sb3 = true := ix_c1_made xq3_ends
def xq4_F1 : Nat → Nat
  | 0 => 0
  | j + 1 => j + xq4_F1 j
def xq4_F2 : Nat → Nat
  | 0 => 0
  | j + 1 => xq4_F1 j + xq4_F2 j
def xq4_F3 : Nat → Nat
  | 0 => 0
  | j + 1 => xq4_F2 j + xq4_F3 j
set_option maxHeartbeats 400000 in
theorem xq4_D {k : ix_K} {E : ix_E} (hok : ∀ f pc, ix_ok k (ix_Eo E f) pc (xq_P pc)) : ∀ (j a b c d w : Nat), d + j = 64 → a ≤ 63 → b ≤ 63 → c ≤ 63 → 1 ≤ w → w + j ≤ 700000 → ix_Go k E 117 ([], ix_con (xfv (w + j) a b (c + 1) 0) xq4_LC, [], 114, xq4_tB, 0, 0) → ix_Go k E 191 ([], ix_con (xfv w a b c d) xq4_LD, [], 114, xq4_tB, 0, 0)
  | 0, a, b, c, d, w, h, ha, hb, hc, hw, hw2, g => by
    have e : d = 64 := h
    subst e
    have e2 : ix_con (xfv w a b c 64) xq4_LD = ix_con (xfv w a b c 0) xq4_LDx := rfl
    rw [e2]
    exact ix_part (hok _) (xq_f (by omega) (by omega) (by omega) (by omega) (by omega)) (by decide) (by decide) (xq_ib (by omega) (by omega) (by omega) (by omega) (by omega) (by omega)) xq4_sDx.1 xq4_sDx.2 xq4_lB xq4_lB xq4_kDx (g)
  | j + 1, a, b, c, d, w, h, ha, hb, hc, hw, hw2, g => ix_part (hok _) (xq_f (by omega) (by omega) (by omega) (by omega) (by omega)) (by decide) (by decide) (xq_ib (by omega) (by omega) (by omega) (by omega) (by omega) (by omega)) xq4_sD.1 xq4_sD.2 xq4_lB xq4_lB xq4_kD (xq4_D hok j a b c (d + 1) (w + 1) (by omega) ha hb hc (by omega) (by omega) (by rw [show w + 1 + j = w + (j + 1) by omega]; exact g))
set_option maxHeartbeats 400000 in
theorem xq4_C {k : ix_K} {E : ix_E} (hok : ∀ f pc, ix_ok k (ix_Eo E f) pc (xq_P pc)) : ∀ (j a b c w : Nat), c + j = 64 → a ≤ 63 → b ≤ 63 → 1 ≤ w → w + xq4_F1 j ≤ 700000 → ix_Go k E 33 ([], ix_con (xfv (w + xq4_F1 j) a (b + 1) 0 0) xq4_LB, [], 114, xq4_tB, 0, 0) → ix_Go k E 117 ([], ix_con (xfv w a b c 0) xq4_LC, [], 114, xq4_tB, 0, 0)
  | 0, a, b, c, w, h, ha, hb, hw, hw2, g => by
    have e : c = 64 := h
    subst e
    have e1 : xq4_F1 0 = 0 := rfl
    have e2 : ix_con (xfv w a b 64 0) xq4_LC = ix_con (xfv w a b 0 0) xq4_LCx := rfl
    rw [e2]
    exact ix_part (hok _) (xq_f (by omega) (by omega) (by omega) (by omega) (by omega)) (by decide) (by decide) (xq_ib (by omega) (by omega) (by omega) (by omega) (by omega) (by omega)) xq4_sCx.1 xq4_sCx.2 xq4_lB xq4_lB xq4_kCx (g)
  | j + 1, a, b, c, w, h, ha, hb, hw, hw2, g => by
    have e1 : xq4_F1 (j + 1) = j + xq4_F1 j := rfl
    exact ix_part (hok _) (xq_f (by omega) (by omega) (by omega) (by omega) (by omega)) (by decide) (by decide) (xq_ib (by omega) (by omega) (by omega) (by omega) (by omega) (by omega)) xq4_sC.1 xq4_sC.2 xq4_lB xq4_lB xq4_kC (xq4_D hok j a b c (c + 1) w (by omega) ha hb (by omega) hw (by omega) (xq4_C hok j a b (c + 1) (w + j) (by omega) ha hb (by omega) (by omega) (by rw [show w + j + xq4_F1 j = w + xq4_F1 (j + 1) by omega]; exact g)))
set_option maxHeartbeats 400000 in
theorem xq4_B {k : ix_K} {E : ix_E} (hok : ∀ f pc, ix_ok k (ix_Eo E f) pc (xq_P pc)) : ∀ (j a b w : Nat), b + j = 64 → a ≤ 63 → 1 ≤ w → w + xq4_F2 j ≤ 700000 → ix_Go k E 18 ([], ix_con (xfv (w + xq4_F2 j) (a + 1) 0 0 0) xq4_LA, [], 114, xq4_tB, 0, 0) → ix_Go k E 33 ([], ix_con (xfv w a b 0 0) xq4_LB, [], 114, xq4_tB, 0, 0)
  | 0, a, b, w, h, ha, hw, hw2, g => by
    have e : b = 64 := h
    subst e
    have e1 : xq4_F2 0 = 0 := rfl
    have e2 : ix_con (xfv w a 64 0 0) xq4_LB = ix_con (xfv w a 0 0 0) xq4_LBx := rfl
    rw [e2]
    exact ix_part (hok _) (xq_f (by omega) (by omega) (by omega) (by omega) (by omega)) (by decide) (by decide) (xq_ib (by omega) (by omega) (by omega) (by omega) (by omega) (by omega)) xq4_sBx.1 xq4_sBx.2 xq4_lB xq4_lB xq4_kBx (g)
  | j + 1, a, b, w, h, ha, hw, hw2, g => by
    have e1 : xq4_F2 (j + 1) = xq4_F1 j + xq4_F2 j := rfl
    exact ix_part (xq_ok2 hok _) (xq_f (by omega) (by omega) (by omega) (by omega) (by omega)) (by decide) (by decide) (xq_ib (by omega) (by omega) (by omega) (by omega) (by omega) (by omega)) xq4_sB.1 xq4_sB.2 xq4_lB xq4_lB xq4_kB (xq4_C hok j a b (b + 1) w (by omega) ha (by omega) hw (by omega) (xq4_B hok j a (b + 1) (w + xq4_F1 j) (by omega) ha (by omega) (by omega) (by rw [show w + xq4_F1 j + xq4_F2 j = w + xq4_F2 (j + 1) by omega]; exact g)))
set_option maxHeartbeats 400000 in
theorem xq4_A {k : ix_K} {E : ix_E} (hok : ∀ f pc, ix_ok k (ix_Eo E f) pc (xq_P pc)) : ∀ (j a w : Nat), a + j = 64 → 1 ≤ w → w + xq4_F3 j ≤ 700000 → ix_Go k E 18 ([], ix_con (xfv (w + xq4_F3 j) 64 0 0 0) xq4_LA, [], 114, xq4_tB, 0, 0) → ix_Go k E 18 ([], ix_con (xfv w a 0 0 0) xq4_LA, [], 114, xq4_tB, 0, 0)
  | 0, a, w, h, hw, hw2, g => by
    have e : a = 64 := h
    subst e
    exact g
  | j + 1, a, w, h, hw, hw2, g => by
    have e1 : xq4_F3 (j + 1) = xq4_F2 j + xq4_F3 j := rfl
    exact ix_part (hok _) (xq_f (by omega) (by omega) (by omega) (by omega) (by omega)) (by decide) (by decide) (xq_ib (by omega) (by omega) (by omega) (by omega) (by omega) (by omega)) xq4_sA.1 xq4_sA.2 xq4_lB xq4_lB xq4_kA (xq4_B hok j a (a + 1) w (by omega) (by omega) hw (by omega) (xq4_A hok j (a + 1) (w + xq4_F2 j) (by omega) (by omega) (by omega) (by rw [show w + xq4_F2 j + xq4_F3 j = w + xq4_F3 (j + 1) by omega]; exact g)))
noncomputable def xq4_outs : List ix_S := (ix_loop xq_P 50 18 ([], ix_con (xfv 635376 64 0 0 0) xq4_LA, [], 114, xq4_tB, 0, 0)).getD []
theorem xq4_is : (ix_loop xq_P 50 18 ([], ix_con (xfv 635376 64 0 0 0) xq4_LA, [], 114, xq4_tB, 0, 0)).isSome = true := by decide +kernel
theorem xq4_num : 61 + xq4_F1 61 + xq4_F2 62 + xq4_F3 63 = 635376 := by decide +kernel
set_option maxHeartbeats 400000 in
theorem xq4_mt {l : Launch} : ix_MT l xTs xcl (ix_O0 6) xsl xJ 1 198 [ix_vR 80, ix_vI 4] 114 xq4_tA xq4_outs := by
  refine ix_mt_of2 (d := 0) (call := xq_no) xm_X12_standsBy (fun y as B n t outs h => by cases h) xgood (by decide) xq_lo (fun k E hok0 hok hF => ?_)
  have e0 : ix_pad (ix_args [ix_vR 80, ix_vI 4]) (Nat.sub (xJ 198).2.2.1 (ix_args [ix_vR 80, ix_vI 4]).length) = ix_con (xfv 1 0 0 0 0) xq4_L0 := rfl
  rw [e0]
  have hnum := xq4_num
  have e1 : ix_con (xfv 1 0 0 0 0) xq4_L2 = ix_con (xfv 61 0 1 3 0) xq4_LC := rfl
  refine ix_part (hok _) (xq_f (by omega) (by omega) (by omega) (by omega) (by omega)) (by decide) (by decide) (xq_ib (by omega) (by omega) (by omega) (by omega) (by omega) (by omega)) xq4_s0.1 xq4_s0.2 xq4_lA xq4_lB xq4_k0 ?_
  refine ix_part (hok _) (xq_f (by omega) (by omega) (by omega) (by omega) (by omega)) (by decide) (by decide) (xq_ib (by omega) (by omega) (by omega) (by omega) (by omega) (by omega)) xq4_s1.1 xq4_s1.2 xq4_lB xq4_lB xq4_k1 ?_
  rw [e1]
  refine xq4_C hok 61 0 1 3 61 rfl (by omega) (by omega) (by omega) (by omega) ?_
  refine xq4_B hok 62 0 2 _ rfl (by omega) (by omega) (by omega) ?_
  refine xq4_A hok 63 1 _ rfl (by omega) (by omega) ?_
  rw [hnum]
  obtain ⟨r, hr⟩ := Option.isSome_iff_exists.mp xq4_is
  have er : xq4_outs = r := by unfold xq4_outs; rw [hr]; rfl
  exact ix_loop_ok hok0 50 18 _ r hr (fun o ho => (hF o).mpr (by rw [er]; exact ho))
theorem xq4_ends : (ix_ends 114 xq4_outs [([ix_vI 635376], xq4_fin)] && (Nat.ble 114 256 && (xq4_req.all (fun q => Nat.blt q.1 114 && !(Nat.beq q.2.1 98)) && [([ix_vI 635376], xq4_fin)].all (fun o => o.2.all (fun q => Nat.blt q.1 114 && !(Nat.beq q.2.1 98)))))) = true := by decide +kernel
noncomputable def xsm_sb4 : ix_Sm := (1, 198, [ix_vR 80, ix_vI 4], 114, xq4_req, [([ix_vI 635376], xq4_fin)])
theorem xok_sb4 : ix_made (ix_c1 198 [ix_vR 80, ix_vI 4] 114 xq4_tA xq4_outs) xsm_sb4 = true := ix_c1_made xq4_ends
