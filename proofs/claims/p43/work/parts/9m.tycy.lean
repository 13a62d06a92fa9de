/-! the typed machine's rows for copying -/
section TYCR
variable {h : ty_H} {cp : Nat × Nat} {M : ix_M} {d : Nat} {O : ix_O}
theorem ty_lv_put {k : ty_K} {σ : ty_Sg} {L ls : ix_L} {loc : Nat} {v w : ix_V} (hl : ty_lv k σ L ls) (hv : ty_rv k σ v w) : ty_lv k σ (L.set loc (some v)) (ls.set loc (some w)) := by
  refine ⟨by rw [List.length_set, List.length_set]; exact hl.1, fun i u hu => ?_⟩
  rw [List.getElem?_set] at hu ⊢
  by_cases e : loc = i
  · rw [if_pos e] at hu ⊢
    by_cases g : loc < L.length
    · rw [if_pos g] at hu
      rw [if_pos (by rw [← hl.1]; exact g)]
      cases hu
      exact ⟨w, rfl, hv⟩
    · rw [if_neg g] at hu
      cases hu
  · rw [if_neg e] at hu ⊢
    exact hl.2 i u hu
/-- no orders are run -/
noncomputable def ty_off0 (W : ty_W) : Bool := W.2.2.2.2.any (fun f => match f.1.2 with
  | .inr (.inl q) => Nat.beq q 14
  | _ => false)
theorem ty_off0_ok {σ : ty_Sg} {W : ty_W} {n : Nat} {t : ix_T} (hw : ty_wk h σ W n t) (he : ty_off0 W = true) : σ.2.1 1001 = 0 := by
  obtain ⟨f, f1, f2⟩ := List.any_eq_true.mp he
  have hf := hw.2.2.2.2.2 f f1
  obtain ⟨⟨p, j⟩, v⟩ := f
  rcases j with b | q | r | z
  · cases f2
  · have e : q = 14 := ix_beq.mp f2
    subst e
    obtain ⟨m, _, m2⟩ := hf.2
    exact m2.2.2.2 rfl
  · cases f2
  · cases f2
noncomputable def ty_cpw (c2 : Nat) (W : ty_W) : ty_W := (W.1, (W.2.1, (W.2.2.1, (W.2.2.2.1, ty_cpx c2 W.2.2.2.2))))
theorem ty_isP_rv {σ : ty_Sg} {W : ty_W} {n : Nat} {t : ix_T} {a w : ix_V} (hw : ty_wk h σ W n t) (ha : ty_isP 79 a = true) (hv : ty_rv (ty_k h W) σ a w) : w = .inr (.inr (.inl 80)) := by
  have e := ty_isP_ok ha
  subst e
  have hh := hw.2.2.1
  have e114 := hh.2.2.2.2.2.1.1
  have e2 := ty_named hw hv (by omega)
  rw [hh.2.2.1 79 (by omega)] at e2
  exact e2
theorem ty_rng_one {σ : ty_Sg} {W : ty_W} {n m : Nat} {t : ix_T} {b : ix_V} (hw : ty_wk h σ W n t) (hb : ty_iv W.1.1 σ.1 b m) (h1 : (ty_rng W.1 b).1 = (ty_rng W.1 b).2) (h2 : 4294967296 ≤ (ty_rng W.1 b).1) : m = (ty_rng W.1 b).1 - 4294967296 := by
  have r : (ty_rng W.1 b).1 ≤ ty_kp m ∧ ty_kp m ≤ (ty_rng W.1 b).2 := ty_rng_ok hw.1 hb
  obtain ⟨a1, a2⟩ := ty_nn hb.1 (by omega)
  omega

noncomputable def ty_yimage (h : ty_H) : ty_S → ty_R
  | (W, L, st, w) => (match L with
    | [some a, some b1, x2] => cond (st.isEmpty && (ty_isP 79 a && (ty_isI b1 && (Nat.beq (ty_rng W.1 b1).1 (ty_rng W.1 b1).2 && (Nat.ble 4294967296 (ty_rng W.1 b1).1 && (Nat.ble (ty_rng W.1 b1).1 4294967297 && (Nat.ble 11600 (h.2 82).2.1 && (ty_cpc h 3 81 0 4 82 (Nat.mul 5800 (Nat.sub (ty_rng W.1 b1).1 4294967296)) 5800)))))))) (some [(48, (ty_cpw 82 W, ([some a, some b1, x2]).set 2 (some (.inl 4294973096)), [], w))]) none
    | _ => none)
theorem ts_yimage : ty_sm h cp M d (ix_cX12_image O) 15 (ty_yimage h) := by
  intro S outs hs σ C hi
  obtain ⟨W, L, st, w⟩ := S
  obtain ⟨ls, stk, n, t, ce, sl⟩ := C
  unfold ty_yimage at hs
  dsimp only at hs
  split at hs
  rotate_left
  · cases hs
  rename_i a b1 x2
  cases hc : (st.isEmpty && (ty_isP 79 a && (ty_isI b1 && (Nat.beq (ty_rng W.1 b1).1 (ty_rng W.1 b1).2 && (Nat.ble 4294967296 (ty_rng W.1 b1).1 && (Nat.ble (ty_rng W.1 b1).1 4294967297 && (Nat.ble 11600 (h.2 82).2.1 && (ty_cpc h 3 81 0 4 82 (Nat.mul 5800 (Nat.sub (ty_rng W.1 b1).1 4294967296)) 5800)))))))) with
  | false => rw [hc] at hs; cases hs
  | true =>
    rw [hc, cond_true] at hs
    have ho := Option.some.inj hs
    have c0 := Bool.and_eq_true_iff.mp hc
    have c1 := Bool.and_eq_true_iff.mp c0.2
    have c2 := Bool.and_eq_true_iff.mp c1.2
    have c3 := Bool.and_eq_true_iff.mp c2.2
    have c4 := Bool.and_eq_true_iff.mp c3.2
    have c5 := Bool.and_eq_true_iff.mp c4.2
    have c6 := Bool.and_eq_true_iff.mp c5.2
    have est : st = [] := List.isEmpty_iff.mp c0.1
    subst est
    have e9 := ty_vs_0 hi.2.2.1
    have e9b : stk = [] := e9
    subst e9b
    have hlen := hi.2.1.1
    obtain ⟨z0, z1, z2, rfl⟩ : ∃ z0 z1 z2 : Option ix_V, ls = [z0, z1, z2] := by
      rcases ls with _ | ⟨z0, _ | ⟨z1, _ | ⟨z2, _ | ⟨_, _⟩⟩⟩⟩
      · exact absurd hlen (by simp)
      · exact absurd hlen (by simp)
      · exact absurd hlen (by simp)
      · exact ⟨z0, z1, z2, rfl⟩
      · exact absurd hlen (by simp)
    obtain ⟨w0, q0, q1⟩ := hi.2.1.2 0 a rfl
    have q2 : z0 = some w0 := Option.some.inj q0
    have q3 := ty_isP_rv hi.1 c1.1 q1
    subst q3
    subst q2
    obtain ⟨w1, r1, s1⟩ := hi.2.1.2 1 b1 rfl
    have u1 : z1 = some w1 := Option.some.inj r1
    obtain ⟨m1, v1, y1⟩ := s1.toint c2.1
    subst v1
    subst u1
    have km : m1 = (ty_rng W.1 b1).1 - 4294967296 := ty_rng_one hi.1 y1 (ix_beq.mp c3.1) (ix_ble.mp c4.1)
    have kl : m1 < 2 := by have := ix_ble.mp c5.1; omega
    have cc : ty_cpc h 3 81 0 4 82 (5800 * m1) 5800 = true := by
      have z := c6.2
      rw [show Nat.sub (ty_rng W.1 b1).1 4294967296 = m1 from km.symm] at z
      exact z
    obtain ⟨⟨g1, g2, g3, g4, g5, g6⟩, g7⟩ := ty_cp_core hi.1 cc (ix_ble.mp c6.1) (fun e => absurd e (by decide)) (Or.inr ⟨rfl, Or.inl ⟨rfl, rfl, rfl, by omega⟩⟩)
    obtain ⟨t2, hcp, hrt⟩ := pl_image (M := M) (O := O) (d := d) (ce := ce) (sl := sl) (x := z2) g1 hi.1.2.2.1.2.1 g2 g3 g4 g5 g6 kl
    have hw := g7 t2 hcp
    exact ⟨(48, (ty_cpw 82 W, ([some a, some b1, x2]).set 2 (some (.inl 4294973096)), [], w)), by rw [← ho]; exact List.mem_cons_self, σ, (_, [], n, t2, ce, sl), ⟨Nat.le_refl _, Nat.le_refl _, Nat.le_refl _⟩, ty_agr.rf, ⟨hw, ty_lv_put (v := .inl 4294973096) (w := .inl 5800) hi.2.1 (ty_rv.int ⟨by decide, show _ = ty_kp _ from (ty_kp_nn (by decide)).symm⟩), trivial, hi.2.2.2⟩, Or.inr hrt⟩
noncomputable def ty_yback (h : ty_H) : ty_S → ty_R
  | (W, L, st, w) => (match L with
    | [some a, some b1, x2] => cond (st.isEmpty && (ty_isP 79 a && (ty_isI b1 && (Nat.beq (ty_rng W.1 b1).1 (ty_rng W.1 b1).2 && (Nat.ble 4294967296 (ty_rng W.1 b1).1 && (Nat.ble (ty_rng W.1 b1).1 4294967297 && (Nat.ble 11600 (h.2 82).2.1 && (ty_off0 W && (ty_cpc h 4 82 (Nat.mul 5800 (Nat.sub (ty_rng W.1 b1).1 4294967296)) 3 81 0 5800))))))))) (some [(64, (ty_cpw 81 W, ([some a, some b1, x2]).set 2 (some (.inl 4294973096)), [], w))]) none
    | _ => none)
theorem ts_yback : ty_sm h cp M d (ix_cX12_back O) 31 (ty_yback h) := by
  intro S outs hs σ C hi
  obtain ⟨W, L, st, w⟩ := S
  obtain ⟨ls, stk, n, t, ce, sl⟩ := C
  unfold ty_yback at hs
  dsimp only at hs
  split at hs
  rotate_left
  · cases hs
  rename_i a b1 x2
  cases hc : (st.isEmpty && (ty_isP 79 a && (ty_isI b1 && (Nat.beq (ty_rng W.1 b1).1 (ty_rng W.1 b1).2 && (Nat.ble 4294967296 (ty_rng W.1 b1).1 && (Nat.ble (ty_rng W.1 b1).1 4294967297 && (Nat.ble 11600 (h.2 82).2.1 && (ty_off0 W && (ty_cpc h 4 82 (Nat.mul 5800 (Nat.sub (ty_rng W.1 b1).1 4294967296)) 3 81 0 5800))))))))) with
  | false => rw [hc] at hs; cases hs
  | true =>
    rw [hc, cond_true] at hs
    have ho := Option.some.inj hs
    have c0 := Bool.and_eq_true_iff.mp hc
    have c1 := Bool.and_eq_true_iff.mp c0.2
    have c2 := Bool.and_eq_true_iff.mp c1.2
    have c3 := Bool.and_eq_true_iff.mp c2.2
    have c4 := Bool.and_eq_true_iff.mp c3.2
    have c5 := Bool.and_eq_true_iff.mp c4.2
    have c6 := Bool.and_eq_true_iff.mp c5.2
    have c7 := Bool.and_eq_true_iff.mp c6.2
    have est : st = [] := List.isEmpty_iff.mp c0.1
    subst est
    have e9 := ty_vs_0 hi.2.2.1
    have e9b : stk = [] := e9
    subst e9b
    have hlen := hi.2.1.1
    obtain ⟨z0, z1, z2, rfl⟩ : ∃ z0 z1 z2 : Option ix_V, ls = [z0, z1, z2] := by
      rcases ls with _ | ⟨z0, _ | ⟨z1, _ | ⟨z2, _ | ⟨_, _⟩⟩⟩⟩
      · exact absurd hlen (by simp)
      · exact absurd hlen (by simp)
      · exact absurd hlen (by simp)
      · exact ⟨z0, z1, z2, rfl⟩
      · exact absurd hlen (by simp)
    obtain ⟨w0, q0, q1⟩ := hi.2.1.2 0 a rfl
    have q2 : z0 = some w0 := Option.some.inj q0
    have q3 := ty_isP_rv hi.1 c1.1 q1
    subst q3
    subst q2
    obtain ⟨w1, r1, s1⟩ := hi.2.1.2 1 b1 rfl
    have u1 : z1 = some w1 := Option.some.inj r1
    obtain ⟨m1, v1, y1⟩ := s1.toint c2.1
    subst v1
    subst u1
    have km : m1 = (ty_rng W.1 b1).1 - 4294967296 := ty_rng_one hi.1 y1 (ix_beq.mp c3.1) (ix_ble.mp c4.1)
    have kl : m1 < 2 := by have := ix_ble.mp c5.1; omega
    have cc : ty_cpc h 4 82 (5800 * m1) 3 81 0 5800 = true := by
      have z := c7.2
      rw [show Nat.sub (ty_rng W.1 b1).1 4294967296 = m1 from km.symm] at z
      exact z
    obtain ⟨⟨g1, g2, g3, g4, g5, g6⟩, g7⟩ := ty_cp_core hi.1 cc (ix_ble.mp c6.1) (fun _ => by rw [ty_off0_ok hi.1 c7.1]; decide) (Or.inr ⟨rfl, Or.inr (Or.inr ⟨rfl, rfl, Or.inl ⟨rfl, by omega⟩⟩)⟩)
    obtain ⟨t2, hcp, hrt⟩ := pl_back (M := M) (O := O) (d := d) (ce := ce) (sl := sl) (x := z2) g1 hi.1.2.2.1.2.1 g2 g3 g4 g5 g6 kl
    have hw := g7 t2 hcp
    exact ⟨(64, (ty_cpw 81 W, ([some a, some b1, x2]).set 2 (some (.inl 4294973096)), [], w)), by rw [← ho]; exact List.mem_cons_self, σ, (_, [], n, t2, ce, sl), ⟨Nat.le_refl _, Nat.le_refl _, Nat.le_refl _⟩, ty_agr.rf, ⟨hw, ty_lv_put (v := .inl 4294973096) (w := .inl 5800) hi.2.1 (ty_rv.int ⟨by decide, show _ = ty_kp _ from (ty_kp_nn (by decide)).symm⟩), trivial, hi.2.2.2⟩, Or.inr hrt⟩
noncomputable def ty_yahead (h : ty_H) : ty_S → ty_R
  | (W, L, st, w) => (match L with
    | [some a, x1, x2, x3, x4] => cond (st.isEmpty && (ty_isP 79 a && (Nat.ble 11600 (h.2 82).2.1 && (ty_cpc h 3 81 0 5 83 0 5800)))) (some [(47, (ty_cpw 83 W, ([some a, x1, x2, x3, x4]).set 1 (some (.inl 4294973096)), [], w))]) none
    | _ => none)
theorem ts_yahead : ty_sm h cp M d (ix_cX12_orders O) 20 (ty_yahead h) := by
  intro S outs hs σ C hi
  obtain ⟨W, L, st, w⟩ := S
  obtain ⟨ls, stk, n, t, ce, sl⟩ := C
  unfold ty_yahead at hs
  dsimp only at hs
  split at hs
  rotate_left
  · cases hs
  rename_i a x1 x2 x3 x4
  cases hc : (st.isEmpty && (ty_isP 79 a && (Nat.ble 11600 (h.2 82).2.1 && (ty_cpc h 3 81 0 5 83 0 5800)))) with
  | false => rw [hc] at hs; cases hs
  | true =>
    rw [hc, cond_true] at hs
    have ho := Option.some.inj hs
    have c0 := Bool.and_eq_true_iff.mp hc
    have c1 := Bool.and_eq_true_iff.mp c0.2
    have c2 := Bool.and_eq_true_iff.mp c1.2
    have est : st = [] := List.isEmpty_iff.mp c0.1
    subst est
    have e9 := ty_vs_0 hi.2.2.1
    have e9b : stk = [] := e9
    subst e9b
    have hlen := hi.2.1.1
    obtain ⟨z0, z1, z2, z3, z4, rfl⟩ : ∃ z0 z1 z2 z3 z4 : Option ix_V, ls = [z0, z1, z2, z3, z4] := by
      rcases ls with _ | ⟨z0, _ | ⟨z1, _ | ⟨z2, _ | ⟨z3, _ | ⟨z4, _ | ⟨_, _⟩⟩⟩⟩⟩⟩
      · exact absurd hlen (by simp)
      · exact absurd hlen (by simp)
      · exact absurd hlen (by simp)
      · exact absurd hlen (by simp)
      · exact absurd hlen (by simp)
      · exact ⟨z0, z1, z2, z3, z4, rfl⟩
      · exact absurd hlen (by simp)
    obtain ⟨w0, q0, q1⟩ := hi.2.1.2 0 a rfl
    have q2 : z0 = some w0 := Option.some.inj q0
    have q3 := ty_isP_rv hi.1 c1.1 q1
    subst q3
    subst q2
    have cc : ty_cpc h 3 81 0 5 83 0 5800 = true := by
      exact c2.2
    obtain ⟨⟨g1, g2, g3, g4, g5, g6⟩, g7⟩ := ty_cp_core hi.1 cc (ix_ble.mp c2.1) (fun e => absurd e (by decide)) (Or.inr ⟨rfl, Or.inr (Or.inl ⟨rfl, rfl, rfl, rfl⟩)⟩)
    obtain ⟨t2, hcp, hrt⟩ := pl_ahead (M := M) (O := O) (d := d) (ce := ce) (sl := sl) (x := z1) (y2 := z2) (y3 := z3) (y4 := z4) g1 hi.1.2.2.1.2.1 g2 g3 g4 g5 g6
    have hw := g7 t2 hcp
    exact ⟨(47, (ty_cpw 83 W, ([some a, x1, x2, x3, x4]).set 1 (some (.inl 4294973096)), [], w)), by rw [← ho]; exact List.mem_cons_self, σ, (_, [], n, t2, ce, sl), ⟨Nat.le_refl _, Nat.le_refl _, Nat.le_refl _⟩, ty_agr.rf, ⟨hw, ty_lv_put (v := .inl 4294973096) (w := .inl 5800) hi.2.1 (ty_rv.int ⟨by decide, show _ = ty_kp _ from (ty_kp_nn (by decide)).symm⟩), trivial, hi.2.2.2⟩, Or.inr hrt⟩
noncomputable def ty_yundo1 (h : ty_H) : ty_S → ty_R
  | (W, L, st, w) => (match L with
    | [some a, x1, x2, x3, x4] => cond (st.isEmpty && (ty_isP 79 a && (Nat.ble 11600 (h.2 82).2.1 && (ty_cpc h 7 85 0 8 86 0 48)))) (some [(73, (ty_cpw 86 W, ([some a, x1, x2, x3, x4]).set 1 (some (.inl 4294967344)), [], w))]) none
    | _ => none)
theorem ts_yundo1 : ty_sm h cp M d (ix_cX12_orders O) 47 (ty_yundo1 h) := by
  intro S outs hs σ C hi
  obtain ⟨W, L, st, w⟩ := S
  obtain ⟨ls, stk, n, t, ce, sl⟩ := C
  unfold ty_yundo1 at hs
  dsimp only at hs
  split at hs
  rotate_left
  · cases hs
  rename_i a x1 x2 x3 x4
  cases hc : (st.isEmpty && (ty_isP 79 a && (Nat.ble 11600 (h.2 82).2.1 && (ty_cpc h 7 85 0 8 86 0 48)))) with
  | false => rw [hc] at hs; cases hs
  | true =>
    rw [hc, cond_true] at hs
    have ho := Option.some.inj hs
    have c0 := Bool.and_eq_true_iff.mp hc
    have c1 := Bool.and_eq_true_iff.mp c0.2
    have c2 := Bool.and_eq_true_iff.mp c1.2
    have est : st = [] := List.isEmpty_iff.mp c0.1
    subst est
    have e9 := ty_vs_0 hi.2.2.1
    have e9b : stk = [] := e9
    subst e9b
    have hlen := hi.2.1.1
    obtain ⟨z0, z1, z2, z3, z4, rfl⟩ : ∃ z0 z1 z2 z3 z4 : Option ix_V, ls = [z0, z1, z2, z3, z4] := by
      rcases ls with _ | ⟨z0, _ | ⟨z1, _ | ⟨z2, _ | ⟨z3, _ | ⟨z4, _ | ⟨_, _⟩⟩⟩⟩⟩⟩
      · exact absurd hlen (by simp)
      · exact absurd hlen (by simp)
      · exact absurd hlen (by simp)
      · exact absurd hlen (by simp)
      · exact absurd hlen (by simp)
      · exact ⟨z0, z1, z2, z3, z4, rfl⟩
      · exact absurd hlen (by simp)
    obtain ⟨w0, q0, q1⟩ := hi.2.1.2 0 a rfl
    have q2 : z0 = some w0 := Option.some.inj q0
    have q3 := ty_isP_rv hi.1 c1.1 q1
    subst q3
    subst q2
    have cc : ty_cpc h 7 85 0 8 86 0 48 = true := by
      exact c2.2
    obtain ⟨⟨g1, g2, g3, g4, g5, g6⟩, g7⟩ := ty_cp_core hi.1 cc (ix_ble.mp c2.1) (fun e => absurd e (by decide)) (Or.inl (by decide))
    obtain ⟨t2, hcp, hrt⟩ := pl_undo1 (M := M) (O := O) (d := d) (ce := ce) (sl := sl) (x := z1) (y2 := z2) (y3 := z3) (y4 := z4) g1 hi.1.2.2.1.2.1 g2 g3 g4 g5 g6
    have hw := g7 t2 hcp
    exact ⟨(73, (ty_cpw 86 W, ([some a, x1, x2, x3, x4]).set 1 (some (.inl 4294967344)), [], w)), by rw [← ho]; exact List.mem_cons_self, σ, (_, [], n, t2, ce, sl), ⟨Nat.le_refl _, Nat.le_refl _, Nat.le_refl _⟩, ty_agr.rf, ⟨hw, ty_lv_put (v := .inl 4294967344) (w := .inl 48) hi.2.1 (ty_rv.int ⟨by decide, show _ = ty_kp _ from (ty_kp_nn (by decide)).symm⟩), trivial, hi.2.2.2⟩, Or.inr hrt⟩
noncomputable def ty_yagain (h : ty_H) : ty_S → ty_R
  | (W, L, st, w) => (match L with
    | [some a, x1, x2, some b3, x4] => cond (st.isEmpty && (ty_isP 79 a && (ty_isI b3 && (Nat.ble 11600 (h.2 82).2.1 && (ty_off0 W && (ty_cpc h 5 83 0 3 81 0 5800)))))) (some [(162, (ty_cpw 81 W, ([some a, x1, x2, some b3, x4]).set 4 (some (.inl 4294973096)), [], w))]) none
    | _ => none)
theorem ts_yagain : ty_sm h cp M d (ix_cX12_orders O) 131 (ty_yagain h) := by
  intro S outs hs σ C hi
  obtain ⟨W, L, st, w⟩ := S
  obtain ⟨ls, stk, n, t, ce, sl⟩ := C
  unfold ty_yagain at hs
  dsimp only at hs
  split at hs
  rotate_left
  · cases hs
  rename_i a x1 x2 b3 x4
  cases hc : (st.isEmpty && (ty_isP 79 a && (ty_isI b3 && (Nat.ble 11600 (h.2 82).2.1 && (ty_off0 W && (ty_cpc h 5 83 0 3 81 0 5800)))))) with
  | false => rw [hc] at hs; cases hs
  | true =>
    rw [hc, cond_true] at hs
    have ho := Option.some.inj hs
    have c0 := Bool.and_eq_true_iff.mp hc
    have c1 := Bool.and_eq_true_iff.mp c0.2
    have c2 := Bool.and_eq_true_iff.mp c1.2
    have c3 := Bool.and_eq_true_iff.mp c2.2
    have c4 := Bool.and_eq_true_iff.mp c3.2
    have est : st = [] := List.isEmpty_iff.mp c0.1
    subst est
    have e9 := ty_vs_0 hi.2.2.1
    have e9b : stk = [] := e9
    subst e9b
    have hlen := hi.2.1.1
    obtain ⟨z0, z1, z2, z3, z4, rfl⟩ : ∃ z0 z1 z2 z3 z4 : Option ix_V, ls = [z0, z1, z2, z3, z4] := by
      rcases ls with _ | ⟨z0, _ | ⟨z1, _ | ⟨z2, _ | ⟨z3, _ | ⟨z4, _ | ⟨_, _⟩⟩⟩⟩⟩⟩
      · exact absurd hlen (by simp)
      · exact absurd hlen (by simp)
      · exact absurd hlen (by simp)
      · exact absurd hlen (by simp)
      · exact absurd hlen (by simp)
      · exact ⟨z0, z1, z2, z3, z4, rfl⟩
      · exact absurd hlen (by simp)
    obtain ⟨w0, q0, q1⟩ := hi.2.1.2 0 a rfl
    have q2 : z0 = some w0 := Option.some.inj q0
    have q3 := ty_isP_rv hi.1 c1.1 q1
    subst q3
    subst q2
    obtain ⟨w3, r3, s3⟩ := hi.2.1.2 3 b3 rfl
    have u3 : z3 = some w3 := Option.some.inj r3
    obtain ⟨m3, v3, y3⟩ := s3.toint c2.1
    subst v3
    subst u3
    have cc : ty_cpc h 5 83 0 3 81 0 5800 = true := by
      exact c4.2
    obtain ⟨⟨g1, g2, g3, g4, g5, g6⟩, g7⟩ := ty_cp_core hi.1 cc (ix_ble.mp c3.1) (fun _ => by rw [ty_off0_ok hi.1 c4.1]; decide) (Or.inr ⟨rfl, Or.inr (Or.inr ⟨rfl, rfl, Or.inr ⟨rfl, rfl⟩⟩)⟩)
    obtain ⟨t2, hcp, hrt⟩ := pl_again (M := M) (O := O) (d := d) (ce := ce) (sl := sl) (x := z4) (y1 := z1) (y2 := z2) g1 hi.1.2.2.1.2.1 g2 g3 g4 g5 g6
    have hw := g7 t2 hcp
    exact ⟨(162, (ty_cpw 81 W, ([some a, x1, x2, some b3, x4]).set 4 (some (.inl 4294973096)), [], w)), by rw [← ho]; exact List.mem_cons_self, σ, (_, [], n, t2, ce, sl), ⟨Nat.le_refl _, Nat.le_refl _, Nat.le_refl _⟩, ty_agr.rf, ⟨hw, ty_lv_put (v := .inl 4294973096) (w := .inl 5800) hi.2.1 (ty_rv.int ⟨by decide, show _ = ty_kp _ from (ty_kp_nn (by decide)).symm⟩), trivial, hi.2.2.2⟩, Or.inr hrt⟩
noncomputable def ty_yundo2 (h : ty_H) : ty_S → ty_R
  | (W, L, st, w) => (match L with
    | [some a, x1, x2, some b3, x4] => cond (st.isEmpty && (ty_isP 79 a && (ty_isI b3 && (Nat.ble 11600 (h.2 82).2.1 && (ty_cpc h 8 86 0 7 85 0 48))))) (some [(192, (ty_cpw 85 W, ([some a, x1, x2, some b3, x4]).set 4 (some (.inl 4294967344)), [], w))]) none
    | _ => none)
theorem ts_yundo2 : ty_sm h cp M d (ix_cX12_orders O) 162 (ty_yundo2 h) := by
  intro S outs hs σ C hi
  obtain ⟨W, L, st, w⟩ := S
  obtain ⟨ls, stk, n, t, ce, sl⟩ := C
  unfold ty_yundo2 at hs
  dsimp only at hs
  split at hs
  rotate_left
  · cases hs
  rename_i a x1 x2 b3 x4
  cases hc : (st.isEmpty && (ty_isP 79 a && (ty_isI b3 && (Nat.ble 11600 (h.2 82).2.1 && (ty_cpc h 8 86 0 7 85 0 48))))) with
  | false => rw [hc] at hs; cases hs
  | true =>
    rw [hc, cond_true] at hs
    have ho := Option.some.inj hs
    have c0 := Bool.and_eq_true_iff.mp hc
    have c1 := Bool.and_eq_true_iff.mp c0.2
    have c2 := Bool.and_eq_true_iff.mp c1.2
    have c3 := Bool.and_eq_true_iff.mp c2.2
    have est : st = [] := List.isEmpty_iff.mp c0.1
    subst est
    have e9 := ty_vs_0 hi.2.2.1
    have e9b : stk = [] := e9
    subst e9b
    have hlen := hi.2.1.1
    obtain ⟨z0, z1, z2, z3, z4, rfl⟩ : ∃ z0 z1 z2 z3 z4 : Option ix_V, ls = [z0, z1, z2, z3, z4] := by
      rcases ls with _ | ⟨z0, _ | ⟨z1, _ | ⟨z2, _ | ⟨z3, _ | ⟨z4, _ | ⟨_, _⟩⟩⟩⟩⟩⟩
      · exact absurd hlen (by simp)
      · exact absurd hlen (by simp)
      · exact absurd hlen (by simp)
      · exact absurd hlen (by simp)
      · exact absurd hlen (by simp)
      · exact ⟨z0, z1, z2, z3, z4, rfl⟩
      · exact absurd hlen (by simp)
    obtain ⟨w0, q0, q1⟩ := hi.2.1.2 0 a rfl
    have q2 : z0 = some w0 := Option.some.inj q0
    have q3 := ty_isP_rv hi.1 c1.1 q1
    subst q3
    subst q2
    obtain ⟨w3, r3, s3⟩ := hi.2.1.2 3 b3 rfl
    have u3 : z3 = some w3 := Option.some.inj r3
    obtain ⟨m3, v3, y3⟩ := s3.toint c2.1
    subst v3
    subst u3
    have cc : ty_cpc h 8 86 0 7 85 0 48 = true := by
      exact c3.2
    obtain ⟨⟨g1, g2, g3, g4, g5, g6⟩, g7⟩ := ty_cp_core hi.1 cc (ix_ble.mp c3.1) (fun e => absurd e (by decide)) (Or.inl (by decide))
    obtain ⟨t2, hcp, hrt⟩ := pl_undo2 (M := M) (O := O) (d := d) (ce := ce) (sl := sl) (x := z4) (y1 := z1) (y2 := z2) g1 hi.1.2.2.1.2.1 g2 g3 g4 g5 g6
    have hw := g7 t2 hcp
    exact ⟨(192, (ty_cpw 85 W, ([some a, x1, x2, some b3, x4]).set 4 (some (.inl 4294967344)), [], w)), by rw [← ho]; exact List.mem_cons_self, σ, (_, [], n, t2, ce, sl), ⟨Nat.le_refl _, Nat.le_refl _, Nat.le_refl _⟩, ty_agr.rf, ⟨hw, ty_lv_put (v := .inl 4294967344) (w := .inl 48) hi.2.1 (ty_rv.int ⟨by decide, show _ = ty_kp _ from (ty_kp_nn (by decide)).symm⟩), trivial, hi.2.2.2⟩, Or.inr hrt⟩
end TYCR
