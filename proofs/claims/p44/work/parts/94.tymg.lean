/-! outcomes of a call are joined -/
section TYJN
variable {h : ty_H} {cp : Nat × Nat}
noncomputable def ty_scb (k : ty_K) (v : ix_V) : Bool := match v with
  | .inl _ => true
  | .inr (.inl q) => Nat.blt q (Nat.add 18446744073709551617 k.2.1)
  | .inr (.inr (.inl r)) => Nat.ble r k.2.2 || Nat.blt 1000000 r
  | .inr (.inr (.inr (x, _))) => Nat.blt x k.1
theorem ty_scb_ok {k : ty_K} {v : ix_V} (he : ty_scb k v = true) : ty_sc k v := by
  rcases v with b | q | r | ⟨x, c⟩
  · trivial
  · intro x hx
    have : q < 18446744073709551617 + k.2.1 := ix_blt.mp he
    omega
  · cases r with
    | zero => trivial
    | succ p =>
      rcases (Bool.or_eq_true _ _).mp (show (Nat.ble (p + 1) k.2.2 || Nat.blt 1000000 (p + 1)) = true from he) with z | z
      · have := ix_ble.mp z; exact Or.inl (by omega)
      · have := ix_blt.mp z; exact Or.inr (by omega)
  · exact ix_blt.mp he
noncomputable def ty_fsc (k : ty_K) (f : (Nat × ix_V) × ix_V) : Bool := Nat.blt f.1.1 k.2.2 && (ty_scb k f.1.2 && ty_scb k f.2)
theorem ty_fok.dn2 {k k' : ty_K} {σ σ' : ty_Sg} {t : ix_T} {f : (Nat × ix_V) × ix_V} (hf : ty_fok k' σ' t f) (h0 : ty_fsc k f = true) (ha : ty_agr k σ σ') (h6 : k.2.2 ≤ 1000000) (h7 : k'.2.2 ≤ 1000000) : ty_fok k σ t f := by
  obtain ⟨⟨p, j⟩, v⟩ := f
  have c1 := Bool.and_eq_true_iff.mp h0
  have c2 := Bool.and_eq_true_iff.mp c1.2
  have z1 : p < k.2.2 := ix_blt.mp c1.1
  have zj : ty_sc k j := ty_scb_ok c2.1
  have zv : ty_sc k v := ty_scb_ok c2.2
  obtain ⟨h1, h2⟩ := hf
  have ep : σ'.2.2.1 p = σ.2.2.1 p := ha.2.2.1 p (Or.inl z1)
  refine ⟨z1, ?_⟩
  rcases j with b | q | r | q
  · obtain ⟨m, m1, m0, m2⟩ := h2
    dsimp only at m0 m2 ⊢
    rw [ep] at m0 m2
    exact ⟨m, m1, m0, m2.dn zv ha h6 h7⟩
  · obtain ⟨m, m1, m2⟩ := h2
    exact ⟨m, ty_iv.dn m1 zv ha.1, m2.ga ha.2.1⟩
  · show ty_iv k.1 σ.1 v (ix_g t (σ.2.2.1 p)).2.1
    rw [← ep]
    exact ty_iv.dn h2 zv ha.1
  · obtain ⟨m, m1, m0, m2⟩ := h2
    dsimp only at m0 m2 ⊢
    rw [ep] at m0 m2
    exact ⟨m, ty_iv.dn m1 zj ha.1, m0, m2.dn zv ha h6 h7⟩
/-- the facts that all outcomes share and that speak of what was there -/
noncomputable def ty_cf (h : ty_H) (W : ty_W) (l : List (List ix_V × ty_W)) : ty_X := match l with
  | [] => []
  | o :: l' => o.2.2.2.2.2.filter (fun f => ty_fsc (ty_k h W) f && l'.all (fun q => q.2.2.2.2.2.any (fun g => ty_feq f g)))
theorem ty_cf_ok {W : ty_W} {l : List (List ix_V × ty_W)} {f : (Nat × ix_V) × ix_V} (hf : f ∈ ty_cf h W l) : ty_fsc (ty_k h W) f = true ∧ ∀ o ∈ l, f ∈ o.2.2.2.2.2 := by
  cases l with
  | nil => cases hf
  | cons o l =>
    have hm := List.mem_filter.mp hf
    have c := Bool.and_eq_true_iff.mp hm.2
    refine ⟨c.1, fun q hq => ?_⟩
    rcases List.mem_cons.mp hq with rfl | hq
    · exact hm.1
    · obtain ⟨g, g1, g2⟩ := List.any_eq_true.mp (List.all_eq_true.mp c.2 q hq)
      rw [ty_feq_ok g2]
      exact g1
noncomputable def ty_r1 (o : List ix_V × ty_W) : Nat × Nat := match o.1 with
  | v :: _ => ty_rng o.2.1 v
  | [] => ty_full
noncomputable def ty_lo1 (l : List (List ix_V × ty_W)) : Nat := l.foldr (fun o a => Nat.min (ty_r1 o).1 a) 6442450943
noncomputable def ty_hi1 (l : List (List ix_V × ty_W)) : Nat := l.foldr (fun o a => Nat.max (ty_r1 o).2 a) 0
theorem ty_lo1_ok : ∀ (l : List (List ix_V × ty_W)) (o : List ix_V × ty_W), o ∈ l → ty_lo1 l ≤ (ty_r1 o).1 ∧ (ty_r1 o).2 ≤ ty_hi1 l
  | [], o, ho => by cases ho
  | p :: l, o, ho => by
    have e1 : ty_lo1 (p :: l) = Nat.min (ty_r1 p).1 (ty_lo1 l) := rfl
    have e2 : ty_hi1 (p :: l) = Nat.max (ty_r1 p).2 (ty_hi1 l) := rfl
    rw [e1, e2]
    rcases List.mem_cons.mp ho with rfl | ho
    · exact ⟨Nat.min_le_left _ _, Nat.le_max_left _ _⟩
    · have := ty_lo1_ok l o ho
      exact ⟨Nat.le_trans (Nat.min_le_right _ _) this.1, Nat.le_trans this.2 (Nat.le_max_right _ _)⟩
noncomputable def ty_k1 (o : List ix_V × ty_W) : Nat := match o.1 with
  | [] => 0
  | v :: r => cond r.isEmpty (match v with
    | .inl b => cond (Nat.beq b 4294967295) 1 (cond (Nat.beq b 4294967296) 2 (cond (Nat.beq b 4294967297) 3 4))
    | .inr (.inl _) => 5
    | .inr (.inr (.inl _)) => 6
    | .inr (.inr (.inr _)) => 4) 6
/-- several outcomes made one -/
noncomputable def ty_jn (h : ty_H) (W : ty_W) (l : List (List ix_V × ty_W)) : Option (List ix_V × ty_W) := cond (l.all (fun o => (List.range W.2.2.1.1).all (fun p => Nat.beq (ix_g o.2.2.2.1.2 p) (ix_g W.2.2.1.2 p)))) (cond (l.all (fun o => o.1.isEmpty)) (some ([], (W.1, (W.2.1, (W.2.2.1, (W.2.2.2.1, ty_cf h W l)))))) (cond (l.all (fun o => match o.1 with
    | [v] => ty_isI v
    | _ => false)) (match ty_fr (ty_lo1 l) (ty_hi1 l) W.1 with
    | some (v, A) => some ([v], (A, (W.2.1, (W.2.2.1, (W.2.2.2.1, ty_cf h W l)))))
    | none => none) (cond (l.all (fun o => match o.1 with
    | [v] => ix_isLong v
    | _ => false)) (some ([.inr (.inl 0)], (W.1, (W.2.1, (W.2.2.1, (W.2.2.2.1, ty_cf h W l)))))) none))) none
theorem ty_jn_ok {W : ty_W} {l : List (List ix_V × ty_W)} {j o : List ix_V × ty_W} {σ0 σ : ty_Sg} {n n0 : Nat} {t t0 : ix_T} {rs : List ix_V} (he : ty_jn h W l = some j) (ho : o ∈ l) (h0 : ty_wk h σ0 W n0 t0) (hmo : ty_mo W o.2) (ha : ty_agr (ty_k h W) σ0 σ) (hw : ty_wk h σ o.2 n t) (hv : ty_vs (ty_k h o.2) σ o.1 rs) : ∃ σ', ty_mo W j.2 ∧ ty_agr (ty_k h W) σ0 σ' ∧ ty_wk h σ' j.2 n t ∧ ty_vs (ty_k h j.2) σ' j.1 rs := by
  unfold ty_jn at he
  cases c1 : l.all (fun o => (List.range W.2.2.1.1).all (fun p => Nat.beq (ix_g o.2.2.2.1.2 p) (ix_g W.2.2.1.2 p))) with
  | false => rw [c1] at he; cases he
  | true =>
    rw [c1, cond_true] at he
    have k6 := ty_k6 h0
    have k7 := ty_k6 hw
    obtain ⟨A, Lg, R, Q, X⟩ := W
    have hb : ty_agr (ty_k h (A, (Lg, (R, (Q, X))))) (σ0.1, (σ0.2.1, (σ.2.2.1, σ.2.2.2))) σ := ⟨ha.1, ha.2.1, ty_ag.rf, fun _ _ => rfl⟩
    have hb0 : ty_agr (ty_k h (A, (Lg, (R, (Q, X))))) σ0 (σ0.1, (σ0.2.1, (σ.2.2.1, σ.2.2.2))) := ⟨ty_ag.rf, ty_ag.rf, ha.2.2⟩
    have base : ty_wk h (σ0.1, (σ0.2.1, (σ.2.2.1, σ.2.2.2))) (A, (Lg, (R, (Q, ty_cf h (A, (Lg, (R, (Q, X)))) l)))) n t := by
      refine ⟨h0.1, h0.2.1, ⟨hw.2.2.1.1, hw.2.2.1.2.1, hw.2.2.1.2.2.1, hw.2.2.1.2.2.2.1, hw.2.2.1.2.2.2.2.1, hw.2.2.1.2.2.2.2.2.1, hw.2.2.1.2.2.2.2.2.2.1.ga ha.2.1, hw.2.2.1.2.2.2.2.2.2.2⟩, ⟨h0.2.2.2.1.1, fun p hp => ?_⟩, h0.2.2.2.2.1, fun f hf => ?_⟩
      · have hp' : p < R.1 := hp
        have := hw.2.2.2.1.2 p (Nat.lt_of_lt_of_le hp' hmo.2.2)
        have e := ix_beq.mp (List.all_eq_true.mp (List.all_eq_true.mp c1 o ho) p (List.mem_range.mpr hp'))
        rw [e] at this
        exact this
      · obtain ⟨f1, f2⟩ := ty_cf_ok hf
        exact (hw.2.2.2.2.2 f (f2 o ho)).dn2 f1 hb k6 k7
    cases c2 : l.all (fun o => o.1.isEmpty) with
    | true =>
      rw [c2, cond_true] at he
      cases he
      have e : o.1 = [] := List.isEmpty_iff.mp (List.all_eq_true.mp c2 o ho)
      rw [e] at hv
      have e2 := ty_vs_0 hv
      subst e2
      exact ⟨_, ty_mo.rf, hb0, base, trivial⟩
    | false =>
      rw [c2, cond_false] at he
      cases c3 : l.all (fun o => match o.1 with
          | [v] => ty_isI v
          | _ => false) with
      | true =>
        rw [c3, cond_true] at he
        split at he
        · rename_i v A' hfr
          cases he
          have hz := List.all_eq_true.mp c3 o ho
          obtain ⟨os, oW⟩ := o
          dsimp only at hz hv
          split at hz
          · rename_i u
            obtain ⟨x, xs, rfl, x1, x2⟩ := ty_vs_1 hv
            have e3 := ty_vs_0 x2
            subst e3
            obtain ⟨m, rfl, hm⟩ := x1.toint hz
            have r : (ty_rng oW.1 u).1 ≤ ty_kp m ∧ ty_kp m ≤ (ty_rng oW.1 u).2 := ty_rng_ok hw.1 hm
            have lh := ty_lo1_ok l _ ho
            have lh1 : ty_lo1 l ≤ (ty_rng oW.1 u).1 := lh.1
            have lh2 : (ty_rng oW.1 u).2 ≤ ty_hi1 l := lh.2
            obtain ⟨s, s1, s2, s3, s4⟩ := ty_fr_ok h0.1 hfr hm.1 (by omega) (by omega)
            obtain ⟨g1, g2, g3⟩ := ty_wk.boxes base s1 s2 s3
            exact ⟨_, g3, hb0.tr g2 ty_kl.rf, g1, ⟨ty_rv.int s4, trivial⟩⟩
          · cases hz
        · cases he
      | false =>
        rw [c3, cond_false] at he
        cases c4 : l.all (fun o => match o.1 with
          | [v] => ix_isLong v
          | _ => false) with
        | false => rw [c4] at he; cases he
        | true =>
          rw [c4, cond_true] at he
          cases he
          have hz := List.all_eq_true.mp c4 o ho
          obtain ⟨os, oW⟩ := o
          dsimp only at hz hv
          split at hz
          · rename_i u
            obtain ⟨x, xs, rfl, x1, x2⟩ := ty_vs_1 hv
            have e3 := ty_vs_0 x2
            subst e3
            rcases u with b | q | r | y
            · cases hz
            · obtain ⟨m, rfl, hm⟩ := x1
              exact ⟨_, ty_mo.rf, hb0, base, ⟨⟨m, rfl, hm.1, Or.inl rfl⟩, trivial⟩⟩
            · cases hz
            · cases hz
          · cases hz
noncomputable def ty_mg (h : ty_H) (W : ty_W) (outs : List (List ix_V × ty_W)) : List (List ix_V × ty_W) := (List.range 7).flatMap (fun k => match outs.filter (fun o => Nat.beq (ty_k1 o) k) with
  | g => cond (Nat.ble g.length 1) g (match ty_jn h W g with
    | some j => [j]
    | none => g))
theorem ty_k1_lt (o : List ix_V × ty_W) : ty_k1 o < 7 := by
  obtain ⟨s, W⟩ := o
  rcases s with _ | ⟨v, r⟩
  · show 0 < 7
    decide
  · rcases r with _ | ⟨u, r⟩
    · rcases v with b | q | r | y
      · show cond (Nat.beq b 4294967295) 1 (cond (Nat.beq b 4294967296) 2 (cond (Nat.beq b 4294967297) 3 4)) < 7
        cases Nat.beq b 4294967295 <;> cases Nat.beq b 4294967296 <;> cases Nat.beq b 4294967297 <;> decide
      · show 5 < 7
        decide
      · show 6 < 7
        decide
      · show 4 < 7
        decide
    · show 6 < 7
      decide
theorem ty_mg_ok : ty_MG h (ty_mg h) := by
  intro W outs o σ0 σ n t rs hm h0 h1 h2 h3 h4
  obtain ⟨n0, t0, h0⟩ := h0
  have hg : o ∈ outs.filter (fun q => Nat.beq (ty_k1 q) (ty_k1 o)) := List.mem_filter.mpr ⟨hm, ix_beq.mpr rfl⟩
  have hin : ∀ q, q ∈ cond (Nat.ble (outs.filter (fun q => Nat.beq (ty_k1 q) (ty_k1 o))).length 1) (outs.filter (fun q => Nat.beq (ty_k1 q) (ty_k1 o))) (match ty_jn h W (outs.filter (fun q => Nat.beq (ty_k1 q) (ty_k1 o))) with
      | some j => [j]
      | none => outs.filter (fun q => Nat.beq (ty_k1 q) (ty_k1 o))) → q ∈ ty_mg h W outs := fun q hq => List.mem_flatMap.mpr ⟨ty_k1 o, List.mem_range.mpr (ty_k1_lt o), hq⟩
  cases hc : Nat.ble (outs.filter (fun q => Nat.beq (ty_k1 q) (ty_k1 o))).length 1 with
  | true => exact ⟨o, hin o (by rw [hc]; exact hg), σ, h1, h2, h3, h4⟩
  | false =>
    cases hj : ty_jn h W (outs.filter (fun q => Nat.beq (ty_k1 q) (ty_k1 o))) with
    | none => exact ⟨o, hin o (by rw [hc, hj]; exact hg), σ, h1, h2, h3, h4⟩
    | some j =>
      obtain ⟨σ', g1, g2, g3, g4⟩ := ty_jn_ok hj hg h0 h1 h2 h3 h4
      exact ⟨j, hin j (by rw [hc, hj]; exact List.mem_cons_self), σ', g1, g2, g3, g4⟩
end TYJN
