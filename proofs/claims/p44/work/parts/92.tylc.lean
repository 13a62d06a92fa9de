/-! longs compared; the greater and the lesser of two ints; Object's constructor -/
section TYL
variable {h : ty_H} {cp : Nat × Nat} {pc : Nat}
/-- a long lies between two numbers: the boxes then, if that can be -/
noncomputable def ty_jset (A : ty_A) (q lo hi : Nat) : Option ty_A := cond (Nat.blt q 18446744073709551617) (some A) (match Nat.max (ix_g A.2 (Nat.sub q 18446744073709551617)).1 lo, Nat.min (ix_g A.2 (Nat.sub q 18446744073709551617)).2 hi with
  | l, u => cond (Nat.ble l u) (some (A.1, ix_u 8 A.2 (Nat.sub q 18446744073709551617) (l, u))) none)
theorem ty_bl_set {σ : Nat → Nat} {A : ty_A} {x l u : Nat} (hA : ty_bl σ A) (hx : x < A.1) (h1 : (ix_g A.2 x).1 ≤ l) (h2 : l ≤ σ x) (h3 : σ x ≤ u) (h4 : u ≤ (ix_g A.2 x).2) : ty_bl σ (A.1, ix_u 8 A.2 x (l, u)) := by
  refine ⟨hA.1, fun y hy => ?_⟩
  have hA1 := hA.1
  have hy2 : y < A.1 := hy
  show 9223372036854775808 ≤ (ix_g (ix_u 8 A.2 x (l, u)) y).1 ∧ (ix_g (ix_u 8 A.2 x (l, u)) y).1 ≤ σ y ∧ σ y ≤ (ix_g (ix_u 8 A.2 x (l, u)) y).2 ∧ (ix_g (ix_u 8 A.2 x (l, u)) y).2 < 27670116110564327424
  rw [ix_gu 8 A.2 x y (l, u) (by show x < 256; omega) (by show y < 256; omega)]
  by_cases e : y = x
  · rw [if_pos e]
    subst e
    have := hA.2 y hy2
    exact ⟨Nat.le_trans this.1 h1, h2, h3, Nat.lt_of_le_of_lt h4 this.2.2.2⟩
  · rw [if_neg e]
    exact hA.2 y hy2
theorem ty_jset_ok {σ : Nat → Nat} {A : ty_A} {q lo hi m : Nat} (hA : ty_bl σ A) (hq : ty_jv A.1 σ q m) (h1 : lo ≤ ty_kj m) (h2 : ty_kj m ≤ hi) : ∃ A', ty_jset A q lo hi = some A' ∧ A'.1 = A.1 ∧ ty_bl σ A' := by
  unfold ty_jset
  have hm := hq.1
  cases hc : Nat.blt q 18446744073709551617 with
  | true => exact ⟨A, rfl, rfl, hA⟩
  | false =>
    have hge := ix_blt_f.mp hc
    rcases hq.2 with e | e | ⟨x, x1, x2, x3⟩
    · omega
    · omega
    · have e : Nat.sub q 18446744073709551617 = x := by
        rw [x2]; exact Nat.add_sub_cancel_left _ _
      rw [cond_false, e]
      have hb := hA.2 x x1
      have ek : ty_kj m = σ x := by
        rw [ty_kj_eq, x3]
        omega
      obtain ⟨l, hl⟩ : ∃ l, Nat.max (ix_g A.2 x).1 lo = l := ⟨_, rfl⟩
      obtain ⟨u, hu⟩ : ∃ u, Nat.min (ix_g A.2 x).2 hi = u := ⟨_, rfl⟩
      have l1 : (ix_g A.2 x).1 ≤ l := by rw [← hl]; exact Nat.le_max_left _ _
      have l2 : l ≤ σ x := by rw [← hl]; exact Nat.max_le.mpr ⟨hb.2.1, by omega⟩
      have u1 : u ≤ (ix_g A.2 x).2 := by rw [← hu]; exact Nat.min_le_left _ _
      have u2 : σ x ≤ u := by rw [← hu]; exact Nat.le_min.mpr ⟨hb.2.2.1, by omega⟩
      rw [hl, hu]
      refine ⟨(A.1, ix_u 8 A.2 x (l, u)), ?_, rfl, ty_bl_set hA x1 l1 l2 u2 u1⟩
      show cond (Nat.ble l u) (some (A.1, ix_u 8 A.2 x (l, u))) none = _
      rw [ix_ble.mpr (by omega)]
      rfl
noncomputable def ty_j2 (A : ty_A) (a b la ha lb hb : Nat) : Option ty_A := match ty_jset A a la ha with
  | some A1 => ty_jset A1 b lb hb
  | none => none
theorem ty_j2_ok {σ : Nat → Nat} {A : ty_A} {a b la ha lb hb m n : Nat} (hA : ty_bl σ A) (ia : ty_jv A.1 σ a m) (ib : ty_jv A.1 σ b n) (h1 : la ≤ ty_kj m) (h2 : ty_kj m ≤ ha) (h3 : lb ≤ ty_kj n) (h4 : ty_kj n ≤ hb) : ∃ A', ty_j2 A a b la ha lb hb = some A' ∧ A'.1 = A.1 ∧ ty_bl σ A' := by
  obtain ⟨A1, e1, k1, b1⟩ := ty_jset_ok hA ia h1 h2
  obtain ⟨A2, e2, k2, b2⟩ := ty_jset_ok b1 (by rw [k1]; exact ib) h3 h4
  exact ⟨A2, by unfold ty_j2; rw [e1]; exact e2, k2.trans k1, b2⟩
noncomputable def ty_lo (nx v : Nat) (S : ty_S) (o : Option ty_A) : List (Nat × ty_S) := match o with
  | some A => [(nx, ((S.1.1, (A, S.1.2.2)), S.2.1, .inl v :: S.2.2.1, S.2.2.2))]
  | none => []
noncomputable def ty_lcmp (nx : Nat) : ty_S → ty_R
  | (W, L, .inr (.inl b) :: .inr (.inl a) :: st, w) => some (ty_lo nx 4294967295 (W, L, st, w) (ty_j2 W.2.1 a b 0 (Nat.pred (ty_jr W.2.1 b).2) (Nat.succ (ty_jr W.2.1 a).1) 27670116110564327423) ++ (ty_lo nx 4294967296 (W, L, st, w) (ty_j2 W.2.1 a b (ty_jr W.2.1 b).1 (ty_jr W.2.1 b).2 (ty_jr W.2.1 a).1 (ty_jr W.2.1 a).2) ++ ty_lo nx 4294967297 (W, L, st, w) (ty_j2 W.2.1 a b (Nat.succ (ty_jr W.2.1 b).1) 27670116110564327423 0 (Nat.pred (ty_jr W.2.1 a).2))))
  | _ => none
theorem ty_lcmp_c {m n : Nat} (hm : m < 18446744073709551616) (hn : n < 18446744073709551616) : (lg_cmp (Int64.ofNat m) (Int64.ofNat n)).toBitVec.toNat = if ty_kj n < ty_kj m then 1 else if ty_kj m = ty_kj n then 0 else 4294967295 := by
  unfold lg_cmp
  by_cases h1 : ty_kj n < ty_kj m
  · rw [if_pos h1, if_pos (show Int64.ofNat m > Int64.ofNat n from (ty_kj_lt hn hm).mpr h1)]
    rfl
  · rw [if_neg h1, if_neg (show ¬ Int64.ofNat m > Int64.ofNat n from fun q => h1 ((ty_kj_lt hn hm).mp q))]
    by_cases h2 : ty_kj m = ty_kj n
    · rw [if_pos h2, if_pos (by rw [ty_kj_inj hm hn h2])]
      rfl
    · have hne : ¬ Int64.ofNat m = Int64.ofNat n := fun q => h2 (by
        have := congrArg (fun z : Int64 => z.toBitVec.toNat) q
        simp only [ix_tn64] at this
        rw [Nat.mod_eq_of_lt hm, Nat.mod_eq_of_lt hn] at this
        rw [this])
      rw [if_neg h2, if_neg hne]
      rfl
theorem ty_wk.lset {σ : ty_Sg} {A Lg L' : ty_A} {W : (Nat × Lean.RArray Nat) × (ty_Q × ty_X)} {n : Nat} {t : ix_T} (hw : ty_wk h σ (A, (Lg, W)) n t) (hk : L'.1 = Lg.1) (hb : ty_bl σ.2.1 L') : ty_wk h σ (A, (L', W)) n t := by
  obtain ⟨h1, h2, h3, h4, h5, h6⟩ := hw
  have ek : ty_k h (A, (L', W)) = ty_k h (A, (Lg, W)) := by show (A.1, (L'.1, _)) = (A.1, (Lg.1, _)); rw [hk]
  exact ⟨h1, hb, h3, h4, h5, fun f hf => by rw [ek]; exact h6 f hf⟩
theorem ts_lcmp {nx : Nat} : ty_sd h cp pc (fun _ => ix_lcmp nx) (ty_lcmp nx) := by
  intro S outs hs σ C hi
  obtain ⟨W, L, st, w⟩ := S
  obtain ⟨ls, stk, n, t, ce, sl⟩ := C
  rcases st with _ | ⟨b, _ | ⟨a, st⟩⟩
  · cases hs
  · rcases b with b | q | r | y <;> cases hs
  · rcases b with b | qb | r | y
    · cases hs
    · rcases a with a | qa | r | y
      · cases hs
      · obtain ⟨A, Lg, W3⟩ := W
        have ho := Option.some.inj (show some (ty_lo nx 4294967295 ((A, (Lg, W3)), L, st, w) (ty_j2 Lg qa qb 0 (Nat.pred (ty_jr Lg qb).2) (Nat.succ (ty_jr Lg qa).1) 27670116110564327423) ++ (ty_lo nx 4294967296 ((A, (Lg, W3)), L, st, w) (ty_j2 Lg qa qb (ty_jr Lg qb).1 (ty_jr Lg qb).2 (ty_jr Lg qa).1 (ty_jr Lg qa).2) ++ ty_lo nx 4294967297 ((A, (Lg, W3)), L, st, w) (ty_j2 Lg qa qb (Nat.succ (ty_jr Lg qb).1) 27670116110564327423 0 (Nat.pred (ty_jr Lg qa).2)))) = some outs from hs)
        obtain ⟨k, ws, e, m1, m2⟩ := ty_vs_j hi.2.2.1
        obtain ⟨m, ws', rfl, m1', m2'⟩ := ty_vs_j m2
        have e' : stk = _ := e
        subst e'
        have ra : (ty_jr Lg qa).1 ≤ ty_kj m ∧ ty_kj m ≤ (ty_jr Lg qa).2 := ty_jr_ok hi.1.2.1 m1'
        have rb : (ty_jr Lg qb).1 ≤ ty_kj k ∧ ty_kj k ≤ (ty_jr Lg qb).2 := ty_jr_ok hi.1.2.1 m1
        have tm := ty_kj_hi m
        have tk := ty_kj_hi k
        have hstep : ∀ g : Nat, ix_lcmp nx ([], ls, .inr (.inl k) :: .inr (.inl m) :: ws', n, t, ce, sl) = some [(nx, ([], ls, .inl (lg_cmp (Int64.ofNat m) (Int64.ofNat k)).toBitVec.toNat :: ws', n, t, ce, sl))] := fun _ => rfl
        have hcv := ty_lcmp_c m1'.1 m1.1
        have fin : ∀ (v u : Nat) (A' : ty_A), (lg_cmp (Int64.ofNat m) (Int64.ofNat k)).toBitVec.toNat = u → v = ty_kp u → u < 4294967296 → A'.1 = Lg.1 → ty_bl σ.2.1 A' → (nx, (((A, (A', W3)), L, .inl v :: st, w) : ty_S)) ∈ outs → ∃ o ∈ outs, ∃ σ' C', ty_mo (A, (Lg, W3)) o.2.1 ∧ ty_agr (ty_k h (A, (Lg, W3))) σ σ' ∧ ty_in h cp σ' o.2 C' ∧ ((o.1 = pc ∧ C' = (ls, .inr (.inl k) :: .inr (.inl m) :: ws', n, t, ce, sl)) ∨ ∃ f0 : Nat, ∀ g : Nat, f0 ≤ g → ix_lcmp nx ([], ls, .inr (.inl k) :: .inr (.inl m) :: ws', n, t, ce, sl) = some [(o.1, ([], C'))]) := by
          intro v u A' eu ev hu ek hbl hmem
          have kk : ty_k h (A, (A', W3)) = ty_k h (A, (Lg, W3)) := by show (A.1, (A'.1, _)) = (A.1, (Lg.1, _)); rw [ek]
          refine ⟨_, hmem, σ, (ls, .inl u :: ws', n, t, ce, sl), ty_mo_k kk, ty_agr.rf, ty_in.cd (hi.1.lset ek hbl) kk hi.2.1 ⟨⟨u, rfl, hu, ev⟩, m2'⟩ hi.2.2.2, Or.inr ⟨0, fun g _ => ?_⟩⟩
          rw [hstep g, eu]
        by_cases h1 : ty_kj k < ty_kj m
        · rw [if_pos h1] at hcv
          obtain ⟨A', e1, e2, e3⟩ := ty_j2_ok (la := Nat.succ (ty_jr Lg qb).1) (ha := 27670116110564327423) (lb := 0) (hb := Nat.pred (ty_jr Lg qa).2) hi.1.2.1 m1' m1 (by show (ty_jr Lg qb).1 + 1 ≤ _; omega) (by omega) (Nat.zero_le _) (by show _ ≤ (ty_jr Lg qa).2 - 1; omega)
          have e1' : ty_j2 Lg qa qb (Nat.succ (ty_jr Lg qb).1) 27670116110564327423 0 (Nat.pred (ty_jr Lg qa).2) = some A' := e1
          refine fin 4294967297 1 A' hcv rfl (by decide) e2 e3 ?_
          rw [← ho, e1']
          exact List.mem_append.mpr (Or.inr (List.mem_append.mpr (Or.inr List.mem_cons_self)))
        · rw [if_neg h1] at hcv
          by_cases h2 : ty_kj m = ty_kj k
          · rw [if_pos h2] at hcv
            obtain ⟨A', e1, e2, e3⟩ := ty_j2_ok (la := (ty_jr Lg qb).1) (ha := (ty_jr Lg qb).2) (lb := (ty_jr Lg qa).1) (hb := (ty_jr Lg qa).2) hi.1.2.1 m1' m1 (by omega) (by omega) (by omega) (by omega)
            have e1' : ty_j2 Lg qa qb (ty_jr Lg qb).1 (ty_jr Lg qb).2 (ty_jr Lg qa).1 (ty_jr Lg qa).2 = some A' := e1
            refine fin 4294967296 0 A' hcv rfl (by decide) e2 e3 ?_
            rw [← ho, e1']
            exact List.mem_append.mpr (Or.inr (List.mem_append.mpr (Or.inl List.mem_cons_self)))
          · rw [if_neg h2] at hcv
            obtain ⟨A', e1, e2, e3⟩ := ty_j2_ok (la := 0) (ha := Nat.pred (ty_jr Lg qb).2) (lb := Nat.succ (ty_jr Lg qa).1) (hb := 27670116110564327423) hi.1.2.1 m1' m1 (Nat.zero_le _) (by show _ ≤ (ty_jr Lg qb).2 - 1; omega) (by show (ty_jr Lg qa).1 + 1 ≤ _; omega) (by omega)
            have e1' : ty_j2 Lg qa qb 0 (Nat.pred (ty_jr Lg qb).2) (Nat.succ (ty_jr Lg qa).1) 27670116110564327423 = some A' := e1
            refine fin 4294967295 4294967295 A' hcv rfl (by decide) e2 e3 ?_
            rw [← ho, e1']
            exact List.mem_append.mpr (Or.inl List.mem_cons_self)
      · cases hs
      · cases hs
    · cases hs
    · cases hs
/-- Object's constructor -/
noncomputable def ty_obj (nx : Nat) : ty_S → ty_R
  | (W, L, .inr (.inr (.inl r)) :: st, w) => cond (Nat.ble (ix_cats st) 8 && Nat.blt 0 r) (some [(nx, (W, L, st, w))]) none
  | _ => none
theorem ts_obj {nx : Nat} : ty_sd h cp pc (fun _ => ix_obj nx) (ty_obj nx) := by
  intro S outs hs σ C hi
  obtain ⟨W, L, st, w⟩ := S
  obtain ⟨ls, stk, n, t, ce, sl⟩ := C
  rcases st with _ | ⟨a, st⟩
  · cases hs
  · rcases a with a | q | r | y
    · cases hs
    · cases hs
    · change cond (Nat.ble (ix_cats st) 8 && Nat.blt 0 r) (some [(nx, (W, L, st, w))]) none = some outs at hs
      cases hc : (Nat.ble (ix_cats st) 8 && Nat.blt 0 r) with
      | false => rw [hc] at hs; cases hs
      | true =>
        rw [hc] at hs
        cases hs
        have c := Bool.and_eq_true_iff.mp hc
        obtain ⟨x, ws, e, m1, m2⟩ := ty_vs_1 hi.2.2.1
        have e' : stk = _ := e
        subst e'
        obtain ⟨p, rfl, hp⟩ := m1.ref
        have hp0 : Nat.blt 0 p = true := by
          cases p with
          | zero =>
            cases r with
            | zero => cases c.2
            | succ r => cases hp
          | succ p => rfl
        have ec : ix_cats ws = ix_cats st := (ty_cats st ws 0 m2).symm
        refine ty_sd1 ty_mo.rf ty_agr.rf (C' := (ls, ws, n, t, ce, sl)) ⟨hi.1, hi.2.1, m2, hi.2.2.2⟩ (fun g => ?_)
        show cond (Nat.ble (ix_cats ws) 8 && Nat.blt 0 p) (some [(nx, ([], ls, ws, n, t, ce, sl))]) none = _
        rw [ec, c.1, hp0]
        rfl
    · cases hs
end TYL
