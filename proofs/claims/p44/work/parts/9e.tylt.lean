/-! 'go' lies before its text's end where no end may stand; a rest lies below what it is divided by -/
section TYLT
variable {h : ty_H} {cp : Nat × Nat} {pc : Nat}
noncomputable def ty_ltf (W : ty_W) : Option ty_W := match ty_find W.1 79 (.inl 4294967322) W.2.2.2.2 with
  | some v => cond (ty_isI v) (match ty_lfd 0 W.1 v W.2.2.2.2 with
    | some l => cond ((tx_cls l).all (fun q => Nat.blt 0 q.1)) ((ty_bset W.1 v 4294967296 4294970095).map (fun A => (A, W.2))) (some W)
    | none => some W) (some W)
  | none => some W
theorem ty_ltf_ok {σ : ty_Sg} {W : ty_W} {n : Nat} {t : ix_T} (hw : ty_wk h σ W n t) : ∃ W', ty_ltf W = some W' ∧ ty_wk h σ W' n t ∧ ty_k h W' = ty_k h W := by
  unfold ty_ltf
  split
  · rename_i v hv
    cases hI : ty_isI v with
    | false => exact ⟨W, rfl, hw, rfl⟩
    | true =>
      dsimp only [cond_true]
      split
      · rename_i l hl
        cases hc : (tx_cls l).all (fun q => Nat.blt 0 q.1) with
        | false => exact ⟨W, rfl, hw, rfl⟩
        | true =>
          obtain ⟨m, m1, m2⟩ := (ty_fslot (k := 26) hw (by decide) (by decide) hv).toint hI
          obtain ⟨q0, q1, q2, q3⟩ := ty_lfd_ok (k2 := (ty_k h W).2) hw.1 m2 W.2.2.2.2 hw.2.2.2.2.2 hl
          unfold ty_lab at q3
          rw [q1, q2] at q3
          obtain ⟨e28, acc⟩ := q3
          obtain ⟨l', a1, _⟩ := acc.step
          obtain ⟨⟨qc, b1, b2, _⟩, _⟩ := tx_de_ok a1
          have b4 := ix_blt.mp (List.all_eq_true.mp hc qc b1)
          have hme : m < tx_n t 79 27 := by
            by_cases q : m < tx_n t 79 27
            · exact q
            · exfalso
              unfold tx_k at b2
              rw [if_neg q] at b2
              have b5 : qc.1 ≤ 0 := b2
              omega
          have km := ty_kp_eq m
          have mlt := m2.1
          obtain ⟨A1, z1, z2, z3⟩ := ty_bset_ok (lo := 4294967296) (hi := 4294970095) hw.1 m2 (by omega) (by omega)
          obtain ⟨A, W2⟩ := W
          have kk : ty_k h (A1, W2) = ty_k h (A, W2) := by show (A1.1, _) = (A.1, _); rw [show A1.1 = A.1 from z2]
          have z1' : ty_bset A v 4294967296 4294970095 = some A1 := z1
          refine ⟨(A1, W2), ?_, hw.set z2 z3, kk⟩
          dsimp only [cond_true]
          rw [z1']
          rfl
      · exact ⟨W, rfl, hw, rfl⟩
  · exact ⟨W, rfl, hw, rfl⟩
noncomputable def ty_lti (a : ty_S → ty_R) : ty_S → ty_R := fun S => match a S with
  | none => none
  | some outs => some (outs.filterMap (fun o => (ty_ltf o.2.1).map (fun W => (o.1, (W, o.2.2)))))
theorem ts_lti {f : Nat → ix_S → ix_R} {a : ty_S → ty_R} (ha : ty_sd h cp pc f a) : ty_sd h cp pc f (ty_lti a) := by
  intro S outs hs σ C hi
  unfold ty_lti at hs
  split at hs
  · cases hs
  · rename_i o1 h1
    cases hs
    obtain ⟨o, om, σ', C', m1, g1, i1, s1⟩ := ha S o1 h1 σ C hi
    obtain ⟨p, W, L, st, w⟩ := o
    obtain ⟨ls, stk, n, t, ce, sl⟩ := C'
    obtain ⟨W', e1, w1, k1⟩ := ty_ltf_ok i1.1
    exact ⟨(p, (W', L, st, w)), List.mem_filterMap.mpr ⟨_, om, by
      show (ty_ltf W).map _ = _
      rw [e1]
      rfl⟩, σ', (ls, stk, n, t, ce, sl), m1.tr (ty_mo_k k1), g1, ty_in.cd w1 k1 i1.2.1 i1.2.2.1 i1.2.2.2, s1⟩
/-- a rest -/
noncomputable def ty_irm (nx : Nat) : ty_S → ty_R
  | (W, L, b :: a :: st, w) => cond (ty_isI b && (ty_isI a && (Nat.blt 4294967296 (ty_rng W.1 b).1 && Nat.ble 4294967296 (ty_rng W.1 a).1))) (match ty_fr 4294967296 (Nat.pred (ty_rng W.1 b).2) W.1 with
    | some (v, A) => some [(nx, ((A, (W.2.1, (W.2.2.1, (ty_qa A v b 1 W.2.2.2.1, W.2.2.2.2)))), L, v :: st, w))]
    | none => none) none
  | _ => none
theorem ty_rem_nn {m n : Nat} (hm : m < 2147483648) (hn : n < 2147483648) : ix_rem m n = m % n := by
  unfold ix_rem
  have d1 : (Nat.blt m ix_h32 && Nat.blt n ix_h32) = true := by
    rw [ix_blt.mpr (show m < ix_h32 from hm), ix_blt.mpr (show n < ix_h32 from hn)]
    rfl
  rw [d1]
  rfl
theorem ts_irm {p nx : Nat} : ty_sd h cp pc (fun _ => ix_idiv ix_rem p nx) (ty_irm nx) := by
  intro S outs hs σ C hi
  obtain ⟨W, L, st, w⟩ := S
  obtain ⟨ls, stk, n, t, ce, sl⟩ := C
  unfold ty_irm at hs
  split at hs
  · rename_i W0 L0 b a st0 w0 e0
    cases e0
    cases hc : (ty_isI b && (ty_isI a && (Nat.blt 4294967296 (ty_rng W.1 b).1 && Nat.ble 4294967296 (ty_rng W.1 a).1))) with
    | false => rw [hc] at hs; cases hs
    | true =>
      rw [hc] at hs
      dsimp only [cond_true] at hs
      have c1 := Bool.and_eq_true_iff.mp hc
      have c2 := Bool.and_eq_true_iff.mp c1.2
      have c3 := Bool.and_eq_true_iff.mp c2.2
      split at hs
      · rename_i v A hv
        cases hs
        obtain ⟨x, stk', e, x2, x3⟩ := ty_vs_1 hi.2.2.1
        obtain ⟨y, stk2, e2, y2, y3⟩ := ty_vs_1 x3
        have e' : stk = x :: y :: stk2 := by rw [← e2]; exact e
        subst e'
        obtain ⟨nb, rfl, hb⟩ := x2.toint c1.1
        obtain ⟨na, rfl, ha⟩ := y2.toint c2.1
        have rb : (ty_rng W.1 b).1 ≤ ty_kp nb ∧ ty_kp nb ≤ (ty_rng W.1 b).2 := ty_rng_ok hi.1.1 hb
        have ra : (ty_rng W.1 a).1 ≤ ty_kp na ∧ ty_kp na ≤ (ty_rng W.1 a).2 := ty_rng_ok hi.1.1 ha
        have g1 := ix_blt.mp c3.1
        have g2 := ix_ble.mp c3.2
        have kb := ty_kp_eq nb
        have ka := ty_kp_eq na
        have lb := hb.1
        have la := ha.1
        have hb0 : 0 < nb ∧ nb < 2147483648 := by omega
        have ha0 : na < 2147483648 := by omega
        have er := ty_rem_nn ha0 hb0.2
        have hlt : na % nb < nb := Nat.mod_lt _ hb0.1
        have kr := ty_kp_nn (n := na % nb) (by omega)
        have kb2 := ty_kp_nn hb0.2
        rw [← er] at kr hlt
        have hm : ix_rem na nb < 4294967296 := by omega
        obtain ⟨s, s1, s2, s3, s4⟩ := ty_fr_ok hi.1.1 hv hm (by omega) (show ty_kp (ix_rem na nb) ≤ Nat.pred (ty_rng W.1 b).2 by show _ ≤ (ty_rng W.1 b).2 - 1; omega)
        obtain ⟨B, Lg, R, Q, X⟩ := W
        obtain ⟨w1, w2, w3⟩ := ty_wk.boxes hi.1 s1 s2 s3
        have hq := ty_qa_ok (j := 1) s3 s4 (hb.ag s1 s2) (by omega) w1.2.2.2.2.1
        refine ty_sd1 w3 w2 (C' := (ls, .inl (ix_rem na nb) :: stk2, n, t, ce, sl)) ⟨w1.q hq, hi.2.1.ag w2 w3.k, ⟨ty_rv.int s4, y3.ag w2 w3.k⟩, hi.2.2.2.ag w2⟩ (fun g => ?_)
        show cond (Nat.beq nb 0) none (some [(nx, ([], ls, ix_vI (ix_rem na nb) :: stk2, n, t, ce, sl))]) = _
        rw [ix_beq_f.mpr (by omega)]
        rfl
      · cases hs
  · cases hs
end TYLT
