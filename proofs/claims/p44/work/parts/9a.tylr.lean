/-! rows that read a text's tokens by their labels -/
section TYLR
variable {h : ty_H} {cp : Nat × Nat} {pc : Nat}
noncomputable def ty_lnw (q : Nat × (Nat × Nat)) (k : ix_V) (X : ty_X) : ty_X := cond (!(Nat.beq (tx_rc q.1 q.2.1) 9999)) (((113, .inr (.inl (Nat.mul 4 (tx_R (tx_rc q.1 q.2.1) q.2.2)))), k) :: ((113, .inr (.inl (Nat.mul 4 q.2.2))), ty_inc k) :: X) (((113, .inr (.inl (Nat.mul 4 q.2.2))), ty_inc k) :: X)
noncomputable def ty_lcs (nx : Nat) (W : ty_W) (L : ix_L) (st : List ix_V) (w : Nat × Nat) (k : ix_V) : tx_C → ty_R
  | [] => some []
  | q :: r => (match ty_lcs nx W L st w k r with
    | none => none
    | some outs => cond (Nat.blt 0 q.1 && (Nat.blt q.2.1 999 && Nat.blt q.2.2 100000)) (match ty_fr (Nat.add 4294967296 q.1) (Nat.add 4294967296 q.2.1) W.1 with
      | some (v, A) => some ((nx, ((A, (W.2.1, (W.2.2.1, (W.2.2.2.1, ty_lnw q k W.2.2.2.2)))), L, v :: st, w)) :: outs)
      | none => none) (cond (Nat.beq q.2.1 0) (some outs) none))
theorem ty_lcs_mem {nx : Nat} {W : ty_W} {L : ix_L} {st : List ix_V} {w : Nat × Nat} {k : ix_V} : ∀ (r : tx_C) (outs : List (Nat × ty_S)), ty_lcs nx W L st w k r = some outs → ∀ q ∈ r, (q.2.1 = 0) ∨ (0 < q.1 ∧ q.2.1 < 999 ∧ q.2.2 < 100000 ∧ ∃ v A, ty_fr (Nat.add 4294967296 q.1) (Nat.add 4294967296 q.2.1) W.1 = some (v, A) ∧ (nx, ((A, (W.2.1, (W.2.2.1, (W.2.2.2.1, ty_lnw q k W.2.2.2.2)))), L, v :: st, w)) ∈ outs)
  | [], outs, _, q, hq => by cases hq
  | p :: r, outs, he, q, hq => by
    change (match ty_lcs nx W L st w k r with
    | none => none
    | some outs => cond (Nat.blt 0 p.1 && (Nat.blt p.2.1 999 && Nat.blt p.2.2 100000)) (match ty_fr (Nat.add 4294967296 p.1) (Nat.add 4294967296 p.2.1) W.1 with
      | some (v, A) => some ((nx, ((A, (W.2.1, (W.2.2.1, (W.2.2.2.1, ty_lnw p k W.2.2.2.2)))), L, v :: st, w)) :: outs)
      | none => none) (cond (Nat.beq p.2.1 0) (some outs) none)) = some outs at he
    split at he
    · cases he
    · rename_i o1 h1
      have IH := ty_lcs_mem r o1 h1
      cases hc : (Nat.blt 0 p.1 && (Nat.blt p.2.1 999 && Nat.blt p.2.2 100000)) with
      | true =>
        rw [hc, cond_true] at he
        have c1 := Bool.and_eq_true_iff.mp hc
        have c2 := Bool.and_eq_true_iff.mp c1.2
        split at he
        · rename_i v A hf
          cases he
          rcases List.mem_cons.mp hq with rfl | hq
          · exact Or.inr ⟨ix_blt.mp c1.1, ix_blt.mp c2.1, ix_blt.mp c2.2, v, A, hf, List.mem_cons_self⟩
          · rcases IH q hq with z | ⟨z1, z2, z3, v', A', z4, z5⟩
            · exact Or.inl z
            · exact Or.inr ⟨z1, z2, z3, v', A', z4, List.mem_cons_of_mem _ z5⟩
        · cases he
      | false =>
        rw [hc, cond_false] at he
        cases hz : Nat.beq p.2.1 0 with
        | false => rw [hz] at he; cases he
        | true =>
          rw [hz] at he
          cases he
          rcases List.mem_cons.mp hq with rfl | hq
          · exact Or.inl (ix_beq.mp hz)
          · exact IH q hq
theorem tx_lab4 (l : Nat) : (Nat.mul 4 l) % 4 = 0 ∧ (Nat.mul 4 l) / 4 = l := by
  have e : Nat.mul 4 l = 4 * l := rfl
  omega
/-- a code is read where the text hasn't ended -/
noncomputable def ty_lald (h : ty_H) (nx : Nat) : ty_S → ty_R
  | (W, L, j :: .inr (.inr (.inl r)) :: st, w) => (match L[1]? with
    | some (some k) => (match ty_lfd 0 W.1 k W.2.2.2.2, ty_find W.1 79 (.inl 4294967323) W.2.2.2.2 with
      | some l, some g => cond (Nat.beq r 82 && (ty_isI k && (ty_isI g && (ty_isI j && (Nat.ble 4294967296 (ty_rng W.1 k).1 && (ty_le W.1 W.2.2.2.1 k g 1 && (ty_off W.1 k j 200 && (Nat.ble 5800 (h.2 81).2.1 && (Nat.beq (h.2 81).1 0 && Nat.beq (ix_g (h.2 81).2.2.2.1 0).1 0))))))))) (match ty_bset W.1 k 4294967296 4294970095 with
        | some A => ty_lcs nx (A, W.2) L st w k (tx_cls l)
        | none => some []) none
      | _, _ => none)
    | _ => none)
  | _ => none
theorem ts_lald {O : ix_O} {p nx : Nat} : ty_sd h cp pc (fun _ => ix_iald O p nx) (ty_lald h nx) := by
  intro S outs hs σ C hi
  obtain ⟨W, L, st, w⟩ := S
  obtain ⟨ls, stk, n, t, ce, sl⟩ := C
  unfold ty_lald at hs
  split at hs
  · rename_i W0 L0 j r st0 w0 e0
    cases e0
    split at hs
    · rename_i k hk
      split at hs
      · rename_i l g hl hg
        cases hc : (Nat.beq r 82 && (ty_isI k && (ty_isI g && (ty_isI j && (Nat.ble 4294967296 (ty_rng W.1 k).1 && (ty_le W.1 W.2.2.2.1 k g 1 && (ty_off W.1 k j 200 && (Nat.ble 5800 (h.2 81).2.1 && (Nat.beq (h.2 81).1 0 && Nat.beq (ix_g (h.2 81).2.2.2.1 0).1 0))))))))) with
        | false => rw [hc] at hs; cases hs
        | true =>
          rw [hc, cond_true] at hs
          have c1 := Bool.and_eq_true_iff.mp hc
          have c2 := Bool.and_eq_true_iff.mp c1.2
          have c3 := Bool.and_eq_true_iff.mp c2.2
          have c4 := Bool.and_eq_true_iff.mp c3.2
          have c5 := Bool.and_eq_true_iff.mp c4.2
          have c6 := Bool.and_eq_true_iff.mp c5.2
          have c7 := Bool.and_eq_true_iff.mp c6.2
          have c8 := Bool.and_eq_true_iff.mp c7.2
          have c9 := Bool.and_eq_true_iff.mp c8.2
          have er := ix_beq.mp c1.1
          subst er
          obtain ⟨x, stk', e, x2, x3⟩ := ty_vs_1 hi.2.2.1
          obtain ⟨y, stk2, e2, y2, y3⟩ := ty_vs_1 x3
          have e' : stk = x :: y :: stk2 := by rw [← e2]; exact e
          subst e'
          have hh := hi.1.2.2.1
          have e114 := hh.2.2.2.2.2.1.1
          have hy := ty_named hi.1 y2 (show 81 < h.1 + W.2.2.1.1 by omega)
          rw [hh.2.2.1 81 (by omega)] at hy
          subst hy
          obtain ⟨mj, rfl, hmj⟩ := x2.toint c4.1
          obtain ⟨wk, k1, k2⟩ := hi.2.1.2 1 k hk
          obtain ⟨m, rfl, hm⟩ := k2.toint c2.1
          obtain ⟨ge, e1, e2⟩ := (ty_fslot (k := 27) hi.1 (by decide) (by decide) hg).toint c3.1
          obtain ⟨q0, q1, q2, q3⟩ := ty_lfd_ok (k2 := (ty_k h W).2) hi.1.1 hm W.2.2.2.2 hi.1.2.2.2.2.2 hl
          unfold ty_lab at q3
          rw [q1, q2] at q3
          have en : tx_n t 79 27 = ge := by unfold tx_n; rw [e1]
          rw [en] at q3
          have hle := ty_le_ok hi.1.1 hi.1.2.2.2.2.1 hm e2 c6.1
          have rk : (ty_rng W.1 k).1 ≤ ty_kp m ∧ ty_kp m ≤ (ty_rng W.1 k).2 := ty_rng_ok hi.1.1 hm
          have hn0 : h.1 ≤ n := hh.1
          have hlo := ix_ble.mp c5.1
          have km := ty_kp_eq m
          have ke := ty_kp_eq ge
          have mlt := hm.1
          have e28 := q3.1
          have hme : m < ge := by omega
          have hoff := ty_off_ok hi.1.1 c7.1 hm hmj
          have ej : mj = 200 + m := by omega
          subst ej
          have h81 : 81 < n := by omega
          have hcok : ty_cok σ.2.2.2 n (h.2 81) (ix_g t 81) := by
            have z : ty_cok σ.2.2.2 n (h.2 (σ.2.2.2 81)) (ix_g t 81) := hh.2.2.2.1 81 h81
            rw [(hh.2.2.2.2.1 81 h81).1 (by omega)] at z
            exact z
          have hlen : 200 + m < (ix_g t 81).2.1 := by have := hcok.2.1; have := ix_ble.mp c8.1; omega
          have hs1 := (hcok.2.2.2 (200 + m) hlen).2.1 (by have := ix_beq.mp c9.1; omega)
          unfold ty_sok at hs1
          rw [ix_beq.mp c9.2] at hs1
          obtain ⟨cd, d1, d2, _, _⟩ := hs1
          have ncd : tx_n t 81 (0 + 200 + m) = cd := by
            unfold tx_n
            rw [show 0 + 200 + m = 200 + m by omega, d1]
          have hstep : ∀ g : Nat, ix_iald O p nx ([], ls, .inl (200 + m) :: .inr (.inr (.inl (81 + 1))) :: stk2, n, t, ce, sl) = some [(nx, ([], ls, .inl cd :: stk2, n, t, ce, sl))] := by
            intro _
            show (match cond (Nat.blt 81 n) (match ix_g t 81 with | (kd, q) => cond (Nat.beq kd 0) (some q) none) (cond (Nat.blt 81 1000000) none (O 81)) with
              | some (len, f) => cond (Nat.blt (200 + m) len) (some [(nx, ([], ls, ix_g f (200 + m) :: stk2, n, t, ce, sl))]) none
              | none => none) = _
            rw [ix_blt.mpr h81]
            show (match cond (Nat.beq (ix_g t 81).1 0) (some (ix_g t 81).2) none with
              | some (len, f) => cond (Nat.blt (200 + m) len) (some [(nx, ([], ls, ix_g f (200 + m) :: stk2, n, t, ce, sl))]) none
              | none => none) = _
            rw [ix_beq.mpr (hcok.1.trans (ix_beq.mp c9.1))]
            show cond (Nat.blt (200 + m) (ix_g t 81).2.1) (some [(nx, ([], ls, ix_g (ix_g t 81).2.2 (200 + m) :: stk2, n, t, ce, sl))]) none = _
            rw [ix_blt.mpr hlen, d1]
            rfl
          obtain ⟨l', a1, a2⟩ := q3.2.step
          have ef : tx_k t 81 0 ge m = (if cd = 0 then 999 else cd, tx_n t 81 (0 + 3000 + m)) := by
            unfold tx_k
            rw [if_pos hme, ncd]
          rw [ef] at a1
          obtain ⟨⟨qc, b1, b2, b3, b4⟩, _⟩ := tx_de_ok a1
          obtain ⟨A1, z1, z2, z3⟩ := ty_bset_ok (lo := 4294967296) (hi := 4294970095) hi.1.1 hm (by omega) (by omega)
          rw [z1] at hs
          dsimp only at hs b2 b3
          rcases ty_lcs_mem _ _ hs qc b1 with y0 | ⟨y0, y1, y2', v, A2, y4, y5⟩
          · exfalso
            rw [y0] at b3
            by_cases q : cd = 0
            · rw [if_pos q] at b3; omega
            · rw [if_neg q] at b3; omega
          · have hcd : ¬ cd = 0 := fun q => by rw [if_pos q] at b3; omega
            rw [if_neg hcd] at b2 b3
            have kcd := ty_kp_nn (show cd < 2147483648 by omega)
            obtain ⟨A, W2⟩ := W
            have w1 := ty_wk.set hi.1 z2 z3
            have kk : ty_k h (A1, W2) = ty_k h (A, W2) := by show (A1.1, _) = (A.1, _); rw [show A1.1 = A.1 from z2]
            obtain ⟨s, s1, s2, s3, s4⟩ := ty_fr_ok (n := cd) w1.1 y4 d2 (by show 4294967296 + qc.1 ≤ _; omega) (by show _ ≤ 4294967296 + qc.2.1; omega)
            obtain ⟨g1, g2, g3⟩ := ty_wk.boxes w1 s1 s2 s3
            have hmk : ty_iv A2.1 s k m := (show ty_iv A1.1 σ.1 k m by rw [show A1.1 = A.1 from z2]; exact hm).ag s1 s2
            have lab1 : ty_fok (ty_k h (A2, W2)) (s, σ.2) t ((113, .inr (.inl (Nat.mul 4 qc.2.2))), ty_inc k) := by
              refine ⟨by show 113 < h.1 + _; omega, m + 1, ty_inc_ok hmk (by omega), ?_⟩
              obtain ⟨t1, t2⟩ := tx_lab4 qc.2.2
              show ty_lab σ.2.1 _ t (m + 1)
              unfold ty_lab
              rw [t1, t2, en, ← b4]
              exact ⟨e28, a2⟩
            have gX : ty_wk h (s, σ.2) (A2, (W2.1, (W2.2.1, (W2.2.2.1, ty_lnw qc k W2.2.2.2)))) n t := by
              have w2 := g1.kn lab1
              unfold ty_lnw
              cases hb : Nat.beq (tx_rc qc.1 qc.2.1) 9999 with
              | true => exact w2
              | false =>
                refine w2.kn ⟨by show 113 < h.1 + _; omega, m, hmk, ?_⟩
                obtain ⟨t1, t2⟩ := tx_lab4 (tx_R (tx_rc qc.1 qc.2.1) qc.2.2)
                show ty_lab σ.2.1 _ t m
                unfold ty_lab
                rw [t1, t2, en]
                refine ⟨e28, tx_R_ok y2' ?_ (by rw [← b4]; exact a2)⟩
                rw [ef, if_neg hcd]
                exact tx_rc_ok hb (by omega) b2 b3
            have kgo : ty_k h (A2, (W2.1, (W2.2.1, (W2.2.2.1, ty_lnw qc k W2.2.2.2)))) = ty_k h (A2, W2) := rfl
            have klx : ty_kl (ty_k h (A, W2)) (ty_k h (A2, W2)) := by rw [← kk]; exact g3.k
            have g2' : ty_agr (ty_k h (A, W2)) σ (s, σ.2) := by rw [← kk]; exact g2
            refine ⟨_, y5, (s, σ.2), (ls, .inl cd :: stk2, n, t, ce, sl), ⟨klx.1, Nat.le_refl _, Nat.le_refl _⟩, g2', ⟨gX, hi.2.1.ag g2' klx, ⟨ty_rv.int s4, y3.ag g2' klx⟩, hi.2.2.2⟩, Or.inr ⟨0, fun g _ => hstep g⟩⟩
      · cases hs
    · cases hs
  · cases hs
end TYLR
