/-! labels behind steps, the rest; a code that isn't there; a text's numbers; a local split -/
section TYRD
variable {h : ty_H} {cp : Nat × Nat} {pc : Nat}
/-- where orders are run, 'orderAt' is the place of one, or their end -/
noncomputable def ty_c6 (W : ty_W) : Option (Nat × ix_V) := match ty_sl79 W 51, ty_sl79 W 27 with
  | some v, some g => cond (ty_isI v && (ty_isI g && (ty_lbl W 2 g && ty_lbl W 6 g))) (some (Nat.mul 4 (tx_SE 1), v)) none
  | _, _ => none
theorem ty_c6_ok : ty_more h (ty_add1 ty_c6) := ty_add1_ok (fun W q v he σ n t hw => by
  unfold ty_c6 at he
  split at he
  · rename_i v0 g hv hg
    cases hc : (ty_isI v0 && (ty_isI g && (ty_lbl W 2 g && ty_lbl W 6 g))) with
    | false => rw [hc] at he; cases he
    | true =>
      rw [hc, cond_true] at he
      cases he
      have c1 := Bool.and_eq_true_iff.mp hc
      have c2 := Bool.and_eq_true_iff.mp c1.2
      have c3 := Bool.and_eq_true_iff.mp c2.2
      obtain ⟨m, m1, m2⟩ := ty_sl79_ok hw (by decide) hv c1.1
      obtain ⟨e, e1, e2⟩ := ty_sl79_ok hw (by decide) hg c2.1
      have l2 := ty_lbl_ok hw e2 c3.1
      have l6 := ty_lbl_ok hw e2 c3.2
      have f1 : σ.2.1 1001 = 1 := l2.1 rfl
      have f2 : e = 2400 + σ.2.1 1002 := l6.2.1 rfl
      obtain ⟨i1, i2, i3, i4⟩ := hw.2.2.1.2.2.2.2.2.2.1.1.2 f1
      refine ⟨m, m2, ?_⟩
      obtain ⟨t1, t2⟩ := tx_lab4 (tx_SE 1)
      unfold ty_lab
      rw [t1, t2, e1, f2, ← m1]
      exact ⟨by omega, (i4 _).mp i3⟩
  · cases he)
/-- a place of an order, or their end: said so that no store takes it away -/
noncomputable def ty_c9 (W : ty_W) : Option (Nat × ix_V) := match ty_sl79 W 26, ty_sl79 W 27 with
  | some v, some g => cond (ty_isI v && (ty_isI g && (ty_lbl W 2 g && (ty_lbl W 6 g && ty_lbl W (Nat.mul 4 (tx_SE 1)) v)))) (some (10, v)) none
  | _, _ => none
theorem ty_c9_ok : ty_more h (ty_add1 ty_c9) := ty_add1_ok (fun W q v he σ n t hw => by
  unfold ty_c9 at he
  split at he
  · rename_i v0 g hv hg
    cases hc : (ty_isI v0 && (ty_isI g && (ty_lbl W 2 g && (ty_lbl W 6 g && ty_lbl W (Nat.mul 4 (tx_SE 1)) v0)))) with
    | false => rw [hc] at he; cases he
    | true =>
      rw [hc, cond_true] at he
      cases he
      have c1 := Bool.and_eq_true_iff.mp hc
      have c2 := Bool.and_eq_true_iff.mp c1.2
      have c3 := Bool.and_eq_true_iff.mp c2.2
      have c4 := Bool.and_eq_true_iff.mp c3.2
      obtain ⟨m, m1, m2⟩ := ty_sl79_ok hw (by decide) hv c1.1
      obtain ⟨e, e1, e2⟩ := ty_sl79_ok hw (by decide) hg c2.1
      have l2 := ty_lbl_ok hw e2 c3.1
      have l6 := ty_lbl_ok hw e2 c4.1
      have la := ty_lbl_ok hw m2 c4.2
      have f1 : σ.2.1 1001 = 1 := l2.1 rfl
      have f2 : e = 2400 + σ.2.1 1002 := l6.2.1 rfl
      obtain ⟨i1, i2, i3, i4⟩ := hw.2.2.1.2.2.2.2.2.2.1.1.2 f1
      obtain ⟨t1, t2⟩ := tx_lab4 (tx_SE 1)
      unfold ty_lab at la
      rw [t1, t2, e1, f2] at la
      exact ⟨m, m2, fun e => absurd e (by decide), fun e => absurd e (by decide), fun _ => (i4 m).mpr la.2, fun e => absurd e (by decide)⟩
  · cases he)
/-- nothing that was read is at fault -/
noncomputable def ty_b1 (W : ty_W) : Bool := match ty_sl79 W 25 with
  | some v => ty_isI v && (Nat.ble (ty_rng W.1 v).2 4294967295 && Nat.ble 4294967295 (ty_rng W.1 v).1)
  | none => false
/-- all that was read is a text -/
noncomputable def ty_c7 (W : ty_W) : Option (Nat × ix_V) := match ty_sl79 W 23, ty_sl79 W 22 with
  | some v, some w => cond (ty_isI v && (ty_isI w && (ty_b1 W && (Nat.ble 4294967296 (ty_rng W.1 w).1 && ty_le W.1 W.2.2.2.1 w v 0)))) (match ty_lfd 1 W.1 v W.2.2.2.2 with
    | some l => cond (tx_oeq (tx_find 0 (tx_cls l)) 99999) (some (Nat.add (Nat.mul 4 (tx_g l)) 3, v)) none
    | none => none) none
  | _, _ => none
theorem ty_bad1 {σ : ty_Sg} {W : ty_W} {n : Nat} {t : ix_T} (hw : ty_wk h σ W n t) (he : ty_b1 W = true) : tx_n t 79 25 = 4294967295 := by
  unfold ty_b1 at he
  split at he
  · rename_i v hv
    have c1 := Bool.and_eq_true_iff.mp he
    have c2 := Bool.and_eq_true_iff.mp c1.2
    obtain ⟨m, m1, m2⟩ := ty_sl79_ok hw (by decide) hv c1.1
    have r : (ty_rng W.1 v).1 ≤ ty_kp m ∧ ty_kp m ≤ (ty_rng W.1 v).2 := ty_rng_ok hw.1 m2
    have g1 := ix_ble.mp c2.1
    have g2 := ix_ble.mp c2.2
    have k := ty_kp_eq m
    have k2 := m2.1
    rw [m1]
    omega
  · cases he
theorem tx_end {f : Nat → Nat × Nat} {v : Nat} : ∀ (n : Nat), (∀ u, v ≤ u → (f u).1 = 0) → tx_ok f n 99999 v
  | 0, _ => trivial
  | n + 1, hz => ⟨99999, by rw [hz v (Nat.le_refl _)]; rfl, by
    have := tx_end (f := f) (v := v + 1) n (fun u hu => hz u (by omega))
    exact this⟩
theorem ty_c7_ok : ty_more h (ty_add1 ty_c7) := ty_add1_ok (fun W q v he σ n t hw => by
  unfold ty_c7 at he
  split at he
  · rename_i v0 w hv hw0
    cases hc : (ty_isI v0 && (ty_isI w && (ty_b1 W && (Nat.ble 4294967296 (ty_rng W.1 w).1 && ty_le W.1 W.2.2.2.1 w v0 0)))) with
    | false => rw [hc] at he; cases he
    | true =>
      rw [hc, cond_true] at he
      have c1 := Bool.and_eq_true_iff.mp hc
      have c2 := Bool.and_eq_true_iff.mp c1.2
      have c3 := Bool.and_eq_true_iff.mp c2.2
      have c4 := Bool.and_eq_true_iff.mp c3.2
      split at he
      · rename_i l hl
        cases hd : tx_oeq (tx_find 0 (tx_cls l)) 99999 with
        | false => rw [hd] at he; cases he
        | true =>
          rw [hd, cond_true] at he
          cases he
          obtain ⟨m, m1, m2⟩ := ty_sl79_ok hw (by decide) hv c1.1
          obtain ⟨k, k1, k2⟩ := ty_sl79_ok hw (by decide) hw0 c2.1
          obtain ⟨q0, q1, q2, q3⟩ := ty_lfd_ok (k2 := (ty_k h W).2) hw.1 m2 W.2.2.2.2 hw.2.2.2.2.2 hl
          unfold ty_lab at q3
          rw [q1, q2] at q3
          obtain ⟨p1, p2, p3, p4⟩ := q3 (ty_bad1 hw c3.1)
          have hle := ty_le_ok hw.1 hw.2.2.2.2.1 k2 m2 c4.2
          have r := ty_rng_ok hw.1 k2
          have g1 := ix_ble.mp c4.1
          have e1 := ty_kp_eq m
          have e2 := ty_kp_eq k
          have e3 := m2.1
          have e4 := k2.1
          rw [k1] at p1 p2
          have hkm : k ≤ m := by omega
          refine ⟨m, m2, ?_⟩
          obtain ⟨t1, t2⟩ := tx_lab43 (tx_g l)
          unfold ty_lab
          rw [t1, t2, k1]
          refine ⟨p2, p4 ?_⟩
          have hz : ∀ u, m ≤ u → (tx_p t u).1 = 0 := fun u hu => by
            unfold tx_p
            rw [k1, if_neg (by omega)]
          refine tx_acc.mk (l' := 99999) ?_ (fun n => tx_end n (fun u hu => hz u (by omega)))
          unfold tx_de
          rw [hz m (Nat.le_refl _)]
          show tx_find 0 (tx_cls l) = some 99999
          exact tx_oeq_ok hd
      · cases he
  · cases he)
/-- reading begins -/
noncomputable def ty_c8 (W : ty_W) : Option (Nat × ix_V) := match ty_sl79 W 22, ty_sl79 W 14 with
  | some w, some (.inl g) => cond (ty_isI w && (ty_isL 4294967296 (ty_sl79 W 23) && (Nat.ble 4294967296 (ty_rng W.1 w).1 && (Nat.ble (ty_rng W.1 w).2 4294967696 && (ty_isL 4294967296 (ty_find W.1 90 w W.2.2.2.2) && Nat.beq (tx_S (tx_g (tx_S (Nat.sub g 4294967296)))) (tx_S (Nat.sub g 4294967296))))))) (some (Nat.succ (Nat.mul 4 (tx_S (Nat.sub g 4294967296))), .inl 4294967296)) none
  | _, _ => none
theorem ty_c8_ok : ty_more h (ty_add1 ty_c8) := ty_add1_ok (fun W q v he σ n t hw => by
  unfold ty_c8 at he
  split at he
  · rename_i w g hw0 hg
    cases hc : (ty_isI w && (ty_isL 4294967296 (ty_sl79 W 23) && (Nat.ble 4294967296 (ty_rng W.1 w).1 && (Nat.ble (ty_rng W.1 w).2 4294967696 && (ty_isL 4294967296 (ty_find W.1 90 w W.2.2.2.2) && Nat.beq (tx_S (tx_g (tx_S (Nat.sub g 4294967296)))) (tx_S (Nat.sub g 4294967296))))))) with
    | false => rw [hc] at he; cases he
    | true =>
      rw [hc, cond_true] at he
      cases he
      have c1 := Bool.and_eq_true_iff.mp hc
      have c2 := Bool.and_eq_true_iff.mp c1.2
      have c3 := Bool.and_eq_true_iff.mp c2.2
      have c4 := Bool.and_eq_true_iff.mp c3.2
      have c5 := Bool.and_eq_true_iff.mp c4.2
      obtain ⟨k, k1, k2⟩ := ty_sl79_ok hw (by decide) hw0 c1.1
      have r := ty_rng_ok hw.1 k2
      have g1 := ix_ble.mp c3.1
      have g2 := ix_ble.mp c4.1
      have e2 := ty_kp_eq k
      have e4 := k2.1
      have hz := ty_find_ok (k2 := (ty_k h W).2) hw.1 k2 W.2.2.2.2 hw.2.2.2.2.2 (ty_isL_ok c5.1)
      have hh := hw.2.2.1
      have e114 := hh.2.2.2.2.2.1.1
      rw [hh.2.2.1 90 (by omega)] at hz
      obtain ⟨cd, x1, x2⟩ := hz
      have x3 : 4294967296 = ty_kp cd := x2.2
      have x4 := ty_kp_eq cd
      have x5 := x2.1
      refine ⟨0, ⟨by decide, rfl⟩, ?_⟩
      obtain ⟨t1, t2⟩ := tx_lab41 (tx_S (Nat.sub g 4294967296))
      unfold ty_lab
      rw [t1, t2, k1]
      intro _
      refine ⟨Nat.zero_le _, by omega, ?_, fun ha => ?_⟩
      · unfold tx_n
        rw [x1]
        show cd = 0
        omega
      · rw [ix_beq.mp c5.2]
        exact ha
  · cases he)
/-- the text has ended: nought is the code -/
noncomputable def ty_lzer (nx : Nat) : ty_S → ty_R
  | (W, L, st, w) => (match L[1]? with
    | some (some k) => (match ty_lfd 0 W.1 k W.2.2.2.2, ty_sl79 W 27 with
      | some l, some g => cond (ty_isI k && (ty_isI g && (Nat.ble 4294967296 (ty_rng W.1 k).1 && ty_le W.1 W.2.2.2.1 g k 0))) (match tx_find 0 (tx_cls l) with
        | some l' => cond (Nat.blt l' 100000 && Nat.blt (ty_rng W.1 k).2 6442450943) (some [(nx, (ty_kn (ty_kn W ((113, .inr (.inl (Nat.mul 4 l'))), ty_inc k)) ((113, .inr (.inl (Nat.mul 4 (tx_R 0 l')))), k), L, .inl 4294967296 :: st, w))]) none
        | none => some []) none
      | _, _ => none)
    | _ => none)
theorem ts_lzer {nx : Nat} : ty_sd h cp pc (fun _ => ix_push nx (ix_vI 0)) (ty_lzer nx) := by
  intro S outs hs σ C hi
  obtain ⟨W, L, st, w⟩ := S
  obtain ⟨ls, stk, n, t, ce, sl⟩ := C
  unfold ty_lzer at hs
  dsimp only at hs
  split at hs
  · rename_i k hk
    split at hs
    · rename_i l g hl hg
      cases hc : (ty_isI k && (ty_isI g && (Nat.ble 4294967296 (ty_rng W.1 k).1 && ty_le W.1 W.2.2.2.1 g k 0))) with
      | false => rw [hc] at hs; cases hs
      | true =>
        rw [hc, cond_true] at hs
        have c1 := Bool.and_eq_true_iff.mp hc
        have c2 := Bool.and_eq_true_iff.mp c1.2
        have c3 := Bool.and_eq_true_iff.mp c2.2
        obtain ⟨wk, k1, k2⟩ := hi.2.1.2 1 k hk
        obtain ⟨m, rfl, hm⟩ := k2.toint c1.1
        obtain ⟨e, e1, e2⟩ := ty_sl79_ok hi.1 (by decide) hg c2.1
        obtain ⟨q0, q1, q2, q3⟩ := ty_lfd_ok (k2 := (ty_k h W).2) hi.1.1 hm W.2.2.2.2 hi.1.2.2.2.2.2 hl
        unfold ty_lab at q3
        rw [q1, q2, e1] at q3
        have hle := ty_le_ok hi.1.1 hi.1.2.2.2.2.1 e2 hm c3.2
        have rk : (ty_rng W.1 k).1 ≤ ty_kp m ∧ ty_kp m ≤ (ty_rng W.1 k).2 := ty_rng_ok hi.1.1 hm
        have hlo := ix_ble.mp c3.1
        have km := ty_kp_eq m
        have ke := ty_kp_eq e
        have mlt := hm.1
        have e28 := q3.1
        have hem : e ≤ m := by omega
        have ef : (tx_k t 81 0 e m).1 = 0 := by
          unfold tx_k
          rw [if_neg (by omega)]
        obtain ⟨l', a1, a2⟩ := q3.2.step
        have a3 : tx_find 0 (tx_cls l) = some l' := by
          rw [ef] at a1
          exact a1
        rw [a3] at hs
        dsimp only at hs
        cases hd : (Nat.blt l' 100000 && Nat.blt (ty_rng W.1 k).2 6442450943) with
        | false => rw [hd] at hs; cases hs
        | true =>
          rw [hd, cond_true] at hs
          cases hs
          have d1 := Bool.and_eq_true_iff.mp hd
          have d2 := ix_blt.mp d1.2
          have e114 := hi.1.2.2.1.2.2.2.2.2.1.1
          have g1 := hi.1.kn (f := ((113, .inr (.inl (Nat.mul 4 l'))), ty_inc k)) ⟨by show 113 < h.1 + _; omega, m + 1, ty_inc_ok hm (by omega), by
            obtain ⟨t1, t2⟩ := tx_lab4 l'
            show ty_lab σ.2.1 _ t (m + 1)
            unfold ty_lab
            rw [t1, t2, e1]
            exact ⟨e28, a2⟩⟩
          have g2 := g1.kn (f := ((113, .inr (.inl (Nat.mul 4 (tx_R 0 l')))), k)) ⟨by show 113 < h.1 + _; omega, m, hm, by
            obtain ⟨t1, t2⟩ := tx_lab4 (tx_R 0 l')
            show ty_lab σ.2.1 _ t m
            unfold ty_lab
            rw [t1, t2, e1]
            exact ⟨e28, tx_R_ok (ix_blt.mp d1.1) (by rw [ef]; rfl) a2⟩⟩
          exact ty_sd1 ty_mo.rf ty_agr.rf (C' := (ls, .inl 0 :: stk, n, t, ce, sl)) ⟨g2, hi.2.1, ⟨⟨0, rfl, by decide, rfl⟩, hi.2.2.1⟩, hi.2.2.2⟩ (fun g => rfl)
    · cases hs
  · cases hs
/-- a number of a text is read: 'go' is its place -/
noncomputable def ty_lval (h : ty_H) (nx : Nat) : ty_S → ty_R
  | (W, L, j :: .inr (.inr (.inl r)) :: st, w) => (match ty_sl79 W 26 with
    | some v => (match ty_lfd 0 W.1 v W.2.2.2.2 with
      | some l => (match tx_cls l with
        | [q] => cond (Nat.beq r 82 && (ty_isI v && (ty_isI j && (Nat.ble 4294967296 (ty_rng W.1 v).1 && (Nat.blt (ty_rng W.1 v).2 6442450943 && (ty_off W.1 v j 3000 && (Nat.beq q.1 50 && (Nat.beq q.2.1 50 && (Nat.blt (tx_nb l).2 2147483648 && (Nat.ble 5800 (h.2 81).2.1 && (Nat.beq (h.2 81).1 0 && (Nat.beq (ix_g (h.2 81).2.2.2.1 0).1 0 && tx_nm l)))))))))))) (match ty_fr (Nat.add 4294967296 (tx_nb l).1) (Nat.add 4294967296 (tx_nb l).2) W.1 with
          | some (u, A) => some [(nx, (ty_kn (A, W.2) ((113, .inr (.inl (Nat.mul 4 q.2.2))), ty_inc v), L, u :: st, w))]
          | none => none) none
        | _ => none)
      | none => none)
    | none => none)
  | _ => none
theorem ts_lval {O : ix_O} {p nx : Nat} : ty_sd h cp pc (fun _ => ix_iald O p nx) (ty_lval h nx) := by
  intro S outs hs σ C hi
  obtain ⟨W, L, st, w⟩ := S
  obtain ⟨ls, stk, n, t, ce, sl⟩ := C
  unfold ty_lval at hs
  split at hs
  · rename_i W0 L0 j r st0 w0 e0
    cases e0
    split at hs
    · rename_i v hv
      split at hs
      · rename_i l hl
        split at hs
        · rename_i q hcl
          cases hc : (Nat.beq r 82 && (ty_isI v && (ty_isI j && (Nat.ble 4294967296 (ty_rng W.1 v).1 && (Nat.blt (ty_rng W.1 v).2 6442450943 && (ty_off W.1 v j 3000 && (Nat.beq q.1 50 && (Nat.beq q.2.1 50 && (Nat.blt (tx_nb l).2 2147483648 && (Nat.ble 5800 (h.2 81).2.1 && (Nat.beq (h.2 81).1 0 && (Nat.beq (ix_g (h.2 81).2.2.2.1 0).1 0 && tx_nm l)))))))))))) with
          | false => rw [hc] at hs; cases hs
          | true =>
            rw [hc, cond_true] at hs
            have c1 := Bool.and_eq_true_iff.mp hc
            have c2 := Bool.and_eq_true_iff.mp c1.2
            have c3 := Bool.and_eq_true_iff.mp c2.2
            have c4 := Bool.and_eq_true_iff.mp c3.2
            have c5 := Bool.and_eq_true_iff.mp c4.2
            have c6 := Bool.and_eq_true_iff.mp c5.2
            have c7 := Bool.and_eq_true_iff.mp c6.2
            have c8 := Bool.and_eq_true_iff.mp c7.2
            have c9 := Bool.and_eq_true_iff.mp c8.2
            have c10 := Bool.and_eq_true_iff.mp c9.2
            have c11 := Bool.and_eq_true_iff.mp c10.2
            have c12' := Bool.and_eq_true_iff.mp c11.2
            have c12 := c12'.2
            have er := ix_beq.mp c1.1
            subst er
            obtain ⟨x, stk', eS, x2, x3⟩ := ty_vs_1 hi.2.2.1
            obtain ⟨y, stk2, e2, y2, y3⟩ := ty_vs_1 x3
            have e' : stk = x :: y :: stk2 := by rw [← e2]; exact eS
            subst e'
            have hh := hi.1.2.2.1
            have e114 := hh.2.2.2.2.2.1.1
            have hn0 : h.1 ≤ n := hh.1
            have hy := ty_named hi.1 y2 (show 81 < h.1 + W.2.2.1.1 by omega)
            rw [hh.2.2.1 81 (by omega)] at hy
            subst hy
            obtain ⟨mj, rfl, hmj⟩ := x2.toint c3.1
            obtain ⟨m, m1, hm⟩ := ty_sl79_ok hi.1 (by decide) hv c2.1
            obtain ⟨q0, q1, q2, q3⟩ := ty_lfd_ok (k2 := (ty_k h W).2) hi.1.1 hm W.2.2.2.2 hi.1.2.2.2.2.2 hl
            unfold ty_lab at q3
            rw [q1, q2] at q3
            obtain ⟨ge, hge⟩ : ∃ ge, tx_n t 79 27 = ge := ⟨_, rfl⟩
            rw [hge] at q3
            have e28 := q3.1
            have rk : (ty_rng W.1 v).1 ≤ ty_kp m ∧ ty_kp m ≤ (ty_rng W.1 v).2 := ty_rng_ok hi.1.1 hm
            have hlo := ix_ble.mp c4.1
            have hhi := ix_blt.mp c5.1
            have km := ty_kp_eq m
            have mlt := hm.1
            obtain ⟨l', a1, a2⟩ := q3.2.step
            obtain ⟨⟨qc, b1, b2, b3, b4⟩, b5⟩ := tx_de_ok a1
            rw [hcl] at b1
            have eq0 : qc = q := by
              rcases List.mem_cons.mp b1 with z | z
              · exact z
              · cases z
            subst eq0
            have f1 : qc.1 = 50 := ix_beq.mp c7.1
            have f2 : qc.2.1 = 50 := ix_beq.mp c8.1
            have b2 : qc.1 ≤ (tx_k t 81 0 ge m).1 := b2
            have b3 : (tx_k t 81 0 ge m).1 ≤ qc.2.1 := b3
            have ec : (tx_k t 81 0 ge m).1 = 50 := by omega
            have hme : m < ge := by
              rcases Nat.lt_or_ge m ge with z | z
              · exact z
              · have e0 : (tx_k t 81 0 ge m).1 = 0 := by unfold tx_k; rw [if_neg (by omega)]
                omega
            have hnb := b5 ec (show tx_nm l = true from c12)
            have ev : (tx_k t 81 0 ge m).2 = tx_n t 81 (0 + 3000 + m) := by unfold tx_k; rw [if_pos hme]
            rw [ev] at hnb
            have hoff := ty_off_ok hi.1.1 c6.1 hm hmj
            have ej : mj = 3000 + m := by omega
            subst ej
            have h81 : 81 < n := by omega
            have hcok : ty_cok σ.2.2.2 n (h.2 81) (ix_g t 81) := by
              have z : ty_cok σ.2.2.2 n (h.2 (σ.2.2.2 81)) (ix_g t 81) := hh.2.2.2.1 81 h81
              rw [(hh.2.2.2.2.1 81 h81).1 (by omega)] at z
              exact z
            have hlen : 3000 + m < (ix_g t 81).2.1 := by have := hcok.2.1; have := ix_ble.mp c10.1; omega
            have hs1 := (hcok.2.2.2 (3000 + m) hlen).2.1 (by have := ix_beq.mp c11.1; omega)
            unfold ty_sok at hs1
            rw [ix_beq.mp c12'.1] at hs1
            obtain ⟨cd, d1, d2, _, _⟩ := hs1
            have ncd : tx_n t 81 (0 + 3000 + m) = cd := by
              unfold tx_n
              rw [show 0 + 3000 + m = 3000 + m by omega, d1]
            rw [ncd] at hnb
            have hstep : ∀ g : Nat, ix_iald O p nx ([], ls, .inl (3000 + m) :: .inr (.inr (.inl (81 + 1))) :: stk2, n, t, ce, sl) = some [(nx, ([], ls, .inl cd :: stk2, n, t, ce, sl))] := by
              intro _
              show (match cond (Nat.blt 81 n) (match ix_g t 81 with | (kd, q) => cond (Nat.beq kd 0) (some q) none) (cond (Nat.blt 81 1000000) none (O 81)) with
                | some (len, f) => cond (Nat.blt (3000 + m) len) (some [(nx, ([], ls, ix_g f (3000 + m) :: stk2, n, t, ce, sl))]) none
                | none => none) = _
              rw [ix_blt.mpr h81]
              show (match cond (Nat.beq (ix_g t 81).1 0) (some (ix_g t 81).2) none with
                | some (len, f) => cond (Nat.blt (3000 + m) len) (some [(nx, ([], ls, ix_g f (3000 + m) :: stk2, n, t, ce, sl))]) none
                | none => none) = _
              rw [ix_beq.mpr (hcok.1.trans (ix_beq.mp c11.1))]
              show cond (Nat.blt (3000 + m) (ix_g t 81).2.1) (some [(nx, ([], ls, ix_g (ix_g t 81).2.2 (3000 + m) :: stk2, n, t, ce, sl))]) none = _
              rw [ix_blt.mpr hlen, d1]
              rfl
            split at hs
            · rename_i u A hf
              cases hs
              have hn2 := ix_blt.mp c9.1
              have kcd := ty_kp_nn (show cd < 2147483648 by omega)
              obtain ⟨s, s1, s2, s3, s4⟩ := ty_fr_ok (n := cd) hi.1.1 hf d2 (by show 4294967296 + (tx_nb l).1 ≤ _; omega) (by show _ ≤ 4294967296 + (tx_nb l).2; omega)
              obtain ⟨B, W2⟩ := W
              obtain ⟨g1, g2, g3⟩ := ty_wk.boxes hi.1 s1 s2 s3
              have g4 := g1.kn (f := ((113, .inr (.inl (Nat.mul 4 qc.2.2))), ty_inc v)) ⟨by show 113 < h.1 + _; omega, m + 1, ty_inc_ok (hm.ag s1 s2) (by omega), by
                obtain ⟨t1, t2⟩ := tx_lab4 qc.2.2
                show ty_lab σ.2.1 _ t (m + 1)
                unfold ty_lab
                rw [t1, t2, hge, ← b4]
                exact ⟨e28, a2⟩⟩
              refine ⟨_, List.mem_cons_self, (s, σ.2), (ls, .inl cd :: stk2, n, t, ce, sl), g3, g2, ⟨g4, hi.2.1.ag g2 g3.k, ⟨ty_rv.int s4, y3.ag g2 g3.k⟩, hi.2.2.2⟩, Or.inr ⟨0, fun g _ => hstep g⟩⟩
            · cases hs
        · cases hs
      · cases hs
    · cases hs
  · cases hs
/-- a local is split into its values, if they are few -/
noncomputable def ty_spl (i lim pc : Nat) (a : ty_S → ty_R) : ty_S → ty_R := fun S => match S.2.1[i]? with
  | some (some v) => ty_spv lim pc S v (a S)
  | _ => a S
theorem ts_spl {i lim : Nat} {f : Nat → ix_S → ix_R} {a : ty_S → ty_R} (ha : ty_sd h cp pc f a) : ty_sd h cp pc f (ty_spl i lim pc a) := by
  intro S outs hs σ C hi
  unfold ty_spl at hs
  split at hs
  · exact ty_spv_ok hs hi (fun e => ha S outs e σ C hi)
  · exact ha S outs hs σ C hi
end TYRD
