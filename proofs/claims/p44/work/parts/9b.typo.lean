/-! labels that steps make, behind the step -/
section TYPO
variable {h : ty_H} {cp : Nat × Nat} {pc : Nat}
/-- what is known is said more of -/
noncomputable def ty_post (f : ty_W → ty_W) (a : ty_S → ty_R) : ty_S → ty_R := fun S => (match a S with
  | some outs => some (outs.map (fun o => (o.1, (f o.2.1, o.2.2))))
  | none => none)
def ty_more (h : ty_H) (f : ty_W → ty_W) : Prop := ∀ W, (f W).1 = W.1 ∧ (f W).2.1 = W.2.1 ∧ (f W).2.2.1 = W.2.2.1 ∧ ∀ σ n t, ty_wk h σ W n t → ty_wk h σ (f W) n t
theorem ts_post {f : ty_W → ty_W} {a : ty_S → ty_R} {g : Nat → ix_S → ix_R} (hf : ty_more h f) (ha : ty_sd h cp pc g a) : ty_sd h cp pc g (ty_post f a) := by
  intro S outs hs σ C hi
  unfold ty_post at hs
  split at hs
  · rename_i o1 h1
    have ho := Option.some.inj hs
    obtain ⟨o, om, σ', C', m1, a1, i1, s1⟩ := ha S o1 h1 σ C hi
    obtain ⟨e1, e2, e3, e4⟩ := hf o.2.1
    have kk : ty_k h (f o.2.1) = ty_k h o.2.1 := by
      show ((f o.2.1).1.1, ((f o.2.1).2.1.1, h.1 + (f o.2.1).2.2.1.1)) = (o.2.1.1.1, (o.2.1.2.1.1, h.1 + o.2.1.2.2.1.1))
      rw [e1, e2, e3]
    refine ⟨(o.1, (f o.2.1, o.2.2)), by rw [← ho]; exact List.mem_map.mpr ⟨o, om, rfl⟩, σ', C', m1.tr (ty_mo_k kk), a1, ⟨e4 σ' _ _ i1.1, ?_, ?_, i1.2.2.2⟩, s1⟩
    · show ty_lv (ty_k h (f o.2.1)) σ' o.2.2.1 C'.1
      rw [kk]
      exact i1.2.1
    · show ty_vs (ty_k h (f o.2.1)) σ' o.2.2.2.1 C'.2.1
      rw [kk]
      exact i1.2.2.1
  · cases hs
theorem ty_more_kn {W : ty_W} {f : (Nat × ix_V) × ix_V} : (ty_kn W f).1 = W.1 ∧ (ty_kn W f).2.1 = W.2.1 ∧ (ty_kn W f).2.2.1 = W.2.2.1 := ⟨rfl, rfl, rfl⟩
/-- one more label, if a condition says so -/
noncomputable def ty_add1 (c : ty_W → Option (Nat × ix_V)) (W : ty_W) : ty_W := (match c W with
  | some q => ty_kn W ((113, .inr (.inl q.1)), q.2)
  | none => W)
theorem ty_add1_ok {c : ty_W → Option (Nat × ix_V)} (hc : ∀ W q v, c W = some (q, v) → ∀ σ n t, ty_wk h σ W n t → ∃ m, ty_iv W.1.1 σ.1 v m ∧ ty_lab σ.2.1 q t m) : ty_more h (ty_add1 c) := by
  intro W
  unfold ty_add1
  split
  · rename_i q hq
    refine ⟨rfl, rfl, rfl, fun σ n t hw => ?_⟩
    obtain ⟨m, m1, m2⟩ := hc W q.1 q.2 hq σ n t hw
    have e114 := hw.2.2.1.2.2.2.2.2.1.1
    exact hw.kn ⟨by show 113 < h.1 + _; omega, m, m1, m2⟩
  · exact ⟨rfl, rfl, rfl, fun σ n t hw => hw⟩
noncomputable def ty_sl79 (W : ty_W) (k : Nat) : Option ix_V := ty_find W.1 79 (.inl (Nat.add 4294967296 k)) W.2.2.2.2
theorem ty_sl79_ok {σ : ty_Sg} {W : ty_W} {n k : Nat} {t : ix_T} {v : ix_V} (hw : ty_wk h σ W n t) (hk : k < 64) (he : ty_sl79 W k = some v) (hi : ty_isI v = true) : ∃ m, tx_n t 79 k = m ∧ ty_iv W.1.1 σ.1 v m := by
  obtain ⟨m, m1, m2⟩ := (ty_fslot hw (by decide) (by omega) he).toint hi
  exact ⟨m, by unfold tx_n; rw [m1], m2⟩
noncomputable def ty_dok (v : ix_V) : Bool := match v with
  | .inr (.inr (.inr (_, c))) => Nat.blt 0 c
  | .inl _ => true
  | _ => false
/-- one less than a value that is not 0 -/
theorem ty_pre {σ : Nat → Nat} {A : ty_A} {v : ix_V} {m : Nat} (hA : ty_bx σ A) (hv : ty_iv A.1 σ v m) (h1 : Nat.blt 4294967296 (ty_rng A v).1 = true) (hd : ty_dok v = true) : ∃ m', m = m' + 1 ∧ m' < 2147483647 ∧ ty_iv A.1 σ (ty_dec v) m' := by
  have r := ty_rng_ok hA hv
  have g := ix_blt.mp h1
  obtain ⟨e1, e2⟩ := ty_nn hv.1 (by omega)
  refine ⟨m - 1, by omega, by omega, ty_dec_ok (by rw [show m - 1 + 1 = m by omega]; exact hv) (by omega) ?_⟩
  rcases v with b | q | r | ⟨x, c⟩
  · trivial
  · trivial
  · trivial
  · exact ix_blt.mp hd
/-- behind 'go' moved on: what holds behind one token -/
noncomputable def ty_c3 (W : ty_W) : Option (Nat × ix_V) := match ty_sl79 W 26 with
  | some v => cond (ty_isI v && (ty_dok v && Nat.blt 4294967296 (ty_rng W.1 v).1)) (match ty_lfd 0 W.1 v W.2.2.2.2 with
    | some _ => none
    | none => (match ty_lfd 0 W.1 (ty_dec v) W.2.2.2.2 with
      | some l => cond (tx_nxt l (tx_uni l)) (some (Nat.mul 4 (tx_uni l), v)) none
      | none => none)) none
  | none => none
theorem ty_c3_ok : ty_more h (ty_add1 ty_c3) := ty_add1_ok (fun W q v he σ n t hw => by
  unfold ty_c3 at he
  split at he
  · rename_i u hu
    cases hc : (ty_isI u && (ty_dok u && Nat.blt 4294967296 (ty_rng W.1 u).1)) with
    | false => rw [hc] at he; cases he
    | true =>
      rw [hc, cond_true] at he
      have c1 := Bool.and_eq_true_iff.mp hc
      have c2 := Bool.and_eq_true_iff.mp c1.2
      split at he
      · cases he
      · split at he
        · rename_i l hl
          cases hn : tx_nxt l (tx_uni l) with
          | false => rw [hn] at he; cases he
          | true =>
            rw [hn, cond_true] at he
            cases he
            obtain ⟨m, m1, m2⟩ := ty_sl79_ok hw (by decide) hu c1.1
            obtain ⟨m', rfl, m3, m4⟩ := ty_pre hw.1 m2 c2.2 c2.1
            obtain ⟨q0, q1, q2, q3⟩ := ty_lfd_ok (k2 := (ty_k h W).2) hw.1 m4 W.2.2.2.2 hw.2.2.2.2.2 hl
            unfold ty_lab at q3
            rw [q1, q2] at q3
            refine ⟨m' + 1, m2, ?_⟩
            obtain ⟨t1, t2⟩ := tx_lab4 (tx_uni l)
            unfold ty_lab
            rw [t1, t2]
            exact ⟨q3.1, tx_nxt_ok hn q3.2⟩
        · cases he
  · cases he)
/-- behind 'goEnd' set: a law begins at 'go' -/
noncomputable def ty_c4 (W : ty_W) : Option (Nat × ix_V) := match ty_sl79 W 26, ty_sl79 W 27 with
  | some (.inl b), some g => cond (ty_isI g && (Nat.ble 4294967296 b && (Nat.blt (Nat.div (Nat.sub b 4294967296) 400) 6 && Nat.beq (Nat.mul 400 (Nat.div (Nat.sub b 4294967296) 400)) (Nat.sub b 4294967296)))) (match ty_find W.1 81 (.inl (Nat.add 4294967489 (Nat.div (Nat.sub b 4294967296) 400))) W.2.2.2.2 with
    | some s => cond (ty_isI s && ty_off W.1 s g (Nat.sub b 4294967296)) (some (Nat.mul 4 (tx_SE 0), .inl b)) none
    | none => none) none
  | _, _ => none
theorem ty_c4_ok : ty_more h (ty_add1 ty_c4) := ty_add1_ok (fun W q v he σ n t hw => by
  unfold ty_c4 at he
  split at he
  · rename_i b g hb hg
    cases hc : (ty_isI g && (Nat.ble 4294967296 b && (Nat.blt (Nat.div (Nat.sub b 4294967296) 400) 6 && Nat.beq (Nat.mul 400 (Nat.div (Nat.sub b 4294967296) 400)) (Nat.sub b 4294967296)))) with
    | false => rw [hc] at he; cases he
    | true =>
      rw [hc, cond_true] at he
      have c1 := Bool.and_eq_true_iff.mp hc
      have c2 := Bool.and_eq_true_iff.mp c1.2
      have c3 := Bool.and_eq_true_iff.mp c2.2
      have g1 := ix_ble.mp c2.1
      obtain ⟨F, hF⟩ : ∃ F, Nat.div (Nat.sub b 4294967296) 400 = F := ⟨_, rfl⟩
      rw [hF] at c3 he
      have g2 := ix_blt.mp c3.1
      have g3 : 400 * F = b - 4294967296 := ix_beq.mp c3.2
      split at he
      · rename_i s hs
        cases hd : (ty_isI s && ty_off W.1 s g (Nat.sub b 4294967296)) with
        | false => rw [hd] at he; cases he
        | true =>
          rw [hd, cond_true] at he
          cases he
          have d := Bool.and_eq_true_iff.mp hd
          obtain ⟨mb, b1, b2⟩ := ty_sl79_ok hw (by decide) hb rfl
          obtain ⟨mg, q1, q2⟩ := ty_sl79_ok hw (by decide) hg c1.1
          have hsr := ty_fslot (p := 81) (k := 193 + F) hw (by decide) (by omega) (by
            rw [show Nat.add 4294967296 (193 + F) = Nat.add 4294967489 F by show 4294967296 + (193 + F) = 4294967489 + F; omega]
            exact hs)
          obtain ⟨ms, s1, s2⟩ := hsr.toint d.1
          have hoff := ty_off_ok hw.1 d.2 s2 q2
          have ns : tx_n t 81 (0 + 193 + F) = ms := by
            unfold tx_n
            rw [show 0 + 193 + F = 193 + F by omega, s1]
          obtain ⟨i1, i2⟩ := (hw.2.2.1.2.2.2.2.2.2.1.1.1 F g2).1
          rw [ns] at i1 i2
          have eb : b = ty_kp mb := b2.2
          have kb := ty_kp_eq mb
          have hb3 := b2.1
          have emb : mb = 400 * F := by omega
          have emg : mg = 400 * F + ms := by
            rw [hoff]
            show (ms + (b - 4294967296)) % 4294967296 = _
            omega
          refine ⟨mb, b2, ?_⟩
          obtain ⟨t1, t2⟩ := tx_lab4 (tx_SE 0)
          unfold ty_lab
          rw [t1, t2, q1, emg, emb]
          exact ⟨by omega, i2⟩
      · cases he
  · cases he)
theorem tx_lab41 (l : Nat) : (Nat.succ (Nat.mul 4 l)) % 4 = 1 ∧ (Nat.succ (Nat.mul 4 l)) / 4 = l := by
  have e : Nat.succ (Nat.mul 4 l) = 4 * l + 1 := rfl
  omega
theorem tx_lab43 (l : Nat) : (Nat.add (Nat.mul 4 l) 3) % 4 = 3 ∧ (Nat.add (Nat.mul 4 l) 3) / 4 = l := by
  have e : Nat.add (Nat.mul 4 l) 3 = 4 * l + 3 := rfl
  omega
noncomputable def ty_isL (b : Nat) (o : Option ix_V) : Bool := match o with
  | some (.inl q) => Nat.beq q b
  | _ => false
theorem ty_isL_ok {b : Nat} {o : Option ix_V} (he : ty_isL b o = true) : o = some (.inl b) := by
  unfold ty_isL at he
  split at he
  · rw [ix_beq.mp he]
  · cases he
/-- behind 'token' moved on -/
noncomputable def ty_c5 (W : ty_W) : Option (Nat × ix_V) := match ty_sl79 W 23 with
  | some v => cond (ty_isI v && (ty_dok v && Nat.blt 4294967296 (ty_rng W.1 v).1)) (match ty_lfd 1 W.1 (ty_dec v) W.2.2.2.2, ty_find W.1 90 (ty_dec v) W.2.2.2.2 with
    | some l, some u => (match tx_rg (Nat.sub (ty_rng W.1 u).1 4294967296) (Nat.sub (ty_rng W.1 u).2 4294967296) (tx_cls l) with
      | some l' => cond (ty_isI u && (Nat.blt 4294967296 (ty_rng W.1 u).1 && (Nat.blt (ty_rng W.1 u).2 4294968295 && (Nat.beq (tx_g l') (tx_g l) && (Nat.blt (ty_rng W.1 u).2 4294967346 || (Nat.blt 4294967346 (ty_rng W.1 u).1 || (!(tx_nm l) || (match ty_find W.1 91 (ty_dec v) W.2.2.2.2 with
        | some z => ty_isI z && (Nat.ble (Nat.add 4294967296 (tx_nb l).1) (ty_rng W.1 z).1 && Nat.ble (ty_rng W.1 z).2 (Nat.add 4294967296 (tx_nb l).2))
        | none => false)))))))) (some (Nat.succ (Nat.mul 4 l'), v)) none
      | none => none)
    | _, _ => none) none
  | none => none
theorem ty_c5_ok : ty_more h (ty_add1 ty_c5) := ty_add1_ok (fun W q v he σ n t hw => by
  unfold ty_c5 at he
  split at he
  · rename_i u0 hu0
    cases hc : (ty_isI u0 && (ty_dok u0 && Nat.blt 4294967296 (ty_rng W.1 u0).1)) with
    | false => rw [hc] at he; cases he
    | true =>
      rw [hc, cond_true] at he
      have c1 := Bool.and_eq_true_iff.mp hc
      have c2 := Bool.and_eq_true_iff.mp c1.2
      split at he
      · rename_i l u hl hu
        split at he
        · rename_i l' hl'
          cases hd : (ty_isI u && (Nat.blt 4294967296 (ty_rng W.1 u).1 && (Nat.blt (ty_rng W.1 u).2 4294968295 && (Nat.beq (tx_g l') (tx_g l) && (Nat.blt (ty_rng W.1 u).2 4294967346 || (Nat.blt 4294967346 (ty_rng W.1 u).1 || (!(tx_nm l) || (match ty_find W.1 91 (ty_dec u0) W.2.2.2.2 with
            | some z => ty_isI z && (Nat.ble (Nat.add 4294967296 (tx_nb l).1) (ty_rng W.1 z).1 && Nat.ble (ty_rng W.1 z).2 (Nat.add 4294967296 (tx_nb l).2))
            | none => false)))))))) with
          | false => rw [hd] at he; cases he
          | true =>
            rw [hd, cond_true] at he
            cases he
            have d1 := Bool.and_eq_true_iff.mp hd
            have d2 := Bool.and_eq_true_iff.mp d1.2
            have d3 := Bool.and_eq_true_iff.mp d2.2
            have d4 := Bool.and_eq_true_iff.mp d3.2
            obtain ⟨m, m1, m2⟩ := ty_sl79_ok hw (by decide) hu0 c1.1
            obtain ⟨m', rfl, m3, m4⟩ := ty_pre hw.1 m2 c2.2 c2.1
            obtain ⟨q0, q1, q2, q3⟩ := ty_lfd_ok (k2 := (ty_k h W).2) hw.1 m4 W.2.2.2.2 hw.2.2.2.2.2 hl
            unfold ty_lab at q3
            rw [q1, q2] at q3
            refine ⟨m' + 1, m2, ?_⟩
            obtain ⟨t1, t2⟩ := tx_lab41 l'
            unfold ty_lab
            rw [t1, t2]
            intro hbad
            obtain ⟨k1, k2, k3, k4⟩ := q3 hbad
            have hcode := ty_find_ok (k2 := (ty_k h W).2) hw.1 m4 W.2.2.2.2 hw.2.2.2.2.2 hu
            have hh := hw.2.2.1
            have e114 := hh.2.2.2.2.2.1.1
            rw [hh.2.2.1 90 (by omega)] at hcode
            obtain ⟨cd, x1, x2⟩ := hcode.toint d1.1
            have r : (ty_rng W.1 u).1 ≤ ty_kp cd ∧ ty_kp cd ≤ (ty_rng W.1 u).2 := ty_rng_ok hw.1 x2
            have y1 := ix_blt.mp d2.1
            have y2 := ix_blt.mp d3.1
            have y3 := ty_kp_eq cd
            have y4 := x2.1
            have ncd : tx_n t 90 m' = cd := by unfold tx_n; rw [x1]
            have hcd0 : 0 < cd := by omega
            have hmt : m' < tx_n t 79 22 := by
              rcases Nat.lt_or_ge m' (tx_n t 79 22) with z | z
              · exact z
              · have e : m' = tx_n t 79 22 := by omega
                rw [← e, ncd] at k3
                omega
            have ep : tx_p t m' = (cd, tx_n t 91 m') := by
              unfold tx_p
              rw [if_pos hmt, ncd, if_neg (by omega)]
            have hrg := tx_rg_ok (c := cd) (by show (ty_rng W.1 u).1 - 4294967296 ≤ cd; omega) (by show cd ≤ (ty_rng W.1 u).2 - 4294967296; omega) (tx_cls l) l' hl'
            have hde : tx_de l cd (tx_n t 91 m') = some l' := by
              unfold tx_de
              cases h50 : Nat.beq cd 50 with
              | false => exact hrg
              | true =>
                have e50 : cd = 50 := ix_beq.mp h50
                cases hnm : tx_nm l with
                | false => exact hrg
                | true =>
                have hz : (Nat.ble (tx_nb l).1 (tx_n t 91 m') && Nat.ble (tx_n t 91 m') (tx_nb l).2) = true := by
                  rcases (Bool.or_eq_true _ _).mp d4.2 with z | z
                  · have := ix_blt.mp z; omega
                  · rcases (Bool.or_eq_true _ _).mp z with z | z
                    · have := ix_blt.mp z; omega
                    · rw [hnm, show (!true) = false from rfl, Bool.false_or] at z
                      split at z
                      · rename_i zz hzz
                        have z1 := Bool.and_eq_true_iff.mp z
                        have z2 := Bool.and_eq_true_iff.mp z1.2
                        have hval := ty_find_ok (k2 := (ty_k h W).2) hw.1 m4 W.2.2.2.2 hw.2.2.2.2.2 hzz
                        rw [hh.2.2.1 91 (by omega)] at hval
                        obtain ⟨vd, v1, v2⟩ := hval.toint z1.1
                        have rv : (ty_rng W.1 zz).1 ≤ ty_kp vd ∧ ty_kp vd ≤ (ty_rng W.1 zz).2 := ty_rng_ok hw.1 v2
                        have nv : tx_n t 91 m' = vd := by unfold tx_n; rw [v1]
                        have g1 : 4294967296 + (tx_nb l).1 ≤ (ty_rng W.1 zz).1 := ix_ble.mp z2.1
                        have g2 : (ty_rng W.1 zz).2 ≤ 4294967296 + (tx_nb l).2 := ix_ble.mp z2.2
                        have g3 := ty_kp_eq vd
                        have g4 := v2.1
                        rw [nv, ix_ble.mpr (show (tx_nb l).1 ≤ vd by omega), ix_ble.mpr (show vd ≤ (tx_nb l).2 by omega)]
                        rfl
                      · cases z
                rw [hz]
                exact hrg
            refine ⟨hmt, k2, k3, fun ha => ?_⟩
            rw [ix_beq.mp d4.1]
            exact k4 (tx_acc.mk (l' := l') (by rw [ep]; exact hde) ha)
        · cases he
      · cases he
  · cases he)
end TYPO
