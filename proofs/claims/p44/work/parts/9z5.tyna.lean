/-! new rows -/
section TYNA
variable {h : ty_H} {pc : Nat}
noncomputable def ty_nwz (T : ty_T) (kd : Nat) (z : ix_V) : Bool := Nat.beq T.1 kd && (Nat.blt kd 100 && cond (Nat.blt kd 3) (match z with
  | .inl m => Nat.beq m 0 && (Nat.beq (ix_g T.2.2.2.1 0).1 0 && (Nat.ble (ix_g T.2.2.2.1 0).2.1 4294967296 && (Nat.ble 4294967296 (ix_g T.2.2.2.1 0).2.2 && T.2.2.2.2.all (fun q => Nat.ble q.2.2.2.2.1 4294967296 && Nat.ble 4294967296 q.2.2.2.2.2))))
  | _ => false) (match z with
  | .inr (.inr (.inl r)) => Nat.beq r 0 && Nat.beq (ix_g T.2.2.2.1 0).1 3
  | _ => false))
theorem ty_nwz_ok {T : ty_T} {kd m : Nat} {z : ix_V} (he : ty_nwz T kd z = true) (h1 : T.2.1 ≤ m) (h2 : m ≤ T.2.2.1) (Γ : Nat → Nat) (n : Nat) : ty_cok Γ n T (kd, m, .leaf z) := by
  have c1 := Bool.and_eq_true_iff.mp he
  have c2 := Bool.and_eq_true_iff.mp c1.2
  have e : T.1 = kd := ix_beq.mp c1.1
  have h100 : kd < 100 := ix_blt.mp c2.1
  have k0 : ty_kp 0 = 4294967296 := by rw [ty_kp_eq]
  have c3 := c2.2
  cases h3 : Nat.blt kd 3 with
  | true =>
    rw [h3, cond_true] at c3
    split at c3
    · rename_i m0
      have d1 := Bool.and_eq_true_iff.mp c3
      have d2 := Bool.and_eq_true_iff.mp d1.2
      have d3 := Bool.and_eq_true_iff.mp d2.2
      have d4 := Bool.and_eq_true_iff.mp d3.2
      have e0 : m0 = 0 := ix_beq.mp d1.1
      subst e0
      refine ⟨e.symm, h1, h2, fun k _ => ⟨fun q => absurd q (by omega), fun _ => ?_, fun _ q hq _ x hx => ?_⟩⟩
      · show ty_sok Γ n (ix_g T.2.2.2.1 0) (.inl 0)
        unfold ty_sok
        rw [show (ix_g T.2.2.2.1 0).1 = 0 from ix_beq.mp d2.1]
        exact ⟨0, rfl, by omega, by rw [k0]; exact ix_ble.mp d3.1, by rw [k0]; exact ix_ble.mp d4.1⟩
      · have hx : (Sum.inl 0 : ix_V) = Sum.inl x := hx
        cases hx
        have z := Bool.and_eq_true_iff.mp (List.all_eq_true.mp d4.2 q hq)
        rw [k0]
        exact ⟨ix_ble.mp z.1, ix_ble.mp z.2⟩
    · cases c3
  | false =>
    rw [h3, cond_false] at c3
    have h3' := ix_blt_f.mp h3
    split at c3
    · rename_i r
      have d1 := Bool.and_eq_true_iff.mp c3
      have e0 : r = 0 := ix_beq.mp d1.1
      subst e0
      refine ⟨e.symm, h1, h2, fun k _ => ⟨fun q => absurd q (by omega), fun _ => ?_, fun q => absurd q (by omega)⟩⟩
      show ty_sok Γ n (ix_g T.2.2.2.1 0) (.inr (.inr (.inl 0)))
      unfold ty_sok
      rw [show (ix_g T.2.2.2.1 0).1 = 3 from ix_beq.mp d1.2]
      exact Or.inl rfl
    · cases c3
noncomputable def ty_nwa (h : ty_H) (a kd : Nat) (z : ix_V) (capC capS nx : Nat) : ty_S → ty_R
  | (W, L, v :: st, w) => cond (ty_isI v && (Nat.ble 114 a && (ty_nwz (h.2 a) kd z && (Nat.ble (Nat.succ w.1) capC && (Nat.ble (Nat.add 4294967296 (h.2 a).2.1) (ty_rng W.1 v).1 && (Nat.ble (ty_rng W.1 v).2 (Nat.add 4294967296 (h.2 a).2.2.1) && (Nat.ble (h.2 a).2.2.1 16384 && Nat.ble (Nat.add w.2 (Nat.sub (ty_rng W.1 v).2 4294967296)) capS))))))) (match ty_rf h a W with
    | some (x, W') => some [(nx, (ty_kn W' ((Nat.add h.1 W.2.2.1.1, .inr (.inr (.inl 0))), v), L, x :: st, (Nat.succ w.1, Nat.add w.2 (Nat.sub (ty_rng W.1 v).2 4294967296))))]
    | none => none) none
  | _ => none
theorem ts_nwa {N K a kd capC capS nx : Nat} {z : ix_V} (hK : capC ≤ K) : ty_sd h (N, K) pc (fun _ => ix_newa kd z capC capS nx) (ty_nwa h a kd z capC capS nx) := by
  intro S outs hs σ C hi
  obtain ⟨W, L, st, w⟩ := S
  obtain ⟨ls, stk, n, t, ce, sl⟩ := C
  rcases st with _ | ⟨v, st⟩
  · cases hs
  change cond (ty_isI v && (Nat.ble 114 a && (ty_nwz (h.2 a) kd z && (Nat.ble (Nat.succ w.1) capC && (Nat.ble (Nat.add 4294967296 (h.2 a).2.1) (ty_rng W.1 v).1 && (Nat.ble (ty_rng W.1 v).2 (Nat.add 4294967296 (h.2 a).2.2.1) && (Nat.ble (h.2 a).2.2.1 16384 && Nat.ble (Nat.add w.2 (Nat.sub (ty_rng W.1 v).2 4294967296)) capS))))))) (match ty_rf h a W with
    | some (x, W') => some [(nx, (ty_kn W' ((Nat.add h.1 W.2.2.1.1, .inr (.inr (.inl 0))), v), L, x :: st, (Nat.succ w.1, Nat.add w.2 (Nat.sub (ty_rng W.1 v).2 4294967296))))]
    | none => none) none = some outs at hs
  cases hc : (ty_isI v && (Nat.ble 114 a && (ty_nwz (h.2 a) kd z && (Nat.ble (Nat.succ w.1) capC && (Nat.ble (Nat.add 4294967296 (h.2 a).2.1) (ty_rng W.1 v).1 && (Nat.ble (ty_rng W.1 v).2 (Nat.add 4294967296 (h.2 a).2.2.1) && (Nat.ble (h.2 a).2.2.1 16384 && Nat.ble (Nat.add w.2 (Nat.sub (ty_rng W.1 v).2 4294967296)) capS))))))) with
  | false => rw [hc] at hs; cases hs
  | true =>
    rw [hc, cond_true] at hs
    have c1 := Bool.and_eq_true_iff.mp hc
    have c2 := Bool.and_eq_true_iff.mp c1.2
    have c3 := Bool.and_eq_true_iff.mp c2.2
    have c4 := Bool.and_eq_true_iff.mp c3.2
    have c5 := Bool.and_eq_true_iff.mp c4.2
    have c6 := Bool.and_eq_true_iff.mp c5.2
    have c7 := Bool.and_eq_true_iff.mp c6.2
    have d1 : w.1 + 1 ≤ capC := ix_ble.mp c4.1
    have d2 : 4294967296 + (h.2 a).2.1 ≤ (ty_rng W.1 v).1 := ix_ble.mp c5.1
    have d3 : (ty_rng W.1 v).2 ≤ 4294967296 + (h.2 a).2.2.1 := ix_ble.mp c6.1
    have d4 : (h.2 a).2.2.1 ≤ 16384 := ix_ble.mp c7.1
    have d5 : w.2 + ((ty_rng W.1 v).2 - 4294967296) ≤ capS := ix_ble.mp c7.2
    obtain ⟨e1, e2, e3, e4, e5⟩ := hi.2.2.2
    have e1 : ce ≤ w.1 := e1
    have e2 : sl ≤ w.2 := e2
    have e3 : n ≤ N + ce := e3
    have e4 : N + K ≤ 16384 := e4
    have e5 : w.1 ≤ K := e5
    obtain ⟨x, stk1, q1, x2, x3⟩ := ty_vs_1 hi.2.2.1
    have q1' : stk = x :: stk1 := q1
    subst q1'
    obtain ⟨m, rfl, hm⟩ := x2.toint c1.1
    have hr : (ty_rng W.1 v).1 ≤ ty_kp m ∧ ty_kp m ≤ (ty_rng W.1 v).2 := ty_rng_ok hi.1.1 hm
    obtain ⟨m31, mk⟩ := ty_nn hm.1 (show 4294967296 ≤ ty_kp m by omega)
    split at hs
    · rename_i y W' hrf
      cases hs
      have hn : n < 16384 := by omega
      obtain ⟨σ', s1, s2, s3, s4, s5⟩ := hi.1.push (c := (kd, m, .leaf z)) hrf hn (ix_ble.mp c2.1) (fun Γ => ty_nwz_ok c3.1 (by omega) (by omega) Γ _)
      have ew : W'.2.2.1.1 = W.2.2.1.1 + 1 ∧ y = .inr (.inr (.inl (h.1 + W.2.2.1.1 + 1))) := by
        unfold ty_rf at hrf
        cases hb : Nat.blt W.2.2.1.1 256 with
        | false => rw [hb] at hrf; cases hrf
        | true => rw [hb] at hrf; cases hrf; exact ⟨rfl, rfl⟩
      have hlt : h.1 + W.2.2.1.1 < h.1 + W'.2.2.1.1 := by rw [ew.1]; omega
      have hy := s4
      rw [ew.2] at hy
      have hnm := ty_named s3 hy hlt
      have en : n = σ'.2.2.1 (h.1 + W.2.2.1.1) := by
        have q9 : n + 1 = σ'.2.2.1 (h.1 + W.2.2.1.1) + 1 := Sum.inl.inj (Sum.inr.inj (Sum.inr.inj hnm))
        exact Nat.succ.inj q9
      have hlen : (ix_g (ix_u 14 t n (kd, m, (.leaf z : ix_A))) (σ'.2.2.1 (h.1 + W.2.2.1.1))).2.1 = m := by
        rw [← en, ix_gu 14 t n n _ (by show n < 16384; omega) (by show n < 16384; omega), if_pos rfl]
      have hmv : ty_iv W'.1.1 σ'.1 v m := hm.ag s2.1 s1.1
      have hf : ty_fok (ty_k h W') σ' (ix_u 14 t n (kd, m, (.leaf z : ix_A))) ((Nat.add h.1 W.2.2.1.1, .inr (.inr (.inl 0))), v) := ⟨hlt, by
        show ty_iv _ _ v _
        rw [show (Nat.add h.1 W.2.2.1.1) = h.1 + W.2.2.1.1 from rfl]
        dsimp only
        rw [hlen]
        exact hmv⟩
      refine ty_sd1 s1 s2 (C' := (ls, .inr (.inr (.inl (n + 1))) :: stk1, n + 1, ix_u 14 t n (kd, m, .leaf z), ce + 1, sl + m)) ⟨s3.kn hf, hi.2.1.ag s2 s1.k, ⟨s4, x3.ag s2 s1.k⟩, ⟨by show ce + 1 ≤ w.1 + 1; omega, by show sl + m ≤ w.2 + ((ty_rng W.1 v).2 - 4294967296); omega, by show n + 1 ≤ N + (ce + 1); omega, e4, by show w.1 + 1 ≤ K; omega⟩⟩ (fun g => ?_)
      show cond (Nat.ble m 16384 && (Nat.blt n 16384 && (Nat.ble (Nat.succ ce) capC && Nat.ble (Nat.add sl m) capS))) _ none = _
      rw [ix_ble.mpr (show m ≤ 16384 by omega), ix_blt.mpr hn, ix_ble.mpr (show Nat.succ ce ≤ capC by omega), ix_ble.mpr (show Nat.add sl m ≤ capS from (by show sl + m ≤ capS; omega))]
      rfl
    · cases hs
end TYNA
