/-! a difference that is asked for being a number: three outcomes -/
section TYSB
variable {h : ty_H} {cp : Nat × Nat} {pc : Nat}
noncomputable def ty_sbl (nx : Nat) (W : ty_W) (L : ix_L) (st : List ix_V) (w : Nat × Nat) (N : Nat) : Option ty_A → List (Nat × ty_S)
  | some A => [(nx, ((A, W.2), L, .inl N :: st, w))]
  | none => []
noncomputable def ty_sbc (A : ty_A) (a b : ix_V) (N : Nat) : Bool := ty_isI a && (ty_isI b && (Nat.ble 4294967296 N && (Nat.ble N 4295967296 && (Nat.ble 4294967296 (ty_rng A b).1 && (Nat.ble (ty_rng A b).2 4295967296 && (Nat.ble 4294967296 (ty_rng A a).1 && Nat.ble (ty_rng A a).2 4295967296))))))
noncomputable def ty_sbn (nx : Nat) : ty_S → ty_R
  | (W, L, b :: a :: c :: st, w) => (match c with
    | .inl N => cond (ty_sbc W.1 a b N) (match ty_fr 4293967296 (Nat.pred N) W.1 with
      | some (v1, A1) => (match ty_fr (Nat.succ N) 4295967297 W.1 with
        | some (v2, A2) => some (ty_sbl nx W L (c :: st) w N (ty_2 W.1 a b (Nat.sub (Nat.add (ty_rng W.1 b).1 N) 4294967296) 6442450943 0 (Nat.sub (Nat.add (ty_rng W.1 a).2 4294967296) N)) ++ [(nx, ((A1, W.2), L, v1 :: c :: st, w)), (nx, ((A2, W.2), L, v2 :: c :: st, w))])
        | none => none)
      | none => none) none
    | _ => none)
  | _ => none
theorem ty_sb_kp {m n : Nat} (hm : m < 4294967296) (hn : n < 4294967296) (h1 : 4294967296 ≤ ty_kp m) (h2 : ty_kp m ≤ 4295967296) (h3 : 4294967296 ≤ ty_kp n) (h4 : ty_kp n ≤ 4295967296) : ix_sub m n < 4294967296 ∧ ty_kp (ix_sub m n) + ty_kp n = ty_kp m + 4294967296 := by
  have e : ix_sub m n = (m + 4294967296 - n) % 4294967296 := rfl
  obtain ⟨a1, a2⟩ := ty_nn hm h1
  obtain ⟨b1, b2⟩ := ty_nn hn h3
  rw [e, ty_kp_eq]
  omega
theorem ts_sbn {nx : Nat} : ty_sd h cp pc (fun _ => ix_isub nx) (ty_sbn nx) := by
  intro S outs hs σ C hi
  obtain ⟨⟨B, W2⟩, L, st, w⟩ := S
  obtain ⟨ls, stk, n, t, ce, sl⟩ := C
  rcases st with _ | ⟨b, _ | ⟨a, _ | ⟨c, st⟩⟩⟩
  · cases hs
  · cases hs
  · cases hs
  · unfold ty_sbn at hs
    dsimp only at hs
    split at hs
    rotate_left
    · cases hs
    rename_i N
    cases hc : ty_sbc B a b N with
    | false => rw [hc] at hs; cases hs
    | true =>
      rw [hc, cond_true] at hs
      have c1 := Bool.and_eq_true_iff.mp (show (ty_isI a && (ty_isI b && (Nat.ble 4294967296 N && (Nat.ble N 4295967296 && (Nat.ble 4294967296 (ty_rng B b).1 && (Nat.ble (ty_rng B b).2 4295967296 && (Nat.ble 4294967296 (ty_rng B a).1 && Nat.ble (ty_rng B a).2 4295967296))))))) = true from hc)
      have c2 := Bool.and_eq_true_iff.mp c1.2
      have c3 := Bool.and_eq_true_iff.mp c2.2
      have c4 := Bool.and_eq_true_iff.mp c3.2
      have c5 := Bool.and_eq_true_iff.mp c4.2
      have c6 := Bool.and_eq_true_iff.mp c5.2
      have c7 := Bool.and_eq_true_iff.mp c6.2
      have n1 := ix_ble.mp c3.1
      have n2 := ix_ble.mp c4.1
      have b1 := ix_ble.mp c5.1
      have b2 := ix_ble.mp c6.1
      have a1 := ix_ble.mp c7.1
      have a2 := ix_ble.mp c7.2
      split at hs
      rotate_left
      · cases hs
      rename_i v1 A1 hf1
      split at hs
      rotate_left
      · cases hs
      rename_i v2 A2 hf2
      have ho := Option.some.inj hs
      obtain ⟨x, stk', e, x2, x3⟩ := ty_vs_1 hi.2.2.1
      obtain ⟨y, stk2, e2, y2, y3⟩ := ty_vs_1 x3
      have e' : stk = x :: y :: stk2 := by rw [← e2]; exact e
      subst e'
      obtain ⟨nb, rfl, hb⟩ := x2.toint c2.1
      obtain ⟨na, rfl, ha⟩ := y2.toint c1.1
      have rb : (ty_rng B b).1 ≤ ty_kp nb ∧ ty_kp nb ≤ (ty_rng B b).2 := ty_rng_ok hi.1.1 hb
      have ra : (ty_rng B a).1 ≤ ty_kp na ∧ ty_kp na ≤ (ty_rng B a).2 := ty_rng_ok hi.1.1 ha
      obtain ⟨k1, k2⟩ := ty_sb_kp ha.1 hb.1 (by omega) (by omega) (by omega) (by omega)
      obtain ⟨d, hd⟩ : ∃ d, ix_sub na nb = d := ⟨_, rfl⟩
      have hstep : ∀ g : Nat, ix_isub nx ([], ls, .inl nb :: .inl na :: stk2, n, t, ce, sl) = some [(nx, ([], ls, .inl d :: stk2, n, t, ce, sl))] := fun g => by rw [← hd]; rfl
      rw [hd] at k1 k2
      clear hd
      by_cases q1 : ty_kp d = N
      · obtain ⟨A', z1, z2, z3⟩ := ty_2_ok (la := Nat.sub (Nat.add (ty_rng B b).1 N) 4294967296) (ha := 6442450943) (lb := 0) (hb := Nat.sub (Nat.add (ty_rng B a).2 4294967296) N) hi.1.1 ha hb (show (ty_rng B b).1 + N - 4294967296 ≤ ty_kp na by omega) (by have := ty_kp_hi na; omega) (Nat.zero_le _) (show ty_kp nb ≤ (ty_rng B a).2 + 4294967296 - N by omega)
        have hw := ty_wk.set hi.1 z2 z3
        have kk : ty_k h (A', W2) = ty_k h (B, W2) := by unfold ty_k; rw [show (A', W2).1.1 = A'.1 from rfl, z2]
        refine ⟨(nx, ((A', W2), L, .inl N :: .inl N :: st, w)), by rw [← ho, z1]; exact List.mem_cons_self, σ, (ls, .inl d :: stk2, n, t, ce, sl), ty_mo_k kk, ty_agr.rf, ty_in.cd hw kk hi.2.1 ⟨⟨d, rfl, k1, q1.symm⟩, y3⟩ hi.2.2.2, Or.inr ⟨0, fun g _ => hstep g⟩⟩
      · by_cases q2 : ty_kp d < N
        · obtain ⟨s, s1, s2, s3, s4⟩ := ty_fr_ok hi.1.1 hf1 k1 (by omega) (show ty_kp d ≤ N - 1 by omega)
          obtain ⟨g1, g2, g3⟩ := ty_wk.boxes hi.1 s1 s2 s3
          exact ⟨(nx, ((A1, W2), L, v1 :: .inl N :: st, w)), by rw [← ho]; exact List.mem_append.mpr (Or.inr List.mem_cons_self), _, (ls, .inl d :: stk2, n, t, ce, sl), g3, g2, ⟨g1, hi.2.1.ag g2 g3.k, ⟨ty_rv.int s4, y3.ag g2 g3.k⟩, hi.2.2.2.ag g2⟩, Or.inr ⟨0, fun g _ => hstep g⟩⟩
        · obtain ⟨s, s1, s2, s3, s4⟩ := ty_fr_ok hi.1.1 hf2 k1 (show N + 1 ≤ ty_kp d by omega) (by omega)
          obtain ⟨g1, g2, g3⟩ := ty_wk.boxes hi.1 s1 s2 s3
          exact ⟨(nx, ((A2, W2), L, v2 :: .inl N :: st, w)), by rw [← ho]; exact List.mem_append.mpr (Or.inr (List.mem_cons_of_mem _ List.mem_cons_self)), _, (ls, .inl d :: stk2, n, t, ce, sl), g3, g2, ⟨g1, hi.2.1.ag g2 g3.k, ⟨ty_rv.int s4, y3.ag g2 g3.k⟩, hi.2.2.2.ag g2⟩, Or.inr ⟨0, fun g _ => hstep g⟩⟩
noncomputable def ty_tgl (k pc : Nat) (a : ty_S → ty_R) : ty_S → ty_R := fun S => match S.2.1[k]? with
  | some (some (.inr (.inr (.inr (x, _))))) => (match S.1.2.2.2.1.find? (fun q => Nat.beq q.1 x && (Nat.blt (Nat.sub (Nat.add (ix_g S.1.1.2 q.2.2).2 4294967296) q.2.1) (ix_g S.1.1.2 x).2 && Nat.ble (ix_g S.1.1.2 x).1 (Nat.sub (Nat.add (ix_g S.1.1.2 q.2.2).2 4294967296) q.2.1))) with
    | some q => some [(pc, (((S.1.1.1, ix_u 8 S.1.1.2 x ((ix_g S.1.1.2 x).1, Nat.sub (Nat.add (ix_g S.1.1.2 q.2.2).2 4294967296) q.2.1)), S.1.2), S.2))]
    | none => a S)
  | _ => a S
theorem ts_tgl {k : Nat} {f : Nat → ix_S → ix_R} {a : ty_S → ty_R} (ha : ty_sd h cp pc f a) : ty_sd h cp pc f (ty_tgl k pc a) := by
  intro S outs hs σ C hi
  unfold ty_tgl at hs
  split at hs
  · rename_i x c hst
    split at hs
    · rename_i q hq
      have ho := Option.some.inj hs
      have hm := List.mem_of_find?_eq_some hq
      have hp := List.find?_some hq
      have c1 := Bool.and_eq_true_iff.mp hp
      have c2 := Bool.and_eq_true_iff.mp c1.2
      have ex : q.1 = x := ix_beq.mp c1.1
      have g1 := ix_blt.mp c2.1
      have g2 := ix_ble.mp c2.2
      obtain ⟨q1, q2, q3⟩ := hi.1.2.2.2.2.1 q hm
      have hx : x < S.1.1.1 := by rw [← ex]; exact q1
      rw [ex] at q3
      obtain ⟨u, hu⟩ : ∃ u, Nat.sub (Nat.add (ix_g S.1.1.2 q.2.2).2 4294967296) q.2.1 = u := ⟨_, rfl⟩
      rw [hu] at g1 g2 ho
      have hu' : (ix_g S.1.1.2 q.2.2).2 + 4294967296 - q.2.1 = u := hu
      have b := hi.1.1.2 x hx
      have b2 := hi.1.1.2 q.2.2 q2
      obtain ⟨i1, i2⟩ := ty_in_box (u := u) hi hx (Nat.le_refl _) b.2.1 (by omega) (by omega)
      exact ⟨_, by rw [← ho]; exact List.mem_cons_self, σ, C, i2, ty_agr.rf, i1, Or.inl ⟨rfl, rfl⟩⟩
    · exact ha S outs hs σ C hi
  · exact ha S outs hs σ C hi
end TYSB
