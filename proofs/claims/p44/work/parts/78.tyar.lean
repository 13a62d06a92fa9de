/-! the typed machine's stores of fields, its rows -/
section TYR
variable {h : ty_H} {cp : Nat × Nat} {pc : Nat}
theorem ty_put_f {σ : ty_Sg} {W : ty_W} {n p m d : Nat} {t : ix_T} {j v w : ix_V} (hn : σ.2.2.1 p < n) (hn2 : n ≤ 16384) (hp : p < h.1 + W.2.2.1.1) (hj : ty_iv W.1.1 σ.1 j m) (hm : m < (ix_g t (σ.2.2.1 p)).2.1) (hd : (ix_g t (σ.2.2.1 p)).2.1 ≤ 2 ^ d) (hv : ty_rv (ty_k h W) σ v w) : ty_fok (ty_k h (ty_stl h W p j)) σ (ix_u 14 t (σ.2.2.1 p) ((ix_g t (σ.2.2.1 p)).1, (ix_g t (σ.2.2.1 p)).2.1, ix_u d (ix_g t (σ.2.2.1 p)).2.2 m w)) ((p, j), v) := by
  have hg := ix_gu 14 t (σ.2.2.1 p) (σ.2.2.1 p) ((ix_g t (σ.2.2.1 p)).1, (ix_g t (σ.2.2.1 p)).2.1, ix_u d (ix_g t (σ.2.2.1 p)).2.2 m w) (by show _ < 16384; omega) (by show _ < 16384; omega)
  rw [if_pos rfl] at hg
  refine ty_fok_int hp hj ?_ ?_
  · rw [hg]; exact hm
  · rw [hg]
    show ty_rv _ σ v (ix_g (ix_u d (ix_g t (σ.2.2.1 p)).2.2 m w) m)
    rw [ix_gu d _ m m w (by omega) (by omega), if_pos rfl]
    exact hv
noncomputable def ty_putf (h : ty_H) (ci k nx : Nat) (aok : ty_A → ix_V → Bool) : ty_S → ty_R
  | (W, L, v :: .inr (.inr (.inl r)) :: st, w) => match r with
    | 0 => none
    | p + 1 => cond (Nat.blt p (Nat.add h.1 W.2.2.1.1) && (Nat.beq (h.2 (ty_ty h W p)).1 ci && (Nat.blt k (h.2 (ty_ty h W p)).2.1 && (Nat.ble 100 (h.2 (ty_ty h W p)).1 && (Nat.ble (h.2 (ty_ty h W p)).2.2.1 64 && (aok W.1 v && (ty_nps h W p (.inl (Nat.add 4294967296 k)) && ty_vok h W (ix_g (h.2 (ty_ty h W p)).2.2.2.1 k) v)))))))
      (some [(nx, (ty_kn (ty_stl h W p (.inl (Nat.add 4294967296 k))) ((p, .inl (Nat.add 4294967296 k)), v), L, st, w))]) none
  | _ => none
theorem ts_putf {ci k nx : Nat} {aok : ty_A → ix_V → Bool} {ok : ix_V → Bool} (hk : ty_okp aok ok) : ty_sd h cp pc (fun _ => ix_putf ci k nx ok) (ty_putf h ci k nx aok) := by
  intro S outs hs σ C hi
  obtain ⟨W, L, st, w⟩ := S
  obtain ⟨ls, stk, n, t, ce, sl⟩ := C
  rcases st with _ | ⟨v, _ | ⟨a, st⟩⟩
  · cases hs
  · cases hs
  · rcases a with b | q | r | q
    · cases hs
    · cases hs
    · cases r with
      | zero => cases hs
      | succ p =>
        change cond (Nat.blt p (Nat.add h.1 W.2.2.1.1) && (Nat.beq (h.2 (ty_ty h W p)).1 ci && (Nat.blt k (h.2 (ty_ty h W p)).2.1 && (Nat.ble 100 (h.2 (ty_ty h W p)).1 && (Nat.ble (h.2 (ty_ty h W p)).2.2.1 64 && (aok W.1 v && (ty_nps h W p (.inl (Nat.add 4294967296 k)) && ty_vok h W (ix_g (h.2 (ty_ty h W p)).2.2.2.1 k) v))))))) _ none = some outs at hs
        cases hc : (Nat.blt p (Nat.add h.1 W.2.2.1.1) && (Nat.beq (h.2 (ty_ty h W p)).1 ci && (Nat.blt k (h.2 (ty_ty h W p)).2.1 && (Nat.ble 100 (h.2 (ty_ty h W p)).1 && (Nat.ble (h.2 (ty_ty h W p)).2.2.1 64 && (aok W.1 v && (ty_nps h W p (.inl (Nat.add 4294967296 k)) && ty_vok h W (ix_g (h.2 (ty_ty h W p)).2.2.2.1 k) v))))))) with
        | false => rw [hc] at hs; cases hs
        | true =>
          rw [hc] at hs
          dsimp only [cond_true] at hs
          have ho := Option.some.inj hs
          have c1 := Bool.and_eq_true_iff.mp hc
          have c2 := Bool.and_eq_true_iff.mp c1.2
          have c3 := Bool.and_eq_true_iff.mp c2.2
          have c4 := Bool.and_eq_true_iff.mp c3.2
          have c5 := Bool.and_eq_true_iff.mp c4.2
          have c6 := Bool.and_eq_true_iff.mp c5.2
          have c7 := Bool.and_eq_true_iff.mp c6.2
          have hp : p < h.1 + W.2.2.1.1 := ix_blt.mp c1.1
          have ekd := ix_beq.mp c2.1
          have hkl := ix_blt.mp c3.1
          have h100 := ix_ble.mp c4.1
          have h64 := ix_ble.mp c5.1
          obtain ⟨x, stk', e, x2, x3⟩ := ty_vs_1 hi.2.2.1
          obtain ⟨y, stk2, e2, y2, y3⟩ := ty_vs_1 x3
          have e' : stk = x :: y :: stk2 := by rw [← e2]; exact e
          subst e'
          have hy := ty_named hi.1 y2 hp
          subst hy
          obtain ⟨hn, hty⟩ := ty_ty_ok hi.1 hp
          have hcok := hi.1.2.2.1.2.2.2.1 _ hn
          rw [hty] at hcok
          obtain ⟨o1, o2, o3, o4⟩ := hcok
          have hl : k < (ix_g t (σ.2.2.1 p)).2.1 := Nat.lt_of_lt_of_le hkl o2
          have hl64 : (ix_g t (σ.2.2.1 p)).2.1 ≤ 2 ^ 6 := Nat.le_trans o3 h64
          have hj : ty_iv W.1.1 σ.1 (.inl (Nat.add 4294967296 k)) k := ty_ivk (by have : (2 : Nat) ^ 6 = 64 := rfl; omega)
          have hok := hk W.1 _ σ v x hi.1.1 x2 c6.1
          have hput := ty_put (d := 6) (w := x) hi.1 hp hj hl (by have : (2 : Nat) ^ 6 = 64 := rfl; omega) hl64 (Nat.le_refl _) (fun q => absurd q (by have : (2 : Nat) ^ 6 = 64 := rfl; show ¬ 64 < (ix_g t (σ.2.2.1 p)).2.1; omega)) c7.1 (fun T hT => by
            subst hT
            exact ⟨fun _ => ty_vok_ok hi.1 x2 c7.2, fun q => absurd (show (h.2 (ty_ty h W p)).1 < 100 from q) (by omega), fun q => absurd (show (h.2 (ty_ty h W p)).1 < 3 from q) (by omega)⟩)
          have hfact := ty_put_f (d := 6) (v := v) hn hi.1.2.2.1.2.1 hp hj hl hl64 x2
          refine ⟨_, by rw [← ho]; exact List.mem_cons_self, σ, (ls, stk2, n, ix_u 14 t (σ.2.2.1 p) ((ix_g t (σ.2.2.1 p)).1, (ix_g t (σ.2.2.1 p)).2.1, ix_u 6 (ix_g t (σ.2.2.1 p)).2.2 k x), ce, sl), ty_mo.rf, ty_agr.rf, ⟨hput.kn hfact, hi.2.1, y3, hi.2.2.2⟩, Or.inr ⟨0, fun g _ => ?_⟩⟩
          show cond (Nat.blt (σ.2.2.1 p) n && ok x) (match ix_g t (σ.2.2.1 p) with
            | (kd, len, f) => cond (Nat.beq kd ci && Nat.blt k len) (some [(nx, ([], ls, stk2, n, ix_u 14 t (σ.2.2.1 p) (kd, len, ix_u 6 f k x), ce, sl))]) none) none = _
          rw [ix_blt.mpr hn, hok]
          show cond (Nat.beq (ix_g t (σ.2.2.1 p)).1 ci && Nat.blt k (ix_g t (σ.2.2.1 p)).2.1) _ none = _
          rw [ix_beq.mpr (o1.trans ekd), ix_blt.mpr hl]
          rfl
    · cases hs
/-- a symbol and an offset lie below a value by so much -/
noncomputable def ty_lq (A : ty_A) (Q : ty_Q) (jj : Nat) (b : ix_V) (f : Nat) : Nat → Nat → Bool :=
  Nat.rec (motive := fun _ => Nat → Nat → Bool) (fun _ _ => false) (fun _ ih x c =>
    (match ty_sy A b with
      | some (y, d) => Nat.beq x y && Nat.ble (Nat.add c jj) d
      | none => false) || (Nat.ble (Nat.add (Nat.add (ix_g A.2 x).2 c) jj) (Nat.add (ty_rng A b).1 4294967296) || Q.any (fun q => Nat.beq q.1 x && (Nat.ble q.2.1 (Nat.add c 4294967296) && ih q.2.2 (Nat.sub (Nat.add c 4294967296) q.2.1))))) f
theorem ty_lq_ok {σ : Nat → Nat} {A : ty_A} {Q : ty_Q} {jj n : Nat} {b : ix_V} (hA : ty_bx σ A) (hQ : ∀ q ∈ Q, q.1 < A.1 ∧ q.2.2 < A.1 ∧ σ q.1 + q.2.1 ≤ σ q.2.2 + 4294967296) (hb : ty_iv A.1 σ b n) : ∀ (f x c : Nat), x < A.1 → ty_lq A Q jj b f x c = true → σ x + c + jj ≤ ty_kp n + 4294967296
  | 0, x, c, _, he => by cases he
  | f + 1, x, c, hx, he => by
    change ((match ty_sy A b with
      | some (y, d) => Nat.beq x y && Nat.ble (Nat.add c jj) d
      | none => false) || (Nat.ble (Nat.add (Nat.add (ix_g A.2 x).2 c) jj) (Nat.add (ty_rng A b).1 4294967296) || Q.any (fun q => Nat.beq q.1 x && (Nat.ble q.2.1 (Nat.add c 4294967296) && ty_lq A Q jj b f q.2.2 (Nat.sub (Nat.add c 4294967296) q.2.1))))) = true at he
    rcases (Bool.or_eq_true _ _).mp he with he | he
    · split at he
      · rename_i y d hy
        have c1 := Bool.and_eq_true_iff.mp he
        have e1 := ix_beq.mp c1.1
        have e2 : c + jj ≤ d := ix_ble.mp c1.2
        obtain ⟨_, e3⟩ := ty_sy_ok hA hb hy
        subst e1
        omega
      · cases he
    · rcases (Bool.or_eq_true _ _).mp he with he | he
      · have e1 : (ix_g A.2 x).2 + c + jj ≤ (ty_rng A b).1 + 4294967296 := ix_ble.mp he
        have e2 := hA.2 x hx
        have e3 := ty_rng_ok hA hb
        omega
      · obtain ⟨q, q1, q2⟩ := List.any_eq_true.mp he
        have c1 := Bool.and_eq_true_iff.mp q2
        have c2 := Bool.and_eq_true_iff.mp c1.2
        have e1 := ix_beq.mp c1.1
        have e2 : q.2.1 ≤ c + 4294967296 := ix_ble.mp c2.1
        obtain ⟨g1, g2, g3⟩ := hQ q q1
        have ih := ty_lq_ok hA hQ hb f q.2.2 (c + 4294967296 - q.2.1) g2 c2.2
        subst e1
        omega
/-- one lies below another by so much -/
noncomputable def ty_le (A : ty_A) (Q : ty_Q) (a b : ix_V) (jj : Nat) : Bool := Nat.ble (Nat.add (ty_rng A a).2 jj) (ty_rng A b).1 || (match ty_sy A a with
  | some (x, c) => ty_lq A Q jj b 4 x c
  | none => false)
theorem ty_le_ok {σ : Nat → Nat} {A : ty_A} {Q : ty_Q} {jj m n : Nat} {a b : ix_V} (hA : ty_bx σ A) (hQ : ∀ q ∈ Q, q.1 < A.1 ∧ q.2.2 < A.1 ∧ σ q.1 + q.2.1 ≤ σ q.2.2 + 4294967296) (ha : ty_iv A.1 σ a m) (hb : ty_iv A.1 σ b n) (he : ty_le A Q a b jj = true) : ty_kp m + jj ≤ ty_kp n := by
  rcases (Bool.or_eq_true _ _).mp he with he | he
  · have e1 : (ty_rng A a).2 + jj ≤ (ty_rng A b).1 := ix_ble.mp he
    have r1 := ty_rng_ok hA ha
    have r2 := ty_rng_ok hA hb
    omega
  · split at he
    · rename_i x c hx
      obtain ⟨x1, x2⟩ := ty_sy_ok hA ha hx
      have := ty_lq_ok hA hQ hb 4 x c x1 he
      omega
    · cases he
noncomputable def ty_lenf (p : Nat) : ty_X → Option ix_V
  | [] => none
  | f :: X => cond (Nat.beq f.1.1 p && ix_isRef f.1.2) (some f.2) (ty_lenf p X)
theorem ty_lenf_ok {k : ty_K} {σ : ty_Sg} {t : ix_T} {p : Nat} {v : ix_V} : ∀ (X : ty_X), (∀ f ∈ X, ty_fok k σ t f) → ty_lenf p X = some v → ty_iv k.1 σ.1 v (ix_g t (σ.2.2.1 p)).2.1
  | [], _, he => by cases he
  | f :: X, hX, he => by
    change cond (Nat.beq f.1.1 p && ix_isRef f.1.2) (some f.2) (ty_lenf p X) = some v at he
    cases hc : (Nat.beq f.1.1 p && ix_isRef f.1.2) with
    | false => rw [hc] at he; exact ty_lenf_ok X (fun f hf => hX f (List.mem_cons_of_mem _ hf)) he
    | true =>
      rw [hc] at he
      cases he
      have c1 := Bool.and_eq_true_iff.mp hc
      have hf := hX f List.mem_cons_self
      obtain ⟨⟨q, i⟩, v⟩ := f
      have eq : q = p := ix_beq.mp c1.1
      subst eq
      rcases i with b | l | r | y
      · cases c1.2
      · cases c1.2
      · exact hf.2
      · cases c1.2
/-- a place lies within a row -/
noncomputable def ty_idx (h : ty_H) (W : ty_W) (p : Nat) (j : ix_V) : Bool := ty_isI j && (Nat.ble 4294967296 (ty_rng W.1 j).1 && (Nat.blt (ty_rng W.1 j).2 (Nat.add 4294967296 (h.2 (ty_ty h W p)).2.1) || (match ty_lenf p W.2.2.2.2 with
  | some v => ty_le W.1 W.2.2.2.1 j v 1
  | none => false)))
theorem ty_idx_ok {σ : ty_Sg} {W : ty_W} {n p m : Nat} {t : ix_T} {j : ix_V} (hw : ty_wk h σ W n t) (hp : p < h.1 + W.2.2.1.1) (hj : ty_iv W.1.1 σ.1 j m) (he : ty_idx h W p j = true) : m < (ix_g t (σ.2.2.1 p)).2.1 ∧ m < 2147483648 ∧ ty_kp m = m + 4294967296 := by
  have c1 := Bool.and_eq_true_iff.mp he
  have c2 := Bool.and_eq_true_iff.mp c1.2
  have g1 := ix_ble.mp c2.1
  have r := ty_rng_ok hw.1 hj
  obtain ⟨e1, e2⟩ := ty_nn hj.1 (by omega)
  refine ⟨?_, e1, e2⟩
  obtain ⟨hn, hty⟩ := ty_ty_ok hw hp
  have hcok := hw.2.2.1.2.2.2.1 _ hn
  rw [hty] at hcok
  rcases (Bool.or_eq_true _ _).mp c2.2 with q | q
  · have q1 : (ty_rng W.1 j).2 < 4294967296 + (h.2 (ty_ty h W p)).2.1 := ix_blt.mp q
    have := hcok.2.1
    omega
  · split at q
    · rename_i v hv
      have hlen := ty_lenf_ok _ hw.2.2.2.2.2 hv
      have := ty_le_ok hw.1 hw.2.2.2.2.1 hj hlen q
      have e3 := ty_kp_eq (ix_g t (σ.2.2.1 p)).2.1
      have e4 := hlen.1
      omega
    · cases q
end TYR
