/-! the typed machine's fields -/
section TYF
variable {h : ty_H} {cp : Nat × Nat} {pc : Nat}
theorem ty_named {σ : ty_Sg} {W : ty_W} {n p : Nat} {t : ix_T} {w : ix_V} (hw : ty_wk h σ W n t) (hr : ty_rv (ty_k h W) σ (.inr (.inr (.inl (p + 1)))) w) (hp : p < h.1 + W.2.2.1.1) : w = .inr (.inr (.inl (σ.2.2.1 p + 1))) := by
  rcases hr with hr | hr
  · exact hr.2
  · have h1 := hw.2.2.1.1
    have h2 := hw.2.2.1.2.1
    have h3 := hw.2.2.2.1.1
    omega
theorem ty_ivk {k : Nat} {σ : Nat → Nat} {m : Nat} (hm : m < 2147483648) : ty_iv k σ (.inl (Nat.add 4294967296 m)) m := ⟨by omega, by rw [ty_kp_nn hm]; exact Nat.add_comm _ _⟩
noncomputable def ty_getf (h : ty_H) (ci k nx : Nat) : ty_S → ty_R
  | (W, L, .inr (.inr (.inl r)) :: st, w) => match r with
    | 0 => none
    | p + 1 => cond (Nat.blt p (Nat.add h.1 W.2.2.1.1)) (cond (Nat.beq (h.2 (ty_ty h W p)).1 ci && (Nat.blt k (h.2 (ty_ty h W p)).2.1 && (Nat.ble 100 (h.2 (ty_ty h W p)).1 && Nat.blt k 64))) (match ty_find W.1 p (.inl (Nat.add 4294967296 k)) W.2.2.2.2 with
        | some v => some [(nx, (W, L, v :: st, w))]
        | none => (match ty_slt h (ix_g (h.2 (ty_ty h W p)).2.2.2.1 k) p (.inl (Nat.add 4294967296 k)) W with
          | some l => some (l.map (fun o => (nx, (o.2, L, o.1 :: st, w))))
          | none => none)) none) none
  | _ => none
theorem ts_getf {ci k nx : Nat} : ty_sd h cp pc (fun _ => ix_getf ci k nx) (ty_getf h ci k nx) := by
  intro S outs hs σ C hi
  obtain ⟨W, L, st, w⟩ := S
  obtain ⟨ls, stk, n, t, ce, sl⟩ := C
  rcases st with _ | ⟨a, st⟩
  · cases hs
  · rcases a with b | q | r | q
    · cases hs
    · cases hs
    · cases r with
      | zero => cases hs
      | succ p =>
        change cond (Nat.blt p (Nat.add h.1 W.2.2.1.1)) _ none = some outs at hs
        cases hc : Nat.blt p (Nat.add h.1 W.2.2.1.1) with
        | false => rw [hc] at hs; cases hs
        | true =>
          rw [hc] at hs
          dsimp only [cond_true] at hs
          have hp : p < h.1 + W.2.2.1.1 := ix_blt.mp hc
          obtain ⟨x, stk', e, x2, x3⟩ := ty_vs_1 hi.2.2.1
          have e' : stk = x :: stk' := e
          subst e'
          have hx := ty_named hi.1 x2 hp
          subst hx
          obtain ⟨hn, hty⟩ := ty_ty_ok hi.1 hp
          have hcok := hi.1.2.2.1.2.2.2.1 _ hn
          rw [hty] at hcok
          cases hd : (Nat.beq (h.2 (ty_ty h W p)).1 ci && (Nat.blt k (h.2 (ty_ty h W p)).2.1 && (Nat.ble 100 (h.2 (ty_ty h W p)).1 && Nat.blt k 64))) with
          | false => rw [hd] at hs; cases hs
          | true =>
            rw [hd] at hs
            dsimp only [cond_true] at hs
            have c1 := Bool.and_eq_true_iff.mp hd
            have c2 := Bool.and_eq_true_iff.mp c1.2
            have c3 := Bool.and_eq_true_iff.mp c2.2
            have ekd : (h.2 (ty_ty h W p)).1 = ci := ix_beq.mp c1.1
            have hk : k < (h.2 (ty_ty h W p)).2.1 := ix_blt.mp c2.1
            have h100 : 100 ≤ (h.2 (ty_ty h W p)).1 := ix_ble.mp c3.1
            have h64 : k < 64 := ix_blt.mp c3.2
            obtain ⟨o1, o2, o3, o4⟩ := hcok
            have hl : k < (ix_g t (σ.2.2.1 p)).2.1 := Nat.lt_of_lt_of_le hk o2
            have hstep : ∀ g : Nat, ix_getf ci k nx ([], ls, .inr (.inr (.inl (σ.2.2.1 p + 1))) :: stk', n, t, ce, sl) = some [(nx, ([], ls, ix_g (ix_g t (σ.2.2.1 p)).2.2 k :: stk', n, t, ce, sl))] := by
              intro _
              show cond (Nat.blt (σ.2.2.1 p) n) (match ix_g t (σ.2.2.1 p) with
                | (kd, len, f) => cond (Nat.beq kd ci && Nat.blt k len) (some [(nx, ([], ls, ix_g f k :: stk', n, t, ce, sl))]) none) none = _
              rw [ix_blt.mpr hn]
              show cond (Nat.beq (ix_g t (σ.2.2.1 p)).1 ci && Nat.blt k (ix_g t (σ.2.2.1 p)).2.1) _ none = _
              rw [ix_beq.mpr (o1.trans ekd), ix_blt.mpr hl]
              rfl
            have hj : ty_iv W.1.1 σ.1 (.inl (Nat.add 4294967296 k)) k := ty_ivk (by omega)
            split at hs
            · rename_i v hv
              cases hs
              have := ty_find_ok hi.1.1 hj W.2.2.2.2 hi.1.2.2.2.2.2 hv
              exact ty_sd1 ty_mo.rf ty_agr.rf (C' := (ls, ix_g (ix_g t (σ.2.2.1 p)).2.2 k :: stk', n, t, ce, sl)) ⟨hi.1, hi.2.1, ⟨this, x3⟩, hi.2.2.2⟩ (fun g => hstep g)
            · split at hs
              · rename_i l hl2
                have ho := Option.some.inj hs
                obtain ⟨o, om, σ', s1, s2, s3, s4⟩ := ty_slt_ok hi.1 hl2 hp hj hl ((o4 k hl).1 h100)
                refine ⟨(nx, (o.2, L, o.1 :: st, w)), by rw [← ho]; exact List.mem_map.mpr ⟨o, om, rfl⟩, σ', (ls, ix_g (ix_g t (σ.2.2.1 p)).2.2 k :: stk', n, t, ce, sl), s1, s2, ⟨s3, hi.2.1.ag s2 s1.k, ⟨s4, x3.ag s2 s1.k⟩, hi.2.2.2.ag s2⟩, Or.inr ⟨0, fun g _ => hstep g⟩⟩
              · cases hs
    · cases hs
/-- may a value stand in a slot of a type -/
noncomputable def ty_rok (h : ty_H) (W : ty_W) (a : Nat) (v : ix_V) : Bool := match v with
  | .inr (.inr (.inl r)) => (match r with
    | 0 => false
    | p + 1 => Nat.blt p (Nat.add h.1 W.2.2.1.1) && Nat.beq (ty_ty h W p) a)
  | _ => false
noncomputable def ty_nul (v : ix_V) : Bool := match v with
  | .inr (.inr (.inl r)) => Nat.beq r 0
  | _ => false
noncomputable def ty_vok (h : ty_H) (W : ty_W) (q : Nat × (Nat × Nat)) (v : ix_V) : Bool :=
  cond (Nat.beq q.1 0) (ty_isI v && (Nat.ble q.2.1 (ty_rng W.1 v).1 && Nat.ble (ty_rng W.1 v).2 q.2.2))
  (cond (Nat.beq q.1 1) (ix_isLong v) (cond (Nat.beq q.1 2) (ty_rok h W q.2.1 v) (cond (Nat.beq q.1 3) (ty_nul v || ty_rok h W q.2.1 v) true)))
theorem ty_rok_ok {σ : ty_Sg} {W : ty_W} {n a : Nat} {t : ix_T} {v w : ix_V} (hw : ty_wk h σ W n t) (hr : ty_rv (ty_k h W) σ v w) (he : ty_rok h W a v = true) : ∃ j, w = .inr (.inr (.inl (j + 1))) ∧ j < n ∧ σ.2.2.2 j = a := by
  rcases v with b | q | r | q
  · cases he
  · cases he
  · cases r with
    | zero => cases he
    | succ p =>
      have c1 := Bool.and_eq_true_iff.mp (show (Nat.blt p (Nat.add h.1 W.2.2.1.1) && Nat.beq (ty_ty h W p) a) = true from he)
      have hp : p < h.1 + W.2.2.1.1 := ix_blt.mp c1.1
      obtain ⟨h1, h2⟩ := ty_ty_ok hw hp
      exact ⟨σ.2.2.1 p, ty_named hw hr hp, h1, h2.trans (ix_beq.mp c1.2)⟩
  · cases he
theorem ty_vok_ok {σ : ty_Sg} {W : ty_W} {n : Nat} {t : ix_T} {q : Nat × (Nat × Nat)} {v w : ix_V} (hw : ty_wk h σ W n t) (hr : ty_rv (ty_k h W) σ v w) (he : ty_vok h W q v = true) : ty_sok σ.2.2.2 n q w := by
  obtain ⟨kd, a, b⟩ := q
  match kd, he with
  | 0, he =>
    have c1 := Bool.and_eq_true_iff.mp (show (ty_isI v && (Nat.ble a (ty_rng W.1 v).1 && Nat.ble (ty_rng W.1 v).2 b)) = true from he)
    have c2 := Bool.and_eq_true_iff.mp c1.2
    obtain ⟨m, rfl, hm⟩ := hr.toint c1.1
    have r : (ty_rng W.1 v).1 ≤ ty_kp m ∧ ty_kp m ≤ (ty_rng W.1 v).2 := ty_rng_ok hw.1 hm
    have g1 := ix_ble.mp c2.1
    have g2 := ix_ble.mp c2.2
    exact ⟨m, rfl, hm.1, by show a ≤ _; omega, by show _ ≤ b; omega⟩
  | 1, he =>
    have he : ix_isLong v = true := he
    rcases v with b' | q | r | q
    · cases he
    · obtain ⟨m, rfl, hm⟩ := hr
      exact ⟨m, rfl, hm.1⟩
    · cases he
    · cases he
  | 2, he => exact ty_rok_ok hw hr he
  | 3, he =>
    rcases (Bool.or_eq_true _ _).mp (show (ty_nul v || ty_rok h W a v) = true from he) with he | he
    · rcases v with b' | q | r | q
      · cases he
      · cases he
      · have e : r = 0 := ix_beq.mp he
        subst e
        exact Or.inl hr
      · cases he
    · exact Or.inr (ty_rok_ok hw hr he)
  | kd + 4, _ => trivial
/-- places that are surely two; a length is no place -/
noncomputable def ty_dj (A : ty_A) (i j : ix_V) : Bool := match i with
  | .inl b => Nat.blt b (ty_rng A j).1 || Nat.blt (ty_rng A j).2 b
  | .inr (.inr (.inr q)) => Nat.blt (ty_rng A (.inr (.inr (.inr q)))).2 (ty_rng A j).1 || Nat.blt (ty_rng A j).2 (ty_rng A (.inr (.inr (.inr q)))).1
  | _ => true
/-- is a fact kept over a store; may the store be -/
noncomputable def ty_kep (h : ty_H) (W : ty_W) (p : Nat) (j : ix_V) (f : (Nat × ix_V) × ix_V) : Bool := match f.1.2 with
  | .inr (.inl q) => ty_lkp (ty_ty h W p) (Nat.sub (ty_rng W.1 j).1 4294967296) (Nat.sub (ty_rng W.1 j).2 4294967296) q
  | i => !(Nat.beq (ty_ty h W f.1.1) (ty_ty h W p)) || ty_dj W.1 i j
noncomputable def ty_nps (h : ty_H) (W : ty_W) (p : Nat) (j : ix_V) : Bool := ty_npr (ty_ty h W p) (Nat.sub (ty_rng W.1 j).1 4294967296) (Nat.sub (ty_rng W.1 j).2 4294967296)
/-- what is still known behind a store -/
noncomputable def ty_stl (h : ty_H) (W : ty_W) (p : Nat) (j : ix_V) : ty_W := (W.1, (W.2.1, (W.2.2.1, (W.2.2.2.1, W.2.2.2.2.filter (fun f => ty_kep h W p j f)))))
theorem ty_put_al {σ : ty_Sg} {W : ty_W} {n p m d : Nat} {t : ix_T} {j w : ix_V} (hw : ty_wk h σ W n t) (hp : p < h.1 + W.2.2.1.1) (hj : ty_iv W.1.1 σ.1 j m) (hm : m < (ix_g t (σ.2.2.1 p)).2.1) (hm2 : m < 2147483648) (hd : (ix_g t (σ.2.2.1 p)).2.1 ≤ 2 ^ d) (hd6 : 6 ≤ d) (hd14 : 64 < (ix_g t (σ.2.2.1 p)).2.1 → d = 14) : tx_alike t (ix_u 14 t (σ.2.2.1 p) ((ix_g t (σ.2.2.1 p)).1, (ix_g t (σ.2.2.1 p)).2.1, ix_u d (ix_g t (σ.2.2.1 p)).2.2 m w)) (ty_ty h W p) (Nat.sub (ty_rng W.1 j).1 4294967296) (Nat.sub (ty_rng W.1 j).2 4294967296) := by
  intro i k hik ha
  obtain ⟨hn, hty⟩ := ty_ty_ok hw hp
  have hh := hw.2.2.1
  have r := ty_rng_ok hw.1 hj
  have e4 := ty_kp_nn hm2
  have h114 := hh.2.2.2.2.2.1.1
  have hn0 := hh.1
  have hn2 := hh.2.1
  have hi114 : i < 114 := by
    rcases hik with q | q
    · omega
    · rcases q.1 with q | q | q | q | q <;> omega
  have hg := ix_gu 14 t (σ.2.2.1 p) i ((ix_g t (σ.2.2.1 p)).1, (ix_g t (σ.2.2.1 p)).2.1, ix_u d (ix_g t (σ.2.2.1 p)).2.2 m w) (by show _ < 16384; omega) (by show i < 16384; omega)
  unfold tx_n
  rw [hg]
  by_cases e : i = σ.2.2.1 p
  · rw [if_pos e]
    have eti : ty_ty h W p = i := by
      rw [← hty, ← e]
      exact (hh.2.2.2.2.1 i (by omega)).1 (by omega)
    have hne : ¬ k = m := by
      have := ha eti.symm
      intro ek
      subst ek
      rcases this with q | q
      · have q' : k < (ty_rng W.1 j).1 - 4294967296 := q
        omega
      · have q' : (ty_rng W.1 j).2 - 4294967296 < k := q
        omega
    have hkd : k < 2 ^ d := by
      rcases hik with q | q
      · have h6 : (2 : Nat) ^ 6 = 64 := rfl
        have : 2 ^ 6 ≤ 2 ^ d := Nat.pow_le_pow_right (by decide) hd6
        omega
      · have hc := hh.2.2.2.1 i (by omega)
        rw [(hh.2.2.2.2.1 i (by omega)).1 (by omega)] at hc
        have h1 := hh.2.2.2.2.2.1.2 i q.1
        have h2 := hc.2.1
        rw [← e] at hd14
        have e14 := hd14 (by omega)
        rw [e14]
        exact q.2
    show (match ix_g (ix_u d (ix_g t (σ.2.2.1 p)).2.2 m w) k with | .inl n => n | _ => 0) = _
    rw [ix_gu d _ m k w (by omega) hkd, if_neg hne, e]
    rfl
  · rw [if_neg e]
theorem ty_put0 {σ : ty_Sg} {W : ty_W} {n p m d : Nat} {t : ix_T} {j w : ix_V} (hw : ty_wk h σ W n t) (hp : p < h.1 + W.2.2.1.1) (hj : ty_iv W.1.1 σ.1 j m) (hm : m < (ix_g t (σ.2.2.1 p)).2.1) (hd : (ix_g t (σ.2.2.1 p)).2.1 ≤ 2 ^ d) (hI : ty_inv σ.2.1 (ix_u 14 t (σ.2.2.1 p) ((ix_g t (σ.2.2.1 p)).1, (ix_g t (σ.2.2.1 p)).2.1, ix_u d (ix_g t (σ.2.2.1 p)).2.2 m w))) (hLb : ∀ q m', ty_lkp (ty_ty h W p) (Nat.sub (ty_rng W.1 j).1 4294967296) (Nat.sub (ty_rng W.1 j).2 4294967296) q = true → ty_lab σ.2.1 q t m' → ty_lab σ.2.1 q (ix_u 14 t (σ.2.2.1 p) ((ix_g t (σ.2.2.1 p)).1, (ix_g t (σ.2.2.1 p)).2.1, ix_u d (ix_g t (σ.2.2.1 p)).2.2 m w)) m')
    (hv : ∀ T, T = h.2 (ty_ty h W p) → (100 ≤ T.1 → ty_sok σ.2.2.2 n (ix_g T.2.2.2.1 m) w) ∧ (T.1 < 100 → ty_sok σ.2.2.2 n (ix_g T.2.2.2.1 0) w) ∧ (T.1 < 3 → ∀ q ∈ T.2.2.2.2, ty_hit q m → ∀ x, w = .inl x → q.2.2.2.2.1 ≤ ty_kp x ∧ ty_kp x ≤ q.2.2.2.2.2)) : ty_wk h σ (ty_stl h W p j) n (ix_u 14 t (σ.2.2.1 p) ((ix_g t (σ.2.2.1 p)).1, (ix_g t (σ.2.2.1 p)).2.1, ix_u d (ix_g t (σ.2.2.1 p)).2.2 m w)) := by
  obtain ⟨hn, hty⟩ := ty_ty_ok hw hp
  obtain ⟨h1, hl, hh, hr, hq, hx⟩ := hw
  obtain ⟨a1, a2, a3, a4, a5, a6, a7, a8⟩ := hh
  have hg : ∀ i, i < n → ix_g (ix_u 14 t (σ.2.2.1 p) ((ix_g t (σ.2.2.1 p)).1, (ix_g t (σ.2.2.1 p)).2.1, ix_u d (ix_g t (σ.2.2.1 p)).2.2 m w)) i = if i = σ.2.2.1 p then ((ix_g t (σ.2.2.1 p)).1, (ix_g t (σ.2.2.1 p)).2.1, ix_u d (ix_g t (σ.2.2.1 p)).2.2 m w) else ix_g t i := fun i hi => ix_gu 14 t _ i _ (by show _ < 16384; omega) (by show i < 16384; omega)
  have hgd : ∀ k, k < (ix_g t (σ.2.2.1 p)).2.1 → ix_g (ix_u d (ix_g t (σ.2.2.1 p)).2.2 m w) k = if k = m then w else ix_g (ix_g t (σ.2.2.1 p)).2.2 k := fun k hk => ix_gu d _ m k w (by omega) (by omega)
  refine ⟨h1, hl, ⟨a1, a2, a3, fun i hi => ?_, a5, a6, hI, a8⟩, hr, hq, fun f hf => ?_⟩
  · rw [hg i hi]
    by_cases e : i = σ.2.2.1 p
    · rw [if_pos e]
      have c := a4 i hi
      subst e
      rw [hty] at c ⊢
      have hv2 := hv _ rfl
      refine ⟨c.1, c.2.1, c.2.2.1, fun k hk => ?_⟩
      have hk2 : k < (ix_g t (σ.2.2.1 p)).2.1 := hk
      have c4 := c.2.2.2 k hk2
      show (_ → ty_sok _ n _ (ix_g (ix_u d (ix_g t (σ.2.2.1 p)).2.2 m w) k)) ∧ (_ → ty_sok _ n _ (ix_g (ix_u d (ix_g t (σ.2.2.1 p)).2.2 m w) k)) ∧ (_ → ∀ q ∈ _, ty_hit q k → ∀ x, ix_g (ix_u d (ix_g t (σ.2.2.1 p)).2.2 m w) k = .inl x → _)
      rw [hgd k hk2]
      by_cases ek : k = m
      · rw [if_pos ek, ek]; exact hv2
      · rw [if_neg ek]; exact c4
    · rw [if_neg e]
      exact a4 i hi
  · have hf2 := List.mem_filter.mp hf
    have hf1 := hx f hf2.1
    obtain ⟨⟨p', j'⟩, v⟩ := f
    have hp' : p' < h.1 + W.2.2.1.1 := hf1.1
    obtain ⟨hn', hty'⟩ := ty_ty_ok (W := W) ⟨h1, hl, ⟨a1, a2, a3, a4, a5, a6, a7, a8⟩, hr, hq, hx⟩ hp'
    refine ⟨hp', ?_⟩
    have hlen : (ix_g (ix_u 14 t (σ.2.2.1 p) ((ix_g t (σ.2.2.1 p)).1, (ix_g t (σ.2.2.1 p)).2.1, ix_u d (ix_g t (σ.2.2.1 p)).2.2 m w)) (σ.2.2.1 p')).2.1 = (ix_g t (σ.2.2.1 p')).2.1 := by
      rw [hg _ hn']
      by_cases e : σ.2.2.1 p' = σ.2.2.1 p
      · rw [if_pos e, e]
      · rw [if_neg e]
    have key : ∀ m', ty_iv W.1.1 σ.1 j' m' → m' < (ix_g t (σ.2.2.1 p')).2.1 → ty_rv (ty_k h W) σ v (ix_g (ix_g t (σ.2.2.1 p')).2.2 m') → ty_isI j' = true → ty_rv (ty_k h W) σ v (ix_g (ix_g (ix_u 14 t (σ.2.2.1 p) ((ix_g t (σ.2.2.1 p)).1, (ix_g t (σ.2.2.1 p)).2.1, ix_u d (ix_g t (σ.2.2.1 p)).2.2 m w)) (σ.2.2.1 p')).2.2 m') := by
      intro m' k1 k2 k3 k4
      rw [hg _ hn']
      by_cases e : σ.2.2.1 p' = σ.2.2.1 p
      · rw [if_pos e]
        rw [e] at k2 k3
        show ty_rv _ σ v (ix_g (ix_u d (ix_g t (σ.2.2.1 p)).2.2 m w) m')
        rw [hgd m' k2]
        have hne : ¬ m' = m := by
          have ety : ty_ty h W p' = ty_ty h W p := by rw [← hty', ← hty, e]
          have hkep : (!(Nat.beq (ty_ty h W p') (ty_ty h W p)) || ty_dj W.1 j' j) = true := by
            have hz : ty_kep h W p j ((p', j'), v) = true := hf2.2
            rcases j' with b' | l' | r' | y'
            · exact hz
            · cases k4
            · cases k4
            · exact hz
          have hkeep := (Bool.or_eq_true _ _).mp hkep
          rcases hkeep with q | q
          · rw [ety, ix_beq.mpr rfl] at q
            cases q
          · intro em
            subst em
            have r1 := ty_rng_ok h1 hj
            have r2 := ty_rng_ok h1 k1
            have q : ty_dj W.1 j' j = true := q
            rcases j' with b' | l' | r' | y'
            · have e9 : b' = ty_kp m' := k1.2
              rcases (Bool.or_eq_true _ _).mp (show (Nat.blt b' (ty_rng W.1 j).1 || Nat.blt (ty_rng W.1 j).2 b') = true from q) with q | q
              · have := ix_blt.mp q; omega
              · have := ix_blt.mp q; omega
            · cases k4
            · cases k4
            · rcases (Bool.or_eq_true _ _).mp (show (Nat.blt (ty_rng W.1 (.inr (.inr (.inr y')))).2 (ty_rng W.1 j).1 || Nat.blt (ty_rng W.1 j).2 (ty_rng W.1 (.inr (.inr (.inr y')))).1) = true from q) with q | q
              · have := ix_blt.mp q; omega
              · have := ix_blt.mp q; omega
        rw [if_neg hne]
        exact k3
      · rw [if_neg e]
        exact k3
    rcases j' with b' | l' | r' | y'
    · obtain ⟨m', k1, k2, k3⟩ := hf1.2
      exact ⟨m', k1, by rw [hlen]; exact k2, key m' k1 k2 k3 rfl⟩
    · obtain ⟨m', k1, k2⟩ := hf1.2
      exact ⟨m', k1, hLb _ _ hf2.2 k2⟩
    · show ty_iv _ σ.1 v _
      rw [hlen]; exact hf1.2
    · obtain ⟨m', k1, k2, k3⟩ := hf1.2
      exact ⟨m', k1, by rw [hlen]; exact k2, key m' k1 k2 k3 rfl⟩
theorem ty_put {σ : ty_Sg} {W : ty_W} {n p m d : Nat} {t : ix_T} {j w : ix_V} (hw : ty_wk h σ W n t) (hp : p < h.1 + W.2.2.1.1) (hj : ty_iv W.1.1 σ.1 j m) (hm : m < (ix_g t (σ.2.2.1 p)).2.1) (hm2 : m < 2147483648) (hd : (ix_g t (σ.2.2.1 p)).2.1 ≤ 2 ^ d) (hd6 : 6 ≤ d) (hd14 : 64 < (ix_g t (σ.2.2.1 p)).2.1 → d = 14) (hnp : ty_nps h W p j = true)
    (hv : ∀ T, T = h.2 (ty_ty h W p) → (100 ≤ T.1 → ty_sok σ.2.2.2 n (ix_g T.2.2.2.1 m) w) ∧ (T.1 < 100 → ty_sok σ.2.2.2 n (ix_g T.2.2.2.1 0) w) ∧ (T.1 < 3 → ∀ q ∈ T.2.2.2.2, ty_hit q m → ∀ x, w = .inl x → q.2.2.2.2.1 ≤ ty_kp x ∧ ty_kp x ≤ q.2.2.2.2.2)) : ty_wk h σ (ty_stl h W p j) n (ix_u 14 t (σ.2.2.1 p) ((ix_g t (σ.2.2.1 p)).1, (ix_g t (σ.2.2.1 p)).2.1, ix_u d (ix_g t (σ.2.2.1 p)).2.2 m w)) := by
  have hal := ty_put_al (w := w) hw hp hj hm hm2 hd hd6 hd14
  exact ty_put0 hw hp hj hm hd (ty_inv_al hal hnp hw.2.2.1.2.2.2.2.2.2.1) (fun q m' hk hl => ty_lab_al hal (ty_npr81 hnp) hk hl) hv
end TYF
