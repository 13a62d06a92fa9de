/-! the typed machine's rows -/
section TYW
variable {h : ty_H} {cp : Nat × Nat} {pc : Nat}
/-- what rules say of a row's places between two -/
noncomputable def ty_rul (lo hi : Nat) (d : Nat × (Nat × Nat)) : List (Nat × (Nat × (Nat × (Nat × (Nat × Nat))))) → Nat × (Nat × Nat)
  | [] => d
  | q :: R => cond (Nat.ble q.1 lo && (Nat.ble hi q.2.1 && ((Nat.beq q.2.2.1 1 && Nat.beq q.2.2.2.1 0) || (Nat.beq lo hi && Nat.beq (Nat.mod lo q.2.2.1) q.2.2.2.1)))) (0, q.2.2.2.2) (ty_rul lo hi d R)
theorem ty_rul_ok {Γ : Nat → Nat} {n lo hi k : Nat} {d : Nat × (Nat × Nat)} {v : ix_V} (h1 : lo ≤ k) (h2 : k ≤ hi) (hd : ty_sok Γ n d v) (hi0 : ∃ m, v = .inl m ∧ m < 4294967296) : ∀ (R : List (Nat × (Nat × (Nat × (Nat × (Nat × Nat)))))), (∀ q ∈ R, ty_hit q k → ∀ m, v = .inl m → q.2.2.2.2.1 ≤ ty_kp m ∧ ty_kp m ≤ q.2.2.2.2.2) → ty_sok Γ n (ty_rul lo hi d R) v
  | [], _ => hd
  | q :: R, hR => by
    show ty_sok Γ n (cond (Nat.ble q.1 lo && (Nat.ble hi q.2.1 && ((Nat.beq q.2.2.1 1 && Nat.beq q.2.2.2.1 0) || (Nat.beq lo hi && Nat.beq (Nat.mod lo q.2.2.1) q.2.2.2.1)))) (0, q.2.2.2.2) (ty_rul lo hi d R)) v
    cases hc : (Nat.ble q.1 lo && (Nat.ble hi q.2.1 && ((Nat.beq q.2.2.1 1 && Nat.beq q.2.2.2.1 0) || (Nat.beq lo hi && Nat.beq (Nat.mod lo q.2.2.1) q.2.2.2.1)))) with
    | false => exact ty_rul_ok h1 h2 hd hi0 R (fun q hq => hR q (List.mem_cons_of_mem _ hq))
    | true =>
      have c1 := Bool.and_eq_true_iff.mp hc
      have c2 := Bool.and_eq_true_iff.mp c1.2
      have g1 := ix_ble.mp c1.1
      have g2 := ix_ble.mp c2.1
      obtain ⟨m, e, hm⟩ := hi0
      have hit : ty_hit q k := by
        refine ⟨by omega, by omega, ?_⟩
        rcases (Bool.or_eq_true _ _).mp c2.2 with q1 | q1
        · have q2 := Bool.and_eq_true_iff.mp q1
          rw [ix_beq.mp q2.1, ix_beq.mp q2.2]
          exact Nat.mod_one k
        · have q2 := Bool.and_eq_true_iff.mp q1
          have e1 := ix_beq.mp q2.1
          have e2 : lo % q.2.2.1 = q.2.2.2.1 := ix_beq.mp q2.2
          rw [show k = lo by omega]
          exact e2
      have := hR q List.mem_cons_self hit m e
      exact ⟨m, e, hm, this.1, this.2⟩
/-- how a row's place is read -/
noncomputable def ty_rty (h : ty_H) (W : ty_W) (p : Nat) (j : ix_V) : Nat × (Nat × Nat) := cond (Nat.blt (h.2 (ty_ty h W p)).1 3) (ty_rul (Nat.sub (ty_rng W.1 j).1 4294967296) (Nat.sub (ty_rng W.1 j).2 4294967296) (ix_g (h.2 (ty_ty h W p)).2.2.2.1 0) (h.2 (ty_ty h W p)).2.2.2.2) (ix_g (h.2 (ty_ty h W p)).2.2.2.1 0)
theorem ty_rty_ok {σ : ty_Sg} {W : ty_W} {n p m : Nat} {t : ix_T} {j : ix_V} (hw : ty_wk h σ W n t) (hp : p < h.1 + W.2.2.1.1) (hj : ty_iv W.1.1 σ.1 j m) (he : ty_idx h W p j = true) (hk : (h.2 (ty_ty h W p)).1 < 100) (h0 : (h.2 (ty_ty h W p)).1 < 3 → (ix_g (h.2 (ty_ty h W p)).2.2.2.1 0).1 = 0) : ty_sok σ.2.2.2 n (ty_rty h W p j) (ix_g (ix_g t (σ.2.2.1 p)).2.2 m) := by
  obtain ⟨hm, hm2, hm3⟩ := ty_idx_ok hw hp hj he
  obtain ⟨hn, hty⟩ := ty_ty_ok hw hp
  have hcok := hw.2.2.1.2.2.2.1 _ hn
  rw [hty] at hcok
  have c := hcok.2.2.2 m hm
  have c2 := c.2.1 hk
  unfold ty_rty
  cases hb : Nat.blt (h.2 (ty_ty h W p)).1 3 with
  | false => exact c2
  | true =>
    have h3 := ix_blt.mp hb
    have r := ty_rng_ok hw.1 hj
    refine ty_rul_ok (by show (ty_rng W.1 j).1 - 4294967296 ≤ m; omega) (by show m ≤ (ty_rng W.1 j).2 - 4294967296; omega) c2 ?_ _ (c.2.2 h3)
    have e := h0 h3
    revert c2 e
    generalize ix_g (h.2 (ty_ty h W p)).2.2.2.1 0 = q
    obtain ⟨kd, a, b⟩ := q
    intro c2 e
    have e : kd = 0 := e
    subst e
    obtain ⟨x, x1, x2, _⟩ := c2
    exact ⟨x, x1, x2⟩
/-- a row is read -/
noncomputable def ty_ald (h : ty_H) (k0 k1 nx : Nat) : ty_S → ty_R
  | (W, L, j :: .inr (.inr (.inl r)) :: st, w) => match r with
    | 0 => none
    | p + 1 => cond (Nat.blt p (Nat.add h.1 W.2.2.1.1) && (Nat.ble k0 (h.2 (ty_ty h W p)).1 && (Nat.ble (h.2 (ty_ty h W p)).1 k1 && (Nat.blt (h.2 (ty_ty h W p)).1 100 && (ty_idx h W p j && (Nat.ble 3 (h.2 (ty_ty h W p)).1 || Nat.beq (ix_g (h.2 (ty_ty h W p)).2.2.2.1 0).1 0))))))
      (match ty_find W.1 p j W.2.2.2.2 with
        | some v => some [(nx, (W, L, v :: st, w))]
        | none => (match ty_slt h (ty_rty h W p j) p (ty_nz W.1 j) W with
          | some l => some (l.map (fun o => (nx, (o.2, L, o.1 :: st, w))))
          | none => none)) none
  | _ => none
theorem ts_ald0 {k0 k1 nx : Nat} {f : ix_S → ix_R} (hf : ∀ ls m i stk n t w, i < n → k0 ≤ (ix_g t i).1 → (ix_g t i).1 ≤ k1 → m < (ix_g t i).2.1 → f ([], ls, .inl m :: .inr (.inr (.inl (i + 1))) :: stk, n, t, w) = some [(nx, ([], ls, ix_g (ix_g t i).2.2 m :: stk, n, t, w))]) : ty_sd h cp pc (fun _ => f) (ty_ald h k0 k1 nx) := by
  intro S outs hs σ C hi
  obtain ⟨W, L, st, w⟩ := S
  obtain ⟨ls, stk, n, t, ce, sl⟩ := C
  rcases st with _ | ⟨j, _ | ⟨a, st⟩⟩
  · cases hs
  · cases hs
  · rcases a with b | q | r | q
    · cases hs
    · cases hs
    · cases r with
      | zero => cases hs
      | succ p =>
        change cond (Nat.blt p (Nat.add h.1 W.2.2.1.1) && (Nat.ble k0 (h.2 (ty_ty h W p)).1 && (Nat.ble (h.2 (ty_ty h W p)).1 k1 && (Nat.blt (h.2 (ty_ty h W p)).1 100 && (ty_idx h W p j && (Nat.ble 3 (h.2 (ty_ty h W p)).1 || Nat.beq (ix_g (h.2 (ty_ty h W p)).2.2.2.1 0).1 0)))))) _ none = some outs at hs
        cases hc : (Nat.blt p (Nat.add h.1 W.2.2.1.1) && (Nat.ble k0 (h.2 (ty_ty h W p)).1 && (Nat.ble (h.2 (ty_ty h W p)).1 k1 && (Nat.blt (h.2 (ty_ty h W p)).1 100 && (ty_idx h W p j && (Nat.ble 3 (h.2 (ty_ty h W p)).1 || Nat.beq (ix_g (h.2 (ty_ty h W p)).2.2.2.1 0).1 0)))))) with
        | false => rw [hc] at hs; cases hs
        | true =>
          rw [hc] at hs
          dsimp only [cond_true] at hs
          have c1 := Bool.and_eq_true_iff.mp hc
          have c2 := Bool.and_eq_true_iff.mp c1.2
          have c3 := Bool.and_eq_true_iff.mp c2.2
          have c4 := Bool.and_eq_true_iff.mp c3.2
          have c5 := Bool.and_eq_true_iff.mp c4.2
          have hp : p < h.1 + W.2.2.1.1 := ix_blt.mp c1.1
          have g1 := ix_ble.mp c2.1
          have g2 := ix_ble.mp c3.1
          have g3 := ix_blt.mp c4.1
          obtain ⟨x, stk', e, x2, x3⟩ := ty_vs_1 hi.2.2.1
          obtain ⟨y, stk2, e2, y2, y3⟩ := ty_vs_1 x3
          have e' : stk = x :: y :: stk2 := by rw [← e2]; exact e
          subst e'
          have hy := ty_named hi.1 y2 hp
          subst hy
          have hI : ty_isI j = true := (Bool.and_eq_true_iff.mp c5.1).1
          obtain ⟨m, rfl, hm⟩ := x2.toint hI
          obtain ⟨hl, _, _⟩ := ty_idx_ok hi.1 hp hm c5.1
          obtain ⟨hn, hty⟩ := ty_ty_ok hi.1 hp
          have hcok := hi.1.2.2.1.2.2.2.1 _ hn
          rw [hty] at hcok
          have ek : (ix_g t (σ.2.2.1 p)).1 = (h.2 (ty_ty h W p)).1 := hcok.1
          have hstep := hf ls m (σ.2.2.1 p) stk2 n t (ce, sl) hn (by omega) (by omega) hl
          split at hs
          · rename_i v hv
            cases hs
            have := ty_find_ok hi.1.1 hm W.2.2.2.2 hi.1.2.2.2.2.2 hv
            exact ty_sd1 ty_mo.rf ty_agr.rf (C' := (ls, ix_g (ix_g t (σ.2.2.1 p)).2.2 m :: stk2, n, t, ce, sl)) ⟨hi.1, hi.2.1, ⟨this, y3⟩, hi.2.2.2⟩ (fun g => hstep)
          · split at hs
            · rename_i l hl2
              have ho := Option.some.inj hs
              have hso := ty_rty_ok hi.1 hp hm c5.1 g3 (fun q => by
                rcases (Bool.or_eq_true _ _).mp c5.2 with z | z
                · have z2 := ix_ble.mp z
                  exact absurd (show (h.2 (ty_ty h W p)).1 < 3 from q) (by omega)
                · exact ix_beq.mp z)
              obtain ⟨o, om, σ', s1, s2, s3, s4⟩ := ty_slt_ok hi.1 hl2 hp (ty_nz_ok hi.1.1 hm) hl hso
              exact ⟨(nx, (o.2, L, o.1 :: st, w)), by rw [← ho]; exact List.mem_map.mpr ⟨o, om, rfl⟩, σ', (ls, ix_g (ix_g t (σ.2.2.1 p)).2.2 m :: stk2, n, t, ce, sl), s1, s2, ⟨s3, hi.2.1.ag s2 s1.k, ⟨s4, y3.ag s2 s1.k⟩, hi.2.2.2.ag s2⟩, Or.inr ⟨0, fun g _ => hstep⟩⟩
            · cases hs
    · cases hs
theorem ts_ald {k0 k1 p nx : Nat} : ty_sd h cp pc (fun _ => ix_ald k0 k1 p nx) (ty_ald h k0 k1 nx) := ts_ald0 (fun ls m i stk n t w h1 h2 h3 h4 => by
  show cond (Nat.blt i n) (match ix_g t i with
    | (kd, len, f) => cond (Nat.ble k0 kd && Nat.ble kd k1) (cond (Nat.blt m len) (some [(nx, ([], ls, ix_g f m :: stk, n, t, w))]) none) none) none = _
  rw [ix_blt.mpr h1]
  show cond (Nat.ble k0 (ix_g t i).1 && Nat.ble (ix_g t i).1 k1) (cond (Nat.blt m (ix_g t i).2.1) _ none) none = _
  rw [ix_ble.mpr h2, ix_ble.mpr h3, ix_blt.mpr h4]
  rfl)
theorem ts_iald {O : ix_O} {p nx : Nat} : ty_sd h cp pc (fun _ => ix_iald O p nx) (ty_ald h 0 0 nx) := ts_ald0 (fun ls m i stk n t w h1 h2 h3 h4 => by
  show (match cond (Nat.blt i n) (match ix_g t i with | (kd, q) => cond (Nat.beq kd 0) (some q) none) (cond (Nat.blt i 1000000) none (O i)) with
    | some (len, f) => (match ix_nrm [] (.inl m) with
      | .inl m => cond (Nat.blt m len) (some [(nx, ([], ls, ix_g f m :: stk, n, t, w))]) none
      | .inr (.inr (.inr (x, _))) => ix_split p ([], ls, .inl m :: .inr (.inr (.inl (i + 1))) :: stk, n, t, w) x
      | _ => none)
    | none => none) = _
  rw [ix_blt.mpr h1]
  show (match cond (Nat.beq (ix_g t i).1 0) (some (ix_g t i).2) none with
    | some (len, f) => (match ix_nrm [] (.inl m) with
      | .inl m => cond (Nat.blt m len) (some [(nx, ([], ls, ix_g f m :: stk, n, t, w))]) none
      | .inr (.inr (.inr (x, _))) => ix_split p ([], ls, .inl m :: .inr (.inr (.inl (i + 1))) :: stk, n, t, w) x
      | _ => none)
    | none => none) = _
  rw [ix_beq.mpr (Nat.le_zero.mp h3)]
  show cond (Nat.blt m (ix_g t i).2.1) _ none = _
  rw [ix_blt.mpr h4]
  rfl)
/-- a row's length -/
noncomputable def ty_alen (h : ty_H) (nx : Nat) : ty_S → ty_R
  | (W, L, .inr (.inr (.inl r)) :: st, w) => match r with
    | 0 => none
    | p + 1 => cond (Nat.blt p (Nat.add h.1 W.2.2.1.1) && (Nat.blt (h.2 (ty_ty h W p)).1 98 && Nat.ble (h.2 (ty_ty h W p)).2.2.1 16384))
      (match ty_lenf p W.2.2.2.2 with
        | some v => some [(nx, (W, L, v :: st, w))]
        | none => (match ty_fr (Nat.add 4294967296 (h.2 (ty_ty h W p)).2.1) (Nat.add 4294967296 (h.2 (ty_ty h W p)).2.2.1) W.1 with
          | some (v, A) => some [(nx, (ty_kn (A, W.2) ((p, .inr (.inr (.inl 0))), v), L, v :: st, w))]
          | none => none)) none
  | _ => none
theorem ts_alen {O : ix_O} {nx : Nat} : ty_sd h cp pc (fun _ => ix_alen O nx) (ty_alen h nx) := by
  intro S outs hs σ C hi
  obtain ⟨W, L, st, w⟩ := S
  obtain ⟨ls, stk, n, t, ce, sl⟩ := C
  rcases st with _ | ⟨a, st⟩
  · cases hs
  · rcases a with b | q | r | q
    · cases hs
    · cases hs
    · cases r with
      | zero => cases hs
      | succ p =>
        change cond (Nat.blt p (Nat.add h.1 W.2.2.1.1) && (Nat.blt (h.2 (ty_ty h W p)).1 98 && Nat.ble (h.2 (ty_ty h W p)).2.2.1 16384)) _ none = some outs at hs
        cases hc : (Nat.blt p (Nat.add h.1 W.2.2.1.1) && (Nat.blt (h.2 (ty_ty h W p)).1 98 && Nat.ble (h.2 (ty_ty h W p)).2.2.1 16384)) with
        | false => rw [hc] at hs; cases hs
        | true =>
          rw [hc] at hs
          dsimp only [cond_true] at hs
          have c1 := Bool.and_eq_true_iff.mp hc
          have c2 := Bool.and_eq_true_iff.mp c1.2
          have hp : p < h.1 + W.2.2.1.1 := ix_blt.mp c1.1
          have g1 := ix_blt.mp c2.1
          have g2 := ix_ble.mp c2.2
          obtain ⟨x, stk', e, x2, x3⟩ := ty_vs_1 hi.2.2.1
          have e' : stk = x :: stk' := e
          subst e'
          have hx := ty_named hi.1 x2 hp
          subst hx
          obtain ⟨hn, hty⟩ := ty_ty_ok hi.1 hp
          have hcok := hi.1.2.2.1.2.2.2.1 _ hn
          rw [hty] at hcok
          obtain ⟨o1, o2, o3, _⟩ := hcok
          have o1' : (ix_g t (σ.2.2.1 p)).1 = (h.2 (ty_ty h W p)).1 := o1
          have o2' : (h.2 (ty_ty h W p)).2.1 ≤ (ix_g t (σ.2.2.1 p)).2.1 := o2
          have o3' : (ix_g t (σ.2.2.1 p)).2.1 ≤ (h.2 (ty_ty h W p)).2.2.1 := o3
          have hstep : ix_alen O nx ([], ls, .inr (.inr (.inl (σ.2.2.1 p + 1))) :: stk', n, t, ce, sl) = some [(nx, ([], ls, ix_vI (ix_g t (σ.2.2.1 p)).2.1 :: stk', n, t, ce, sl))] := by
            show (match cond (Nat.blt (σ.2.2.1 p) n) (match ix_g t (σ.2.2.1 p) with | (kd, q) => cond (Nat.blt kd 98) (some q) none) (cond (Nat.blt (σ.2.2.1 p) 1000000) none (O (σ.2.2.1 p))) with
              | some (len, _) => some [(nx, ([], ls, ix_vI len :: stk', n, t, ce, sl))]
              | none => none) = _
            rw [ix_blt.mpr hn]
            show (match cond (Nat.blt (ix_g t (σ.2.2.1 p)).1 98) (some (ix_g t (σ.2.2.1 p)).2) none with
              | some (len, _) => some [(nx, ([], ls, ix_vI len :: stk', n, t, ce, sl))]
              | none => none) = _
            rw [ix_blt.mpr (by omega)]
            rfl
          split at hs
          · rename_i v hv
            cases hs
            have := ty_lenf_ok _ hi.1.2.2.2.2.2 hv
            exact ty_sd1 ty_mo.rf ty_agr.rf (C' := (ls, ix_vI (ix_g t (σ.2.2.1 p)).2.1 :: stk', n, t, ce, sl)) ⟨hi.1, hi.2.1, ⟨ty_rv.int this, x3⟩, hi.2.2.2⟩ (fun g => hstep)
          · split at hs
            · rename_i v A hv
              have ho := Option.some.inj hs
              have hlt : (ix_g t (σ.2.2.1 p)).2.1 < 2147483648 := by omega
              have ekp := ty_kp_nn hlt
              obtain ⟨s, s1, s2, s3, s4⟩ := ty_fr_ok (n := (ix_g t (σ.2.2.1 p)).2.1) hi.1.1 hv (by omega) (by show 4294967296 + _ ≤ _; omega) (by show _ ≤ 4294967296 + _; omega)
              obtain ⟨B, W2⟩ := W
              obtain ⟨k1, k2, k3⟩ := ty_wk.boxes hi.1 s1 s2 s3
              have hfact : ty_fok (ty_k h (A, W2)) (s, σ.2) t ((p, .inr (.inr (.inl 0))), v) := ⟨hp, s4⟩
              exact ⟨(nx, (ty_kn (A, W2) ((p, .inr (.inr (.inl 0))), v), L, v :: st, w)), by rw [← ho]; exact List.mem_cons_self, (s, σ.2), (ls, ix_vI (ix_g t (σ.2.2.1 p)).2.1 :: stk', n, t, ce, sl), k3, k2, ⟨k1.kn hfact, hi.2.1.ag k2 k3.k, ⟨ty_rv.int s4, x3.ag k2 k3.k⟩, hi.2.2.2⟩, Or.inr ⟨0, fun g _ => hstep⟩⟩
            · cases hs
    · cases hs
end TYW
