/-! rows of many steps in a table; runs at depths of two and more; ranks -/
section TYEX
variable {h : ty_H} {cp : Nat × Nat} {M : ix_M} {cap : Nat → Nat} {d : Nat} {P : ix_Call → ix_P}
theorem ty_ov {k pc : Nat} {a b : ty_S → ty_R} (h1 : ty_sm h cp M d P k a) (h2 : ty_sm h cp M d P pc b) : ty_sm h cp M d P pc (cond (Nat.beq pc k) a b) := by
  cases hb : Nat.beq pc k with
  | false => exact h2
  | true =>
    have e := ix_beq.mp hb
    subst e
    exact h1
theorem ty_spl_or {i lim pc : Nat} {a : ty_S → ty_R} {S : ty_S} : ty_spl i lim pc a S = a S ∨ ty_spl i lim pc a S = ty_spl i lim pc ty_no1 S := by
  unfold ty_spl
  split
  · rename_i v _
    rcases v with b | q | r | ⟨x, c⟩
    · exact Or.inl rfl
    · exact Or.inl rfl
    · exact Or.inl rfl
    · show cond (Nat.blt (ix_g S.1.1.2 x).1 (ix_g S.1.1.2 x).2 && (Nat.ble (Nat.sub (ix_g S.1.1.2 x).2 (ix_g S.1.1.2 x).1) lim && Nat.blt x S.1.1.1)) _ (a S) = a S ∨ cond (Nat.blt (ix_g S.1.1.2 x).1 (ix_g S.1.1.2 x).2 && (Nat.ble (Nat.sub (ix_g S.1.1.2 x).2 (ix_g S.1.1.2 x).1) lim && Nat.blt x S.1.1.1)) _ (a S) = cond (Nat.blt (ix_g S.1.1.2 x).1 (ix_g S.1.1.2 x).2 && (Nat.ble (Nat.sub (ix_g S.1.1.2 x).2 (ix_g S.1.1.2 x).1) lim && Nat.blt x S.1.1.1)) _ (ty_no1 S)
      cases (Nat.blt (ix_g S.1.1.2 x).1 (ix_g S.1.1.2 x).2 && (Nat.ble (Nat.sub (ix_g S.1.1.2 x).2 (ix_g S.1.1.2 x).1) lim && Nat.blt x S.1.1.1))
      · exact Or.inl rfl
      · exact Or.inr rfl
  · exact Or.inl rfl
theorem ts_splm {i lim pc : Nat} {a : ty_S → ty_R} (hp : ¬ pc = 99999) (ha : ty_sm h cp M d P pc a) : ty_sm h cp M d P pc (ty_spl i lim pc a) := by
  intro S outs hs σ C hi
  rcases ty_spl_or (i := i) (lim := lim) (pc := pc) (a := a) (S := S) with e | e
  · rw [e] at hs
    exact ha S outs hs σ C hi
  · rw [e] at hs
    exact ty_sm.of hp (ts_spl (i := i) (lim := lim) (cp := cp) (f := fun g => P (ix_exec M ty_no g d) pc) ty_sd_no) S outs hs σ C hi
/-- a table's method is right at depths of two and more -/
def ty_TQ (h : ty_H) (M : ix_M) (cap : Nat → Nat) (y : Nat) (a : Option ((ty_Call → Nat → ty_S → ty_R) × ((Nat → Option ty_L) × Nat))) (b : Option ((ix_Call → ix_P) × Nat)) : Prop := ∀ A H nL, a = some (A, H, nL) → ∃ P, b = some (P, nL) ∧ ∀ d ac, 2 ≤ d → ty_CO h M cap d ac → ∀ N pc, ¬ pc = 99999 → ty_sm h (N, cap y) M d P pc (A ac pc)
theorem ty_TQb {y k : Nat} {a a' : Option ((ty_Call → Nat → ty_S → ty_R) × ((Nat → Option ty_L) × Nat))} {b b' : Option ((ix_Call → ix_P) × Nat)} (h1 : ty_TQ h M cap y a b) (h2 : ty_TQ h M cap y a' b') : ty_TQ h M cap y (cond (Nat.blt y k) a a') (cond (Nat.blt y k) b b') := by
  cases Nat.blt y k
  · exact h2
  · exact h1
theorem ty_TQl {y k nL : Nat} {A : ty_Call → Nat → ty_S → ty_R} {H : Nat → Option ty_L} {P : ix_Call → ix_P} (h1 : ∀ d ac, 2 ≤ d → ty_CO h M cap d ac → ∀ N pc, ¬ pc = 99999 → ty_sm h (N, cap k) M d P pc (A ac pc)) : ty_TQ h M cap y (cond (Nat.beq y k) (some (A, H, nL)) none) (cond (Nat.beq y k) (some (P, nL)) none) := by
  cases hb : Nat.beq y k with
  | false => intro A' H' n' e; cases e
  | true =>
    have e := ix_beq.mp hb
    subst e
    intro A' H' n' e
    cases e
    exact ⟨P, rfl, h1⟩
theorem ty_exec_ok2 {T : ty_M} {mg : Nat → ty_W → List (List ix_V × ty_W) → List (List ix_V × ty_W)} {S0 : Nat → ty_Call} {fuel : Nat} {d0 : Nat} (hT : ∀ y, ty_TQ h M cap y (T y) (M y)) (hd0 : 2 ≤ d0) (hS : ∀ d, ty_CO h M cap (d0 + d + 1) (S0 d)) (hmg : ∀ y, ty_MG h (mg y)) : ∀ d, ty_CO h M cap (d0 + d) (ty_exec h T mg S0 fuel d)
  | 0 => fun y as W outs he => by cases he
  | d + 1 => fun y as W outs he σ avs n t hw hv hn16 => by
    have IH := ty_exec_ok2 (fuel := fuel) hT hd0 hS hmg d
    rw [ty_exec_succ] at he
    split at he
    · rename_i o2 hs
      cases he
      exact hS d y as W outs hs σ avs n t hw hv hn16
    · split at he
      · cases he
      · rename_i A H nL hy
        obtain ⟨P, hP, hA⟩ := hT y A H nL hy
        have hno : ∀ (dd : Nat) (avs : List ix_V) (n : Nat) (t : ix_T), ty_no dd y avs [] n t = none := fun _ _ _ _ => rfl
        cases hb : Nat.ble (ix_args as).length nL with
        | false => rw [hb] at he; cases he
        | true =>
          rw [hb] at he
          dsimp only [cond_true] at he
          split at he
          · cases he
          · rename_i l hrun
            cases hc : l.all (fun o => Nat.beq o.1 99999) with
            | false => rw [hc] at he; cases he
            | true =>
              rw [hc] at he
              dsimp only [cond_true] at he
              have ho := Option.some.inj he
              obtain ⟨a1, a2⟩ := ty_args as avs hv
              have hle := ix_ble.mp hb
              obtain ⟨p1, p2⟩ := ix_pad_ok (Nat.sub nL (ix_args as).length) (ix_args as)
              obtain ⟨q1, q2⟩ := ix_pad_ok (Nat.sub nL (ix_args avs).length) (ix_args avs)
              have hin : ty_in h (n, cap y) σ (W, ix_pad (ix_args as) (Nat.sub nL (ix_args as).length), [], 0, 0) (ix_pad (ix_args avs) (Nat.sub nL (ix_args avs).length), [], n, t, 0, 0) := by
                refine ⟨hw, ⟨by show (ix_pad _ _).length = (ix_pad _ _).length; rw [p1, q1, a1], fun i v hi => ?_⟩, trivial, Nat.le_refl _, Nat.le_refl _, Nat.le_refl _, hn16, Nat.zero_le _⟩
                have hi2 := p2 i v hi
                obtain ⟨w, w1, w2⟩ := a2 i v hi2
                refine ⟨w, ?_, w2⟩
                show (ix_pad (ix_args avs) _)[i]? = _
                rw [ty_padg _ _ i (List.getElem?_eq_some_iff.mp w1).1]
                exact w1
              obtain ⟨o, om, σ', C', m1, g1, i1, r1⟩ := ty_run_ok (M := M) (d := d0 + d) (P := P) (hA (d0 + d) _ (by omega) IH n) fuel [] 0 _ l hrun σ _ hin
              have e9 := ix_beq.mp (List.all_eq_true.mp hc o om)
              obtain ⟨o', om', σ2, m2, g2, w2, v2⟩ := hmg y W (l.map (fun o => (o.2.2.2.1, o.2.1))) (o.2.2.2.1, o.2.1) σ σ' C'.2.2.1 C'.2.2.2.1 C'.2.1 (List.mem_map.mpr ⟨o, om, rfl⟩) ⟨n, t, hw⟩ m1 g1 i1.1 i1.2.2.1
              have hnn : C'.2.2.1 ≤ n + cap y := by
                have z0 : C'.2.2.2.2.1 ≤ o.2.2.2.2.1 := i1.2.2.2.1
                have z1 : C'.2.2.1 ≤ n + C'.2.2.2.2.1 := i1.2.2.2.2.2.1
                have z2 : o.2.2.2.2.1 ≤ cap y := i1.2.2.2.2.2.2.2
                omega
              refine ⟨o', by rw [← ho]; exact om', σ2, C', m2, g2, w2, v2, hnn, ?_⟩
              rw [e9] at r1
              obtain ⟨f0, hf0⟩ := r1 ([], C') ⟨1, fun g _ u hu => by
                obtain ⟨v, rfl⟩ : ∃ v, u = v + 1 := ⟨u - 1, by omega⟩
                rw [ix_loop_succ, ix_beq.mpr rfl]
                rfl⟩
              refine ⟨f0, fun g hg => ?_⟩
              show ix_exec M ty_no g (d0 + d + 1) y avs [] n t = _
              rw [ix_exec_succ, hno]
              show (match M y with
                | none => none
                | some (P, nL) => cond (Nat.ble (ix_args avs).length nL) (ix_loop (P (ix_exec M ty_no g (d0 + d))) g 0 ([], ix_pad (ix_args avs) (Nat.sub nL (ix_args avs).length), [], n, t, 0, 0)) none) = _
              rw [hP]
              dsimp only
              rw [ix_ble.mpr (by rw [← a1]; exact hle)]
              exact hf0 g hg g hg
/-- what holds of the contracts of a rank, at a depth and deeper -/
def ty_QK (h : ty_H) (M : ix_M) (cap : Nat → Nat) (D : Nat) (p : Nat → Option ty_KT) : Prop := ∀ x K, p x = some K → ∀ e, ty_KS h M cap (D + e) (x / 10000000) K
theorem ty_QKb {D k : Nat} {p q : Nat → Option ty_KT} (h1 : ty_QK h M cap D p) (h2 : ty_QK h M cap D q) : ty_QK h M cap D (fun x => cond (Nat.blt x k) (p x) (q x)) := by
  intro x K he
  dsimp only at he
  cases hb : Nat.blt x k with
  | false => rw [hb] at he; exact h2 x K he
  | true => rw [hb] at he; exact h1 x K he
theorem ty_QKl {D y k : Nat} {K0 : ty_KT} (h1 : ∀ e, ty_KS h M cap (D + e) y K0) (hk : k < 10000000) : ty_QK h M cap D (fun x => cond (Nat.beq x (y * 10000000 + k)) (some K0) none) := by
  intro x K he
  dsimp only at he
  cases hb : Nat.beq x (y * 10000000 + k) with
  | false => rw [hb] at he; cases he
  | true =>
    rw [hb] at he
    cases he
    have e := ix_beq.mp hb
    subst e
    rw [show (y * 10000000 + k) / 10000000 = y by omega]
    exact h1
/-- calls by the contracts of lesser ranks -/
noncomputable def ty_tabf (rk : Nat → List ix_V → ty_W → Nat × Nat) (pp : Nat → Nat → Option ty_KT) (ρ : Nat) : Nat → List ix_V → ty_W → Option ty_KT := fun y as W => match rk y as W with
  | (r, k) => cond (Nat.blt r ρ && Nat.blt k 10000000) (pp r (Nat.add (Nat.mul y 10000000) k)) none
theorem ty_tabf_ok {rk : Nat → List ix_V → ty_W → Nat × Nat} {pp : Nat → Nat → Option ty_KT} {ρ D : Nat} (hq : ∀ r, r < ρ → ty_QK h M cap D (pp r)) (e : Nat) : ty_CO h M cap (D + e) (ty_kcl h (ty_tabf rk pp ρ)) := ty_kcl_ok (fun y as W K hK => by
  unfold ty_tabf at hK
  split at hK
  rename_i r k hrk
  cases hc : (Nat.blt r ρ && Nat.blt k 10000000) with
  | false => rw [hc] at hK; cases hK
  | true =>
    rw [hc, cond_true] at hK
    have c := Bool.and_eq_true_iff.mp hc
    have z := hq r (ix_blt.mp c.1) _ K hK e
    have k7 := ix_blt.mp c.2
    rw [show Nat.add (Nat.mul y 10000000) k = y * 10000000 + k from rfl, show (y * 10000000 + k) / 10000000 = y by omega] at z
    exact z)
theorem ty_QK_mono {D D' : Nat} {p : Nat → Option ty_KT} (hq : ty_QK h M cap D p) (hd : D ≤ D') : ty_QK h M cap D' p := fun x K he e => by
  have z := hq x K he (D' - D + e)
  rw [show D + (D' - D + e) = D' + e by omega] at z
  exact z
/-- one rank more -/
theorem ty_rank {T : ty_M} {mg : Nat → ty_W → List (List ix_V × ty_W) → List (List ix_V × ty_W)} {rk : Nat → List ix_V → ty_W → Nat × Nat} {pp : Nat → Nat → Option ty_KT} {fuel ρ D : Nat} (hT : ∀ y, ty_TQ h M cap y (T y) (M y)) (hmg : ∀ y, ty_MG h (mg y)) (hD : 2 ≤ D) (hq : ∀ r, r < ρ → ty_QK h M cap D (pp r)) (dd e : Nat) : ty_CO h M cap (D + dd + e) (ty_exec h T mg (fun _ => ty_kcl h (ty_tabf rk pp ρ)) fuel dd) := by
  have z := ty_exec_ok2 (h := h) (M := M) (cap := cap) (T := T) (mg := mg) (S0 := fun _ => ty_kcl h (ty_tabf rk pp ρ)) (fuel := fuel) (d0 := D + e) hT (by omega) (fun d => by
    rw [show D + e + d + 1 = D + (e + d + 1) by omega]
    exact ty_tabf_ok hq _) hmg dd
  rw [show D + dd + e = D + e + dd by omega]
  exact z
theorem ty_ranks {pp : Nat → Nat → Option ty_KT} {ρ D D' : Nat} (hq : ∀ r, r < ρ → ty_QK h M cap D (pp r)) (hd : D ≤ D') (hn : ty_QK h M cap D' (pp ρ)) : ∀ r, r < ρ + 1 → ty_QK h M cap D' (pp r) := fun r hr => by
  by_cases e : r = ρ
  · subst e; exact hn
  · exact ty_QK_mono (hq r (by omega)) hd
end TYEX
