/-! contracts of the typed machine: what a method needs, what holds behind it -/
section TYCT
variable {h : ty_H}
/-- an argument, an answer: 0 an int between, with a label and one; 1 a long; 2 a known cell; 3 a cell of a type; 5 none -/
abbrev ty_KA : Type := Nat × (Nat × (Nat × Nat))
/-- answers; slots then; an old slot's value and so much lies below a new one's; slots that stay -/
abbrev ty_KP : Type := List ty_KA × (ty_V × (List (Nat × (Nat × Nat)) × List Nat))
abbrev ty_KT : Type := List ty_KA × (ty_V × List ty_KP)
noncomputable def ty_isP (p : Nat) (v : ix_V) : Bool := match v with
  | .inr (.inr (.inl r)) => Nat.beq r (Nat.succ p)
  | _ => false
theorem ty_isP_ok {p : Nat} {v : ix_V} (he : ty_isP p v = true) : v = .inr (.inr (.inl (p + 1))) := by
  rcases v with b | q | r | q
  · cases he
  · cases he
  · rw [ix_beq.mp (show Nat.beq r (Nat.succ p) = true from he)]
  · cases he
noncomputable def ty_afit (h : ty_H) (W : ty_W) (s : ty_KA) (v : ix_V) : Bool :=
  cond (Nat.beq s.1 0) (ty_isI v && (Nat.ble s.2.1 (ty_rng W.1 v).1 && (Nat.ble (ty_rng W.1 v).2 s.2.2.1 && (Nat.beq s.2.2.2 0 || ty_lbl W (Nat.pred s.2.2.2) v))))
  (cond (Nat.beq s.1 1) (ix_isLong v) (cond (Nat.beq s.1 2) (ty_isP s.2.1 v && Nat.blt s.2.1 114) (cond (Nat.beq s.1 3) (ty_rok h W s.2.1 v) (cond (Nat.beq s.1 5) (ty_nul v) false))))
/-- what it says of a plain value -/
def ty_asm (γ : Nat → Nat) (Γ : Nat → Nat) (n : Nat) (t : ix_T) (s : ty_KA) (w : ix_V) : Prop := match s.1 with
  | 0 => ∃ m, w = .inl m ∧ m < 4294967296 ∧ s.2.1 ≤ ty_kp m ∧ ty_kp m ≤ s.2.2.1 ∧ (s.2.2.2 = 0 ∨ ty_lab γ (s.2.2.2 - 1) t m)
  | 1 => ∃ m, w = .inr (.inl m) ∧ m < 18446744073709551616
  | 2 => w = .inr (.inr (.inl (s.2.1 + 1))) ∧ s.2.1 < 114
  | 3 => ∃ j, w = .inr (.inr (.inl (j + 1))) ∧ j < n ∧ Γ j = s.2.1
  | 5 => w = .inr (.inr (.inl 0))
  | _ => False
theorem ty_afit_ok {σ : ty_Sg} {W : ty_W} {n : Nat} {t : ix_T} {s : ty_KA} {v w : ix_V} (hw : ty_wk h σ W n t) (hv : ty_rv (ty_k h W) σ v w) (he : ty_afit h W s v = true) : ty_asm σ.2.1 σ.2.2.2 n t s w := by
  obtain ⟨kd, a, b, q⟩ := s
  match kd, he with
  | 0, he =>
    have c1 := Bool.and_eq_true_iff.mp (show (ty_isI v && (Nat.ble a (ty_rng W.1 v).1 && (Nat.ble (ty_rng W.1 v).2 b && (Nat.beq q 0 || ty_lbl W (Nat.pred q) v)))) = true from he)
    have c2 := Bool.and_eq_true_iff.mp c1.2
    have c3 := Bool.and_eq_true_iff.mp c2.2
    obtain ⟨m, rfl, hm⟩ := hv.toint c1.1
    have r : (ty_rng W.1 v).1 ≤ ty_kp m ∧ ty_kp m ≤ (ty_rng W.1 v).2 := ty_rng_ok hw.1 hm
    have g1 := ix_ble.mp c2.1
    have g2 := ix_ble.mp c3.1
    refine ⟨m, rfl, hm.1, by show a ≤ _; omega, by show _ ≤ b; omega, ?_⟩
    rcases (Bool.or_eq_true _ _).mp c3.2 with z | z
    · exact Or.inl (ix_beq.mp z)
    · exact Or.inr (ty_lbl_ok hw hm z)
  | 1, he =>
    rcases v with b' | l | r | y
    · cases (show ix_isLong (Sum.inl b') = true from he)
    · obtain ⟨m, rfl, hm⟩ := hv
      exact ⟨m, rfl, hm.1⟩
    · cases (show ix_isLong (Sum.inr (Sum.inr (Sum.inl r))) = true from he)
    · cases (show ix_isLong (Sum.inr (Sum.inr (Sum.inr y))) = true from he)
  | 2, he =>
    have c := Bool.and_eq_true_iff.mp (show (ty_isP a v && Nat.blt a 114) = true from he)
    have e := ty_isP_ok c.1
    subst e
    have ha := ix_blt.mp c.2
    have hh := hw.2.2.1
    have e114 := hh.2.2.2.2.2.1.1
    have e2 := ty_named hw hv (by omega)
    rw [hh.2.2.1 a (by omega)] at e2
    exact ⟨e2, ha⟩
  | 3, he => exact ty_rok_ok hw hv he
  | 4, he => cases he
  | 5, he =>
    have he : ty_nul v = true := he
    rcases v with b' | l | r | y
    · cases he
    · cases he
    · have e : r = 0 := ix_beq.mp he
      subst e
      exact hv
    · cases he
  | kd + 6, he => cases he
def ty_asms (γ : Nat → Nat) (Γ : Nat → Nat) (n : Nat) (t : ix_T) : List ty_KA → List ix_V → Prop
  | [], [] => True
  | s :: ss, w :: ws => ty_asm γ Γ n t s w ∧ ty_asms γ Γ n t ss ws
  | _, _ => False
noncomputable def ty_afits (h : ty_H) (W : ty_W) : List ty_KA → List ix_V → Bool
  | [], [] => true
  | s :: ss, v :: vs => ty_afit h W s v && ty_afits h W ss vs
  | _, _ => false
theorem ty_afits_ok {σ : ty_Sg} {W : ty_W} {n : Nat} {t : ix_T} (hw : ty_wk h σ W n t) : ∀ (ss : List ty_KA) (vs ws : List ix_V), ty_vs (ty_k h W) σ vs ws → ty_afits h W ss vs = true → ty_asms σ.2.1 σ.2.2.2 n t ss ws
  | [], [], [], _, _ => trivial
  | s :: ss, v :: vs, w :: ws, hv, he => by
    have c := Bool.and_eq_true_iff.mp (show (ty_afit h W s v && ty_afits h W ss vs) = true from he)
    exact ⟨ty_afit_ok hw hv.1 c.1, ty_afits_ok hw ss vs ws hv.2 c.2⟩
  | [], _ :: _, _, _, he => by cases he
  | _ :: _, [], _, _, he => by cases he
  | [], [], _ :: _, hv, _ => hv.elim
  | _ :: _, _ :: _, [], hv, _ => hv.elim
theorem ty_asm.ga {γ γ' Γ : Nat → Nat} {k n : Nat} {t : ix_T} {s : ty_KA} {w : ix_V} (hs : ty_asm γ' Γ n t s w) (ha : ty_ag k γ γ') : ty_asm γ Γ n t s w := by
  obtain ⟨kd, a, b, q⟩ := s
  match kd, hs with
  | 0, hs =>
    obtain ⟨m, m1, m2, m3, m4, m5⟩ := hs
    exact ⟨m, m1, m2, m3, m4, m5.imp id (fun z => z.ga ha)⟩
  | 1, hs => exact hs
  | 2, hs => exact hs
  | 3, hs => exact hs
  | 4, hs => exact hs
  | 5, hs => exact hs
  | _ + 6, hs => exact hs
theorem ty_asms.ga {γ γ' Γ : Nat → Nat} {k n : Nat} {t : ix_T} (ha : ty_ag k γ γ') : ∀ {ss : List ty_KA} {ws : List ix_V}, ty_asms γ' Γ n t ss ws → ty_asms γ Γ n t ss ws
  | [], [], _ => trivial
  | _ :: _, _ :: _, hs => ⟨hs.1.ga ha, ty_asms.ga ha hs.2⟩
  | [], _ :: _, hs => hs.elim
  | _ :: _, [], hs => hs.elim
/-- a value as a spec says it: a new symbol, a new name -/
noncomputable def ty_gav (h : ty_H) (W : ty_W) (s : ty_KA) : Option (ix_V × ty_W) :=
  cond (Nat.beq s.1 0) (match ty_fr s.2.1 s.2.2.1 W.1 with
    | some (v, A) => some (v, cond (Nat.beq s.2.2.2 0) (A, W.2) (ty_kn (A, W.2) ((113, .inr (.inl (Nat.pred s.2.2.2))), v)))
    | none => none)
  (cond (Nat.beq s.1 1) (ty_fj 9223372036854775808 27670116110564327423 W) (cond (Nat.beq s.1 2) (some (.inr (.inr (.inl (Nat.succ s.2.1))), W)) (cond (Nat.beq s.1 3) (ty_rf h s.2.1 W) (cond (Nat.beq s.1 5) (some (.inr (.inr (.inl 0)), W)) none))))
theorem ty_gav_ok {σ : ty_Sg} {W W' : ty_W} {n : Nat} {t : ix_T} {s : ty_KA} {v w : ix_V} (hw : ty_wk h σ W n t) (he : ty_gav h W s = some (v, W')) (hs : ty_asm σ.2.1 σ.2.2.2 n t s w) : ∃ σ', ty_mo W W' ∧ ty_agr (ty_k h W) σ σ' ∧ ty_wk h σ' W' n t ∧ ty_rv (ty_k h W') σ' v w ∧ ty_ag 0 σ.2.1 σ'.2.1 ∧ σ'.2.2.2 = σ.2.2.2 := by
  obtain ⟨kd, a, b, q⟩ := s
  match kd, he, hs with
  | 0, he, hs =>
    change (match ty_fr a b W.1 with
    | some (v, A) => some (v, cond (Nat.beq q 0) (A, W.2) (ty_kn (A, W.2) ((113, .inr (.inl (Nat.pred q))), v)))
    | none => none) = some (v, W') at he
    obtain ⟨m, rfl, m2, m3, m4, m5⟩ := hs
    split at he
    · rename_i u A hf
      have e0 := Option.some.inj he
      have e1 : u = v := congrArg Prod.fst e0
      have e2 : cond (Nat.beq q 0) (A, W.2) (ty_kn (A, W.2) ((113, .inr (.inl (Nat.pred q))), u)) = W' := congrArg Prod.snd e0
      subst e1
      obtain ⟨x, s1, s2, s3, s4⟩ := ty_fr_ok hw.1 hf m2 m3 m4
      obtain ⟨B, W2⟩ := W
      obtain ⟨g1, g2, g3⟩ := ty_wk.boxes hw s1 s2 s3
      have hv : ty_rv (ty_k h (A, W2)) (x, σ.2) u (.inl m) := ty_rv.int s4
      cases hq : Nat.beq q 0 with
      | true =>
        rw [hq] at e2
        subst e2
        exact ⟨(x, σ.2), g3, g2, g1, hv, ty_ag.rf, rfl⟩
      | false =>
        rw [hq] at e2
        subst e2
        have hl : ty_lab σ.2.1 (q - 1) t m := by
          rcases m5 with m5 | m5
          · rw [ix_beq.mpr (show q = 0 from m5)] at hq; cases hq
          · exact m5
        have e114 := hw.2.2.1.2.2.2.2.2.1.1
        exact ⟨(x, σ.2), g3, g2, g1.kn ⟨by show 113 < h.1 + _; omega, m, s4, hl⟩, hv, ty_ag.rf, rfl⟩
    · cases he
  | 1, he, hs =>
    have he : ty_fj 9223372036854775808 27670116110564327423 W = some (v, W') := he
    obtain ⟨m, rfl, hm⟩ := hs
    have k1 := ty_kj_lo m
    have k2 := ty_kj_hi m
    obtain ⟨σ', s1, s2, s3, s4, s5, s6⟩ := ty_fj_ok hw he hm (by omega) (by omega)
    exact ⟨σ', s1, s2, s3, s4, fun x hx => s2.2.1 x (Or.inr (by rcases hx with q | q <;> omega)), s6⟩
  | 2, he, hs =>
    cases (show some ((.inr (.inr (.inl (Nat.succ a))) : ix_V), W) = some (v, W') from he)
    obtain ⟨rfl, ha⟩ := hs
    have hh := hw.2.2.1
    have e114 := hh.2.2.2.2.2.1.1
    have ha' : a < 114 := ha
    refine ⟨σ, ty_mo.rf, ty_agr.rf, hw, Or.inl ⟨by show a < h.1 + _; omega, ?_⟩, ty_ag.rf, rfl⟩
    rw [hh.2.2.1 a (by omega)]
  | 3, he, hs =>
    have he : ty_rf h a W = some (v, W') := he
    obtain ⟨j, rfl, j1, j2⟩ := hs
    unfold ty_rf at he
    have he' := he
    have key := @ty_rf_ok h σ W W' n a j t v hw (by unfold ty_rf; exact he') j1 j2
    obtain ⟨σ', s1, s2, s3, s4, s5⟩ := key
    cases hc : Nat.blt W.2.2.1.1 256 with
    | false => rw [hc] at he; cases he
    | true =>
      rw [hc] at he
      obtain ⟨A, L, R, Q, X⟩ := W
      have hlt : R.1 < 256 := ix_blt.mp hc
      cases he
      have hh := hw.2.2.1
      have e114 := hh.2.2.2.2.2.1.1
      obtain ⟨h1, hl, hh, hr, hq, hx⟩ := hw
      have hg : ty_agr (ty_k h (A, (L, (R, (Q, X))))) σ (σ.1, (σ.2.1, (ty_new σ.2.2.1 (h.1 + R.1) j, σ.2.2.2))) := ⟨ty_ag.rf, ty_ag.rf, ty_new_ag _ _ _ (by show h.1 + R.1 < 1000; omega), fun _ _ => rfl⟩
      have hm : ty_mo (A, (L, (R, (Q, X)))) (A, (L, ((Nat.succ R.1, ix_u 8 R.2 R.1 a), (Q, X)))) := ⟨Nat.le_refl _, Nat.le_refl _, Nat.le_succ _⟩
      refine ⟨(σ.1, (σ.2.1, (ty_new σ.2.2.1 (h.1 + R.1) j, σ.2.2.2))), hm, hg, ⟨h1, hl, ⟨hh.1, hh.2.1, fun p hp => ?_, hh.2.2.2⟩, ⟨hlt, fun p hp => ?_⟩, hq, fun f hf => (hx f hf).ag hg hm.k⟩, Or.inl ⟨?_, ?_⟩, ty_ag.rf, rfl⟩
      · show ty_new σ.2.2.1 (h.1 + R.1) j p = p
        unfold ty_new
        rw [if_neg (by omega)]
        exact hh.2.2.1 p hp
      · have hp2 : p < R.1 + 1 := hp
        show ty_new σ.2.2.1 (h.1 + R.1) j (h.1 + p) < n ∧ σ.2.2.2 (ty_new σ.2.2.1 (h.1 + R.1) j (h.1 + p)) = ix_g (ix_u 8 R.2 R.1 a) p
        rw [ix_gu 8 R.2 R.1 p a (by show R.1 < 256; omega) (by show p < 256; omega)]
        unfold ty_new
        by_cases e : p = R.1
        · rw [if_pos (by omega), if_pos e]
          exact ⟨j1, j2⟩
        · rw [if_neg (by omega), if_neg e]
          exact hr.2 p (by show p < R.1; omega)
      · show h.1 + R.1 < h.1 + (R.1 + 1)
        omega
      · show _ = Sum.inr (Sum.inr (Sum.inl (ty_new σ.2.2.1 (h.1 + R.1) j (h.1 + R.1) + 1)))
        unfold ty_new
        rw [if_pos rfl]
  | 4, he, _ => cases he
  | 5, he, hs =>
    cases (show some ((.inr (.inr (.inl 0)) : ix_V), W) = some (v, W') from he)
    have e : w = .inr (.inr (.inl 0)) := hs
    exact ⟨σ, ty_mo.rf, ty_agr.rf, hw, e, ty_ag.rf, rfl⟩
  | kd + 6, he, _ => cases he
noncomputable def ty_gavs (h : ty_H) : List ty_KA → ty_W → Option (List ix_V × ty_W)
  | [], W => some ([], W)
  | s :: ss, W => (match ty_gav h W s with
    | some (v, W1) => (match ty_gavs h ss W1 with
      | some (vs, W2) => some (v :: vs, W2)
      | none => none)
    | none => none)
theorem ty_gavs_ok {n : Nat} {t : ix_T} : ∀ (ss : List ty_KA) (W W' : ty_W) (vs ws : List ix_V) (σ : ty_Sg), ty_wk h σ W n t → ty_gavs h ss W = some (vs, W') → ty_asms σ.2.1 σ.2.2.2 n t ss ws → ∃ σ', ty_mo W W' ∧ ty_agr (ty_k h W) σ σ' ∧ ty_wk h σ' W' n t ∧ ty_vs (ty_k h W') σ' vs ws ∧ ty_ag 0 σ.2.1 σ'.2.1 ∧ σ'.2.2.2 = σ.2.2.2
  | [], W, W', vs, [], σ, hw, he, _ => by
    cases he
    exact ⟨σ, ty_mo.rf, ty_agr.rf, hw, trivial, ty_ag.rf, rfl⟩
  | s :: ss, W, W', vs, w :: ws, σ, hw, he, hs => by
    change (match ty_gav h W s with
    | some (v, W1) => (match ty_gavs h ss W1 with
      | some (vs, W2) => some (v :: vs, W2)
      | none => none)
    | none => none) = some (vs, W') at he
    split at he
    · rename_i v W1 hg
      split at he
      · rename_i vs2 W2 hg2
        cases he
        obtain ⟨σ1, a1, a2, a3, a4, a5, a6⟩ := ty_gav_ok hw hg hs.1
        obtain ⟨σ2, b1, b2, b3, b4, b5, b6⟩ := ty_gavs_ok ss W1 _ _ ws σ1 a3 hg2 (by rw [a6]; exact ty_asms.ga (fun x hx => (a5 x hx).symm) hs.2)
        exact ⟨σ2, a1.tr b1, a2.tr b2 a1.k, b3, ⟨a4.ag b2 b1.k, b4⟩, fun x hx => (b5 x hx).trans (a5 x hx), b6.trans a6⟩
      · cases he
    · cases he
  | [], _, _, _, _ :: _, _, _, _, hs => hs.elim
  | _ :: _, _, _, _, [], _, _, _, hs => hs.elim
end TYCT
