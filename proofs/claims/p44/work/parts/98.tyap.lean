/-! contracts: proved by a run, used at a call -/
section TYAP
variable {h : ty_H} {M : ix_M} {cap : Nat → Nat} {d : Nat}
noncomputable def ty_W00 : ty_W := ((0, .leaf (2147483648, 6442450943)), ((0, .leaf (0, 0)), ((0, .leaf 0), ([], []))))
noncomputable def ty_ent (h : ty_H) (K : ty_KT) : Option (List ix_V × ty_W) := match ty_gv h K.2.1 (0, .leaf (2147483648, 6442450943)) [] with
  | some (A, X) => ty_gavs h K.1 (A, ((0, .leaf (0, 0)), ((0, .leaf 0), ([], X))))
  | none => none
noncomputable def ty_slo (W : ty_W) (e : Nat × (Nat × (Nat × (Nat × Nat)))) : Option ix_V := cond (Nat.blt e.1 114 && Nat.blt e.2.1 2147483648) (ty_find W.1 e.1 (.inl (Nat.add 4294967296 e.2.1)) W.2.2.2.2) none
theorem ty_slo_ok {σ : ty_Sg} {W : ty_W} {n : Nat} {t : ix_T} {e : Nat × (Nat × (Nat × (Nat × Nat)))} {v : ix_V} (hw : ty_wk h σ W n t) (he : ty_slo W e = some v) : ty_rv (ty_k h W) σ v (ix_g (ix_g t e.1).2.2 e.2.1) := by
  unfold ty_slo at he
  cases hc : (Nat.blt e.1 114 && Nat.blt e.2.1 2147483648) with
  | false => rw [hc] at he; cases he
  | true =>
    rw [hc] at he
    have c := Bool.and_eq_true_iff.mp hc
    exact ty_fslot hw (ix_blt.mp c.1) (ix_blt.mp c.2) he
/-- an outcome is one of a contract's ends -/
noncomputable def ty_prl (V V2 : ty_V) (W0 W : ty_W) (r : Nat × (Nat × Nat)) : Bool := match V[r.1]?, V2[r.2.2]? with
  | some e, some f => (match ty_slo W0 e, ty_slo W f with
    | some a, some b => ty_isI a && (ty_isI b && ty_le W.1 W.2.2.2.1 a b r.2.1)
    | _, _ => false)
  | _, _ => false
noncomputable def ty_pkp (V : ty_V) (W0 W : ty_W) (i : Nat) : Bool := match V[i]? with
  | some e => (match ty_slo W0 e, ty_slo W e with
    | some a, some b => ty_isI a && (ty_isI b && ty_sj W.1 a b)
    | _, _ => false)
  | none => false
noncomputable def ty_pck (h : ty_H) (V : ty_V) (W0 : ty_W) (o : List ix_V × ty_W) (p : ty_KP) : Bool := ty_afits h o.2 p.1 o.1 && (p.2.1.all (ty_chv h o.2) && (p.2.2.1.all (ty_prl V p.2.1 W0 o.2) && p.2.2.2.all (ty_pkp V W0 o.2)))
/-- a contract holds, as a run shows -/
noncomputable def ty_kok (h : ty_H) (ac : ty_Call) (y : Nat) (K : ty_KT) : Bool := match ty_ent h K with
  | some (as, W) => (match ac y as W with
    | some outs => outs.all (fun o => K.2.2.any (ty_pck h K.2.1 W o))
    | none => false)
  | none => false
/-- what a contract says -/
def ty_KS (h : ty_H) (M : ix_M) (cap : Nat → Nat) (d y : Nat) (K : ty_KT) : Prop := ∀ (σ : ty_Sg) avs n t, ty_hp h σ n t → ty_asms σ.2.1 σ.2.2.2 n t K.1 avs → (∀ e ∈ K.2.1, ty_sev σ.2.1 t e) → n + cap y ≤ 16384 → ∃ p ∈ K.2.2, ∃ (σ' : ty_Sg) (C' : ty_C), ty_ag 0 σ.2.1 σ'.2.1 ∧ (∀ i, σ.2.2.2 i < 240 → σ'.2.2.2 i = σ.2.2.2 i) ∧ ty_hp h σ' C'.2.2.1 C'.2.2.2.1 ∧ ty_asms σ'.2.1 σ'.2.2.2 C'.2.2.1 C'.2.2.2.1 p.1 C'.2.1 ∧ (∀ e ∈ p.2.1, ty_sev σ'.2.1 C'.2.2.2.1 e) ∧ (∀ r ∈ p.2.2.1, ∀ e f, K.2.1[r.1]? = some e → p.2.1[r.2.2]? = some f → ∀ a b, ix_g (ix_g t e.1).2.2 e.2.1 = .inl a → ix_g (ix_g C'.2.2.2.1 f.1).2.2 f.2.1 = .inl b → ty_kp a + r.2.1 ≤ ty_kp b) ∧ (∀ i ∈ p.2.2.2, ∀ e, K.2.1[i]? = some e → ix_g (ix_g C'.2.2.2.1 e.1).2.2 e.2.1 = ix_g (ix_g t e.1).2.2 e.2.1) ∧ C'.2.2.1 ≤ n + cap y ∧ ty_ev M d y avs n t C'
theorem ty_kok_ok {ac : ty_Call} {y : Nat} {K : ty_KT} (hco : ty_CO h M cap d ac) (he : ty_kok h ac y K = true) : ty_KS h M cap d y K := by
  intro σ avs n t hhp has hse hn
  unfold ty_kok at he
  split at he
  · rename_i as W hent
    split at he
    · rename_i outs hac
      have w00 : ty_wk h σ ((0, .leaf (2147483648, 6442450943)), ((0, .leaf (0, 0)), ((0, .leaf 0), ([], [])))) n t := ⟨⟨Nat.zero_le _, fun x hx => absurd hx (Nat.not_lt_zero _)⟩, ⟨Nat.zero_le _, fun x hx => absurd hx (Nat.not_lt_zero _)⟩, hhp, ⟨Nat.zero_le _, fun x hx => absurd hx (Nat.not_lt_zero _)⟩, fun q hq => absurd hq (List.not_mem_nil), fun f hf => absurd hf (List.not_mem_nil)⟩
      unfold ty_ent at hent
      split at hent
      · rename_i A X hgv
        obtain ⟨s, s1, s2, s3⟩ := ty_gv_ok K.2.1 _ A _ X σ hgv w00 hse
        obtain ⟨σ1, b1, b2, b3, b4, b5, b6⟩ := ty_gavs_ok K.1 _ W as avs (s, σ.2) s3 hent has
        obtain ⟨o, om, σ2, C', m2, a2, w2, v2, n2, e2⟩ := hco y as W outs hac σ1 avs n t b3 b4 hn
        obtain ⟨p, pm, hp⟩ := List.any_eq_true.mp (List.all_eq_true.mp he o om)
        have c1 := Bool.and_eq_true_iff.mp hp
        have c2 := Bool.and_eq_true_iff.mp c1.2
        have c3 := Bool.and_eq_true_iff.mp c2.2
        have hgh : ty_ag 0 σ.2.1 σ2.2.1 := fun x hx => by
          have q := a2.2.1 x (Or.inr (by rcases hx with q | q <;> omega))
          rw [q, b5 x (by rcases hx with q | q <;> omega)]
        refine ⟨p, pm, σ2, C', hgh, fun i hi => ?_, w2.2.2.1, ty_afits_ok w2 _ _ _ v2 c1.1, fun e hem => ty_chv_ok w2 (List.all_eq_true.mp c2.1 e hem), fun r hr e f hV hV2 a b ha hb => ?_, fun i hi e hV => ?_, n2, e2⟩
        · rw [a2.2.2.2 i (by rw [b6]; exact hi), b6]
        · have hz := List.all_eq_true.mp c3.1 r hr
          unfold ty_prl at hz
          rw [hV, hV2] at hz
          dsimp only at hz
          split at hz
          · rename_i va vb hva hvb
            have d1 := Bool.and_eq_true_iff.mp hz
            have d2 := Bool.and_eq_true_iff.mp d1.2
            obtain ⟨x, x1, x2⟩ := (ty_slo_ok b3 hva).toint d1.1
            obtain ⟨z, z1, z2⟩ := (ty_slo_ok w2 hvb).toint d2.1
            rw [ha] at x1
            rw [hb] at z1
            cases x1
            cases z1
            exact ty_le_ok w2.1 w2.2.2.2.2.1 (x2.ag a2.1 m2.1) z2 d2.2
          · cases hz
        · have hz := List.all_eq_true.mp c3.2 i hi
          unfold ty_pkp at hz
          rw [hV] at hz
          dsimp only at hz
          split at hz
          · rename_i va vb hva hvb
            have d1 := Bool.and_eq_true_iff.mp hz
            have d2 := Bool.and_eq_true_iff.mp d1.2
            obtain ⟨x, x1, x2⟩ := (ty_slo_ok b3 hva).toint d1.1
            obtain ⟨z, z1, z2⟩ := (ty_slo_ok w2 hvb).toint d2.1
            have e9 : x = z := ty_sj_ok w2.1 d2.2 (x2.ag a2.1 m2.1) z2
            rw [x1, z1, e9]
          · cases hz
      · cases hent
    · cases he
  · cases he
/-! a contract used -/
/-- labels that no store touches -/
noncomputable def ty_sta (X : ty_X) : ty_X := X.filter (fun f => match f.1.2 with
  | .inr (.inl q) => Nat.beq (Nat.mod q 4) 2
  | _ => false)
noncomputable def ty_kpx (h : ty_H) (V : ty_V) (W : ty_W) : List Nat → ty_X
  | [] => ty_sta W.2.2.2.2
  | i :: l => (match V[i]? with
    | some e => (match ty_slo W e with
      | some v => cond (Nat.blt e.1 114 && (Nat.blt e.2.1 2147483648 && Nat.blt e.2.1 (h.2 e.1).2.1)) (((e.1, .inl (Nat.add 4294967296 e.2.1)), v) :: ty_kpx h V W l) (ty_kpx h V W l)
      | none => ty_kpx h V W l)
    | none => ty_kpx h V W l)
noncomputable def ty_kpq (V V2 : ty_V) (W0 W : ty_W) : List (Nat × (Nat × Nat)) → ty_Q
  | [] => W.2.2.2.1
  | r :: rs => (match V[r.1]?, V2[r.2.2]? with
    | some e, some f => (match ty_slo W0 e, ty_slo W f with
      | some a, some b => cond (ty_isI a && ty_isI b) (ty_qa W.1 a b r.2.1 (ty_kpq V V2 W0 W rs)) (ty_kpq V V2 W0 W rs)
      | _, _ => ty_kpq V V2 W0 W rs)
    | _, _ => ty_kpq V V2 W0 W rs)
noncomputable def ty_kpo (h : ty_H) (V : ty_V) (W : ty_W) (p : ty_KP) : Option (List ix_V × ty_W) := match ty_gv h p.2.1 W.1 (ty_kpx h V W p.2.2.2) with
  | some (A, X) => ty_gavs h p.1 (A, (W.2.1, (W.2.2.1, (ty_kpq V p.2.1 W (A, (W.2.1, (W.2.2.1, (W.2.2.2.1, X)))) p.2.2.1, X))))
  | none => none
noncomputable def ty_kpl (h : ty_H) (V : ty_V) (W : ty_W) : List ty_KP → Option (List (List ix_V × ty_W))
  | [] => some []
  | p :: l => (match ty_kpo h V W p with
    | some o => (match ty_kpl h V W l with
      | some r => some (o :: r)
      | none => none)
    | none => none)
noncomputable def ty_kap (h : ty_H) (K : ty_KT) (as : List ix_V) (W : ty_W) : Option (List (List ix_V × ty_W)) := cond (ty_afits h W K.1 as && (K.2.1.all (ty_chv h W) && (List.range W.2.2.1.1).all (fun p => Nat.blt (ix_g W.2.2.1.2 p) 240))) (ty_kpl h K.2.1 W K.2.2) none
theorem ty_kpl_mem {V : ty_V} {W : ty_W} : ∀ (l : List ty_KP) (outs : List (List ix_V × ty_W)), ty_kpl h V W l = some outs → ∀ p ∈ l, ∃ o ∈ outs, ty_kpo h V W p = some o
  | [], outs, _, p, hp => by cases hp
  | q :: l, outs, he, p, hp => by
    change (match ty_kpo h V W q with
    | some o => (match ty_kpl h V W l with
      | some r => some (o :: r)
      | none => none)
    | none => none) = some outs at he
    split at he
    · rename_i o ho
      split at he
      · rename_i r hr
        cases he
        rcases List.mem_cons.mp hp with rfl | hp
        · exact ⟨o, List.mem_cons_self, ho⟩
        · obtain ⟨o2, m2, e2⟩ := ty_kpl_mem l r hr p hp
          exact ⟨o2, List.mem_cons_of_mem _ m2, e2⟩
      · cases he
    · cases he
theorem ty_kap_ok {y : Nat} {K : ty_KT} {as : List ix_V} {W : ty_W} {outs : List (List ix_V × ty_W)} (hK : ty_KS h M cap d y K) (he : ty_kap h K as W = some outs) {σ : ty_Sg} {avs : List ix_V} {n : Nat} {t : ix_T} (hw : ty_wk h σ W n t) (hv : ty_vs (ty_k h W) σ as avs) (hn : n + cap y ≤ 16384) : ∃ o ∈ outs, ∃ σ' C', ty_mo W o.2 ∧ ty_agr (ty_k h W) σ σ' ∧ ty_wk h σ' o.2 C'.2.2.1 C'.2.2.2.1 ∧ ty_vs (ty_k h o.2) σ' o.1 C'.2.1 ∧ C'.2.2.1 ≤ n + cap y ∧ ty_ev M d y avs n t C' := by
  unfold ty_kap at he
  cases hc : (ty_afits h W K.1 as && (K.2.1.all (ty_chv h W) && (List.range W.2.2.1.1).all (fun p => Nat.blt (ix_g W.2.2.1.2 p) 240))) with
  | false => rw [hc] at he; cases he
  | true =>
    rw [hc, cond_true] at he
    have c1 := Bool.and_eq_true_iff.mp hc
    have c2 := Bool.and_eq_true_iff.mp c1.2
    have hsv : ∀ e ∈ K.2.1, ty_sev σ.2.1 t e := fun e hem => ty_chv_ok hw (List.all_eq_true.mp c2.1 e hem)
    obtain ⟨p, pm, σ', C', hgh, hty, hp', has', hse', hrel, hkeep, hn', hev⟩ := hK σ avs n t hw.2.2.1 (ty_afits_ok hw _ _ _ hv c1.1) hsv hn
    obtain ⟨o, om, ho⟩ := ty_kpl_mem _ _ he p pm
    obtain ⟨A, Lg, R, Q, X⟩ := W
    have hbase : ty_wk h (σ.1, (σ.2.1, (σ.2.2.1, σ'.2.2.2))) (A, (Lg, (R, (Q, ty_kpx h K.2.1 (A, (Lg, (R, (Q, X)))) p.2.2.2)))) C'.2.2.1 C'.2.2.2.1 := by
      refine ⟨hw.1, hw.2.1, ⟨hp'.1, hp'.2.1, hw.2.2.1.2.2.1, hp'.2.2.2.1, hp'.2.2.2.2.1, hp'.2.2.2.2.2.1, hp'.2.2.2.2.2.2.1.ga hgh, hp'.2.2.2.2.2.2.2⟩, ⟨hw.2.2.2.1.1, fun q hq => ?_⟩, hw.2.2.2.2.1, ?_⟩
      · obtain ⟨r1, r2⟩ := hw.2.2.2.1.2 q hq
        have h240 := ix_blt.mp (List.all_eq_true.mp c2.2 q (List.mem_range.mpr hq))
        have e1 := hty (σ.2.2.1 (h.1 + q)) (by rw [r2]; exact h240)
        refine ⟨?_, e1.trans r2⟩
        by_cases hlt : σ.2.2.1 (h.1 + q) < C'.2.2.1
        · exact hlt
        · have := hp'.2.2.2.2.2.2.2 (σ.2.2.1 (h.1 + q)) (by omega)
          rw [e1, r2] at this
          rw [this] at h240
          exact absurd h240 (by decide)
      · have key : ∀ (l : List Nat), (∀ i ∈ l, i ∈ p.2.2.2) → ∀ f ∈ ty_kpx h K.2.1 (A, (Lg, (R, (Q, X)))) l, ty_fok (ty_k h (A, (Lg, (R, (Q, X))))) (σ.1, (σ.2.1, (σ.2.2.1, σ'.2.2.2))) C'.2.2.2.1 f := by
          intro l
          induction l with
          | nil =>
            intro _ f hf
            have hm := List.mem_filter.mp (show f ∈ X.filter _ from hf)
            have hfo := hw.2.2.2.2.2 f hm.1
            obtain ⟨⟨pp, j⟩, v⟩ := f
            rcases j with b | q | r | z
            · cases hm.2
            · obtain ⟨m, m1, m2⟩ := hfo.2
              have eq2 : q % 4 = 2 := ix_beq.mp hm.2
              refine ⟨hfo.1, m, m1, ?_⟩
              unfold ty_lab at m2 ⊢
              rw [eq2] at m2 ⊢
              exact m2
            · cases hm.2
            · cases hm.2
          | cons i l ih =>
            intro hl f hf
            have ih' := ih (fun i' hi' => hl i' (List.mem_cons_of_mem _ hi')) f
            change f ∈ (match K.2.1[i]? with
              | some e => (match ty_slo (A, (Lg, (R, (Q, X)))) e with
                | some v => cond (Nat.blt e.1 114 && (Nat.blt e.2.1 2147483648 && Nat.blt e.2.1 (h.2 e.1).2.1)) (((e.1, (Sum.inl (Nat.add 4294967296 e.2.1) : ix_V)), v) :: ty_kpx h K.2.1 (A, (Lg, (R, (Q, X)))) l) (ty_kpx h K.2.1 (A, (Lg, (R, (Q, X)))) l)
                | none => ty_kpx h K.2.1 (A, (Lg, (R, (Q, X)))) l)
              | none => ty_kpx h K.2.1 (A, (Lg, (R, (Q, X)))) l) at hf
            split at hf
            · rename_i e hV
              split at hf
              · rename_i v hsl
                cases hb : (Nat.blt e.1 114 && (Nat.blt e.2.1 2147483648 && Nat.blt e.2.1 (h.2 e.1).2.1)) with
                | false => rw [hb] at hf; exact ih' hf
                | true =>
                  rw [hb, cond_true] at hf
                  rcases List.mem_cons.mp hf with rfl | hf
                  · have d1 := Bool.and_eq_true_iff.mp hb
                    have d2 := Bool.and_eq_true_iff.mp d1.2
                    have e114 := hp'.2.2.2.2.2.1.1
                    have g1 := ix_blt.mp d1.1
                    have ep : σ.2.2.1 e.1 = e.1 := hw.2.2.1.2.2.1 e.1 (by omega)
                    have hnn : e.1 < C'.2.2.1 := by have := hp'.1; omega
                    have hcok := hp'.2.2.2.1 e.1 hnn
                    rw [(hp'.2.2.2.2.1 e.1 hnn).1 (by omega)] at hcok
                    have hsv1 := ty_slo_ok hw hsl
                    refine ty_fok_int (m := e.2.1) (show e.1 < h.1 + R.1 by omega) (ty_ivk (ix_blt.mp d2.1)) ?_ ?_
                    · show e.2.1 < (ix_g C'.2.2.2.1 (σ.2.2.1 e.1)).2.1
                      rw [ep]
                      exact Nat.lt_of_lt_of_le (ix_blt.mp d2.2) hcok.2.1
                    · show ty_rv _ _ v (ix_g (ix_g C'.2.2.2.1 (σ.2.2.1 e.1)).2.2 e.2.1)
                      rw [ep, hkeep i (hl i List.mem_cons_self) e hV]
                      exact hsv1.ag ⟨ty_ag.rf, ty_ag.rf, ty_ag.rf, hty⟩ ty_kl.rf
                  · exact ih' hf
              · exact ih' hf
            · exact ih' hf
        exact key p.2.2.2 (fun _ q => q)
    have hag0 : ty_agr (ty_k h (A, (Lg, (R, (Q, X))))) σ (σ.1, (σ.2.1, (σ.2.2.1, σ'.2.2.2))) := ⟨ty_ag.rf, ty_ag.rf, ty_ag.rf, hty⟩
    unfold ty_kpo at ho
    split at ho
    · rename_i A2 X2 hgv
      obtain ⟨s, s1, s2, s3⟩ := ty_gv_ok p.2.1 A A2 _ X2 _ hgv hbase (fun e hem => by
        obtain ⟨m, m1, m2, m3, m4, m5⟩ := hse' e hem
        exact ⟨m, m1, m2, m3, m4, m5.imp id (fun z => z.ga hgh)⟩)
      have hag1 : ty_agr (ty_k h (A, (Lg, (R, (Q, X))))) (σ.1, (σ.2.1, (σ.2.2.1, σ'.2.2.2))) (s, (σ.2.1, (σ.2.2.1, σ'.2.2.2))) := ⟨s1, ty_ag.rf, ty_ag.rf, fun _ _ => rfl⟩
      have hmo1 : ty_mo (A, (Lg, (R, (Q, X)))) (A2, (Lg, (R, (Q, X2)))) := ⟨s2, Nat.le_refl _, Nat.le_refl _⟩
      have hQ : ∀ (l : List (Nat × (Nat × Nat))), (∀ r ∈ l, r ∈ p.2.2.1) → ∀ q ∈ ty_kpq K.2.1 p.2.1 (A, (Lg, (R, (Q, X)))) (A2, (Lg, (R, (Q, X2)))) l, q.1 < A2.1 ∧ q.2.2 < A2.1 ∧ s q.1 + q.2.1 ≤ s q.2.2 + 4294967296 := by
        intro l
        induction l with
        | nil => intro _; exact s3.2.2.2.2.1
        | cons r l ih =>
          intro hl
          have ih' := ih (fun r' hr' => hl r' (List.mem_cons_of_mem _ hr'))
          show ∀ q ∈ (match K.2.1[r.1]?, p.2.1[r.2.2]? with
            | some e, some f => (match ty_slo (A, (Lg, (R, (Q, X)))) e, ty_slo (A2, (Lg, (R, (Q, X2)))) f with
              | some a, some b => cond (ty_isI a && ty_isI b) (ty_qa A2 a b r.2.1 (ty_kpq K.2.1 p.2.1 (A, (Lg, (R, (Q, X)))) (A2, (Lg, (R, (Q, X2)))) l)) (ty_kpq K.2.1 p.2.1 (A, (Lg, (R, (Q, X)))) (A2, (Lg, (R, (Q, X2)))) l)
              | _, _ => ty_kpq K.2.1 p.2.1 (A, (Lg, (R, (Q, X)))) (A2, (Lg, (R, (Q, X2)))) l)
            | _, _ => ty_kpq K.2.1 p.2.1 (A, (Lg, (R, (Q, X)))) (A2, (Lg, (R, (Q, X2)))) l), _
          split
          · rename_i e f hV hV2
            split
            · rename_i a b ha hb
              cases hi : (ty_isI a && ty_isI b) with
              | false => exact ih'
              | true =>
                have d1 := Bool.and_eq_true_iff.mp hi
                obtain ⟨x, x1, x2⟩ := (ty_slo_ok hw ha).toint d1.1
                obtain ⟨z, z1, z2⟩ := (ty_slo_ok s3 hb).toint d1.2
                exact ty_qa_ok s3.1 (x2.ag s1 s2) z2 (hrel r (hl r List.mem_cons_self) e f hV hV2 x z x1 z1) ih'
            · exact ih'
          · exact ih'
      have s4 := s3.q (hQ p.2.2.1 (fun _ q => q))
      obtain ⟨σ3, b1, b2, b3, b4, b5, b6⟩ := ty_gavs_ok p.1 _ o.2 o.1 C'.2.1 _ s4 ho (has'.ga hgh)
      exact ⟨o, om, σ3, C', hmo1.tr b1, (hag0.tr hag1 ty_kl.rf).tr b2 hmo1.k, b3, b4, hn', hev⟩
    · cases ho
/-- calls by contracts: which one, by what is known -/
noncomputable def ty_kcl (h : ty_H) (tab : Nat → List ix_V → ty_W → Option ty_KT) : ty_Call := fun y as W => match tab y as W with
  | some K => ty_kap h K as W
  | none => none
theorem ty_kcl_ok {tab : Nat → List ix_V → ty_W → Option ty_KT} (hK : ∀ y as W K, tab y as W = some K → ty_KS h M cap d y K) : ty_CO h M cap d (ty_kcl h tab) := by
  intro y as W outs he σ avs n t hw hv hn
  unfold ty_kcl at he
  split at he
  · rename_i K hk
    exact ty_kap_ok (hK y as W K hk) he hw hv hn
  · cases he
end TYAP
