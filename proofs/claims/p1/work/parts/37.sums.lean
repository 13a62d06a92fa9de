/-! runs that were made once serve again, at weaker worlds and greater depths -/
theorem ix_wv_ok {σ : ix_Sg} {ad : Nat → Option Nat} {a b : ix_V} {v : Value} (h : ix_wv a b = true) (hv : ix_rv σ ad a v) : ix_rv σ ad b v := by
  match a, b, h, hv with
  | .inl m, .inl n, h, hv => have e := ix_beq.mp h; subst e; exact hv
  | .inl m, .inr (.inr (.inr (x, c))), h, hv =>
    have h1 := Bool.and_eq_true_iff.mp h
    have e1 := ix_beq.mp h1.1
    have e2 := ix_beq.mp h1.2
    subst e1; subst e2
    obtain ⟨_, rfl⟩ := hv
    exact ix_any_ok _
  | .inr (.inl m), .inr (.inl n), h, hv => have e := ix_beq.mp h; subst e; exact hv
  | .inr (.inr (.inl m)), .inr (.inr (.inl n)), h, hv => have e := ix_beq.mp h; subst e; exact hv
  | .inr (.inr (.inr (x, c))), .inr (.inr (.inr (y, d))), h, hv =>
    rcases Bool.or_eq_true_iff.mp h with h | h
    · have h1 := Bool.and_eq_true_iff.mp h
      have e1 := ix_beq.mp h1.1
      have e2 := ix_beq.mp h1.2
      subst e1; subst e2
      obtain ⟨_, z, rfl, _⟩ := hv
      exact ix_any_ok _
    · have h1 := Bool.and_eq_true_iff.mp h
      have e1 := ix_beq.mp h1.1
      have e2 := ix_beq.mp h1.2
      subst e1; subst e2
      exact hv
theorem ix_wl_ok {α : Type} {p : α → Bool} : ∀ (t : Lean.RArray α), ix_wl p t = true → ∀ n, p (ix_g t n) = true
  | .leaf a, h, n => h
  | .branch q l r, h, n => by
    have h1 := Bool.and_eq_true_iff.mp (show (ix_wl p l && ix_wl p r) = true from h)
    rw [ix_g_branch]
    split
    · exact ix_wl_ok l h1.1 _
    · exact ix_wl_ok r h1.2 _
theorem ix_wt_ok {α : Type} {p : α → α → Bool} : ∀ (s t : Lean.RArray α), ix_wt p s t = true → ∀ n, p (ix_g s n) (ix_g t n) = true
  | .leaf a, t, h, n => ix_wl_ok t h n
  | .branch q l r, .leaf b, h, n => by
    have h1 := Bool.and_eq_true_iff.mp (show (ix_wt p l (.leaf b) && ix_wt p r (.leaf b)) = true from h)
    rw [ix_g_branch]
    split
    · exact ix_wt_ok l (.leaf b) h1.1 (n / 2)
    · exact ix_wt_ok r (.leaf b) h1.2 (n / 2)
  | .branch q l r, .branch q' l' r', h, n => by
    have h1 := Bool.and_eq_true_iff.mp (show (ix_wt p l l' && ix_wt p r r') = true from h)
    rw [ix_g_branch, ix_g_branch]
    split
    · exact ix_wt_ok l l' h1.1 (n / 2)
    · exact ix_wt_ok r r' h1.2 (n / 2)
/-- what nothing is said of plays no part in values -/
theorem ix_rv_eq {σ : ix_Sg} {ω : Nat → va_E} {ad : Nat → Option Nat} {x : ix_V} {v : Value} : ix_rv (σ.1, ω) ad x v ↔ ix_rv σ ad x v := by
  match x with
  | .inl _ => exact Iff.rfl
  | .inr (.inl _) => exact Iff.rfl
  | .inr (.inr (.inl _)) => exact Iff.rfl
  | .inr (.inr (.inr _)) => exact Iff.rfl
theorem ix_rs_eq {σ : ix_Sg} {ω : Nat → va_E} {ad : Nat → Option Nat} : ∀ {xs : List ix_V} {vs : List Value}, ix_rs (σ.1, ω) ad xs vs ↔ ix_rs σ ad xs vs
  | [], [] => Iff.rfl
  | _ :: _, _ :: _ => ⟨fun h => ⟨ix_rv_eq.mp h.1, ix_rs_eq.mp h.2⟩, fun h => ⟨ix_rv_eq.mpr h.1, ix_rs_eq.mpr h.2⟩⟩
  | [], _ :: _ => Iff.rfl
  | _ :: _, [] => Iff.rfl
theorem ix_wc_ok {σ σ' : ix_Sg} {ad : Nat → Option Nat} {dT : Nat → ClassId} {c c0 : ix_C} {e : va_E} (hσ : ∀ x v, ix_rv σ ad x v → ix_rv σ' ad x v) (h : ix_wc c c0 = true) (h98 : ¬ c0.1 = 98) (hc : ix_rc σ ad dT c e) : ix_rc σ' ad dT c0 e := by
  have h1 := Bool.and_eq_true_iff.mp h
  have h2 := Bool.and_eq_true_iff.mp h1.2
  have e1 := ix_beq.mp h1.1
  have e2 := ix_beq.mp h2.1
  have hw := ix_wt_ok _ _ h2.2
  rcases hc with hc | ⟨_, hc⟩
  · exact absurd (e1.symm.trans hc.1) h98
  · refine Or.inr ⟨h98, ?_⟩
    match e, hc with
    | .inr (ci, fs), hc => exact ⟨by rw [← e1]; exact hc.1, by rw [← e2]; exact hc.2.1, by rw [← e2]; exact hc.2.2.1, fun k hk => by
        obtain ⟨v, v1, v2⟩ := hc.2.2.2 k (by rw [e2]; exact hk)
        exact ⟨v, v1, hσ _ _ (ix_wv_ok (hw k) v2)⟩⟩
    | .inl (cA, n, .inl f), hc => exact ⟨by rw [← e1]; exact hc.1, by rw [← e1]; exact hc.2.1, by rw [← e2]; exact hc.2.2.1, hc.2.2.2.1, fun j hj => hσ _ _ (ix_wv_ok (hw j) (hc.2.2.2.2 j hj))⟩
    | .inl (cA, n, .inr (.inl f)), hc => exact ⟨by rw [← e1]; exact hc.1, by rw [← e1]; exact hc.2.1, by rw [← e2]; exact hc.2.2.1, hc.2.2.2.1, fun j hj => hσ _ _ (ix_wv_ok (hw j) (hc.2.2.2.2 j hj))⟩
    | .inl (cA, n, .inr (.inr (.inr (.inr f)))), hc => exact ⟨by rw [← e1]; exact hc.1, by rw [← e1]; exact hc.2.1, by rw [← e1]; exact hc.2.2.1, by rw [← e2]; exact hc.2.2.2.1, hc.2.2.2.2.1, fun j hj => hσ _ _ (ix_wv_ok (hw j) (hc.2.2.2.2.2 j hj))⟩
    | .inl (_, _, .inr (.inr (.inl _))), hc => exact hc.elim
    | .inl (_, _, .inr (.inr (.inr (.inl _)))), hc => exact hc.elim
theorem ix_g_puts (t : ix_T) (i : Nat) (hi : i < 256) : ∀ (l : List (Nat × ix_C)), (∀ q ∈ l, q.1 < 256) → ix_g (ix_puts t l) i = match l.find? (fun q => Nat.beq q.1 i) with
    | some q => q.2
    | none => ix_g t i
  | [], _ => rfl
  | q :: l, h => by
    show ix_g (ix_u 8 (ix_puts t l) q.1 q.2) i = _
    rw [ix_gu 8 _ q.1 i q.2 (h q List.mem_cons_self) hi, List.find?_cons]
    cases hb : Nat.beq q.1 i with
    | true => rw [if_pos (ix_beq.mp hb).symm]
    | false =>
      rw [if_neg (fun e => ix_beq_f.mp hb e.symm)]
      exact ix_g_puts t i hi l (fun p hp => h p (List.mem_cons_of_mem _ hp))
theorem ix_g_dark (i : Nat) : ∀ (n : Nat), n ≤ 256 → i < n → ix_g (ix_dark n) i = (98, i, .leaf (ix_vI 0))
  | 0, _, h => absurd h (Nat.not_lt_zero i)
  | n + 1, hn, h => by
    show ix_g (ix_u 8 (ix_dark n) n (98, n, .leaf (ix_vI 0))) i = _
    rw [ix_gu 8 _ n i _ (by show n < 256; omega) (by show i < 256; omega)]
    by_cases e : i = n
    · rw [if_pos e, e]
    · rw [if_neg e]
      exact ix_g_dark i n (by omega) (by omega)
theorem ix_ws_ok {σ : ix_Sg} {ad : Nat → Option Nat} : ∀ (as bs : List ix_V) (av : List Value), ix_ws as bs = true → ix_rs σ ad as av → ix_rs σ ad bs av
  | [], [], _, _, h => h
  | a :: as, b :: bs, av, h, hr => by
    have h1 := Bool.and_eq_true_iff.mp (show (ix_wv a b && ix_ws as bs) = true from h)
    obtain ⟨v, vs, rfl, q1, q2⟩ := ix_rs_1 hr
    exact ⟨ix_wv_ok h1.1 q1, ix_ws_ok as bs vs h1.2 q2⟩
  | [], _ :: _, _, h, _ => by cases h
  | _ :: _, [], _, h, _ => by cases h
theorem ix_nrms {σ : ix_Sg} {ad : Nat → Option Nat} {B : ix_B} (hB : ix_ib σ B) : ∀ (as : List ix_V) (av : List Value), ix_rs σ ad as av → ix_rs σ ad (as.map (ix_nrm B)) av
  | [], [], h => h
  | _ :: as, _ :: av, h => ⟨ix_nrm_ok hB h.1, ix_nrms hB as av h.2⟩
  | [], _ :: _, h => h.elim
  | _ :: _, [], h => h.elim
theorem ix_room {s : State} {pl : Platform} {r r' : Room} (h : s.hasRoom pl r' = true) (h1 : r.frames ≤ r'.frames) (h2 : r.cells ≤ r'.cells) (h3 : r.slots ≤ r'.slots) (h4 : r.locals ≤ r'.locals) : s.hasRoom pl r = true := by
  simp only [State.hasRoom, Bool.and_eq_true, decide_eq_true_eq] at h ⊢
  obtain ⟨⟨⟨⟨a1, a2, a3, a4, a5, a6⟩, a7⟩, a8⟩, a9⟩ := h
  exact ⟨⟨⟨⟨by omega, by omega, by omega, by omega, by omega, a6⟩, by omega⟩, by omega⟩, a9⟩
theorem ix_met {l : Launch} {y : MethodName} {ws : List Cond} {rm rm' : Room} {Pc Pc' : Array Value → State → Prop} {Qc Qc' : Array Value → State → Outcome → State → Prop} {mc ms : Nat} {free : Addr → Prop} (h : Met l y ws rm Pc Qc mc ms free) (h1 : rm.frames ≤ rm'.frames) (h2 : rm.cells ≤ rm'.cells) (h3 : rm.slots ≤ rm'.slots) (h4 : rm.locals ≤ rm'.locals) (hP' : ∀ a s, Pc' a s → Pc a s) (hQ : ∀ a s o t, Qc a s o t → Qc' a s o t) : Met l y ws rm' Pc' Qc' mc ms free := by
  intro p e ha hc hk s m args below hf happ hP hK
  obtain ⟨g1, g2, g3, g4, g5, g6, g7, g8⟩ := (Spec.appliesLoose_iff hf).mp happ
  obtain ⟨n, o, q1, q2, q3, q4⟩ := h p e ha hc hk s m args below hf ((Spec.appliesLoose_iff hf).mpr ⟨g1, g2, g3, g4, g5, g6, ix_room g7 h1 h2 h3 h4, g8⟩) (hP' _ _ hP) hK
  exact ⟨n, o, q1, q2, q3, hQ _ _ _ _ q4.1, q4.2⟩
theorem ix_sums_ok {l : Launch} {Ts : List Cond} {cl : List vw_C} {O : ix_O} {sl : ix_Sl} {J : ix_J} : ∀ (L : List ix_Sm), (∀ q ∈ L, ∃ call, ix_CO l Ts cl O sl J q.1 call ∧ ix_made call q = true) → ∀ dd, ix_CO l Ts cl O sl J (dd + 1) (ix_sums L dd)
  | [], _, dd => fun y as B n t outs h => by cases h
  | (d0, y0, as0, n0, req, ends) :: L, hL, dd => fun y as B n t outs h σ D dT ad av ws sz hB hrs hrw => by
    have IH := ix_sums_ok L (fun q hq => hL q (List.mem_cons_of_mem _ hq)) dd
    change cond (Nat.beq y y0 && (Nat.blt d0 (dd + 2) && (Nat.beq n n0 && (ix_ws (as.map (ix_nrm B)) as0 && req.all (fun q => ix_wc (ix_g t q.1) q.2))))) (some (ends.map (fun o => (B, [], o.1, n, ix_puts t o.2, 0, 0)))) (ix_sums L dd y as B n t) = some outs at h
    cases hb : (Nat.beq y y0 && (Nat.blt d0 (dd + 2) && (Nat.beq n n0 && (ix_ws (as.map (ix_nrm B)) as0 && req.all (fun q => ix_wc (ix_g t q.1) q.2))))) with
    | false => rw [hb] at h; exact IH y as B n t outs h σ D dT ad av ws sz hB hrs hrw
    | true =>
      rw [hb] at h
      have b1 := Bool.and_eq_true_iff.mp hb
      have b2 := Bool.and_eq_true_iff.mp b1.2
      have b3 := Bool.and_eq_true_iff.mp b2.2
      have b4 := Bool.and_eq_true_iff.mp b3.2
      have ey := ix_beq.mp b1.1
      have en := ix_beq.mp b3.1
      have ed := ix_blt.mp b2.1
      have hreq := List.all_eq_true.mp b4.2
      subst ey; subst en
      have ho : ends.map (fun o => (B, [], o.1, n, ix_puts t o.2, 0, 0)) = outs := Option.some.inj h
      subst ho
      obtain ⟨call, hco, hmade⟩ := hL _ List.mem_cons_self
      have m1 := Bool.and_eq_true_iff.mp (show ((match call y as0 [] n (ix_puts (ix_dark n) req) with | some r => ix_ends n r ends | none => false) && (Nat.ble n 256 && (req.all (fun q => Nat.blt q.1 n && !(Nat.beq q.2.1 98)) && ends.all (fun o => o.2.all (fun q => Nat.blt q.1 n && !(Nat.beq q.2.1 98)))))) = true from hmade)
      have m2 := Bool.and_eq_true_iff.mp m1.2
      have m3 := Bool.and_eq_true_iff.mp m2.2
      have hn := ix_ble.mp m2.1
      have rq : ∀ q ∈ req, q.1 < n ∧ ¬ q.2.1 = 98 := fun q hq => by
        have := Bool.and_eq_true_iff.mp (List.all_eq_true.mp m3.1 q hq)
        exact ⟨ix_blt.mp this.1, fun e => by rw [ix_beq.mpr e] at this; cases this.2⟩
      have eq : ∀ o ∈ ends, ∀ q ∈ o.2, q.1 < n ∧ ¬ q.2.1 = 98 := fun o ho q hq => by
        have := Bool.and_eq_true_iff.mp (List.all_eq_true.mp (List.all_eq_true.mp m3.2 o ho) q hq)
        exact ⟨ix_blt.mp this.1, fun e => by rw [ix_beq.mpr e] at this; cases this.2⟩
      cases hcall : call y as0 [] n (ix_puts (ix_dark n) req) with
      | none => rw [hcall] at m1; cases m1.1
      | some r =>
        rw [hcall] at m1
        have hends := List.all_eq_true.mp (show r.all _ = true from m1.1)
        obtain ⟨r1, r2, r3, r4⟩ := hrw
        have hM := hco y as0 [] n (ix_puts (ix_dark n) req) r hcall (σ.1, fun i => match ws[i]? with | some q => q.2 | none => σ.2 0) D dT ad av ws sz (fun x lo hi hx => by simp at hx) (ix_rs_eq.mpr (ix_ws_ok _ _ _ b4.1 (ix_nrms hB as av hrs))) ⟨r1, r2, r3, fun i hi => by
          obtain ⟨a, e, g1, g2, g3⟩ := r4 i hi
          refine ⟨a, e, g1, g2, ?_⟩
          rw [ix_g_puts _ i (by omega) req (fun q hq => Nat.lt_of_lt_of_le (rq q hq).1 hn)]
          split
          · rename_i q hq
            have hqm := List.mem_of_find?_eq_some hq
            have hqi : q.1 = i := ix_beq.mp (List.find?_some (p := fun q : Nat × ix_C => Nat.beq q.1 i) hq)
            have hw := hreq q hqm
            rw [hqi] at hw
            exact ix_wc_ok (fun x v hx => ix_rv_eq.mpr hx) hw (rq q hqm).2 g3
          · rw [ix_g_dark i n hn hi]
            exact Or.inl ⟨rfl, by show e = match ws[i]? with | some q => q.2 | none => σ.2 0; rw [g1]⟩⟩
        refine ix_met hM ?_ (Nat.le_refl _) (Nat.le_refl _) ?_ ?_ ?_
        · show d0 ≤ dd + 1; omega
        · show 64 * d0 ≤ 64 * (dd + 1); omega
        · rintro a s ⟨q0, q1, qP, qD, qK, qG⟩
          exact ⟨q0, q1, qP, qD, qK, fun i len f hi hO => by
            obtain ⟨b, xs, o1, o2, o5, o6⟩ := qG.1 i len f hi hO
            exact ⟨b, xs, o1, o2, o5, fun j hj ad => ix_rv_eq.mpr (o6 j hj ad)⟩, qG.2⟩
        · rintro a s o t2 ⟨⟨o2, ho2, ad', ws', v, hv, f1, f2, f3, f4⟩, hF⟩
          obtain ⟨e, he, hchk⟩ := List.any_eq_true.mp (hends o2 ho2)
          have c1 := Bool.and_eq_true_iff.mp hchk
          have c2 := Bool.and_eq_true_iff.mp c1.2
          have c3 := List.all_eq_true.mp c2.2
          have en := ix_beq.mp c1.1
          obtain ⟨w1, w2, w3, w4, w5, w6⟩ := f4
          rw [en] at w1 w3 w4
          refine ⟨⟨(B, [], e.1, n, ix_puts t e.2, 0, 0), List.mem_map.mpr ⟨e, he, rfl⟩, ad', ws', v, hv, ⟨hB, ix_ws_ok _ _ _ c2.1 (ix_rs_eq.mp f2), f3, w1, r2, w3, fun i hi => ?_, w5, w6⟩⟩, hF⟩
          have hi : i < n := hi
          obtain ⟨a', e', g1, g2, g3⟩ := w4 i hi
          refine ⟨a', e', g1, g2, ?_⟩
          show ix_rc σ ad' dT (ix_g (ix_puts t e.2) i) e'
          rw [ix_g_puts _ i (by omega) e.2 (fun q hq => Nat.lt_of_lt_of_le (eq e he q hq).1 hn)]
          have ck := c3 i (List.mem_range.mpr hi)
          split
          · rename_i q hq
            rw [hq] at ck
            have hqm := List.mem_of_find?_eq_some hq
            exact ix_wc_ok (fun x v hx => ix_rv_eq.mp hx) ck (eq e he q hqm).2 g3
          · rename_i hq
            rw [hq] at ck
            have k1 := Bool.and_eq_true_iff.mp ck
            have k98 := ix_beq.mp k1.1
            have kid := ix_beq.mp k1.2
            obtain ⟨a0, e0, z1, z2, z3⟩ := r4 i hi
            rcases g3 with ⟨_, g3⟩ | ⟨g3, _⟩
            · rw [kid] at g3
              have ee : e' = e0 := by
                rw [g3]
                show (match ws[i]? with | some q => q.2 | none => σ.2 0) = e0
                rw [z1]
              rw [ee]
              exact z3.ext f3
            · exact absurd k98 g3
