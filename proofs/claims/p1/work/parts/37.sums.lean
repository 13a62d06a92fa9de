/-! runs that were made once serve again, at weaker worlds and greater depths -/
theorem ix_wv_ok {σ : Nat → Int32} {ad : Nat → Option Nat} {a b : ix_V} {v : Value} (h : ix_wv a b = true) (hv : ix_rv σ ad a v) : ix_rv σ ad b v := by
  match a, b, h, hv with
  | .inl m, .inl n, h, hv => have e := ix_beq.mp h; subst e; exact hv
  | .inl m, .inr (.inr (.inr (x, c))), h, hv =>
    have h1 := Bool.and_eq_true_iff.mp h
    have e1 := ix_beq.mp h1.1
    have e2 := ix_beq.mp h1.2
    subst e1; subst e2
    obtain ⟨_, rfl⟩ := hv
    exact ix_any_ok _
  | .inr (.inl m), .inr (.inl n), h, hv => have e := ix_beq.mp h; subst e; exact hv
  | .inr (.inr (.inl m)), .inr (.inr (.inl n)), h, hv => have e := ix_beq.mp h; subst e; exact hv
  | .inr (.inr (.inr (x, c))), .inr (.inr (.inr (y, d))), h, hv =>
    rcases Bool.or_eq_true_iff.mp h with h | h
    · have h1 := Bool.and_eq_true_iff.mp h
      have e1 := ix_beq.mp h1.1
      have e2 := ix_beq.mp h1.2
      subst e1; subst e2
      obtain ⟨_, z, rfl, _⟩ := hv
      exact ix_any_ok _
    · have h1 := Bool.and_eq_true_iff.mp h
      have e1 := ix_beq.mp h1.1
      have e2 := ix_beq.mp h1.2
      subst e1; subst e2
      exact hv
theorem ix_wl_ok {α : Type} {p : α → Bool} : ∀ (t : Lean.RArray α), ix_wl p t = true → ∀ n, p (ix_g t n) = true
  | .leaf a, h, n => h
  | .branch q l r, h, n => by
    have h1 := Bool.and_eq_true_iff.mp (show (ix_wl p l && ix_wl p r) = true from h)
    rw [ix_g_branch]
    split
    · exact ix_wl_ok l h1.1 _
    · exact ix_wl_ok r h1.2 _
theorem ix_wt_ok {α : Type} {p : α → α → Bool} : ∀ (s t : Lean.RArray α), ix_wt p s t = true → ∀ n, p (ix_g s n) (ix_g t n) = true
  | .leaf a, t, h, n => ix_wl_ok t h n
  | .branch q l r, .leaf b, h, n => by
    have h1 := Bool.and_eq_true_iff.mp (show (ix_wt p l (.leaf b) && ix_wt p r (.leaf b)) = true from h)
    rw [ix_g_branch]
    split
    · exact ix_wt_ok l (.leaf b) h1.1 (n / 2)
    · exact ix_wt_ok r (.leaf b) h1.2 (n / 2)
  | .branch q l r, .branch q' l' r', h, n => by
    have h1 := Bool.and_eq_true_iff.mp (show (ix_wt p l l' && ix_wt p r r') = true from h)
    rw [ix_g_branch, ix_g_branch]
    split
    · exact ix_wt_ok l l' h1.1 (n / 2)
    · exact ix_wt_ok r r' h1.2 (n / 2)
theorem ix_wc_ok {σ : Nat → Int32} {ad : Nat → Option Nat} {dT : Nat → ClassId} {c c0 : ix_C} {e : va_E} (h : ix_wc c c0 = true) (hc : ix_rc σ ad dT c e) : ix_rc σ ad dT c0 e := by
  rcases Bool.or_eq_true_iff.mp h with h | h
  · exact Or.inl (ix_beq.mp h)
  · have h1 := Bool.and_eq_true_iff.mp h
    have h2 := Bool.and_eq_true_iff.mp h1.2
    have e1 := ix_beq.mp h1.1
    have e2 := ix_beq.mp h2.1
    have hw := ix_wt_ok _ _ h2.2
    rcases hc with hc | hc
    · exact Or.inl (by rw [← e1]; exact hc)
    · refine Or.inr ?_
      match e, hc with
      | .inr (ci, fs), hc => exact ⟨by rw [← e1]; exact hc.1, by rw [← e2]; exact hc.2.1, by rw [← e2]; exact hc.2.2.1, fun k hk => by
          obtain ⟨v, v1, v2⟩ := hc.2.2.2 k (by rw [e2]; exact hk)
          exact ⟨v, v1, ix_wv_ok (hw k) v2⟩⟩
      | .inl (cA, n, .inl f), hc => exact ⟨by rw [← e1]; exact hc.1, by rw [← e1]; exact hc.2.1, by rw [← e2]; exact hc.2.2.1, hc.2.2.2.1, fun j hj => ix_wv_ok (hw j) (hc.2.2.2.2 j hj)⟩
      | .inl (cA, n, .inr (.inl f)), hc => exact ⟨by rw [← e1]; exact hc.1, by rw [← e1]; exact hc.2.1, by rw [← e2]; exact hc.2.2.1, hc.2.2.2.1, fun j hj => ix_wv_ok (hw j) (hc.2.2.2.2 j hj)⟩
      | .inl (cA, n, .inr (.inr (.inr (.inr f)))), hc => exact ⟨by rw [← e1]; exact hc.1, by rw [← e1]; exact hc.2.1, by rw [← e1]; exact hc.2.2.1, by rw [← e2]; exact hc.2.2.2.1, hc.2.2.2.2.1, fun j hj => ix_wv_ok (hw j) (hc.2.2.2.2.2 j hj)⟩
      | .inl (_, _, .inr (.inr (.inl _))), hc => exact hc.elim
      | .inl (_, _, .inr (.inr (.inr (.inl _)))), hc => exact hc.elim
theorem ix_rwp.weak {σ : Nat → Int32} {dT : Nat → ClassId} {ad : Nat → Option Nat} {n : Nat} {t t0 : ix_T} {ws : va_W} (h : ix_rwp σ dT ad n t ws) (hw : ix_wt ix_wc t t0 = true) : ix_rwp σ dT ad n t0 ws := by
  obtain ⟨h1, h2, h3, h4⟩ := h
  refine ⟨h1, h2, h3, fun i hi => ?_⟩
  obtain ⟨a, e, g1, g2, g3⟩ := h4 i hi
  exact ⟨a, e, g1, g2, ix_wc_ok (ix_wt_ok _ _ hw i) g3⟩
theorem ix_ws_ok {σ : Nat → Int32} {ad : Nat → Option Nat} : ∀ (as bs : List ix_V) (av : List Value), ix_ws as bs = true → ix_rs σ ad as av → ix_rs σ ad bs av
  | [], [], _, _, h => h
  | a :: as, b :: bs, av, h, hr => by
    have h1 := Bool.and_eq_true_iff.mp (show (ix_wv a b && ix_ws as bs) = true from h)
    obtain ⟨v, vs, rfl, q1, q2⟩ := ix_rs_1 hr
    exact ⟨ix_wv_ok h1.1 q1, ix_ws_ok as bs vs h1.2 q2⟩
  | [], _ :: _, _, h, _ => by cases h
  | _ :: _, [], _, h, _ => by cases h
theorem ix_nrms {σ : Nat → Int32} {ad : Nat → Option Nat} {B : ix_B} (hB : ix_ib σ B) : ∀ (as : List ix_V) (av : List Value), ix_rs σ ad as av → ix_rs σ ad (as.map (ix_nrm B)) av
  | [], [], h => h
  | _ :: as, _ :: av, h => ⟨ix_nrm_ok hB h.1, ix_nrms hB as av h.2⟩
  | [], _ :: _, h => h.elim
  | _ :: _, [], h => h.elim
theorem ix_room {s : State} {pl : Platform} {r r' : Room} (h : s.hasRoom pl r' = true) (h1 : r.frames ≤ r'.frames) (h2 : r.cells ≤ r'.cells) (h3 : r.slots ≤ r'.slots) (h4 : r.locals ≤ r'.locals) : s.hasRoom pl r = true := by
  simp only [State.hasRoom, Bool.and_eq_true, decide_eq_true_eq] at h ⊢
  obtain ⟨⟨⟨⟨a1, a2, a3, a4, a5, a6⟩, a7⟩, a8⟩, a9⟩ := h
  exact ⟨⟨⟨⟨by omega, by omega, by omega, by omega, by omega, a6⟩, by omega⟩, by omega⟩, a9⟩
theorem ix_met {l : Launch} {y : MethodName} {ws : List Cond} {rm rm' : Room} {Pc : Array Value → State → Prop} {Qc Qc' : Array Value → State → Outcome → State → Prop} {mc ms : Nat} {free : Addr → Prop} (h : Met l y ws rm Pc Qc mc ms free) (h1 : rm.frames ≤ rm'.frames) (h2 : rm.cells ≤ rm'.cells) (h3 : rm.slots ≤ rm'.slots) (h4 : rm.locals ≤ rm'.locals) (hQ : ∀ a s o t, Qc a s o t → Qc' a s o t) : Met l y ws rm' Pc Qc' mc ms free := by
  intro p e ha hc hk s m args below hf happ hP hK
  obtain ⟨g1, g2, g3, g4, g5, g6, g7, g8⟩ := (Spec.appliesLoose_iff hf).mp happ
  obtain ⟨n, o, q1, q2, q3, q4⟩ := h p e ha hc hk s m args below hf ((Spec.appliesLoose_iff hf).mpr ⟨g1, g2, g3, g4, g5, g6, ix_room g7 h1 h2 h3 h4, g8⟩) hP hK
  exact ⟨n, o, q1, q2, q3, hQ _ _ _ _ q4.1, q4.2⟩
theorem ix_sums_ok {l : Launch} {Ts : List Cond} {cl : List vw_C} {O : ix_O} {sl : ix_Sl} {J : ix_J} : ∀ (L : List ix_Sm), (∀ q ∈ L, ∃ call, ix_CO l Ts cl O sl J q.1 call ∧ call q.2.1 q.2.2.1 [] q.2.2.2.1 q.2.2.2.2.1 = some q.2.2.2.2.2) → ∀ dd, ix_CO l Ts cl O sl J (dd + 1) (ix_sums L dd)
  | [], _, dd => fun y as B n t outs h => by cases h
  | (d0, y0, as0, n0, t0, outs0) :: L, hL, dd => fun y as B n t outs h σ D dT ad av ws sz hB hrs hrw => by
    have IH := ix_sums_ok L (fun q hq => hL q (List.mem_cons_of_mem _ hq)) dd
    change cond (Nat.beq y y0 && (Nat.blt d0 (dd + 2) && (Nat.beq n n0 && (ix_ws (as.map (ix_nrm B)) as0 && ix_wt ix_wc t t0)))) (some (outs0.map (fun o => (B, o.2)))) (ix_sums L dd y as B n t) = some outs at h
    cases hb : (Nat.beq y y0 && (Nat.blt d0 (dd + 2) && (Nat.beq n n0 && (ix_ws (as.map (ix_nrm B)) as0 && ix_wt ix_wc t t0)))) with
    | false => rw [hb] at h; exact IH y as B n t outs h σ D dT ad av ws sz hB hrs hrw
    | true =>
      rw [hb] at h
      have b1 := Bool.and_eq_true_iff.mp hb
      have b2 := Bool.and_eq_true_iff.mp b1.2
      have b3 := Bool.and_eq_true_iff.mp b2.2
      have b4 := Bool.and_eq_true_iff.mp b3.2
      have ey := ix_beq.mp b1.1
      have en := ix_beq.mp b3.1
      have ed := ix_blt.mp b2.1
      subst ey; subst en
      have ho : outs0.map (fun o => (B, o.2)) = outs := Option.some.inj h
      subst ho
      obtain ⟨call, hco, hcall⟩ := hL _ List.mem_cons_self
      have hM := hco y as0 [] n t0 outs0 hcall σ D dT ad av ws sz (fun x lo hi hx => by simp at hx) (ix_ws_ok _ _ _ b4.1 (ix_nrms hB as av hrs)) (hrw.weak b4.2)
      refine ix_met hM ?_ (Nat.le_refl _) (Nat.le_refl _) ?_ ?_
      · show d0 ≤ dd + 1; omega
      · show 64 * d0 ≤ 64 * (dd + 1); omega
      · rintro a s o t2 ⟨⟨o2, ho2, ad', ws', v, hv, hfr⟩, hF⟩
        exact ⟨⟨(B, o2.2), List.mem_map.mpr ⟨o2, ho2, rfl⟩, ad', ws', v, hv, ⟨hB, hfr.2.1, hfr.2.2.1, hfr.2.2.2⟩⟩, hF⟩
