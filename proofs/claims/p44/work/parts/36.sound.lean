/-! what our machine runs to, the Java machine runs to -/
theorem ix_args_ok {σ : ix_Sg} {ad : Nat → Option Nat} : ∀ (as : List ix_V) (av : List Value) (off : Nat), ix_rs σ ad as av → (ix_args as).length = (lg_sl av).length ∧ ∀ i x, (ix_args as)[i]? = some (some x) → ∃ v, (off + i, v) ∈ lv_args off av ∧ ix_rv σ ad x v
  | [], [], off, _ => ⟨rfl, fun i x h => by simp [ix_args] at h⟩
  | a :: as, v :: av, off, h => by
    obtain ⟨h1, h2⟩ := h
    rcases h1.cat with ⟨c1, c2⟩ | ⟨c1, c2⟩
    · obtain ⟨g1, g2⟩ := ix_args_ok as av (off + 2) h2
      have e1 : ix_args (a :: as) = some a :: none :: ix_args as := by show cond (ix_cat2 a) _ _ = _; rw [c1]; rfl
      have e2 : lg_sl (v :: av) = [.val v, .second] ++ lg_sl av := by unfold lg_sl; rw [List.flatMap_cons, if_pos c2]
      refine ⟨by rw [e1, e2]; simp [g1], fun i x hx => ?_⟩
      rw [e1] at hx
      show ∃ w, (off + i, w) ∈ (off, v) :: lv_args (if v.category = 2 then off + 2 else off + 1) av ∧ _
      rw [if_pos c2]
      match i, hx with
      | 0, hx => cases hx; exact ⟨v, List.mem_cons_self, h1⟩
      | 1, hx => cases hx
      | i + 2, hx =>
        obtain ⟨w, w1, w2⟩ := g2 i x hx
        exact ⟨w, List.mem_cons_of_mem _ (by rw [show off + (i + 2) = off + 2 + i by omega]; exact w1), w2⟩
    · obtain ⟨g1, g2⟩ := ix_args_ok as av (off + 1) h2
      have n2 : ¬ v.category = 2 := by omega
      have e1 : ix_args (a :: as) = some a :: ix_args as := by show cond (ix_cat2 a) _ _ = _; rw [c1]; rfl
      have e2 : lg_sl (v :: av) = [.val v] ++ lg_sl av := by unfold lg_sl; rw [List.flatMap_cons, if_neg n2]
      refine ⟨by rw [e1, e2]; simp [g1], fun i x hx => ?_⟩
      rw [e1] at hx
      show ∃ w, (off + i, w) ∈ (off, v) :: lv_args (if v.category = 2 then off + 2 else off + 1) av ∧ _
      rw [if_neg n2]
      match i, hx with
      | 0, hx => cases hx; exact ⟨v, List.mem_cons_self, h1⟩
      | i + 1, hx =>
        obtain ⟨w, w1, w2⟩ := g2 i x hx
        exact ⟨w, List.mem_cons_of_mem _ (by rw [show off + (i + 1) = off + 1 + i by omega]; exact w1), w2⟩
  | [], _ :: _, _, h => h.elim
  | _ :: _, [], _, h => h.elim
theorem ix_pad_ok : ∀ (k : Nat) (L : ix_L), (ix_pad L k).length = L.length + k ∧ ∀ (i : Nat) (x : ix_V), (ix_pad L k)[i]? = some (some x) → L[i]? = some (some x)
  | 0, L => ⟨rfl, fun _ _ h => h⟩
  | k + 1, L => by
    obtain ⟨h1, h2⟩ := ix_pad_ok k (L ++ [none])
    refine ⟨by show (ix_pad (L ++ [none]) k).length = _; rw [h1]; simp; omega, fun i x hx => ?_⟩
    have h3 := h2 i x hx
    by_cases hl : i < L.length
    · rw [List.getElem?_append_left hl] at h3; exact h3
    · rw [List.getElem?_append_right (by omega)] at h3
      have hz : i - L.length < 1 := (List.getElem?_eq_some_iff.mp h3).1
      rw [show i - L.length = 0 by omega] at h3
      cases h3
/-- a method's code is right: each of its steps is Java's, whatever it calls -/
def ix_MO (Ts : List Cond) (cl : List vw_C) (O : ix_O) (sl : ix_Sl) (J : ix_J) (y : Nat) (code : ix_Call → ix_P) : Prop :=
  plainName (J y).1.cls = true ∧ ∀ k E d call, ix_env k E (J y).1.cls (J y).2.1 Ts O sl J d call → ix_el E = cl → ix_rt k E (J y).2.2.2.1 → k.2.1.2.2.2.1.name = (J y).1.name → ix_eC E = (J y).2.2.2.2.1 → ix_eS E = (J y).2.2.2.2.2 → ∀ pc, ix_ok k E pc (code call pc)
theorem ix_exec_succ (M : ix_M) (S0 : Nat → ix_Call) (fuel d y : Nat) (as : List ix_V) (B : ix_B) (n : Nat) (t : ix_T) : ix_exec M S0 fuel (d + 1) y as B n t = (match S0 d y as B n t with
      | some outs => some outs
      | none => match M y with
        | none => none
        | some (P, nL) => cond (Nat.ble (ix_args as).length nL) (ix_loop (P (ix_exec M S0 fuel d)) fuel 0 (B, ix_pad (ix_args as) (Nat.sub nL (ix_args as).length), [], n, t, 0, 0)) none) := rfl
/-- at a method's entry -/
theorem ix_entry {σ : ix_Sg} {ad : Nat → Option Nat} {as : List ix_V} {av : List Value} {nL : Nat} (hrs : ix_rs σ ad as av) (hl : (ix_args as).length ≤ nL) : ix_rl σ ad (ix_pad (ix_args as) (Nat.sub nL (ix_args as).length)) nL ((lg_sl av ++ List.replicate (nL - (lg_sl av).length) Slot.unset).toArray) := by
  obtain ⟨g1, g2⟩ := ix_args_ok as av 0 hrs
  obtain ⟨p1, p2⟩ := ix_pad_ok (Nat.sub nL (ix_args as).length) (ix_args as)
  refine ⟨by rw [p1]; show _ + (nL - _) = _; omega, _, lv_entry av (by omega), fun i x hx => ?_⟩
  obtain ⟨v, v1, v2⟩ := g2 i x (p2 i x hx)
  rw [Nat.zero_add] at v1
  exact ⟨v, v1, v2⟩
theorem ix_exec_ok {l : Launch} {Ts : List Cond} {cl : List vw_C} {O : ix_O} {sl : ix_Sl} {J : ix_J} {M : ix_M} {S0 : Nat → ix_Call} {fuel : Nat} (hM : ∀ y P nL, M y = some (P, nL) → nL = (J y).2.2.1 ∧ ix_MO Ts cl O sl J y P) (hS0 : ∀ d, ix_CO l Ts cl O sl J (d + 1) (S0 d)) (hG : GoodIn Ts Ts) : ∀ d, ix_CO l Ts cl O sl J d (ix_exec M S0 fuel d)
  | 0 => fun y as B n t outs h => by cases h
  | d + 1 => fun y as B n t outs h σ D dT ad av ws sz hB hrs hrw => by
    have IH := ix_exec_ok (fuel := fuel) hM hS0 hG d
    rw [ix_exec_succ] at h
    split at h
    · rename_i o2 hs
      cases h
      exact hS0 d y as B n t outs hs σ D dT ad av ws sz hB hrs hrw
    · split at h
      · cases h
      · rename_i P nL hm
        obtain ⟨hnL, hplain, hcode⟩ := hM y P nL hm
        cases hb : Nat.ble (ix_args as).length nL with
        | false => rw [hb] at h; cases h
        | true =>
          rw [hb] at h
          dsimp only [cond_true] at h
          refine Met.ofW (cc := (J y).2.1) (maxL := (J y).2.2.1) (ret := (J y).2.2.2.1) hplain rfl ?_
          intro p e s m args below meth c s₁ Bd hml hv
          obtain ⟨rfl, hsz, hP, hD0, hK, hgl⟩ := hv
          subst hsz
          rw [← hnL] at hml ⊢
          have hctx : ix_ctx ((p, l, e, (headSpec (Cond.code (J y).1 (J y).2.1 (J y).2.2.1 (J y).2.2.2.1 :: Ts) (ix_rm (d + 1) (J y).2.2.2.2.1 (J y).2.2.2.2.2)).room, s), (m, av.toArray, below, meth, c), MQ below (ix_Qc cl σ D dT ad ws s.heap.size outs) av.toArray s (J y).2.2.2.2.1 (J y).2.2.2.2.2 (va_A ws s.heap.size)) (cl, σ, D, dT, va_A ws s.heap.size, ad, nL, ((J y).2.2.2.2.1, (J y).2.2.2.2.2), fun S => S ∈ outs) (J y).1.cls (J y).2.1 Ts :=
            ⟨Bd.exec, Bd.bytes, hml, findClass_of_methodNamed Bd.named, fun w hw => atoms_spec (ws := Cond.code (J y).1 (J y).2.1 (J y).2.2.1 (J y).2.2.2.1 :: Ts) Bd.pre w (List.mem_cons_of_mem _ hw), hK, fun q hq => Or.inr hq, Nat.le_refl _, Nat.le_refl _⟩
          have hok := hcode _ _ d (ix_exec M S0 fuel d) ⟨hctx, hgl, IH, Nat.le_refl _, Nat.le_of_eq (by show 64 * d + 64 = 64 * (d + 1); omega), hG⟩ rfl ⟨_, _, rfl, fun q hq => hq, Bd.returns, Bd.notSynchronized, fun S hS ad' ws' H locs v hfr hS' t ht hW => ⟨⟨S, hS, ad', ws', v, rfl, by rw [ht]; exact hfr⟩, hS'.F ht⟩⟩ (name_of_methodNamed Bd.named Bd.method).1 rfl rfl
          have hgo := ix_loop_ok hok fuel 0 _ outs h (fun o ho => ho)
          rw [lg_entry_eq]
          exact ix_go_e (by decide) hgo ad ws s.heap [] _ [] ⟨hB, ix_entry hrs (ix_ble.mp hb), trivial, ix_ext.rf, ⟨hrw.1, hrw.2.1, hrw.2.2.1, hrw.2.2.2, hP, hD0.self⟩, Nat.zero_le _, Nat.zero_le _⟩ va_S.rf
