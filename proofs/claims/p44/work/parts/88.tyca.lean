/-! calls and returns of the typed machine -/
section TYC
variable {h : ty_H} {cp : Nat × Nat} {M : ix_M} {cap : Nat → Nat} {d : Nat} {P : ix_Call → ix_P} {pc : Nat}
noncomputable def ty_ret (aok : ty_A → ix_V → Bool) : ty_S → ty_R
  | (W, _, [v], w) => cond (aok W.1 v) (some [(99999, (W, [], [v], w))]) none
  | _ => none
theorem ts_ret {aok : ty_A → ix_V → Bool} {ok : ix_V → Bool} (hk : ty_okp aok ok) : ty_sd h cp pc (fun _ => ix_ret ok) (ty_ret aok) := by
  intro S outs hs σ C hi
  obtain ⟨W, L, st, w⟩ := S
  obtain ⟨ls, stk, n, t, ce, sl⟩ := C
  rcases st with _ | ⟨v, _ | ⟨u, st⟩⟩
  · cases hs
  · change cond (aok W.1 v) (some [(99999, (W, [], [v], w))]) none = some outs at hs
    cases ho : aok W.1 v with
    | false => rw [ho] at hs; cases hs
    | true =>
      rw [ho] at hs
      cases hs
      obtain ⟨x, stk', e, x2, x3⟩ := ty_vs_1 hi.2.2.1
      have e3 := ty_vs_0 x3
      have e' : stk = x :: [] := by rw [← e3]; exact e
      subst e'
      refine ty_sd1 ty_mo.rf ty_agr.rf (C' := ([], [x], n, t, ce, sl)) ⟨hi.1, ⟨rfl, fun i u hu => by simp at hu⟩, ⟨x2, trivial⟩, hi.2.2.2⟩ (fun g => ?_)
      show cond (ok x) (some [(99999, ([], [], [x], n, t, ce, sl))]) none = _
      rw [hk W.1 _ σ v x hi.1.1 x2 ho]
      rfl
  · cases hs
noncomputable def ty_retv : ty_S → ty_R
  | (W, _, [], w) => some [(99999, (W, [], [], w))]
  | _ => none
theorem ts_retv : ty_sd h cp pc (fun _ => ix_retv) ty_retv := by
  intro S outs hs σ C hi
  obtain ⟨W, L, st, w⟩ := S
  obtain ⟨ls, stk, n, t, ce, sl⟩ := C
  rcases st with _ | ⟨v, st⟩
  · cases hs
    have e := ty_vs_0 hi.2.2.1
    have e' : stk = [] := e
    subst e'
    exact ty_sd1 ty_mo.rf ty_agr.rf (C' := ([], [], n, t, ce, sl)) ⟨hi.1, ⟨rfl, fun i u hu => by simp at hu⟩, trivial, hi.2.2.2⟩ (fun g => rfl)
  · cases hs
abbrev ty_Call : Type := Nat → List ix_V → ty_W → Option (List (List ix_V × ty_W))
/-- a call of the plain machine ends so -/
def ty_ev (M : ix_M) (d y : Nat) (as : List ix_V) (n : Nat) (t : ix_T) (C : ty_C) : Prop := ∃ f0, ∀ g, f0 ≤ g → ix_exec M ty_no g d y as [] n t = some [([], C)]
/-- calls of ours are right at a depth -/
def ty_CO (h : ty_H) (M : ix_M) (cap : Nat → Nat) (d : Nat) (ac : ty_Call) : Prop := ∀ y as W outs, ac y as W = some outs → ∀ σ avs n t, ty_wk h σ W n t → ty_vs (ty_k h W) σ as avs → n + cap y ≤ 16384 → ∃ o ∈ outs, ∃ σ' C', ty_mo W o.2 ∧ ty_agr (ty_k h W) σ σ' ∧ ty_wk h σ' o.2 C'.2.2.1 C'.2.2.2.1 ∧ ty_vs (ty_k h o.2) σ' o.1 C'.2.1 ∧ C'.2.2.1 ≤ n + cap y ∧ ty_ev M d y avs n t C'
theorem ty_take {k : ty_K} {σ : ty_Sg} : ∀ (na : Nat) (acc acc' st stk as rest : List ix_V), ty_vs k σ acc acc' → ty_vs k σ st stk → ix_take na acc st = some (as, rest) → ∃ as' rest', ix_take na acc' stk = some (as', rest') ∧ ty_vs k σ as as' ∧ ty_vs k σ rest rest'
  | 0, acc, acc', st, stk, as, rest, ha, hs, he => by
    cases he
    exact ⟨acc', stk, rfl, ha, hs⟩
  | na + 1, acc, acc', [], stk, as, rest, ha, hs, he => by cases he
  | na + 1, acc, acc', v :: st, stk, as, rest, ha, hs, he => by
    obtain ⟨w, stk', rfl, w1, w2⟩ := ty_vs_1 hs
    exact ty_take na (v :: acc) (w :: acc') st stk' as rest ⟨w1, ha⟩ w2 he
theorem ty_cats {k : ty_K} {σ : ty_Sg} : ∀ (st stk : List ix_V) (a : Nat), ty_vs k σ st stk → st.foldl (fun a v => cond (ix_cat2 v) (a + 2) (a + 1)) a = stk.foldl (fun a v => cond (ix_cat2 v) (a + 2) (a + 1)) a
  | [], [], _, _ => rfl
  | v :: st, w :: stk, a, hv => by
    show st.foldl _ (cond (ix_cat2 v) (a + 2) (a + 1)) = stk.foldl _ (cond (ix_cat2 w) (a + 2) (a + 1))
    rw [hv.1.cat]
    exact ty_cats st stk _ hv.2
  | [], _ :: _, _, hv => hv.elim
  | _ :: _, [], _, hv => hv.elim
theorem ty_vs_app {k : ty_K} {σ : ty_Sg} : ∀ {a a' b b' : List ix_V}, ty_vs k σ a a' → ty_vs k σ b b' → ty_vs k σ (a ++ b) (a' ++ b')
  | [], [], _, _, _, hb => hb
  | _ :: _, _ :: _, _, _, ha, hb => ⟨ha.1, ty_vs_app ha.2 hb⟩
  | [], _ :: _, _, _, ha, _ => ha.elim
  | _ :: _, [], _, _, ha, _ => ha.elim
/-- is the first argument an object of a class; 0: nobody is asked -/
noncomputable def ty_rcv (h : ty_H) (kd : Nat) (W : ty_W) (as : List ix_V) : Bool := cond (Nat.beq kd 0) true (match as with
  | .inr (.inr (.inl r)) :: _ => (match r with
    | 0 => false
    | p + 1 => Nat.blt p (Nat.add h.1 W.2.2.1.1) && Nat.beq (h.2 (ty_ty h W p)).1 kd)
  | _ => false)
noncomputable def ty_cal (h : ty_H) (kd : Nat) (ac : ty_Call) (na y mc ms capC capS nx : Nat) : ty_S → ty_R
  | (W, L, st, ce, sl) => match ix_take na [] st with
    | some (as, rest) => cond (ty_rcv h kd W as && (Nat.ble (ix_cats rest) 8 && (Nat.ble (Nat.add ce mc) capC && Nat.ble (Nat.add sl ms) capS))) (match ac y as W with
      | some outs => some (outs.map (fun o => (nx, (o.2, L, o.1 ++ rest, Nat.add ce mc, Nat.add sl ms))))
      | none => none) none
    | none => none
theorem ts_cal {kd na y mc ms capC capS nx : Nat} {ac : ty_Call} {chk : List ix_V → Nat → ix_T → Bool} (hcap : cap y = mc) (hcp : capC ≤ cp.2) (hco : ty_CO h M cap d ac) (hchk : ∀ W σ n t as avs, ty_wk h σ W n t → ty_vs (ty_k h W) σ as avs → ty_rcv h kd W as = true → chk avs n t = true) : ty_sd h cp pc (fun g => ix_call chk (ix_exec M ty_no g d) na y mc ms capC capS nx) (ty_cal h kd ac na y mc ms capC capS nx) := by
  intro S outs hs σ C hi
  obtain ⟨W, L, st, ce, sl⟩ := S
  obtain ⟨ls, stk, n, t, ce2, sl2⟩ := C
  change (match ix_take na [] st with
    | some (as, rest) => cond (ty_rcv h kd W as && (Nat.ble (ix_cats rest) 8 && (Nat.ble (Nat.add ce mc) capC && Nat.ble (Nat.add sl ms) capS))) (match ac y as W with
      | some outs => some (outs.map (fun o => (nx, (o.2, L, o.1 ++ rest, Nat.add ce mc, Nat.add sl ms))))
      | none => none) none
    | none => none) = some outs at hs
  split at hs
  · rename_i as rest hta
    cases hc : (ty_rcv h kd W as && (Nat.ble (ix_cats rest) 8 && (Nat.ble (Nat.add ce mc) capC && Nat.ble (Nat.add sl ms) capS))) with
    | false => rw [hc] at hs; cases hs
    | true =>
      rw [hc] at hs
      dsimp only [cond_true] at hs
      have c1 := Bool.and_eq_true_iff.mp hc
      have c2 := Bool.and_eq_true_iff.mp c1.2
      have c3 := Bool.and_eq_true_iff.mp c2.2
      have g1 : ce + mc ≤ capC := ix_ble.mp c3.1
      have g2 : sl + ms ≤ capS := ix_ble.mp c3.2
      have q1 : ce2 ≤ ce := hi.2.2.2.1
      have q2 : sl2 ≤ sl := hi.2.2.2.2.1
      have q3 : n ≤ cp.1 + ce2 := hi.2.2.2.2.2.1
      have q4 : cp.1 + cp.2 ≤ 16384 := hi.2.2.2.2.2.2.1
      split at hs
      · rename_i l hac
        have ho := Option.some.inj hs
        obtain ⟨avs, rest', t1, t2, t3⟩ := ty_take na [] [] st stk as rest trivial hi.2.2.1 hta
        obtain ⟨o, om, σ', C', m1, a1, w1, v1, n1, e1⟩ := hco y as W l hac σ avs n t hi.1 t2 (by omega)
        obtain ⟨f0, hf0⟩ := e1
        refine ⟨(nx, (o.2, L, o.1 ++ rest, Nat.add ce mc, Nat.add sl ms)), by rw [← ho]; exact List.mem_map.mpr ⟨o, om, rfl⟩, σ', (ls, C'.2.1 ++ rest', C'.2.2.1, C'.2.2.2.1, Nat.add ce2 mc, Nat.add sl2 ms), m1, a1, ⟨w1, hi.2.1.ag a1 m1.k, ty_vs_app v1 (t3.ag a1 m1.k), by show ce2 + mc ≤ ce + mc; omega, by show sl2 + ms ≤ sl + ms; omega, by show C'.2.2.1 ≤ cp.1 + (ce2 + mc); omega, q4, by show ce + mc ≤ cp.2; omega⟩, Or.inr ⟨f0, fun g hg => ?_⟩⟩
        show (match ix_take na [] stk with
          | some (as, rest) => cond (chk as n t && (Nat.ble (ix_cats rest) 8 && (Nat.ble (Nat.add ce2 mc) capC && Nat.ble (Nat.add sl2 ms) capS))) (match ix_exec M ty_no g d y as [] n t with
            | some outs => some (outs.map (fun o : ix_S => (nx, (o.1, ls, o.2.2.1 ++ rest, o.2.2.2.1, o.2.2.2.2.1, Nat.add ce2 mc, Nat.add sl2 ms))))
            | none => none) none
          | none => none) = _
        rw [t1]
        dsimp only
        have ec : ix_cats rest' = ix_cats rest := (ty_cats rest rest' 0 t3).symm
        rw [hchk W σ n t as avs hi.1 t2 c1.1, ec, c2.1, ix_ble.mpr (show Nat.add ce2 mc ≤ capC by show ce2 + mc ≤ capC; omega), ix_ble.mpr (show Nat.add sl2 ms ≤ capS by show sl2 + ms ≤ capS; omega), hf0 g hg]
        rfl
      · cases hs
  · cases hs
theorem ts_calS {na y mc ms capC capS nx : Nat} {ac : ty_Call} (hcap : cap y = mc) (hcp : capC ≤ cp.2) (hco : ty_CO h M cap d ac) : ty_sd h cp pc (fun g => ix_call ix_any3 (ix_exec M ty_no g d) na y mc ms capC capS nx) (ty_cal h 0 ac na y mc ms capC capS nx) := ts_cal hcap hcp hco (fun _ _ _ _ _ _ _ _ _ => rfl)
theorem ts_calV {kd na y mc ms capC capS nx : Nat} {ac : ty_Call} (hkd : ¬ kd = 0) (hcap : cap y = mc) (hcp : capC ≤ cp.2) (hco : ty_CO h M cap d ac) : ty_sd h cp pc (fun g => ix_call (ix_rcv kd) (ix_exec M ty_no g d) na y mc ms capC capS nx) (ty_cal h kd ac na y mc ms capC capS nx) := ts_cal hcap hcp hco (fun W σ n t as avs hw hv hr => by
  unfold ty_rcv at hr
  rw [ix_beq_f.mpr hkd, cond_false] at hr
  split at hr
  · rename_i r as
    obtain ⟨x, xs, rfl, x1, x2⟩ := ty_vs_1 hv
    cases r with
    | zero => cases hr
    | succ p =>
      have c := Bool.and_eq_true_iff.mp (show (Nat.blt p (Nat.add h.1 W.2.2.1.1) && Nat.beq (h.2 (ty_ty h W p)).1 kd) = true from hr)
      have hp : p < h.1 + W.2.2.1.1 := ix_blt.mp c.1
      have e := ty_named hw x1 hp
      subst e
      obtain ⟨hn, hty⟩ := ty_ty_ok hw hp
      have hcok := hw.2.2.1.2.2.2.1 _ hn
      rw [hty] at hcok
      show (Nat.blt (σ.2.2.1 p) n && Nat.beq (ix_g t (σ.2.2.1 p)).1 kd) = true
      rw [ix_blt.mpr hn, ix_beq.mpr (hcok.1.trans (ix_beq.mp c.2))]
      rfl
  · cases hr)
/-- outcomes are joined; what was right stays so -/
def ty_MG (h : ty_H) (mg : ty_W → List (List ix_V × ty_W) → List (List ix_V × ty_W)) : Prop := ∀ W outs o σ0 σ n t rs, o ∈ outs → (∃ n0 t0, ty_wk h σ0 W n0 t0) → ty_mo W o.2 → ty_agr (ty_k h W) σ0 σ → ty_wk h σ o.2 n t → ty_vs (ty_k h o.2) σ o.1 rs → ∃ o' ∈ mg W outs, ∃ σ', ty_mo W o'.2 ∧ ty_agr (ty_k h W) σ0 σ' ∧ ty_wk h σ' o'.2 n t ∧ ty_vs (ty_k h o'.2) σ' o'.1 rs
/-- a table of methods: code over calls, loops, locals -/
abbrev ty_M : Type := Nat → Option ((ty_Call → Nat → ty_S → ty_R) × ((Nat → Option ty_L) × Nat))
noncomputable def ty_exec (h : ty_H) (T : ty_M) (mg : Nat → ty_W → List (List ix_V × ty_W) → List (List ix_V × ty_W)) (S0 : Nat → ty_Call) (fuel d : Nat) : ty_Call :=
  Nat.rec (motive := fun _ => ty_Call) (fun _ _ _ => none)
    (fun dd ih y as W => match S0 dd y as W with
      | some outs => some outs
      | none => (match T y with
        | none => none
        | some (A, H, nL) => cond (Nat.ble (ix_args as).length nL) (match ty_run h (A ih) H fuel [] 0 (W, ix_pad (ix_args as) (Nat.sub nL (ix_args as).length), [], 0, 0) with
          | none => none
          | some outs => cond (outs.all (fun o => Nat.beq o.1 99999)) (some (mg y W (outs.map (fun o => (o.2.2.2.1, o.2.1))))) none) none)) d
theorem ty_exec_succ (T : ty_M) (mg : Nat → ty_W → List (List ix_V × ty_W) → List (List ix_V × ty_W)) (S0 : Nat → ty_Call) (fuel d y : Nat) (as : List ix_V) (W : ty_W) : ty_exec h T mg S0 fuel (d + 1) y as W = (match S0 d y as W with
      | some outs => some outs
      | none => (match T y with
        | none => none
        | some (A, H, nL) => cond (Nat.ble (ix_args as).length nL) (match ty_run h (A (ty_exec h T mg S0 fuel d)) H fuel [] 0 (W, ix_pad (ix_args as) (Nat.sub nL (ix_args as).length), [], 0, 0) with
          | none => none
          | some outs => cond (outs.all (fun o => Nat.beq o.1 99999)) (some (mg y W (outs.map (fun o => (o.2.2.2.1, o.2.1))))) none) none)) := rfl
theorem ty_args {k : ty_K} {σ : ty_Sg} : ∀ (as avs : List ix_V), ty_vs k σ as avs → (ix_args as).length = (ix_args avs).length ∧ ∀ (i : Nat) (v : ix_V), (ix_args as)[i]? = some (some v) → ∃ w, (ix_args avs)[i]? = some (some w) ∧ ty_rv k σ v w
  | [], [], _ => ⟨rfl, fun i v hv => by simp [ix_args] at hv⟩
  | a :: as, w :: avs, hv => by
    obtain ⟨h1, h2⟩ := hv
    obtain ⟨g1, g2⟩ := ty_args as avs h2
    have ec := h1.cat
    cases hc : ix_cat2 a with
    | true =>
      have e1 : ix_args (a :: as) = some a :: none :: ix_args as := by show cond (ix_cat2 a) _ _ = _; rw [hc]; rfl
      have e2 : ix_args (w :: avs) = some w :: none :: ix_args avs := by show cond (ix_cat2 w) _ _ = _; rw [← ec, hc]; rfl
      rw [e1, e2]
      refine ⟨by simp [g1], fun i v hi => ?_⟩
      match i, hi with
      | 0, hi => cases hi; exact ⟨w, rfl, h1⟩
      | 1, hi => cases hi
      | i + 2, hi => exact g2 i v hi
    | false =>
      have e1 : ix_args (a :: as) = some a :: ix_args as := by show cond (ix_cat2 a) _ _ = _; rw [hc]; rfl
      have e2 : ix_args (w :: avs) = some w :: ix_args avs := by show cond (ix_cat2 w) _ _ = _; rw [← ec, hc]; rfl
      rw [e1, e2]
      refine ⟨by simp [g1], fun i v hi => ?_⟩
      match i, hi with
      | 0, hi => cases hi; exact ⟨w, rfl, h1⟩
      | i + 1, hi => exact g2 i v hi
  | [], _ :: _, hv => hv.elim
  | _ :: _, [], hv => hv.elim
theorem ty_padg : ∀ (k : Nat) (L : ix_L) (i : Nat), i < L.length → (ix_pad L k)[i]? = L[i]?
  | 0, L, i, _ => rfl
  | k + 1, L, i, hi => by
    show (ix_pad (L ++ [none]) k)[i]? = L[i]?
    rw [ty_padg k (L ++ [none]) i (by simp; omega), List.getElem?_append_left hi]
theorem ty_exec_ok {T : ty_M} {mg : Nat → ty_W → List (List ix_V × ty_W) → List (List ix_V × ty_W)} {S0 : Nat → ty_Call} {fuel : Nat} (hT : ∀ y A H nL, T y = some (A, H, nL) → (∀ dd avs n t, ty_no dd y avs [] n t = none) ∧ ∃ P, M y = some (P, nL) ∧ ∀ d ac, ty_CO h M cap d ac → ∀ N pc, ¬ pc = 99999 → ty_sm h (N, cap y) M d P pc (A ac pc)) {d0 : Nat} (hS : ∀ d, ty_CO h M cap (d0 + d + 1) (S0 d)) (hmg : ∀ y, ty_MG h (mg y)) : ∀ d, ty_CO h M cap (d0 + d) (ty_exec h T mg S0 fuel d)
  | 0 => fun y as W outs he => by cases he
  | d + 1 => fun y as W outs he σ avs n t hw hv hn16 => by
    have IH := ty_exec_ok (fuel := fuel) hT hS hmg d
    rw [ty_exec_succ] at he
    split at he
    · rename_i o2 hs
      cases he
      exact hS d y as W outs hs σ avs n t hw hv hn16
    · split at he
      · cases he
      · rename_i A H nL hy
        obtain ⟨hno, P, hP, hA⟩ := hT y A H nL hy
        cases hb : Nat.ble (ix_args as).length nL with
        | false => rw [hb] at he; cases he
        | true =>
          rw [hb] at he
          dsimp only [cond_true] at he
          split at he
          · cases he
          · rename_i l hrun
            cases hc : l.all (fun o => Nat.beq o.1 99999) with
            | false => rw [hc] at he; cases he
            | true =>
              rw [hc] at he
              dsimp only [cond_true] at he
              have ho := Option.some.inj he
              obtain ⟨a1, a2⟩ := ty_args as avs hv
              have hle := ix_ble.mp hb
              obtain ⟨p1, p2⟩ := ix_pad_ok (Nat.sub nL (ix_args as).length) (ix_args as)
              obtain ⟨q1, q2⟩ := ix_pad_ok (Nat.sub nL (ix_args avs).length) (ix_args avs)
              have hin : ty_in h (n, cap y) σ (W, ix_pad (ix_args as) (Nat.sub nL (ix_args as).length), [], 0, 0) (ix_pad (ix_args avs) (Nat.sub nL (ix_args avs).length), [], n, t, 0, 0) := by
                refine ⟨hw, ⟨by show (ix_pad _ _).length = (ix_pad _ _).length; rw [p1, q1, a1], fun i v hi => ?_⟩, trivial, Nat.le_refl _, Nat.le_refl _, Nat.le_refl _, hn16, Nat.zero_le _⟩
                have hi2 := p2 i v hi
                obtain ⟨w, w1, w2⟩ := a2 i v hi2
                refine ⟨w, ?_, w2⟩
                show (ix_pad (ix_args avs) _)[i]? = _
                rw [ty_padg _ _ i (List.getElem?_eq_some_iff.mp w1).1]
                exact w1
              obtain ⟨o, om, σ', C', m1, g1, i1, r1⟩ := ty_run_ok (M := M) (d := d0 + d) (P := P) (hA (d0 + d) _ IH n) fuel [] 0 _ l hrun σ _ hin
              have e9 := ix_beq.mp (List.all_eq_true.mp hc o om)
              obtain ⟨o', om', σ2, m2, g2, w2, v2⟩ := hmg y W (l.map (fun o => (o.2.2.2.1, o.2.1))) (o.2.2.2.1, o.2.1) σ σ' C'.2.2.1 C'.2.2.2.1 C'.2.1 (List.mem_map.mpr ⟨o, om, rfl⟩) ⟨n, t, hw⟩ m1 g1 i1.1 i1.2.2.1
              have hnn : C'.2.2.1 ≤ n + cap y := by
                have z0 : C'.2.2.2.2.1 ≤ o.2.2.2.2.1 := i1.2.2.2.1
                have z1 : C'.2.2.1 ≤ n + C'.2.2.2.2.1 := i1.2.2.2.2.2.1
                have z2 : o.2.2.2.2.1 ≤ cap y := i1.2.2.2.2.2.2.2
                omega
              refine ⟨o', by rw [← ho]; exact om', σ2, C', m2, g2, w2, v2, hnn, ?_⟩
              rw [e9] at r1
              obtain ⟨f0, hf0⟩ := r1 ([], C') ⟨1, fun g _ u hu => by
                obtain ⟨v, rfl⟩ : ∃ v, u = v + 1 := ⟨u - 1, by omega⟩
                rw [ix_loop_succ, ix_beq.mpr rfl]
                rfl⟩
              refine ⟨f0, fun g hg => ?_⟩
              show ix_exec M ty_no g (d0 + d + 1) y avs [] n t = _
              rw [ix_exec_succ, hno]
              show (match M y with
                | none => none
                | some (P, nL) => cond (Nat.ble (ix_args avs).length nL) (ix_loop (P (ix_exec M ty_no g (d0 + d))) g 0 ([], ix_pad (ix_args avs) (Nat.sub nL (ix_args avs).length), [], n, t, 0, 0)) none) = _
              rw [hP]
              dsimp only
              rw [ix_ble.mpr (by rw [← a1]; exact hle)]
              exact hf0 g hg g hg
/-- nothing is joined -/
theorem ty_MG_id : ty_MG h (fun _ l => l) := fun W outs o σ0 σ n t rs hm _ h1 h2 h3 h4 => ⟨o, hm, σ, h1, h2, h3, h4⟩
end TYC
