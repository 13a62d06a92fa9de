/-! plain instructions of the typed machine -/
section TYP
variable {h : ty_H} {cp : Nat × Nat} {pc : Nat}
def ty_okp (aok : ty_A → ix_V → Bool) (ok : ix_V → Bool) : Prop := ∀ (A : ty_A) (k2 : Nat × Nat) (σ : ty_Sg) (v w : ix_V), ty_bx σ.1 A → ty_rv (A.1, k2) σ v w → aok A v = true → ok w = true
noncomputable def ty_aI (_ : ty_A) (v : ix_V) : Bool := ty_isI v
noncomputable def ty_aJ (_ : ty_A) (v : ix_V) : Bool := ix_isLong v
noncomputable def ty_aR (_ : ty_A) (v : ix_V) : Bool := ix_isRef v
/-- 0 or 1 -/
noncomputable def ty_aZ (A : ty_A) (v : ix_V) : Bool := ty_isI v && (Nat.ble 4294967296 (ty_rng A v).1 && Nat.ble (ty_rng A v).2 4294967297)
theorem ty_okI : ty_okp ty_aI ix_isInt := by
  intro A k2 σ v w _ hr ha
  obtain ⟨n, rfl, _⟩ := hr.toint ha
  rfl
theorem ty_okJ : ty_okp ty_aJ ix_isLong := by
  intro A k2 σ v w _ hr ha
  rcases v with b | q | r | q
  · cases ha
  · obtain ⟨m, rfl, _⟩ := hr; rfl
  · cases ha
  · cases ha
theorem ty_okR : ty_okp ty_aR ix_isRef := by
  intro A k2 σ v w _ hr ha
  rcases v with b | q | r | q
  · cases ha
  · cases ha
  · cases r with
    | zero => have e : w = .inr (.inr (.inl 0)) := hr; rw [e]; rfl
    | succ p =>
      rcases hr with hr | hr
      · rw [hr.2]; rfl
      · rw [hr.2]; rfl
  · cases ha
theorem ty_okZ : ty_okp ty_aZ ix_isBit := by
  intro A k2 σ v w hA hr ha
  have c1 := Bool.and_eq_true_iff.mp ha
  have c2 := Bool.and_eq_true_iff.mp c1.2
  obtain ⟨n, rfl, hn⟩ := hr.toint c1.1
  have g1 := ix_ble.mp c2.1
  have g2 := ix_ble.mp c2.2
  have g3 := ty_rng_ok hA hn
  have g4 := ty_kp_eq n
  have g5 := hn.1
  exact ix_blt.mpr (show n < 2 by omega)
noncomputable def ty_load (aok : ty_A → ix_V → Bool) (i nx : Nat) : ty_S → ty_R
  | (W, L, st, w) => match L[i]? with
    | some (some v) => cond (aok W.1 v) (some [(nx, (W, L, v :: st, w))]) none
    | _ => none
theorem ts_load {aok : ty_A → ix_V → Bool} {ok : ix_V → Bool} (hk : ty_okp aok ok) {i nx : Nat} : ty_sd h cp pc (fun _ => ix_load ok i nx) (ty_load aok i nx) := by
  intro S outs hf σ C hi
  obtain ⟨W, L, st, w⟩ := S
  obtain ⟨ls, stk, n, t, ce, sl⟩ := C
  unfold ty_load at hf
  dsimp only at hf
  split at hf
  · rename_i v hv
    cases ho : aok W.1 v with
    | false => rw [ho] at hf; cases hf
    | true =>
      rw [ho] at hf
      cases hf
      obtain ⟨x, x1, x2⟩ := hi.2.1.2 i v hv
      refine ty_sd1 ty_mo.rf ty_agr.rf (C' := (ls, x :: stk, n, t, ce, sl)) ⟨hi.1, hi.2.1, ⟨x2, hi.2.2.1⟩, hi.2.2.2⟩ (fun g => ?_)
      show ix_load ok i nx ([], ls, stk, n, t, ce, sl) = _
      unfold ix_load
      dsimp only
      rw [x1]
      dsimp only
      rw [hk W.1 _ σ v x hi.1.1 x2 ho]
      rfl
  · cases hf
noncomputable def ty_store (aok : ty_A → ix_V → Bool) (i nx : Nat) : ty_S → ty_R
  | (W, L, v :: st, w) => cond (aok W.1 v && Nat.blt i L.length) (some [(nx, (W, (ix_clr L i).set i (some v), st, w))]) none
  | _ => none
theorem ts_store {aok : ty_A → ix_V → Bool} {ok : ix_V → Bool} (hk : ty_okp aok ok) {i nx : Nat} : ty_sd h cp pc (fun _ => ix_store ok i nx) (ty_store aok i nx) := by
  intro S outs hf σ C hi
  obtain ⟨W, L, st, w⟩ := S
  obtain ⟨ls, stk, n, t, ce, sl⟩ := C
  cases st with
  | nil => cases hf
  | cons v st =>
    change cond (aok W.1 v && Nat.blt i L.length) _ none = _ at hf
    cases ho : (aok W.1 v && Nat.blt i L.length) with
    | false => rw [ho] at hf; cases hf
    | true =>
      rw [ho] at hf
      cases hf
      have c1 := Bool.and_eq_true_iff.mp ho
      obtain ⟨x, stk', e, x2, x3⟩ := ty_vs_1 hi.2.2.1
      have e' : stk = x :: stk' := e
      subst e'
      refine ty_sd1 ty_mo.rf ty_agr.rf (C' := ((ix_clr ls i).set i (some x), stk', n, t, ce, sl)) ⟨hi.1, hi.2.1.set x2, x3, hi.2.2.2⟩ (fun g => ?_)
      show cond (ok x && Nat.blt i ls.length) _ none = _
      rw [hk W.1 _ σ v x hi.1.1 x2 c1.1, ← hi.2.1.1, c1.2]
      rfl
theorem ty_lv.none {k : ty_K} {σ : ty_Sg} {L ls : ix_L} (hl : ty_lv k σ L ls) (i : Nat) : ty_lv k σ (L.set i none) (ls.set i none) := by
  refine ⟨by rw [List.length_set, List.length_set]; exact hl.1, fun j x hx => ?_⟩
  by_cases e : i = j
  · subst e
    rw [List.getElem?_set] at hx
    simp only [if_true] at hx
    split at hx <;> cases hx
  · rw [List.getElem?_set_ne e] at hx ⊢
    exact hl.2 j x hx
noncomputable def ty_lstore (i nx : Nat) : ty_S → ty_R
  | (W, L, v :: st, w) => cond (ix_isLong v && Nat.blt (i + 1) L.length) (some [(nx, (W, ((ix_clr L i).set i (some v)).set (i + 1) none, st, w))]) none
  | _ => none
theorem ts_lstore {i nx : Nat} : ty_sd h cp pc (fun _ => ix_lstore i nx) (ty_lstore i nx) := by
  intro S outs hf σ C hi
  obtain ⟨W, L, st, w⟩ := S
  obtain ⟨ls, stk, n, t, ce, sl⟩ := C
  cases st with
  | nil => cases hf
  | cons v st =>
    change cond (ix_isLong v && Nat.blt (i + 1) L.length) _ none = _ at hf
    cases ho : (ix_isLong v && Nat.blt (i + 1) L.length) with
    | false => rw [ho] at hf; cases hf
    | true =>
      rw [ho] at hf
      cases hf
      have c1 := Bool.and_eq_true_iff.mp ho
      obtain ⟨x, stk', e, x2, x3⟩ := ty_vs_1 hi.2.2.1
      have e' : stk = x :: stk' := e
      subst e'
      refine ty_sd1 ty_mo.rf ty_agr.rf (C' := (((ix_clr ls i).set i (some x)).set (i + 1) none, stk', n, t, ce, sl)) ⟨hi.1, (hi.2.1.set x2).none (i + 1), x3, hi.2.2.2⟩ (fun g => ?_)
      show cond (ix_isLong x && Nat.blt (i + 1) ls.length) _ none = _
      rw [ty_okJ W.1 _ σ v x hi.1.1 x2 c1.1, ← hi.2.1.1, c1.2]
      rfl
noncomputable def ty_push (nx : Nat) (v : ix_V) : ty_S → ty_R
  | (W, L, st, w) => some [(nx, (W, L, v :: st, w))]
theorem ts_push {nx : Nat} {v w : ix_V} (hv : ∀ k σ, ty_rv k σ v w) : ty_sd h cp pc (fun _ => ix_push nx w) (ty_push nx v) := by
  intro S outs hf σ C hi
  obtain ⟨W, L, st, w'⟩ := S
  obtain ⟨ls, stk, n, t, ce, sl⟩ := C
  cases hf
  exact ty_sd1 ty_mo.rf ty_agr.rf (C' := (ls, w :: stk, n, t, ce, sl)) ⟨hi.1, hi.2.1, ⟨hv _ _, hi.2.2.1⟩, hi.2.2.2⟩ (fun g => rfl)
theorem ty_pI {n : Nat} (hn : n < 4294967296) : ∀ k σ, ty_rv k σ (.inl (ty_kp n)) (ix_vI n) := fun _ _ => ⟨n, rfl, hn, rfl⟩
theorem ty_pJ {m : Nat} (hm : m < 18446744073709551616) : ∀ k σ, ty_rv k σ (.inr (.inl (m + 1))) (ix_vL m) := fun _ _ => ⟨m, rfl, hm, Or.inr (Or.inl rfl)⟩
theorem ty_p0 : ∀ k σ, ty_rv k σ (.inr (.inr (.inl 0))) (ix_vR 0) := fun _ _ => rfl
theorem ty_pO {p : Nat} (hp : 1000000 ≤ p) : ∀ k σ, ty_rv k σ (.inr (.inr (.inl (p + 1)))) (ix_vR (p + 1)) := fun _ _ => Or.inr ⟨hp, rfl⟩
noncomputable def ty_goto (nx : Nat) : ty_S → ty_R := fun S => some [(nx, S)]
theorem ts_goto {nx : Nat} : ty_sd h cp pc (fun _ => ix_goto nx) (ty_goto nx) := by
  intro S outs hf σ C hi
  cases hf
  exact ty_sd1 ty_mo.rf ty_agr.rf hi (fun g => rfl)
noncomputable def ty_pop (nx : Nat) : ty_S → ty_R
  | (W, L, a :: st, w) => cond (ix_cat2 a) none (some [(nx, (W, L, st, w))])
  | _ => none
theorem ts_pop {nx : Nat} : ty_sd h cp pc (fun _ => ix_pop nx) (ty_pop nx) := by
  intro S outs hf σ C hi
  obtain ⟨W, L, st, w⟩ := S
  obtain ⟨ls, stk, n, t, ce, sl⟩ := C
  cases st with
  | nil => cases hf
  | cons v st =>
    change cond (ix_cat2 v) none _ = _ at hf
    cases ho : ix_cat2 v with
    | true => rw [ho] at hf; cases hf
    | false =>
      rw [ho] at hf
      cases hf
      obtain ⟨x, stk', e, x2, x3⟩ := ty_vs_1 hi.2.2.1
      have e' : stk = x :: stk' := e
      subst e'
      refine ty_sd1 ty_mo.rf ty_agr.rf (C' := (ls, stk', n, t, ce, sl)) ⟨hi.1, hi.2.1, x3, hi.2.2.2⟩ (fun g => ?_)
      show cond (ix_cat2 x) none _ = _
      rw [← x2.cat, ho]
      rfl
noncomputable def ty_dup (nx : Nat) : ty_S → ty_R
  | (W, L, a :: st, w) => cond (ix_cat2 a) none (some [(nx, (W, L, a :: a :: st, w))])
  | _ => none
theorem ts_dup {nx : Nat} : ty_sd h cp pc (fun _ => ix_dup nx) (ty_dup nx) := by
  intro S outs hf σ C hi
  obtain ⟨W, L, st, w⟩ := S
  obtain ⟨ls, stk, n, t, ce, sl⟩ := C
  cases st with
  | nil => cases hf
  | cons v st =>
    change cond (ix_cat2 v) none _ = _ at hf
    cases ho : ix_cat2 v with
    | true => rw [ho] at hf; cases hf
    | false =>
      rw [ho] at hf
      cases hf
      obtain ⟨x, stk', e, x2, x3⟩ := ty_vs_1 hi.2.2.1
      have e' : stk = x :: stk' := e
      subst e'
      refine ty_sd1 ty_mo.rf ty_agr.rf (C' := (ls, x :: x :: stk', n, t, ce, sl)) ⟨hi.1, hi.2.1, ⟨x2, x2, x3⟩, hi.2.2.2⟩ (fun g => ?_)
      show cond (ix_cat2 x) none _ = _
      rw [← x2.cat, ho]
      rfl
noncomputable def ty_dupx (nx : Nat) : ty_S → ty_R
  | (W, L, a :: b :: st, w) => cond (ix_cat2 a || ix_cat2 b) none (some [(nx, (W, L, a :: b :: a :: st, w))])
  | _ => none
theorem ts_dupx {nx : Nat} : ty_sd h cp pc (fun _ => ix_dup_x1 nx) (ty_dupx nx) := by
  intro S outs hf σ C hi
  obtain ⟨W, L, st, w⟩ := S
  obtain ⟨ls, stk, n, t, ce, sl⟩ := C
  rcases st with _ | ⟨a, _ | ⟨b, st⟩⟩
  · cases hf
  · cases hf
  · change cond (ix_cat2 a || ix_cat2 b) none _ = _ at hf
    cases ho : (ix_cat2 a || ix_cat2 b) with
    | true => rw [ho] at hf; cases hf
    | false =>
      rw [ho] at hf
      cases hf
      obtain ⟨x, stk', e, x2, x3⟩ := ty_vs_1 hi.2.2.1
      obtain ⟨y, stk2, e2, y2, y3⟩ := ty_vs_1 x3
      have e' : stk = x :: y :: stk2 := by rw [← e2]; exact e
      subst e'
      refine ty_sd1 ty_mo.rf ty_agr.rf (C' := (ls, x :: y :: x :: stk2, n, t, ce, sl)) ⟨hi.1, hi.2.1, ⟨x2, y2, x2, y3⟩, hi.2.2.2⟩ (fun g => ?_)
      show cond (ix_cat2 x || ix_cat2 y) none _ = _
      rw [← x2.cat, ← y2.cat, ho]
      rfl
noncomputable def ty_dup2 (nx : Nat) : ty_S → ty_R
  | (W, L, a :: b :: st, w) => cond (ix_cat2 a || ix_cat2 b) none (some [(nx, (W, L, a :: b :: a :: b :: st, w))])
  | _ => none
theorem ts_dup2 {nx : Nat} : ty_sd h cp pc (fun _ => ix_dup2 nx) (ty_dup2 nx) := by
  intro S outs hf σ C hi
  obtain ⟨W, L, st, w⟩ := S
  obtain ⟨ls, stk, n, t, ce, sl⟩ := C
  rcases st with _ | ⟨a, _ | ⟨b, st⟩⟩
  · cases hf
  · cases hf
  · change cond (ix_cat2 a || ix_cat2 b) none _ = _ at hf
    cases ho : (ix_cat2 a || ix_cat2 b) with
    | true => rw [ho] at hf; cases hf
    | false =>
      rw [ho] at hf
      cases hf
      obtain ⟨x, stk', e, x2, x3⟩ := ty_vs_1 hi.2.2.1
      obtain ⟨y, stk2, e2, y2, y3⟩ := ty_vs_1 x3
      have e' : stk = x :: y :: stk2 := by rw [← e2]; exact e
      subst e'
      refine ty_sd1 ty_mo.rf ty_agr.rf (C' := (ls, x :: y :: x :: y :: stk2, n, t, ce, sl)) ⟨hi.1, hi.2.1, ⟨x2, y2, x2, y2, y3⟩, hi.2.2.2⟩ (fun g => ?_)
      show cond (ix_cat2 x || ix_cat2 y) none _ = _
      rw [← x2.cat, ← y2.cat, ho]
      rfl
/-- two ints make one -/
noncomputable def ty_i2 (o : ty_A → ix_V → ix_V → Option (ix_V × ty_A)) (nx : Nat) : ty_S → ty_R
  | (W, L, b :: a :: st, w) => cond (ty_isI a && ty_isI b) (match o W.1 (ty_nz W.1 a) (ty_nz W.1 b) with
    | some (v, A) => some [(nx, ((A, W.2), L, v :: st, w))]
    | none => none) none
  | _ => none
theorem ts_i2 {o : ty_A → ix_V → ix_V → Option (ix_V × ty_A)} {op : Nat → Nat → Nat} (ho : ty_op2 op o) {nx : Nat} {f : ix_S → ix_R} (hf : ∀ ls m n st w, f ([], ls, .inl n :: .inl m :: st, w) = some [(nx, ([], ls, .inl (op m n) :: st, w))]) : ty_sd h cp pc (fun _ => f) (ty_i2 o nx) := by
  intro S outs hs σ C hi
  obtain ⟨W, L, st, w⟩ := S
  obtain ⟨ls, stk, n, t, ce, sl⟩ := C
  rcases st with _ | ⟨b, _ | ⟨a, st⟩⟩
  · cases hs
  · cases hs
  · change cond (ty_isI a && ty_isI b) (match o W.1 (ty_nz W.1 a) (ty_nz W.1 b) with
    | some (v, A) => some [(nx, ((A, W.2), L, v :: st, w))]
    | none => none) none = _ at hs
    cases hc : (ty_isI a && ty_isI b) with
    | false => rw [hc] at hs; cases hs
    | true =>
      rw [hc] at hs
      dsimp only [cond_true] at hs
      have c1 := Bool.and_eq_true_iff.mp hc
      split at hs
      · rename_i v A hv
        cases hs
        obtain ⟨x, stk', e, x2, x3⟩ := ty_vs_1 hi.2.2.1
        obtain ⟨y, stk2, e2, y2, y3⟩ := ty_vs_1 x3
        have e' : stk = x :: y :: stk2 := by rw [← e2]; exact e
        subst e'
        obtain ⟨nb, rfl, hb⟩ := x2.toint c1.2
        obtain ⟨na, rfl, ha⟩ := y2.toint c1.1
        obtain ⟨s, s1, s2, s3, s4⟩ := ho σ.1 W.1 A _ _ na nb v hi.1.1 (ty_nz_ok hi.1.1 ha) (ty_nz_ok hi.1.1 hb) hv
        obtain ⟨B, W2⟩ := W
        obtain ⟨g1, g2, g3⟩ := ty_wk.boxes hi.1 s1 s2 s3
        exact ty_sd1 g3 g2 (C' := (ls, .inl (op na nb) :: stk2, n, t, ce, sl)) ⟨g1, hi.2.1.ag g2 g3.k, ⟨ty_rv.int s4, y3.ag g2 g3.k⟩, hi.2.2.2.ag g2⟩ (fun g => hf _ _ _ _ _)
      · cases hs
theorem ts_iadd {nx : Nat} : ty_sd h cp pc (fun _ => ix_iadd nx) (ty_i2 ty_add nx) := ts_i2 ty_add_ok (fun _ _ _ _ _ => rfl)
theorem ts_isub {nx : Nat} : ty_sd h cp pc (fun _ => ix_isub nx) (ty_i2 ty_sub nx) := ts_i2 ty_sub_ok (fun _ _ _ _ _ => rfl)
theorem ts_ibin {op : Nat → Nat → Nat} {o : ty_A → ix_V → ix_V → Option (ix_V × ty_A)} (ho : ty_op2 op o) {p nx : Nat} : ty_sd h cp pc (fun _ => ix_ibin op p nx) (ty_i2 o nx) := ts_i2 ho (fun _ _ _ _ _ => rfl)
end TYP
