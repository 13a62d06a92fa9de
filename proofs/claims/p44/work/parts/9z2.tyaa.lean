/-! a reference stored into a row of references -/
section TYAA
variable {h : ty_H} {cp : Nat × Nat} {pc : Nat}
theorem ty_oknR : ty_okn 4 5 (fun _ => ty_aR) ix_isRef (fun _ v => v) := by
  intro kd h1 h2 A k2 σ v w hA hr ha
  exact ⟨ty_okR A k2 σ v w hA hr ha, rfl⟩
/-- what is stored is nothing or an object of the row's class -/
noncomputable def ty_ao (h : ty_H) (W : ty_W) (p : Nat) (v : ix_V) : Bool := match v with
  | .inr (.inr (.inl r)) => (match r with
    | 0 => true
    | i + 1 => Nat.blt i (Nat.add h.1 W.2.2.1.1) && Nat.beq (h.2 (ty_ty h W i)).1 (cond (Nat.beq (h.2 (ty_ty h W p)).1 4) 109 101))
  | _ => false
theorem ty_ao_ok {σ : ty_Sg} {W : ty_W} {n p kd : Nat} {t : ix_T} {v w : ix_V} (hw : ty_wk h σ W n t) (hr : ty_rv (ty_k h W) σ v w) (hkd : (h.2 (ty_ty h W p)).1 = kd) (he : ty_ao h W p v = true) : ∃ q, w = .inr (.inr (.inl q)) ∧ ix_aok kd q n t = true := by
  rcases v with b | q | r | q
  · cases he
  · cases he
  · cases r with
    | zero => exact ⟨0, hr, rfl⟩
    | succ i =>
      have c := Bool.and_eq_true_iff.mp (show (Nat.blt i (Nat.add h.1 W.2.2.1.1) && Nat.beq (h.2 (ty_ty h W i)).1 (cond (Nat.beq (h.2 (ty_ty h W p)).1 4) 109 101)) = true from he)
      have hi : i < h.1 + W.2.2.1.1 := ix_blt.mp c.1
      have e := ty_named hw hr hi
      obtain ⟨hn, hty⟩ := ty_ty_ok hw hi
      have hcok := hw.2.2.1.2.2.2.1 _ hn
      rw [hty] at hcok
      have ek : (ix_g t (σ.2.2.1 i)).1 = (h.2 (ty_ty h W i)).1 := hcok.1
      refine ⟨_, e, ?_⟩
      show (Nat.blt (σ.2.2.1 i) n && Nat.beq (ix_g t (σ.2.2.1 i)).1 (cond (Nat.beq kd 4) 109 101)) = true
      have c2 := c.2
      rw [hkd] at c2
      rw [ix_blt.mpr hn, ek, c2]
      rfl
  · cases he
theorem ix_aast_eq {kd len i m q : Nat} {a : ix_A} {pc nx n : Nat} {t : ix_T} {ls : ix_L} {st : List ix_V} {w : Nat × Nat} (e : ix_g t i = (kd, len, a)) (h4 : 4 ≤ kd) (h5 : kd ≤ 5) (ha : ix_aok kd q n t = true) : ix_aast pc nx ([], ls, .inr (.inr (.inl q)) :: .inl m :: .inr (.inr (.inl (i + 1))) :: st, n, t, w) = ix_ast 4 5 pc nx (fun _ v => v) ix_isRef ([], ls, .inr (.inr (.inl q)) :: .inl m :: .inr (.inr (.inl (i + 1))) :: st, n, t, w) := by
  show cond (Nat.blt i n) (match ix_g t i with
      | (kd, len, f) => cond ((Nat.beq kd 4 || Nat.beq kd 5) && ix_aok kd q n t) (cond (Nat.blt m len) (some [(nx, ([], ls, st, n, ix_u 14 t i (kd, len, ix_u (ix_dep len) f m (.inr (.inr (.inl q)))), w))]) none) none) none = cond (Nat.blt i n && true) (match ix_g t i with
      | (kd, len, f) => cond (Nat.ble 4 kd && Nat.ble kd 5) (cond (Nat.blt m len) (some [(nx, ([], ls, st, n, ix_u 14 t i (kd, len, ix_u (ix_dep len) f m (.inr (.inr (.inl q)))), w))]) none) none) none
  rw [e, Bool.and_true]
  dsimp only
  rw [ha, ix_ble.mpr h4, ix_ble.mpr h5]
  have z : (Nat.beq kd 4 || Nat.beq kd 5) = true := by
    rcases (show kd = 4 ∨ kd = 5 by omega) with z | z
    · rw [ix_beq.mpr z]; rfl
    · rw [ix_beq.mpr z, Bool.or_true]
  rw [z]
noncomputable def ty_aast (h : ty_H) (nx : Nat) : ty_S → ty_R
  | (W, L, v :: j :: .inr (.inr (.inl r)) :: st, w) => match r with
    | 0 => none
    | p + 1 => cond (Nat.blt p (Nat.add h.1 W.2.2.1.1) && (ty_isI j && (ty_ao h W p v && (Nat.ble 4 (h.2 (ty_ty h W p)).1 && Nat.ble (h.2 (ty_ty h W p)).1 5)))) (ty_ast h 4 5 nx (fun _ => ty_aR) (W, L, v :: j :: .inr (.inr (.inl (p + 1))) :: st, w)) none
  | _ => none
theorem ts_aast {q nx : Nat} : ty_sd h cp pc (fun _ => ix_aast q nx) (ty_aast h nx) := by
  intro S outs hs σ C hi
  obtain ⟨W, L, st, w⟩ := S
  obtain ⟨ls, stk, n, t, ce, sl⟩ := C
  rcases st with _ | ⟨v, _ | ⟨j, _ | ⟨a, st⟩⟩⟩
  · cases hs
  · cases hs
  · cases hs
  · rcases a with b | l | r | y
    · cases hs
    · cases hs
    · cases r with
      | zero => cases hs
      | succ p =>
        change cond (Nat.blt p (Nat.add h.1 W.2.2.1.1) && (ty_isI j && (ty_ao h W p v && (Nat.ble 4 (h.2 (ty_ty h W p)).1 && Nat.ble (h.2 (ty_ty h W p)).1 5)))) (ty_ast h 4 5 nx (fun _ => ty_aR) (W, L, v :: j :: .inr (.inr (.inl (p + 1))) :: st, w)) none = some outs at hs
        cases hc : (Nat.blt p (Nat.add h.1 W.2.2.1.1) && (ty_isI j && (ty_ao h W p v && (Nat.ble 4 (h.2 (ty_ty h W p)).1 && Nat.ble (h.2 (ty_ty h W p)).1 5)))) with
        | false => rw [hc] at hs; cases hs
        | true =>
          rw [hc, cond_true] at hs
          have c1 := Bool.and_eq_true_iff.mp hc
          have c2 := Bool.and_eq_true_iff.mp c1.2
          have c3 := Bool.and_eq_true_iff.mp c2.2
          have c4 := Bool.and_eq_true_iff.mp c3.2
          have hp : p < h.1 + W.2.2.1.1 := ix_blt.mp c1.1
          obtain ⟨o, om, σ', C', r1, r2, r3, r4⟩ := ts_ast (h := h) (cp := cp) (pc := pc) (q := q) (nx := nx) ty_oknR (W, L, v :: j :: .inr (.inr (.inl (p + 1))) :: st, w) outs hs σ (ls, stk, n, t, ce, sl) hi
          refine ⟨o, om, σ', C', r1, r2, r3, ?_⟩
          rcases r4 with r4 | ⟨g0, r4⟩
          · exact Or.inl r4
          · refine Or.inr ⟨g0, fun g hg => ?_⟩
            obtain ⟨x, stk1, e1, x2, x3⟩ := ty_vs_1 hi.2.2.1
            obtain ⟨y, stk2, e2, y2, y3⟩ := ty_vs_1 x3
            obtain ⟨z, stk3, e3, z2, z3⟩ := ty_vs_1 y3
            have e' : stk = x :: y :: z :: stk3 := by rw [← e3, ← e2]; exact e1
            subst e'
            have hz := ty_named hi.1 z2 hp
            subst hz
            obtain ⟨m, rfl, hm⟩ := y2.toint c2.1
            obtain ⟨hn, hty⟩ := ty_ty_ok hi.1 hp
            have hcok := hi.1.2.2.1.2.2.2.1 _ hn
            rw [hty] at hcok
            have ek : (ix_g t (σ.2.2.1 p)).1 = (h.2 (ty_ty h W p)).1 := hcok.1
            obtain ⟨q9, rfl, hq9⟩ := ty_ao_ok hi.1 x2 ek.symm c3.1
            have z := r4 g hg
            rw [← z]
            exact ix_aast_eq (kd := (ix_g t (σ.2.2.1 p)).1) (len := (ix_g t (σ.2.2.1 p)).2.1) (a := (ix_g t (σ.2.2.1 p)).2.2) rfl (by rw [ek]; exact ix_ble.mp c4.1) (by rw [ek]; exact ix_ble.mp c4.2) hq9
    · cases hs
end TYAA
