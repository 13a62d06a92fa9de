/-! jumps of the typed machine -/
section TYJ
variable {h : ty_H} {cp : Nat × Nat} {pc : Nat}
noncomputable def ty_ne (W : ty_W) (v : ix_V) (q : Nat) : List ty_W := ty_ol (ty_bset W.1 v 0 (Nat.pred q)) W.2 ++ ty_ol (ty_bset W.1 v (Nat.succ q) 6442450943) W.2
/-- the worlds in which two are one, and those in which they aren't -/
noncomputable def ty_eq (W : ty_W) (a b : ix_V) : List ty_W × List ty_W := match ty_rng W.1 a, ty_rng W.1 b with
  | (l1, h1), (l2, h2) => (ty_ol (ty_2 W.1 a b (Nat.max l1 l2) (Nat.min h1 h2) (Nat.max l1 l2) (Nat.min h1 h2)) W.2, cond (Nat.beq l2 h2) (ty_ne W a l2) (cond (Nat.beq l1 h1) (ty_ne W b l1) [W]))
theorem ty_cd_ol {σ : ty_Sg} {W : ty_W} {n : Nat} {t : ix_T} {A' : ty_A} {l : List ty_W} (hw : ty_wk h σ W n t) (e2 : A'.1 = W.1.1) (e3 : ty_bx σ.1 A') (hl : (A', W.2) ∈ l) : ty_cd h σ W n t l := by
  obtain ⟨A, W2⟩ := W
  exact ⟨_, hl, ty_wk.set hw e2 e3, by show (A'.1, _) = (A.1, _); rw [show A'.1 = A.1 from e2]⟩
theorem ty_ne_ok {σ : ty_Sg} {W : ty_W} {v : ix_V} {m q n : Nat} {t : ix_T} (hw : ty_wk h σ W n t) (iv : ty_iv W.1.1 σ.1 v m) (hq : ¬ ty_kp m = q) : ty_cd h σ W n t (ty_ne W v q) := by
  have u := ty_kp_hi m
  unfold ty_ne
  by_cases hlt : ty_kp m < q
  · obtain ⟨A', e1, e2, e3⟩ := ty_bset_ok (lo := 0) (hi := Nat.pred q) hw.1 iv (Nat.zero_le _) (by show _ ≤ q - 1; omega)
    refine ty_cd_ol hw e2 e3 (List.mem_append.mpr (Or.inl ?_))
    rw [e1]; exact List.mem_cons_self
  · obtain ⟨A', e1, e2, e3⟩ := ty_bset_ok (lo := Nat.succ q) (hi := 6442450943) hw.1 iv (by show q + 1 ≤ _; omega) (by omega)
    refine ty_cd_ol hw e2 e3 (List.mem_append.mpr (Or.inr ?_))
    rw [e1]; exact List.mem_cons_self
theorem ty_eq_ok {σ : ty_Sg} {W : ty_W} {a b : ix_V} {m k n : Nat} {t : ix_T} (hw : ty_wk h σ W n t) (ia : ty_iv W.1.1 σ.1 a m) (ib : ty_iv W.1.1 σ.1 b k) : (ty_kp m = ty_kp k → ty_cd h σ W n t (ty_eq W a b).1) ∧ (¬ ty_kp m = ty_kp k → ty_cd h σ W n t (ty_eq W a b).2) := by
  have r1 := ty_rng_ok hw.1 ia
  have r2 := ty_rng_ok hw.1 ib
  unfold ty_eq
  revert r1 r2
  generalize ty_rng W.1 a = q1
  generalize ty_rng W.1 b = q2
  obtain ⟨l1, h1⟩ := q1
  obtain ⟨l2, h2⟩ := q2
  intro r1 r2
  dsimp only at r1 r2 ⊢
  constructor
  · intro he
    have g1 : Nat.max l1 l2 ≤ ty_kp m := Nat.max_le.mpr ⟨by omega, by omega⟩
    have g2 : ty_kp m ≤ Nat.min h1 h2 := Nat.le_min.mpr ⟨by omega, by omega⟩
    obtain ⟨A', e1, e2, e3⟩ := ty_2_ok hw.1 ia ib g1 g2 (by rw [← he]; exact g1) (by rw [← he]; exact g2)
    refine ty_cd_ol hw e2 e3 ?_
    rw [e1]; exact List.mem_cons_self
  · intro hn
    cases c2 : Nat.beq l2 h2 with
    | true =>
      have := ix_beq.mp c2
      exact ty_ne_ok hw ia (by omega)
    | false =>
      cases c1 : Nat.beq l1 h1 with
      | true =>
        have := ix_beq.mp c1
        exact ty_ne_ok hw ib (by omega)
      | false => exact ⟨W, List.mem_cons_self, hw, rfl⟩
noncomputable def ty_to (nx : Nat) (S : ix_L × (List ix_V × (Nat × Nat))) (l : List ty_W) : List (Nat × ty_S) := l.map (fun W => (nx, (W, S)))
/-- a condition of two ints, by plain numbers -/
noncomputable def ty_cmp (lt swap : Bool) (m n : Nat) : Bool := cond lt (cond swap (Nat.blt (ix_bias n) (ix_bias m)) (Nat.blt (ix_bias m) (ix_bias n))) (Nat.beq m n)
noncomputable def ty_con (lt swap : Bool) (W : ty_W) (a b : ix_V) : List ty_W × List ty_W := cond lt (cond swap (ty_lt W b a) (ty_lt W a b)) (ty_eq W a b)
theorem ty_bias_lt {m n : Nat} : Nat.blt (ix_bias m) (ix_bias n) = true ↔ ty_kp m < ty_kp n := by
  rw [ix_blt, ty_kp_bias, ty_kp_bias]
  omega
theorem ty_cmp_e (m k : Nat) (s : Bool) : ty_cmp false s m k = Nat.beq m k := rfl
theorem ty_cmp_l (m k : Nat) : ty_cmp true false m k = Nat.blt (ix_bias m) (ix_bias k) := by unfold ty_cmp; rw [cond_true, cond_false]
theorem ty_cmp_s (m k : Nat) : ty_cmp true true m k = Nat.blt (ix_bias k) (ix_bias m) := by unfold ty_cmp; rw [cond_true, cond_true]
theorem ty_con_e (W : ty_W) (a b : ix_V) (s : Bool) : ty_con false s W a b = ty_eq W a b := by unfold ty_con; rw [cond_false]
theorem ty_con_l (W : ty_W) (a b : ix_V) : ty_con true false W a b = ty_lt W a b := by unfold ty_con; rw [cond_true, cond_false]
theorem ty_con_s (W : ty_W) (a b : ix_V) : ty_con true true W a b = ty_lt W b a := by unfold ty_con; rw [cond_true, cond_true]
theorem ty_con_ok {lt swap : Bool} {σ : ty_Sg} {W : ty_W} {a b : ix_V} {m k n : Nat} {t : ix_T} (hw : ty_wk h σ W n t) (ia : ty_iv W.1.1 σ.1 a m) (ib : ty_iv W.1.1 σ.1 b k) : ty_cd h σ W n t (cond (ty_cmp lt swap m k) (ty_con lt swap W a b).1 (ty_con lt swap W a b).2) := by
  cases lt with
  | false =>
    have := ty_eq_ok hw ia ib
    rw [ty_cmp_e, ty_con_e]
    cases hb : Nat.beq m k with
    | true => exact this.1 (by rw [ix_beq.mp hb])
    | false => exact this.2 (fun e => ix_beq_f.mp hb (ty_kp_inj ia.1 ib.1 e))
  | true =>
    cases swap with
    | false =>
      have := ty_lt_ok hw ia ib
      rw [ty_cmp_l, ty_con_l]
      cases hb : Nat.blt (ix_bias m) (ix_bias k) with
      | true => exact this.1 (ty_bias_lt.mp hb)
      | false => exact this.2 (fun e => by rw [ty_bias_lt.mpr e] at hb; cases hb)
    | true =>
      have := ty_lt_ok hw ib ia
      rw [ty_cmp_s, ty_con_s]
      cases hb : Nat.blt (ix_bias k) (ix_bias m) with
      | true => exact this.1 (ty_bias_lt.mp hb)
      | false => exact this.2 (fun e => by rw [ty_bias_lt.mpr e] at hb; cases hb)
/-- a world of a condition's, with the same locals and stack -/
theorem ty_in.cd {σ : ty_Sg} {W W' : ty_W} {L : ix_L} {st : List ix_V} {w : Nat × Nat} {ls : ix_L} {stk : List ix_V} {n : Nat} {t : ix_T} {ce sl : Nat} (hw : ty_wk h σ W' n t) (hk : ty_k h W' = ty_k h W) (h1 : ty_lv (ty_k h W) σ L ls) (h2 : ty_vs (ty_k h W) σ st stk) (h3 : ty_cn cp σ w n ce sl) : ty_in h cp σ (W', L, st, w) (ls, stk, n, t, ce, sl) := ⟨hw, by show ty_lv (ty_k h W') σ L ls; rw [hk]; exact h1, by show ty_vs (ty_k h W') σ st stk; rw [hk]; exact h2, h3⟩
theorem ty_mo_k {W W' : ty_W} (hk : ty_k h W' = ty_k h W) : ty_mo W W' := by
  have e1 : W'.1.1 = W.1.1 := congrArg (fun q : ty_K => q.1) hk
  have e2 : W'.2.1.1 = W.2.1.1 := congrArg (fun q : ty_K => q.2.1) hk
  have e3 : h.1 + W'.2.2.1.1 = h.1 + W.2.2.1.1 := congrArg (fun q : ty_K => q.2.2) hk
  exact ⟨by omega, by omega, by omega⟩
noncomputable def ty_jmp (lt neg swap : Bool) (tgt nx : Nat) (S : ix_L × (List ix_V × (Nat × Nat))) (W : ty_W) (a b : ix_V) : ty_R := match ty_con lt swap W a b with
  | (y, z) => some (ty_to (cond neg nx tgt) S y ++ ty_to (cond neg tgt nx) S z)
theorem ty_jmp_ok {lt neg swap : Bool} {tgt nx : Nat} {σ : ty_Sg} {W : ty_W} {L : ix_L} {st : List ix_V} {w : Nat × Nat} {a b : ix_V} {outs : List (Nat × ty_S)} {ls : ix_L} {stk : List ix_V} {n : Nat} {t : ix_T} {ce sl m k : Nat} (he : ty_jmp lt neg swap tgt nx (L, st, w) W a b = some outs) (hw : ty_wk h σ W n t) (ia : ty_iv W.1.1 σ.1 a m) (ib : ty_iv W.1.1 σ.1 b k) (h1 : ty_lv (ty_k h W) σ L ls) (h2 : ty_vs (ty_k h W) σ st stk) (h3 : ty_cn cp σ w n ce sl) : ∃ o ∈ outs, o.1 = cond (ty_cmp lt swap m k) (cond neg nx tgt) (cond neg tgt nx) ∧ ty_mo W o.2.1 ∧ ty_in h cp σ o.2 (ls, stk, n, t, ce, sl) := by
  have hc := ty_con_ok (lt := lt) (swap := swap) hw ia ib
  unfold ty_jmp at he
  revert hc he
  generalize ty_con lt swap W a b = q
  obtain ⟨y, z⟩ := q
  intro he hc
  dsimp only at hc he
  cases he
  cases hb : ty_cmp lt swap m k with
  | true =>
    rw [hb] at hc
    obtain ⟨W', w1, w2, w3⟩ := hc
    exact ⟨_, List.mem_append.mpr (Or.inl (List.mem_map.mpr ⟨W', w1, rfl⟩)), rfl, ty_mo_k w3, ty_in.cd w2 w3 h1 h2 h3⟩
  | false =>
    rw [hb] at hc
    obtain ⟨W', w1, w2, w3⟩ := hc
    exact ⟨_, List.mem_append.mpr (Or.inr (List.mem_map.mpr ⟨W', w1, rfl⟩)), rfl, ty_mo_k w3, ty_in.cd w2 w3 h1 h2 h3⟩
noncomputable def ty_icmp (lt neg swap : Bool) (tgt nx : Nat) : ty_S → ty_R
  | (W, L, b :: a :: st, w) => cond (ty_isI a && ty_isI b) (ty_jmp lt neg swap tgt nx (L, st, w) W (ty_nz W.1 a) (ty_nz W.1 b)) none
  | _ => none
theorem ix_br_1 (c : Bool) (y z : Nat) (S : ix_L × (List ix_V × (Nat × (ix_T × (Nat × Nat))))) : ix_br (some (cond c ([[]], []) ([], [[]]))) y z S = some [(cond c y z, ([], S))] := by cases c <;> rfl
theorem ix_lt_1 (m n : Nat) : ix_lt [] (ix_nrm [] (.inl m)) (ix_nrm [] (.inl n)) = some (cond (Nat.blt (ix_bias m) (ix_bias n)) ([[]], []) ([], [[]])) := rfl
theorem ix_eq_1 (m n : Nat) : ix_eq [] (ix_nrm [] (.inl m)) (ix_nrm [] (.inl n)) = some (cond (Nat.beq m n) ([[]], []) ([], [[]])) := rfl
theorem ix_icmp_c (lt neg swap : Bool) (tgt nx : Nat) (ls : ix_L) (m n : Nat) (st : List ix_V) (w : Nat × (ix_T × (Nat × Nat))) : ix_icmp lt neg swap tgt nx ([], ls, .inl n :: .inl m :: st, w) = some [(cond (ty_cmp lt swap m n) (cond neg nx tgt) (cond neg tgt nx), ([], ls, st, w))] := by
  unfold ix_icmp
  dsimp only
  cases lt with
  | false =>
    rw [ty_cmp_e, cond_false, ix_eq_1, ix_br_1]
  | true =>
    cases swap with
    | false => rw [ty_cmp_l, cond_true, cond_false, ix_lt_1, ix_br_1]
    | true => rw [ty_cmp_s, cond_true, cond_true, ix_lt_1, ix_br_1]
theorem ts_icmp {lt neg swap : Bool} {tgt nx : Nat} : ty_sd h cp pc (fun _ => ix_icmp lt neg swap tgt nx) (ty_icmp lt neg swap tgt nx) := by
  intro S outs hs σ C hi
  obtain ⟨W, L, st, w⟩ := S
  obtain ⟨ls, stk, n, t, ce, sl⟩ := C
  rcases st with _ | ⟨b, _ | ⟨a, st⟩⟩
  · cases hs
  · cases hs
  · change cond (ty_isI a && ty_isI b) (ty_jmp lt neg swap tgt nx (L, st, w) W (ty_nz W.1 a) (ty_nz W.1 b)) none = _ at hs
    cases hc : (ty_isI a && ty_isI b) with
    | false => rw [hc] at hs; cases hs
    | true =>
      rw [hc] at hs
      dsimp only [cond_true] at hs
      have c1 := Bool.and_eq_true_iff.mp hc
      obtain ⟨x, stk', e, x2, x3⟩ := ty_vs_1 hi.2.2.1
      obtain ⟨y, stk2, e2, y2, y3⟩ := ty_vs_1 x3
      have e' : stk = x :: y :: stk2 := by rw [← e2]; exact e
      subst e'
      obtain ⟨nb, rfl, hb⟩ := x2.toint c1.2
      obtain ⟨na, rfl, ha⟩ := y2.toint c1.1
      obtain ⟨o, o1, o2, o3, o4⟩ := ty_jmp_ok hs hi.1 (ty_nz_ok hi.1.1 ha) (ty_nz_ok hi.1.1 hb) hi.2.1 y3 hi.2.2.2
      exact ⟨o, o1, σ, _, o3, ty_agr.rf, o4, Or.inr ⟨0, fun g _ => by rw [o2]; exact ix_icmp_c _ _ _ _ _ _ _ _ _ _⟩⟩
noncomputable def ty_if (lt neg swap : Bool) (tgt nx : Nat) : ty_S → ty_R
  | (W, L, a :: st, w) => cond (ty_isI a) (ty_jmp lt neg swap tgt nx (L, st, w) W (ty_nz W.1 a) (.inl 4294967296)) none
  | _ => none
theorem ix_if_c (lt neg swap : Bool) (tgt nx : Nat) (ls : ix_L) (m : Nat) (st : List ix_V) (w : Nat × (ix_T × (Nat × Nat))) : ix_if lt neg swap tgt nx ([], ls, .inl m :: st, w) = some [(cond (ty_cmp lt swap m 0) (cond neg nx tgt) (cond neg tgt nx), ([], ls, st, w))] := ix_icmp_c lt neg swap tgt nx ls m 0 st w
theorem ts_if {lt neg swap : Bool} {tgt nx : Nat} : ty_sd h cp pc (fun _ => ix_if lt neg swap tgt nx) (ty_if lt neg swap tgt nx) := by
  intro S outs hs σ C hi
  obtain ⟨W, L, st, w⟩ := S
  obtain ⟨ls, stk, n, t, ce, sl⟩ := C
  rcases st with _ | ⟨a, st⟩
  · cases hs
  · change cond (ty_isI a) (ty_jmp lt neg swap tgt nx (L, st, w) W (ty_nz W.1 a) (.inl 4294967296)) none = _ at hs
    cases hc : ty_isI a with
    | false => rw [hc] at hs; cases hs
    | true =>
      rw [hc] at hs
      dsimp only [cond_true] at hs
      obtain ⟨x, stk', e, x2, x3⟩ := ty_vs_1 hi.2.2.1
      have e' : stk = x :: stk' := e
      subst e'
      obtain ⟨na, rfl, ha⟩ := x2.toint hc
      obtain ⟨o, o1, o2, o3, o4⟩ := ty_jmp_ok (k := 0) hs hi.1 (ty_nz_ok hi.1.1 ha) ⟨by decide, rfl⟩ hi.2.1 x3 hi.2.2.2
      exact ⟨o, o1, σ, _, o3, ty_agr.rf, o4, Or.inr ⟨0, fun g _ => by rw [o2]; exact ix_if_c _ _ _ _ _ _ _ _ _⟩⟩
noncomputable def ty_ifnull (yes no : Nat) : ty_S → ty_R
  | (W, L, .inr (.inr (.inl r)) :: st, w) => some [(cond (Nat.beq r 0) yes no, (W, L, st, w))]
  | _ => none
theorem ty_rv.ref {k : ty_K} {σ : ty_Sg} {r : Nat} {w : ix_V} (hr : ty_rv k σ (.inr (.inr (.inl r))) w) : ∃ q, w = .inr (.inr (.inl q)) ∧ Nat.beq q 0 = Nat.beq r 0 := by
  cases r with
  | zero => exact ⟨0, hr, rfl⟩
  | succ p =>
    rcases hr with hr | hr
    · exact ⟨_, hr.2, rfl⟩
    · exact ⟨_, hr.2, rfl⟩
theorem ts_ifnull {yes no : Nat} : ty_sd h cp pc (fun _ => ix_ifnull yes no) (ty_ifnull yes no) := by
  intro S outs hs σ C hi
  obtain ⟨W, L, st, w⟩ := S
  obtain ⟨ls, stk, n, t, ce, sl⟩ := C
  rcases st with _ | ⟨a, st⟩
  · cases hs
  · rcases a with b | q | r | q
    · cases hs
    · cases hs
    · change some [(cond (Nat.beq r 0) yes no, (W, L, st, w))] = _ at hs
      cases hs
      obtain ⟨x, stk', e, x2, x3⟩ := ty_vs_1 hi.2.2.1
      have e' : stk = x :: stk' := e
      subst e'
      obtain ⟨p, rfl, hp⟩ := x2.ref
      refine ty_sd1 ty_mo.rf ty_agr.rf (C' := (ls, stk', n, t, ce, sl)) ⟨hi.1, hi.2.1, x3, hi.2.2.2⟩ (fun g => ?_)
      show some [(cond (Nat.beq p 0) yes no, _)] = _
      rw [hp]
    · cases hs
end TYJ
