/-! conditions of the typed machine -/
section TYB
variable {h : ty_H} {cp : Nat × Nat} {pc : Nat}
/-- a value lies between two numbers: the boxes then, if that can be -/
noncomputable def ty_bset (A : ty_A) (v : ix_V) (lo hi : Nat) : Option ty_A := match v with
  | .inl b => cond (Nat.ble lo b && Nat.ble b hi) (some A) none
  | .inr (.inr (.inr (x, c))) => (match ix_g A.2 x with
    | (l0, h0) => cond (Nat.ble 6442450944 (Nat.add l0 c) && Nat.blt (Nat.add h0 c) 10737418240) (match Nat.max l0 (Nat.sub (Nat.add lo 4294967296) c), Nat.min h0 (Nat.sub (Nat.add hi 4294967296) c) with
      | l, u => cond (Nat.ble l u) (some (A.1, ix_u 8 A.2 x (l, u))) none) (some A))
  | _ => some A
theorem ty_bx_set {σ : Nat → Nat} {A : ty_A} {x l u : Nat} (hA : ty_bx σ A) (hx : x < A.1) (h1 : (ix_g A.2 x).1 ≤ l) (h2 : l ≤ σ x) (h3 : σ x ≤ u) (h4 : u ≤ (ix_g A.2 x).2) : ty_bx σ (A.1, ix_u 8 A.2 x (l, u)) := by
  refine ⟨hA.1, fun y hy => ?_⟩
  have hA1 := hA.1
  have hy2 : y < A.1 := hy
  show 2147483648 ≤ (ix_g (ix_u 8 A.2 x (l, u)) y).1 ∧ (ix_g (ix_u 8 A.2 x (l, u)) y).1 ≤ σ y ∧ σ y ≤ (ix_g (ix_u 8 A.2 x (l, u)) y).2 ∧ (ix_g (ix_u 8 A.2 x (l, u)) y).2 < 6442450944
  rw [ix_gu 8 A.2 x y (l, u) (by show x < 256; omega) (by show y < 256; omega)]
  by_cases e : y = x
  · rw [if_pos e]
    subst e
    have := hA.2 y hy2
    exact ⟨Nat.le_trans this.1 h1, h2, h3, Nat.lt_of_le_of_lt h4 this.2.2.2⟩
  · rw [if_neg e]
    exact hA.2 y hy2
theorem ty_bset_ok {σ : Nat → Nat} {A : ty_A} {v : ix_V} {lo hi n : Nat} (hA : ty_bx σ A) (hv : ty_iv A.1 σ v n) (h1 : lo ≤ ty_kp n) (h2 : ty_kp n ≤ hi) : ∃ A', ty_bset A v lo hi = some A' ∧ A'.1 = A.1 ∧ ty_bx σ A' := by
  rcases v with b | q | r | ⟨x, c⟩
  · have hb : b = ty_kp n := hv.2
    refine ⟨A, ?_, rfl, hA⟩
    show cond (Nat.ble lo b && Nat.ble b hi) (some A) none = some A
    rw [hb, ix_ble.mpr h1, ix_ble.mpr h2]
    rfl
  · exact hv.2.elim
  · exact hv.2.elim
  · obtain ⟨hn, hx, he⟩ := hv
    have hb := hA.2 x hx
    have hset := @ty_bx_set σ A x
    show ∃ A', (match ix_g A.2 x with
    | (l0, h0) => cond (Nat.ble 6442450944 (Nat.add l0 c) && Nat.blt (Nat.add h0 c) 10737418240) (match Nat.max l0 (Nat.sub (Nat.add lo 4294967296) c), Nat.min h0 (Nat.sub (Nat.add hi 4294967296) c) with
      | l, u => cond (Nat.ble l u) (some (A.1, ix_u 8 A.2 x (l, u))) none) (some A)) = some A' ∧ A'.1 = A.1 ∧ ty_bx σ A'
    revert hb hset
    generalize ix_g A.2 x = q
    obtain ⟨l0, h0⟩ := q
    intro hb hset
    dsimp only at hb hset ⊢
    cases hc : (Nat.ble 6442450944 (Nat.add l0 c) && Nat.blt (Nat.add h0 c) 10737418240) with
    | false => exact ⟨A, rfl, rfl, hA⟩
    | true =>
      have c1 := Bool.and_eq_true_iff.mp hc
      have g1 : 6442450944 ≤ l0 + c := ix_ble.mp c1.1
      have g2 : h0 + c < 10737418240 := ix_blt.mp c1.2
      have e : ty_kp n = σ x + c - 4294967296 := by
        have := ty_kp_eq n
        omega
      obtain ⟨l, hl⟩ : ∃ l, Nat.max l0 (Nat.sub (Nat.add lo 4294967296) c) = l := ⟨_, rfl⟩
      obtain ⟨u, hu⟩ : ∃ u, Nat.min h0 (Nat.sub (Nat.add hi 4294967296) c) = u := ⟨_, rfl⟩
      have l1 : l0 ≤ l := by rw [← hl]; exact Nat.le_max_left _ _
      have l2 : l ≤ σ x := by rw [← hl]; exact Nat.max_le.mpr ⟨by omega, by show lo + 4294967296 - c ≤ σ x; omega⟩
      have u1 : u ≤ h0 := by rw [← hu]; exact Nat.min_le_left _ _
      have u2 : σ x ≤ u := by rw [← hu]; exact Nat.le_min.mpr ⟨by omega, by show σ x ≤ hi + 4294967296 - c; omega⟩
      rw [hl, hu]
      refine ⟨(A.1, ix_u 8 A.2 x (l, u)), ?_, rfl, hset hA hx l1 l2 u2 u1⟩
      show cond (Nat.ble l u) (some (A.1, ix_u 8 A.2 x (l, u))) none = _
      rw [ix_ble.mpr (by omega)]
      rfl
/-- the same number of symbols, other boxes -/
theorem ty_wk.set {σ : ty_Sg} {A A' : ty_A} {W : ty_A × ((Nat × Lean.RArray Nat) × (ty_Q × ty_X))} {n : Nat} {t : ix_T} (hw : ty_wk h σ (A, W) n t) (hk : A'.1 = A.1) (hb : ty_bx σ.1 A') : ty_wk h σ (A', W) n t := by
  have := (ty_wk.boxes (s := σ.1) hw ty_ag.rf (Nat.le_of_eq hk.symm) hb).1
  exact this
noncomputable def ty_2 (A : ty_A) (a b : ix_V) (la ha lb hb : Nat) : Option ty_A := match ty_bset A a la ha with
  | some A1 => ty_bset A1 b lb hb
  | none => none
theorem ty_2_ok {σ : Nat → Nat} {A : ty_A} {a b : ix_V} {la ha lb hb m n : Nat} (hA : ty_bx σ A) (ia : ty_iv A.1 σ a m) (ib : ty_iv A.1 σ b n) (h1 : la ≤ ty_kp m) (h2 : ty_kp m ≤ ha) (h3 : lb ≤ ty_kp n) (h4 : ty_kp n ≤ hb) : ∃ A', ty_2 A a b la ha lb hb = some A' ∧ A'.1 = A.1 ∧ ty_bx σ A' := by
  obtain ⟨A1, e1, k1, b1⟩ := ty_bset_ok hA ia h1 h2
  obtain ⟨A2, e2, k2, b2⟩ := ty_bset_ok b1 (by rw [k1]; exact ib) h3 h4
  exact ⟨A2, by unfold ty_2; rw [e1]; exact e2, k2.trans k1, b2⟩
noncomputable def ty_ol (o : Option ty_A) (W : ty_A × ((Nat × Lean.RArray Nat) × (ty_Q × ty_X))) : List ty_W := match o with
  | some A => [(A, W)]
  | none => []
/-- what lies in its range as it stands: place and offset -/
noncomputable def ty_sy (A : ty_A) (v : ix_V) : Option (Nat × Nat) := match v with
  | .inr (.inr (.inr (x, c))) => (match ix_g A.2 x with
    | (lo, hi) => cond (Nat.ble 6442450944 (Nat.add lo c) && Nat.blt (Nat.add hi c) 10737418240) (some (x, c)) none)
  | _ => none
theorem ty_sy_ok {σ : Nat → Nat} {A : ty_A} {v : ix_V} {n x c : Nat} (hA : ty_bx σ A) (hv : ty_iv A.1 σ v n) (he : ty_sy A v = some (x, c)) : x < A.1 ∧ ty_kp n + 4294967296 = σ x + c := by
  rcases v with b | q | r | ⟨y, d⟩
  · cases he
  · cases he
  · cases he
  · obtain ⟨hn, hx, hm⟩ := hv
    have hb := hA.2 y hx
    change (match ix_g A.2 y with | (lo, hi) => cond (Nat.ble 6442450944 (Nat.add lo d) && Nat.blt (Nat.add hi d) 10737418240) (some (y, d)) none) = some (x, c) at he
    revert hb he
    generalize ix_g A.2 y = q
    obtain ⟨l0, h0⟩ := q
    intro hb he
    dsimp only at hb he
    cases hc : (Nat.ble 6442450944 (Nat.add l0 d) && Nat.blt (Nat.add h0 d) 10737418240) with
    | false => rw [hc] at he; cases he
    | true =>
      rw [hc] at he
      obtain ⟨rfl, rfl⟩ := ty_two he
      have c1 := Bool.and_eq_true_iff.mp hc
      have g1 : 6442450944 ≤ l0 + c := ix_ble.mp c1.1
      have g2 : h0 + c < 10737418240 := ix_blt.mp c1.2
      refine ⟨hx, ?_⟩
      have := ty_kp_eq n
      omega
/-- one lies below another by so much, as said of symbols -/
noncomputable def ty_qa (A : ty_A) (a b : ix_V) (j : Nat) (Q : ty_Q) : ty_Q := match ty_sy A a, ty_sy A b with
  | some (x, c), some (y, d) => cond (Nat.beq x y) Q (cond (Nat.ble d (Nat.add (Nat.add c j) 4294967296)) ((x, (Nat.sub (Nat.add (Nat.add c j) 4294967296) d, y)) :: Q) Q)
  | _, _ => Q
theorem ty_qa_ok {σ : Nat → Nat} {A : ty_A} {a b : ix_V} {m n j : Nat} {Q : ty_Q} (hA : ty_bx σ A) (ia : ty_iv A.1 σ a m) (ib : ty_iv A.1 σ b n) (hj : ty_kp m + j ≤ ty_kp n) (hQ : ∀ q ∈ Q, q.1 < A.1 ∧ q.2.2 < A.1 ∧ σ q.1 + q.2.1 ≤ σ q.2.2 + 4294967296) : ∀ q ∈ ty_qa A a b j Q, q.1 < A.1 ∧ q.2.2 < A.1 ∧ σ q.1 + q.2.1 ≤ σ q.2.2 + 4294967296 := by
  unfold ty_qa
  cases ea : ty_sy A a with
  | none => exact hQ
  | some qa =>
    cases eb : ty_sy A b with
    | none => exact hQ
    | some qb =>
      obtain ⟨x, c⟩ := qa
      obtain ⟨y, d⟩ := qb
      obtain ⟨x1, x2⟩ := ty_sy_ok hA ia ea
      obtain ⟨y1, y2⟩ := ty_sy_ok hA ib eb
      dsimp only
      cases Nat.beq x y with
      | true => exact hQ
      | false =>
        cases hd : Nat.ble d (Nat.add (Nat.add c j) 4294967296) with
        | false => exact hQ
        | true =>
          intro q hq
          rcases List.mem_cons.mp hq with rfl | hq
          · refine ⟨x1, y1, ?_⟩
            have hd2 : d ≤ c + j + 4294967296 := ix_ble.mp hd
            show σ x + (c + j + 4294967296 - d) ≤ σ y + 4294967296
            omega
          · exact hQ q hq
/-- the worlds in which one lies below another, and those in which it doesn't -/
noncomputable def ty_lt (W : ty_W) (a b : ix_V) : List ty_W × List ty_W := match ty_rng W.1 a, ty_rng W.1 b with
  | (l1, h1), (l2, h2) => (cond (Nat.blt l1 h2) (ty_ol (ty_2 W.1 a b 0 (Nat.pred h2) (Nat.succ l1) 6442450943) (W.2.1, (W.2.2.1, (ty_qa W.1 a b 1 W.2.2.2.1, W.2.2.2.2)))) [], cond (Nat.ble l2 h1) (ty_ol (ty_2 W.1 a b l2 6442450943 0 h1) (W.2.1, (W.2.2.1, (ty_qa W.1 b a 0 W.2.2.2.1, W.2.2.2.2)))) [])
theorem ty_wk.q {σ : ty_Sg} {A : ty_A} {L : ty_A} {R : Nat × Lean.RArray Nat} {Q Q' : ty_Q} {X : ty_X} {n : Nat} {t : ix_T} (hw : ty_wk h σ (A, (L, (R, (Q, X)))) n t) (hQ : ∀ q ∈ Q', q.1 < A.1 ∧ q.2.2 < A.1 ∧ σ.1 q.1 + q.2.1 ≤ σ.1 q.2.2 + 4294967296) : ty_wk h σ (A, (L, (R, (Q', X)))) n t := by
  obtain ⟨h1, h2, h3, h4, _, h6⟩ := hw
  exact ⟨h1, h2, h3, h4, hQ, h6⟩
/-- which of two lists of worlds a condition leads to -/
def ty_cd (h : ty_H) (σ : ty_Sg) (W : ty_W) (n : Nat) (t : ix_T) (l : List ty_W) : Prop := ∃ W' ∈ l, ty_wk h σ W' n t ∧ ty_k h W' = ty_k h W
theorem ty_lt_ok {σ : ty_Sg} {W : ty_W} {a b : ix_V} {m k n : Nat} {t : ix_T} (hw : ty_wk h σ W n t) (ia : ty_iv W.1.1 σ.1 a m) (ib : ty_iv W.1.1 σ.1 b k) : (ty_kp m < ty_kp k → ty_cd h σ W n t (ty_lt W a b).1) ∧ (¬ ty_kp m < ty_kp k → ty_cd h σ W n t (ty_lt W a b).2) := by
  obtain ⟨A, L, R, Q, X⟩ := W
  have r1 := ty_rng_ok hw.1 ia
  have r2 := ty_rng_ok hw.1 ib
  unfold ty_lt
  revert r1 r2
  generalize ty_rng (A, (L, (R, (Q, X)))).1 a = q1
  generalize ty_rng (A, (L, (R, (Q, X)))).1 b = q2
  obtain ⟨l1, h1⟩ := q1
  obtain ⟨l2, h2⟩ := q2
  intro r1 r2
  dsimp only at r1 r2 ⊢
  have u1 := ty_kp_hi m
  have u2 := ty_kp_hi k
  constructor
  · intro hlt
    rw [ix_blt.mpr (show l1 < h2 by omega)]
    obtain ⟨A', e1, e2, e3⟩ := ty_2_ok (la := 0) (ha := Nat.pred h2) (lb := Nat.succ l1) (hb := 6442450943) hw.1 ia ib (Nat.zero_le _) (by show _ ≤ h2 - 1; omega) (by show l1 + 1 ≤ _; omega) (by omega)
    have e1' : ty_2 A a b 0 (Nat.pred h2) (Nat.succ l1) 6442450943 = some A' := e1
    rw [e1']
    refine ⟨_, List.mem_cons_self, ?_, ?_⟩
    · exact ty_wk.set (ty_wk.q hw (ty_qa_ok hw.1 ia ib (by omega) hw.2.2.2.2.1)) e2 e3
    · show (A'.1, _) = (A.1, _); rw [e2]
  · intro hge
    rw [ix_ble.mpr (show l2 ≤ h1 by omega)]
    obtain ⟨A', e1, e2, e3⟩ := ty_2_ok (la := l2) (ha := 6442450943) (lb := 0) (hb := h1) hw.1 ia ib (by omega) (by omega) (Nat.zero_le _) (by omega)
    have e1' : ty_2 A a b l2 6442450943 0 h1 = some A' := e1
    rw [e1']
    refine ⟨_, List.mem_cons_self, ?_, ?_⟩
    · exact ty_wk.set (ty_wk.q hw (ty_qa_ok hw.1 ib ia (by omega) hw.2.2.2.2.1)) e2 e3
    · show (A'.1, _) = (A.1, _); rw [e2]
end TYB
