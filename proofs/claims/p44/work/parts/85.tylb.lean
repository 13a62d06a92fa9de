/-! labels looked up -/
section TYLB
variable {h : ty_H} {cp : Nat × Nat}
noncomputable def ty_lsub (q0 q : Nat) : Bool := Nat.beq q0 q || ((Nat.beq (Nat.mod q0 4) 0 && (Nat.beq (Nat.mod q 4) 0 && tx_sub (Nat.div q0 4) (Nat.div q 4))) || (Nat.beq (Nat.mod q0 4) 1 && (Nat.beq (Nat.mod q 4) 1 && (tx_sub (Nat.div q 4) (Nat.div q0 4) && Nat.beq (tx_g (Nat.div q0 4)) (tx_g (Nat.div q 4))))))
/-- what was read is at fault already -/
noncomputable def ty_nbd (W : ty_W) : Bool := match ty_find W.1 79 (.inl 4294967321) W.2.2.2.2 with
  | some b => ty_isI b && Nat.blt 4294967295 (ty_rng W.1 b).1
  | none => false
noncomputable def ty_lbf (A : ty_A) (q : Nat) (v : ix_V) (f : (Nat × ix_V) × ix_V) : Bool := match f.1.2 with
  | .inr (.inl q0) => (ty_sj A f.2 v || ((Nat.beq q 2 || Nat.beq q 14) || Nat.beq (Nat.mod q 4) 3)) && ty_lsub q0 q
  | _ => false
/-- a value has a label -/
noncomputable def ty_lbl (W : ty_W) (q : Nat) (v : ix_V) : Bool := W.2.2.2.2.any (ty_lbf W.1 q v) || (Nat.beq (Nat.mod q 4) 1 && ty_nbd W)
theorem ty_lsub_ok {γ : Nat → Nat} {q0 q m : Nat} {t : ix_T} (hs : ty_lsub q0 q = true) (hl : ty_lab γ q0 t m) : ty_lab γ q t m := by
  rcases (Bool.or_eq_true _ _).mp hs with hs | hs
  · rw [← ix_beq.mp hs]; exact hl
  · rcases (Bool.or_eq_true _ _).mp hs with hs | hs
    · have c1 := Bool.and_eq_true_iff.mp hs
      have c2 := Bool.and_eq_true_iff.mp c1.2
      have e0 : q0 % 4 = 0 := ix_beq.mp c1.1
      have e1 : q % 4 = 0 := ix_beq.mp c2.1
      unfold ty_lab at hl ⊢
      rw [e0] at hl
      rw [e1]
      exact ⟨hl.1, tx_sub_ok c2.2 hl.2⟩
    · have c1 := Bool.and_eq_true_iff.mp hs
      have c2 := Bool.and_eq_true_iff.mp c1.2
      have c3 := Bool.and_eq_true_iff.mp c2.2
      have e0 : q0 % 4 = 1 := ix_beq.mp c1.1
      have e1 : q % 4 = 1 := ix_beq.mp c2.1
      have e2 : tx_g (q0 / 4) = tx_g (q / 4) := ix_beq.mp c3.2
      unfold ty_lab at hl ⊢
      rw [e0] at hl
      rw [e1]
      intro hb
      obtain ⟨l1, l2, l3, l4⟩ := hl hb
      refine ⟨l1, l2, l3, fun ha => ?_⟩
      rw [← e2]
      exact l4 (tx_sub_ok c3.1 ha)
theorem ty_lab_st {γ : Nat → Nat} {q m m' : Nat} {t : ix_T} (hs : ((Nat.beq q 2 || Nat.beq q 14) || Nat.beq (Nat.mod q 4) 3) = true) (hl : ty_lab γ q t m) : ty_lab γ q t m' := by
  rcases (Bool.or_eq_true _ _).mp hs with hs | hs
  · rcases (Bool.or_eq_true _ _).mp hs with hs | hs
    · have e : q = 2 := ix_beq.mp hs
      subst e
      exact ⟨hl.1, fun e => absurd e (by decide), fun e => absurd e (by decide), fun e => absurd e (by decide)⟩
    · have e : q = 14 := ix_beq.mp hs
      subst e
      exact ⟨fun e => absurd e (by decide), fun e => absurd e (by decide), fun e => absurd e (by decide), hl.2.2.2⟩
  · have e : q % 4 = 3 := ix_beq.mp hs
    unfold ty_lab at hl ⊢
    rw [e] at hl ⊢
    exact hl
theorem ty_lsub_st {q0 q : Nat} (hs : ((Nat.beq q 2 || Nat.beq q 14) || Nat.beq (Nat.mod q 4) 3) = true) (hl : ty_lsub q0 q = true) : q0 = q := by
  rcases (Bool.or_eq_true _ _).mp hl with hl | hl
  · exact ix_beq.mp hl
  · have hq : q % 4 = 2 ∨ q % 4 = 3 := by
      rcases (Bool.or_eq_true _ _).mp hs with hs | hs
      · rcases (Bool.or_eq_true _ _).mp hs with hs | hs
        · have e : q = 2 := ix_beq.mp hs
          omega
        · have e : q = 14 := ix_beq.mp hs
          omega
      · exact Or.inr (ix_beq.mp hs)
    rcases (Bool.or_eq_true _ _).mp hl with hl | hl
    · have c1 := Bool.and_eq_true_iff.mp hl
      have c2 := Bool.and_eq_true_iff.mp c1.2
      have e1 : q % 4 = 0 := ix_beq.mp c2.1
      omega
    · have c1 := Bool.and_eq_true_iff.mp hl
      have c2 := Bool.and_eq_true_iff.mp c1.2
      have e1 : q % 4 = 1 := ix_beq.mp c2.1
      omega
/-- a known cell's slot -/
theorem ty_fslot {σ : ty_Sg} {W : ty_W} {n p k : Nat} {t : ix_T} {v : ix_V} (hw : ty_wk h σ W n t) (hp : p < 114) (hk : k < 2147483648) (he : ty_find W.1 p (.inl (Nat.add 4294967296 k)) W.2.2.2.2 = some v) : ty_rv (ty_k h W) σ v (ix_g (ix_g t p).2.2 k) := by
  have h1 := ty_find_ok (k2 := (ty_k h W).2) (m := k) hw.1 (ty_ivk hk) W.2.2.2.2 hw.2.2.2.2.2 he
  have hh := hw.2.2.1
  rw [hh.2.2.1 p (by have := hh.2.2.2.2.2.1.1; omega)] at h1
  exact h1
theorem ty_lbl_ok {σ : ty_Sg} {W : ty_W} {n q m : Nat} {t : ix_T} {v : ix_V} (hw : ty_wk h σ W n t) (hv : ty_iv W.1.1 σ.1 v m) (he : ty_lbl W q v = true) : ty_lab σ.2.1 q t m := by
  rcases (Bool.or_eq_true _ _).mp he with he | he
  · obtain ⟨f, f1, f2⟩ := List.any_eq_true.mp he
    have hf := hw.2.2.2.2.2 f f1
    obtain ⟨⟨p, j⟩, u⟩ := f
    rcases j with b | q0 | r | y
    · cases f2
    · have c := Bool.and_eq_true_iff.mp (show ((ty_sj W.1 u v || ((Nat.beq q 2 || Nat.beq q 14) || Nat.beq (Nat.mod q 4) 3)) && ty_lsub q0 q) = true from f2)
      obtain ⟨m', k1, k2⟩ := hf.2
      rcases (Bool.or_eq_true _ _).mp c.1 with z | z
      · have e : m' = m := ty_sj_ok hw.1 z k1 hv
        subst e
        exact ty_lsub_ok c.2 k2
      · have e := ty_lsub_st z c.2
        subst e
        exact ty_lab_st z k2
    · cases f2
    · cases f2
  · have c := Bool.and_eq_true_iff.mp he
    have e : q % 4 = 1 := ix_beq.mp c.1
    unfold ty_lab
    rw [e]
    intro hb
    have hz := c.2
    unfold ty_nbd at hz
    split at hz
    · rename_i b hbf
      have c2 := Bool.and_eq_true_iff.mp hz
      obtain ⟨x, x1, x2⟩ := (ty_fslot (k := 25) hw (by decide) (by decide) hbf).toint c2.1
      have r : (ty_rng W.1 b).1 ≤ ty_kp x ∧ ty_kp x ≤ (ty_rng W.1 b).2 := ty_rng_ok hw.1 x2
      have g := ix_blt.mp c2.2
      have ex : tx_n t 79 25 = x := by
        unfold tx_n
        rw [x1]
      rw [ex] at hb
      have := ty_kp_eq x
      omega
    · cases hz
noncomputable def ty_lfd (kd : Nat) (A : ty_A) (v : ix_V) : ty_X → Option Nat
  | [] => none
  | f :: X => (match f.1.2 with
    | .inr (.inl q) => cond (Nat.beq (Nat.mod q 4) kd && ty_sj A f.2 v) (some (Nat.div q 4)) (ty_lfd kd A v X)
    | _ => ty_lfd kd A v X)
theorem ty_kj_lo (m : Nat) : 9223372036854775808 ≤ ty_kj m := by rw [ty_kj_eq]; omega
theorem ty_kj_hi (m : Nat) : ty_kj m < 27670116110564327424 := by rw [ty_kj_eq]; omega
/-- between what a long lies -/
noncomputable def ty_jr (A : ty_A) (q : Nat) : Nat × Nat := cond (Nat.beq q 0) (9223372036854775808, 27670116110564327423) (cond (Nat.blt q 18446744073709551617) (ty_kj (Nat.pred q), ty_kj (Nat.pred q)) (ix_g A.2 (Nat.sub q 18446744073709551617)))
theorem ty_jr_ok {σ : Nat → Nat} {A : ty_A} {q m : Nat} (hA : ty_bl σ A) (hq : ty_jv A.1 σ q m) : (ty_jr A q).1 ≤ ty_kj m ∧ ty_kj m ≤ (ty_jr A q).2 := by
  unfold ty_jr
  obtain ⟨hm, hq⟩ := hq
  have lo := ty_kj_lo m
  have hi := ty_kj_hi m
  rcases hq with rfl | rfl | ⟨x, x1, rfl, x3⟩
  · exact ⟨lo, by show _ ≤ 27670116110564327423; omega⟩
  · rw [show Nat.beq (m + 1) 0 = false from rfl, ix_blt.mpr (show m + 1 < 18446744073709551617 by omega)]
    exact ⟨Nat.le_refl _, Nat.le_refl _⟩
  · rw [ix_beq_f.mpr (show ¬ 18446744073709551617 + x = 0 by omega), ix_blt_f.mpr (show ¬ 18446744073709551617 + x < 18446744073709551617 by omega)]
    have hb := hA.2 x x1
    have e : Nat.sub (18446744073709551617 + x) 18446744073709551617 = x := Nat.add_sub_cancel_left _ _
    rw [cond_false, cond_false, e]
    have ek : ty_kj m = σ x := by
      rw [ty_kj_eq, x3]
      omega
    rw [ek]
    exact ⟨hb.2.1, hb.2.2.1⟩
end TYLB
