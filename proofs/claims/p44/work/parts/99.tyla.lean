/-! bytes and truths stored; labels: how they are found, moved on -/
section TYLA
variable {h : ty_H} {cp : Nat × Nat} {pc : Nat}
noncomputable def ty_aBZ (kd : Nat) (A : ty_A) (v : ix_V) : Bool := ty_isI v && cond (Nat.beq kd 1) (Nat.ble 4294967168 (ty_rng A v).1 && Nat.ble (ty_rng A v).2 4294967423) (Nat.ble 4294967296 (ty_rng A v).1 && Nat.ble (ty_rng A v).2 4294967297)
theorem ty_nar_b : ∀ n, n < 128 → (vp_nar .byte (Int32.ofNat n)).toBitVec.toNat = n ∧ (vp_nar .byte (Int32.ofNat (4294967168 + n))).toBitVec.toNat = 4294967168 + n := by decide +kernel
theorem ty_nar_z : ∀ n, n < 2 → (vp_nar .boolean (Int32.ofNat n)).toBitVec.toNat = n := by decide +kernel
theorem ty_oknB : ty_okn 1 2 ty_aBZ ix_isInt ix_nar := by
  intro kd h1 h2 A k2 σ v w hA hr ha
  have c := Bool.and_eq_true_iff.mp ha
  obtain ⟨n, rfl, hn⟩ := hr.toint c.1
  have r : (ty_rng A v).1 ≤ ty_kp n ∧ ty_kp n ≤ (ty_rng A v).2 := ty_rng_ok hA hn
  have g4 := ty_kp_eq n
  have g5 := hn.1
  refine ⟨rfl, ?_⟩
  rcases (show kd = 1 ∨ kd = 2 by omega) with e | e
  · subst e
    have c2 := Bool.and_eq_true_iff.mp c.2
    have g1 := ix_ble.mp c2.1
    have g2 := ix_ble.mp c2.2
    show (Sum.inl (vp_nar .byte (Int32.ofNat n)).toBitVec.toNat : ix_V) = .inl n
    by_cases q : n < 128
    · rw [(ty_nar_b n q).1]
    · have q2 : 4294967168 ≤ n := by omega
      have q3 := (ty_nar_b (n - 4294967168) (by omega)).2
      rw [show 4294967168 + (n - 4294967168) = n by omega] at q3
      rw [q3]
  · subst e
    have c2 := Bool.and_eq_true_iff.mp c.2
    have g1 := ix_ble.mp c2.1
    have g2 := ix_ble.mp c2.2
    show (Sum.inl (vp_nar .boolean (Int32.ofNat n)).toBitVec.toNat : ix_V) = .inl n
    rw [ty_nar_z n (by omega)]
theorem ty_oknI : ty_okn 0 0 (fun _ => ty_aI) ix_isInt ix_nar := by
  intro kd h1 h2 A k2 σ v w hA hr ha
  have e : kd = 0 := by omega
  subst e
  obtain ⟨n, rfl, _⟩ := hr.toint ha
  exact ⟨rfl, rfl⟩
theorem ty_oknJ : ty_okn 3 3 (fun _ => ty_aJ) ix_isLong ix_nar := by
  intro kd h1 h2 A k2 σ v w hA hr ha
  have e : kd = 3 := by omega
  subst e
  rcases v with b | q | r | y
  · cases ha
  · obtain ⟨m, rfl, _⟩ := hr
    exact ⟨rfl, rfl⟩
  · cases ha
  · cases ha
/-- a label of a value -/
theorem ty_lfd_ok {k2 : Nat × Nat} {kd : Nat} {σ : ty_Sg} {A : ty_A} {t : ix_T} {v : ix_V} {m l : Nat} (hA : ty_bx σ.1 A) (hv : ty_iv A.1 σ.1 v m) : ∀ (X : ty_X), (∀ f ∈ X, ty_fok (A.1, k2) σ t f) → ty_lfd kd A v X = some l → ∃ q, q % 4 = kd ∧ q / 4 = l ∧ ty_lab σ.2.1 q t m
  | [], _, he => by cases he
  | f :: X, hX, he => by
    have IH := ty_lfd_ok (kd := kd) (l := l) hA hv X (fun f hf => hX f (List.mem_cons_of_mem _ hf))
    have hf := hX f List.mem_cons_self
    obtain ⟨⟨p, j⟩, u⟩ := f
    rcases j with b | q | r | y
    · exact IH he
    · change cond (Nat.beq (Nat.mod q 4) kd && ty_sj A u v) (some (Nat.div q 4)) (ty_lfd kd A v X) = some l at he
      cases hc : (Nat.beq (Nat.mod q 4) kd && ty_sj A u v) with
      | false => rw [hc] at he; exact IH he
      | true =>
        rw [hc] at he
        have c := Bool.and_eq_true_iff.mp hc
        obtain ⟨m', m1, m2⟩ := hf.2
        have e : m' = m := ty_sj_ok hA c.2 m1 hv
        subst e
        exact ⟨q, ix_beq.mp c.1, Option.some.inj he, m2⟩
    · exact IH he
    · exact IH he
/-- one more, one less -/
noncomputable def ty_inc (v : ix_V) : ix_V := match v with
  | .inl b => .inl (Nat.succ b)
  | .inr (.inr (.inr (x, c))) => .inr (.inr (.inr (x, Nat.succ c)))
  | w => w
noncomputable def ty_dec (v : ix_V) : ix_V := match v with
  | .inl b => .inl (Nat.pred b)
  | .inr (.inr (.inr (x, c))) => .inr (.inr (.inr (x, Nat.pred c)))
  | w => w
theorem ty_inc_ok {k : Nat} {σ : Nat → Nat} {v : ix_V} {m : Nat} (hv : ty_iv k σ v m) (hm : m < 2147483647) : ty_iv k σ (ty_inc v) (m + 1) := by
  rcases v with b | q | r | ⟨x, c⟩
  · refine ⟨by omega, ?_⟩
    have e : b = ty_kp m := hv.2
    have e1 := ty_kp_eq m
    have e2 := ty_kp_eq (m + 1)
    show b + 1 = ty_kp (m + 1)
    omega
  · exact hv.2.elim
  · exact hv.2.elim
  · refine ⟨by omega, hv.2.1, ?_⟩
    have e : m = (σ x + c) % 4294967296 := hv.2.2
    show m + 1 = (σ x + (c + 1)) % 4294967296
    omega
theorem ty_dec_ok {k : Nat} {σ : Nat → Nat} {v : ix_V} {m : Nat} (hv : ty_iv k σ v (m + 1)) (hm : m < 2147483647) (hc : match v with
  | .inr (.inr (.inr (_, c))) => 0 < c
  | _ => True) : ty_iv k σ (ty_dec v) m := by
  rcases v with b | q | r | ⟨x, c⟩
  · refine ⟨by omega, ?_⟩
    have e : b = ty_kp (m + 1) := hv.2
    have e1 := ty_kp_eq m
    have e2 := ty_kp_eq (m + 1)
    show b - 1 = ty_kp m
    omega
  · exact hv.2.elim
  · exact hv.2.elim
  · refine ⟨by omega, hv.2.1, ?_⟩
    have e : m + 1 = (σ x + c) % 4294967296 := hv.2.2
    have hc : 0 < c := hc
    show m = (σ x + (c - 1)) % 4294967296
    omega
/-- the second is surely so much more than the first -/
noncomputable def ty_off (A : ty_A) (k j : ix_V) (o : Nat) : Bool := match ty_nz A k, ty_nz A j with
  | .inl a, .inl b => Nat.beq (Nat.add a o) b
  | .inr (.inr (.inr (x, c))), .inr (.inr (.inr (y, d))) => Nat.beq x y && Nat.beq (Nat.add c o) d
  | _, _ => false
theorem ty_off_ok {σ : Nat → Nat} {A : ty_A} {k j : ix_V} {o m n : Nat} (hA : ty_bx σ A) (he : ty_off A k j o = true) (hk : ty_iv A.1 σ k m) (hj : ty_iv A.1 σ j n) : n = (m + o) % 4294967296 := by
  have h1 := ty_nz_ok hA hk
  have h2 := ty_nz_ok hA hj
  unfold ty_off at he
  split at he
  · rename_i a b ea eb
    rw [ea] at h1
    rw [eb] at h2
    have e : a + o = b := ix_beq.mp he
    have e1 : a = ty_kp m := h1.2
    have e2 : b = ty_kp n := h2.2
    have e3 := ty_kp_eq m
    have e4 := ty_kp_eq n
    have e5 := h1.1
    have e6 := h2.1
    omega
  · rename_i x c y d ea eb
    rw [ea] at h1
    rw [eb] at h2
    have cc := Bool.and_eq_true_iff.mp he
    have e1 : m = (σ x + c) % 4294967296 := h1.2.2
    have e2 : n = (σ y + d) % 4294967296 := h2.2.2
    have e3 : c + o = d := ix_beq.mp cc.2
    rw [← ix_beq.mp cc.1] at e2
    omega
  · cases he
/-- that token and then a state -/
noncomputable def tx_R (c l : Nat) : Nat := Nat.add (Nat.mul 100000 (Nat.succ c)) l
theorem tx_R_cls {c l : Nat} (hl : l < 100000) : tx_cls (tx_R c l) = tx_rr c l ∧ tx_nm (tx_R c l) = false := by
  have e : tx_R c l = 100000 * (c + 1) + l := rfl
  have e0 : Nat.blt (tx_R c l) 99999 = false := ix_blt_f.mpr (by omega)
  constructor
  · unfold tx_cls
    rw [e0, ix_beq_f.mpr (show ¬ tx_R c l = 99999 by omega), cond_false, cond_false]
    have e1 : Nat.pred (Nat.div (tx_R c l) 100000) = c := by
      show (tx_R c l) / 100000 - 1 = c
      omega
    have e2 : Nat.mod (tx_R c l) 100000 = l := by
      show (tx_R c l) % 100000 = l
      omega
    rw [e1, e2]
  · unfold tx_nm
    rw [e0]
    rfl
theorem tx_R_ok {f : Nat → Nat × Nat} {c l v : Nat} (hl : l < 100000) (hc : tx_find (f v).1 (tx_rr c l) = some l) (ha : tx_acc f l (v + 1)) : tx_acc f (tx_R c l) v := by
  refine tx_acc.mk (l' := l) ?_ ha
  obtain ⟨h1, h2⟩ := tx_R_cls (c := c) hl
  unfold tx_de
  rw [h1, h2]
  cases Nat.beq (f v).1 50 <;> exact hc
/-- the code of a class -/
noncomputable def tx_rc (lo hi : Nat) : Nat := cond (Nat.beq lo hi) lo (cond (Nat.beq lo 8 && Nat.beq hi 17) 1000 (cond (Nat.beq lo 17 && Nat.beq hi 20) 1001 (cond (Nat.beq lo 2 && Nat.beq hi 3) 1002 9999)))
theorem tx_rc_ok {lo hi c l : Nat} (h9 : Nat.beq (tx_rc lo hi) 9999 = false) (hlo : lo < 999) (h1 : lo ≤ c) (h2 : c ≤ hi) : tx_find c (tx_rr (tx_rc lo hi) l) = some l := by
  have one : ∀ a b, a ≤ c → c ≤ b → tx_find c [(a, (b, l))] = some l := fun a b p q => by
    show cond (Nat.ble a c && Nat.ble c b) (some l) _ = _
    rw [ix_ble.mpr p, ix_ble.mpr q]
    rfl
  unfold tx_rc at h9 ⊢
  cases e1 : Nat.beq lo hi with
  | true =>
    have e := ix_beq.mp e1
    rw [cond_true]
    unfold tx_rr
    rw [ix_blt.mpr (show lo < 1000 by omega)]
    exact one lo lo h1 (by omega)
  | false =>
    rw [e1, cond_false] at h9
    rw [cond_false]
    cases e2 : (Nat.beq lo 8 && Nat.beq hi 17) with
    | true =>
      have d := Bool.and_eq_true_iff.mp e2
      have d1 := ix_beq.mp d.1
      have d2 := ix_beq.mp d.2
      exact one 8 17 (by omega) (by omega)
    | false =>
      rw [e2, cond_false] at h9
      rw [cond_false]
      cases e3 : (Nat.beq lo 17 && Nat.beq hi 20) with
      | true =>
        have d := Bool.and_eq_true_iff.mp e3
        have d1 := ix_beq.mp d.1
        have d2 := ix_beq.mp d.2
        exact one 17 20 (by omega) (by omega)
      | false =>
        rw [e3, cond_false] at h9
        rw [cond_false]
        cases e4 : (Nat.beq lo 2 && Nat.beq hi 3) with
        | true =>
          have d := Bool.and_eq_true_iff.mp e4
          have d1 := ix_beq.mp d.1
          have d2 := ix_beq.mp d.2
          exact one 2 3 (by omega) (by omega)
        | false =>
          rw [e4] at h9
          cases h9
end TYLA
