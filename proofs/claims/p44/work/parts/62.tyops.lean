/-! further operations on ints -/
noncomputable def ty_gno (_ _ _ _ : Nat) : Option (Nat × Nat) := none
theorem ty_gno_ok (f : Nat → Nat → Nat) : ty_gd f ty_gno := fun _ _ _ _ _ _ h => by cases h
/-- a product of two that are not below 0 -/
noncomputable def ty_gmul (l1 h1 l2 h2 : Nat) : Option (Nat × Nat) := cond (Nat.ble 4294967296 l1 && (Nat.ble 4294967296 l2 && Nat.blt (Nat.mul (Nat.sub h1 4294967296) (Nat.sub h2 4294967296)) 2147483648)) (some (Nat.add 4294967296 (Nat.mul (Nat.sub l1 4294967296) (Nat.sub l2 4294967296)), Nat.add 4294967296 (Nat.mul (Nat.sub h1 4294967296) (Nat.sub h2 4294967296)))) none
theorem ty_kp_nn {n : Nat} (h : n < 2147483648) : ty_kp n = n + 4294967296 := by rw [ty_kp_eq]; omega
theorem ty_gmul_ok : ty_gd ix_mul ty_gmul := by
  intro l1 h1 l2 h2 lo hi h m n hm hn a1 a2 b1 b2
  unfold ty_gmul at h
  cases hc : (Nat.ble 4294967296 l1 && (Nat.ble 4294967296 l2 && Nat.blt (Nat.mul (Nat.sub h1 4294967296) (Nat.sub h2 4294967296)) 2147483648)) with
  | false => rw [hc] at h; cases h
  | true =>
    rw [hc] at h
    obtain ⟨elo, ehi⟩ := ty_two h
    rw [elo, ehi]
    have c1 := Bool.and_eq_true_iff.mp hc
    have c2 := Bool.and_eq_true_iff.mp c1.2
    have g1 := ix_ble.mp c1.1
    have g2 := ix_ble.mp c2.1
    have g3 : (h1 - 4294967296) * (h2 - 4294967296) < 2147483648 := ix_blt.mp c2.2
    have e1 := ty_nn hm (by omega)
    have e2 := ty_nn hn (by omega)
    have u : m * n ≤ (h1 - 4294967296) * (h2 - 4294967296) := Nat.mul_le_mul (by omega) (by omega)
    have w : (l1 - 4294967296) * (l2 - 4294967296) ≤ m * n := Nat.mul_le_mul (by omega) (by omega)
    have e3 : ix_mul m n = m * n := Nat.mod_eq_of_lt (show m * n < 4294967296 by omega)
    rw [e3, ty_kp_nn (by omega)]
    exact ⟨by show 4294967296 + (l1 - 4294967296) * (l2 - 4294967296) ≤ _; omega, by show _ ≤ 4294967296 + (h1 - 4294967296) * (h2 - 4294967296); omega⟩
/-- what is in both, one of them not below 0 -/
noncomputable def ty_gand (l1 h1 l2 h2 : Nat) : Option (Nat × Nat) := cond (Nat.ble 4294967296 l1) (cond (Nat.ble 4294967296 l2) (some (4294967296, cond (Nat.ble h1 h2) h1 h2)) (some (4294967296, h1))) (cond (Nat.ble 4294967296 l2) (some (4294967296, h2)) none)
theorem ty_and_l {m n h : Nat} (hm : m < 4294967296) (h0 : 4294967296 ≤ ty_kp m) (h1 : ty_kp m ≤ h) : 4294967296 ≤ ty_kp (Nat.land m n) ∧ ty_kp (Nat.land m n) ≤ h := by
  have e := ty_nn hm h0
  have u : Nat.land m n ≤ m := Nat.and_le_left
  rw [ty_kp_nn (by omega)]
  omega
theorem ty_and_r {m n h : Nat} (hn : n < 4294967296) (h0 : 4294967296 ≤ ty_kp n) (h1 : ty_kp n ≤ h) : 4294967296 ≤ ty_kp (Nat.land m n) ∧ ty_kp (Nat.land m n) ≤ h := by
  have e := ty_nn hn h0
  have u : Nat.land m n ≤ n := Nat.and_le_right
  rw [ty_kp_nn (by omega)]
  omega
theorem ty_gand_ok : ty_gd Nat.land ty_gand := by
  intro l1 h1 l2 h2 lo hi h m n hm hn a1 a2 b1 b2
  unfold ty_gand at h
  cases c1 : Nat.ble 4294967296 l1 with
  | true =>
    have g1 := ix_ble.mp c1
    have u := ty_and_l (n := n) hm (by omega) a2
    cases c2 : Nat.ble 4294967296 l2 with
    | true =>
      have g2 := ix_ble.mp c2
      have w := ty_and_r (m := m) hn (by omega) b2
      rw [c1, c2] at h
      obtain ⟨elo, ehi⟩ := ty_two h
      rw [elo, ehi]
      refine ⟨u.1, ?_⟩
      cases Nat.ble h1 h2
      · exact w.2
      · exact u.2
    | false =>
      rw [c1, c2] at h
      obtain ⟨elo, ehi⟩ := ty_two h
      rw [elo, ehi]
      exact u
  | false =>
    cases c2 : Nat.ble 4294967296 l2 with
    | true =>
      have g2 := ix_ble.mp c2
      have w := ty_and_r (m := m) hn (by omega) b2
      rw [c1, c2] at h
      obtain ⟨elo, ehi⟩ := ty_two h
      rw [elo, ehi]
      exact w
    | false => rw [c1, c2] at h; cases h
/-- what is in one of both: below the next power of two -/
noncomputable def ty_p2 (k : Nat) : Nat := Nat.add 4294967295 (Nat.pow 2 (Nat.succ (Nat.log2 k)))
theorem ty_p2_eq (k : Nat) : ty_p2 k = 4294967295 + 2 ^ (Nat.log2 k + 1) := rfl
noncomputable def ty_gor (l1 h1 l2 h2 : Nat) : Option (Nat × Nat) := cond (Nat.ble 4294967296 l1 && (Nat.ble 4294967296 l2 && (Nat.blt h1 5368709120 && Nat.blt h2 5368709120))) (some (4294967296, ty_p2 (Nat.max (Nat.sub h1 4294967296) (Nat.sub h2 4294967296)))) none
theorem ty_pow_lt {m k : Nat} (h : m ≤ k) : m < 2 ^ (Nat.log2 k + 1) := Nat.lt_of_le_of_lt h Nat.lt_log2_self
theorem ty_gor_gen {f : Nat → Nat → Nat} (hf : ∀ m n k, m < 2 ^ k → n < 2 ^ k → f m n < 2 ^ k) : ty_gd f ty_gor := by
  intro l1 h1 l2 h2 lo hi h m n hm hn a1 a2 b1 b2
  unfold ty_gor at h
  cases hc : (Nat.ble 4294967296 l1 && (Nat.ble 4294967296 l2 && (Nat.blt h1 5368709120 && Nat.blt h2 5368709120))) with
  | false => rw [hc] at h; cases h
  | true =>
    rw [hc] at h
    obtain ⟨elo, ehi⟩ := ty_two h
    rw [elo, ehi]
    have c1 := Bool.and_eq_true_iff.mp hc
    have c2 := Bool.and_eq_true_iff.mp c1.2
    have c3 := Bool.and_eq_true_iff.mp c2.2
    have g1 := ix_ble.mp c1.1
    have g2 := ix_ble.mp c2.1
    have g3 := ix_blt.mp c3.1
    have g4 := ix_blt.mp c3.2
    have e1 := ty_nn hm (by omega)
    have e2 := ty_nn hn (by omega)
    have x1 : h1 - 4294967296 ≤ Nat.max (h1 - 4294967296) (h2 - 4294967296) := Nat.le_max_left _ _
    have x2 : h2 - 4294967296 ≤ Nat.max (h1 - 4294967296) (h2 - 4294967296) := Nat.le_max_right _ _
    have x3 : Nat.max (h1 - 4294967296) (h2 - 4294967296) < 1073741824 := Nat.max_lt.mpr ⟨by omega, by omega⟩
    have hk : Nat.log2 (Nat.max (h1 - 4294967296) (h2 - 4294967296)) < 30 := by
      by_cases z : Nat.max (h1 - 4294967296) (h2 - 4294967296) = 0
      · rw [z]; decide
      · exact (Nat.log2_lt z).mpr x3
    have u := hf m n _ (ty_pow_lt (show m ≤ Nat.max (h1 - 4294967296) (h2 - 4294967296) by omega)) (ty_pow_lt (show n ≤ Nat.max (h1 - 4294967296) (h2 - 4294967296) by omega))
    have p : 2 ^ (Nat.log2 (Nat.max (h1 - 4294967296) (h2 - 4294967296)) + 1) ≤ 2 ^ 30 := Nat.pow_le_pow_right (by decide) hk
    have p2 : (2 : Nat) ^ 30 = 1073741824 := by decide
    rw [ty_kp_nn (by omega), ty_p2_eq]
    exact ⟨by omega, by
      have p3 : f m n < 2 ^ (Nat.log2 (Nat.max (Nat.sub h1 4294967296) (Nat.sub h2 4294967296)) + 1) := u
      omega⟩
theorem ty_gor_ok : ty_gd Nat.lor ty_gor := ty_gor_gen (fun _ _ _ h1 h2 => Nat.or_lt_two_pow h1 h2)
theorem ty_gxor_ok : ty_gd Nat.xor ty_gor := ty_gor_gen (fun _ _ _ h1 h2 => Nat.xor_lt_two_pow h1 h2)
/-- a part, a rest: of what is not below 0, by what is above 0 -/
noncomputable def ty_gdiv (l1 h1 l2 h2 : Nat) : Option (Nat × Nat) := cond (Nat.ble 4294967296 l1 && Nat.blt 4294967296 l2) (some (Nat.add 4294967296 (Nat.div (Nat.sub l1 4294967296) (Nat.sub h2 4294967296)), Nat.add 4294967296 (Nat.div (Nat.sub h1 4294967296) (Nat.sub l2 4294967296)))) none
theorem ty_gdiv_ok : ty_gd ix_div ty_gdiv := by
  intro l1 h1 l2 h2 lo hi h m n hm hn a1 a2 b1 b2
  unfold ty_gdiv at h
  cases hc : (Nat.ble 4294967296 l1 && Nat.blt 4294967296 l2) with
  | false => rw [hc] at h; cases h
  | true =>
    rw [hc] at h
    obtain ⟨elo, ehi⟩ := ty_two h
    rw [elo, ehi]
    have c1 := Bool.and_eq_true_iff.mp hc
    have g1 := ix_ble.mp c1.1
    have g2 := ix_blt.mp c1.2
    have e1 := ty_nn hm (by omega)
    have e2 := ty_nn hn (by omega)
    have d1 : (Nat.blt m ix_h32 && Nat.blt n ix_h32) = true := Bool.and_eq_true_iff.mpr ⟨ix_blt.mpr e1.1, ix_blt.mpr e2.1⟩
    have e3 : ix_div m n = m / n := by unfold ix_div; rw [d1]; rfl
    have u : m / n ≤ m := Nat.div_le_self _ _
    have p : (l1 - 4294967296) / (h2 - 4294967296) ≤ m / n := Nat.le_trans (Nat.div_le_div_right (show l1 - 4294967296 ≤ m by omega)) (Nat.div_le_div_left (show n ≤ h2 - 4294967296 by omega) (by omega))
    have q : m / n ≤ (h1 - 4294967296) / (l2 - 4294967296) := Nat.le_trans (Nat.div_le_div_right (show m ≤ h1 - 4294967296 by omega)) (Nat.div_le_div_left (show l2 - 4294967296 ≤ n by omega) (by omega))
    rw [e3, ty_kp_nn (by omega)]
    exact ⟨by show 4294967296 + (l1 - 4294967296) / (h2 - 4294967296) ≤ _; omega, by show _ ≤ 4294967296 + (h1 - 4294967296) / (l2 - 4294967296); omega⟩
noncomputable def ty_grem (l1 h1 l2 h2 : Nat) : Option (Nat × Nat) := cond (Nat.ble 4294967296 l1 && Nat.blt 4294967296 l2) (some (4294967296, cond (Nat.blt h1 h2) h1 (Nat.pred h2))) none
theorem ty_grem_ok : ty_gd ix_rem ty_grem := by
  intro l1 h1 l2 h2 lo hi h m n hm hn a1 a2 b1 b2
  unfold ty_grem at h
  cases hc : (Nat.ble 4294967296 l1 && Nat.blt 4294967296 l2) with
  | false => rw [hc] at h; cases h
  | true =>
    rw [hc] at h
    obtain ⟨elo, ehi⟩ := ty_two h
    rw [elo, ehi]
    have c1 := Bool.and_eq_true_iff.mp hc
    have g1 := ix_ble.mp c1.1
    have g2 := ix_blt.mp c1.2
    have e1 := ty_nn hm (by omega)
    have e2 := ty_nn hn (by omega)
    have d1 : (Nat.blt m ix_h32 && Nat.blt n ix_h32) = true := Bool.and_eq_true_iff.mpr ⟨ix_blt.mpr e1.1, ix_blt.mpr e2.1⟩
    have e3 : ix_rem m n = m % n := by unfold ix_rem; rw [d1]; rfl
    have u : m % n ≤ m := Nat.mod_le _ _
    have w : m % n < n := Nat.mod_lt _ (by omega)
    rw [e3, ty_kp_nn (by omega)]
    refine ⟨by omega, ?_⟩
    cases Nat.blt h1 h2
    · show _ ≤ h2 - 1; omega
    · show _ ≤ h1; omega
/-- a difference -/
noncomputable def ty_gsub (l1 h1 l2 h2 : Nat) : Option (Nat × Nat) := cond (Nat.ble (Nat.add 2147483648 h2) (Nat.add l1 4294967296) && Nat.blt (Nat.add h1 4294967296) (Nat.add l2 6442450944)) (some (Nat.sub (Nat.add l1 4294967296) h2, Nat.sub (Nat.add h1 4294967296) l2)) none
theorem ty_gsub_ok : ty_gd ix_sub ty_gsub := by
  intro l1 h1 l2 h2 lo hi h m n hm hn a1 a2 b1 b2
  unfold ty_gsub at h
  cases hc : (Nat.ble (Nat.add 2147483648 h2) (Nat.add l1 4294967296) && Nat.blt (Nat.add h1 4294967296) (Nat.add l2 6442450944)) with
  | false => rw [hc] at h; cases h
  | true =>
    rw [hc] at h
    obtain ⟨elo, ehi⟩ := ty_two h
    rw [elo, ehi]
    have c1 := Bool.and_eq_true_iff.mp hc
    have g1 : 2147483648 + h2 ≤ l1 + 4294967296 := ix_ble.mp c1.1
    have g2 : h1 + 4294967296 < l2 + 6442450944 := ix_blt.mp c1.2
    have e : ty_kp (ix_sub m n) = ty_kp m + 4294967296 - ty_kp n := by
      have k1 := ty_kp_eq m
      have k2 := ty_kp_eq n
      have k3 : ty_kp (ix_sub m n) = ((m + 4294967296 - n) % 4294967296 + 2147483648) % 4294967296 + 2147483648 := rfl
      omega
    rw [e]
    exact ⟨by show l1 + 4294967296 - h2 ≤ _; omega, by show _ ≤ h1 + 4294967296 - l2; omega⟩
noncomputable def ty_sub (A : ty_A) (a b : ix_V) : Option (ix_V × ty_A) := match a, b with
  | .inr (.inr (.inr (x, c))), .inl q => cond (Nat.ble q (Nat.add c 4294967296)) (some (.inr (.inr (.inr (x, Nat.sub (Nat.add c 4294967296) q))), A)) none
  | y, z => ty_bin ix_sub ty_gsub A y z
theorem ty_sub_lit {σ : Nat → Nat} {k x c q m n : Nat} (h : Nat.ble q (Nat.add c 4294967296) = true) (ha : ty_iv k σ (.inr (.inr (.inr (x, c)))) m) (hb : ty_iv k σ (.inl q) n) : ty_iv k σ (.inr (.inr (.inr (x, Nat.sub (Nat.add c 4294967296) q)))) (ix_sub m n) := by
  have g1 : q ≤ c + 4294967296 := ix_ble.mp h
  have hq : q = ty_kp n := hb.2
  have hm := ha.2.2
  have hn := hb.1
  refine ⟨ix_sub_lt _ _, ha.2.1, ?_⟩
  show (m + 4294967296 - n) % 4294967296 = (σ x + (c + 4294967296 - q)) % 4294967296
  rw [ty_kp_eq] at hq
  omega
theorem ty_sub_ok : ty_op2 ix_sub ty_sub := by
  intro σ A A' a b m n v hA ha hb h
  have hgen := ty_bin_ok (f := ix_sub) (g := ty_gsub) (fun m n _ _ => ix_sub_lt m n) ty_gsub_ok
  rcases a with p | a | a | ⟨x, c⟩
  · rcases b with q | b | b | ⟨y, d⟩
    · exact hgen σ A A' _ _ m n v hA ha hb h
    · exact hb.2.elim
    · exact hb.2.elim
    · exact hgen σ A A' _ _ m n v hA ha hb h
  · exact ha.2.elim
  · exact ha.2.elim
  · rcases b with q | b | b | ⟨y, d⟩
    · change cond (Nat.ble q (Nat.add c 4294967296)) (some (.inr (.inr (.inr (x, Nat.sub (Nat.add c 4294967296) q))), A)) none = some (v, A') at h
      cases hc : Nat.ble q (Nat.add c 4294967296) with
      | false => rw [hc] at h; cases h
      | true =>
        rw [hc] at h
        have h2 := Option.some.inj h
        have e1 := congrArg Prod.fst h2
        have e2 := congrArg Prod.snd h2
        dsimp only at e1 e2
        rw [← e1, ← e2]
        exact ty_keep hA (ty_sub_lit hc ha hb)
    · exact hb.2.elim
    · exact hb.2.elim
    · exact hgen σ A A' _ _ m n v hA ha hb h
