/-! a typed machine over the plain one: its numbers. An int z is kept as z + 2^32 -/
noncomputable def ty_kp (n : Nat) : Nat := Nat.add (Nat.mod (Nat.add n 2147483648) 4294967296) 2147483648
theorem ty_kp_eq (n : Nat) : ty_kp n = (n + 2147483648) % 4294967296 + 2147483648 := rfl
theorem ty_kp_lo (n : Nat) : 2147483648 ≤ ty_kp n := by rw [ty_kp_eq]; omega
theorem ty_kp_hi (n : Nat) : ty_kp n < 6442450944 := by rw [ty_kp_eq]; omega
theorem ty_kp_mod {n : Nat} (h : n < 4294967296) : ty_kp n % 4294967296 = n := by rw [ty_kp_eq]; omega
theorem ty_kp_of {b : Nat} (h1 : 2147483648 ≤ b) (h2 : b < 6442450944) : ty_kp (b % 4294967296) = b := by rw [ty_kp_eq]; omega
theorem ty_kp_inj {m n : Nat} (h1 : m < 4294967296) (h2 : n < 4294967296) (h : ty_kp m = ty_kp n) : m = n := by rw [ty_kp_eq, ty_kp_eq] at h; omega
theorem ty_kp_bias (n : Nat) : ty_kp n = ix_bias n + 2147483648 := rfl
theorem ty_nn {n : Nat} (h : n < 4294967296) (h1 : 4294967296 ≤ ty_kp n) : n < 2147483648 ∧ ty_kp n = n + 4294967296 := by rw [ty_kp_eq] at *; omega
abbrev ty_A : Type := Nat × Lean.RArray (Nat × Nat)
/-- the symbols' values lie in their boxes -/
def ty_bx (σ : Nat → Nat) (A : ty_A) : Prop := A.1 ≤ 256 ∧ ∀ x, x < A.1 → 2147483648 ≤ (ix_g A.2 x).1 ∧ (ix_g A.2 x).1 ≤ σ x ∧ σ x ≤ (ix_g A.2 x).2 ∧ (ix_g A.2 x).2 < 6442450944
/-- an int of ours and a plain one -/
def ty_iv (k : Nat) (σ : Nat → Nat) (v : ix_V) (n : Nat) : Prop := n < 4294967296 ∧ match v with
  | .inl b => b = ty_kp n
  | .inr (.inr (.inr (x, c))) => x < k ∧ n = (σ x + c) % 4294967296
  | _ => False
/-- two of the symbols' values agree below a number -/
def ty_ag (k : Nat) (σ σ' : Nat → Nat) : Prop := ∀ x, x < k ∨ 1000 ≤ x → σ' x = σ x
theorem ty_ag.rf {k : Nat} {σ : Nat → Nat} : ty_ag k σ σ := fun _ _ => rfl
theorem ty_ag.tr {k k' : Nat} {a b c : Nat → Nat} (h1 : ty_ag k a b) (h2 : ty_ag k' b c) (hk : k ≤ k') : ty_ag k a c := fun x hx => (h2 x (hx.imp (fun q => by omega) id)).trans (h1 x hx)
theorem ty_ag.le {k k' : Nat} {a b : Nat → Nat} (h : ty_ag k' a b) (hk : k ≤ k') : ty_ag k a b := fun x hx => h x (hx.imp (fun q => by omega) id)
theorem ty_iv.ag {k k' : Nat} {σ σ' : Nat → Nat} {v : ix_V} {n : Nat} (h : ty_iv k σ v n) (ha : ty_ag k σ σ') (hk : k ≤ k') : ty_iv k' σ' v n := by
  match v, h with
  | .inl _, h => exact h
  | .inr (.inl _), h => exact h
  | .inr (.inr (.inl _)), h => exact h
  | .inr (.inr (.inr (x, c))), h => exact ⟨h.1, by have := h.2.1; omega, by rw [ha x (Or.inl h.2.1)]; exact h.2.2⟩
noncomputable def ty_full : Nat × Nat := (2147483648, 6442450943)
/-- between what an int lies -/
noncomputable def ty_rng (A : ty_A) (v : ix_V) : Nat × Nat := match v with
  | .inl b => (b, b)
  | .inr (.inr (.inr (x, c))) => (match ix_g A.2 x with
    | (lo, hi) => cond (Nat.ble 6442450944 (Nat.add lo c) && Nat.blt (Nat.add hi c) 10737418240) (Nat.sub (Nat.add lo c) 4294967296, Nat.sub (Nat.add hi c) 4294967296) ty_full)
  | _ => ty_full
theorem ty_full_ok (n : Nat) : ty_full.1 ≤ ty_kp n ∧ ty_kp n ≤ ty_full.2 := by
  have h1 := ty_kp_lo n
  have h2 := ty_kp_hi n
  exact ⟨h1, by show _ ≤ 6442450943; omega⟩
theorem ty_rng_ok {σ : Nat → Nat} {A : ty_A} {v : ix_V} {n : Nat} (hA : ty_bx σ A) (h : ty_iv A.1 σ v n) : (ty_rng A v).1 ≤ ty_kp n ∧ ty_kp n ≤ (ty_rng A v).2 := by
  match v, h with
  | .inl b, h => rw [← h.2]; exact ⟨Nat.le_refl _, Nat.le_refl _⟩
  | .inr (.inl _), _ => exact ty_full_ok n
  | .inr (.inr (.inl _)), _ => exact ty_full_ok n
  | .inr (.inr (.inr (x, c))), h =>
    obtain ⟨h0, hx, hn⟩ := h
    have hb := hA.2 x hx
    show (match ix_g A.2 x with | (lo, hi) => cond (Nat.ble 6442450944 (Nat.add lo c) && Nat.blt (Nat.add hi c) 10737418240) (Nat.sub (Nat.add lo c) 4294967296, Nat.sub (Nat.add hi c) 4294967296) ty_full).1 ≤ _ ∧ _ ≤ (match ix_g A.2 x with | (lo, hi) => cond (Nat.ble 6442450944 (Nat.add lo c) && Nat.blt (Nat.add hi c) 10737418240) (Nat.sub (Nat.add lo c) 4294967296, Nat.sub (Nat.add hi c) 4294967296) ty_full).2
    revert hb
    generalize ix_g A.2 x = q
    obtain ⟨lo, hi⟩ := q
    intro hb
    dsimp only at hb ⊢
    cases hc : (Nat.ble 6442450944 (Nat.add lo c) && Nat.blt (Nat.add hi c) 10737418240) with
    | false => exact ty_full_ok n
    | true =>
      have h1 := Bool.and_eq_true_iff.mp hc
      have h2 : 6442450944 ≤ lo + c := ix_ble.mp h1.1
      have h3 : hi + c < 10737418240 := ix_blt.mp h1.2
      have e : ty_kp n = σ x + c - 4294967296 := by
        rw [ty_kp_eq, hn]
        omega
      show lo + c - 4294967296 ≤ _ ∧ _ ≤ hi + c - 4294967296
      omega
/-- a symbol of one value is that value -/
noncomputable def ty_nz (A : ty_A) (v : ix_V) : ix_V := match v with
  | .inr (.inr (.inr (x, c))) => (match ty_rng A (.inr (.inr (.inr (x, c)))) with
    | (lo, hi) => cond (Nat.beq lo hi) (.inl lo) (.inr (.inr (.inr (x, c)))))
  | w => w
theorem ty_nz_ok {σ : Nat → Nat} {A : ty_A} {v : ix_V} {n : Nat} (hA : ty_bx σ A) (h : ty_iv A.1 σ v n) : ty_iv A.1 σ (ty_nz A v) n := by
  match v, h with
  | .inl b, h => exact h
  | .inr (.inl _), h => exact h
  | .inr (.inr (.inl _)), h => exact h
  | .inr (.inr (.inr (x, c))), h =>
    have hr := ty_rng_ok hA h
    show ty_iv A.1 σ (match ty_rng A (.inr (.inr (.inr (x, c)))) with | (lo, hi) => cond (Nat.beq lo hi) (.inl lo) (.inr (.inr (.inr (x, c))))) n
    revert hr
    generalize ty_rng A (.inr (.inr (.inr (x, c)))) = q
    obtain ⟨lo, hi⟩ := q
    intro hr
    dsimp only at hr ⊢
    cases hc : Nat.beq lo hi with
    | false => exact h
    | true =>
      have := ix_beq.mp hc
      exact ⟨h.1, by show lo = _; omega⟩
/-- a new symbol between two numbers -/
noncomputable def ty_fr (lo hi : Nat) (A : ty_A) : Option (ix_V × ty_A) := cond (Nat.beq lo hi) (some (.inl lo, A)) (cond (Nat.blt A.1 256 && (Nat.ble 2147483648 lo && Nat.blt hi 6442450944)) (some (.inr (.inr (.inr (A.1, 4294967296))), (Nat.succ A.1, ix_u 8 A.2 A.1 (lo, hi)))) none)
def ty_new (σ : Nat → Nat) (k b : Nat) : Nat → Nat := fun x => if x = k then b else σ x
theorem ty_new_ag (σ : Nat → Nat) (k b : Nat) (hk : k < 1000) : ty_ag k σ (ty_new σ k b) := fun x hx => if_neg (by omega)
theorem ty_bx_push {σ : Nat → Nat} {A : ty_A} {lo hi b : Nat} (hA : ty_bx σ A) (hk : A.1 < 256) (h1 : 2147483648 ≤ lo) (h2 : lo ≤ b) (h3 : b ≤ hi) (h4 : hi < 6442450944) : ty_bx (ty_new σ A.1 b) (Nat.succ A.1, ix_u 8 A.2 A.1 (lo, hi)) := by
  refine ⟨hk, fun x hx => ?_⟩
  have hx2 : x < A.1 + 1 := hx
  show 2147483648 ≤ (ix_g (ix_u 8 A.2 A.1 (lo, hi)) x).1 ∧ (ix_g (ix_u 8 A.2 A.1 (lo, hi)) x).1 ≤ ty_new σ A.1 b x ∧ ty_new σ A.1 b x ≤ (ix_g (ix_u 8 A.2 A.1 (lo, hi)) x).2 ∧ (ix_g (ix_u 8 A.2 A.1 (lo, hi)) x).2 < 6442450944
  rw [ix_gu 8 A.2 A.1 x (lo, hi) (by show A.1 < 256; omega) (by show x < 256; omega)]
  unfold ty_new
  by_cases e : x = A.1
  · rw [if_pos e, if_pos e]; exact ⟨h1, h2, h3, h4⟩
  · rw [if_neg e, if_neg e]; exact hA.2 x (by omega)
theorem ty_fr_ok {σ : Nat → Nat} {A A' : ty_A} {lo hi n : Nat} {v : ix_V} (hA : ty_bx σ A) (h : ty_fr lo hi A = some (v, A')) (hn : n < 4294967296) (h1 : lo ≤ ty_kp n) (h2 : ty_kp n ≤ hi) : ∃ σ', ty_ag A.1 σ σ' ∧ A.1 ≤ A'.1 ∧ ty_bx σ' A' ∧ ty_iv A'.1 σ' v n := by
  unfold ty_fr at h
  cases hc : Nat.beq lo hi with
  | true =>
    rw [hc] at h
    cases h
    have := ix_beq.mp hc
    exact ⟨σ, ty_ag.rf, Nat.le_refl _, hA, hn, by show lo = _; omega⟩
  | false =>
    rw [hc] at h
    dsimp only [cond_false] at h
    cases hd : (Nat.blt A.1 256 && (Nat.ble 2147483648 lo && Nat.blt hi 6442450944)) with
    | false => rw [hd] at h; cases h
    | true =>
      rw [hd] at h
      cases h
      have c1 := Bool.and_eq_true_iff.mp hd
      have c2 := Bool.and_eq_true_iff.mp c1.2
      refine ⟨ty_new σ A.1 (ty_kp n), ty_new_ag _ _ _ (by have := ix_blt.mp c1.1; omega), Nat.le_succ _, ty_bx_push hA (ix_blt.mp c1.1) (ix_ble.mp c2.1) h1 h2 (ix_blt.mp c2.2), hn, ?_⟩
      refine ⟨Nat.lt_succ_self _, ?_⟩
      show n = (ty_new σ A.1 (ty_kp n) A.1 + 4294967296) % 4294967296
      unfold ty_new
      rw [if_pos rfl, Nat.add_mod_right, ty_kp_mod hn]
/-- what an operation's answer must be -/
def ty_op1 (f : Nat → Nat) (o : ty_A → ix_V → Option (ix_V × ty_A)) : Prop := ∀ σ A A' a m v, ty_bx σ A → ty_iv A.1 σ a m → o A a = some (v, A') → ∃ σ', ty_ag A.1 σ σ' ∧ A.1 ≤ A'.1 ∧ ty_bx σ' A' ∧ ty_iv A'.1 σ' v (f m)
def ty_op2 (f : Nat → Nat → Nat) (o : ty_A → ix_V → ix_V → Option (ix_V × ty_A)) : Prop := ∀ σ A A' a b m n v, ty_bx σ A → ty_iv A.1 σ a m → ty_iv A.1 σ b n → o A a b = some (v, A') → ∃ σ', ty_ag A.1 σ σ' ∧ A.1 ≤ A'.1 ∧ ty_bx σ' A' ∧ ty_iv A'.1 σ' v (f m n)
theorem ty_keep {σ : Nat → Nat} {A : ty_A} {v : ix_V} {n : Nat} (hA : ty_bx σ A) (h : ty_iv A.1 σ v n) : ∃ σ', ty_ag A.1 σ σ' ∧ A.1 ≤ A.1 ∧ ty_bx σ' A ∧ ty_iv A.1 σ' v n := ⟨σ, ty_ag.rf, Nat.le_refl _, hA, h⟩
theorem ty_any_ok {σ : Nat → Nat} {A A' : ty_A} {n : Nat} {v : ix_V} (hA : ty_bx σ A) (h : ty_fr 2147483648 6442450943 A = some (v, A')) (hn : n < 4294967296) : ∃ σ', ty_ag A.1 σ σ' ∧ A.1 ≤ A'.1 ∧ ty_bx σ' A' ∧ ty_iv A'.1 σ' v n := ty_fr_ok hA h hn (ty_kp_lo _) (by have := ty_kp_hi n; omega)
theorem ty_lit {σ : Nat → Nat} {k p m : Nat} (h : ty_iv k σ (.inl p) m) : p % 4294967296 = m := by
  have e : p = ty_kp m := h.2
  rw [e]; exact ty_kp_mod h.1
/-- both are known, or what a bound says of both ranges -/
noncomputable def ty_bin (f : Nat → Nat → Nat) (g : Nat → Nat → Nat → Nat → Option (Nat × Nat)) (A : ty_A) (a b : ix_V) : Option (ix_V × ty_A) := match a, b with
  | .inl p, .inl q => some (.inl (ty_kp (f (Nat.mod p 4294967296) (Nat.mod q 4294967296))), A)
  | x, y => (match ty_rng A x, ty_rng A y with
    | (l1, h1), (l2, h2) => (match g l1 h1 l2 h2 with
      | some (lo, hi) => ty_fr lo hi A
      | none => ty_fr 2147483648 6442450943 A))
/-- a bound is right -/
def ty_gd (f : Nat → Nat → Nat) (g : Nat → Nat → Nat → Nat → Option (Nat × Nat)) : Prop := ∀ l1 h1 l2 h2 lo hi, g l1 h1 l2 h2 = some (lo, hi) → ∀ m n, m < 4294967296 → n < 4294967296 → l1 ≤ ty_kp m → ty_kp m ≤ h1 → l2 ≤ ty_kp n → ty_kp n ≤ h2 → lo ≤ ty_kp (f m n) ∧ ty_kp (f m n) ≤ hi
theorem ty_bin_rng {σ : Nat → Nat} {f : Nat → Nat → Nat} {g : Nat → Nat → Nat → Nat → Option (Nat × Nat)} (hf : ∀ m n, m < 4294967296 → n < 4294967296 → f m n < 4294967296) (hg : ty_gd f g) {A A' : ty_A} {a b v : ix_V} {m n : Nat} (hA : ty_bx σ A) (ha : ty_iv A.1 σ a m) (hb : ty_iv A.1 σ b n) (h : (match ty_rng A a, ty_rng A b with
    | (l1, h1), (l2, h2) => (match g l1 h1 l2 h2 with
      | some (lo, hi) => ty_fr lo hi A
      | none => ty_fr 2147483648 6442450943 A)) = some (v, A')) : ∃ σ', ty_ag A.1 σ σ' ∧ A.1 ≤ A'.1 ∧ ty_bx σ' A' ∧ ty_iv A'.1 σ' v (f m n) := by
  have r1 := ty_rng_ok hA ha
  have r2 := ty_rng_ok hA hb
  revert r1 r2 h
  generalize ty_rng A a = q1
  generalize ty_rng A b = q2
  obtain ⟨l1, h1⟩ := q1
  obtain ⟨l2, h2⟩ := q2
  intro h r1 r2
  dsimp only at r1 r2 h
  cases hc : g l1 h1 l2 h2 with
  | none => rw [hc] at h; exact ty_any_ok hA h (hf m n ha.1 hb.1)
  | some q =>
    obtain ⟨lo, hi⟩ := q
    rw [hc] at h
    have := hg l1 h1 l2 h2 lo hi hc m n ha.1 hb.1 r1.1 r1.2 r2.1 r2.2
    exact ty_fr_ok hA h (hf m n ha.1 hb.1) this.1 this.2
theorem ty_bin_ok {f : Nat → Nat → Nat} {g : Nat → Nat → Nat → Nat → Option (Nat × Nat)} (hf : ∀ m n, m < 4294967296 → n < 4294967296 → f m n < 4294967296) (hg : ty_gd f g) : ty_op2 f (ty_bin f g) := by
  intro σ A A' a b m n v hA ha hb h
  match a, b, ha, hb, h with
  | .inl p, .inl q, ha, hb, h =>
    cases h
    have hp := ty_lit ha
    have hq := ty_lit hb
    refine ty_keep hA ⟨hf m n ha.1 hb.1, ?_⟩
    show ty_kp (f (p % 4294967296) (q % 4294967296)) = _
    rw [hp, hq]
  | .inl p, .inr y, ha, hb, h => exact ty_bin_rng hf hg hA ha hb h
  | .inr x, .inl q, ha, hb, h => exact ty_bin_rng hf hg hA ha hb h
  | .inr x, .inr y, ha, hb, h => exact ty_bin_rng hf hg hA ha hb h
theorem ty_two {a b lo hi : Nat} (h : some (a, b) = some (lo, hi)) : lo = a ∧ hi = b := by
  have h2 := Option.some.inj h
  exact ⟨(congrArg Prod.fst h2).symm, (congrArg Prod.snd h2).symm⟩
/-- a sum -/
noncomputable def ty_gadd (l1 h1 l2 h2 : Nat) : Option (Nat × Nat) := cond (Nat.ble 6442450944 (Nat.add l1 l2) && Nat.blt (Nat.add h1 h2) 10737418240) (some (Nat.sub (Nat.add l1 l2) 4294967296, Nat.sub (Nat.add h1 h2) 4294967296)) none
theorem ty_gadd_ok : ty_gd ix_add ty_gadd := by
  intro l1 h1 l2 h2 lo hi h m n hm hn a1 a2 b1 b2
  unfold ty_gadd at h
  cases hc : (Nat.ble 6442450944 (Nat.add l1 l2) && Nat.blt (Nat.add h1 h2) 10737418240) with
  | false => rw [hc] at h; cases h
  | true =>
    rw [hc] at h
    obtain ⟨elo, ehi⟩ := ty_two h
    rw [elo, ehi]
    have c1 := Bool.and_eq_true_iff.mp hc
    have g1 : 6442450944 ≤ l1 + l2 := ix_ble.mp c1.1
    have g2 : h1 + h2 < 10737418240 := ix_blt.mp c1.2
    have e : ty_kp (ix_add m n) = ty_kp m + ty_kp n - 4294967296 := by
      have k1 := ty_kp_eq m
      have k2 := ty_kp_eq n
      have k3 : ty_kp (ix_add m n) = ((m + n) % 4294967296 + 2147483648) % 4294967296 + 2147483648 := rfl
      omega
    rw [e]
    exact ⟨by show l1 + l2 - 4294967296 ≤ _; omega, by show _ ≤ h1 + h2 - 4294967296; omega⟩
noncomputable def ty_add (A : ty_A) (a b : ix_V) : Option (ix_V × ty_A) := match a, b with
  | .inr (.inr (.inr (x, c))), .inl q => cond (Nat.ble 4294967296 (Nat.add c q)) (some (.inr (.inr (.inr (x, Nat.sub (Nat.add c q) 4294967296))), A)) none
  | .inl q, .inr (.inr (.inr (x, c))) => cond (Nat.ble 4294967296 (Nat.add c q)) (some (.inr (.inr (.inr (x, Nat.sub (Nat.add c q) 4294967296))), A)) none
  | y, z => ty_bin ix_add ty_gadd A y z
theorem ty_add_lit {σ : Nat → Nat} {k x c q m n : Nat} (h : Nat.ble 4294967296 (Nat.add c q) = true) (ha : ty_iv k σ (.inr (.inr (.inr (x, c)))) m) (hb : ty_iv k σ (.inl q) n) : ty_iv k σ (.inr (.inr (.inr (x, Nat.sub (Nat.add c q) 4294967296)))) (ix_add m n) := by
  have h1 : 4294967296 ≤ c + q := ix_ble.mp h
  have hq : q = ty_kp n := hb.2
  have hm := ha.2.2
  have hn := hb.1
  refine ⟨ix_add_lt _ _, ha.2.1, ?_⟩
  show (m + n) % 4294967296 = (σ x + (c + q - 4294967296)) % 4294967296
  rw [ty_kp_eq] at hq
  omega
theorem ty_add_ok : ty_op2 ix_add ty_add := by
  intro σ A A' a b m n v hA ha hb h
  have hgen := ty_bin_ok (f := ix_add) (g := ty_gadd) (fun m n _ _ => ix_add_lt m n) ty_gadd_ok
  rcases a with p | a | a | ⟨x, c⟩
  · rcases b with q | b | b | ⟨y, d⟩
    · exact hgen σ A A' _ _ m n v hA ha hb h
    · exact hb.2.elim
    · exact hb.2.elim
    · change cond (Nat.ble 4294967296 (Nat.add d p)) (some (.inr (.inr (.inr (y, Nat.sub (Nat.add d p) 4294967296))), A)) none = some (v, A') at h
      cases hc : Nat.ble 4294967296 (Nat.add d p) with
      | false => rw [hc] at h; cases h
      | true =>
        rw [hc] at h
        have h2 := Option.some.inj h
        have e1 := congrArg Prod.fst h2
        have e2 := congrArg Prod.snd h2
        dsimp only at e1 e2
        rw [← e1, ← e2]
        have := ty_add_lit hc hb ha
        rw [show ix_add n m = ix_add m n by show (n + m) % 4294967296 = (m + n) % 4294967296; rw [Nat.add_comm]] at this
        exact ty_keep hA this
  · exact ha.2.elim
  · exact ha.2.elim
  · rcases b with q | b | b | ⟨y, d⟩
    · change cond (Nat.ble 4294967296 (Nat.add c q)) (some (.inr (.inr (.inr (x, Nat.sub (Nat.add c q) 4294967296))), A)) none = some (v, A') at h
      cases hc : Nat.ble 4294967296 (Nat.add c q) with
      | false => rw [hc] at h; cases h
      | true =>
        rw [hc] at h
        have h2 := Option.some.inj h
        have e1 := congrArg Prod.fst h2
        have e2 := congrArg Prod.snd h2
        dsimp only at e1 e2
        rw [← e1, ← e2]
        exact ty_keep hA (ty_add_lit hc ha hb)
    · exact hb.2.elim
    · exact hb.2.elim
    · exact hgen σ A A' _ _ m n v hA ha hb h
