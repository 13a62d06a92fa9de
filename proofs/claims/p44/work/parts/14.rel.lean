/-! trees of cells, and what the machine of our own says of Java's -/
theorem ix_g_leaf {α : Type} (a : α) (n : Nat) : ix_g (.leaf a) n = a := rfl
theorem ix_g_branch {α : Type} (p : Nat) (l r : Lean.RArray α) (n : Nat) : ix_g (.branch p l r) n = if n % 2 = 0 then ix_g l (n / 2) else ix_g r (n / 2) := by
  show cond (Nat.beq (n % 2) 0) (ix_g l (n / 2)) (ix_g r (n / 2)) = _
  by_cases h : n % 2 = 0
  · rw [if_pos h, h]; rfl
  · rw [if_neg h]
    have : Nat.beq (n % 2) 0 = false := by
      cases hb : Nat.beq (n % 2) 0
      · rfl
      · exact absurd (Nat.eq_of_beq_eq_true hb) h
    rw [this]; rfl
theorem ix_u_succ_leaf {α : Type} (f : Nat) (a : α) (n : Nat) (v : α) : ix_u (f + 1) (.leaf a) n v = if n % 2 = 0 then .branch 0 (ix_u f (.leaf a) (n / 2) v) (.leaf a) else .branch 0 (.leaf a) (ix_u f (.leaf a) (n / 2) v) := by
  show cond (Nat.beq (n % 2) 0) _ _ = _
  by_cases h : n % 2 = 0
  · rw [if_pos h, h]; rfl
  · rw [if_neg h]
    have : Nat.beq (n % 2) 0 = false := by
      cases hb : Nat.beq (n % 2) 0
      · rfl
      · exact absurd (Nat.eq_of_beq_eq_true hb) h
    rw [this]; rfl
theorem ix_u_succ_branch {α : Type} (f p : Nat) (l r : Lean.RArray α) (n : Nat) (v : α) : ix_u (f + 1) (.branch p l r) n v = if n % 2 = 0 then .branch 0 (ix_u f l (n / 2) v) r else .branch 0 l (ix_u f r (n / 2) v) := by
  show cond (Nat.beq (n % 2) 0) _ _ = _
  by_cases h : n % 2 = 0
  · rw [if_pos h, h]; rfl
  · rw [if_neg h]
    have : Nat.beq (n % 2) 0 = false := by
      cases hb : Nat.beq (n % 2) 0
      · rfl
      · exact absurd (Nat.eq_of_beq_eq_true hb) h
    rw [this]; rfl
/-- what was put is found, and all else as it was -/
theorem ix_gu {α : Type} : ∀ (f : Nat) (t : Lean.RArray α) (n m : Nat) (v : α), n < 2 ^ f → m < 2 ^ f → ix_g (ix_u f t n v) m = if m = n then v else ix_g t m
  | 0, t, n, m, v, hn, hm => by
    have h1 : n = 0 := by simpa using hn
    have h2 : m = 0 := by simpa using hm
    subst h1; subst h2
    rfl
  | f + 1, .leaf a, n, m, v, hn, hm => by
    rw [ix_u_succ_leaf]
    have e : 2 ^ (f + 1) = 2 * 2 ^ f := by rw [Nat.pow_succ]; omega
    by_cases h : n % 2 = 0
    · rw [if_pos h, ix_g_branch]
      by_cases h2 : m % 2 = 0
      · rw [if_pos h2, ix_gu f _ _ _ _ (by omega) (by omega)]
        by_cases h3 : m = n
        · rw [if_pos h3, if_pos (by omega)]
        · rw [if_neg h3, if_neg (by omega)]; rfl
      · rw [if_neg h2, if_neg (by omega)]; rfl
    · rw [if_neg h, ix_g_branch]
      by_cases h2 : m % 2 = 0
      · rw [if_pos h2, if_neg (by omega)]; rfl
      · rw [if_neg h2, ix_gu f _ _ _ _ (by omega) (by omega)]
        by_cases h3 : m = n
        · rw [if_pos h3, if_pos (by omega)]
        · rw [if_neg h3, if_neg (by omega)]; rfl
  | f + 1, .branch p l r, n, m, v, hn, hm => by
    rw [ix_u_succ_branch]
    have e : 2 ^ (f + 1) = 2 * 2 ^ f := by rw [Nat.pow_succ]; omega
    by_cases h : n % 2 = 0
    · rw [if_pos h, ix_g_branch, ix_g_branch]
      by_cases h2 : m % 2 = 0
      · rw [if_pos h2, if_pos h2, ix_gu f _ _ _ _ (by omega) (by omega)]
        by_cases h3 : m = n
        · rw [if_pos h3, if_pos (by omega)]
        · rw [if_neg h3, if_neg (by omega)]
      · rw [if_neg h2, if_neg h2, if_neg (by omega)]
    · rw [if_neg h, ix_g_branch, ix_g_branch]
      by_cases h2 : m % 2 = 0
      · rw [if_pos h2, if_pos h2, if_neg (by omega)]
      · rw [if_neg h2, if_neg h2, ix_gu f _ _ _ _ (by omega) (by omega)]
        by_cases h3 : m = n
        · rw [if_pos h3, if_pos (by omega)]
        · rw [if_neg h3, if_neg (by omega)]
/-- the symbols' values; the cells of which nothing is said, by their numbers -/
abbrev ix_Sg : Type := (Nat → Int32) × (Nat → va_E)
/-- a value of ours and one of Java's, by the symbols' values and the cells' addresses -/
def ix_rv (σ : ix_Sg) (ad : Nat → Option Nat) (x : ix_V) (v : Value) : Prop := match x with
  | .inl n => n < 4294967296 ∧ v = .int (Int32.ofNat n)
  | .inr (.inl n) => n < 18446744073709551616 ∧ v = .long (Int64.ofNat n)
  | .inr (.inr (.inl r)) => (r = 0 ∧ v = .null) ∨ ∃ i a, r = i + 1 ∧ ad i = some a ∧ v = .ref a
  | .inr (.inr (.inr (x, c))) => c < 4294967296 ∧ ∃ z, v = .int z ∧ (x = 0 ∨ z = σ.1 x + Int32.ofNat c)
def ix_rs (σ : ix_Sg) (ad : Nat → Option Nat) : List ix_V → List Value → Prop
  | [], [] => True
  | x :: xs, v :: vs => ix_rv σ ad x v ∧ ix_rs σ ad xs vs
  | _, _ => False
def ix_ext (ad ad' : Nat → Option Nat) : Prop := ∀ i a, ad i = some a → ad' i = some a
theorem ix_ext.rf {ad : Nat → Option Nat} : ix_ext ad ad := fun _ _ h => h
theorem ix_ext.tr {a b c : Nat → Option Nat} (h1 : ix_ext a b) (h2 : ix_ext b c) : ix_ext a c := fun i x h => h2 i x (h1 i x h)
theorem ix_rv.ext {σ : ix_Sg} {ad ad' : Nat → Option Nat} {x : ix_V} {v : Value} (h : ix_ext ad ad') (hv : ix_rv σ ad x v) : ix_rv σ ad' x v := by
  match x, hv with
  | .inl _, hv => exact hv
  | .inr (.inl _), hv => exact hv
  | .inr (.inr (.inl _)), hv =>
    rcases hv with hv | ⟨i, a, h1, h2, h3⟩
    · exact Or.inl hv
    · exact Or.inr ⟨i, a, h1, h i a h2, h3⟩
  | .inr (.inr (.inr _)), hv => exact hv
theorem ix_rs.ext {σ : ix_Sg} {ad ad' : Nat → Option Nat} (h : ix_ext ad ad') : ∀ {xs : List ix_V} {vs : List Value}, ix_rs σ ad xs vs → ix_rs σ ad' xs vs
  | [], [], _ => trivial
  | _ :: _, _ :: _, hv => ⟨hv.1.ext h, hv.2.ext h⟩
  | [], _ :: _, hv => hv.elim
  | _ :: _, [], hv => hv.elim
/-- the symbols' values lie in the box -/
def ix_ib (σ : ix_Sg) (B : ix_B) : Prop := ∀ x lo hi, B[x]? = some (lo, hi) → lo ≤ ix_bz (σ.1 x) ∧ ix_bz (σ.1 x) ≤ hi
/-- a cell of ours and one of the world's -/
def ix_rc0 (σ : ix_Sg) (ad : Nat → Option Nat) (dT : Nat → ClassId) (c : ix_C) (e : va_E) : Prop := match e with
  | .inr (ci, fs) => c.1 = ci + 100 ∧ fs.length = c.2.1 ∧ c.2.1 ≤ 64 ∧ ∀ k, k < c.2.1 → ∃ v, fs[k]? = some v ∧ ix_rv σ ad (ix_g c.2.2 k) v
  | .inl (cA, n, .inl f) => cA = dT c.1 ∧ c.1 < 3 ∧ n = c.2.1 ∧ n ≤ 16384 ∧ ∀ j, j < n → ix_rv σ ad (ix_g c.2.2 j) (.int (f j))
  | .inl (cA, n, .inr (.inl f)) => cA = dT c.1 ∧ c.1 = 3 ∧ n = c.2.1 ∧ n ≤ 16384 ∧ ∀ j, j < n → ix_rv σ ad (ix_g c.2.2 j) (.long (f j))
  | .inl (cA, n, .inr (.inr (.inr (.inr f)))) => cA = dT c.1 ∧ 4 ≤ c.1 ∧ c.1 < 6 ∧ n = c.2.1 ∧ n ≤ 16384 ∧ ∀ j, j < n → ix_rv σ ad (ix_g c.2.2 j) (va_rf (f j))
  | _ => False
def ix_rc (σ : ix_Sg) (ad : Nat → Option Nat) (dT : Nat → ClassId) (c : ix_C) (e : va_E) : Prop := (c.1 = 98 ∧ e = σ.2 c.2.1) ∨ (c.1 ≠ 98 ∧ ix_rc0 σ ad dT c e)
theorem ix_rc.ext {σ : ix_Sg} {ad ad' : Nat → Option Nat} {dT : Nat → ClassId} {c : ix_C} {e : va_E} (h : ix_ext ad ad') (hc : ix_rc σ ad dT c e) : ix_rc σ ad' dT c e := by
  rcases hc with hc | ⟨h98, hc⟩
  · exact Or.inl hc
  refine Or.inr ⟨h98, ?_⟩
  match e, hc with
  | .inr (ci, fs), hc => exact ⟨hc.1, hc.2.1, hc.2.2.1, fun k hk => by obtain ⟨v, h1, h2⟩ := hc.2.2.2 k hk; exact ⟨v, h1, h2.ext h⟩⟩
  | .inl (cA, n, .inl f), hc => exact ⟨hc.1, hc.2.1, hc.2.2.1, hc.2.2.2.1, fun j hj => (hc.2.2.2.2 j hj).ext h⟩
  | .inl (cA, n, .inr (.inl f)), hc => exact ⟨hc.1, hc.2.1, hc.2.2.1, hc.2.2.2.1, fun j hj => (hc.2.2.2.2 j hj).ext h⟩
  | .inl (cA, n, .inr (.inr (.inr (.inr f)))), hc => exact ⟨hc.1, hc.2.1, hc.2.2.1, hc.2.2.2.1, hc.2.2.2.2.1, fun j hj => (hc.2.2.2.2.2 j hj).ext h⟩
  | .inl (_, _, .inr (.inr (.inl _))), hc => exact hc.elim
  | .inl (_, _, .inr (.inr (.inr (.inl _)))), hc => exact hc.elim
/-- our cells and Java's heap -/
def ix_rw (cl : List vw_C) (σ : ix_Sg) (D : va_G) (dT : Nat → ClassId) (A : Nat → Prop) (ad : Nat → Option Nat) (n : Nat) (t : ix_T) (ws : va_W) (H : Heap) : Prop :=
  ws.length = n ∧ n ≤ 16384 ∧ (∀ i, n ≤ i → i < 1000000 → ad i = none) ∧ (∀ i, i < n → ∃ a e, ws[i]? = some (a, e) ∧ ad i = some a ∧ ix_rc σ ad dT (ix_g t i) e) ∧ va_P D cl ws H ∧ va_D A ws
/-- our locals and Java's -/
def ix_rl (σ : ix_Sg) (ad : Nat → Option Nat) (L : ix_L) (nL : Nat) (ls : Array Slot) : Prop :=
  L.length = nL ∧ ∃ lv, lv_has ls nL lv ∧ ∀ i x, L[i]? = some (some x) → ∃ v, (i, v) ∈ lv ∧ ix_rv σ ad x v
theorem ix_rl.ext {σ : ix_Sg} {ad ad' : Nat → Option Nat} {L : ix_L} {nL : Nat} {ls : Array Slot} (h : ix_ext ad ad') (hl : ix_rl σ ad L nL ls) : ix_rl σ ad' L nL ls := by
  obtain ⟨h1, lv, h2, h3⟩ := hl
  exact ⟨h1, lv, h2, fun i x hx => by obtain ⟨v, q1, q2⟩ := h3 i x hx; exact ⟨v, q1, q2.ext h⟩⟩
theorem ix_rv.cat {σ : ix_Sg} {ad : Nat → Option Nat} {x : ix_V} {v : Value} (h : ix_rv σ ad x v) : (ix_cat2 x = true ∧ v.category = 2) ∨ (ix_cat2 x = false ∧ v.category = 1) := by
  match x, h with
  | .inl _, h => exact Or.inr ⟨rfl, by rw [h.2]; rfl⟩
  | .inr (.inl _), h => exact Or.inl ⟨rfl, by rw [h.2]; rfl⟩
  | .inr (.inr (.inl _)), h =>
    rcases h with ⟨_, h⟩ | ⟨_, _, _, _, h⟩
    · exact Or.inr ⟨rfl, by rw [h]; rfl⟩
    · exact Or.inr ⟨rfl, by rw [h]; rfl⟩
  | .inr (.inr (.inr _)), h =>
    obtain ⟨_, z, h, _⟩ := h
    exact Or.inr ⟨rfl, by rw [h]; rfl⟩
theorem ix_rl.get {σ : ix_Sg} {ad : Nat → Option Nat} {L : ix_L} {nL : Nat} {ls : Array Slot} (hl : ix_rl σ ad L nL ls) {i : Nat} {x : ix_V} (hx : L[i]? = some (some x)) : ∃ v, ls[i]? = some (.val v) ∧ ix_rv σ ad x v := by
  obtain ⟨-, lv, h2, h3⟩ := hl
  obtain ⟨v, q1, q2⟩ := h3 i x hx
  exact ⟨v, h2.2.2 (i, v) q1, q2⟩
theorem ix_clr_len (L : ix_L) (i : Nat) : (ix_clr L i).length = L.length := by
  unfold ix_clr
  cases i with
  | zero => rfl
  | succ j =>
    dsimp only
    split
    · cases ix_cat2 _ <;> simp
    · rfl
theorem ix_clr_get {L : ix_L} {i j : Nat} {x : ix_V} (h : (ix_clr L i)[j]? = some (some x)) : L[j]? = some (some x) ∧ (j + 1 = i → ix_cat2 x = false) := by
  unfold ix_clr at h
  cases i with
  | zero => exact ⟨h, fun q => by omega⟩
  | succ k =>
    dsimp only at h
    split at h
    · rename_i v hv
      cases hc : ix_cat2 v with
      | true =>
        rw [hc] at h
        simp only [cond_true] at h
        by_cases e : k = j
        · subst e
          rw [List.getElem?_set] at h
          simp at h
        · rw [List.getElem?_set_ne e] at h
          exact ⟨h, fun q => by omega⟩
      | false =>
        rw [hc] at h
        simp only [cond_false] at h
        refine ⟨h, fun q => ?_⟩
        have : k = j := by omega
        subst this
        rw [hv] at h
        cases h
        exact hc
    · rename_i hn
      refine ⟨h, fun q => ?_⟩
      have : k = j := by omega
      subst this
      exact absurd h (hn x)
/-- a local is set: what the kit's rows give of it -/
theorem ix_rl.set1 {σ : ix_Sg} {ad : Nat → Option Nat} {L : ix_L} {nL : Nat} {lv : List (Nat × Value)} {ls' : Array Slot} (hL : L.length = nL) (h3 : ∀ i x, L[i]? = some (some x) → ∃ v, (i, v) ∈ lv ∧ ix_rv σ ad x v) {i : Nat} {x : ix_V} {v : Value} (hv : ix_rv σ ad x v)
    (h : lv_has ls' nL ((i, v) :: lv.filter (fun q => !(q.1 == i) && !(q.1 + 1 == i && q.2.category == 2)))) : ix_rl σ ad ((ix_clr L i).set i (some x)) nL ls' := by
  refine ⟨by rw [List.length_set, ix_clr_len]; exact hL, _, h, fun j y hy => ?_⟩
  by_cases e : i = j
  · subst e
    rw [List.getElem?_set] at hy
    simp only [if_true] at hy
    split at hy
    · cases hy
      exact ⟨v, List.mem_cons_self, hv⟩
    · cases hy
  · rw [List.getElem?_set_ne e] at hy
    obtain ⟨h1, h2⟩ := ix_clr_get hy
    obtain ⟨w, q1, q2⟩ := h3 j y h1
    refine ⟨w, List.mem_cons_of_mem _ (List.mem_filter.mpr ⟨q1, ?_⟩), q2⟩
    have a1 : (j == i) = false := by simp; omega
    simp only [a1, Bool.not_false, Bool.true_and]
    by_cases e2 : j + 1 = i
    · have := h2 e2
      rcases q2.cat with ⟨c1, _⟩ | ⟨_, c2⟩
      · rw [this] at c1; cases c1
      · simp [c2]
    · simp [e2]
