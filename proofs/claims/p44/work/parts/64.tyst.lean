/-! a typed machine: its states, and what they say of plain ones -/
abbrev ty_X : Type := List ((Nat × ix_V) × ix_V)
abbrev ty_Q : Type := List (Nat × (Nat × Nat))
/-- ints' boxes, longs' boxes, references' types, what lies below what, known slots -/
abbrev ty_W : Type := ty_A × (ty_A × ((Nat × Lean.RArray Nat) × (ty_Q × ty_X)))
/-- that, locals, stack, cells made, slots made -/
abbrev ty_S : Type := ty_W × (ix_L × (List ix_V × (Nat × Nat)))
abbrev ty_R : Type := Option (List (Nat × ty_S))
/-- a type: kind, least and greatest length, fields, rules of places -/
abbrev ty_T : Type := Nat × (Nat × (Nat × (Lean.RArray (Nat × (Nat × Nat)) × List (Nat × (Nat × (Nat × (Nat × (Nat × Nat))))))))
/-- the ints' and the longs' values, the references' cells, the cells' types -/
abbrev ty_Sg : Type := (Nat → Nat) × ((Nat → Nat) × ((Nat → Nat) × (Nat → Nat)))
abbrev ty_K : Type := Nat × (Nat × Nat)
/-- longs are kept moved by 2^64 -/
def ty_bl (σ : Nat → Nat) (A : ty_A) : Prop := A.1 ≤ 256 ∧ ∀ x, x < A.1 → 9223372036854775808 ≤ (ix_g A.2 x).1 ∧ (ix_g A.2 x).1 ≤ σ x ∧ σ x ≤ (ix_g A.2 x).2 ∧ (ix_g A.2 x).2 < 27670116110564327424
/-- a long of ours: 0 any, m + 1 the number m, 2^64 + 1 + x a symbol -/
def ty_jv (k : Nat) (σ : Nat → Nat) (q m : Nat) : Prop := m < 18446744073709551616 ∧ (q = 0 ∨ q = m + 1 ∨ ∃ x, x < k ∧ q = 18446744073709551617 + x ∧ m = σ x % 18446744073709551616)
theorem ty_jv.ag {k k' : Nat} {σ σ' : Nat → Nat} {q m : Nat} (h : ty_jv k σ q m) (ha : ty_ag k σ σ') (hk : k ≤ k') : ty_jv k' σ' q m := by
  obtain ⟨h1, h2⟩ := h
  refine ⟨h1, ?_⟩
  rcases h2 with h2 | h2 | ⟨x, x1, x2, x3⟩
  · exact Or.inl h2
  · exact Or.inr (Or.inl h2)
  · exact Or.inr (Or.inr ⟨x, by omega, x2, by rw [ha x (Or.inl x1)]; exact x3⟩)
abbrev ty_C : Type := ix_L × (List ix_V × (Nat × (ix_T × (Nat × Nat))))
/-- a value of ours and a plain one; how many symbols and references there are -/
def ty_rv (k : ty_K) (σ : ty_Sg) (v w : ix_V) : Prop := match v with
  | .inl b => ∃ n, w = .inl n ∧ ty_iv k.1 σ.1 (.inl b) n
  | .inr (.inl q) => ∃ m, w = .inr (.inl m) ∧ ty_jv k.2.1 σ.2.1 q m
  | .inr (.inr (.inl r)) => (match r with
    | 0 => w = .inr (.inr (.inl 0))
    | p + 1 => (p < k.2.2 ∧ w = .inr (.inr (.inl (σ.2.2.1 p + 1)))) ∨ (1000000 ≤ p ∧ w = .inr (.inr (.inl (p + 1)))))
  | .inr (.inr (.inr q)) => ∃ n, w = .inl n ∧ ty_iv k.1 σ.1 (.inr (.inr (.inr q))) n
def ty_agr (k : ty_K) (σ σ' : ty_Sg) : Prop := ty_ag k.1 σ.1 σ'.1 ∧ ty_ag k.2.1 σ.2.1 σ'.2.1 ∧ ty_ag k.2.2 σ.2.2.1 σ'.2.2.1 ∧ ∀ i, σ.2.2.2 i < 240 → σ'.2.2.2 i = σ.2.2.2 i
def ty_kl (k k' : ty_K) : Prop := k.1 ≤ k'.1 ∧ k.2.1 ≤ k'.2.1 ∧ k.2.2 ≤ k'.2.2
theorem ty_kl.rf {k : ty_K} : ty_kl k k := ⟨Nat.le_refl _, Nat.le_refl _, Nat.le_refl _⟩
theorem ty_agr.rf {k : ty_K} {σ : ty_Sg} : ty_agr k σ σ := ⟨ty_ag.rf, ty_ag.rf, ty_ag.rf, fun _ _ => rfl⟩
theorem ty_agr.tr {k k' : ty_K} {a b c : ty_Sg} (h1 : ty_agr k a b) (h2 : ty_agr k' b c) (e : ty_kl k k') : ty_agr k a c := ⟨h1.1.tr h2.1 e.1, h1.2.1.tr h2.2.1 e.2.1, h1.2.2.1.tr h2.2.2.1 e.2.2, fun i hi => (h2.2.2.2 i (by rw [h1.2.2.2 i hi]; exact hi)).trans (h1.2.2.2 i hi)⟩
theorem ty_rv.ag {k k' : ty_K} {σ σ' : ty_Sg} {v w : ix_V} (h : ty_rv k σ v w) (ha : ty_agr k σ σ') (e : ty_kl k k') : ty_rv k' σ' v w := by
  rcases v with b | q | r | q
  · obtain ⟨n, h1, h2⟩ := h
    exact ⟨n, h1, h2.ag ha.1 e.1⟩
  · obtain ⟨m, h1, h2⟩ := h
    exact ⟨m, h1, h2.ag ha.2.1 e.2.1⟩
  · cases r with
    | zero => exact h
    | succ p =>
      rcases h with ⟨h1, h2⟩ | h
      · refine Or.inl ⟨Nat.lt_of_lt_of_le h1 e.2.2, ?_⟩
        rw [ha.2.2.1 p (Or.inl h1)]
        exact h2
      · exact Or.inr h
  · obtain ⟨n, h1, h2⟩ := h
    exact ⟨n, h1, h2.ag ha.1 e.1⟩
theorem ty_rv.int {k : ty_K} {σ : ty_Sg} {v : ix_V} {n : Nat} (h : ty_iv k.1 σ.1 v n) : ty_rv k σ v (.inl n) := by
  rcases v with b | q | r | q
  · exact ⟨n, rfl, h⟩
  · exact h.2.elim
  · exact h.2.elim
  · exact ⟨n, rfl, h⟩
noncomputable def ty_isI (v : ix_V) : Bool := match v with
  | .inl _ => true
  | .inr (.inr (.inr _)) => true
  | _ => false
theorem ty_rv.toint {k : ty_K} {σ : ty_Sg} {v w : ix_V} (h : ty_rv k σ v w) (hi : ty_isI v = true) : ∃ n, w = .inl n ∧ ty_iv k.1 σ.1 v n := by
  rcases v with b | q | r | q
  · exact h
  · cases hi
  · cases hi
  · exact h
def ty_vs (k : ty_K) (σ : ty_Sg) : List ix_V → List ix_V → Prop
  | [], [] => True
  | v :: vs, w :: ws => ty_rv k σ v w ∧ ty_vs k σ vs ws
  | _, _ => False
theorem ty_vs.ag {k k' : ty_K} {σ σ' : ty_Sg} (ha : ty_agr k σ σ') (e : ty_kl k k') : ∀ {vs ws : List ix_V}, ty_vs k σ vs ws → ty_vs k' σ' vs ws
  | [], [], _ => trivial
  | _ :: _, _ :: _, h => ⟨h.1.ag ha e, ty_vs.ag ha e h.2⟩
  | [], _ :: _, h => h.elim
  | _ :: _, [], h => h.elim
theorem ty_vs_1 {k : ty_K} {σ : ty_Sg} {v : ix_V} {vs ws : List ix_V} (h : ty_vs k σ (v :: vs) ws) : ∃ w ws', ws = w :: ws' ∧ ty_rv k σ v w ∧ ty_vs k σ vs ws' := by
  cases ws with
  | nil => exact h.elim
  | cons w ws' => exact ⟨w, ws', rfl, h.1, h.2⟩
theorem ty_vs_0 {k : ty_K} {σ : ty_Sg} {ws : List ix_V} (h : ty_vs k σ [] ws) : ws = [] := by
  cases ws with
  | nil => rfl
  | cons _ _ => exact h.elim
def ty_lv (k : ty_K) (σ : ty_Sg) (L ls : ix_L) : Prop := L.length = ls.length ∧ ∀ (i : Nat) (v : ix_V), L[i]? = some (some v) → ∃ w, ls[i]? = some (some w) ∧ ty_rv k σ v w
theorem ty_lv.ag {k k' : ty_K} {σ σ' : ty_Sg} {L ls : ix_L} (h : ty_lv k σ L ls) (ha : ty_agr k σ σ') (e : ty_kl k k') : ty_lv k' σ' L ls := ⟨h.1, fun i v hv => by
  obtain ⟨w, h1, h2⟩ := h.2 i v hv
  exact ⟨w, h1, h2.ag ha e⟩⟩
theorem ty_rv.cat {k : ty_K} {σ : ty_Sg} {v w : ix_V} (h : ty_rv k σ v w) : ix_cat2 v = ix_cat2 w := by
  rcases v with b | q | r | q
  · obtain ⟨n, rfl, _⟩ := h; rfl
  · obtain ⟨m, rfl, _⟩ := h; rfl
  · cases r with
    | zero => have e : w = .inr (.inr (.inl 0)) := h; rw [e]
    | succ p =>
      rcases h with h | h
      · rw [h.2]; rfl
      · rw [h.2]
  · obtain ⟨n, rfl, _⟩ := h; rfl
theorem ty_lv.set {k : ty_K} {σ : ty_Sg} {L ls : ix_L} (h : ty_lv k σ L ls) {i : Nat} {v w : ix_V} (hv : ty_rv k σ v w) : ty_lv k σ ((ix_clr L i).set i (some v)) ((ix_clr ls i).set i (some w)) := by
  refine ⟨by rw [List.length_set, List.length_set, ix_clr_len, ix_clr_len]; exact h.1, fun j x hx => ?_⟩
  by_cases e : i = j
  · subst e
    rw [List.getElem?_set] at hx ⊢
    simp only [if_true, ix_clr_len] at hx ⊢
    by_cases hl : i < L.length
    · rw [if_pos hl] at hx
      cases hx
      rw [if_pos (by rw [← h.1]; exact hl)]
      exact ⟨w, rfl, hv⟩
    · rw [if_neg hl] at hx; cases hx
  · rw [List.getElem?_set_ne e] at hx ⊢
    obtain ⟨h1, h2⟩ := ix_clr_get hx
    obtain ⟨y, y1, y2⟩ := h.2 j x h1
    refine ⟨y, ?_, y2⟩
    unfold ix_clr
    cases i with
    | zero => exact y1
    | succ q =>
      dsimp only
      split
      · rename_i u hu
        by_cases eq : q = j
        · subst eq
          rw [y1] at hu
          cases hu
          have := h2 rfl
          rw [y2.cat] at this
          rw [this]
          exact y1
        · cases ix_cat2 u
          · exact y1
          · show (ls.set q none)[j]? = _
            rw [List.getElem?_set_ne eq]; exact y1
      · exact y1
/-- a slot is as its type says: 0 an int between two numbers, 1 a long, 2 a reference, 3 a reference or none -/
def ty_sok (Γ : Nat → Nat) (n : Nat) (q : Nat × (Nat × Nat)) (v : ix_V) : Prop := match q.1 with
  | 0 => ∃ m, v = .inl m ∧ m < 4294967296 ∧ q.2.1 ≤ ty_kp m ∧ ty_kp m ≤ q.2.2
  | 1 => ∃ m, v = .inr (.inl m) ∧ m < 18446744073709551616
  | 2 => ∃ j, v = .inr (.inr (.inl (j + 1))) ∧ j < n ∧ Γ j = q.2.1
  | 3 => v = .inr (.inr (.inl 0)) ∨ ∃ j, v = .inr (.inr (.inl (j + 1))) ∧ j < n ∧ Γ j = q.2.1
  | _ => True
/-- a rule speaks of a place -/
def ty_hit (q : Nat × (Nat × (Nat × (Nat × (Nat × Nat))))) (k : Nat) : Prop := q.1 ≤ k ∧ k ≤ q.2.1 ∧ k % q.2.2.1 = q.2.2.2.1
/-- a cell is as its type says -/
def ty_cok (Γ : Nat → Nat) (n : Nat) (T : ty_T) (c : ix_C) : Prop := c.1 = T.1 ∧ T.2.1 ≤ c.2.1 ∧ c.2.1 ≤ T.2.2.1 ∧ ∀ k, k < c.2.1 →
  (100 ≤ T.1 → ty_sok Γ n (ix_g T.2.2.2.1 k) (ix_g c.2.2 k)) ∧
  (T.1 < 100 → ty_sok Γ n (ix_g T.2.2.2.1 0) (ix_g c.2.2 k)) ∧
  (T.1 < 3 → ∀ q ∈ T.2.2.2.2, ty_hit q k → ∀ m, ix_g c.2.2 k = .inl m → q.2.2.2.2.1 ≤ ty_kp m ∧ ty_kp m ≤ q.2.2.2.2.2)
/-- a known slot is so; the place is an int, or stands for the length -/
def ty_fok (k : ty_K) (σ : ty_Sg) (t : ix_T) (f : (Nat × ix_V) × ix_V) : Prop := f.1.1 < k.2.2 ∧ match f.1.2 with
  | .inl b => ∃ m, ty_iv k.1 σ.1 (.inl b) m ∧ m < (ix_g t (σ.2.2.1 f.1.1)).2.1 ∧ ty_rv k σ f.2 (ix_g (ix_g t (σ.2.2.1 f.1.1)).2.2 m)
  | .inr (.inr (.inr q)) => ∃ m, ty_iv k.1 σ.1 (.inr (.inr (.inr q))) m ∧ m < (ix_g t (σ.2.2.1 f.1.1)).2.1 ∧ ty_rv k σ f.2 (ix_g (ix_g t (σ.2.2.1 f.1.1)).2.2 m)
  | .inr (.inl q) => ∃ m, ty_iv k.1 σ.1 f.2 m ∧ ty_lab σ.2.1 q t m
  | _ => ty_iv k.1 σ.1 f.2 (ix_g t (σ.2.2.1 f.1.1)).2.1
theorem ty_lab.ag {k : Nat} {γ γ' : Nat → Nat} {q m : Nat} {t : ix_T} (hl : ty_lab γ q t m) (ha : ty_ag k γ γ') : ty_lab γ' q t m := by
  unfold ty_lab at hl ⊢
  rw [ha 1001 (Or.inr (by decide)), ha 1002 (Or.inr (by decide)), ha (2000 + m) (Or.inr (by omega))]
  exact hl
theorem ty_lab.ga {k : Nat} {γ γ' : Nat → Nat} {q m : Nat} {t : ix_T} (hl : ty_lab γ' q t m) (ha : ty_ag k γ γ') : ty_lab γ q t m := by
  unfold ty_lab at hl ⊢
  rw [ha 1001 (Or.inr (by decide)), ha 1002 (Or.inr (by decide)), ha (2000 + m) (Or.inr (by omega))] at hl
  exact hl
theorem ty_inv.ga {k : Nat} {γ γ' : Nat → Nat} {t : ix_T} (hl' : ty_inv γ' t) (ha : ty_ag k γ γ') : ty_inv γ t := by
  have hl := hl'.1
  refine ⟨⟨hl.1, fun g => ?_⟩, hl'.2.al (fun g => (ha 1001 (Or.inr (by decide))).trans g) (fun _ _ => rfl) (fun _ _ => rfl) rfl⟩
  rw [← ha 1001 (Or.inr (by decide))] at g
  obtain ⟨q1, q2, q3, q4⟩ := hl.2 g
  rw [ha 1002 (Or.inr (by decide))] at q1 q2 q4
  rw [ha (2000 + tx_n t 79 51) (Or.inr (by omega))] at q3
  exact ⟨q1, q2, q3, fun m => by rw [← ha (2000 + m) (Or.inr (by omega))]; exact q4 m⟩
theorem ty_inv.ag {k : Nat} {γ γ' : Nat → Nat} {t : ix_T} (hl' : ty_inv γ t) (ha : ty_ag k γ γ') : ty_inv γ' t := by
  have hl := hl'.1
  refine ⟨⟨hl.1, fun g => ?_⟩, hl'.2.al (fun g => (ha 1001 (Or.inr (by decide))).symm.trans g) (fun _ _ => rfl) (fun _ _ => rfl) rfl⟩
  rw [ha 1001 (Or.inr (by decide))] at g
  obtain ⟨q1, q2, q3, q4⟩ := hl.2 g
  rw [ha 1002 (Or.inr (by decide)), ha (2000 + tx_n t 79 51) (Or.inr (by omega))]
  exact ⟨q1, q2, q3, fun m => by rw [ha (2000 + m) (Or.inr (by omega))]; exact q4 m⟩
theorem ty_fok.ag {k k' : ty_K} {σ σ' : ty_Sg} {t : ix_T} {f : (Nat × ix_V) × ix_V} (h : ty_fok k σ t f) (ha : ty_agr k σ σ') (e : ty_kl k k') : ty_fok k' σ' t f := by
  obtain ⟨⟨p, j⟩, v⟩ := f
  obtain ⟨h1, h2⟩ := h
  have ep : σ'.2.2.1 p = σ.2.2.1 p := ha.2.2.1 p (Or.inl h1)
  refine ⟨Nat.lt_of_lt_of_le h1 e.2.2, ?_⟩
  rcases j with b | q | r | q
  · obtain ⟨m, m1, m0, m2⟩ := h2
    exact ⟨m, m1.ag ha.1 e.1, by dsimp only; rw [ep]; exact m0, by dsimp only; rw [ep]; exact m2.ag ha e⟩
  · obtain ⟨m, m1, m2⟩ := h2
    exact ⟨m, ty_iv.ag m1 ha.1 e.1, m2.ag ha.2.1⟩
  · show ty_iv k'.1 σ'.1 v (ix_g t (σ'.2.2.1 p)).2.1
    rw [ep]
    exact ty_iv.ag h2 ha.1 e.1
  · obtain ⟨m, m1, m0, m2⟩ := h2
    exact ⟨m, m1.ag ha.1 e.1, by dsimp only; rw [ep]; exact m0, by dsimp only; rw [ep]; exact m2.ag ha e⟩
/-- so many known cells; the types -/
abbrev ty_H : Type := Nat × (Nat → ty_T)
def ty_k (h : ty_H) (W : ty_W) : ty_K := (W.1.1, (W.2.1.1, h.1 + W.2.2.1.1))
/-- the types of the rows of texts are rows -/
def ty_hok (h : ty_H) : Prop := h.1 = 114 ∧ ∀ i, tx_rw i → 64 < (h.2 i).2.1
/-- the heap is as the types say -/
def ty_hp (h : ty_H) (σ : ty_Sg) (n : Nat) (t : ix_T) : Prop := h.1 ≤ n ∧ n ≤ 16384 ∧ (∀ p, p < h.1 → σ.2.2.1 p = p) ∧ (∀ i, i < n → ty_cok σ.2.2.2 n (h.2 (σ.2.2.2 i)) (ix_g t i)) ∧ (∀ i, i < n → (i < h.1 → σ.2.2.2 i = i) ∧ (h.1 ≤ i → h.1 ≤ σ.2.2.2 i)) ∧ ty_hok h ∧ ty_inv σ.2.1 t ∧ ∀ i, n ≤ i → σ.2.2.2 i = 255
theorem ty_hp.lg {h : ty_H} {k : Nat} {σ : ty_Sg} {γ : Nat → Nat} {n : Nat} {t : ix_T} (hh : ty_hp h σ n t) (ha : ty_ag k σ.2.1 γ) : ty_hp h (σ.1, (γ, σ.2.2)) n t := ⟨hh.1, hh.2.1, hh.2.2.1, hh.2.2.2.1, hh.2.2.2.2.1, hh.2.2.2.2.2.1, hh.2.2.2.2.2.2.1.ag ha, hh.2.2.2.2.2.2.2⟩
/-- what is known is so -/
def ty_wk (h : ty_H) (σ : ty_Sg) (W : ty_W) (n : Nat) (t : ix_T) : Prop := ty_bx σ.1 W.1 ∧ ty_bl σ.2.1 W.2.1 ∧ ty_hp h σ n t ∧ (W.2.2.1.1 ≤ 256 ∧ ∀ p, p < W.2.2.1.1 → σ.2.2.1 (h.1 + p) < n ∧ σ.2.2.2 (σ.2.2.1 (h.1 + p)) = ix_g W.2.2.1.2 p) ∧ (∀ q ∈ W.2.2.2.1, q.1 < W.1.1 ∧ q.2.2 < W.1.1 ∧ σ.1 q.1 + q.2.1 ≤ σ.1 q.2.2 + 4294967296) ∧ ∀ f ∈ W.2.2.2.2, ty_fok (ty_k h W) σ t f
/-- counters: cells and slots made; the frame's first number of cells, and room for what it may make -/
def ty_cn (cp : Nat × Nat) (_ : ty_Sg) (w : Nat × Nat) (n ce sl : Nat) : Prop := ce ≤ w.1 ∧ sl ≤ w.2 ∧ n ≤ cp.1 + ce ∧ cp.1 + cp.2 ≤ 16384 ∧ w.1 ≤ cp.2
theorem ty_cn.ag {cp : Nat × Nat} {k : ty_K} {σ σ' : ty_Sg} {w : Nat × Nat} {n ce sl : Nat} (hc : ty_cn cp σ w n ce sl) (ha : ty_agr k σ σ') : ty_cn cp σ' w n ce sl := by
  have _ := ha
  exact hc
def ty_in (h : ty_H) (cp : Nat × Nat) (σ : ty_Sg) (S : ty_S) (C : ty_C) : Prop := ty_wk h σ S.1 C.2.2.1 C.2.2.2.1 ∧ ty_lv (ty_k h S.1) σ S.2.1 C.1 ∧ ty_vs (ty_k h S.1) σ S.2.2.1 C.2.1 ∧ ty_cn cp σ S.2.2.2 C.2.2.1 C.2.2.2.2.1 C.2.2.2.2.2
/-- there are no fewer symbols and references -/
def ty_mo (W W' : ty_W) : Prop := W.1.1 ≤ W'.1.1 ∧ W.2.1.1 ≤ W'.2.1.1 ∧ W.2.2.1.1 ≤ W'.2.2.1.1
theorem ty_mo.rf {W : ty_W} : ty_mo W W := ⟨Nat.le_refl _, Nat.le_refl _, Nat.le_refl _⟩
theorem ty_mo.tr {a b c : ty_W} (h1 : ty_mo a b) (h2 : ty_mo b c) : ty_mo a c := ⟨Nat.le_trans h1.1 h2.1, Nat.le_trans h1.2.1 h2.2.1, Nat.le_trans h1.2.2 h2.2.2⟩
theorem ty_mo.k {h : ty_H} {W W' : ty_W} (m : ty_mo W W') : ty_kl (ty_k h W) (ty_k h W') := ⟨m.1, m.2.1, Nat.add_le_add_left m.2.2 _⟩
/-- a step of ours is one of the plain machine's, whose calls have so much fuel, or stays where it is -/
def ty_sd (h : ty_H) (cp : Nat × Nat) (pc : Nat) (f : Nat → ix_S → ix_R) (a : ty_S → ty_R) : Prop := ∀ S outs, a S = some outs → ∀ σ C, ty_in h cp σ S C → ∃ o ∈ outs, ∃ σ' C', ty_mo S.1 o.2.1 ∧ ty_agr (ty_k h S.1) σ σ' ∧ ty_in h cp σ' o.2 C' ∧ ((o.1 = pc ∧ C' = C) ∨ ∃ f0, ∀ g, f0 ≤ g → f g ([], C) = some [(o.1, ([], C'))])
/-- one outcome, at the same symbols -/
theorem ty_sd1 {h : ty_H} {cp : Nat × Nat} {σ : ty_Sg} {S S' : ty_S} {C C' : ty_C} {pc nx : Nat} {f : Nat → ix_S → ix_R} (hm : ty_mo S.1 S'.1) {σ' : ty_Sg} (ha : ty_agr (ty_k h S.1) σ σ') (hi : ty_in h cp σ' S' C') (hf : ∀ g, f g ([], C) = some [(nx, ([], C'))]) : ∃ o ∈ [(nx, S')], ∃ σ' C', ty_mo S.1 o.2.1 ∧ ty_agr (ty_k h S.1) σ σ' ∧ ty_in h cp σ' o.2 C' ∧ ((o.1 = pc ∧ C' = C) ∨ ∃ f0, ∀ g, f0 ≤ g → f g ([], C) = some [(o.1, ([], C'))]) :=
  ⟨(nx, S'), List.mem_cons_self, σ', C', hm, ha, hi, Or.inr ⟨0, fun g _ => hf g⟩⟩
/-- the boxes alone have grown -/
theorem ty_wk.boxes {h : ty_H} {σ : ty_Sg} {A A' : ty_A} {W : ty_A × ((Nat × Lean.RArray Nat) × (ty_Q × ty_X))} {n : Nat} {t : ix_T} {s : Nat → Nat} (hw : ty_wk h σ (A, W) n t) (ha : ty_ag A.1 σ.1 s) (hk : A.1 ≤ A'.1) (hb : ty_bx s A') : ty_wk h (s, σ.2) (A', W) n t ∧ ty_agr (ty_k h (A, W)) σ (s, σ.2) ∧ ty_mo (A, W) (A', W) := by
  obtain ⟨h1, h1l, h2, h3, h4, h5⟩ := hw
  have hg : ty_agr (ty_k h (A, W)) σ (s, σ.2) := ⟨ha, ty_ag.rf, ty_ag.rf, fun _ _ => rfl⟩
  have hm : ty_mo (A, W) (A', W) := ⟨hk, Nat.le_refl _, Nat.le_refl _⟩
  refine ⟨⟨hb, h1l, h2, h3, fun q hq => ?_, fun f hf => (h5 f hf).ag hg hm.k⟩, hg, hm⟩
  obtain ⟨q1, q2, q3⟩ := h4 q hq
  refine ⟨Nat.lt_of_lt_of_le q1 hk, Nat.lt_of_lt_of_le q2 hk, ?_⟩
  show s q.1 + q.2.1 ≤ s q.2.2 + 4294967296
  rw [ha q.1 (Or.inl q1), ha q.2.2 (Or.inl q2)]
  exact q3
