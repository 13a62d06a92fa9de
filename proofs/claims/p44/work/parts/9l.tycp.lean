/-! rows that are copied: what is known then -/
section TYCP
variable {h : ty_H} {cp : Nat × Nat}
noncomputable def ty_cpf (q : Nat × (Nat × Nat)) (c : Nat) : Bool := Nat.beq q.1 2 && Nat.beq q.2.1 c
noncomputable def ty_cpd (q p : Nat × (Nat × Nat)) : Bool := Nat.beq q.1 0 && (Nat.beq p.1 0 && (Nat.ble q.2.1 p.2.1 && Nat.ble p.2.2 q.2.2))
/-- a rule of the one row is what a rule of the other one says -/
noncomputable def ty_cpr (o1 o2 N : Nat) (ru : List (Nat × (Nat × (Nat × (Nat × (Nat × Nat)))))) (q : Nat × (Nat × (Nat × (Nat × (Nat × Nat))))) : Bool := Nat.blt q.2.1 o2 || (Nat.ble (Nat.add o2 N) q.1 || (Nat.ble o2 q.1 && (Nat.blt q.2.1 (Nat.add o2 N) && ru.any (fun p => Nat.beq p.2.2.1 q.2.2.1 && (Nat.beq (Nat.mod (Nat.add p.2.2.2.1 o2) q.2.2.1) (Nat.mod (Nat.add q.2.2.2.1 o1) q.2.2.1) && (Nat.blt p.2.2.2.1 q.2.2.1 && (Nat.ble (Nat.add p.1 o2) (Nat.add q.1 o1) && (Nat.ble (Nat.add q.2.1 o1) (Nat.add p.2.1 o2) && (Nat.ble q.2.2.2.2.1 p.2.2.2.2.1 && Nat.ble p.2.2.2.2.2 q.2.2.2.2.2)))))))))
/-- a rule that speaks of all these places -/
noncomputable def ty_rix (i j lo hi : Nat) (q : Nat × (Nat × (Nat × (Nat × (Nat × Nat))))) : Bool := Nat.ble q.1 i && (Nat.ble j q.2.1 && (Nat.beq q.2.2.1 1 && (Nat.beq q.2.2.2.1 0 && (Nat.ble lo q.2.2.2.2.1 && Nat.ble q.2.2.2.2.2 hi))))
/-- the greatest glance: it was at least 1 where it comes from -/
noncomputable def ty_cpq (o1 o2 : Nat) (ru : List (Nat × (Nat × (Nat × (Nat × (Nat × Nat)))))) (q : Nat × (Nat × (Nat × (Nat × (Nat × Nat))))) : Bool := Nat.beq q.1 (Nat.add o2 182) && (Nat.beq q.2.1 (Nat.add o2 182) && (Nat.ble q.2.2.2.2.1 4294967297 && ru.any (ty_rix (Nat.add o1 182) (Nat.add o1 182) 4294967296 q.2.2.2.2.2)))
noncomputable def ty_cpc (h : ty_H) (x : Bool) (f1 c1 o1 f2 c2 o2 N : Nat) : Bool := Nat.blt c1 114 && (Nat.blt 80 c2 && (Nat.blt c2 90 && (!(Nat.beq c1 c2) && (Nat.beq (h.2 c1).1 0 && (Nat.beq (h.2 c2).1 0 && (Nat.ble (Nat.add o1 N) (h.2 c1).2.1 && (Nat.ble (Nat.add o2 N) (h.2 c2).2.1 && (Nat.ble (h.2 c1).2.2.1 16384 && (Nat.ble (h.2 c2).2.2.1 16384 && (Nat.beq (h.2 79).1 112 && (Nat.blt f1 (h.2 79).2.1 && (Nat.blt f2 (h.2 79).2.1 && (ty_cpf (ix_g (h.2 79).2.2.2.1 f1) c1 && (ty_cpf (ix_g (h.2 79).2.2.2.1 f2) c2 && (ty_cpd (ix_g (h.2 c2).2.2.2.1 0) (ix_g (h.2 c1).2.2.2.1 0) && (h.2 c2).2.2.2.2.all (fun q => ty_cpr o1 o2 N (h.2 c1).2.2.2.2 q || (x && ty_cpq o1 o2 (h.2 c1).2.2.2.2 q)))))))))))))))))
noncomputable def ty_cpx (c2 : Nat) (X : ty_X) : ty_X := X.filter (fun f => match f.1.2 with
  | .inr (.inl q) => !(Nat.beq c2 81) || !(Nat.beq (Nat.mod q 4) 0)
  | _ => Nat.blt f.1.1 114 && !(Nat.beq f.1.1 c2))
theorem ty_mod_c {a b o m : Nat} (e : (a + o) % m = (b + o) % m) : a % m = b % m := by
  have key : ∀ x y : Nat, y ≤ x → (x + o) % m = (y + o) % m → x % m = y % m := fun x y hle e => by
    have z := Nat.sub_mod_eq_zero_of_mod_eq e
    rw [show x + o - (y + o) = x - y by omega] at z
    obtain ⟨q, hq⟩ := Nat.dvd_of_mod_eq_zero z
    rw [show x = y + m * q by omega, Nat.add_mul_mod_self_left]
  rcases Nat.le_total b a with hle | hle
  · exact key a b hle e
  · exact (key b a hle e.symm).symm
theorem tx_n_c {t t' : ix_T} {i k : Nat} (e : ix_g t' i = ix_g t i) : tx_n t' i k = tx_n t i k := by
  unfold tx_n
  rw [e]
theorem tx_k_c {t t' : ix_T} {c o e : Nat} (h : ix_g t' c = ix_g t c) : tx_k t' c o e = tx_k t c o e := funext fun u => by
  unfold tx_k
  rw [tx_n_c h, tx_n_c h]
theorem tx_p_c {t t' : ix_T} (h1 : ix_g t' 79 = ix_g t 79) (h2 : ix_g t' 90 = ix_g t 90) (h3 : ix_g t' 91 = ix_g t 91) : tx_p t' = tx_p t := funext fun u => by
  unfold tx_p
  rw [tx_n_c h1, tx_n_c h2, tx_n_c h3]
theorem ty_lab_c {γ : Nat → Nat} {t t' : ix_T} {q m : Nat} (h1 : ix_g t' 79 = ix_g t 79) (h2 : ix_g t' 90 = ix_g t 90) (h3 : ix_g t' 91 = ix_g t 91) (h4 : q % 4 = 0 → ix_g t' 81 = ix_g t 81) (hl : ty_lab γ q t m) : ty_lab γ q t' m := by
  unfold ty_lab at hl ⊢
  have hm : q % 4 < 4 := Nat.mod_lt _ (by decide)
  by_cases e0 : q % 4 = 0
  · rw [e0] at hl ⊢
    have h5 := h4 e0
    rw [tx_n_c h1, tx_k_c h5]
    exact hl
  · by_cases e1 : q % 4 = 1
    · rw [e1] at hl ⊢
      show tx_n t' 79 25 = 4294967295 → (m ≤ tx_n t' 79 22 ∧ tx_n t' 79 22 ≤ 400 ∧ tx_n t' 90 (tx_n t' 79 22) = 0 ∧ (tx_acc (tx_p t') (q / 4) m → tx_acc (tx_p t') (tx_S (tx_g (q / 4))) 0))
      rw [tx_n_c (k := 25) h1, tx_n_c (k := 22) h1, tx_n_c h2, tx_p_c h1 h2 h3]
      exact hl
    · by_cases e2 : q % 4 = 2
      · rw [e2] at hl ⊢
        exact hl
      · have e3 : q % 4 = 3 := by omega
        rw [e3] at hl ⊢
        show tx_n t' 79 22 ≤ 400 ∧ tx_acc (tx_p t') (tx_S (q / 4)) 0
        rw [tx_n_c (k := 22) h1, tx_p_c h1 h2 h3]
        exact hl
/-- texts that were copied -/
theorem tx_k_cp {t t' : ix_T} {c c' o o' e : Nat} (he : e ≤ 2800) (h : ∀ k, 193 ≤ k → k < 5800 → tx_n t' c' (o' + k) = tx_n t c (o + k)) : tx_k t' c' o' e = tx_k t c o e := funext fun u => by
  unfold tx_k
  by_cases hu : u < e
  · have h1 := h (200 + u) (by omega) (by omega)
    have h2 := h (3000 + u) (by omega) (by omega)
    rw [← Nat.add_assoc, ← Nat.add_assoc] at h1 h2
    rw [if_pos hu, if_pos hu, h1, h2]
  · rw [if_neg hu, if_neg hu]
theorem tx_t_cp {t t' : ix_T} {c c' o o' k : Nat} (hk : k < 6) (h : ∀ k, 193 ≤ k → k < 5800 → tx_n t' c' (o' + k) = tx_n t c (o + k)) (ht : tx_t t c o k) : tx_t t' c' o' k := by
  have e := h (193 + k) (by omega) (by omega)
  rw [← Nat.add_assoc, ← Nat.add_assoc] at e
  have h4 := ht.1
  unfold tx_t at *
  rw [e, tx_k_cp (by omega) h]
  exact ht
/-- which rows of texts are copied -/
def ty_cps (c1 o1 c2 o2 N : Nat) : Prop := 83 < c2 ∨ (N = 5800 ∧ ((c2 = 82 ∧ c1 = 81 ∧ o1 = 0 ∧ (o2 = 0 ∨ o2 = 5800)) ∨ (c2 = 83 ∧ c1 = 81 ∧ o1 = 0 ∧ o2 = 0) ∨ (c2 = 81 ∧ o2 = 0 ∧ ((c1 = 82 ∧ (o1 = 0 ∨ o1 = 5800)) ∨ (c1 = 83 ∧ o1 = 0)))))
theorem pl_Cp_n {c1 o1 c2 o2 N : Nat} {t t' : ix_T} (hc : pl_Cp c1 o1 c2 o2 t N t') (hN : N = 5800) (hl : o2 + N ≤ (ix_g t c2).2.1) : ∀ k, 193 ≤ k → k < 5800 → tx_n t' c2 (o2 + k) = tx_n t c1 (o1 + k) := fun k _ hk => by
  unfold tx_n
  rw [hc.2.2.2 (o2 + k) (by omega), if_pos (by omega), show o1 + (o2 + k - o2) = o1 + k by omega]
theorem pl_Cp_m {c1 o1 c2 o2 o N : Nat} {t t' : ix_T} (hc : pl_Cp c1 o1 c2 o2 t N t') (hl : o + 5800 ≤ (ix_g t c2).2.1) (ho : o + 5800 ≤ o2 ∨ o2 + N ≤ o) : ∀ k, 193 ≤ k → k < 5800 → tx_n t' c2 (o + k) = tx_n t c2 (o + k) := fun k _ hk => by
  unfold tx_n
  rw [hc.2.2.2 (o + k) (by omega), if_neg (by omega)]
theorem ty_inv0_cp {γ : Nat → Nat} {c1 o1 c2 o2 N : Nat} {t t' : ix_T} (hi : ty_inv0 γ t) (hc : pl_Cp c1 o1 c2 o2 t N t') (hs : ty_cps c1 o1 c2 o2 N) (hc2 : 79 < c2) (hl : o2 + N ≤ (ix_g t c2).2.1) (h82 : 11600 ≤ (ix_g t 82).2.1) (hz : c2 = 81 → ¬ γ 1001 = 1) : ty_inv0 γ t' := by
  have o79 := hc.1 79 (by decide) (by omega)
  have o81 : ¬ c2 = 81 → ix_g t' 81 = ix_g t 81 := fun e => hc.1 81 (by decide) (by omega)
  have o82 : ¬ c2 = 82 → ix_g t' 82 = ix_g t 82 := fun e => hc.1 82 (by decide) (by omega)
  have o83 : ¬ c2 = 83 → ix_g t' 83 = ix_g t 83 := fun e => hc.1 83 (by decide) (by omega)
  have sm : ∀ {c o : Nat}, ix_g t' c = ix_g t c → ∀ k, 193 ≤ k → k < 5800 → tx_n t' c (o + k) = tx_n t c (o + k) := fun e _ _ _ => tx_n_c e
  have second : ¬ c2 = 81 → (γ 1001 = 1 → tx_n t' 81 199 = γ 1002 ∧ γ 1002 ≤ 400 ∧ γ (2000 + tx_n t' 79 51) = 1 ∧ ∀ m, γ (2000 + m) = 1 ↔ tx_acc (tx_k t' 81 0 (2400 + γ 1002)) (tx_SE 1) m) := fun e g => by
    rw [tx_n_c (o81 e), tx_n_c o79, tx_k_c (o81 e)]
    exact hi.2 g
  rcases hs with hs | ⟨hN, hs | hs | hs⟩
  · have a := o81 (by omega); have b := o82 (by omega); have c := o83 (by omega)
    exact ⟨fun k hk => ⟨tx_t_cp hk (sm a) (hi.1 k hk).1, tx_t_cp hk (sm b) (hi.1 k hk).2.1, tx_t_cp hk (sm b) (hi.1 k hk).2.2.1, tx_t_cp hk (sm c) (hi.1 k hk).2.2.2⟩, second (by omega)⟩
  · obtain ⟨rfl, rfl, rfl, ho⟩ := hs
    have a := o81 (by decide); have c := o83 (by decide)
    have z := pl_Cp_n hc hN hl
    refine ⟨fun k hk => ⟨tx_t_cp hk (sm a) (hi.1 k hk).1, ?_, ?_, tx_t_cp hk (sm c) (hi.1 k hk).2.2.2⟩, second (by decide)⟩
    · rcases ho with rfl | rfl
      · exact tx_t_cp hk z (hi.1 k hk).1
      · exact tx_t_cp hk (pl_Cp_m hc (by omega) (by omega)) (hi.1 k hk).2.1
    · rcases ho with rfl | rfl
      · exact tx_t_cp hk (pl_Cp_m hc (by omega) (by omega)) (hi.1 k hk).2.2.1
      · exact tx_t_cp hk z (hi.1 k hk).1
  · obtain ⟨rfl, rfl, rfl, rfl⟩ := hs
    have a := o81 (by decide); have b := o82 (by decide)
    exact ⟨fun k hk => ⟨tx_t_cp hk (sm a) (hi.1 k hk).1, tx_t_cp hk (sm b) (hi.1 k hk).2.1, tx_t_cp hk (sm b) (hi.1 k hk).2.2.1, tx_t_cp hk (pl_Cp_n hc hN hl) (hi.1 k hk).1⟩, second (by decide)⟩
  · obtain ⟨rfl, rfl, hs⟩ := hs
    have b := o82 (by decide); have c := o83 (by decide)
    have z := pl_Cp_n hc hN hl
    refine ⟨fun k hk => ⟨?_, tx_t_cp hk (sm b) (hi.1 k hk).2.1, tx_t_cp hk (sm b) (hi.1 k hk).2.2.1, tx_t_cp hk (sm c) (hi.1 k hk).2.2.2⟩, fun g => absurd g (hz rfl)⟩
    rcases hs with ⟨rfl, rfl | rfl⟩ | ⟨rfl, rfl⟩
    · exact tx_t_cp hk z (hi.1 k hk).2.1
    · exact tx_t_cp hk z (hi.1 k hk).2.2.1
    · exact tx_t_cp hk z (hi.1 k hk).2.2.2
/-- the greatest glance of what was copied -/
theorem ty_cp_182 {c1 o1 c2 o2 : Nat} {t t' : ix_T} (hc : pl_Cp c1 o1 c2 o2 t 5800 t') (hl : o2 + 5800 ≤ (ix_g t c2).2.1) : tx_n t' c2 (o2 + 182) = tx_n t c1 (o1 + 182) := by
  have e1 := hc.2.2.2 (o2 + 182) (by omega)
  rw [if_pos (by omega), show o1 + (o2 + 182 - o2) = o1 + 182 by omega] at e1
  unfold tx_n
  rw [e1]
theorem ty_cp_83 {c1 o1 c2 o2 N : Nat} {t t' : ix_T} (hc : pl_Cp c1 o1 c2 o2 t N t') (hs : ty_cps c1 o1 c2 o2 N) (e : c2 = 83) (hl : o2 + N ≤ (ix_g t c2).2.1) : tx_n t' 83 182 = tx_n t 81 182 := by
  rcases hs with hs | ⟨hN, hs | hs | hs⟩
  · omega
  · omega
  · obtain ⟨rfl, rfl, rfl, rfl⟩ := hs
    subst hN
    exact ty_cp_182 hc hl
  · omega
theorem ty_inv_cp {γ : Nat → Nat} {c1 o1 c2 o2 N : Nat} {t t' : ix_T} (hi : ty_inv γ t) (hc : pl_Cp c1 o1 c2 o2 t N t') (hs : ty_cps c1 o1 c2 o2 N) (hc2 : 79 < c2) (hl : o2 + N ≤ (ix_g t c2).2.1) (h82 : 11600 ≤ (ix_g t 82).2.1) (hz : c2 = 81 → ¬ γ 1001 = 1) (h84 : ¬ c2 = 84) (hm : c2 = 82 ∨ c2 = 83 → 1 ≤ tx_n t 81 182) : ty_inv γ t' := by
  refine ⟨ty_inv0_cp hi.1 hc hs hc2 hl h82 hz, ?_⟩
  have o84 := hc.1 84 (by decide) (by omega)
  by_cases e : c2 = 82
  · subst e
    refine ⟨fun k hk => ?_, fun g => ?_⟩
    · rw [tx_n_c o84]
      rcases hi.2.1 k hk with q | q
      · exact Or.inl q
      · refine Or.inr ?_
        rcases hs with hs | ⟨hN, hs | hs | hs⟩
        · omega
        · obtain ⟨_, rfl, rfl, ho⟩ := hs
          have e1 := hc.2.2.2 (5800 * k + 182) (by omega)
          by_cases hin : o2 ≤ 5800 * k + 182 ∧ 5800 * k + 182 < o2 + N
          · rw [if_pos hin, (by omega : 0 + (5800 * k + 182 - o2) = 182)] at e1
            have e2 : tx_n t' 82 (5800 * k + 182) = tx_n t 81 182 := by unfold tx_n; rw [e1]
            rw [e2]
            exact hm (Or.inl rfl)
          · rw [if_neg hin] at e1
            have e2 : tx_n t' 82 (5800 * k + 182) = tx_n t 82 (5800 * k + 182) := by unfold tx_n; rw [e1]
            rw [e2]
            exact q
        · omega
        · omega
    · rw [tx_n_c (hc.1 83 (by decide) (by decide))]
      exact hi.2.2 g
  · refine ⟨fun k hk => ?_, fun g => ?_⟩
    · rw [tx_n_c o84, tx_n_c (hc.1 82 (by decide) (by omega))]
      exact hi.2.1 k hk
    · by_cases e3 : c2 = 83
      · rw [ty_cp_83 hc hs e3 hl]
        exact hm (Or.inr e3)
      · rw [tx_n_c (hc.1 83 (by decide) (by omega))]
        exact hi.2.2 g
/-- a known cell's slot is a known cell -/
theorem ty_ref_of {σ : ty_Sg} {n : Nat} {t : ix_T} {i f c : Nat} (hh : ty_hp h σ n t) (hi : i < 114) (hc : c < 114) (h1 : 100 ≤ (h.2 i).1) (h2 : f < (h.2 i).2.1) (hq : ty_cpf (ix_g (h.2 i).2.2.2.1 f) c = true) : i < n ∧ (ix_g t i).1 = (h.2 i).1 ∧ f < (ix_g t i).2.1 ∧ ix_g (ix_g t i).2.2 f = .inr (.inr (.inl (c + 1))) := by
  have e114 := hh.2.2.2.2.2.1.1
  have hn : i < n := by have := hh.1; omega
  have hco := hh.2.2.2.1 i hn
  rw [(hh.2.2.2.2.1 i hn).1 (by omega)] at hco
  have hf : f < (ix_g t i).2.1 := Nat.lt_of_lt_of_le h2 hco.2.1
  have hs := (hco.2.2.2 f hf).1 h1
  have q := Bool.and_eq_true_iff.mp hq
  have q1 := ix_beq.mp q.1
  have q2 := ix_beq.mp q.2
  unfold ty_sok at hs
  rw [q1] at hs
  obtain ⟨j, j1, j2, j3⟩ := hs
  rw [q2] at j3
  have hj : j = c := by
    by_cases hj : j < 114
    · have := (hh.2.2.2.2.1 j j2).1 (by omega)
      omega
    · have := (hh.2.2.2.2.1 j j2).2 (by omega)
      omega
  rw [hj] at j1
  exact ⟨hn, hco.1, hf, j1⟩
theorem ty_cp_core {σ : ty_Sg} {W : ty_W} {n f1 c1 o1 f2 c2 o2 N : Nat} {t : ix_T} (hw : ty_wk h σ W n t) {x : Bool} (hcc : ty_cpc h x f1 c1 o1 f2 c2 o2 N = true) (h82 : 11600 ≤ (h.2 82).2.1) (hz : c2 = 81 → ¬ σ.2.1 1001 = 1) (hs : ty_cps c1 o1 c2 o2 N) (hc84 : ¬ c2 = 84) (hm : c2 = 82 ∨ c2 = 83 → 1 ≤ tx_n t 81 182) (hx : x = true → 1 ≤ tx_n t c1 (o1 + 182)) : (pl_two f1 c1 f2 c2 n t ∧ (ix_g t c1).2.1 ≤ 16384 ∧ (ix_g t c2).2.1 ≤ 16384 ∧ o1 + N ≤ (ix_g t c1).2.1 ∧ o2 + N ≤ (ix_g t c2).2.1 ∧ ∀ j, j < (ix_g t c1).2.1 → ∃ m, ix_g (ix_g t c1).2.2 j = .inl m) ∧ ∀ t', pl_Cp c1 o1 c2 o2 t N t' → ty_wk h σ (W.1, (W.2.1, (W.2.2.1, (W.2.2.2.1, ty_cpx c2 W.2.2.2.2)))) n t' := by
  have c := hcc
  unfold ty_cpc at c
  have x1 := Bool.and_eq_true_iff.mp c
  have x2 := Bool.and_eq_true_iff.mp x1.2
  have x3 := Bool.and_eq_true_iff.mp x2.2
  have x4 := Bool.and_eq_true_iff.mp x3.2
  have x5 := Bool.and_eq_true_iff.mp x4.2
  have x6 := Bool.and_eq_true_iff.mp x5.2
  have x7 := Bool.and_eq_true_iff.mp x6.2
  have x8 := Bool.and_eq_true_iff.mp x7.2
  have x9 := Bool.and_eq_true_iff.mp x8.2
  have x10 := Bool.and_eq_true_iff.mp x9.2
  have x11 := Bool.and_eq_true_iff.mp x10.2
  have x12 := Bool.and_eq_true_iff.mp x11.2
  have x13 := Bool.and_eq_true_iff.mp x12.2
  have x14 := Bool.and_eq_true_iff.mp x13.2
  have x15 := Bool.and_eq_true_iff.mp x14.2
  have x16 := Bool.and_eq_true_iff.mp x15.2
  have a1 : c1 < 114 := ix_blt.mp x1.1
  have a2 : 80 < c2 := ix_blt.mp x2.1
  have a3 : c2 < 90 := ix_blt.mp x3.1
  have a4 : ¬ c1 = c2 := fun e => by
    have := x4.1
    rw [ix_beq.mpr e] at this
    cases this
  have a5 : (h.2 c1).1 = 0 := ix_beq.mp x5.1
  have a6 : (h.2 c2).1 = 0 := ix_beq.mp x6.1
  have a7 : o1 + N ≤ (h.2 c1).2.1 := ix_ble.mp x7.1
  have a8 : o2 + N ≤ (h.2 c2).2.1 := ix_ble.mp x8.1
  have a9 : (h.2 c1).2.2.1 ≤ 16384 := ix_ble.mp x9.1
  have a10 : (h.2 c2).2.2.1 ≤ 16384 := ix_ble.mp x10.1
  have a11 : (h.2 79).1 = 112 := ix_beq.mp x11.1
  have a12 : f1 < (h.2 79).2.1 := ix_blt.mp x12.1
  have a13 : f2 < (h.2 79).2.1 := ix_blt.mp x13.1
  have dq := Bool.and_eq_true_iff.mp (show (Nat.beq (ix_g (h.2 c2).2.2.2.1 0).1 0 && (Nat.beq (ix_g (h.2 c1).2.2.2.1 0).1 0 && (Nat.ble (ix_g (h.2 c2).2.2.2.1 0).2.1 (ix_g (h.2 c1).2.2.2.1 0).2.1 && Nat.ble (ix_g (h.2 c1).2.2.2.1 0).2.2 (ix_g (h.2 c2).2.2.2.1 0).2.2))) = true from x16.1)
  have dq2 := Bool.and_eq_true_iff.mp dq.2
  have dq3 := Bool.and_eq_true_iff.mp dq2.2
  have d1 := ix_beq.mp dq.1
  have d2 := ix_beq.mp dq2.1
  have d3 := ix_ble.mp dq3.1
  have d4 := ix_ble.mp dq3.2
  have hh := hw.2.2.1
  have e114 := hh.2.2.2.2.2.1.1
  obtain ⟨r1, r2, r3, r4⟩ := ty_ref_of hh (show 79 < 114 by decide) a1 (by omega) a12 x14.1
  obtain ⟨_, _, s3, s4⟩ := ty_ref_of hh (show 79 < 114 by decide) (show c2 < 114 by omega) (by omega) a13 x15.1
  have n1 : c1 < n := by have := hh.1; omega
  have n2 : c2 < n := by have := hh.1; omega
  have k1 := hh.2.2.2.1 c1 n1
  rw [(hh.2.2.2.2.1 c1 n1).1 (by omega)] at k1
  have k2 := hh.2.2.2.1 c2 n2
  rw [(hh.2.2.2.2.1 c2 n2).1 (by omega)] at k2
  have ints : ∀ j, j < (ix_g t c1).2.1 → ∃ m, ix_g (ix_g t c1).2.2 j = .inl m ∧ m < 4294967296 ∧ (ix_g (h.2 c1).2.2.2.1 0).2.1 ≤ ty_kp m ∧ ty_kp m ≤ (ix_g (h.2 c1).2.2.2.1 0).2.2 := fun j hj => by
    have := (k1.2.2.2 j hj).2.1 (by omega)
    unfold ty_sok at this
    rw [d2] at this
    exact this
  have l2 : o2 + N ≤ (ix_g t c2).2.1 := by have := k2.2.1; omega
  have l1 : o1 + N ≤ (ix_g t c1).2.1 := by have := k1.2.1; omega
  have n82 : 82 < n := by have := hh.1; omega
  have k82 := hh.2.2.2.1 82 n82
  rw [(hh.2.2.2.2.1 82 n82).1 (by omega)] at k82
  refine ⟨⟨⟨r1, r2.trans a11, r3, s3, r4, s4, n1, n2, k1.1.trans a5, k2.1.trans a6⟩, by have := k1.2.2.1; omega, by have := k2.2.2.1; omega, l1, l2, fun j hj => ?_⟩, fun t' hc => ?_⟩
  · obtain ⟨m, hm, _⟩ := ints j hj
    exact ⟨m, hm⟩
  have hn16 := hh.2.1
  refine ⟨hw.1, hw.2.1, ⟨hh.1, hh.2.1, hh.2.2.1, fun i hi => ?_, hh.2.2.2.2.1, hh.2.2.2.2.2.1, ty_inv_cp hh.2.2.2.2.2.2.1 hc hs (by omega) l2 (by have := k82.2.1; omega) hz hc84 hm, hh.2.2.2.2.2.2.2⟩, hw.2.2.2.1, hw.2.2.2.2.1, fun f hf => ?_⟩
  · by_cases e : i = c2
    · subst e
      rw [(hh.2.2.2.2.1 i hi).1 (by omega)]
      refine ⟨by rw [hc.2.1]; exact k2.1, by rw [hc.2.2.1]; exact k2.2.1, by rw [hc.2.2.1]; exact k2.2.2.1, fun k hk => ?_⟩
      rw [hc.2.2.1] at hk
      have old := k2.2.2.2 k hk
      rw [hc.2.2.2 k hk]
      by_cases q : o2 ≤ k ∧ k < o2 + N
      · rw [if_pos q]
        have hj : o1 + (k - o2) < (ix_g t c1).2.1 := by omega
        have src := k1.2.2.2 _ hj
        refine ⟨fun g => by omega, fun _ => ?_, fun _ p hp hit m hm => ?_⟩
        · obtain ⟨m, m1, m2, m3, m4⟩ := ints _ hj
          unfold ty_sok
          rw [d1]
          exact ⟨m, m1, m2, by omega, by omega⟩
        · have hr := List.all_eq_true.mp x16.2 p hp
          obtain ⟨t1, t2, t3⟩ := hit
          rcases (Bool.or_eq_true _ _).mp hr with hr | hr
          · rcases (Bool.or_eq_true _ _).mp hr with z | z
            · have := ix_blt.mp z; omega
            · rcases (Bool.or_eq_true _ _).mp z with z | z
              · have : o2 + N ≤ p.1 := ix_ble.mp z
                omega
              · have z1 := Bool.and_eq_true_iff.mp z
                have z2 := Bool.and_eq_true_iff.mp z1.2
                obtain ⟨p', p1, p2⟩ := List.any_eq_true.mp z2.2
                have y1 := Bool.and_eq_true_iff.mp p2
                have y2 := Bool.and_eq_true_iff.mp y1.2
                have y3 := Bool.and_eq_true_iff.mp y2.2
                have y4 := Bool.and_eq_true_iff.mp y3.2
                have y5 := Bool.and_eq_true_iff.mp y4.2
                have y6 := Bool.and_eq_true_iff.mp y5.2
                have w1 : p'.2.2.1 = p.2.2.1 := ix_beq.mp y1.1
                have w2 : (p'.2.2.2.1 + o2) % p.2.2.1 = (p.2.2.2.1 + o1) % p.2.2.1 := ix_beq.mp y2.1
                have w3 : p'.2.2.2.1 < p.2.2.1 := ix_blt.mp y3.1
                have w4 : p'.1 + o2 ≤ p.1 + o1 := ix_ble.mp y4.1
                have w5 : p.2.1 + o1 ≤ p'.2.1 + o2 := ix_ble.mp y5.1
                have w6 : p.2.2.2.2.1 ≤ p'.2.2.2.2.1 := ix_ble.mp y6.1
                have w7 : p'.2.2.2.2.2 ≤ p.2.2.2.2.2 := ix_ble.mp y6.2
                have hres : (o1 + (k - o2)) % p'.2.2.1 = p'.2.2.2.1 := by
                  rw [w1]
                  have u1 : (o1 + (k - o2) + o2) % p.2.2.1 = (k + o1) % p.2.2.1 := by rw [show o1 + (k - o2) + o2 = k + o1 by omega]
                  have u2 : (k + o1) % p.2.2.1 = (p'.2.2.2.1 + o2) % p.2.2.1 := by rw [w2, ← t3, Nat.mod_add_mod]
                  have u3 := u1.trans u2
                  have u5 : (o1 + (k - o2)) % p.2.2.1 = p'.2.2.2.1 % p.2.2.1 := ty_mod_c u3
                  rw [u5, Nat.mod_eq_of_lt w3]
                have := (src.2.2 (by omega) p' p1 ⟨by omega, by omega, hres⟩ m hm)
                exact ⟨Nat.le_trans w6 this.1, Nat.le_trans this.2 w7⟩
          · have v1 := Bool.and_eq_true_iff.mp hr
            have hx1 := hx v1.1
            have v2 := Bool.and_eq_true_iff.mp v1.2
            have v3 := Bool.and_eq_true_iff.mp v2.2
            have v4 := Bool.and_eq_true_iff.mp v3.2
            have e1 : p.1 = o2 + 182 := ix_beq.mp v2.1
            have e2 : p.2.1 = o2 + 182 := ix_beq.mp v3.1
            have e3 : p.2.2.2.2.1 ≤ 4294967297 := ix_ble.mp v4.1
            obtain ⟨p', p1, p2⟩ := List.any_eq_true.mp v4.2
            have y1 := Bool.and_eq_true_iff.mp p2
            have y2 := Bool.and_eq_true_iff.mp y1.2
            have y3 := Bool.and_eq_true_iff.mp y2.2
            have y4 := Bool.and_eq_true_iff.mp y3.2
            have y5 := Bool.and_eq_true_iff.mp y4.2
            have w1 : p'.1 ≤ o1 + 182 := ix_ble.mp y1.1
            have w2 : o1 + 182 ≤ p'.2.1 := ix_ble.mp y2.1
            have w3 : p'.2.2.1 = 1 := ix_beq.mp y3.1
            have w4 : p'.2.2.2.1 = 0 := ix_beq.mp y4.1
            have w5 : 4294967296 ≤ p'.2.2.2.2.1 := ix_ble.mp y5.1
            have w6 : p'.2.2.2.2.2 ≤ p.2.2.2.2.2 := ix_ble.mp y5.2
            have ek : o1 + (k - o2) = o1 + 182 := by omega
            have rr := src.2.2 (by omega) p' p1 ⟨by omega, by omega, by rw [w3, w4]; omega⟩ m hm
            obtain ⟨m', m1', m2', _⟩ := ints _ hj
            rw [hm] at m1'
            have emm : m = m' := Sum.inl.inj m1'
            subst emm
            have em : tx_n t c1 (o1 + 182) = m := by
              unfold tx_n
              rw [← ek, hm]
            rw [em] at hx1
            obtain ⟨b1, b2⟩ := ty_nn m2' (Nat.le_trans w5 rr.1)
            exact ⟨by omega, by omega⟩
      · rw [if_neg q]
        exact old
    · have ei := hc.1 i (by omega) e
      rw [ei]
      exact hh.2.2.2.1 i hi
  · have hm := List.mem_filter.mp hf
    have hfo := hw.2.2.2.2.2 f hm.1
    obtain ⟨⟨p, j⟩, v⟩ := f
    have same : Nat.blt p 114 = true → (!(Nat.beq p c2)) = true → ix_g t' (σ.2.2.1 p) = ix_g t (σ.2.2.1 p) := fun g1 g2 => by
      have hp := ix_blt.mp g1
      rw [hh.2.2.1 p (by omega)]
      exact hc.1 p (by omega) (fun e => by rw [ix_beq.mpr e] at g2; cases g2)
    rcases j with b | q | r | q
    · have g := Bool.and_eq_true_iff.mp hm.2
      have e := same g.1 g.2
      refine ⟨hfo.1, ?_⟩
      dsimp only at hfo ⊢
      rw [e]
      exact hfo.2
    · obtain ⟨m, m1, m2⟩ := hfo.2
      refine ⟨hfo.1, m, m1, ty_lab_c (hc.1 79 (by decide) (by omega)) (hc.1 90 (by decide) (by omega)) (hc.1 91 (by decide) (by omega)) (fun e => ?_) m2⟩
      rcases (Bool.or_eq_true _ _).mp hm.2 with z | z
      · exact hc.1 81 (by decide) (fun e2 => by rw [ix_beq.mpr e2.symm] at z; cases z)
      · rw [ix_beq.mpr (show Nat.mod q 4 = 0 from e)] at z
        cases z
    · have g := Bool.and_eq_true_iff.mp hm.2
      have e := same g.1 g.2
      refine ⟨hfo.1, ?_⟩
      dsimp only at hfo ⊢
      rw [e]
      exact hfo.2
    · have g := Bool.and_eq_true_iff.mp hm.2
      have e := same g.1 g.2
      refine ⟨hfo.1, ?_⟩
      dsimp only at hfo ⊢
      rw [e]
      exact hfo.2
end TYCP
