/-! the first heap is as the types say -/
section LWD
noncomputable def hk_s (q : Nat × (Nat × Nat)) (v : ix_V) : Bool := cond (Nat.beq q.1 0) (match v with
    | .inl m => Nat.blt m 4294967296 && (Nat.ble q.2.1 (ty_kp m) && Nat.ble (ty_kp m) q.2.2)
    | _ => false) (cond (Nat.beq q.1 1) (match v with
    | .inr (.inl m) => Nat.blt m 18446744073709551616
    | _ => false) (cond (Nat.beq q.1 2) (match v with
    | .inr (.inr (.inl r)) => Nat.blt 0 r && (Nat.ble r 114 && Nat.beq (Nat.pred r) q.2.1)
    | _ => false) (cond (Nat.beq q.1 3) (match v with
    | .inr (.inr (.inl r)) => Nat.beq r 0 || (Nat.ble r 114 && Nat.beq (Nat.pred r) q.2.1)
    | _ => false) true)))
def hk_Γ (i : Nat) : Nat := if i < 114 then i else 255
theorem hk_Γ1 {i : Nat} (h : i < 114) : hk_Γ i = i := if_pos h
theorem hk_s_ok {q : Nat × (Nat × Nat)} {v : ix_V} (h : hk_s q v = true) : ty_sok hk_Γ 114 q v := by
  obtain ⟨k, a, b⟩ := q
  have no : ∀ {p : Prop}, false = true → p := fun h => by cases h
  match k, h with
  | 0, h =>
    rcases v with m | m | r | m
    · have c := Bool.and_eq_true_iff.mp (show (Nat.blt m 4294967296 && (Nat.ble a (ty_kp m) && Nat.ble (ty_kp m) b)) = true from h)
      have c2 := Bool.and_eq_true_iff.mp c.2
      exact ⟨m, rfl, ix_blt.mp c.1, ix_ble.mp c2.1, ix_ble.mp c2.2⟩
    · exact no h
    · exact no h
    · exact no h
  | 1, h =>
    rcases v with m | m | r | m
    · exact no h
    · exact ⟨m, rfl, ix_blt.mp (show Nat.blt m 18446744073709551616 = true from h)⟩
    · exact no h
    · exact no h
  | 2, h =>
    rcases v with m | m | r | m
    · exact no h
    · exact no h
    · have c := Bool.and_eq_true_iff.mp (show (Nat.blt 0 r && (Nat.ble r 114 && Nat.beq (Nat.pred r) a)) = true from h)
      have c2 := Bool.and_eq_true_iff.mp c.2
      have g1 := ix_blt.mp c.1
      have g2 := ix_ble.mp c2.1
      have g3 : r - 1 = a := ix_beq.mp c2.2
      exact ⟨r - 1, by rw [show r - 1 + 1 = r by omega], by omega, by rw [hk_Γ1 (by omega)]; exact g3⟩
    · exact no h
  | 3, h =>
    rcases v with m | m | r | m
    · exact no h
    · exact no h
    · rcases (Bool.or_eq_true _ _).mp (show (Nat.beq r 0 || (Nat.ble r 114 && Nat.beq (Nat.pred r) a)) = true from h) with h | h
      · exact Or.inl (by rw [ix_beq.mp h])
      · by_cases hr : r = 0
        · exact Or.inl (by rw [hr])
        · have c2 := Bool.and_eq_true_iff.mp h
          have g2 := ix_ble.mp c2.1
          have g3 : r - 1 = a := ix_beq.mp c2.2
          exact Or.inr ⟨r - 1, by rw [show r - 1 + 1 = r by omega], by omega, by rw [hk_Γ1 (by omega)]; exact g3⟩
    · exact no h
  | k + 4, h => trivial
/-- from a place on, so many -/
noncomputable def hk_all (p : Nat → Bool) (lo : Nat) : Nat → Bool
  | 0 => true
  | n + 1 => p (Nat.add lo n) && hk_all p lo n
theorem hk_all_ok {p : Nat → Bool} {lo : Nat} : ∀ (n : Nat), hk_all p lo n = true → ∀ k, lo ≤ k → k < lo + n → p k = true
  | 0, _, k, h1, h2 => by omega
  | n + 1, h, k, h1, h2 => by
    have c := Bool.and_eq_true_iff.mp h
    by_cases e : k = lo + n
    · subst e; exact c.1
    · exact hk_all_ok n c.2 k h1 (by omega)
noncomputable def hk_rule (len : Nat) (f : ix_A) (q : Nat × (Nat × (Nat × (Nat × (Nat × Nat))))) : Bool := hk_all (fun k => !(Nat.beq (Nat.mod k q.2.2.1) q.2.2.2.1) || (Nat.ble len k || (match ix_g f k with
  | .inl m => Nat.ble q.2.2.2.2.1 (ty_kp m) && Nat.ble (ty_kp m) q.2.2.2.2.2
  | _ => true))) q.1 (Nat.sub (Nat.succ q.2.1) q.1)
noncomputable def hk_cell (T : ty_T) (c : ix_C) : Bool := Nat.beq c.1 T.1 && (Nat.ble T.2.1 c.2.1 && (Nat.ble c.2.1 T.2.2.1 && cond (Nat.ble 100 T.1) (hk_all (fun k => hk_s (ix_g T.2.2.2.1 k) (ix_g c.2.2 k)) 0 c.2.1) (ty_ral (hk_s (ix_g T.2.2.2.1 0)) c.2.2 && (Nat.ble 3 T.1 || T.2.2.2.2.all (hk_rule c.2.1 c.2.2)))))
theorem hk_cell_ok {T : ty_T} {c : ix_C} (h : hk_cell T c = true) : ty_cok hk_Γ 114 T c := by
  have c1 := Bool.and_eq_true_iff.mp h
  have c2 := Bool.and_eq_true_iff.mp c1.2
  have c3 := Bool.and_eq_true_iff.mp c2.2
  refine ⟨ix_beq.mp c1.1, ix_ble.mp c2.1, ix_ble.mp c3.1, fun k hk => ?_⟩
  have c4 := c3.2
  cases h100 : Nat.ble 100 T.1 with
  | true =>
    rw [h100, cond_true] at c4
    have g := ix_ble.mp h100
    exact ⟨fun _ => hk_s_ok (hk_all_ok _ c4 k (Nat.zero_le _) (by omega)), fun q => by omega, fun q => by omega⟩
  | false =>
    rw [h100, cond_false] at c4
    have g : ¬ 100 ≤ T.1 := ix_ble_f.mp h100
    have c5 := Bool.and_eq_true_iff.mp c4
    refine ⟨fun q => absurd q g, fun _ => hk_s_ok (ty_ral_ok c.2.2 k c5.1), fun q3 q hq hhit m hm => ?_⟩
    rcases (Bool.or_eq_true _ _).mp c5.2 with z | z
    · have := ix_ble.mp z; omega
    · have r := List.all_eq_true.mp z q hq
      obtain ⟨h1, h2, h3⟩ := hhit
      have w := hk_all_ok (p := fun k => !(Nat.beq (Nat.mod k q.2.2.1) q.2.2.2.1) || (Nat.ble c.2.1 k || (match ix_g c.2.2 k with
        | .inl m => Nat.ble q.2.2.2.2.1 (ty_kp m) && Nat.ble (ty_kp m) q.2.2.2.2.2
        | _ => true))) (lo := q.1) (Nat.sub (Nat.succ q.2.1) q.1) r k h1 (by show k < q.1 + (q.2.1 + 1 - q.1); omega)
      have hb : Nat.beq (Nat.mod k q.2.2.1) q.2.2.2.1 = true := ix_beq.mpr h3
      have hl : Nat.ble c.2.1 k = false := ix_ble_f.mpr (by omega)
      rw [hb, hl, hm] at w
      have c6 := Bool.and_eq_true_iff.mp (show (Nat.ble q.2.2.2.2.1 (ty_kp m) && Nat.ble (ty_kp m) q.2.2.2.2.2) = true from w)
      exact ⟨ix_ble.mp c6.1, ix_ble.mp c6.2⟩
noncomputable def hk_heap (t : ix_T) (lo n : Nat) : Bool := hk_all (fun i => hk_cell (ty_h.2 i) (ix_g t i)) lo n
set_option maxRecDepth 10000000 in
theorem hk_0 : hk_heap lw_t3 0 81 = true := by decide +kernel
set_option maxRecDepth 10000000 in
theorem hk_1 : hk_heap lw_t3 81 1 = true := by decide +kernel
set_option maxRecDepth 10000000 in
theorem hk_2 : hk_heap lw_t3 82 1 = true := by decide +kernel
set_option maxRecDepth 10000000 in
theorem hk_3 : hk_heap lw_t3 83 1 = true := by decide +kernel
set_option maxRecDepth 10000000 in
theorem hk_4 : hk_heap lw_t3 84 30 = true := by decide +kernel
noncomputable def hk_tx (t : ix_T) : Bool := hk_all (fun k => Nat.beq (tx_n t 81 (Nat.add 193 k)) 0 && (Nat.beq (tx_n t 82 (Nat.add 193 k)) 0 && (Nat.beq (tx_n t 82 (Nat.add 5993 k)) 0 && Nat.beq (tx_n t 83 (Nat.add 193 k)) 0))) 0 6
set_option maxRecDepth 10000000 in
theorem hk_5 : hk_tx lw_t3 = true := by decide +kernel
set_option maxRecDepth 10000000 in
theorem hk_6 : hk_all (fun k => Nat.beq (tx_n lw_t3 84 k) 0) 0 2 = true := by decide +kernel
theorem tx_done {f : Nat → Nat × Nat} {e : Nat} (hf : ∀ v, e ≤ v → f v = (0, 0)) : ∀ (n v : Nat), e ≤ v → tx_ok f n tx_END v
  | 0, _, _ => trivial
  | n + 1, v, h => ⟨tx_END, by rw [hf v h]; decide +kernel, tx_done hf n (v + 1) (by omega)⟩
theorem tx_none {t : ix_T} {c o k : Nat} (h : tx_n t c (o + 193 + k) = 0) : tx_t t c o k := by
  refine ⟨by rw [h]; exact Nat.zero_le _, ?_⟩
  rw [h]
  have hf : ∀ v, 400 * k ≤ v → tx_k t c o (400 * k + 0) v = (0, 0) := fun v hv => by
    unfold tx_k
    rw [if_neg (by omega)]
  refine tx_acc.mk (l' := tx_END) (by rw [hf _ (Nat.le_refl _)]; decide +kernel) (fun n => tx_done (e := 400 * k) hf n _ (by omega))
theorem lw_hp0 : lw_hp 114 lw_t3 := by
  refine ⟨(fun _ => 0, (fun _ => 0, (fun p => p, hk_Γ))), ⟨Nat.le_refl _, by decide, fun p _ => rfl, fun i hi => ?_, fun i hi => ⟨fun _ => hk_Γ1 hi, fun q => absurd q (by show ¬ 114 ≤ i; omega)⟩, ⟨rfl, fun i hi => ?_⟩, ⟨⟨fun k hk => ?_, fun q => absurd q (by decide)⟩, fun k hk => ?_, fun q => absurd q (by decide)⟩, fun i hi => if_neg (by omega)⟩, rfl⟩
  · show ty_cok hk_Γ 114 (ty_h.2 (hk_Γ i)) (ix_g lw_t3 i)
    rw [hk_Γ1 hi]
    apply hk_cell_ok
    by_cases a : i < 81
    · exact hk_all_ok _ hk_0 i (Nat.zero_le _) (by omega)
    by_cases b : i = 81
    · subst b; exact hk_all_ok _ hk_1 81 (Nat.le_refl _) (by omega)
    by_cases c : i = 82
    · subst c; exact hk_all_ok _ hk_2 82 (Nat.le_refl _) (by omega)
    by_cases d : i = 83
    · subst d; exact hk_all_ok _ hk_3 83 (Nat.le_refl _) (by omega)
    · exact hk_all_ok _ hk_4 i (by omega) (by omega)
  · rcases hi with rfl | rfl | rfl | rfl | rfl <;> decide +kernel
  · have c := Bool.and_eq_true_iff.mp (hk_all_ok _ hk_5 k (Nat.zero_le _) (by omega))
    have c2 := Bool.and_eq_true_iff.mp c.2
    have c3 := Bool.and_eq_true_iff.mp c2.2
    exact ⟨tx_none (by rw [show 0 + 193 + k = 193 + k by omega]; exact ix_beq.mp c.1), tx_none (by rw [show 0 + 193 + k = 193 + k by omega]; exact ix_beq.mp c2.1), tx_none (by rw [show 5800 + 193 + k = 5993 + k by omega]; exact ix_beq.mp c3.1), tx_none (by rw [show 0 + 193 + k = 193 + k by omega]; exact ix_beq.mp c3.2)⟩
  · exact Or.inl (ix_beq.mp (hk_all_ok (p := fun k => Nat.beq (tx_n lw_t3 84 k) 0) _ hk_6 k (Nat.zero_le _) (by omega)))
end LWD
