/-! the plain machine's steps at numbers -/
section PLST
variable {ls : ix_L} {st : List ix_V}
theorem pl_load {ok : ix_V → Bool} {i nx : Nat} {v : ix_V} {w : Nat × (ix_T × (Nat × Nat))} (h : ls[i]? = some (some v)) (ho : ok v = true) : ix_load ok i nx ([], ls, st, w) = some [(nx, ([], ls, v :: st, w))] := by
  show (match ls[i]? with | some (some v) => cond (ok v) (some [(nx, (([] : ix_B), ls, v :: st, w))]) none | _ => none) = _
  rw [h]
  dsimp only
  rw [ho]
  rfl
theorem pl_getf {ci k nx i n : Nat} {t : ix_T} {w : Nat × Nat} {v : ix_V} (hi : i < n) (h1 : (ix_g t i).1 = ci) (h2 : k < (ix_g t i).2.1) (hv : ix_g (ix_g t i).2.2 k = v) : ix_getf ci k nx ([], ls, .inr (.inr (.inl (i + 1))) :: st, n, t, w) = some [(nx, ([], ls, v :: st, n, t, w))] := by
  show cond (Nat.blt i n) (cond (Nat.beq (ix_g t i).1 ci && Nat.blt k (ix_g t i).2.1) (some [(nx, (([] : ix_B), ls, ix_g (ix_g t i).2.2 k :: st, n, t, w))]) none) none = _
  rw [ix_blt.mpr hi, ix_beq.mpr h1, ix_blt.mpr h2, hv]
  rfl
theorem pl_putf {ci k nx i n : Nat} {ok : ix_V → Bool} {t : ix_T} {w : Nat × Nat} {v : ix_V} (hi : i < n) (ho : ok v = true) (h1 : (ix_g t i).1 = ci) (h2 : k < (ix_g t i).2.1) : ix_putf ci k nx ok ([], ls, v :: .inr (.inr (.inl (i + 1))) :: st, n, t, w) = some [(nx, ([], ls, st, n, ix_u 14 t i ((ix_g t i).1, (ix_g t i).2.1, ix_u 6 (ix_g t i).2.2 k v), w))] := by
  show cond (Nat.blt i n && ok v) (cond (Nat.beq (ix_g t i).1 ci && Nat.blt k (ix_g t i).2.1) (some [(nx, (([] : ix_B), ls, st, n, ix_u 14 t i ((ix_g t i).1, (ix_g t i).2.1, ix_u 6 (ix_g t i).2.2 k v), w))]) none) none = _
  rw [ix_blt.mpr hi, ho, ix_beq.mpr h1, ix_blt.mpr h2]
  rfl
theorem pl_iald {O : ix_O} {pc nx i m n : Nat} {t : ix_T} {w : Nat × Nat} {v : ix_V} (hi : i < n) (h1 : (ix_g t i).1 = 0) (hm : m < (ix_g t i).2.1) (hv : ix_g (ix_g t i).2.2 m = v) : ix_iald O pc nx ([], ls, .inl m :: .inr (.inr (.inl (i + 1))) :: st, n, t, w) = some [(nx, ([], ls, v :: st, n, t, w))] := by
  show (match cond (Nat.blt i n) (cond (Nat.beq (ix_g t i).1 0) (some (ix_g t i).2) none) (cond (Nat.blt i 1000000) none (O i)) with
      | some (len, f) => cond (Nat.blt m len) (some [(nx, (([] : ix_B), ls, ix_g f m :: st, n, t, w))]) none
      | none => none) = _
  rw [ix_blt.mpr hi, ix_beq.mpr h1]
  show cond (Nat.blt m (ix_g t i).2.1) (some [(nx, (([] : ix_B), ls, ix_g (ix_g t i).2.2 m :: st, n, t, w))]) none = _
  rw [ix_blt.mpr hm, hv]
  rfl
theorem pl_ast {k0 k1 pc nx i m n : Nat} {nar : Nat → ix_V → ix_V} {ok : ix_V → Bool} {t : ix_T} {w : Nat × Nat} {v : ix_V} (hi : i < n) (ho : ok v = true) (h1 : k0 ≤ (ix_g t i).1) (h2 : (ix_g t i).1 ≤ k1) (hm : m < (ix_g t i).2.1) : ix_ast k0 k1 pc nx nar ok ([], ls, v :: .inl m :: .inr (.inr (.inl (i + 1))) :: st, n, t, w) = some [(nx, ([], ls, st, n, ix_u 14 t i ((ix_g t i).1, (ix_g t i).2.1, ix_u (ix_dep (ix_g t i).2.1) (ix_g t i).2.2 m (nar (ix_g t i).1 v)), w))] := by
  show cond (Nat.blt i n && ok v) (cond (Nat.ble k0 (ix_g t i).1 && Nat.ble (ix_g t i).1 k1) (cond (Nat.blt m (ix_g t i).2.1) (some [(nx, (([] : ix_B), ls, st, n, ix_u 14 t i ((ix_g t i).1, (ix_g t i).2.1, ix_u (ix_dep (ix_g t i).2.1) (ix_g t i).2.2 m (nar (ix_g t i).1 v)), w))]) none) none) none = _
  rw [ix_blt.mpr hi, ho, ix_ble.mpr h1, ix_ble.mpr h2, ix_blt.mpr hm]
  rfl
theorem pl_bias {a : Nat} (h : a < 2147483648) : ix_bias a = a + 2147483648 := by
  have e : ix_bias a = (a + 2147483648) % 4294967296 := rfl
  rw [e]
  omega
/-- is it below: yes, no -/
theorem pl_ge_n {neg : Bool} {tgt nx a b : Nat} {w : Nat × (ix_T × (Nat × Nat))} (ha : a < 2147483648) (hb : b < 2147483648) (h : a < b) : ix_icmp true neg false tgt nx ([], ls, .inl b :: .inl a :: st, w) = some [(cond neg nx tgt, ([], ls, st, w))] := by
  show ix_br (some (cond (Nat.blt (ix_bias a) (ix_bias b)) ([([] : ix_B)], []) ([], [[]]))) (cond neg nx tgt) (cond neg tgt nx) (ls, st, w) = _
  rw [pl_bias ha, pl_bias hb, ix_blt.mpr (show a + 2147483648 < b + 2147483648 by omega)]
  rfl
theorem pl_ge_y {neg : Bool} {tgt nx a b : Nat} {w : Nat × (ix_T × (Nat × Nat))} (ha : a < 2147483648) (hb : b < 2147483648) (h : b ≤ a) : ix_icmp true neg false tgt nx ([], ls, .inl b :: .inl a :: st, w) = some [(cond neg tgt nx, ([], ls, st, w))] := by
  show ix_br (some (cond (Nat.blt (ix_bias a) (ix_bias b)) ([([] : ix_B)], []) ([], [[]]))) (cond neg nx tgt) (cond neg tgt nx) (ls, st, w) = _
  rw [pl_bias ha, pl_bias hb, ix_blt_f.mpr (show ¬ a + 2147483648 < b + 2147483648 by omega)]
  rfl
theorem pl_eq_y {neg swap : Bool} {tgt nx a b : Nat} {w : Nat × (ix_T × (Nat × Nat))} (h : a = b) : ix_icmp false neg swap tgt nx ([], ls, .inl b :: .inl a :: st, w) = some [(cond neg nx tgt, ([], ls, st, w))] := by
  show ix_br (some (cond (Nat.beq a b) ([([] : ix_B)], []) ([], [[]]))) (cond neg nx tgt) (cond neg tgt nx) (ls, st, w) = _
  rw [ix_beq.mpr h]
  rfl
theorem pl_eq_n {neg swap : Bool} {tgt nx a b : Nat} {w : Nat × (ix_T × (Nat × Nat))} (h : ¬ a = b) : ix_icmp false neg swap tgt nx ([], ls, .inl b :: .inl a :: st, w) = some [(cond neg tgt nx, ([], ls, st, w))] := by
  show ix_br (some (cond (Nat.beq a b) ([([] : ix_B)], []) ([], [[]]))) (cond neg nx tgt) (cond neg tgt nx) (ls, st, w) = _
  rw [ix_beq_f.mpr h]
  rfl
theorem pl_z_y {neg swap : Bool} {tgt nx a : Nat} {w : Nat × (ix_T × (Nat × Nat))} (h : a = 0) : ix_if false neg swap tgt nx ([], ls, .inl a :: st, w) = some [(cond neg nx tgt, ([], ls, st, w))] := by
  show ix_br (some (cond (Nat.beq a 0) ([([] : ix_B)], []) ([], [[]]))) (cond neg nx tgt) (cond neg tgt nx) (ls, st, w) = _
  rw [ix_beq.mpr h]
  rfl
theorem pl_z_n {neg swap : Bool} {tgt nx a : Nat} {w : Nat × (ix_T × (Nat × Nat))} (h : ¬ a = 0) : ix_if false neg swap tgt nx ([], ls, .inl a :: st, w) = some [(cond neg tgt nx, ([], ls, st, w))] := by
  show ix_br (some (cond (Nat.beq a 0) ([([] : ix_B)], []) ([], [[]]))) (cond neg nx tgt) (cond neg tgt nx) (ls, st, w) = _
  rw [ix_beq_f.mpr h]
  rfl
theorem pl_add {a b : Nat} (h : a + b < 4294967296) : ix_add a b = a + b := Nat.mod_eq_of_lt h
theorem pl_mul {a b : Nat} (h : a * b < 4294967296) : ix_mul a b = a * b := Nat.mod_eq_of_lt h
/-- one step -/
theorem pl_go {M : ix_M} {d : Nat} {P : ix_Call → ix_P} {pc pc' : Nat} {C C' : ty_C} (hp : ¬ pc = 99999) (he : ∀ call, P call pc ([], C) = some [(pc', ([], C'))]) : ty_rt M d P pc C pc' C' := ty_rt_step hp ⟨0, fun g _ => he _⟩
theorem pl_rf {M : ix_M} {d : Nat} {P : ix_Call → ix_P} {pc : Nat} {C : ty_C} : ty_rt M d P pc C pc C := fun _ ho => ho
end PLST
