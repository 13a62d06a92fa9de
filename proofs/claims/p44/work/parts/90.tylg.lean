/-! longs of the typed machine -/
section TYG
variable {h : ty_H} {cp : Nat × Nat} {pc : Nat}
theorem ty_toInt64 {n : Nat} (hn : n < 18446744073709551616) : (Int64.ofNat n).toInt = if n < 9223372036854775808 then (n : Int) else (n : Int) - 18446744073709551616 := by
  show (Int64.ofNat n).toBitVec.toInt = _
  rw [BitVec.toInt_eq_toNat_cond, ix_tn64, Nat.mod_eq_of_lt hn]
  by_cases q : n < 9223372036854775808
  · rw [if_pos (by omega), if_pos q]
  · rw [if_neg (by omega), if_neg q]; rfl
theorem ty_kj_int {n : Nat} (hn : n < 18446744073709551616) : (ty_kj n : Int) = (Int64.ofNat n).toInt + 18446744073709551616 := by
  rw [ty_toInt64 hn, ty_kj_eq]
  split <;> omega
theorem ty_kj_lt {m n : Nat} (hm : m < 18446744073709551616) (hn : n < 18446744073709551616) : Int64.ofNat m < Int64.ofNat n ↔ ty_kj m < ty_kj n := by
  rw [Int64.lt_iff_toInt_lt]
  have h1 := ty_kj_int hm
  have h2 := ty_kj_int hn
  omega
theorem ty_kj_inj {m n : Nat} (hm : m < 18446744073709551616) (hn : n < 18446744073709551616) (e : ty_kj m = ty_kj n) : m = n := by
  rw [ty_kj_eq, ty_kj_eq] at e
  omega
theorem ty_i64 {m : Nat} (hm : m < 4294967296) : (Int32.ofNat m).toInt64.toBitVec.toNat < 18446744073709551616 ∧ ty_kj (Int32.ofNat m).toInt64.toBitVec.toNat + 4294967296 = ty_kp m + 18446744073709551616 := by
  have hl : (Int32.ofNat m).toInt64.toBitVec.toNat < 18446744073709551616 := (Int32.ofNat m).toInt64.toBitVec.isLt
  refine ⟨hl, ?_⟩
  have h1 := ty_kj_int hl
  rw [ix_bk64] at h1
  have h2 : (Int32.ofNat m).toInt64.toInt = (Int32.ofNat m).toInt := Int32.toInt_toInt64 _
  have h3 := ix_toInt hm
  have h4 := ty_kp_eq m
  rw [h2, h3] at h1
  split at h1 <;> omega
theorem ty_l32 {m : Nat} (hm : m < 18446744073709551616) : (Int64.ofNat m).toInt32.toBitVec.toNat = m % 4294967296 := by
  rw [Int64.toBitVec_toInt32, BitVec.signExtend_eq_setWidth_of_le _ (by decide), BitVec.toNat_setWidth, ix_tn64, Nat.mod_eq_of_lt hm]
noncomputable def ty_isJ (v : ix_V) : Option Nat := match v with
  | .inr (.inl q) => some q
  | _ => none
/-- two longs make some long -/
noncomputable def ty_l2 (nx : Nat) : ty_S → ty_R
  | (W, L, .inr (.inl _) :: .inr (.inl _) :: st, w) => some [(nx, (W, L, .inr (.inl 0) :: st, w))]
  | _ => none
theorem ty_vs_j {k : ty_K} {σ : ty_Sg} {q : Nat} {vs ws : List ix_V} (hv : ty_vs k σ (.inr (.inl q) :: vs) ws) : ∃ m ws', ws = .inr (.inl m) :: ws' ∧ ty_jv k.2.1 σ.2.1 q m ∧ ty_vs k σ vs ws' := by
  obtain ⟨w, ws', rfl, ⟨m, rfl, hm⟩, h2⟩ := ty_vs_1 hv
  exact ⟨m, ws', rfl, hm, h2⟩
theorem ts_l2 {op : Nat → Nat → Nat} (ho : ∀ m n, op m n < 18446744073709551616) {nx : Nat} : ty_sd h cp pc (fun _ => ix_lbin op nx) (ty_l2 nx) := by
  intro S outs hs σ C hi
  obtain ⟨W, L, st, w⟩ := S
  obtain ⟨ls, stk, n, t, ce, sl⟩ := C
  rcases st with _ | ⟨b, _ | ⟨a, st⟩⟩
  · cases hs
  · rcases b with b | q | r | y <;> cases hs
  · rcases b with b | q | r | y
    · cases hs
    · rcases a with a | q2 | r | y
      · cases hs
      · cases hs
        obtain ⟨m, ws, e, m1, m2⟩ := ty_vs_j hi.2.2.1
        obtain ⟨m', ws', rfl, m1', m2'⟩ := ty_vs_j m2
        have e' : stk = _ := e
        subst e'
        exact ty_sd1 ty_mo.rf ty_agr.rf (C' := (ls, .inr (.inl (op m' m)) :: ws', n, t, ce, sl)) ⟨hi.1, hi.2.1, ⟨⟨_, rfl, ho _ _, Or.inl rfl⟩, m2'⟩, hi.2.2.2⟩ (fun g => rfl)
      · cases hs
      · cases hs
    · cases hs
    · cases hs
noncomputable def ty_l1 (nx : Nat) : ty_S → ty_R
  | (W, L, .inr (.inl _) :: st, w) => some [(nx, (W, L, .inr (.inl 0) :: st, w))]
  | _ => none
theorem ts_l1 {op : Nat → Nat} (ho : ∀ m, op m < 18446744073709551616) {nx : Nat} : ty_sd h cp pc (fun _ => ix_lun op nx) (ty_l1 nx) := by
  intro S outs hs σ C hi
  obtain ⟨W, L, st, w⟩ := S
  obtain ⟨ls, stk, n, t, ce, sl⟩ := C
  rcases st with _ | ⟨b, st⟩
  · cases hs
  · rcases b with b | q | r | y
    · cases hs
    · cases hs
      obtain ⟨m, ws, e, m1, m2⟩ := ty_vs_j hi.2.2.1
      have e' : stk = _ := e
      subst e'
      exact ty_sd1 ty_mo.rf ty_agr.rf (C' := (ls, .inr (.inl (op m)) :: ws, n, t, ce, sl)) ⟨hi.1, hi.2.1, ⟨⟨_, rfl, ho _, Or.inl rfl⟩, m2⟩, hi.2.2.2⟩ (fun g => rfl)
    · cases hs
    · cases hs
/-- a long moved by an int -/
noncomputable def ty_lsh (nx : Nat) : ty_S → ty_R
  | (W, L, k :: .inr (.inl _) :: st, w) => cond (ty_isI k) (some [(nx, (W, L, .inr (.inl 0) :: st, w))]) none
  | _ => none
theorem ts_lsh {op : Nat → Nat → Nat} (ho : ∀ m n, op m n < 18446744073709551616) {nx : Nat} : ty_sd h cp pc (fun _ => ix_lsh op nx) (ty_lsh nx) := by
  intro S outs hs σ C hi
  obtain ⟨W, L, st, w⟩ := S
  obtain ⟨ls, stk, n, t, ce, sl⟩ := C
  rcases st with _ | ⟨b, _ | ⟨a, st⟩⟩
  · cases hs
  · cases hs
  · rcases a with a | q2 | r | y
    · cases hs
    · change cond (ty_isI b) (some [(nx, (W, L, .inr (.inl 0) :: st, w))]) none = some outs at hs
      cases hc : ty_isI b with
      | false => rw [hc] at hs; cases hs
      | true =>
        rw [hc] at hs
        cases hs
        obtain ⟨x, ws, e, m1, m2⟩ := ty_vs_1 hi.2.2.1
        obtain ⟨m', ws', rfl, m1', m2'⟩ := ty_vs_j m2
        obtain ⟨k, rfl, hk⟩ := m1.toint hc
        have e' : stk = _ := e
        subst e'
        exact ty_sd1 ty_mo.rf ty_agr.rf (C' := (ls, .inr (.inl (op m' k)) :: ws', n, t, ce, sl)) ⟨hi.1, hi.2.1, ⟨⟨_, rfl, ho _ _, Or.inl rfl⟩, m2'⟩, hi.2.2.2⟩ (fun g => rfl)
    · cases hs
    · cases hs
/-- a part or a rest of longs -/
noncomputable def ty_ldv (nx : Nat) : ty_S → ty_R
  | (W, L, .inr (.inl q) :: .inr (.inl p) :: st, w) => cond (Nat.blt 18446744073709551616 (ty_jr W.2.1 q).1 || Nat.blt (ty_jr W.2.1 q).2 18446744073709551616) (ty_l2 nx (W, L, .inr (.inl q) :: .inr (.inl p) :: st, w)) none
  | _ => none
theorem ts_ldiv {op : Nat → Nat → Nat} (ho : ∀ m n, op m n < 18446744073709551616) {nx : Nat} : ty_sd h cp pc (fun _ => ix_ldiv op nx) (ty_ldv nx) := by
  intro S outs hs σ C hi
  obtain ⟨W, L, st, w⟩ := S
  obtain ⟨ls, stk, n, t, ce, sl⟩ := C
  rcases st with _ | ⟨b, _ | ⟨a, st⟩⟩
  · cases hs
  · rcases b with b | q | r | y <;> cases hs
  · rcases b with b | q | r | y
    · cases hs
    · rcases a with a | q2 | r | y
      · cases hs
      · change cond (Nat.blt 18446744073709551616 (ty_jr W.2.1 q).1 || Nat.blt (ty_jr W.2.1 q).2 18446744073709551616) (some [(nx, (W, L, .inr (.inl 0) :: st, w))]) none = some outs at hs
        cases hc : (Nat.blt 18446744073709551616 (ty_jr W.2.1 q).1 || Nat.blt (ty_jr W.2.1 q).2 18446744073709551616) with
        | false => rw [hc] at hs; cases hs
        | true =>
          rw [hc] at hs
          cases hs
          obtain ⟨m, ws, e, m1, m2⟩ := ty_vs_j hi.2.2.1
          obtain ⟨m', ws', rfl, m1', m2'⟩ := ty_vs_j m2
          have e' : stk = _ := e
          subst e'
          have r : (ty_jr W.2.1 q).1 ≤ ty_kj m ∧ ty_kj m ≤ (ty_jr W.2.1 q).2 := ty_jr_ok hi.1.2.1 m1
          have nz : Nat.beq m 0 = false := ix_beq_f.mpr (fun e9 => by
            rw [e9] at r
            have k0 : ty_kj 0 = 18446744073709551616 := rfl
            rcases (Bool.or_eq_true _ _).mp hc with z | z
            · have := ix_blt.mp z; omega
            · have := ix_blt.mp z; omega)
          refine ty_sd1 ty_mo.rf ty_agr.rf (C' := (ls, .inr (.inl (op m' m)) :: ws', n, t, ce, sl)) ⟨hi.1, hi.2.1, ⟨⟨_, rfl, ho _ _, Or.inl rfl⟩, m2'⟩, hi.2.2.2⟩ (fun g => ?_)
          show cond (Nat.beq m 0) none _ = _
          rw [nz]
          rfl
      · cases hs
      · cases hs
    · cases hs
    · cases hs
/-- an int as a long -/
noncomputable def ty_i2l (nx : Nat) : ty_S → ty_R
  | (W, L, a :: st, w) => cond (ty_isI a) (match ty_fj (Nat.add (ty_rng W.1 a).1 18446744069414584320) (Nat.add (ty_rng W.1 a).2 18446744069414584320) W with
    | some (v, W') => some [(nx, (W', L, v :: st, w))]
    | none => none) none
  | _ => none
theorem ts_i2l {nx : Nat} : ty_sd h cp pc (fun _ => ix_i2l nx) (ty_i2l nx) := by
  intro S outs hs σ C hi
  obtain ⟨W, L, st, w⟩ := S
  obtain ⟨ls, stk, n, t, ce, sl⟩ := C
  rcases st with _ | ⟨a, st⟩
  · cases hs
  · change cond (ty_isI a) (match ty_fj (Nat.add (ty_rng W.1 a).1 18446744069414584320) (Nat.add (ty_rng W.1 a).2 18446744069414584320) W with
    | some (v, W') => some [(nx, (W', L, v :: st, w))]
    | none => none) none = some outs at hs
    cases hc : ty_isI a with
    | false => rw [hc] at hs; cases hs
    | true =>
      rw [hc] at hs
      dsimp only [cond_true] at hs
      split at hs
      · rename_i v W' hv
        cases hs
        obtain ⟨x, ws, e, m1, m2⟩ := ty_vs_1 hi.2.2.1
        obtain ⟨m, rfl, hm⟩ := m1.toint hc
        have e' : stk = _ := e
        subst e'
        have r : (ty_rng W.1 a).1 ≤ ty_kp m ∧ ty_kp m ≤ (ty_rng W.1 a).2 := ty_rng_ok hi.1.1 hm
        obtain ⟨k1, k2⟩ := ty_i64 hm.1
        obtain ⟨σ', s1, s2, s3, s4, _⟩ := ty_fj_ok hi.1 hv k1 (by show (ty_rng W.1 a).1 + 18446744069414584320 ≤ _; omega) (by show _ ≤ (ty_rng W.1 a).2 + 18446744069414584320; omega)
        exact ty_sd1 s1 s2 (C' := (ls, .inr (.inl (Int32.ofNat m).toInt64.toBitVec.toNat) :: ws, n, t, ce, sl)) ⟨s3, hi.2.1.ag s2 s1.k, ⟨s4, m2.ag s2 s1.k⟩, hi.2.2.2.ag s2⟩ (fun g => rfl)
      · cases hs
/-- a long cut to an int -/
noncomputable def ty_l2i (nx : Nat) : ty_S → ty_R
  | (W, L, .inr (.inl q) :: st, w) => (match cond (Nat.ble 18446744071562067968 (ty_jr W.2.1 q).1 && Nat.blt (ty_jr W.2.1 q).2 18446744075857035264) (ty_fr (Nat.sub (ty_jr W.2.1 q).1 18446744069414584320) (Nat.sub (ty_jr W.2.1 q).2 18446744069414584320) W.1) (ty_fr 2147483648 6442450943 W.1) with
    | some (v, A) => some [(nx, ((A, W.2), L, v :: st, w))]
    | none => none)
  | _ => none
theorem ts_l2i {nx : Nat} : ty_sd h cp pc (fun _ => ix_l2i nx) (ty_l2i nx) := by
  intro S outs hs σ C hi
  obtain ⟨W, L, st, w⟩ := S
  obtain ⟨ls, stk, n, t, ce, sl⟩ := C
  rcases st with _ | ⟨a, st⟩
  · cases hs
  · rcases a with a | q | r | y
    · cases hs
    · change (match cond (Nat.ble 18446744071562067968 (ty_jr W.2.1 q).1 && Nat.blt (ty_jr W.2.1 q).2 18446744075857035264) (ty_fr (Nat.sub (ty_jr W.2.1 q).1 18446744069414584320) (Nat.sub (ty_jr W.2.1 q).2 18446744069414584320) W.1) (ty_fr 2147483648 6442450943 W.1) with
    | some (v, A) => some [(nx, ((A, W.2), L, v :: st, w))]
    | none => none) = some outs at hs
      obtain ⟨m, ws, e, m1, m2⟩ := ty_vs_j hi.2.2.1
      have e' : stk = _ := e
      subst e'
      have r : (ty_jr W.2.1 q).1 ≤ ty_kj m ∧ ty_kj m ≤ (ty_jr W.2.1 q).2 := ty_jr_ok hi.1.2.1 m1
      have hl := ty_l32 m1.1
      have hlt : (Int64.ofNat m).toInt32.toBitVec.toNat < 4294967296 := (Int64.ofNat m).toInt32.toBitVec.isLt
      have key : ∀ v A, cond (Nat.ble 18446744071562067968 (ty_jr W.2.1 q).1 && Nat.blt (ty_jr W.2.1 q).2 18446744075857035264) (ty_fr (Nat.sub (ty_jr W.2.1 q).1 18446744069414584320) (Nat.sub (ty_jr W.2.1 q).2 18446744069414584320) W.1) (ty_fr 2147483648 6442450943 W.1) = some (v, A) → ∃ s, ty_ag W.1.1 σ.1 s ∧ W.1.1 ≤ A.1 ∧ ty_bx s A ∧ ty_iv A.1 s v (Int64.ofNat m).toInt32.toBitVec.toNat := by
        intro v A hv
        cases hc : (Nat.ble 18446744071562067968 (ty_jr W.2.1 q).1 && Nat.blt (ty_jr W.2.1 q).2 18446744075857035264) with
        | false => rw [hc, cond_false] at hv; exact ty_any_ok hi.1.1 hv hlt
        | true =>
          rw [hc, cond_true] at hv
          have c := Bool.and_eq_true_iff.mp hc
          have g1 := ix_ble.mp c.1
          have g2 := ix_blt.mp c.2
          have ej := ty_kj_eq m
          have em := m1.1
          have ek : ty_kp (Int64.ofNat m).toInt32.toBitVec.toNat = ty_kj m - 18446744069414584320 := by
            rw [hl, ty_kp_eq]
            omega
          exact ty_fr_ok hi.1.1 hv hlt (by rw [ek]; show (ty_jr W.2.1 q).1 - 18446744069414584320 ≤ _; omega) (by rw [ek]; show _ ≤ (ty_jr W.2.1 q).2 - 18446744069414584320; omega)
      split at hs
      · rename_i v A hv
        cases hs
        obtain ⟨s, s1, s2, s3, s4⟩ := key v A hv
        obtain ⟨B, W2⟩ := W
        obtain ⟨g1, g2, g3⟩ := ty_wk.boxes hi.1 s1 s2 s3
        exact ty_sd1 g3 g2 (C' := (ls, .inl (Int64.ofNat m).toInt32.toBitVec.toNat :: ws, n, t, ce, sl)) ⟨g1, hi.2.1.ag g2 g3.k, ⟨ty_rv.int s4, m2.ag g2 g3.k⟩, hi.2.2.2⟩ (fun g => rfl)
      · cases hs
    · cases hs
    · cases hs
end TYG
