/-! the greater, the lesser of two -/
section TYMM
variable {h : ty_H} {cp : Nat × Nat} {pc : Nat}
noncomputable def ty_pk (q : Nat) : List ix_V → List ix_V
  | y :: x :: r => cond (Nat.beq q 1) y x :: r
  | l => l
noncomputable def ty_m2 (mx : Bool) (nx : Nat) : ty_S → ty_R
  | (W, L, b :: a :: st, w) => cond (ty_isI a && (ty_isI b && Nat.ble (ix_cats st) 8)) (match ty_jmp true false (!mx) 1 0 (L, b :: a :: st, w) W (ty_nz W.1 a) (ty_nz W.1 b) with
    | some outs => some (outs.map (fun o => (nx, (o.2.1, (o.2.2.1, (ty_pk o.1 o.2.2.2.1, o.2.2.2.2))))))
    | none => none) none
  | _ => none
theorem ty_i32lt {m n : Nat} (hm : m < 4294967296) (hn : n < 4294967296) : Int32.ofNat m < Int32.ofNat n ↔ Nat.blt (ix_bias m) (ix_bias n) = true := by
  rw [ix_lt_iff, ix_bz_ok hm, ix_bz_ok hn]
  exact ix_blt.symm
theorem ty_m2v {mx : Bool} {m n : Nat} (hm : m < 4294967296) (hn : n < 4294967296) : ix_s2 (cond mx ix_jmax ix_jmin) m n = cond (ty_cmp true (!mx) m n) n m := by
  unfold ix_s2
  cases mx with
  | true =>
    show (ix_jmax (Int32.ofNat m) (Int32.ofNat n)).toBitVec.toNat = cond (ty_cmp true false m n) n m
    rw [ty_cmp_l]
    unfold ix_jmax
    cases hb : Nat.blt (ix_bias m) (ix_bias n) with
    | true => rw [if_pos ((ty_i32lt hm hn).mpr hb), ix_tn, Nat.mod_eq_of_lt hn]; rfl
    | false => rw [if_neg (fun q => by rw [(ty_i32lt hm hn).mp q] at hb; cases hb), ix_tn, Nat.mod_eq_of_lt hm]; rfl
  | false =>
    show (ix_jmin (Int32.ofNat m) (Int32.ofNat n)).toBitVec.toNat = cond (ty_cmp true true m n) n m
    rw [ty_cmp_s]
    unfold ix_jmin
    cases hb : Nat.blt (ix_bias n) (ix_bias m) with
    | true => rw [if_pos ((ty_i32lt hn hm).mpr hb), ix_tn, Nat.mod_eq_of_lt hn]; rfl
    | false => rw [if_neg (fun q => by rw [(ty_i32lt hn hm).mp q] at hb; cases hb), ix_tn, Nat.mod_eq_of_lt hm]; rfl
theorem ts_m2 {mx : Bool} {nx : Nat} : ty_sd h cp pc (fun _ => ix_m2 (cond mx ix_jmax ix_jmin) nx) (ty_m2 mx nx) := by
  intro S outs hs σ C hi
  obtain ⟨W, L, st, w⟩ := S
  obtain ⟨ls, stk, n, t, ce, sl⟩ := C
  rcases st with _ | ⟨b, _ | ⟨a, st⟩⟩
  · cases hs
  · cases hs
  · change cond (ty_isI a && (ty_isI b && Nat.ble (ix_cats st) 8)) (match ty_jmp true false (!mx) 1 0 (L, b :: a :: st, w) W (ty_nz W.1 a) (ty_nz W.1 b) with
    | some outs => some (outs.map (fun o => (nx, (o.2.1, (o.2.2.1, (ty_pk o.1 o.2.2.2.1, o.2.2.2.2))))))
    | none => none) none = _ at hs
    cases hc : (ty_isI a && (ty_isI b && Nat.ble (ix_cats st) 8)) with
    | false => rw [hc] at hs; cases hs
    | true =>
      rw [hc] at hs
      dsimp only [cond_true] at hs
      have c1 := Bool.and_eq_true_iff.mp hc
      have c2 := Bool.and_eq_true_iff.mp c1.2
      split at hs
      · rename_i l hl
        cases hs
        have hv := hi.2.2.1
        obtain ⟨x, stk', e, x2, x3⟩ := ty_vs_1 hi.2.2.1
        obtain ⟨y, stk2, e2, y2, y3⟩ := ty_vs_1 x3
        have e' : stk = x :: y :: stk2 := by rw [← e2]; exact e
        subst e'
        obtain ⟨nb, rfl, hb⟩ := x2.toint c2.1
        obtain ⟨na, rfl, ha⟩ := y2.toint c1.1
        obtain ⟨o, o1, o2, o3, o4⟩ := ty_jmp_ok hl hi.1 (ty_nz_ok hi.1.1 ha) (ty_nz_ok hi.1.1 hb) hi.2.1 hv hi.2.2.2
        obtain ⟨q, W', L', st', w'⟩ := o
        obtain ⟨v1, v2, v3, v4⟩ := o4
        have v3 : ty_vs (ty_k h W') σ st' (.inl nb :: .inl na :: stk2) := v3
        rcases st' with _ | ⟨b', _ | ⟨a', st'⟩⟩
        · exact v3.elim
        · exact v3.2.elim
        · obtain ⟨vb, va, vr⟩ := v3
          have hec : ix_cats stk2 = ix_cats st := (ty_cats st stk2 0 y3).symm
          have o2 : q = cond (ty_cmp true (!mx) na nb) 1 0 := o2
          have hval : ty_rv (ty_k h W') σ (cond (Nat.beq q 1) b' a') (.inl (ix_s2 (cond mx ix_jmax ix_jmin) na nb)) := by
            rw [ty_m2v ha.1 hb.1, o2]
            cases ty_cmp true (!mx) na nb with
            | true => exact vb
            | false => exact va
          refine ⟨(nx, (W', (L', (cond (Nat.beq q 1) b' a' :: st', w')))), List.mem_map.mpr ⟨_, o1, rfl⟩, σ, (ls, .inl (ix_s2 (cond mx ix_jmax ix_jmin) na nb) :: stk2, n, t, ce, sl), o3, ty_agr.rf, ⟨v1, v2, ⟨hval, vr⟩, v4⟩, Or.inr ⟨0, fun g _ => ?_⟩⟩
          show cond (Nat.ble (ix_cats stk2) 8 && (ix_isInt (.inl na) && ix_isInt (.inl nb))) (some [(nx, ([], ls, ix_vI (ix_s2 (cond mx ix_jmax ix_jmin) na nb) :: stk2, n, t, ce, sl))]) none = _
          rw [hec, c2.2]
          rfl
      · cases hs
theorem ts_max {nx : Nat} : ty_sd h cp pc (fun _ => ix_m2 ix_jmax nx) (ty_m2 true nx) := ts_m2 (mx := true)
theorem ts_min {nx : Nat} : ty_sd h cp pc (fun _ => ix_m2 ix_jmin nx) (ty_m2 false nx) := ts_m2 (mx := false)
end TYMM
