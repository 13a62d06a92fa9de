/-! how far an int is from 0 -/
section TYAB
variable {h : ty_H} {cp : Nat × Nat} {pc : Nat}
theorem ty_jabs_nn {m : Nat} (h : m < 2147483648) : ix_s1 ix_jabs m = m := by
  unfold ix_s1 ix_jabs
  have e := ix_toInt (show m < 4294967296 by omega)
  rw [if_pos h] at e
  rw [if_pos (Int32.le_iff_toInt_le.mpr (by rw [e, Int32.toInt_zero]; omega)), ix_tn]
  omega
theorem ty_jabs_ng {m : Nat} (h : 2147483648 ≤ m) (hm : m < 4294967296) : ix_s1 ix_jabs m = (4294967296 - m) % 4294967296 := by
  unfold ix_s1 ix_jabs
  have e := ix_toInt hm
  rw [if_neg (by omega)] at e
  rw [if_neg (fun q => by have z := Int32.le_iff_toInt_le.mp q; rw [e, Int32.toInt_zero] at z; omega), Int32.toBitVec_sub, BitVec.toNat_sub, ix_tn]
  show (2 ^ 32 - m % 4294967296 + 0) % 2 ^ 32 = _
  omega
noncomputable def ty_abo (A : ty_A) (v : ix_V) : Option (ix_V × ty_A) := cond (Nat.ble 4294967296 (ty_rng A v).1) (some (v, A)) (cond (Nat.blt 2147483648 (ty_rng A v).1) (ty_fr 4294967296 6442450943 A) (ty_fr 2147483648 6442450943 A))
theorem ty_abo_ok : ty_op1 (ix_s1 ix_jabs) ty_abo := by
  intro σ A A' a m v hA ha he
  have hm := ha.1
  have hr := ty_rng_ok hA ha
  have hk := ty_kp_eq m
  have hl : ix_s1 ix_jabs m < 4294967296 := (ix_jabs (Int32.ofNat m)).toBitVec.isLt
  unfold ty_abo at he
  cases hc : Nat.ble 4294967296 (ty_rng A a).1 with
  | true =>
    rw [hc] at he
    cases he
    have c := ix_ble.mp hc
    rw [ty_jabs_nn (by omega)]
    exact ty_keep hA ha
  | false =>
    rw [hc, cond_false] at he
    cases hd : Nat.blt 2147483648 (ty_rng A a).1 with
    | true =>
      rw [hd, cond_true] at he
      have c := ix_blt.mp hd
      have hx : ix_s1 ix_jabs m < 2147483648 := by
        by_cases q : m < 2147483648
        · rw [ty_jabs_nn q]; exact q
        · rw [ty_jabs_ng (by omega) hm]; omega
      have k2 := ty_kp_eq (ix_s1 ix_jabs m)
      exact ty_fr_ok hA he hl (by omega) (by omega)
    | false =>
      rw [hd, cond_false] at he
      exact ty_any_ok hA he hl
noncomputable def ty_ab (nx : Nat) : ty_S → ty_R
  | (W, L, a :: st, w) => cond (Nat.ble (ix_cats st) 8) (ty_i1 ty_abo nx (W, L, a :: st, w)) none
  | _ => none
theorem ts_ab {nx : Nat} : ty_sd h cp pc (fun _ => ix_ab nx) (ty_ab nx) := by
  intro S outs hs σ C hi
  obtain ⟨W, L, st, w⟩ := S
  obtain ⟨ls, stk, n, t, ce, sl⟩ := C
  rcases st with _ | ⟨a, st⟩
  · cases hs
  · change cond (Nat.ble (ix_cats st) 8) (ty_i1 ty_abo nx (W, L, a :: st, w)) none = _ at hs
    cases hc : Nat.ble (ix_cats st) 8 with
    | false => rw [hc] at hs; cases hs
    | true =>
      rw [hc, cond_true] at hs
      obtain ⟨x, stk', e, x2, x3⟩ := ty_vs_1 hi.2.2.1
      have e' : stk = x :: stk' := e
      subst e'
      have hec : ix_cats stk' = ix_cats st := (ty_cats st stk' 0 x3).symm
      obtain ⟨o, om, σ', C', r1, r2, r3, r4⟩ := ts_i1 (cp := cp) (pc := pc) ty_abo_ok (nx := nx) (W, L, a :: st, w) outs hs σ (ls, x :: stk', n, t, ce, sl) hi
      refine ⟨o, om, σ', C', r1, r2, r3, ?_⟩
      rcases r4 with r4 | ⟨g0, r4⟩
      · exact Or.inl r4
      · refine Or.inr ⟨g0, fun g hg => ?_⟩
        show cond (Nat.ble (ix_cats stk') 8) (ix_iun (ix_s1 ix_jabs) nx ([], ls, x :: stk', n, t, ce, sl)) none = _
        rw [hec, hc, cond_true]
        exact r4 g hg
end TYAB
