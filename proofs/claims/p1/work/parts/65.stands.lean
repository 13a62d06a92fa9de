/-! standsBy by its loops, for three and for four; for one and two by a run -/
noncomputable def xC141 : ix_C := (112, 62, .branch 0 (.branch 0 (.branch 0 (.branch 0 (.branch 0 (.branch 0 (.leaf (ix_vS 0 0)) (.leaf (ix_vR 97))) (.branch 0 (.leaf (ix_vR 90)) (.leaf (ix_vR 110)))) (.branch 0 (.branch 0 (.leaf (ix_vR 87)) (.leaf (ix_vR 103))) (.branch 0 (.leaf (ix_vS 0 0)) (.leaf (ix_vR 111))))) (.branch 0 (.branch 0 (.branch 0 (.leaf (ix_vR 83)) (.leaf (ix_vR 99))) (.branch 0 (.leaf (ix_vR 92)) (.leaf (ix_vS 0 0)))) (.branch 0 (.branch 0 (.leaf (ix_vS 0 0)) (.leaf (ix_vR 107))) (.leaf (ix_vS 0 0))))) (.branch 0 (.branch 0 (.branch 0 (.branch 0 (.leaf (ix_vR 81)) (.leaf (ix_vS 0 0))) (.leaf (ix_vS 0 0))) (.branch 0 (.branch 0 (.leaf (ix_vS 0 0)) (.leaf (ix_vR 105))) (.branch 0 (.leaf (ix_vS 0 0)) (.leaf (ix_vR 113))))) (.branch 0 (.branch 0 (.branch 0 (.leaf (ix_vR 85)) (.leaf (ix_vR 101))) (.leaf (ix_vS 0 0))) (.branch 0 (.branch 0 (.leaf (ix_vS 0 0)) (.leaf (ix_vI 64))) (.branch 0 (.leaf (ix_vR 95)) (.leaf (ix_vR 0))))))) (.branch 0 (.branch 0 (.branch 0 (.leaf (ix_vS 0 0)) (.branch 0 (.branch 0 (.leaf (ix_vS 0 0)) (.leaf (ix_vR 104))) (.branch 0 (.leaf (ix_vS 0 0)) (.leaf (ix_vR 112))))) (.branch 0 (.branch 0 (.branch 0 (.leaf (ix_vR 84)) (.leaf (ix_vR 100))) (.branch 0 (.leaf (ix_vR 93)) (.leaf (ix_vS 0 0)))) (.branch 0 (.branch 0 (.leaf (ix_vS 0 0)) (.leaf (ix_vR 108))) (.branch 0 (.leaf (ix_vR 94)) (.leaf (ix_vS 0 0)))))) (.branch 0 (.branch 0 (.branch 0 (.branch 0 (.leaf (ix_vR 82)) (.leaf (ix_vR 98))) (.branch 0 (.leaf (ix_vR 91)) (.leaf (ix_vS 0 0)))) (.branch 0 (.branch 0 (.leaf (ix_vR 88)) (.leaf (ix_vR 106))) (.branch 0 (.leaf (ix_vS 0 0)) (.leaf (ix_vR 114))))) (.branch 0 (.branch 0 (.branch 0 (.leaf (ix_vR 86)) (.leaf (ix_vR 102))) (.leaf (ix_vS 0 0))) (.branch 0 (.branch 0 (.leaf (ix_vR 89)) (.leaf (ix_vR 109))) (.branch 0 (.leaf (ix_vR 96)) (.leaf (ix_vR 0))))))))
noncomputable def xC142 : ix_C := (0, 5800, .branch 0 (.leaf (ix_vS 0 0)) (.branch 0 (.leaf (ix_vS 0 0)) (.branch 0 (.branch 0 (.leaf (ix_vS 0 0)) (.branch 0 (.leaf (ix_vS 0 0)) (.branch 0 (.leaf (ix_vS 0 0)) (.branch 0 (.branch 0 (.leaf (ix_vS 0 0)) (.branch 0 (.branch 0 (.branch 0 (.branch 0 (.branch 0 (.branch 0 (.leaf (ix_vI 0)) (.leaf (ix_vS 0 0))) (.leaf (ix_vS 0 0))) (.leaf (ix_vS 0 0))) (.leaf (ix_vS 0 0))) (.leaf (ix_vS 0 0))) (.leaf (ix_vS 0 0)))) (.leaf (ix_vS 0 0)))))) (.leaf (ix_vS 0 0)))))
noncomputable def xC143 : ix_C := (0, 64, .branch 0 (.branch 0 (.branch 0 (.branch 0 (.branch 0 (.branch 0 (.leaf (ix_vI 0)) (.leaf (ix_vI 32))) (.branch 0 (.leaf (ix_vI 16)) (.leaf (ix_vI 48)))) (.branch 0 (.branch 0 (.leaf (ix_vI 8)) (.leaf (ix_vI 40))) (.branch 0 (.leaf (ix_vI 24)) (.leaf (ix_vI 56))))) (.branch 0 (.branch 0 (.branch 0 (.leaf (ix_vI 4)) (.leaf (ix_vI 36))) (.branch 0 (.leaf (ix_vI 20)) (.leaf (ix_vI 52)))) (.branch 0 (.branch 0 (.leaf (ix_vI 12)) (.leaf (ix_vI 44))) (.branch 0 (.leaf (ix_vI 28)) (.leaf (ix_vI 60)))))) (.branch 0 (.branch 0 (.branch 0 (.branch 0 (.leaf (ix_vI 2)) (.leaf (ix_vI 34))) (.branch 0 (.leaf (ix_vI 18)) (.leaf (ix_vI 50)))) (.branch 0 (.branch 0 (.leaf (ix_vI 10)) (.leaf (ix_vI 42))) (.branch 0 (.leaf (ix_vI 26)) (.leaf (ix_vI 58))))) (.branch 0 (.branch 0 (.branch 0 (.leaf (ix_vI 6)) (.leaf (ix_vI 38))) (.branch 0 (.leaf (ix_vI 22)) (.leaf (ix_vI 54)))) (.branch 0 (.branch 0 (.leaf (ix_vI 14)) (.leaf (ix_vI 46))) (.branch 0 (.leaf (ix_vI 30)) (.leaf (ix_vI 62))))))) (.branch 0 (.branch 0 (.branch 0 (.branch 0 (.branch 0 (.leaf (ix_vI 1)) (.leaf (ix_vI 33))) (.branch 0 (.leaf (ix_vI 17)) (.leaf (ix_vI 49)))) (.branch 0 (.branch 0 (.leaf (ix_vI 9)) (.leaf (ix_vI 41))) (.branch 0 (.leaf (ix_vI 25)) (.leaf (ix_vI 57))))) (.branch 0 (.branch 0 (.branch 0 (.leaf (ix_vI 5)) (.leaf (ix_vI 37))) (.branch 0 (.leaf (ix_vI 21)) (.leaf (ix_vI 53)))) (.branch 0 (.branch 0 (.leaf (ix_vI 13)) (.leaf (ix_vI 45))) (.branch 0 (.leaf (ix_vI 29)) (.leaf (ix_vI 61)))))) (.branch 0 (.branch 0 (.branch 0 (.branch 0 (.leaf (ix_vI 3)) (.leaf (ix_vI 35))) (.branch 0 (.leaf (ix_vI 19)) (.leaf (ix_vI 51)))) (.branch 0 (.branch 0 (.leaf (ix_vI 11)) (.leaf (ix_vI 43))) (.branch 0 (.leaf (ix_vI 27)) (.leaf (ix_vI 59))))) (.branch 0 (.branch 0 (.branch 0 (.leaf (ix_vI 7)) (.leaf (ix_vI 39))) (.branch 0 (.leaf (ix_vI 23)) (.leaf (ix_vI 55)))) (.branch 0 (.branch 0 (.leaf (ix_vI 15)) (.leaf (ix_vI 47))) (.branch 0 (.leaf (ix_vI 31)) (.leaf (ix_vI 63))))))))
noncomputable def xC144 : ix_C := (0, 4, .leaf (ix_vI 0))
noncomputable def xC145 : ix_C := (0, 4, .branch 0 (.branch 0 (.leaf (ix_vI 0)) (.branch 0 (.branch 0 (.branch 0 (.branch 0 (.leaf (ix_vI 4294967295)) (.leaf (ix_vI 0))) (.leaf (ix_vI 0))) (.leaf (ix_vI 0))) (.leaf (ix_vI 0)))) (.branch 0 (.branch 0 (.branch 0 (.branch 0 (.branch 0 (.leaf (ix_vI 4294967295)) (.leaf (ix_vI 0))) (.leaf (ix_vI 0))) (.leaf (ix_vI 0))) (.leaf (ix_vI 0))) (.branch 0 (.branch 0 (.branch 0 (.branch 0 (.leaf (ix_vI 4294967295)) (.leaf (ix_vI 0))) (.leaf (ix_vI 0))) (.leaf (ix_vI 0))) (.leaf (ix_vI 0)))))
noncomputable def xC146 : ix_C := (0, 4, .branch 0 (.branch 0 (.leaf (ix_vI 0)) (.branch 0 (.branch 0 (.branch 0 (.branch 0 (.leaf (ix_vI 4294967295)) (.leaf (ix_vI 0))) (.leaf (ix_vI 0))) (.leaf (ix_vI 0))) (.leaf (ix_vI 0)))) (.branch 0 (.branch 0 (.branch 0 (.branch 0 (.branch 0 (.leaf (ix_vI 1)) (.leaf (ix_vI 0))) (.leaf (ix_vI 0))) (.leaf (ix_vI 0))) (.leaf (ix_vI 0))) (.branch 0 (.branch 0 (.branch 0 (.branch 0 (.leaf (ix_vI 4294967295)) (.leaf (ix_vI 0))) (.leaf (ix_vI 0))) (.leaf (ix_vI 0))) (.leaf (ix_vI 0)))))
noncomputable def xC147 : ix_C := (0, 4, .branch 0 (.branch 0 (.leaf (ix_vI 0)) (.branch 0 (.branch 0 (.branch 0 (.branch 0 (.leaf (ix_vI 2)) (.leaf (ix_vI 0))) (.leaf (ix_vI 0))) (.leaf (ix_vI 0))) (.leaf (ix_vI 0)))) (.branch 0 (.branch 0 (.branch 0 (.branch 0 (.branch 0 (.leaf (ix_vI 1)) (.leaf (ix_vI 0))) (.leaf (ix_vI 0))) (.leaf (ix_vI 0))) (.leaf (ix_vI 0))) (.branch 0 (.branch 0 (.branch 0 (.branch 0 (.leaf (ix_vI 4294967295)) (.leaf (ix_vI 0))) (.leaf (ix_vI 0))) (.leaf (ix_vI 0))) (.leaf (ix_vI 0)))))
noncomputable def xC148 : ix_C := (0, 4, .branch 0 (.branch 0 (.leaf (ix_vI 0)) (.branch 0 (.branch 0 (.branch 0 (.branch 0 (.leaf (ix_vI 2)) (.leaf (ix_vI 0))) (.leaf (ix_vI 0))) (.leaf (ix_vI 0))) (.leaf (ix_vI 0)))) (.branch 0 (.branch 0 (.branch 0 (.branch 0 (.branch 0 (.leaf (ix_vI 1)) (.leaf (ix_vI 0))) (.leaf (ix_vI 0))) (.leaf (ix_vI 0))) (.leaf (ix_vI 0))) (.branch 0 (.branch 0 (.branch 0 (.branch 0 (.leaf (ix_vI 3)) (.leaf (ix_vI 0))) (.leaf (ix_vI 0))) (.leaf (ix_vI 0))) (.leaf (ix_vI 0)))))
theorem ix_c1_made {d0 y0 n0 : Nat} {as0 : List ix_V} {req : List (Nat × ix_C)} {ends : List (List ix_V × List (Nat × ix_C))} {outs : List ix_S} (h : (ix_ends n0 outs ends && (Nat.ble n0 256 && (req.all (fun q => Nat.blt q.1 n0 && !(Nat.beq q.2.1 98)) && ends.all (fun o => o.2.all (fun q => Nat.blt q.1 n0 && !(Nat.beq q.2.1 98)))))) = true) : ix_made (ix_c1 y0 as0 n0 (ix_puts (ix_dark n0) req) outs) (d0, y0, as0, n0, req, ends) = true := by
  unfold ix_made
  dsimp only
  rw [ix_c1_eq]
  exact h
noncomputable def xq_no : ix_Call := fun _ _ _ _ _ => none
noncomputable def xq_P : ix_P := ix_cX12_standsBy (ix_O0 6) xq_no
noncomputable def xq_B : ix_B := (((((List.replicate 13 ix_full).set 8 (2147483649, 2148183648)).set 9 (2147483648, 2147483711)).set 10 (2147483648, 2147483711)).set 11 (2147483648, 2147483711)).set 12 (2147483648, 2147483711)
theorem ix_ff {σ : ix_Sg} (n : Nat) : ix_ib σ (List.replicate n ix_full) := by
  intro x lo hi hx
  have hm : (lo, hi) = ix_full := List.eq_of_mem_replicate (List.mem_of_getElem? hx)
  have hl := ix_bz_lt (σ.1 x)
  have h1 : lo = 0 := congrArg Prod.fst hm
  have h2 : hi = 4294967295 := congrArg Prod.snd hm
  exact ⟨by omega, by omega⟩
def xfv (w a b c d : Nat) : Nat → Nat := fun x => match x with
  | 8 => w
  | 9 => a
  | 10 => b
  | 11 => c
  | 12 => d
  | _ => 0
theorem xq_f {w a b c d : Nat} (h1 : w ≤ 700000) (h2 : a ≤ 700000) (h3 : b ≤ 700000) (h4 : c ≤ 700000) (h5 : d ≤ 700000) : ∀ y, xfv w a b c d y ≤ 700000 := by
  intro y
  unfold xfv
  split <;> omega
theorem xq_bz {n : Nat} (h : n < 2147483648) : ix_bz (Int32.ofNat n) = n + 2147483648 := by
  rw [ix_bz_ok (by omega)]
  exact Nat.mod_eq_of_lt (by show n + 2147483648 < 4294967296; omega)
theorem xq_ov {σ : ix_Sg} {f : Nat → Nat} {x : Nat} (h : ¬ x < 8) : (ix_ov σ f).1 x = Int32.ofNat (f x) := if_neg h
theorem xq_ib {σ : ix_Sg} {w a b c d : Nat} (h1 : 1 ≤ w) (h2 : w ≤ 700000) (h3 : a ≤ 63) (h4 : b ≤ 63) (h5 : c ≤ 63) (h6 : d ≤ 63) : ix_ib (ix_ov σ (xfv w a b c d)) xq_B := by
  have e8 : (ix_ov σ (xfv w a b c d)).1 8 = Int32.ofNat w := xq_ov (f := xfv w a b c d) (x := 8) (by decide)
  have e9 : (ix_ov σ (xfv w a b c d)).1 9 = Int32.ofNat a := xq_ov (f := xfv w a b c d) (x := 9) (by decide)
  have e10 : (ix_ov σ (xfv w a b c d)).1 10 = Int32.ofNat b := xq_ov (f := xfv w a b c d) (x := 10) (by decide)
  have e11 : (ix_ov σ (xfv w a b c d)).1 11 = Int32.ofNat c := xq_ov (f := xfv w a b c d) (x := 11) (by decide)
  have e12 : (ix_ov σ (xfv w a b c d)).1 12 = Int32.ofNat d := xq_ov (f := xfv w a b c d) (x := 12) (by decide)
  unfold xq_B
  refine ((((((ix_ff 13).set ?_ ?_).set ?_ ?_).set ?_ ?_).set ?_ ?_).set ?_ ?_)
  · rw [e8, xq_bz (by omega)]; omega
  · rw [e8, xq_bz (by omega)]; omega
  · rw [e9, xq_bz (by omega)]; omega
  · rw [e9, xq_bz (by omega)]; omega
  · rw [e10, xq_bz (by omega)]; omega
  · rw [e10, xq_bz (by omega)]; omega
  · rw [e11, xq_bz (by omega)]; omega
  · rw [e11, xq_bz (by omega)]; omega
  · rw [e12, xq_bz (by omega)]; omega
  · rw [e12, xq_bz (by omega)]; omega
theorem xq_lo : ∀ i len f, ix_O0 6 i = some (len, f) → ∀ j, ix_lo (ix_g f j) = true := by
  intro i len f h
  unfold ix_O0 at h
  cases e0 : Nat.beq i 1000000 with
  | true => rw [e0] at h; cases h; exact ix_wl_ok (p := ix_lo) _ (by decide +kernel)
  | false =>
    rw [e0] at h
    dsimp only [cond_false] at h
    cases e1 : Nat.beq i 1000001 with
    | true => rw [e1] at h; cases h; exact ix_wl_ok (p := ix_lo) _ (by decide +kernel)
    | false =>
      rw [e1] at h
      dsimp only [cond_false] at h
      cases e2 : Nat.beq i 1000002 with
      | true => rw [e2] at h; cases h; exact ix_wl_ok (p := ix_lo) _ (by decide +kernel)
      | false => rw [e2] at h; cases h
/-- a row of noughts read at a symbol whose box lies within: no split -/
noncomputable def ix_uc (x i len : Nat) (S : ix_S) : Bool := match S with
  | (B, _, j :: r :: _, n, t, _) => (match j with
      | .inr (.inr (.inr (y, c))) => Nat.beq y x && Nat.beq c 0
      | _ => false) && ((match r with
      | .inr (.inr (.inl q)) => Nat.beq q (Nat.succ i)
      | _ => false) && (Nat.blt i n && ((match ix_g t i with
      | (kd, l, .leaf (.inl m)) => Nat.beq kd 0 && (Nat.beq l len && Nat.beq m 0)
      | _ => false) && (Nat.blt 0 x && (Nat.blt x B.length && (Nat.ble 2147483648 (ix_box B x).1 && Nat.blt (ix_box B x).2 (2147483648 + len)))))))
  | _ => false
noncomputable def ix_ual (x i len nx : Nat) (old : ix_S → ix_R) (S : ix_S) : ix_R := cond (ix_uc x i len S) (some [(nx, (S.1, S.2.1, ix_vI 0 :: S.2.2.1.tail.tail, S.2.2.2))]) (old S)
theorem ix_uc_ok {x i len : Nat} {S : ix_S} (h : ix_uc x i len S = true) : ∃ B ls st n t w, S = (B, ls, .inr (.inr (.inr (x, 0))) :: .inr (.inr (.inl (i + 1))) :: st, n, t, w) ∧ i < n ∧ ix_g t i = (0, len, .leaf (.inl 0)) ∧ 0 < x ∧ x < B.length ∧ 2147483648 ≤ (ix_box B x).1 ∧ (ix_box B x).2 < 2147483648 + len := by
  unfold ix_uc at h
  split at h
  · rename_i B ls j r st n t w
    have c1 := Bool.and_eq_true_iff.mp h
    have c2 := Bool.and_eq_true_iff.mp c1.2
    have c3 := Bool.and_eq_true_iff.mp c2.2
    have c4 := Bool.and_eq_true_iff.mp c3.2
    have c5 := Bool.and_eq_true_iff.mp c4.2
    have c6 := Bool.and_eq_true_iff.mp c5.2
    have c7 := Bool.and_eq_true_iff.mp c6.2
    have e1 : j = .inr (.inr (.inr (x, 0))) := by
      have q := c1.1
      split at q
      · have q2 := Bool.and_eq_true_iff.mp q
        rw [ix_beq.mp q2.1, ix_beq.mp q2.2]
      · cases q
    have e2 : r = .inr (.inr (.inl (i + 1))) := by
      have q := c2.1
      split at q
      · rw [ix_beq.mp q]
      · cases q
    have e3 : ix_g t i = (0, len, .leaf (.inl 0)) := by
      have q := c4.1
      split at q
      · rename_i e
        have q2 := Bool.and_eq_true_iff.mp q
        have q3 := Bool.and_eq_true_iff.mp q2.2
        rw [e, ix_beq.mp q2.1, ix_beq.mp q3.1, ix_beq.mp q3.2]
      · cases q
    subst e1
    subst e2
    exact ⟨B, ls, st, n, t, w, rfl, ix_blt.mp c3.1, e3, ix_blt.mp c5.1, ix_blt.mp c6.1, ix_ble.mp c7.1, ix_blt.mp c7.2⟩
  · cases h
theorem ix_ual_ok {k : ix_K} {E : ix_E} {O : ix_O} {pc nx x i len : Nat} (hp : pc < 99999) (hn : nx < 99999) (hl : len ≤ 2147483648) (hok : ix_ok k E pc (ix_iald O pc nx)) : ix_ok k E pc (ix_ual x i len nx (ix_iald O pc nx)) := by
  intro S outs hf hg
  unfold ix_ual at hf
  cases hc : ix_uc x i len S with
  | false => rw [hc] at hf; exact hok S outs hf hg
  | true =>
    rw [hc] at hf
    cases hf
    obtain ⟨B, ls, st, n, t, w, rfl, h1, h2, h3, h4, h5, h6⟩ := ix_uc_ok hc
    have g : ix_Go k E nx (B, ls, ix_vI 0 :: st, n, t, w) := hg _ List.mem_cons_self
    refine ix_go_i hp fun ad ws H locs lc stk hr hS => ?_
    have hB : ix_ib (ix_es E) B := hr.1
    have hb := ix_box_ok hB x
    generalize hz : ix_bz ((ix_es E).1 x) = z at hb
    have hB' : ix_ib (ix_es E) (B.set x (z, z)) := hB.set (Nat.le_of_eq hz.symm) (Nat.le_of_eq hz)
    have hbox : ix_box (B.set x (z, z)) x = (z, z) := by
      unfold ix_box
      rw [List.getD_eq_getElem?_getD, List.getElem?_set_self h4]
      rfl
    have hx0 : Nat.beq x 0 = false := ix_beq_f.mpr (by omega)
    have hzz : Nat.beq z z = true := ix_beq.mpr rfl
    have hnrm : ix_nrm (B.set x (z, z)) (.inr (.inr (.inr (x, 0)))) = .inl (z - 2147483648) := by
      show cond (Nat.beq x 0) _ (match ix_box (B.set x (z, z)) x with | (lo, hi) => cond (Nat.beq lo hi) (ix_vI (ix_add (ix_bias lo) 0)) _) = _
      rw [hbox, hx0]
      show cond (Nat.beq z z) (ix_vI (ix_add (ix_bias z) 0)) _ = _
      rw [hzz]
      have hz2 : ((z + 2147483648) % 4294967296 + 0) % 4294967296 = z - 2147483648 := by omega
      exact congrArg (fun q : Nat => (Sum.inl q : ix_V)) hz2
    have e1 : Nat.blt i n = true := ix_blt.mpr h1
    have e2 : Nat.blt (z - 2147483648) len = true := ix_blt.mpr (by omega)
    have hold : ix_iald O pc nx (B.set x (z, z), ls, .inr (.inr (.inr (x, 0))) :: .inr (.inr (.inl (i + 1))) :: st, n, t, w) = some [(nx, (B.set x (z, z), ls, ix_vI 0 :: st, n, t, w))] := by
      unfold ix_iald
      dsimp only
      rw [e1, h2]
      show (match ix_nrm (B.set x (z, z)) (.inr (.inr (.inr (x, 0)))) with
        | .inl m => cond (Nat.blt m len) (some [(nx, (B.set x (z, z), ls, ix_vI 0 :: st, n, t, w))]) none
        | .inr (.inr (.inr (x, _))) => _
        | _ => none) = _
      rw [hnrm]
      show cond (Nat.blt (z - 2147483648) len) _ none = _
      rw [e2]
      rfl
    have hgo := hok _ _ hold (fun o ho => by
      rcases List.mem_cons.mp ho with rfl | ho
      · exact ix_go_i hn fun ad' ws' H' locs' lc' stk' hr' hS' => ix_go_e hn g ad' ws' H' locs' lc' stk' ⟨hB, hr'.2⟩ hS'
      · cases ho)
    exact ix_go_e hp hgo ad ws H locs lc stk ⟨hB', hr.2⟩ hS
/-- two places beside one symbol that differ are not one -/
noncomputable def ix_nc (x : Nat) (S : ix_S) : Bool := match S with
  | (B, _, b :: a :: _, _) => (match a with
      | .inr (.inr (.inr (y, c))) => (match b with
        | .inr (.inr (.inr (v, d))) => Nat.beq y x && (Nat.beq v x && ((Nat.blt c d || Nat.blt d c) && (Nat.blt c 4294967296 && (Nat.blt d 4294967296 && (Nat.blt 0 x && Nat.blt x B.length)))))
        | _ => false)
      | _ => false)
  | _ => false
noncomputable def ix_une (x tgt : Nat) (old : ix_S → ix_R) (S : ix_S) : ix_R := cond (ix_nc x S) (some [(tgt, (S.1, S.2.1, S.2.2.1.tail.tail, S.2.2.2))]) (old S)
theorem ix_nc_ok {x : Nat} {S : ix_S} (h : ix_nc x S = true) : ∃ B ls c d st w, S = (B, ls, .inr (.inr (.inr (x, d))) :: .inr (.inr (.inr (x, c))) :: st, w) ∧ c ≠ d ∧ c < 4294967296 ∧ d < 4294967296 ∧ 0 < x ∧ x < B.length := by
  unfold ix_nc at h
  split at h
  · rename_i B ls b a st w
    split at h
    · rename_i y c
      split at h
      · rename_i v d
        have c1 := Bool.and_eq_true_iff.mp h
        have c2 := Bool.and_eq_true_iff.mp c1.2
        have c3 := Bool.and_eq_true_iff.mp c2.2
        have c4 := Bool.and_eq_true_iff.mp c3.2
        have c5 := Bool.and_eq_true_iff.mp c4.2
        have c6 := Bool.and_eq_true_iff.mp c5.2
        have e1 := ix_beq.mp c1.1
        have e2 := ix_beq.mp c2.1
        subst e1
        subst e2
        refine ⟨B, ls, c, d, st, w, rfl, ?_, ix_blt.mp c4.1, ix_blt.mp c5.1, ix_blt.mp c6.1, ix_blt.mp c6.2⟩
        intro e
        rcases (Bool.or_eq_true _ _).mp c3.1 with q | q
        · have := ix_blt.mp q
          omega
        · have := ix_blt.mp q
          omega
      · cases h
    · cases h
  · cases h
theorem ix_une_ok {k : ix_K} {E : ix_E} {pc nx x tgt : Nat} (hp : pc < 99999) (hn : tgt < 99999) (hok : ix_ok k E pc (ix_icmp false true false tgt nx)) : ix_ok k E pc (ix_une x tgt (ix_icmp false true false tgt nx)) := by
  intro S outs hf hg
  unfold ix_une at hf
  cases hc : ix_nc x S with
  | false => rw [hc] at hf; exact hok S outs hf hg
  | true =>
    rw [hc] at hf
    cases hf
    obtain ⟨B, ls, c, d, st, w, rfl, h1, h2, h3, h4, h5⟩ := ix_nc_ok hc
    have g : ix_Go k E tgt (B, ls, st, w) := hg _ List.mem_cons_self
    refine ix_go_i hp fun ad ws H locs lc stk hr hS => ?_
    have hB : ix_ib (ix_es E) B := hr.1
    obtain ⟨z, hz⟩ : ∃ z, ix_bz ((ix_es E).1 x) = z := ⟨_, rfl⟩
    have hB' : ix_ib (ix_es E) (B.set x (z, z)) := hB.set (Nat.le_of_eq hz.symm) (Nat.le_of_eq hz)
    have hbox : ix_box (B.set x (z, z)) x = (z, z) := by
      unfold ix_box
      rw [List.getD_eq_getElem?_getD, List.getElem?_set_self h5]
      rfl
    have hx0 : Nat.beq x 0 = false := ix_beq_f.mpr (by omega)
    have hzz : Nat.beq z z = true := ix_beq.mpr rfl
    have hnrm : ∀ q, ix_nrm (B.set x (z, z)) (.inr (.inr (.inr (x, q)))) = .inl (ix_add (ix_bias z) q) := by
      intro q
      show cond (Nat.beq x 0) _ (match ix_box (B.set x (z, z)) x with | (lo, hi) => cond (Nat.beq lo hi) (ix_vI (ix_add (ix_bias lo) q)) _) = _
      rw [hbox, hx0]
      show cond (Nat.beq z z) (ix_vI (ix_add (ix_bias z) q)) _ = _
      rw [hzz]
      rfl
    have hne : Nat.beq (ix_add (ix_bias z) c) (ix_add (ix_bias z) d) = false := ix_beq_f.mpr (by
      intro e
      have e9 : (ix_bias z + c) % 4294967296 = (ix_bias z + d) % 4294967296 := e
      omega)
    have hold : ix_icmp false true false tgt nx (B.set x (z, z), ls, .inr (.inr (.inr (x, d))) :: .inr (.inr (.inr (x, c))) :: st, w) = some [(tgt, (B.set x (z, z), ls, st, w))] := by
      unfold ix_icmp
      dsimp only [cond_false, cond_true]
      rw [hnrm, hnrm]
      show ix_br (some (cond (Nat.beq (ix_add (ix_bias z) c) (ix_add (ix_bias z) d)) ([B.set x (z, z)], []) ([], [B.set x (z, z)]))) nx tgt (ls, st, w) = _
      rw [hne]
      rfl
    have hgo := hok _ _ hold (fun o ho => by
      rcases List.mem_cons.mp ho with rfl | ho
      · exact ix_go_i hn fun ad' ws' H' locs' lc' stk' hr' hS' => ix_go_e hn g ad' ws' H' locs' lc' stk' ⟨hB, hr'.2⟩ hS'
      · cases ho)
    exact ix_go_e hp hgo ad ws H locs lc stk ⟨hB', hr.2⟩ hS
noncomputable def xq_P2 : ix_P := fun pc => cond (Nat.beq pc 65) (ix_ual 9 106 64 66 (xq_P 65)) (cond (Nat.beq pc 77) (ix_ual 10 106 64 78 (xq_P 77)) (cond (Nat.beq pc 96) (ix_ual 9 106 64 97 (xq_P 96)) (cond (Nat.beq pc 103) (ix_ual 10 106 64 104 (xq_P 103)) (cond (Nat.beq pc 140) (ix_une 10 359 (xq_P 140)) (cond (Nat.beq pc 214) (ix_une 10 353 (xq_P 214)) (xq_P pc))))))
theorem xq_ok2 {k : ix_K} {E : ix_E} (hok : ∀ f pc, ix_ok k (ix_Eo E f) pc (xq_P pc)) (f : Nat → Nat) (pc : Nat) : ix_ok k (ix_Eo E f) pc (xq_P2 pc) := by
  unfold xq_P2
  cases h1 : Nat.beq pc 65 with
  | true =>
    rw [ix_beq.mp h1]
    exact ix_ual_ok (O := ix_O0 6) (by decide) (by decide) (by decide) (hok f 65)
  | false =>
    cases h2 : Nat.beq pc 77 with
    | true =>
      rw [ix_beq.mp h2]
      exact ix_ual_ok (O := ix_O0 6) (by decide) (by decide) (by decide) (hok f 77)
    | false =>
      cases h3 : Nat.beq pc 96 with
      | true =>
        rw [ix_beq.mp h3]
        exact ix_ual_ok (O := ix_O0 6) (by decide) (by decide) (by decide) (hok f 96)
      | false =>
        cases h4 : Nat.beq pc 103 with
        | true =>
          rw [ix_beq.mp h4]
          exact ix_ual_ok (O := ix_O0 6) (by decide) (by decide) (by decide) (hok f 103)
        | false =>
          cases h5 : Nat.beq pc 140 with
          | true =>
            rw [ix_beq.mp h5]
            exact ix_une_ok (nx := 143) (by decide) (by decide) (hok f 140)
          | false =>
            cases h6 : Nat.beq pc 214 with
            | true =>
              rw [ix_beq.mp h6]
              exact ix_une_ok (nx := 217) (by decide) (by decide) (hok f 214)
            | false => exact hok f pc
noncomputable def xq2_LA : ix_L := [some (ix_vR 80), some (ix_vI 2), some (ix_vI 0), some (ix_vS 8 0), some (ix_vS 9 0), none, none, none, none, none]
noncomputable def xq2_LB : ix_L := [some (ix_vR 80), some (ix_vI 2), some (ix_vI 0), some (ix_vS 8 0), some (ix_vS 9 0), some (ix_vS 10 0), none, none, none, none]
noncomputable def xq2_LC : ix_L := [some (ix_vR 80), some (ix_vI 2), some (ix_vI 0), some (ix_vS 8 0), some (ix_vS 9 0), some (ix_vS 10 0), some (ix_vI 0), some (ix_vS 11 0), none, none]
noncomputable def xq2_LD : ix_L := [some (ix_vR 80), some (ix_vI 2), some (ix_vI 0), some (ix_vS 8 0), some (ix_vS 9 0), some (ix_vS 10 0), some (ix_vI 0), some (ix_vS 11 0), some (ix_vI 0), some (ix_vS 12 0)]
noncomputable def xq2_LDo : ix_L := [some (ix_vR 80), some (ix_vI 2), some (ix_vI 0), some (ix_vS 8 1), some (ix_vS 9 0), some (ix_vS 10 0), some (ix_vI 0), some (ix_vS 11 0), some (ix_vI 0), some (ix_vS 12 1)]
noncomputable def xq2_LDx : ix_L := [some (ix_vR 80), some (ix_vI 2), some (ix_vI 0), some (ix_vS 8 0), some (ix_vS 9 0), some (ix_vS 10 0), some (ix_vI 0), some (ix_vS 11 0), some (ix_vI 0), some (ix_vI 64)]
noncomputable def xq2_LDxo : ix_L := [some (ix_vR 80), some (ix_vI 2), some (ix_vI 0), some (ix_vS 8 0), some (ix_vS 9 0), some (ix_vS 10 0), some (ix_vI 0), some (ix_vS 11 1), none, none]
noncomputable def xq2_LCo : ix_L := [some (ix_vR 80), some (ix_vI 2), some (ix_vI 0), some (ix_vS 8 1), some (ix_vS 9 0), some (ix_vS 10 0), some (ix_vI 0), some (ix_vS 11 1), none, none]
noncomputable def xq2_LCx : ix_L := [some (ix_vR 80), some (ix_vI 2), some (ix_vI 0), some (ix_vS 8 0), some (ix_vS 9 0), some (ix_vS 10 0), some (ix_vI 0), some (ix_vI 64), none, none]
noncomputable def xq2_LCxo : ix_L := [some (ix_vR 80), some (ix_vI 2), some (ix_vI 0), some (ix_vS 8 0), some (ix_vS 9 0), some (ix_vS 10 1), none, none, none, none]
noncomputable def xq2_LBo : ix_L := [some (ix_vR 80), some (ix_vI 2), some (ix_vI 0), some (ix_vS 8 1), some (ix_vS 9 0), some (ix_vS 10 1), none, none, none, none]
noncomputable def xq2_LBx : ix_L := [some (ix_vR 80), some (ix_vI 2), some (ix_vI 0), some (ix_vS 8 0), some (ix_vS 9 0), some (ix_vI 64), none, none, none, none]
noncomputable def xq2_LBxo : ix_L := [some (ix_vR 80), some (ix_vI 2), some (ix_vI 0), some (ix_vS 8 0), some (ix_vS 9 1), none, none, none, none, none]
noncomputable def xq2_LAo : ix_L := [some (ix_vR 80), some (ix_vI 2), some (ix_vI 0), some (ix_vS 8 0), some (ix_vS 9 0), some (ix_vS 9 1), none, none, none, none]
noncomputable def xq2_L0 : ix_L := [some (ix_vR 80), some (ix_vI 2), none, none, none, none, none, none, none, none]
noncomputable def xq2_L1 : ix_L := [some (ix_vR 80), some (ix_vI 2), some (ix_vI 0), some (ix_vI 1), some (ix_vI 0), some (ix_vI 1), none, none, none, none]
noncomputable def xq2_L2 : ix_L := [some (ix_vR 80), some (ix_vI 2), some (ix_vI 0), some (ix_vI 1), some (ix_vI 0), some (ix_vI 2), none, none, none, none]
noncomputable def xq2_req : List (Nat × ix_C) := [(79, xC141), (81, xC142), (105, xC143), (106, xC74), (107, xC144)]
noncomputable def xq2_fin : List (Nat × ix_C) := [(79, xC141), (81, xC142), (105, xC143), (106, xC74), (107, xC146)]
noncomputable def xq2_tA : ix_T := ix_puts (ix_dark 114) xq2_req
noncomputable def xq2_tB : ix_T := ix_puts (ix_dark 114) xq2_fin
theorem xq2_lA : ix_wl ix_lc xq2_tA = true := by decide +kernel
theorem xq2_lB : ix_wl ix_lc xq2_tB = true := by decide +kernel
set_option maxRecDepth 1000000 in
theorem xq2_k0 : ix_chk (ix_seg xq_P 359 6000 0 (xq_B, xq2_L0, [], 114, xq2_tA, 0, 0)) 359 xq2_L1 114 xq2_tB = true := by decide +kernel
theorem xq2_s0 : xq2_L0.all ix_so = true ∧ xq2_L1.all ix_so = true := by decide +kernel
set_option maxRecDepth 1000000 in
theorem xq2_k1 : ix_chk (ix_seg xq_P 33 300 359 (xq_B, xq2_L1, [], 114, xq2_tB, 0, 0)) 33 xq2_L2 114 xq2_tB = true := by decide +kernel
theorem xq2_s1 : xq2_L1.all ix_so = true ∧ xq2_L2.all ix_so = true := by decide +kernel
set_option maxRecDepth 1000000 in
theorem xq2_kB : ix_chk (ix_seg xq_P2 33 300 33 (xq_B, xq2_LB, [], 114, xq2_tB, 0, 0)) 33 xq2_LBo 114 xq2_tB = true := by decide +kernel
theorem xq2_sB : xq2_LB.all ix_so = true ∧ xq2_LBo.all ix_so = true := by decide +kernel
set_option maxRecDepth 1000000 in
theorem xq2_kBx : ix_chk (ix_seg xq_P 18 300 33 (xq_B, xq2_LBx, [], 114, xq2_tB, 0, 0)) 18 xq2_LBxo 114 xq2_tB = true := by decide +kernel
theorem xq2_sBx : xq2_LBx.all ix_so = true ∧ xq2_LBxo.all ix_so = true := by decide +kernel
set_option maxRecDepth 1000000 in
theorem xq2_kA : ix_chk (ix_seg xq_P 33 300 18 (xq_B, xq2_LA, [], 114, xq2_tB, 0, 0)) 33 xq2_LAo 114 xq2_tB = true := by decide +kernel
theorem xq2_sA : xq2_LA.all ix_so = true ∧ xq2_LAo.all ix_so = true := by decide +kernel
noncomputable def xq3_LA : ix_L := [some (ix_vR 80), some (ix_vI 3), some (ix_vI 0), some (ix_vS 8 0), some (ix_vS 9 0), none, none, none, none, none]
noncomputable def xq3_LB : ix_L := [some (ix_vR 80), some (ix_vI 3), some (ix_vI 0), some (ix_vS 8 0), some (ix_vS 9 0), some (ix_vS 10 0), none, none, none, none]
noncomputable def xq3_LC : ix_L := [some (ix_vR 80), some (ix_vI 3), some (ix_vI 0), some (ix_vS 8 0), some (ix_vS 9 0), some (ix_vS 10 0), some (ix_vI 0), some (ix_vS 11 0), none, none]
noncomputable def xq3_LD : ix_L := [some (ix_vR 80), some (ix_vI 3), some (ix_vI 0), some (ix_vS 8 0), some (ix_vS 9 0), some (ix_vS 10 0), some (ix_vI 0), some (ix_vS 11 0), some (ix_vI 0), some (ix_vS 12 0)]
noncomputable def xq3_LDo : ix_L := [some (ix_vR 80), some (ix_vI 3), some (ix_vI 0), some (ix_vS 8 1), some (ix_vS 9 0), some (ix_vS 10 0), some (ix_vI 0), some (ix_vS 11 0), some (ix_vI 0), some (ix_vS 12 1)]
noncomputable def xq3_LDx : ix_L := [some (ix_vR 80), some (ix_vI 3), some (ix_vI 0), some (ix_vS 8 0), some (ix_vS 9 0), some (ix_vS 10 0), some (ix_vI 0), some (ix_vS 11 0), some (ix_vI 0), some (ix_vI 64)]
noncomputable def xq3_LDxo : ix_L := [some (ix_vR 80), some (ix_vI 3), some (ix_vI 0), some (ix_vS 8 0), some (ix_vS 9 0), some (ix_vS 10 0), some (ix_vI 0), some (ix_vS 11 1), none, none]
noncomputable def xq3_LCo : ix_L := [some (ix_vR 80), some (ix_vI 3), some (ix_vI 0), some (ix_vS 8 1), some (ix_vS 9 0), some (ix_vS 10 0), some (ix_vI 0), some (ix_vS 11 1), none, none]
noncomputable def xq3_LCx : ix_L := [some (ix_vR 80), some (ix_vI 3), some (ix_vI 0), some (ix_vS 8 0), some (ix_vS 9 0), some (ix_vS 10 0), some (ix_vI 0), some (ix_vI 64), none, none]
noncomputable def xq3_LCxo : ix_L := [some (ix_vR 80), some (ix_vI 3), some (ix_vI 0), some (ix_vS 8 0), some (ix_vS 9 0), some (ix_vS 10 1), none, none, none, none]
noncomputable def xq3_LBo : ix_L := [some (ix_vR 80), some (ix_vI 3), some (ix_vI 0), some (ix_vS 8 0), some (ix_vS 9 0), some (ix_vS 10 0), some (ix_vI 0), some (ix_vS 10 1), none, none]
noncomputable def xq3_LBx : ix_L := [some (ix_vR 80), some (ix_vI 3), some (ix_vI 0), some (ix_vS 8 0), some (ix_vS 9 0), some (ix_vI 64), none, none, none, none]
noncomputable def xq3_LBxo : ix_L := [some (ix_vR 80), some (ix_vI 3), some (ix_vI 0), some (ix_vS 8 0), some (ix_vS 9 1), none, none, none, none, none]
noncomputable def xq3_LAo : ix_L := [some (ix_vR 80), some (ix_vI 3), some (ix_vI 0), some (ix_vS 8 0), some (ix_vS 9 0), some (ix_vS 9 1), none, none, none, none]
noncomputable def xq3_L0 : ix_L := [some (ix_vR 80), some (ix_vI 3), none, none, none, none, none, none, none, none]
noncomputable def xq3_L1 : ix_L := [some (ix_vR 80), some (ix_vI 3), some (ix_vI 0), some (ix_vI 1), some (ix_vI 0), some (ix_vI 1), some (ix_vI 0), some (ix_vI 2), none, none]
noncomputable def xq3_L2 : ix_L := [some (ix_vR 80), some (ix_vI 3), some (ix_vI 0), some (ix_vI 1), some (ix_vI 0), some (ix_vI 1), some (ix_vI 0), some (ix_vI 3), none, none]
noncomputable def xq3_req : List (Nat × ix_C) := [(79, xC141), (81, xC142), (105, xC143), (106, xC74), (107, xC144)]
noncomputable def xq3_fin : List (Nat × ix_C) := [(79, xC141), (81, xC142), (105, xC143), (106, xC74), (107, xC147)]
noncomputable def xq3_tA : ix_T := ix_puts (ix_dark 114) xq3_req
noncomputable def xq3_tB : ix_T := ix_puts (ix_dark 114) xq3_fin
theorem xq3_lA : ix_wl ix_lc xq3_tA = true := by decide +kernel
theorem xq3_lB : ix_wl ix_lc xq3_tB = true := by decide +kernel
set_option maxRecDepth 1000000 in
theorem xq3_k0 : ix_chk (ix_seg xq_P 353 6000 0 (xq_B, xq3_L0, [], 114, xq3_tA, 0, 0)) 353 xq3_L1 114 xq3_tB = true := by decide +kernel
theorem xq3_s0 : xq3_L0.all ix_so = true ∧ xq3_L1.all ix_so = true := by decide +kernel
set_option maxRecDepth 1000000 in
theorem xq3_k1 : ix_chk (ix_seg xq_P 117 300 353 (xq_B, xq3_L1, [], 114, xq3_tB, 0, 0)) 117 xq3_L2 114 xq3_tB = true := by decide +kernel
theorem xq3_s1 : xq3_L1.all ix_so = true ∧ xq3_L2.all ix_so = true := by decide +kernel
set_option maxRecDepth 1000000 in
theorem xq3_kC : ix_chk (ix_seg xq_P 117 300 117 (xq_B, xq3_LC, [], 114, xq3_tB, 0, 0)) 117 xq3_LCo 114 xq3_tB = true := by decide +kernel
theorem xq3_sC : xq3_LC.all ix_so = true ∧ xq3_LCo.all ix_so = true := by decide +kernel
set_option maxRecDepth 1000000 in
theorem xq3_kCx : ix_chk (ix_seg xq_P 33 300 117 (xq_B, xq3_LCx, [], 114, xq3_tB, 0, 0)) 33 xq3_LCxo 114 xq3_tB = true := by decide +kernel
theorem xq3_sCx : xq3_LCx.all ix_so = true ∧ xq3_LCxo.all ix_so = true := by decide +kernel
set_option maxRecDepth 1000000 in
theorem xq3_kB : ix_chk (ix_seg xq_P2 117 300 33 (xq_B, xq3_LB, [], 114, xq3_tB, 0, 0)) 117 xq3_LBo 114 xq3_tB = true := by decide +kernel
theorem xq3_sB : xq3_LB.all ix_so = true ∧ xq3_LBo.all ix_so = true := by decide +kernel
set_option maxRecDepth 1000000 in
theorem xq3_kBx : ix_chk (ix_seg xq_P 18 300 33 (xq_B, xq3_LBx, [], 114, xq3_tB, 0, 0)) 18 xq3_LBxo 114 xq3_tB = true := by decide +kernel
theorem xq3_sBx : xq3_LBx.all ix_so = true ∧ xq3_LBxo.all ix_so = true := by decide +kernel
set_option maxRecDepth 1000000 in
theorem xq3_kA : ix_chk (ix_seg xq_P 33 300 18 (xq_B, xq3_LA, [], 114, xq3_tB, 0, 0)) 33 xq3_LAo 114 xq3_tB = true := by decide +kernel
theorem xq3_sA : xq3_LA.all ix_so = true ∧ xq3_LAo.all ix_so = true := by decide +kernel
noncomputable def xq4_LA : ix_L := [some (ix_vR 80), some (ix_vI 4), some (ix_vI 0), some (ix_vS 8 0), some (ix_vS 9 0), none, none, none, none, none]
noncomputable def xq4_LB : ix_L := [some (ix_vR 80), some (ix_vI 4), some (ix_vI 0), some (ix_vS 8 0), some (ix_vS 9 0), some (ix_vS 10 0), none, none, none, none]
noncomputable def xq4_LC : ix_L := [some (ix_vR 80), some (ix_vI 4), some (ix_vI 0), some (ix_vS 8 0), some (ix_vS 9 0), some (ix_vS 10 0), some (ix_vI 0), some (ix_vS 11 0), none, none]
noncomputable def xq4_LD : ix_L := [some (ix_vR 80), some (ix_vI 4), some (ix_vI 0), some (ix_vS 8 0), some (ix_vS 9 0), some (ix_vS 10 0), some (ix_vI 0), some (ix_vS 11 0), some (ix_vI 0), some (ix_vS 12 0)]
noncomputable def xq4_LDo : ix_L := [some (ix_vR 80), some (ix_vI 4), some (ix_vI 0), some (ix_vS 8 1), some (ix_vS 9 0), some (ix_vS 10 0), some (ix_vI 0), some (ix_vS 11 0), some (ix_vI 0), some (ix_vS 12 1)]
noncomputable def xq4_LDx : ix_L := [some (ix_vR 80), some (ix_vI 4), some (ix_vI 0), some (ix_vS 8 0), some (ix_vS 9 0), some (ix_vS 10 0), some (ix_vI 0), some (ix_vS 11 0), some (ix_vI 0), some (ix_vI 64)]
noncomputable def xq4_LDxo : ix_L := [some (ix_vR 80), some (ix_vI 4), some (ix_vI 0), some (ix_vS 8 0), some (ix_vS 9 0), some (ix_vS 10 0), some (ix_vI 0), some (ix_vS 11 1), none, none]
noncomputable def xq4_LCo : ix_L := [some (ix_vR 80), some (ix_vI 4), some (ix_vI 0), some (ix_vS 8 0), some (ix_vS 9 0), some (ix_vS 10 0), some (ix_vI 0), some (ix_vS 11 0), some (ix_vI 0), some (ix_vS 11 1)]
noncomputable def xq4_LCx : ix_L := [some (ix_vR 80), some (ix_vI 4), some (ix_vI 0), some (ix_vS 8 0), some (ix_vS 9 0), some (ix_vS 10 0), some (ix_vI 0), some (ix_vI 64), none, none]
noncomputable def xq4_LCxo : ix_L := [some (ix_vR 80), some (ix_vI 4), some (ix_vI 0), some (ix_vS 8 0), some (ix_vS 9 0), some (ix_vS 10 1), none, none, none, none]
noncomputable def xq4_LBo : ix_L := [some (ix_vR 80), some (ix_vI 4), some (ix_vI 0), some (ix_vS 8 0), some (ix_vS 9 0), some (ix_vS 10 0), some (ix_vI 0), some (ix_vS 10 1), none, none]
noncomputable def xq4_LBx : ix_L := [some (ix_vR 80), some (ix_vI 4), some (ix_vI 0), some (ix_vS 8 0), some (ix_vS 9 0), some (ix_vI 64), none, none, none, none]
noncomputable def xq4_LBxo : ix_L := [some (ix_vR 80), some (ix_vI 4), some (ix_vI 0), some (ix_vS 8 0), some (ix_vS 9 1), none, none, none, none, none]
noncomputable def xq4_LAo : ix_L := [some (ix_vR 80), some (ix_vI 4), some (ix_vI 0), some (ix_vS 8 0), some (ix_vS 9 0), some (ix_vS 9 1), none, none, none, none]
noncomputable def xq4_L0 : ix_L := [some (ix_vR 80), some (ix_vI 4), none, none, none, none, none, none, none, none]
noncomputable def xq4_L1 : ix_L := [some (ix_vR 80), some (ix_vI 4), some (ix_vI 0), some (ix_vI 61), some (ix_vI 0), some (ix_vI 1), some (ix_vI 0), some (ix_vI 2), none, none]
noncomputable def xq4_L2 : ix_L := [some (ix_vR 80), some (ix_vI 4), some (ix_vI 0), some (ix_vI 61), some (ix_vI 0), some (ix_vI 1), some (ix_vI 0), some (ix_vI 3), none, none]
noncomputable def xq4_req : List (Nat × ix_C) := [(79, xC141), (81, xC142), (105, xC143), (106, xC74), (107, xC144)]
noncomputable def xq4_fin : List (Nat × ix_C) := [(79, xC141), (81, xC142), (105, xC143), (106, xC74), (107, xC148)]
noncomputable def xq4_tA : ix_T := ix_puts (ix_dark 114) xq4_req
noncomputable def xq4_tB : ix_T := ix_puts (ix_dark 114) xq4_fin
theorem xq4_lA : ix_wl ix_lc xq4_tA = true := by decide +kernel
theorem xq4_lB : ix_wl ix_lc xq4_tB = true := by decide +kernel
set_option maxRecDepth 1000000 in
theorem xq4_k0 : ix_chk (ix_seg xq_P 353 6000 0 (xq_B, xq4_L0, [], 114, xq4_tA, 0, 0)) 353 xq4_L1 114 xq4_tB = true := by decide +kernel
theorem xq4_s0 : xq4_L0.all ix_so = true ∧ xq4_L1.all ix_so = true := by decide +kernel
set_option maxRecDepth 1000000 in
theorem xq4_k1 : ix_chk (ix_seg xq_P 117 300 353 (xq_B, xq4_L1, [], 114, xq4_tB, 0, 0)) 117 xq4_L2 114 xq4_tB = true := by decide +kernel
theorem xq4_s1 : xq4_L1.all ix_so = true ∧ xq4_L2.all ix_so = true := by decide +kernel
set_option maxRecDepth 1000000 in
theorem xq4_kD : ix_chk (ix_seg xq_P 191 300 191 (xq_B, xq4_LD, [], 114, xq4_tB, 0, 0)) 191 xq4_LDo 114 xq4_tB = true := by decide +kernel
theorem xq4_sD : xq4_LD.all ix_so = true ∧ xq4_LDo.all ix_so = true := by decide +kernel
set_option maxRecDepth 1000000 in
theorem xq4_kDx : ix_chk (ix_seg xq_P 117 300 191 (xq_B, xq4_LDx, [], 114, xq4_tB, 0, 0)) 117 xq4_LDxo 114 xq4_tB = true := by decide +kernel
theorem xq4_sDx : xq4_LDx.all ix_so = true ∧ xq4_LDxo.all ix_so = true := by decide +kernel
set_option maxRecDepth 1000000 in
theorem xq4_kC : ix_chk (ix_seg xq_P 191 300 117 (xq_B, xq4_LC, [], 114, xq4_tB, 0, 0)) 191 xq4_LCo 114 xq4_tB = true := by decide +kernel
theorem xq4_sC : xq4_LC.all ix_so = true ∧ xq4_LCo.all ix_so = true := by decide +kernel
set_option maxRecDepth 1000000 in
theorem xq4_kCx : ix_chk (ix_seg xq_P 33 300 117 (xq_B, xq4_LCx, [], 114, xq4_tB, 0, 0)) 33 xq4_LCxo 114 xq4_tB = true := by decide +kernel
theorem xq4_sCx : xq4_LCx.all ix_so = true ∧ xq4_LCxo.all ix_so = true := by decide +kernel
set_option maxRecDepth 1000000 in
theorem xq4_kB : ix_chk (ix_seg xq_P2 117 300 33 (xq_B, xq4_LB, [], 114, xq4_tB, 0, 0)) 117 xq4_LBo 114 xq4_tB = true := by decide +kernel
theorem xq4_sB : xq4_LB.all ix_so = true ∧ xq4_LBo.all ix_so = true := by decide +kernel
set_option maxRecDepth 1000000 in
theorem xq4_kBx : ix_chk (ix_seg xq_P 18 300 33 (xq_B, xq4_LBx, [], 114, xq4_tB, 0, 0)) 18 xq4_LBxo 114 xq4_tB = true := by decide +kernel
theorem xq4_sBx : xq4_LBx.all ix_so = true ∧ xq4_LBxo.all ix_so = true := by decide +kernel
set_option maxRecDepth 1000000 in
theorem xq4_kA : ix_chk (ix_seg xq_P 33 300 18 (xq_B, xq4_LA, [], 114, xq4_tB, 0, 0)) 33 xq4_LAo 114 xq4_tB = true := by decide +kernel
theorem xq4_sA : xq4_LA.all ix_so = true ∧ xq4_LAo.all ix_so = true := by decide +kernel
