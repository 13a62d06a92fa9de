/-! characters of constant texts, and rows of constants -/
section TYSX
variable {h : ty_H} {cp : Nat × Nat} {pc : Nat} {M : ix_M} {cap : Nat → Nat} {d : Nat}
theorem ty_out {σ : ty_Sg} {W : ty_W} {n p : Nat} {t : ix_T} {w : ix_V} (hw : ty_wk h σ W n t) (hp : 1000000 < p) (hr : ty_rv (ty_k h W) σ (.inr (.inr (.inl (p + 1)))) w) : w = .inr (.inr (.inl (p + 1))) := by
  rcases hr with ⟨h1, _⟩ | ⟨_, h2⟩
  · have := ty_k6 hw
    have h1' : p < (ty_k h W).2.2 := h1
    omega
  · exact h2
theorem ty_lv1 {k : ty_K} {σ : ty_Sg} {n : Nat} (hn : n < 2147483648) : ty_rv k σ (.inl (4294967296 + n)) (.inl n) := by
  refine ⟨n, rfl, show n < 4294967296 by omega, ?_⟩
  show 4294967296 + n = ty_kp n
  rw [ty_kp_nn hn, Nat.add_comm]
noncomputable def ty_ogf (fld nx : Nat) : ty_S → ty_R
  | (W, L, .inr (.inr (.inl r)) :: st, w) => (match r with
    | 0 => none
    | p + 1 => cond (Nat.ble 2000000 p) (match ix_stx p with
      | some _ => some [(nx, (W, L, cond (Nat.beq fld 0) (.inr (.inr (.inl (Nat.succ (Nat.add p 1000000))))) (.inl 4294967296) :: st, w))]
      | none => none) none)
  | _ => none
theorem ts_ogf {fld nx : Nat} : ty_sd h cp pc (fun _ => ix_ogf fld nx) (ty_ogf fld nx) := by
  intro S outs hs σ C hi
  obtain ⟨W, L, st, w⟩ := S
  obtain ⟨ls, stk, n, t, ce, sl⟩ := C
  rcases st with _ | ⟨a, st⟩
  · cases hs
  · rcases a with b | q | r | q
    · cases hs
    · cases hs
    · cases r with
      | zero => cases hs
      | succ p =>
        change cond (Nat.ble 2000000 p) (match ix_stx p with
          | some _ => some [(nx, (W, L, cond (Nat.beq fld 0) (.inr (.inr (.inl (Nat.succ (Nat.add p 1000000))))) (.inl 4294967296) :: st, w))]
          | none => none) none = some outs at hs
        cases hc : Nat.ble 2000000 p with
        | false => rw [hc] at hs; cases hs
        | true =>
          rw [hc, cond_true] at hs
          have hp : 2000000 ≤ p := ix_ble.mp hc
          obtain ⟨x, stk', e, x2, x3⟩ := ty_vs_1 hi.2.2.1
          have e' : stk = x :: stk' := e
          subst e'
          have hx := ty_out hi.1 (by omega) x2
          subst hx
          split at hs
          · rename_i q hq
            cases hs
            refine ty_sd1 ty_mo.rf ty_agr.rf (C' := (ls, cond (Nat.beq fld 0) (ix_vR (Nat.succ (Nat.add p 1000000))) (ix_vI 0) :: stk', n, t, ce, sl)) ⟨hi.1, hi.2.1, ⟨?_, x3⟩, hi.2.2.2⟩ (fun g => ?_)
            · cases Nat.beq fld 0 with
              | true => exact Or.inr ⟨show 1000000 ≤ p + 1000000 by omega, rfl⟩
              | false => exact ty_lv1 (n := 0) (by decide)
            · show (match ix_stx p with
                | some _ => some [(nx, ([], ls, cond (Nat.beq fld 0) (ix_vR (Nat.succ (Nat.add p 1000000))) (ix_vI 0) :: stk', n, t, ce, sl))]
                | none => none) = _
              rw [hq]
          · cases hs
    · cases hs
noncomputable def ty_olen (nx : Nat) : ty_S → ty_R
  | (W, L, .inr (.inr (.inl r)) :: st, w) => (match r with
    | 0 => none
    | p + 1 => cond (Nat.ble 3000000 p) (match ix_sty p with
      | some (len, _) => cond (Nat.blt len 2147483648) (some [(nx, (W, L, .inl (Nat.add 4294967296 len) :: st, w))]) none
      | none => none) none)
  | _ => none
theorem ts_olen {nx : Nat} : ty_sd h cp pc (fun _ => ix_olen nx) (ty_olen nx) := by
  intro S outs hs σ C hi
  obtain ⟨W, L, st, w⟩ := S
  obtain ⟨ls, stk, n, t, ce, sl⟩ := C
  rcases st with _ | ⟨a, st⟩
  · cases hs
  · rcases a with b | q | r | q
    · cases hs
    · cases hs
    · cases r with
      | zero => cases hs
      | succ p =>
        unfold ty_olen at hs
        dsimp only at hs
        cases hc : Nat.ble 3000000 p with
        | false => rw [hc] at hs; cases hs
        | true =>
          rw [hc, cond_true] at hs
          have hp : 3000000 ≤ p := ix_ble.mp hc
          obtain ⟨x, stk', e, x2, x3⟩ := ty_vs_1 hi.2.2.1
          have e' : stk = x :: stk' := e
          subst e'
          have hx := ty_out hi.1 (by omega) x2
          subst hx
          split at hs
          · rename_i len f hq
            cases hl : Nat.blt len 2147483648 with
            | false => rw [hl] at hs; cases hs
            | true =>
              rw [hl, cond_true] at hs
              cases hs
              refine ty_sd1 ty_mo.rf ty_agr.rf (C' := (ls, ix_vI len :: stk', n, t, ce, sl)) ⟨hi.1, hi.2.1, ⟨ty_lv1 (ix_blt.mp hl), x3⟩, hi.2.2.2⟩ (fun g => ?_)
              show ix_olen nx ([], ls, .inr (.inr (.inl (p + 1))) :: stk', n, t, ce, sl) = _
              unfold ix_olen
              dsimp only
              rw [hq]
          · cases hs
    · cases hs
/-- all are below 128 -/
noncomputable def ty_ch7 (f : ix_A) : Nat → Bool
  | 0 => true
  | m + 1 => (match ix_g f m with
    | .inl c => Nat.blt c 128
    | _ => false) && ty_ch7 f m
theorem ty_ch7_ok {f : ix_A} : ∀ (n : Nat), ty_ch7 f n = true → ∀ m, m < n → ∃ c, ix_g f m = .inl c ∧ c < 128
  | 0, _, m, hm => absurd hm (Nat.not_lt_zero m)
  | n + 1, he, m, hm => by
    have c := Bool.and_eq_true_iff.mp he
    by_cases e : m = n
    · subst e
      have c1 := c.1
      split at c1
      · rename_i x hx
        exact ⟨x, hx, ix_blt.mp c1⟩
      · cases c1
    · exact ty_ch7_ok n c.2 m (by omega)
noncomputable def ty_obd (nx : Nat) : ty_S → ty_R
  | (W, L, j :: .inr (.inr (.inl r)) :: st, w) => (match r with
    | 0 => none
    | p + 1 => cond (Nat.ble 3000000 p && ty_isI j) (match ix_sty p with
      | some (len, f) => cond (Nat.ble 4294967296 (ty_rng W.1 j).1 && (Nat.blt (ty_rng W.1 j).2 (Nat.add 4294967296 len) && ty_ch7 f len)) (cond (Nat.beq (ty_rng W.1 j).1 (ty_rng W.1 j).2) (match ix_g f (Nat.sub (ty_rng W.1 j).1 4294967296) with
        | .inl c => some [(nx, (W, L, .inl (Nat.add 4294967296 c) :: st, w))]
        | _ => none) (match ty_fr 4294967296 4294967423 W.1 with
        | some (v, A) => some [(nx, ((A, W.2), L, v :: st, w))]
        | none => none)) none
      | none => none) none)
  | _ => none
theorem ts_obd {nx : Nat} : ty_sd h cp pc (fun _ => ix_obd nx) (ty_obd nx) := by
  intro S outs hs σ C hi
  obtain ⟨W, L, st, w⟩ := S
  obtain ⟨ls, stk, n, t, ce, sl⟩ := C
  rcases st with _ | ⟨j, _ | ⟨b, st⟩⟩
  · cases hs
  · cases hs
  · rcases b with b | q | r | q
    · cases hs
    · cases hs
    · cases r with
      | zero => cases hs
      | succ p =>
        unfold ty_obd at hs
        dsimp only at hs
        cases hc : (Nat.ble 3000000 p && ty_isI j) with
        | false => rw [hc] at hs; cases hs
        | true =>
          rw [hc, cond_true] at hs
          have c := Bool.and_eq_true_iff.mp hc
          have hp : 3000000 ≤ p := ix_ble.mp c.1
          obtain ⟨y, stk1, e, y2, y3⟩ := ty_vs_1 hi.2.2.1
          obtain ⟨x, stk', e3, x2, x3⟩ := ty_vs_1 y3
          have e' : stk = y :: x :: stk' := by rw [← e3]; exact e
          subst e'
          have hx := ty_out hi.1 (by omega) x2
          subst hx
          obtain ⟨m, rfl, hm⟩ := y2.toint c.2
          have hr : (ty_rng W.1 j).1 ≤ ty_kp m ∧ ty_kp m ≤ (ty_rng W.1 j).2 := ty_rng_ok hi.1.1 hm
          split at hs
          · rename_i len f hq
            cases hd : (Nat.ble 4294967296 (ty_rng W.1 j).1 && (Nat.blt (ty_rng W.1 j).2 (Nat.add 4294967296 len) && ty_ch7 f len)) with
            | false => rw [hd] at hs; cases hs
            | true =>
              rw [hd, cond_true] at hs
              have d := Bool.and_eq_true_iff.mp hd
              have d2 := Bool.and_eq_true_iff.mp d.2
              have l1 : 4294967296 ≤ (ty_rng W.1 j).1 := ix_ble.mp d.1
              have l2 : (ty_rng W.1 j).2 < 4294967296 + len := ix_blt.mp d2.1
              obtain ⟨m1, m2⟩ := ty_nn hm.1 (by omega)
              have hml : m < len := by omega
              obtain ⟨ch, ch1, ch2⟩ := ty_ch7_ok len d2.2 m hml
              have hstep : ix_obd nx ([], ls, .inl m :: .inr (.inr (.inl (p + 1))) :: stk', n, t, ce, sl) = some [(nx, ([], ls, .inl ch :: stk', n, t, ce, sl))] := by
                unfold ix_obd
                dsimp only
                rw [hq]
                show cond (Nat.blt m len) (some [(nx, ([], ls, ix_g f m :: stk', n, t, ce, sl))]) none = _
                rw [ix_blt.mpr hml, ch1]
                rfl
              cases hb : Nat.beq (ty_rng W.1 j).1 (ty_rng W.1 j).2 with
              | true =>
                rw [hb, cond_true] at hs
                have hb2 := ix_beq.mp hb
                have em : Nat.sub (ty_rng W.1 j).1 4294967296 = m := by
                  show (ty_rng W.1 j).1 - 4294967296 = m
                  omega
                rw [em, ch1] at hs
                cases hs
                exact ty_sd1 ty_mo.rf ty_agr.rf (C' := (ls, .inl ch :: stk', n, t, ce, sl)) ⟨hi.1, hi.2.1, ⟨ty_lv1 (by omega), x3⟩, hi.2.2.2⟩ (fun g => hstep)
              | false =>
                rw [hb, cond_false] at hs
                split at hs
                · rename_i v A hv
                  have ho := Option.some.inj hs
                  have ekp := ty_kp_nn (n := ch) (by omega)
                  obtain ⟨s, s1, s2, s3, s4⟩ := ty_fr_ok (n := ch) hi.1.1 hv (by omega) (by omega) (by omega)
                  obtain ⟨B, W2⟩ := W
                  obtain ⟨k1, k2, k3⟩ := ty_wk.boxes hi.1 s1 s2 s3
                  exact ⟨(nx, ((A, W2), L, v :: st, w)), by rw [← ho]; exact List.mem_cons_self, (s, σ.2), (ls, .inl ch :: stk', n, t, ce, sl), k3, k2, ⟨k1, hi.2.1.ag k2 k3.k, ⟨ty_rv.int s4, x3.ag k2 k3.k⟩, hi.2.2.2.ag k2⟩, Or.inr ⟨0, fun g _ => hstep⟩⟩
                · cases hs
          · cases hs
    · cases hs
/-- a constant of which nothing is known -/
noncomputable def ty_gfm (nx : Nat) : ty_S → ty_R := fun S => some [(nx, (S.1, (S.2.1, (.inr (.inr (.inl 0)) :: S.2.2.1, S.2.2.2)))), (nx, (S.1, (S.2.1, (.inr (.inr (.inl 2500001)) :: S.2.2.1, S.2.2.2))))]
theorem ts_gfm {O : ix_O} {nx : Nat} : ty_sd h cp pc (fun _ => ix_gfm O nx) (ty_gfm nx) := by
  intro S outs hs σ C hi
  obtain ⟨W, L, st, w⟩ := S
  obtain ⟨ls, stk, n, t, ce, sl⟩ := C
  cases hs
  cases ho : O 0 with
  | none => exact ⟨_, List.mem_cons_self, σ, (ls, ix_vR 0 :: stk, n, t, ce, sl), ty_mo.rf, ty_agr.rf, ⟨hi.1, hi.2.1, ⟨rfl, hi.2.2.1⟩, hi.2.2.2⟩, Or.inr ⟨0, fun g _ => by unfold ix_gfm; rw [ho]; rfl⟩⟩
  | some u => exact ⟨_, List.mem_cons_of_mem _ List.mem_cons_self, σ, (ls, ix_vR 2500001 :: stk, n, t, ce, sl), ty_mo.rf, ty_agr.rf, ⟨hi.1, hi.2.1, ⟨Or.inr ⟨by decide, rfl⟩, hi.2.2.1⟩, hi.2.2.2⟩, Or.inr ⟨0, fun g _ => by unfold ix_gfm; rw [ho]; rfl⟩⟩
/-- is the first argument a text -/
noncomputable def ty_rso (as : List ix_V) : Bool := match as with
  | .inr (.inr (.inl r)) :: _ => (match r with
    | 0 => false
    | p + 1 => Nat.ble 2000000 p && (ix_stx p).isSome)
  | _ => false
theorem ty_rso_ok {σ : ty_Sg} {W : ty_W} {n : Nat} {t : ix_T} {as avs : List ix_V} (hw : ty_wk h σ W n t) (hv : ty_vs (ty_k h W) σ as avs) (hr : ty_rso as = true) : ix_rst avs n t = true := by
  unfold ty_rso at hr
  split at hr
  · rename_i r as
    obtain ⟨x, xs, rfl, x1, x2⟩ := ty_vs_1 hv
    cases r with
    | zero => cases hr
    | succ p =>
      have c := Bool.and_eq_true_iff.mp (show (Nat.ble 2000000 p && (ix_stx p).isSome) = true from hr)
      have hp : 2000000 ≤ p := ix_ble.mp c.1
      have e := ty_out hw (by omega) x1
      subst e
      exact c.2
  · cases hr
noncomputable def ty_cas (h : ty_H) (ac : ty_Call) (na y mc ms capC capS nx : Nat) : ty_S → ty_R
  | (W, L, st, ce, sl) => match ix_take na [] st with
    | some (as, rest) => cond (ty_rso as && (Nat.ble (ix_cats rest) 8 && (Nat.ble (Nat.add ce mc) capC && Nat.ble (Nat.add sl ms) capS))) (match ac y as W with
      | some outs => some (outs.map (fun o => (nx, (o.2, L, o.1 ++ rest, Nat.add ce mc, Nat.add sl ms))))
      | none => none) none
    | none => none
theorem ts_cas {na y mc ms capC capS nx : Nat} {ac : ty_Call} (hcap : cap y = mc) (hcp : capC ≤ cp.2) (hco : ty_CO h M cap d ac) : ty_sd h cp pc (fun g => ix_call ix_rst (ix_exec M ty_no g d) na y mc ms capC capS nx) (ty_cas h ac na y mc ms capC capS nx) := by
  intro S outs hs σ C hi
  obtain ⟨W, L, st, ce, sl⟩ := S
  obtain ⟨ls, stk, n, t, ce2, sl2⟩ := C
  change (match ix_take na [] st with
    | some (as, rest) => cond (ty_rso as && (Nat.ble (ix_cats rest) 8 && (Nat.ble (Nat.add ce mc) capC && Nat.ble (Nat.add sl ms) capS))) (match ac y as W with
      | some outs => some (outs.map (fun o => (nx, (o.2, L, o.1 ++ rest, Nat.add ce mc, Nat.add sl ms))))
      | none => none) none
    | none => none) = some outs at hs
  split at hs
  · rename_i as rest hta
    cases hc : (ty_rso as && (Nat.ble (ix_cats rest) 8 && (Nat.ble (Nat.add ce mc) capC && Nat.ble (Nat.add sl ms) capS))) with
    | false => rw [hc] at hs; cases hs
    | true =>
      rw [hc] at hs
      dsimp only [cond_true] at hs
      have c1 := Bool.and_eq_true_iff.mp hc
      have c2 := Bool.and_eq_true_iff.mp c1.2
      have c3 := Bool.and_eq_true_iff.mp c2.2
      have g1 : ce + mc ≤ capC := ix_ble.mp c3.1
      have g2 : sl + ms ≤ capS := ix_ble.mp c3.2
      have q1 : ce2 ≤ ce := hi.2.2.2.1
      have q2 : sl2 ≤ sl := hi.2.2.2.2.1
      have q3 : n ≤ cp.1 + ce2 := hi.2.2.2.2.2.1
      have q4 : cp.1 + cp.2 ≤ 16384 := hi.2.2.2.2.2.2.1
      split at hs
      · rename_i l hac
        have ho := Option.some.inj hs
        obtain ⟨avs, rest', t1, t2, t3⟩ := ty_take na [] [] st stk as rest trivial hi.2.2.1 hta
        obtain ⟨o, om, σ', C', m1, a1, w1, v1, n1, e1⟩ := hco y as W l hac σ avs n t hi.1 t2 (by omega)
        obtain ⟨f0, hf0⟩ := e1
        refine ⟨(nx, (o.2, L, o.1 ++ rest, Nat.add ce mc, Nat.add sl ms)), by rw [← ho]; exact List.mem_map.mpr ⟨o, om, rfl⟩, σ', (ls, C'.2.1 ++ rest', C'.2.2.1, C'.2.2.2.1, Nat.add ce2 mc, Nat.add sl2 ms), m1, a1, ⟨w1, hi.2.1.ag a1 m1.k, ty_vs_app v1 (t3.ag a1 m1.k), by show ce2 + mc ≤ ce + mc; omega, by show sl2 + ms ≤ sl + ms; omega, by show C'.2.2.1 ≤ cp.1 + (ce2 + mc); omega, q4, by show ce + mc ≤ cp.2; omega⟩, Or.inr ⟨f0, fun g hg => ?_⟩⟩
        show (match ix_take na [] stk with
          | some (as, rest) => cond (ix_rst as n t && (Nat.ble (ix_cats rest) 8 && (Nat.ble (Nat.add ce2 mc) capC && Nat.ble (Nat.add sl2 ms) capS))) (match ix_exec M ty_no g d y as [] n t with
            | some outs => some (outs.map (fun o : ix_S => (nx, (o.1, ls, o.2.2.1 ++ rest, o.2.2.2.1, o.2.2.2.2.1, Nat.add ce2 mc, Nat.add sl2 ms))))
            | none => none) none
          | none => none) = _
        rw [t1]
        dsimp only
        have ec : ix_cats rest' = ix_cats rest := (ty_cats rest rest' 0 t3).symm
        rw [ty_rso_ok hi.1 t2 c1.1, ec, c2.1, ix_ble.mpr (show Nat.add ce2 mc ≤ capC by show ce2 + mc ≤ capC; omega), ix_ble.mpr (show Nat.add sl2 ms ≤ capS by show sl2 + ms ≤ capS; omega), hf0 g hg]
        rfl
      · cases hs
  · cases hs
noncomputable def ty_aC (A : ty_A) (v : ix_V) : Bool := ty_isI v && (Nat.ble 4294967296 (ty_rng A v).1 && Nat.ble (ty_rng A v).2 4295032831)
theorem ty_okC : ty_okp ty_aC ix_isC := by
  intro A k2 σ v w hA hr ha
  have c1 := Bool.and_eq_true_iff.mp ha
  have c2 := Bool.and_eq_true_iff.mp c1.2
  obtain ⟨n, rfl, hn⟩ := hr.toint c1.1
  have g1 := ix_ble.mp c2.1
  have g2 := ix_ble.mp c2.2
  have g3 := ty_rng_ok hA hn
  have g4 := ty_kp_eq n
  have g5 := hn.1
  exact ix_blt.mpr (show n < 65536 by omega)
theorem ty_i2c_lt (z : Int32) : (ix_ji2c z).toBitVec.toNat < 65536 := by
  have e : (z.toUInt32 % 65536).toNat < 65536 := by
    rw [UInt32.toNat_mod]
    exact Nat.mod_lt _ (by decide)
  exact e
theorem ty_i2c_ok : ty_op1 (ix_s1 ix_ji2c) (ty_un (ix_s1 ix_ji2c) 4294967296 4295032831) := ty_un_ok (fun m hm => by
  have h1 : ix_s1 ix_ji2c m < 65536 := ty_i2c_lt (Int32.ofNat m)
  have k := ty_kp_nn (n := ix_s1 ix_ji2c m) (by omega)
  exact ⟨by omega, by omega, by omega⟩)
/-- what stands in the rows of constants -/
noncomputable def ty_oc (p m : Nat) : Option Nat := cond (Nat.beq p 1000001) (cond (Nat.beq m 0) (some 1) (cond (Nat.blt m 3) (some 0) none)) (cond (Nat.beq p 1000002) (cond (Nat.beq m 0) (some 6) (cond (Nat.beq m 1) (some 23) (cond (Nat.beq m 2) (some 10) none))) none)
def ty_hO (O : ix_O) : Prop := ∀ p m v, ty_oc p m = some v → ∃ f, O p = some (3, f) ∧ m < 3 ∧ ix_g f m = .inl v
noncomputable def ty_oal (nx : Nat) : ty_S → ty_R
  | (W, L, .inr (.inr (.inl r)) :: st, w) => (match r with
    | 0 => none
    | p + 1 => cond (Nat.blt 1000000 p) (match ty_oc p 0 with
      | some _ => some [(nx, (W, L, .inl 4294967299 :: st, w))]
      | none => none) none)
  | _ => none
theorem ty_gtn {σ : ty_Sg} {W : ty_W} {n p : Nat} {t : ix_T} (hw : ty_wk h σ W n t) (hp : 1000000 < p) : Nat.blt p n = false := by
  have h1 : n ≤ 16384 := hw.2.2.1.2.1
  cases hb : Nat.blt p n with
  | false => rfl
  | true => have := ix_blt.mp hb; omega
theorem ts_oal {O : ix_O} (hO : ty_hO O) {nx : Nat} : ty_sd h cp pc (fun _ => ix_alen O nx) (ty_oal nx) := by
  intro S outs hs σ C hi
  obtain ⟨W, L, st, w⟩ := S
  obtain ⟨ls, stk, n, t, ce, sl⟩ := C
  rcases st with _ | ⟨a, st⟩
  · cases hs
  · rcases a with b | q | r | q
    · cases hs
    · cases hs
    · cases r with
      | zero => cases hs
      | succ p =>
        change cond (Nat.blt 1000000 p) (match ty_oc p 0 with
          | some _ => some [(nx, (W, L, .inl 4294967299 :: st, w))]
          | none => none) none = some outs at hs
        cases hc : Nat.blt 1000000 p with
        | false => rw [hc] at hs; cases hs
        | true =>
          rw [hc, cond_true] at hs
          have hp := ix_blt.mp hc
          obtain ⟨x, stk', e, x2, x3⟩ := ty_vs_1 hi.2.2.1
          have e' : stk = x :: stk' := e
          subst e'
          have hx := ty_out hi.1 hp x2
          subst hx
          split at hs
          · rename_i v hv
            cases hs
            obtain ⟨f, f1, _, _⟩ := hO p 0 v hv
            refine ty_sd1 ty_mo.rf ty_agr.rf (C' := (ls, ix_vI 3 :: stk', n, t, ce, sl)) ⟨hi.1, hi.2.1, ⟨ty_lv1 (n := 3) (by decide), x3⟩, hi.2.2.2⟩ (fun g => ?_)
            show (match cond (Nat.blt p n) (match ix_g t p with | (kd, q) => cond (Nat.blt kd 98) (some q) none) (cond (Nat.blt p 1000000) none (O p)) with
              | some (len, _) => some [(nx, ([], ls, ix_vI len :: stk', n, t, ce, sl))]
              | none => none) = _
            have hb : Nat.blt p 1000000 = false := by
              cases hq : Nat.blt p 1000000 with
              | false => rfl
              | true => have := ix_blt.mp hq; omega
            rw [ty_gtn hi.1 hp, cond_false, hb, cond_false, f1]
          · cases hs
    · cases hs
noncomputable def ty_oad (nx : Nat) : ty_S → ty_R
  | (W, L, j :: .inr (.inr (.inl r)) :: st, w) => (match r with
    | 0 => none
    | p + 1 => cond (Nat.blt 1000000 p && (ty_isI j && (Nat.beq (ty_rng W.1 j).1 (ty_rng W.1 j).2 && Nat.ble 4294967296 (ty_rng W.1 j).1))) (match ty_oc p (Nat.sub (ty_rng W.1 j).1 4294967296) with
      | some v => cond (Nat.blt v 2147483648) (some [(nx, (W, L, .inl (Nat.add 4294967296 v) :: st, w))]) none
      | none => none) none)
  | _ => none
theorem ts_oad {O : ix_O} (hO : ty_hO O) {p0 nx : Nat} : ty_sd h cp pc (fun _ => ix_iald O p0 nx) (ty_oad nx) := by
  intro S outs hs σ C hi
  obtain ⟨W, L, st, w⟩ := S
  obtain ⟨ls, stk, n, t, ce, sl⟩ := C
  rcases st with _ | ⟨j, _ | ⟨b, st⟩⟩
  · cases hs
  · cases hs
  · rcases b with b | q | r | q
    · cases hs
    · cases hs
    · cases r with
      | zero => cases hs
      | succ p =>
        change cond (Nat.blt 1000000 p && (ty_isI j && (Nat.beq (ty_rng W.1 j).1 (ty_rng W.1 j).2 && Nat.ble 4294967296 (ty_rng W.1 j).1))) (match ty_oc p (Nat.sub (ty_rng W.1 j).1 4294967296) with
          | some v => cond (Nat.blt v 2147483648) (some [(nx, (W, L, .inl (Nat.add 4294967296 v) :: st, w))]) none
          | none => none) none = some outs at hs
        cases hc : (Nat.blt 1000000 p && (ty_isI j && (Nat.beq (ty_rng W.1 j).1 (ty_rng W.1 j).2 && Nat.ble 4294967296 (ty_rng W.1 j).1))) with
        | false => rw [hc] at hs; cases hs
        | true =>
          rw [hc, cond_true] at hs
          have c := Bool.and_eq_true_iff.mp hc
          have c2 := Bool.and_eq_true_iff.mp c.2
          have c3 := Bool.and_eq_true_iff.mp c2.2
          have hp : 1000000 < p := ix_blt.mp c.1
          obtain ⟨y, stk1, e, y2, y3⟩ := ty_vs_1 hi.2.2.1
          obtain ⟨x, stk', e3, x2, x3⟩ := ty_vs_1 y3
          have e' : stk = y :: x :: stk' := by rw [← e3]; exact e
          subst e'
          have hx := ty_out hi.1 hp x2
          subst hx
          obtain ⟨m, rfl, hm⟩ := y2.toint c2.1
          have hr : (ty_rng W.1 j).1 ≤ ty_kp m ∧ ty_kp m ≤ (ty_rng W.1 j).2 := ty_rng_ok hi.1.1 hm
          have b1 := ix_beq.mp c3.1
          have b2 : 4294967296 ≤ (ty_rng W.1 j).1 := ix_ble.mp c3.2
          obtain ⟨m1, m2⟩ := ty_nn hm.1 (by omega)
          have em : Nat.sub (ty_rng W.1 j).1 4294967296 = m := by
            show (ty_rng W.1 j).1 - 4294967296 = m
            omega
          rw [em] at hs
          split at hs
          · rename_i v hv
            cases hl : Nat.blt v 2147483648 with
            | false => rw [hl] at hs; cases hs
            | true =>
              rw [hl, cond_true] at hs
              cases hs
              obtain ⟨f, f1, f2, f3⟩ := hO p m v hv
              refine ty_sd1 ty_mo.rf ty_agr.rf (C' := (ls, .inl v :: stk', n, t, ce, sl)) ⟨hi.1, hi.2.1, ⟨ty_lv1 (ix_blt.mp hl), x3⟩, hi.2.2.2⟩ (fun g => ?_)
              show (match cond (Nat.blt p n) (match ix_g t p with | (kd, q) => cond (Nat.beq kd 0) (some q) none) (cond (Nat.blt p 1000000) none (O p)) with
                | some (len, f) => (match ix_nrm [] (.inl m) with
                  | .inl m => cond (Nat.blt m len) (some [(nx, ([], ls, ix_g f m :: stk', n, t, ce, sl))]) none
                  | .inr (.inr (.inr (x, _))) => ix_split p0 ([], ls, .inl m :: .inr (.inr (.inl (p + 1))) :: stk', n, t, ce, sl) x
                  | _ => none)
                | none => none) = _
              have hb : Nat.blt p 1000000 = false := by
                cases hq : Nat.blt p 1000000 with
                | false => rfl
                | true => have := ix_blt.mp hq; omega
              rw [ty_gtn hi.1 hp, cond_false, hb, cond_false, f1]
              show cond (Nat.blt m 3) (some [(nx, ([], ls, ix_g f m :: stk', n, t, ce, sl))]) none = _
              rw [ix_blt.mpr f2, f3]
              rfl
          · cases hs
    · cases hs
end TYSX
