/-! orders are run: their text is laid, what it says is known till their end -/
section TYOR
variable {h : ty_H} {cp : Nat × Nat}
noncomputable def pl_fld (i k : Nat) (v : ix_V) (t : ix_T) : ix_T := ix_u 14 t i ((ix_g t i).1, (ix_g t i).2.1, ix_u 6 (ix_g t i).2.2 k v)
theorem pl_iputf {ci k nx i n v : Nat} {ls : ix_L} {st : List ix_V} {t : ix_T} {w : Nat × Nat} (hi : i < n) (h1 : (ix_g t i).1 = ci) (h2 : k < (ix_g t i).2.1) : ix_putf ci k nx ix_isInt ([], ls, .inl v :: .inr (.inr (.inl (i + 1))) :: st, n, t, w) = some [(nx, ([], ls, st, n, pl_fld i k (.inl v) t, w))] := pl_putf hi rfl h1 h2
theorem pl_fld_o {c m j : Nat} {v : ix_V} {t : ix_T} (hc : c < 16384) (hj : j < 16384) (hn : ¬ j = c) : ix_g (pl_fld c m v t) j = ix_g t j := by
  unfold pl_fld
  rw [ix_gu 14 t c j _ hc hj, if_neg hn]
theorem pl_fld_s {c m : Nat} {v : ix_V} {t : ix_T} (hc : c < 16384) : ix_g (pl_fld c m v t) c = ((ix_g t c).1, (ix_g t c).2.1, ix_u 6 (ix_g t c).2.2 m v) := by
  unfold pl_fld
  rw [ix_gu 14 t c c _ hc hc, if_pos rfl]
theorem pl_fld_g {c m k : Nat} {v : ix_V} {t : ix_T} (hc : c < 16384) (hm : m < 64) (hk : k < 64) : ix_g (ix_g (pl_fld c m v t) c).2.2 k = if k = m then v else ix_g (ix_g t c).2.2 k := by
  rw [pl_fld_s hc]
  show ix_g (ix_u 6 (ix_g t c).2.2 m v) k = _
  rw [ix_gu 6 _ _ _ _ hm hk]
theorem pl_callv {chk : List ix_V → Nat → ix_T → Bool} {call : ix_Call} {na y mc ms cC cS nx n ce sl : Nat} {ls : ix_L} {st as rest : List ix_V} {t : ix_T} {C' : ty_C} (htake : ix_take na [] st = some (as, rest)) (hchk : chk as n t = true) (hcat : Nat.ble (ix_cats rest) 8 = true) (h1 : ce + mc ≤ cC) (h2 : sl + ms ≤ cS) (hev : call y as [] n t = some [([], C')]) : ix_call chk call na y mc ms cC cS nx ([], ls, st, n, t, ce, sl) = some [(nx, ([], ls, C'.2.1 ++ rest, C'.2.2.1, C'.2.2.2.1, ce + mc, sl + ms))] := by
  show (match ix_take na [] st with
    | some (as, rest) => cond (chk as n t && (Nat.ble (ix_cats rest) 8 && (Nat.ble (Nat.add ce mc) cC && Nat.ble (Nat.add sl ms) cS))) (match call y as [] n t with
      | some outs => some (outs.map (fun o : ix_S => (nx, (o.1, ls, o.2.2.1 ++ rest, o.2.2.2.1, o.2.2.2.2.1, Nat.add ce mc, Nat.add sl ms))))
      | none => none) none
    | none => none) = _
  rw [htake]
  dsimp only
  rw [hchk, hcat, ix_ble.mpr (show Nat.add ce mc ≤ cC from h1), ix_ble.mpr (show Nat.add sl ms ≤ cS from h2), hev]
  rfl

theorem pl_ord_84 {M : ix_M} {O : ix_O} {d n ce sl : Nat} {t : ix_T} {y1 y2 y3 y4 : Option ix_V} (H : 79 < n ∧ (ix_g t 79).1 = 112 ∧ 51 < (ix_g t 79).2.1) : ty_rt M d (ix_cX12_orders O) 84 ([some (.inr (.inr (.inl 80))), y1, y2, y3, y4], [], n, t, ce, sl) 96 ([some (.inr (.inr (.inl 80))), y1, y2, y3, y4], [], n, (pl_fld 79 51 (.inl 2400) (pl_fld 79 50 (.inl 0) t)), ce, sl) := by
  obtain ⟨h1, h5, h6⟩ := H
  have s0 : ty_rt M d (ix_cX12_orders O) 84 ([some (.inr (.inr (.inl 80))), y1, y2, y3, y4], [], n, t, ce, sl) 85 ([some (.inr (.inr (.inl 80))), y1, y2, y3, y4], [.inr (.inr (.inl 80))], n, t, ce, sl) := pl_go (by decide) (fun _ => pl_T rfl (pl_F rfl (pl_F rfl (pl_T rfl (pl_F rfl (pl_T rfl (pl_T rfl (pl_T rfl (rfl)))))))))
  have s1 : ty_rt M d (ix_cX12_orders O) 85 ([some (.inr (.inr (.inl 80))), y1, y2, y3, y4], [.inr (.inr (.inl 80))], n, t, ce, sl) 86 ([some (.inr (.inr (.inl 80))), y1, y2, y3, y4], [.inl 0, .inr (.inr (.inl 80))], n, t, ce, sl) := pl_go (by decide) (fun _ => pl_T rfl (pl_F rfl (pl_F rfl (pl_T rfl (pl_F rfl (pl_T rfl (pl_F rfl (pl_T rfl (rfl)))))))))
  have s2 : ty_rt M d (ix_cX12_orders O) 86 ([some (.inr (.inr (.inl 80))), y1, y2, y3, y4], [.inl 0, .inr (.inr (.inl 80))], n, t, ce, sl) 89 ([some (.inr (.inr (.inl 80))), y1, y2, y3, y4], [], n, (pl_fld 79 50 (.inl 0) t), ce, sl) := pl_go (by decide) (fun _ => pl_T rfl (pl_F rfl (pl_F rfl (pl_T rfl (pl_F rfl (pl_F rfl (pl_T rfl (pl_T rfl (pl_iputf h1 h5 (by omega))))))))))
  have s3 : ty_rt M d (ix_cX12_orders O) 89 ([some (.inr (.inr (.inl 80))), y1, y2, y3, y4], [], n, (pl_fld 79 50 (.inl 0) t), ce, sl) 90 ([some (.inr (.inr (.inl 80))), y1, y2, y3, y4], [.inr (.inr (.inl 80))], n, (pl_fld 79 50 (.inl 0) t), ce, sl) := pl_go (by decide) (fun _ => pl_T rfl (pl_F rfl (pl_F rfl (pl_T rfl (pl_F rfl (pl_F rfl (pl_F rfl (pl_T rfl (rfl)))))))))
  have s4 : ty_rt M d (ix_cX12_orders O) 90 ([some (.inr (.inr (.inl 80))), y1, y2, y3, y4], [.inr (.inr (.inl 80))], n, (pl_fld 79 50 (.inl 0) t), ce, sl) 93 ([some (.inr (.inr (.inl 80))), y1, y2, y3, y4], [.inl 2400, .inr (.inr (.inl 80))], n, (pl_fld 79 50 (.inl 0) t), ce, sl) := pl_go (by decide) (fun _ => pl_T rfl (pl_F rfl (pl_F rfl (pl_F rfl (pl_T rfl (pl_T rfl (pl_T rfl (pl_T rfl (rfl)))))))))
  have s5 : ty_rt M d (ix_cX12_orders O) 93 ([some (.inr (.inr (.inl 80))), y1, y2, y3, y4], [.inl 2400, .inr (.inr (.inl 80))], n, (pl_fld 79 50 (.inl 0) t), ce, sl) 96 ([some (.inr (.inr (.inl 80))), y1, y2, y3, y4], [], n, (pl_fld 79 51 (.inl 2400) (pl_fld 79 50 (.inl 0) t)), ce, sl) := pl_go (by decide) (fun _ => pl_T rfl (pl_F rfl (pl_F rfl (pl_F rfl (pl_T rfl (pl_T rfl (pl_F rfl (pl_T rfl (pl_iputf h1 (by rw [pl_fld_s (by decide)]; exact h5) (by rw [pl_fld_s (by decide)]; show 51 < (ix_g t 79).2.1; omega))))))))))
  exact s0.tr (s1.tr (s2.tr (s3.tr (s4.tr (s5)))))
theorem pl_ord_81 {M : ix_M} {O : ix_O} {d n : Nat} {t : ix_T} {C' : ty_C} {y1 y2 y3 y4 : Option ix_V} (H : 79 < n ∧ (ix_g t 79).1 = 112) (hev : ty_ev M d 145 [.inr (.inr (.inl 80)), .inl 6] n t C') : ty_rt M d (ix_cX12_orders O) 81 ([some (.inr (.inr (.inl 80))), y1, y2, y3, y4], [.inl 6, .inr (.inr (.inl 80))], n, t, 0, 0) 84 ([some (.inr (.inr (.inl 80))), y1, y2, y3, y4], C'.2.1, C'.2.2.1, C'.2.2.2.1, 0, 0) := by
  obtain ⟨f0, h0⟩ := hev
  refine ty_rt_step (by decide) ⟨f0, fun g hg => ?_⟩
  have z := pl_callv (chk := ix_rcv 112) (call := ix_exec M ty_no g d) (na := 2) (y := 145) (mc := 0) (ms := 0) (cC := 0) (cS := 0) (nx := 84) (n := n) (ce := 0) (sl := 0) (ls := [some (.inr (.inr (.inl 80))), y1, y2, y3, y4]) (st := [.inl 6, .inr (.inr (.inl 80))]) (as := [.inr (.inr (.inl 80)), .inl 6]) (rest := []) (t := t) (C' := C') rfl (by
    show (Nat.blt 79 n && Nat.beq (ix_g t 79).1 112) = true
    rw [ix_blt.mpr H.1, ix_beq.mpr H.2]
    rfl) rfl (Nat.le_refl _) (Nat.le_refl _) (h0 g hg)
  rw [List.append_nil] at z
  exact pl_T rfl (pl_F rfl (pl_F rfl (pl_T rfl (pl_T rfl (pl_F rfl (pl_F rfl (pl_T rfl (z))))))))
/-- a slot of the reference's object is set, nothing else -/
theorem ty_inv_79 {γ γ' : Nat → Nat} {t t' : ix_T} (hi : ty_inv γ t) (h81 : ix_g t' 81 = ix_g t 81) (h82 : ix_g t' 82 = ix_g t 82) (h83 : ix_g t' 83 = ix_g t 83) (h84 : ix_g t' 84 = ix_g t 84) (h2 : γ' 1001 = 1 → tx_n t' 81 199 = γ' 1002 ∧ γ' 1002 ≤ 400 ∧ γ' (2000 + tx_n t' 79 51) = 1 ∧ ∀ m, γ' (2000 + m) = 1 ↔ tx_acc (tx_k t' 81 0 (2400 + γ' 1002)) (tx_SE 1) m) (h5 : γ' 1001 = 1 → 1 ≤ tx_n t' 83 182) : ty_inv γ' t' := by
  have sm : ∀ {c o : Nat}, ix_g t' c = ix_g t c → ∀ k, 193 ≤ k → k < 5800 → tx_n t' c (o + k) = tx_n t c (o + k) := fun e _ _ _ => tx_n_c e
  exact ⟨⟨fun k hk => ⟨tx_t_cp hk (sm h81) (hi.1.1 k hk).1, tx_t_cp hk (sm h82) (hi.1.1 k hk).2.1, tx_t_cp hk (sm h82) (hi.1.1 k hk).2.2.1, tx_t_cp hk (sm h83) (hi.1.1 k hk).2.2.2⟩, h2⟩, fun k hk => by
    rw [tx_n_c h84, tx_n_c h82]
    exact hi.2.1 k hk, h5⟩
theorem ty_hp_fld {σ : ty_Sg} {γ : Nat → Nat} {n k m : Nat} {t : ix_T} (hh : ty_hp h σ n t) (h100 : 100 ≤ (h.2 79).1) (h64 : (h.2 79).2.2.1 ≤ 64) (hk : k < (h.2 79).2.1) (hm : m < 2147483648) (hq : ty_cpd (ix_g (h.2 79).2.2.2.1 k) (0, (m + 4294967296, m + 4294967296)) = true) (hinv : ty_inv γ (pl_fld 79 k (.inl m) t)) : ty_hp h (σ.1, (γ, σ.2.2)) n (pl_fld 79 k (.inl m) t) := by
  obtain ⟨n79, k79⟩ := ty_cell hh (show 79 < 114 by decide)
  have hn16 := hh.2.1
  have e114 := hh.2.2.2.2.2.1.1
  refine ⟨hh.1, hh.2.1, hh.2.2.1, fun i hi => ?_, hh.2.2.2.2.1, hh.2.2.2.2.2.1, hinv, hh.2.2.2.2.2.2.2⟩
  show ty_cok σ.2.2.2 n (h.2 (σ.2.2.2 i)) (ix_g (pl_fld 79 k (.inl m) t) i)
  by_cases e : i = 79
  · subst e
    rw [(hh.2.2.2.2.1 79 hi).1 (by omega)]
    have e1 : (ix_g (pl_fld 79 k (.inl m) t) 79).1 = (ix_g t 79).1 := by rw [pl_fld_s (by decide)]
    have e2 : (ix_g (pl_fld 79 k (.inl m) t) 79).2.1 = (ix_g t 79).2.1 := by rw [pl_fld_s (by decide)]
    refine ⟨by rw [e1]; exact k79.1, by rw [e2]; exact k79.2.1, by rw [e2]; exact k79.2.2.1, fun x hx => ?_⟩
    rw [e2] at hx
    have g1 := k79.2.1
    have g2 := k79.2.2.1
    rw [pl_fld_g (by decide) (by omega) (by omega)]
    by_cases q : x = k
    · rw [if_pos q, q]
      obtain ⟨d1, d2, d3, d4⟩ := ty_cpd_ok hq
      refine ⟨fun _ => ?_, fun g => by omega, fun g => by omega⟩
      unfold ty_sok
      rw [d1]
      have z := ty_kp_nn hm
      exact ⟨m, rfl, by omega, by rw [z]; exact d3, by rw [z]; exact d4⟩
    · rw [if_neg q]
      exact k79.2.2.2 x hx
  · rw [pl_fld_o (by decide) (by omega) e]
    exact hh.2.2.2.1 i hi
noncomputable def ty_oX : ty_X := [((79, .inl 4294967347), .inl 4294969696), ((113, .inr (.inl 2)), .inl 4294969696), ((113, .inr (.inl 10)), .inl 4294969696)]
noncomputable def ty_oW (W : ty_W) : ty_W := (W.1, (W.2.1, (W.2.2.1, (W.2.2.2.1, ty_oX))))
noncomputable def ty_fX : ty_X := [((113, .inr (.inl 14)), .inl 4294967296)]
noncomputable def ty_fW (W : ty_W) : ty_W := (W.1, (W.2.1, (W.2.2.1, (W.2.2.2.1, ty_fX))))
noncomputable def ty_l7 (W : ty_W) : Bool := W.2.2.2.2.any (fun f => match f.1.2 with
  | .inr (.inl q) => Nat.beq q 7
  | _ => false)
theorem ty_l7_ok {σ : ty_Sg} {W : ty_W} {n : Nat} {t : ix_T} (hw : ty_wk h σ W n t) (he : ty_l7 W = true) : tx_n t 79 22 ≤ 400 ∧ tx_acc (tx_p t) (tx_S 1) 0 := by
  obtain ⟨f, f1, f2⟩ := List.any_eq_true.mp he
  have hf := hw.2.2.2.2.2 f f1
  obtain ⟨⟨p, j⟩, v⟩ := f
  rcases j with b | q | r | z
  · cases f2
  · have e : q = 7 := ix_beq.mp f2
    subst e
    obtain ⟨m, _, m2⟩ := hf.2
    exact m2
  · cases f2
  · cases f2
noncomputable def ty_ordc (h : ty_H) (W : ty_W) (a b c : ix_V) (w : Nat × Nat) : Bool := ty_isP 79 a && (ty_isP 79 c && (ty_veq b (.inl 4294967302) && (Nat.beq w.1 0 && (Nat.beq w.2 0 && (ty_off0 W && (ty_l7 W && (ty_lyc h && (Nat.ble (h.2 79).2.2.1 64 && (Nat.blt 51 (h.2 79).2.1 && (ty_cpd (ix_g (h.2 79).2.2.2.1 50) (0, (4294967296, 4294967296)) && ty_cpd (ix_g (h.2 79).2.2.2.1 51) (0, (4294969696, 4294969696))))))))))))
noncomputable def ty_ord (h : ty_H) (A : Nat → ty_S → ty_R) (H : Nat → Option ty_L) (fuel : Nat) : ty_S → ty_R
  | (W, L, st, w) => (match L with
    | [some a, x1, x2, x3, x4] => (match st with
      | [b, c] => cond (ty_ordc h W a b c w && (ty_r183 h && ty_ge1 W 83 182)) (match ty_run h A H fuel [131, 215] 96 (ty_oW W, [some a, x1, x2, x3, x4], [], w) with
        | some outs => cond (outs.all (fun o => Nat.beq o.1 131 || Nat.beq o.1 215)) (some (outs.map (fun o => (o.1, (ty_g83 h (ty_fW o.2.1), o.2.2))))) none
        | none => none) none
      | _ => none)
    | _ => none)
theorem ty_rv.gh {k : ty_K} {σ : ty_Sg} {γ : Nat → Nat} {v w : ix_V} (hk : k.2.1 ≤ 256) (hg : ∀ x, x < 1000 → γ x = σ.2.1 x) (hv : ty_rv k σ v w) : ty_rv k (σ.1, (γ, σ.2.2)) v w := by
  rcases v with b | q | r | q
  · exact hv
  · obtain ⟨m, m1, m2, m3⟩ := hv
    refine ⟨m, m1, m2, ?_⟩
    rcases m3 with m3 | m3 | ⟨x, x1, x2, x3⟩
    · exact Or.inl m3
    · exact Or.inr (Or.inl m3)
    · refine Or.inr (Or.inr ⟨x, x1, x2, ?_⟩)
      show m = γ x % 18446744073709551616
      rw [hg x (by omega)]
      exact x3
  · exact hv
  · exact hv
theorem ty_vs.gh {k : ty_K} {σ : ty_Sg} {γ : Nat → Nat} (hk : k.2.1 ≤ 256) (hg : ∀ x, x < 1000 → γ x = σ.2.1 x) : ∀ {vs ws : List ix_V}, ty_vs k σ vs ws → ty_vs k (σ.1, (γ, σ.2.2)) vs ws
  | [], [], _ => trivial
  | _ :: _, _ :: _, hv => ⟨hv.1.gh hk hg, ty_vs.gh hk hg hv.2⟩
  | [], _ :: _, hv => hv.elim
  | _ :: _, [], hv => hv.elim
theorem ty_wk.gh {σ : ty_Sg} {γ : Nat → Nat} {W : ty_W} {X : ty_X} {n : Nat} {t : ix_T} (hw : ty_wk h σ W n t) (hg : ∀ x, x < 1000 → γ x = σ.2.1 x) (hinv : ty_inv γ t) (hX : ∀ f ∈ X, ty_fok (ty_k h W) (σ.1, (γ, σ.2.2)) t f) : ty_wk h (σ.1, (γ, σ.2.2)) (W.1, (W.2.1, (W.2.2.1, (W.2.2.2.1, X)))) n t := by
  obtain ⟨w1, w2, w3, w4, w5, w6⟩ := hw
  refine ⟨w1, ⟨w2.1, fun x hx => ?_⟩, ⟨w3.1, w3.2.1, w3.2.2.1, w3.2.2.2.1, w3.2.2.2.2.1, w3.2.2.2.2.2.1, hinv, w3.2.2.2.2.2.2.2⟩, w4, w5, hX⟩
  have := w2.2 x hx
  have e : γ x = σ.2.1 x := hg x (by have := w2.1; have q : x < W.2.1.1 := hx; omega)
  show _ ≤ _ ∧ _ ≤ γ x ∧ γ x ≤ _ ∧ _
  rw [e]
  exact this
theorem ts_ord {M : ix_M} {O : ix_O} {d fuel : Nat} {A : Nat → ty_S → ty_R} {H : Nat → Option ty_L} (hM : M 145 = some (ix_cX12_lays O, 3)) (hA : ∀ pc, ¬ pc = 99999 → ty_sm h cp M (d + 1) (ix_cX12_orders O) pc (A pc)) : ty_sm h cp M (d + 1) (ix_cX12_orders O) 81 (ty_ord h A H fuel) := by
  intro S outs hs σ C hi
  obtain ⟨W, L, st, w⟩ := S
  obtain ⟨ls, stk, n, t, ce, sl⟩ := C
  unfold ty_ord at hs
  dsimp only at hs
  split at hs
  rotate_left
  · cases hs
  rename_i a x1 x2 x3 x4
  split at hs
  rotate_left
  · cases hs
  rename_i b c
  cases hc : (ty_ordc h W a b c w && (ty_r183 h && ty_ge1 W 83 182)) with
  | false => rw [hc] at hs; cases hs
  | true =>
    rw [hc, cond_true] at hs
    split at hs
    rotate_left
    · cases hs
    rename_i l hrun
    cases hall : l.all (fun o => Nat.beq o.1 131 || Nat.beq o.1 215) with
    | false => rw [hall] at hs; cases hs
    | true =>
      rw [hall, cond_true] at hs
      have ho := Option.some.inj hs
      have hcc := Bool.and_eq_true_iff.mp hc
      have hc := hcc.1
      have hr83 := (Bool.and_eq_true_iff.mp hcc.2).1
      have h83 := ty_ge1_ok hi.1 (by decide) (by decide) (Bool.and_eq_true_iff.mp hcc.2).2
      unfold ty_ordc at hc
      have y1 := Bool.and_eq_true_iff.mp hc
      have y2 := Bool.and_eq_true_iff.mp y1.2
      have y3 := Bool.and_eq_true_iff.mp y2.2
      have y4 := Bool.and_eq_true_iff.mp y3.2
      have y5 := Bool.and_eq_true_iff.mp y4.2
      have y6 := Bool.and_eq_true_iff.mp y5.2
      have y7 := Bool.and_eq_true_iff.mp y6.2
      have y8 := Bool.and_eq_true_iff.mp y7.2
      have y9 := Bool.and_eq_true_iff.mp y8.2
      have y10 := Bool.and_eq_true_iff.mp y9.2
      have y11 := Bool.and_eq_true_iff.mp y10.2
      have e4 : w.1 = 0 := ix_beq.mp y4.1
      have e5 : w.2 = 0 := ix_beq.mp y5.1
      have c1 : ce ≤ w.1 := hi.2.2.2.1
      have c2 : sl ≤ w.2 := hi.2.2.2.2.1
      have e6 : ce = 0 := by omega
      have e7 : sl = 0 := by omega
      subst e6
      subst e7
      have e3 := ty_veq_ok y3.1
      subst e3
      -- the stack, the first local
      obtain ⟨p, stk2, rfl, p1, p2⟩ := ty_vs_1 hi.2.2.1
      obtain ⟨q, stk3, e8, q1, q2⟩ := ty_vs_1 p2
      have e9 := ty_vs_0 q2
      subst e9
      have e8' : stk2 = [q] := e8
      subst e8'
      obtain ⟨m6, rfl, i6⟩ := p1.toint rfl
      have e10 : m6 = 6 := (ty_lit i6).symm
      subst e10
      have e11 := ty_isP_rv hi.1 y2.1 q1
      subst e11
      have hlen := hi.2.1.1
      obtain ⟨z0, z1, z2, z3, z4, rfl⟩ : ∃ z0 z1 z2 z3 z4 : Option ix_V, ls = [z0, z1, z2, z3, z4] := by
        rcases ls with _ | ⟨z0, _ | ⟨z1, _ | ⟨z2, _ | ⟨z3, _ | ⟨z4, _ | ⟨_, _⟩⟩⟩⟩⟩⟩
        · exact absurd hlen (by simp)
        · exact absurd hlen (by simp)
        · exact absurd hlen (by simp)
        · exact absurd hlen (by simp)
        · exact absurd hlen (by simp)
        · exact ⟨z0, z1, z2, z3, z4, rfl⟩
        · exact absurd hlen (by simp)
      obtain ⟨w0, r0, r1⟩ := hi.2.1.2 0 a rfl
      have r2 : z0 = some w0 := Option.some.inj r0
      have r3 := ty_isP_rv hi.1 y1.1 r1
      subst r3
      subst r2
      -- the text is laid
      have hoff : σ.2.1 1001 = 0 := ty_off0_ok hi.1 y6.1
      have h7 := ty_l7_ok hi.1 y7.1
      have hh := hi.1.2.2.1
      obtain ⟨tk, g1, g2, g3, g4, g5, g6, g7, g8⟩ := ty_ly_core hh y8.1
      have g4' : 5800 ≤ (ix_g t 81).2.1 := g4
      obtain ⟨t1, hc1, hc2⟩ := pl_lays (M := M) (O := O) (d := d) (n := n) (ce := 0) (sl := 0) (x := none) g1 (show 6 < 7 by decide) g2 g5 g6 g7
      have hev : ty_ev M (d + 1) 145 [.inr (.inr (.inl 80)), .inl 6] n t ([], [], n, t1, 0, 0) := pl_call (avs := [.inr (.inr (.inl 80)), .inl 6]) hM (show 2 ≤ 3 by decide) hc2
      have inv1 : ty_inv σ.2.1 t1 := ty_inv_ly hh.2.2.2.2.2.2.1 hc1 g4' (by decide) g2 g3 (show 1 < 2 by decide) h7.2 (fun z => absurd z (by decide)) (by omega)
      have hp1 := g8 6 t1 (by decide) hc1 σ.2.1 inv1
      obtain ⟨s1, s2⟩ := ty_ly_txt hc1 g4' (show 6 < 7 by decide) g2 g3 (show 1 < 2 by decide) h7.2
      have k79a : (ix_g t1 79).1 = 112 := by rw [hc1.1 79 (by decide) (by decide)]; exact g1.2.2.2.2.1
      obtain ⟨n79, k79⟩ := ty_cell hp1 (show 79 < 114 by decide)
      have a112 : (h.2 79).1 = 112 := by rw [← k79.1]; exact k79a
      have f51 : 51 < (h.2 79).2.1 := ix_blt.mp y10.1
      have f64 : (h.2 79).2.2.1 ≤ 64 := ix_ble.mp y9.1
      have l51 : 51 < (ix_g t1 79).2.1 := by have := k79.2.1; omega
      -- 'orderDone'
      have inv2 : ty_inv σ.2.1 (pl_fld 79 50 (.inl 0) t1) := ty_inv_79 inv1 (pl_fld_o (by decide) (by decide) (by decide)) (pl_fld_o (by decide) (by decide) (by decide)) (pl_fld_o (by decide) (by decide) (by decide)) (pl_fld_o (by decide) (by decide) (by decide)) (fun g => by omega) (fun g => by omega)
      have hp2 := ty_hp_fld hp1 (by omega) f64 (show 50 < _ by omega) (show 0 < 2147483648 by decide) y11.1 inv2
      -- 'orderAt', and the ghosts
      have k81 : ∀ {v w : ix_V}, ix_g (pl_fld 79 51 v (pl_fld 79 50 w t1)) 81 = ix_g t1 81 := by
        intro v w
        rw [pl_fld_o (by decide) (by decide) (by decide), pl_fld_o (by decide) (by decide) (by decide)]
      have k83 : ∀ {v w : ix_V}, ix_g (pl_fld 79 51 v (pl_fld 79 50 w t1)) 83 = ix_g t1 83 := by
        intro v w
        rw [pl_fld_o (by decide) (by decide) (by decide), pl_fld_o (by decide) (by decide) (by decide)]
      obtain ⟨γ, gm1, gm2, gm3, gm4⟩ : ∃ γ : Nat → Nat, γ 1001 = 1 ∧ γ 1002 = tk ∧ (∀ m, γ (2000 + m) = 1 ↔ tx_acc (tx_k t1 81 0 (2400 + tk)) (tx_SE 1) m) ∧ ∀ x, x < 1000 → γ x = σ.2.1 x := by
        classical
        refine ⟨fun x => if x = 1001 then 1 else if x = 1002 then tk else if 2000 ≤ x then (if tx_acc (tx_k t1 81 0 (2400 + tk)) (tx_SE 1) (x - 2000) then 1 else 0) else σ.2.1 x, rfl, rfl, fun m => ?_, fun x hx => ?_⟩
        · show (if 2000 + m = 1001 then 1 else if 2000 + m = 1002 then tk else if 2000 ≤ 2000 + m then (if tx_acc (tx_k t1 81 0 (2400 + tk)) (tx_SE 1) (2000 + m - 2000) then 1 else 0) else σ.2.1 (2000 + m)) = 1 ↔ _
          rw [if_neg (by omega), if_neg (by omega), if_pos (by omega), show 2000 + m - 2000 = m by omega]
          by_cases q : tx_acc (tx_k t1 81 0 (2400 + tk)) (tx_SE 1) m
          · rw [if_pos q]; exact ⟨fun _ => q, fun _ => rfl⟩
          · rw [if_neg q]; exact ⟨fun z => absurd z (by decide), fun z => absurd z q⟩
        · show (if x = 1001 then 1 else if x = 1002 then tk else if 2000 ≤ x then _ else σ.2.1 x) = σ.2.1 x
          rw [if_neg (by omega), if_neg (by omega), if_neg (by omega)]
      have n51 : tx_n (pl_fld 79 51 (.inl 2400) (pl_fld 79 50 (.inl 0) t1)) 79 51 = 2400 := by
        unfold tx_n
        rw [pl_fld_g (by decide) (by decide) (by decide), if_pos rfl]
      have acc0 : γ (2000 + 2400) = 1 := (gm3 2400).mpr s2
      have inv3 : ty_inv γ (pl_fld 79 51 (.inl 2400) (pl_fld 79 50 (.inl 0) t1)) := ty_inv_79 inv2 (pl_fld_o (by decide) (by decide) (by decide)) (pl_fld_o (by decide) (by decide) (by decide)) (pl_fld_o (by decide) (by decide) (by decide)) (pl_fld_o (by decide) (by decide) (by decide)) (fun _ => by
        rw [n51, tx_n_c k81, tx_k_c k81, gm2]
        exact ⟨s1, g2, acc0, gm3⟩) (fun _ => by
        rw [tx_n_c k83, tx_n_c (hc1.1 83 (by decide) (by decide))]
        exact h83)
      have hp3 : ty_hp h (σ.1, (γ, σ.2.2)) n (pl_fld 79 51 (.inl 2400) (pl_fld 79 50 (.inl 0) t1)) := ty_hp_fld hp2 (by omega) f64 f51 (show 2400 < 2147483648 by decide) y11.2 inv3
      have h256 : W.2.1.1 ≤ 256 := hi.1.2.1.1
      have e114 := hh.2.2.2.2.2.1.1
      have r79 : σ.2.2.1 79 = 79 := hh.2.2.1 79 (by omega)
      have iv : ∀ m, m < 2147483648 → ty_iv W.1.1 σ.1 (.inl (m + 4294967296)) m := fun m hm => ⟨by omega, show _ = ty_kp m from (ty_kp_nn hm).symm⟩
      have hin1 : ty_in h cp (σ.1, (γ, σ.2.2)) (ty_oW W, [some a, x1, x2, x3, x4], [], w) ([some (.inr (.inr (.inl 80))), z1, z2, z3, z4], [], n, pl_fld 79 51 (.inl 2400) (pl_fld 79 50 (.inl 0) t1), 0, 0) := by
        refine ⟨⟨hi.1.1, ⟨hi.1.2.1.1, fun x hx => ?_⟩, hp3, hi.1.2.2.2.1, hi.1.2.2.2.2.1, fun f hf => ?_⟩, ⟨hi.2.1.1, fun i v hv => ?_⟩, trivial, hi.2.2.2⟩
        · have := hi.1.2.1.2 x hx
          have e : γ x = σ.2.1 x := gm4 x (by have q : x < W.2.1.1 := hx; omega)
          show _ ≤ _ ∧ _ ≤ γ x ∧ γ x ≤ _ ∧ _
          rw [e]
          exact this
        · rcases List.mem_cons.mp hf with rfl | hf
          · refine ⟨by show 79 < h.1 + _; omega, 51, iv 51 (by decide), ?_, ?_⟩
            · show 51 < (ix_g (pl_fld 79 51 (.inl 2400) (pl_fld 79 50 (.inl 0) t1)) (σ.2.2.1 79)).2.1
              rw [r79, pl_fld_s (by decide)]
              show 51 < (ix_g (pl_fld 79 50 (.inl 0) t1) 79).2.1
              rw [pl_fld_s (by decide)]
              exact l51
            · show ty_rv _ _ (.inl 4294969696) (ix_g (ix_g (pl_fld 79 51 (.inl 2400) (pl_fld 79 50 (.inl 0) t1)) (σ.2.2.1 79)).2.2 51)
              rw [r79, pl_fld_g (by decide) (by decide) (by decide), if_pos rfl]
              exact ty_rv.int (iv 2400 (by decide))
          · rcases List.mem_cons.mp hf with rfl | hf
            · exact ⟨by show 113 < h.1 + _; omega, 2400, iv 2400 (by decide), ⟨fun _ => gm1, fun e => absurd e (by decide), fun e => absurd e (by decide), fun e => absurd e (by decide)⟩⟩
            · rcases List.mem_cons.mp hf with rfl | hf
              · exact ⟨by show 113 < h.1 + _; omega, 2400, iv 2400 (by decide), ⟨fun e => absurd e (by decide), fun e => absurd e (by decide), fun _ => acc0, fun e => absurd e (by decide)⟩⟩
              · cases hf
        · obtain ⟨u, u1, u2⟩ := hi.2.1.2 i v hv
          exact ⟨u, u1, u2.gh h256 gm4⟩
      obtain ⟨o, om, σ2, C2, mo2, ag2, in2, rt2⟩ := ty_run_ok hA fuel [131, 215] 96 _ l hrun _ _ hin1
      obtain ⟨γ3, q3, q4⟩ : ∃ γ3 : Nat → Nat, (∀ x, x < 1000 → γ3 x = σ2.2.1 x) ∧ ∀ x, 1000 ≤ x → γ3 x = σ.2.1 x := ⟨fun x => if x < 1000 then σ2.2.1 x else σ.2.1 x, fun x hx => if_pos hx, fun x hx => if_neg (by omega)⟩
      have off3 : γ3 1001 = 0 := by rw [q4 1001 (by decide)]; exact hoff
      have k256 : o.2.1.2.1.1 ≤ 256 := in2.1.2.1.1
      have wk3 : ty_wk h (σ2.1, (γ3, σ2.2.2)) (ty_fW o.2.1) C2.2.2.1 C2.2.2.2.1 := ty_wk.gh (X := ty_fX) in2.1 q3 ⟨⟨in2.1.2.2.1.2.2.2.2.2.2.1.1.1, fun g => by omega⟩, in2.1.2.2.1.2.2.2.2.2.2.1.2.1, fun g => by omega⟩ (fun f hf => by
        rcases List.mem_cons.mp hf with rfl | hf
        · have e := in2.1.2.2.1.2.2.2.2.2.1.1
          exact ⟨by show 113 < h.1 + _; omega, 0, ⟨by decide, show _ = ty_kp 0 from (ty_kp_nn (by decide)).symm⟩, ⟨fun e => absurd e (by decide), fun e => absurd e (by decide), fun e => absurd e (by decide), fun _ => off3⟩⟩
        · cases hf)
      have on2 : σ2.2.1 1001 = 1 := (ag2.2.1 1001 (Or.inr (by decide))).trans gm1
      have h832 : 1 ≤ tx_n C2.2.2.2.1 83 182 := in2.1.2.2.1.2.2.2.2.2.2.1.2.2 on2
      obtain ⟨s, sa, skl, swk⟩ := ty_g83_ok wk3 hr83 h832
      have sag : ty_agr (ty_k h (ty_fW o.2.1)) (σ2.1, (γ3, σ2.2.2)) (s, (γ3, σ2.2.2)) := ⟨sa, ty_ag.rf, ty_ag.rf, fun _ _ => rfl⟩
      have lv3 : ty_lv (ty_k h (ty_fW o.2.1)) (σ2.1, (γ3, σ2.2.2)) o.2.2.1 C2.1 := ⟨in2.2.1.1, fun i v hv => by
        obtain ⟨u, u1, u2⟩ := in2.2.1.2 i v hv
        exact ⟨u, u1, u2.gh k256 q3⟩⟩
      have vs3 : ty_vs (ty_k h (ty_fW o.2.1)) (σ2.1, (γ3, σ2.2.2)) o.2.2.2.1 C2.2.1 := ty_vs.gh k256 q3 in2.2.2.1
      have kl3 : ty_mo W (ty_fW o.2.1) := mo2
      refine ⟨(o.1, (ty_g83 h (ty_fW o.2.1), o.2.2)), by rw [← ho]; exact List.mem_map.mpr ⟨o, om, rfl⟩, (s, (γ3, σ2.2.2)), C2, ⟨Nat.le_trans kl3.1 skl.1, Nat.le_trans kl3.2.1 skl.2.1, Nat.le_trans kl3.2.2 skl.2.2⟩, ty_agr.tr (k' := ty_k h (ty_fW o.2.1)) (b := (σ2.1, (γ3, σ2.2.2))) ⟨ag2.1, fun x hx => ?_, ag2.2.2.1, ag2.2.2.2⟩ sag kl3.k, ⟨swk, lv3.ag sag skl.k, ty_vs.ag sag skl.k vs3, in2.2.2.2⟩, Or.inr ?_⟩
      · show γ3 x = σ.2.1 x
        rcases hx with hx | hx
        · have hx' : x < W.2.1.1 := hx
          rw [q3 x (by omega), ag2.2.1 x (Or.inl hx')]
          exact gm4 x (by omega)
        · exact q4 x hx
      · have r1 := pl_ord_81 (M := M) (O := O) (d := d + 1) (y1 := z1) (y2 := z2) (y3 := z3) (y4 := z4) ⟨g1.1, g1.2.2.2.2.1⟩ hev
        exact r1.tr ((pl_ord_84 (M := M) (O := O) (d := d + 1) (y1 := z1) (y2 := z2) (y3 := z3) (y4 := z4) ⟨g1.1, k79a, l51⟩).tr rt2)
/-- the orders' end is their text's -/
noncomputable def ty_on (W : ty_W) : Bool := W.2.2.2.2.any (fun f => match f.1.2 with
  | .inr (.inl q) => Nat.beq q 2
  | _ => false)
theorem ty_on_ok {σ : ty_Sg} {W : ty_W} {n : Nat} {t : ix_T} (hw : ty_wk h σ W n t) (he : ty_on W = true) : σ.2.1 1001 = 1 := by
  obtain ⟨f, f1, f2⟩ := List.any_eq_true.mp he
  have hf := hw.2.2.2.2.2 f f1
  obtain ⟨⟨p, j⟩, v⟩ := f
  rcases j with b | q | r | z
  · cases f2
  · have e : q = 2 := ix_beq.mp f2
    subst e
    obtain ⟨m, _, m2⟩ := hf.2
    exact m2.1 rfl
  · cases f2
  · cases f2
noncomputable def ty_cg (W : ty_W) : Option (Nat × ix_V) := match ty_find W.1 81 (.inl 4294967495) W.2.2.2.2 with
  | some v => (match v with
    | .inr (.inr (.inr (x, c))) => cond (ty_on W) (some (6, .inr (.inr (.inr (x, Nat.add c 2400))))) none
    | _ => none)
  | none => none
theorem ty_cg_ok : ty_more h (ty_add1 ty_cg) := ty_add1_ok (fun W q v he σ n t hw => by
  unfold ty_cg at he
  split at he
  · rename_i v0 hv
    split at he
    · rename_i x c
      cases hc : ty_on W with
      | false => rw [hc] at he; cases he
      | true =>
        rw [hc, cond_true] at he
        cases he
        have g1 := ty_on_ok hw hc
        obtain ⟨i1, i2, i3, i4⟩ := hw.2.2.1.2.2.2.2.2.2.1.1.2 g1
        obtain ⟨m, m1, m2, m3, m4⟩ := (ty_fslot hw (show 81 < 114 by decide) (show 199 < 2147483648 by decide) hv).toint rfl
        have e : m = σ.2.1 1002 := by
          rw [← i1]
          unfold tx_n
          rw [m1]
        refine ⟨m + 2400, ⟨by omega, m3, ?_⟩, ⟨fun z => absurd z (by decide), fun _ => by omega, fun z => absurd z (by decide), fun z => absurd z (by decide)⟩⟩
        show m + 2400 = (σ.1 x + (c + 2400)) % 4294967296
        have m4' : m = (σ.1 x + c) % 4294967296 := m4
        omega
    · cases he
  · cases he)
end TYOR
