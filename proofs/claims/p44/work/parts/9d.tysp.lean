/-! a value is split at a place; a value is kept below what it lies below; 'orderAt' is set -/
section TYSP
variable {h : ty_H} {cp : Nat × Nat} {pc : Nat}
noncomputable def ty_spc (cut pc : Nat) (a : ty_S → ty_R) : ty_S → ty_R := fun S => match S.2.2.1 with
  | .inr (.inr (.inr (x, c))) :: _ => cond (Nat.blt x S.1.1.1 && (Nat.blt (ix_g S.1.1.2 x).1 (Nat.sub (Nat.add cut 4294967296) c) && Nat.ble (Nat.sub (Nat.add cut 4294967296) c) (ix_g S.1.1.2 x).2)) (some [(pc, (((S.1.1.1, ix_u 8 S.1.1.2 x ((ix_g S.1.1.2 x).1, Nat.pred (Nat.sub (Nat.add cut 4294967296) c))), S.1.2), S.2)), (pc, (((S.1.1.1, ix_u 8 S.1.1.2 x (Nat.sub (Nat.add cut 4294967296) c, (ix_g S.1.1.2 x).2)), S.1.2), S.2))]) (a S)
  | _ => a S
theorem ty_in_box {σ : ty_Sg} {S : ty_S} {C : ty_C} {x l u : Nat} (hi : ty_in h cp σ S C) (hx : x < S.1.1.1) (h1 : (ix_g S.1.1.2 x).1 ≤ l) (h2 : l ≤ σ.1 x) (h3 : σ.1 x ≤ u) (h4 : u ≤ (ix_g S.1.1.2 x).2) : ty_in h cp σ (((S.1.1.1, ix_u 8 S.1.1.2 x (l, u)), S.1.2), S.2) C ∧ ty_mo S.1 ((S.1.1.1, ix_u 8 S.1.1.2 x (l, u)), S.1.2) := by
  obtain ⟨⟨A, W2⟩, L, st, w⟩ := S
  obtain ⟨ls, stk, n, t, ce, sl⟩ := C
  have hb := ty_bx_set hi.1.1 hx h1 h2 h3 h4
  have kk : ty_k h ((A.1, ix_u 8 A.2 x (l, u)), W2) = ty_k h (A, W2) := rfl
  exact ⟨ty_in.cd (ty_wk.set hi.1 rfl hb) kk hi.2.1 hi.2.2.1 hi.2.2.2, ty_mo_k kk⟩
theorem ts_spc {cut : Nat} {f : Nat → ix_S → ix_R} {a : ty_S → ty_R} (ha : ty_sd h cp pc f a) : ty_sd h cp pc f (ty_spc cut pc a) := by
  intro S outs hs σ C hi
  unfold ty_spc at hs
  split at hs
  · rename_i x c rest hst
    cases hc : (Nat.blt x S.1.1.1 && (Nat.blt (ix_g S.1.1.2 x).1 (Nat.sub (Nat.add cut 4294967296) c) && Nat.ble (Nat.sub (Nat.add cut 4294967296) c) (ix_g S.1.1.2 x).2)) with
    | false => rw [hc] at hs; exact ha S outs hs σ C hi
    | true =>
      rw [hc, cond_true] at hs
      have ho := Option.some.inj hs
      have c1 := Bool.and_eq_true_iff.mp hc
      have c2 := Bool.and_eq_true_iff.mp c1.2
      have hx := ix_blt.mp c1.1
      obtain ⟨cu, hcu⟩ : ∃ cu, Nat.sub (Nat.add cut 4294967296) c = cu := ⟨_, rfl⟩
      rw [hcu] at c2 ho
      have g1 := ix_blt.mp c2.1
      have g2 := ix_ble.mp c2.2
      have b := hi.1.1.2 x hx
      by_cases q : σ.1 x < cu
      · obtain ⟨i1, i2⟩ := ty_in_box (u := Nat.pred cu) hi hx (Nat.le_refl _) b.2.1 (show σ.1 x ≤ cu - 1 by omega) (show cu - 1 ≤ _ by omega)
        exact ⟨_, by rw [← ho]; exact List.mem_cons_self, σ, C, i2, ty_agr.rf, i1, Or.inl ⟨rfl, rfl⟩⟩
      · obtain ⟨i1, i2⟩ := ty_in_box (l := cu) hi hx (show _ ≤ cu by omega) (show cu ≤ σ.1 x by omega) b.2.2.1 (Nat.le_refl _)
        exact ⟨_, by rw [← ho]; exact List.mem_cons_of_mem _ List.mem_cons_self, σ, C, i2, ty_agr.rf, i1, Or.inl ⟨rfl, rfl⟩⟩
  · exact ha S outs hs σ C hi
noncomputable def ty_tig (k pc : Nat) (a : ty_S → ty_R) : ty_S → ty_R := fun S => match S.2.2.1[k]? with
  | some (.inr (.inr (.inr (x, _)))) => (match S.1.2.2.2.1.find? (fun q => Nat.beq q.1 x && (Nat.blt (Nat.sub (Nat.add (ix_g S.1.1.2 q.2.2).2 4294967296) q.2.1) (ix_g S.1.1.2 x).2 && Nat.ble (ix_g S.1.1.2 x).1 (Nat.sub (Nat.add (ix_g S.1.1.2 q.2.2).2 4294967296) q.2.1))) with
    | some q => some [(pc, (((S.1.1.1, ix_u 8 S.1.1.2 x ((ix_g S.1.1.2 x).1, Nat.sub (Nat.add (ix_g S.1.1.2 q.2.2).2 4294967296) q.2.1)), S.1.2), S.2))]
    | none => a S)
  | _ => a S
theorem ts_tig {k : Nat} {f : Nat → ix_S → ix_R} {a : ty_S → ty_R} (ha : ty_sd h cp pc f a) : ty_sd h cp pc f (ty_tig k pc a) := by
  intro S outs hs σ C hi
  unfold ty_tig at hs
  split at hs
  · rename_i x c hst
    split at hs
    · rename_i q hq
      have ho := Option.some.inj hs
      have hm := List.mem_of_find?_eq_some hq
      have hp := List.find?_some hq
      have c1 := Bool.and_eq_true_iff.mp hp
      have c2 := Bool.and_eq_true_iff.mp c1.2
      have ex : q.1 = x := ix_beq.mp c1.1
      have g1 := ix_blt.mp c2.1
      have g2 := ix_ble.mp c2.2
      obtain ⟨q1, q2, q3⟩ := hi.1.2.2.2.2.1 q hm
      have hx : x < S.1.1.1 := by rw [← ex]; exact q1
      rw [ex] at q3
      obtain ⟨u, hu⟩ : ∃ u, Nat.sub (Nat.add (ix_g S.1.1.2 q.2.2).2 4294967296) q.2.1 = u := ⟨_, rfl⟩
      rw [hu] at g1 g2 ho
      have hu' : (ix_g S.1.1.2 q.2.2).2 + 4294967296 - q.2.1 = u := hu
      have b := hi.1.1.2 x hx
      have b2 := hi.1.1.2 q.2.2 q2
      obtain ⟨i1, i2⟩ := ty_in_box (u := u) hi hx (Nat.le_refl _) b.2.1 (by omega) (by omega)
      exact ⟨_, by rw [← ho]; exact List.mem_cons_self, σ, C, i2, ty_agr.rf, i1, Or.inl ⟨rfl, rfl⟩⟩
    · exact ha S outs hs σ C hi
  · exact ha S outs hs σ C hi
theorem ty_r51 {A : ty_A} : Nat.sub (ty_rng A (.inl 4294967347)).1 4294967296 = 51 := by
  have e : (ty_rng A (.inl 4294967347)).1 = 4294967347 := rfl
  rw [e]
theorem ty_r51b {A : ty_A} : Nat.sub (ty_rng A (.inl 4294967347)).2 4294967296 = 51 := by
  have e : (ty_rng A (.inl 4294967347)).2 = 4294967347 := rfl
  rw [e]
/-- 'orderAt' is set to a place of an order, or to their end -/
noncomputable def ty_pord (h : ty_H) (nx : Nat) : ty_S → ty_R
  | (W, L, v :: .inr (.inr (.inl r)) :: st, w) => cond (Nat.beq r 80 && (Nat.beq (h.2 79).1 112 && (Nat.blt 51 (h.2 79).2.1 && (Nat.ble (h.2 79).2.2.1 64 && (ty_isI v && (ty_lbl W 10 v && ty_vok h W (ix_g (h.2 79).2.2.2.1 51) v))))))
      (some [(nx, (ty_kn (ty_stl h W 79 (.inl 4294967347)) ((79, .inl 4294967347), v), L, st, w))]) none
  | _ => none
theorem ts_pord {nx : Nat} : ty_sd h cp pc (fun _ => ix_putf 112 51 nx ix_isInt) (ty_pord h nx) := by
  intro S outs hs σ C hi
  obtain ⟨W, L, st, w⟩ := S
  obtain ⟨ls, stk, n, t, ce, sl⟩ := C
  unfold ty_pord at hs
  split at hs
  · rename_i W0 L0 v r st0 w0 e0
    cases e0
    cases hc : (Nat.beq r 80 && (Nat.beq (h.2 79).1 112 && (Nat.blt 51 (h.2 79).2.1 && (Nat.ble (h.2 79).2.2.1 64 && (ty_isI v && (ty_lbl W 10 v && ty_vok h W (ix_g (h.2 79).2.2.2.1 51) v)))))) with
    | false => rw [hc] at hs; cases hs
    | true =>
      rw [hc, cond_true] at hs
      have ho := Option.some.inj hs
      have c1 := Bool.and_eq_true_iff.mp hc
      have c2 := Bool.and_eq_true_iff.mp c1.2
      have c3 := Bool.and_eq_true_iff.mp c2.2
      have c4 := Bool.and_eq_true_iff.mp c3.2
      have c5 := Bool.and_eq_true_iff.mp c4.2
      have c6 := Bool.and_eq_true_iff.mp c5.2
      have er := ix_beq.mp c1.1
      subst er
      have ekd := ix_beq.mp c2.1
      have hkl := ix_blt.mp c3.1
      have h64 := ix_ble.mp c4.1
      obtain ⟨x, stk', e, x2, x3⟩ := ty_vs_1 hi.2.2.1
      obtain ⟨y, stk2, e2, y2, y3⟩ := ty_vs_1 x3
      have e' : stk = x :: y :: stk2 := by rw [← e2]; exact e
      subst e'
      have hh := hi.1.2.2.1
      have e114 := hh.2.2.2.2.2.1.1
      have hn0 : h.1 ≤ n := hh.1
      have hp : 79 < h.1 + W.2.2.1.1 := by omega
      have hy := ty_named hi.1 y2 hp
      have es : σ.2.2.1 79 = 79 := hh.2.2.1 79 (by omega)
      subst hy
      obtain ⟨hn, hty⟩ := ty_ty_ok hi.1 hp
      have ety : ty_ty h W 79 = 79 := by
        unfold ty_ty
        rw [ix_blt.mpr (show 79 < h.1 by omega)]
        rfl
      have hcok : ty_cok σ.2.2.2 n (h.2 79) (ix_g t (σ.2.2.1 79)) := by
        have z : ty_cok σ.2.2.2 n (h.2 (σ.2.2.2 (σ.2.2.1 79))) (ix_g t (σ.2.2.1 79)) := hh.2.2.2.1 _ hn
        rw [hty, ety] at z
        exact z
      obtain ⟨o1, o2, o3, o4⟩ := hcok
      have hl : 51 < (ix_g t (σ.2.2.1 79)).2.1 := Nat.lt_of_lt_of_le hkl o2
      have hl64 : (ix_g t (σ.2.2.1 79)).2.1 ≤ 2 ^ 6 := Nat.le_trans o3 h64
      have hj : ty_iv W.1.1 σ.1 (.inl 4294967347) 51 := ⟨by decide, rfl⟩
      obtain ⟨m, rfl, hm⟩ := x2.toint c5.1
      have hlab := ty_lbl_ok hi.1 hm c6.1
      have hal := ty_put_al (d := 6) (w := .inl m) hi.1 hp hj hl (by decide) hl64 (Nat.le_refl _) (fun q => absurd q (by have : (2 : Nat) ^ 6 = 64 := rfl; show ¬ 64 < (ix_g t (σ.2.2.1 79)).2.1; omega))
      rw [ety] at hal
      have hal2 : ∀ i k, ((i = 79 ∨ i = 84) ∧ k < 64) ∨ (tx_rw i ∧ k < 16384) → ¬ (i = 79 ∧ k = 51) → tx_n (ix_u 14 t (σ.2.2.1 79) ((ix_g t (σ.2.2.1 79)).1, (ix_g t (σ.2.2.1 79)).2.1, ix_u 6 (ix_g t (σ.2.2.1 79)).2.2 51 (.inl m))) i k = tx_n t i k := fun i k q1 q2 => hal i k q1 (fun e => by
        rw [ty_r51, ty_r51b]
        have : ¬ k = 51 := fun z => q2 ⟨e, z⟩
        omega)
      have hnew : tx_n (ix_u 14 t (σ.2.2.1 79) ((ix_g t (σ.2.2.1 79)).1, (ix_g t (σ.2.2.1 79)).2.1, ix_u 6 (ix_g t (σ.2.2.1 79)).2.2 51 (.inl m))) 79 51 = m := by
        unfold tx_n
        have hn2 : n ≤ 16384 := hh.2.1
        rw [es, ix_gu 14 t 79 79 _ (by decide) (by decide), if_pos rfl]
        show (match ix_g (ix_u 6 (ix_g t 79).2.2 51 (.inl m)) 51 with | .inl n => n | _ => 0) = m
        rw [ix_gu 6 _ 51 51 _ (by decide) (by decide), if_pos rfl]
      have hI : ty_inv σ.2.1 (ix_u 14 t (σ.2.2.1 79) ((ix_g t (σ.2.2.1 79)).1, (ix_g t (σ.2.2.1 79)).2.1, ix_u 6 (ix_g t (σ.2.2.1 79)).2.2 51 (.inl m))) := by
        obtain ⟨⟨v1, v2⟩, v3⟩ := hh.2.2.2.2.2.2.1
        have hk : ∀ c, tx_rw c → ∀ k, k < 16384 → tx_n (ix_u 14 t (σ.2.2.1 79) ((ix_g t (σ.2.2.1 79)).1, (ix_g t (σ.2.2.1 79)).2.1, ix_u 6 (ix_g t (σ.2.2.1 79)).2.2 51 (.inl m))) c k = tx_n t c k := fun c hc2 k hk2 => hal2 c k (Or.inr ⟨hc2, hk2⟩) (fun z => by rw [z.1] at hc2; rcases hc2 with q | q | q | q | q <;> omega)
        refine ⟨?_, v3.al (fun g => g) (fun k hk2 => hal2 84 k (Or.inl ⟨Or.inr rfl, by omega⟩) (fun z => absurd z.1 (by decide))) (fun k hk2 => hk 82 (Or.inr (Or.inl rfl)) _ (by omega)) (hk 83 (Or.inr (Or.inr (Or.inl rfl))) 182 (by decide))⟩
        refine ⟨fun k g => ?_, fun g => ?_⟩
        · obtain ⟨q1, q2, q3, q4⟩ := v1 k g
          exact ⟨tx_t_al g (fun k _ _ => hk 81 (Or.inl rfl) _ (by omega)) q1, tx_t_al g (fun k _ _ => hk 82 (Or.inr (Or.inl rfl)) _ (by omega)) q2, tx_t_al g (fun k _ _ => hk 82 (Or.inr (Or.inl rfl)) _ (by omega)) q3, tx_t_al g (fun k _ _ => hk 83 (Or.inr (Or.inr (Or.inl rfl))) _ (by omega)) q4⟩
        · obtain ⟨q1, q2, q3, q4⟩ := v2 g
          refine ⟨by rw [hk 81 (Or.inl rfl) 199 (by decide)]; exact q1, q2, ?_, ?_⟩
          · rw [hnew]
            exact hlab.2.2.1 rfl
          · rw [tx_k_al (by omega) (fun k _ _ => hk 81 (Or.inl rfl) _ (by omega))]
            exact q4
      have hput := ty_put0 (d := 6) (w := .inl m) hi.1 hp hj hl hl64 hI (fun q m' hk hlb => by
        refine ty_lab_al (a := 79) (lo := 51) (hi := 51) (t := t) ?_ ?_ ?_ hlb
        · exact fun i k q1 q2 => hal2 i k q1 (fun z => by have := q2 z.1; omega)
        · exact fun z => absurd z (by decide)
        · rw [ety, ty_r51, ty_r51b] at hk
          exact hk) (fun T hT => by
        rw [ety] at hT
        subst hT
        exact ⟨fun _ => ty_vok_ok hi.1 x2 c6.2, fun q => absurd (show (h.2 79).1 < 100 from q) (by omega), fun q => absurd (show (h.2 79).1 < 3 from q) (by omega)⟩)
      have hfact := ty_put_f (d := 6) (v := v) hn hh.2.1 hp hj hl hl64 x2
      refine ⟨_, by rw [← ho]; exact List.mem_cons_self, σ, (ls, stk2, n, ix_u 14 t (σ.2.2.1 79) ((ix_g t (σ.2.2.1 79)).1, (ix_g t (σ.2.2.1 79)).2.1, ix_u 6 (ix_g t (σ.2.2.1 79)).2.2 51 (.inl m)), ce, sl), ty_mo.rf, ty_agr.rf, ⟨hput.kn hfact, hi.2.1, y3, hi.2.2.2⟩, Or.inr ⟨0, fun g _ => ?_⟩⟩
      show cond (Nat.blt (σ.2.2.1 79) n && true) (match ix_g t (σ.2.2.1 79) with
        | (kd, len, f) => cond (Nat.beq kd 112 && Nat.blt 51 len) (some [(nx, ([], ls, stk2, n, ix_u 14 t (σ.2.2.1 79) (kd, len, ix_u 6 f 51 (.inl m)), ce, sl))]) none) none = _
      rw [ix_blt.mpr hn]
      show cond (Nat.beq (ix_g t (σ.2.2.1 79)).1 112 && Nat.blt 51 (ix_g t (σ.2.2.1 79)).2.1) _ none = _
      rw [ix_beq.mpr (o1.trans ekd), ix_blt.mpr hl]
      rfl
  · cases hs
end TYSP
