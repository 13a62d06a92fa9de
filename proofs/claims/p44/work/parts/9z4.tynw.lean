/-! new cells -/
section TYNW
variable {h : ty_H} {pc : Nat}
theorem ty_sok.up {Γ : Nat → Nat} {n a : Nat} {q : Nat × (Nat × Nat)} {v : ix_V} (hs : ty_sok Γ n q v) : ty_sok (ty_new Γ n a) (n + 1) q v := by
  obtain ⟨k, lo, hi⟩ := q
  unfold ty_sok at hs ⊢
  dsimp only at hs ⊢
  split at hs
  · exact hs
  · exact hs
  · obtain ⟨j, j1, j2, j3⟩ := hs
    exact ⟨j, j1, by omega, by unfold ty_new; rw [if_neg (by omega)]; exact j3⟩
  · rcases hs with hs | ⟨j, j1, j2, j3⟩
    · exact Or.inl hs
    · exact Or.inr ⟨j, j1, by omega, by unfold ty_new; rw [if_neg (by omega)]; exact j3⟩
  · trivial
theorem ty_cok.up {Γ : Nat → Nat} {n a : Nat} {T : ty_T} {c : ix_C} (hc : ty_cok Γ n T c) : ty_cok (ty_new Γ n a) (n + 1) T c :=
  ⟨hc.1, hc.2.1, hc.2.2.1, fun k hk => ⟨fun q => ((hc.2.2.2 k hk).1 q).up, fun q => ((hc.2.2.2 k hk).2.1 q).up, (hc.2.2.2 k hk).2.2⟩⟩
theorem ty_wk.grow {σ : ty_Sg} {W : ty_W} {n a : Nat} {t : ix_T} {c : ix_C} (hw : ty_wk h σ W n t) (hn : n < 16384) (ha : 114 ≤ a) (hc : ∀ Γ : Nat → Nat, ty_cok Γ (n + 1) (h.2 a) c) : ty_agr (ty_k h W) σ (σ.1, (σ.2.1, (σ.2.2.1, ty_new σ.2.2.2 n a))) ∧ ty_wk h (σ.1, (σ.2.1, (σ.2.2.1, ty_new σ.2.2.2 n a))) W (n + 1) (ix_u 14 t n c) := by
  obtain ⟨h1, hl, hh, hr, hq, hx⟩ := hw
  obtain ⟨b1, b2, b3, b4, b5, b6, b7, b8⟩ := hh
  have h114 : h.1 = 114 := b6.1
  have hg : ∀ i, i < n → ix_g (ix_u 14 t n c) i = ix_g t i := fun i hi => by
    rw [ix_gu 14 t n i c (by show n < 16384; omega) (by show i < 16384; omega), if_neg (by omega)]
  have hgn : ix_g (ix_u 14 t n c) n = c := by
    rw [ix_gu 14 t n n c (by show n < 16384; omega) (by show n < 16384; omega), if_pos rfl]
  have hag : ty_agr (ty_k h W) σ (σ.1, (σ.2.1, (σ.2.2.1, ty_new σ.2.2.2 n a))) := ⟨ty_ag.rf, ty_ag.rf, ty_ag.rf, fun i hi => by
    show ty_new σ.2.2.2 n a i = σ.2.2.2 i
    unfold ty_new
    rw [if_neg (fun e => by have := b8 i (by omega); omega)]⟩
  have hnm : ∀ p, p < h.1 + W.2.2.1.1 → σ.2.2.1 p < n := fun p hp => by
    by_cases q : p < h.1
    · rw [b3 p q]; omega
    · have := (hr.2 (p - h.1) (by omega)).1
      rw [show h.1 + (p - h.1) = p by omega] at this
      exact this
  refine ⟨hag, h1, hl, ⟨by omega, by omega, b3, fun i hi => ?_, fun i hi => ?_, b6, ty_inv_o b7 (hg 79 (by omega)) (hg 81 (by omega)) (hg 82 (by omega)) (hg 83 (by omega)) (hg 84 (by omega)), fun i hi => ?_⟩, ⟨hr.1, fun p hp => ?_⟩, hq, fun f hf => ?_⟩
  · show ty_cok (ty_new σ.2.2.2 n a) (n + 1) (h.2 (ty_new σ.2.2.2 n a i)) (ix_g (ix_u 14 t n c) i)
    by_cases e : i = n
    · subst e
      rw [hgn]
      have e2 : ty_new σ.2.2.2 i a i = a := if_pos rfl
      rw [e2]
      exact hc _
    · rw [hg i (by omega)]
      have e2 : ty_new σ.2.2.2 n a i = σ.2.2.2 i := if_neg e
      rw [e2]
      exact (b4 i (by omega)).up
  · show (i < h.1 → ty_new σ.2.2.2 n a i = i) ∧ (h.1 ≤ i → h.1 ≤ ty_new σ.2.2.2 n a i)
    unfold ty_new
    by_cases e : i = n
    · rw [if_pos e]
      exact ⟨fun q => by omega, fun _ => by omega⟩
    · rw [if_neg e]
      exact b5 i (by omega)
  · show ty_new σ.2.2.2 n a i = 255
    unfold ty_new
    rw [if_neg (by omega)]
    exact b8 i (by omega)
  · have q := hr.2 p hp
    refine ⟨by have := q.1; show σ.2.2.1 (h.1 + p) < n + 1; omega, ?_⟩
    show ty_new σ.2.2.2 n a (σ.2.2.1 (h.1 + p)) = _
    unfold ty_new
    rw [if_neg (by omega)]
    exact q.2
  · have z := (hx f hf).ag hag ty_kl.rf
    obtain ⟨⟨p, j⟩, v⟩ := f
    obtain ⟨z1, z2⟩ := z
    have z1' : p < h.1 + W.2.2.1.1 := z1
    have hp := hg (σ.2.2.1 p) (hnm p z1')
    refine ⟨z1, ?_⟩
    rcases j with b | q | r | q
    · obtain ⟨m, m1, m0, m2⟩ := z2
      exact ⟨m, m1, by dsimp only at m0 ⊢; rw [hp]; exact m0, by dsimp only at m2 ⊢; rw [hp]; exact m2⟩
    · obtain ⟨m, m1, m2⟩ := z2
      exact ⟨m, m1, ty_lab_c (hg 79 (by omega)) (hg 90 (by omega)) (hg 91 (by omega)) (fun _ => hg 81 (by omega)) m2⟩
    · show ty_iv _ _ v (ix_g (ix_u 14 t n c) (σ.2.2.1 p)).2.1
      rw [hp]
      exact z2
    · obtain ⟨m, m1, m0, m2⟩ := z2
      exact ⟨m, m1, by dsimp only at m0 ⊢; rw [hp]; exact m0, by dsimp only at m2 ⊢; rw [hp]; exact m2⟩
theorem ty_wk.push {σ : ty_Sg} {W W' : ty_W} {n a : Nat} {t : ix_T} {c : ix_C} {v : ix_V} (hw : ty_wk h σ W n t) (he : ty_rf h a W = some (v, W')) (hn : n < 16384) (ha : 114 ≤ a) (hc : ∀ Γ : Nat → Nat, ty_cok Γ (n + 1) (h.2 a) c) : ∃ σ', ty_mo W W' ∧ ty_agr (ty_k h W) σ σ' ∧ ty_wk h σ' W' (n + 1) (ix_u 14 t n c) ∧ ty_rv (ty_k h W') σ' v (.inr (.inr (.inl (n + 1)))) ∧ σ'.1 = σ.1 := by
  obtain ⟨g1, g2⟩ := hw.grow hn ha hc
  obtain ⟨σ', s1, s2, s3, s4, s5⟩ := ty_rf_ok g2 he (Nat.lt_succ_self n) (if_pos rfl)
  exact ⟨σ', s1, g1.tr s2 ty_kl.rf, s3, s4, s5⟩
/-- of the fields of such a type nothing is said -/
noncomputable def ty_raw (T : ty_T) (kd len : Nat) : Bool := Nat.beq T.1 kd && (Nat.ble T.2.1 len && (Nat.ble len T.2.2.1 && (Nat.ble 100 kd && (match T.2.2.2.1 with
  | .leaf q => Nat.ble 4 q.1
  | _ => false))))
theorem ty_raw_ok {T : ty_T} {kd len : Nat} {fs : ix_A} (hT : ty_raw T kd len = true) (Γ : Nat → Nat) (n : Nat) : ty_cok Γ n T (kd, len, fs) := by
  have c1 := Bool.and_eq_true_iff.mp hT
  have c2 := Bool.and_eq_true_iff.mp c1.2
  have c3 := Bool.and_eq_true_iff.mp c2.2
  have c4 := Bool.and_eq_true_iff.mp c3.2
  have e : T.1 = kd := ix_beq.mp c1.1
  have h100 : 100 ≤ kd := ix_ble.mp c4.1
  refine ⟨e.symm, ix_ble.mp c2.1, ix_ble.mp c3.1, fun k _ => ⟨fun _ => ?_, fun q => absurd q (by omega), fun q => absurd q (by omega)⟩⟩
  have c5 := c4.2
  split at c5
  · rename_i q hq
    rw [hq]
    have h4 : 4 ≤ q.1 := ix_ble.mp c5
    show ty_sok Γ n q (ix_g fs k)
    obtain ⟨q1, q2⟩ := q
    obtain ⟨m, hm⟩ : ∃ m, q1 = m + 4 := ⟨q1 - 4, by omega⟩
    subst hm
    trivial
  · cases c5
noncomputable def ty_newo (h : ty_H) (a kd len capC capS nx : Nat) : ty_S → ty_R
  | (W, L, st, w) => cond (Nat.ble 114 a && (ty_raw (h.2 a) kd len && (Nat.ble (Nat.succ w.1) capC && Nat.ble (Nat.add w.2 len) capS))) (match ty_rf h a W with
    | some (v, W') => some [(nx, (W', L, v :: st, (Nat.succ w.1, Nat.add w.2 len)))]
    | none => none) none
theorem ts_newo {N K a kd len capC capS nx : Nat} {fs : ix_A} (hK : capC ≤ K) : ty_sd h (N, K) pc (fun _ => ix_new kd len fs capC capS nx) (ty_newo h a kd len capC capS nx) := by
  intro S outs hs σ C hi
  obtain ⟨W, L, st, w⟩ := S
  obtain ⟨ls, stk, n, t, ce, sl⟩ := C
  change cond (Nat.ble 114 a && (ty_raw (h.2 a) kd len && (Nat.ble (Nat.succ w.1) capC && Nat.ble (Nat.add w.2 len) capS))) (match ty_rf h a W with
    | some (v, W') => some [(nx, (W', L, v :: st, (Nat.succ w.1, Nat.add w.2 len)))]
    | none => none) none = some outs at hs
  cases hc : (Nat.ble 114 a && (ty_raw (h.2 a) kd len && (Nat.ble (Nat.succ w.1) capC && Nat.ble (Nat.add w.2 len) capS))) with
  | false => rw [hc] at hs; cases hs
  | true =>
    rw [hc, cond_true] at hs
    have c1 := Bool.and_eq_true_iff.mp hc
    have c2 := Bool.and_eq_true_iff.mp c1.2
    have c3 := Bool.and_eq_true_iff.mp c2.2
    have d1 : w.1 + 1 ≤ capC := ix_ble.mp c3.1
    have d2 : w.2 + len ≤ capS := ix_ble.mp c3.2
    obtain ⟨e1, e2, e3, e4, e5⟩ := hi.2.2.2
    have e1 : ce ≤ w.1 := e1
    have e2 : sl ≤ w.2 := e2
    have e3 : n ≤ N + ce := e3
    have e4 : N + K ≤ 16384 := e4
    have e5 : w.1 ≤ K := e5
    split at hs
    · rename_i v W' hrf
      cases hs
      have hn : n < 16384 := by omega
      obtain ⟨σ', s1, s2, s3, s4, _⟩ := hi.1.push (c := (kd, len, fs)) hrf hn (ix_ble.mp c1.1) (fun Γ => ty_raw_ok c2.1 Γ _)
      refine ty_sd1 s1 s2 (C' := (ls, .inr (.inr (.inl (n + 1))) :: stk, n + 1, ix_u 14 t n (kd, len, fs), ce + 1, sl + len)) ⟨s3, hi.2.1.ag s2 s1.k, ⟨s4, hi.2.2.1.ag s2 s1.k⟩, ⟨by show ce + 1 ≤ w.1 + 1; omega, by show sl + len ≤ w.2 + len; omega, by show n + 1 ≤ N + (ce + 1); omega, e4, by show w.1 + 1 ≤ K; omega⟩⟩ (fun g => ?_)
      show cond (Nat.blt n 16384 && (Nat.ble (Nat.succ ce) capC && Nat.ble (Nat.add sl len) capS)) _ none = _
      rw [ix_blt.mpr hn, ix_ble.mpr (show Nat.succ ce ≤ capC by omega), ix_ble.mpr (show Nat.add sl len ≤ capS from (by show sl + len ≤ capS; omega))]
      rfl
    · cases hs
end TYNW
