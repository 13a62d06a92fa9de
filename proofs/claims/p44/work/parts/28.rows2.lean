/-! rows of elements, lengths, new cells -/
/-- what is said of the rows outside: the script, and the rows that constants are -/
def ix_out (s : State) (σ : ix_Sg) (A : Nat → Prop) (ad0 : Nat → Option Nat) (O : ix_O) : Prop := ∀ i len f, 1000000 ≤ i → O i = some (len, f) → ∃ (b : Nat) (xs : Nat → Int32), ad0 i = some b ∧ va_T .int b len (fun j => .int (xs j)) A s s.heap ∧ len ≤ 16384 ∧ ∀ j, j < len → ∀ ad, ix_rv σ ad (ix_g f j) (.int (xs j))
section IXA
variable {k : ix_K} {E : ix_E} {own : String} {cc : ByteArray} {Ts : List Cond}
theorem ix_tys_at (dT : Nat → ClassId) : (ix_tys dT)[0]? = some (dT 0, .int) ∧ (ix_tys dT)[1]? = some (dT 1, .byte) ∧ (ix_tys dT)[2]? = some (dT 2, .boolean) ∧ (ix_tys dT)[3]? = some (dT 3, .long) ∧ (ix_tys dT)[4]? = some (dT 4, .object "MirrorHeirs$Text") ∧ (ix_tys dT)[5]? = some (dT 5, .object "MirrorHeirs$Hall") := ⟨rfl, rfl, rfl, rfl, rfl, rfl⟩
theorem ix_cell3 {c : ix_C} {kd len : Nat} {f : ix_A} (h : c = (kd, len, f)) : c.1 = kd ∧ c.2.1 = len ∧ c.2.2 = f := by subst h; exact ⟨rfl, rfl, rfl⟩
/-- an index that is known -/
theorem ix_idx {σ : ix_Sg} {ad : Nat → Option Nat} {B : ix_B} {j : ix_V} {v : Value} {m len : Nat} (hB : ix_ib σ B) (hv : ix_rv σ ad j v) (e : ix_nrm B j = .inl m) (hm : m < len) (hl : len ≤ 16384) : ∃ z : Int32, v = .int z ∧ vp_in z len ∧ z.toNatClampNeg = m := by
  have h := ix_nrm_ok (ad := ad) hB hv
  rw [e] at h
  obtain ⟨m1, rfl⟩ := h
  exact ⟨_, rfl, ix_in hm hl, ix_cl (by omega)⟩
theorem io_iald (C : ix_ctx k E own cc Ts) {O : ix_O} (hO : ix_out (ix_ks k) (ix_es E) (ix_eA E) (ix_e0 E) O) {pc nx : Nat} (h : ix_at cc pc .iaload 1 nx) : ix_ok k E pc (ix_iald O pc nx) := by
  have hp := h.lt
  obtain ⟨hd, rfl, hn⟩ := h
  intro S outs hf hg
  obtain ⟨B, L, st, nn, t, ce, sl⟩ := S
  unfold ix_iald at hf
  split at hf
  · rename_i j r st0 _ _ _ e9
    cases e9
    split at hf
    · cases hf
    · rename_i i
      refine ix_go_i hp fun ad ws H locs ls stk hr hS => ?_
      have hr0 := hr
      obtain ⟨h1, h2, h3, h4, h5, h6⟩ := hr
      obtain ⟨vj, va, vs, rfl, q1, q2, q3⟩ := ix_rs_2 h3
      split at hf
      · rename_i len f hsel
        -- the row, wherever it lies
        have rowE : ∀ m, m < len → ix_nrm B j = .inl m → outs = [(pc + 1, (B, L, ix_g f m :: st0, nn, t, ce, sl))] → ix_W k H locs ce sl (F0 (ix_km k) pc ls (vj :: va :: vs)) := by
          intro m hm ej ho
          subst ho
          cases hb : Nat.blt i nn with
          | true =>
            rw [hb] at hsel
            dsimp only [cond_true] at hsel
            obtain ⟨a, e, rfl, g1, g2, g3⟩ := ix_ref_cell h5 q2 (ix_blt.mp hb)
            generalize hcell : ix_g t i = c at hsel g3
            obtain ⟨kd, q⟩ := c
            dsimp only at hsel
            cases hk : Nat.beq kd 0 with
            | false => rw [hk] at hsel; cases hsel
            | true =>
              rw [hk] at hsel
              cases hsel
              have k0 := ix_beq.mp hk
              subst k0
              obtain ⟨f', rfl, f1, f2⟩ := ix_rc_int g3 (by show 0 < 3; omega)
              obtain ⟨z, rfl, z1, z2⟩ := ix_idx h1 q1 ej hm f1
              refine va_iald C.1 C.2.1 C.2.2.2.2.2.1 h5.2.2.2.2.1 i 0 g1 (ix_tys_at _).1 z1 hd ?_
              refine ix_go_e hn (hg _ List.mem_cons_self) ad ws H locs ls _ ⟨h1, h2, ⟨?_, q3⟩, h4, h5, h6⟩ hS
              rw [z2]
              exact f2 m hm
          | false =>
            rw [hb] at hsel
            dsimp only [cond_false] at hsel
            cases hm6 : Nat.blt i 1000000 with
            | true => rw [hm6] at hsel; cases hsel
            | false =>
              rw [hm6] at hsel
              dsimp only [cond_false] at hsel
              obtain ⟨b, xs, o1, o2, o5, o6⟩ := hO i len f (by have := ix_blt_f.mp hm6; omega) hsel
              obtain ⟨z, rfl, z1, z2⟩ := ix_idx h1 q1 ej hm o5
              have hva : va = .ref b := by
                rcases q2 with ⟨q, _⟩ | ⟨i', b', hi', hb', rfl⟩
                · omega
                · have : i' = i := by omega
                  subst this
                  rw [h4 _ _ o1] at hb'
                  rw [Option.some.inj hb']
              subst hva
              obtain ⟨cell, t1, t2, t3, t4, t5, t6, t7⟩ := o2.kept (H1 := H) (fun a h1 h2 => hS.2.1 a h1 h2)
              refine W.iald (v := .int (xs m)) C.1 C.2.1 t1 t2 t3 (fun g => z1 (g.imp id (fun g => by omega))) (by rw [z2]; exact t6 m hm) rfl rfl hd ?_
              exact ix_go_e hn (hg _ List.mem_cons_self) ad ws H locs ls _ ⟨h1, h2, ⟨o6 m hm ad, q3⟩, h4, h5, h6⟩ hS
        cases ej : ix_nrm B j with
        | inl m =>
          rw [ej] at hf
          dsimp only at hf
          cases hm : Nat.blt m len with
          | false => rw [hm] at hf; cases hf
          | true =>
            rw [hm] at hf
            exact rowE m (ix_blt.mp hm) ej (Option.some.inj hf).symm
        | inr w =>
          rw [ej] at hf
          match w, hf with
          | .inl _, hf => cases hf
          | .inr (.inl _), hf => cases hf
          | .inr (.inr (x, c)), hf => exact ix_again hp hf hg hr0 hS
      · cases hf
  · cases hf
/-- an element of a row of the world: 'row' is the kind's own -/
theorem ix_ok_ald {pc nx k0 k1 : Nat} (hp : pc < 99999) (hn : nx < 99999)
    (row : ∀ (c : ix_C) (ws : va_W) ad H locs ce sl ls stk (a i : Nat) (e : va_E) (z : Int32) (m : Nat), k0 ≤ c.1 → c.1 ≤ k1 → va_P (ix_eD E) (ix_el E) ws H → ws[i]? = some (a, e) → ix_rc (ix_es E) ad (ix_eT E) c e → m < c.2.1 → (c.2.1 ≤ 16384 → vp_in z c.2.1 ∧ z.toNatClampNeg = m) →
      (∀ v, ix_rv (ix_es E) ad (ix_g c.2.2 m) v → ix_W k H locs ce sl (F0 (ix_km k) nx ls (v :: stk))) → ix_W k H locs ce sl (F0 (ix_km k) pc ls (.int z :: .ref a :: stk))) : ix_ok k E pc (ix_ald k0 k1 pc nx) := by
  intro S outs hf hg
  obtain ⟨B, L, st, nn, t, ce, sl⟩ := S
  unfold ix_ald at hf
  split at hf
  · rename_i j r _ _ _ _ e9
    cases e9
    split at hf
    · cases hf
    · rename_i i
      refine ix_go_i hp fun ad ws H locs ls stk hr hS => ?_
      have hr0 := hr
      obtain ⟨h1, h2, h3, h4, h5, h6⟩ := hr
      obtain ⟨vj, va, vs, rfl, q1, q2, q3⟩ := ix_rs_2 h3
      cases hb : Nat.blt i nn with
      | false => rw [hb] at hf; cases hf
      | true =>
        rw [hb] at hf
        dsimp only [cond_true] at hf
        obtain ⟨a, e, rfl, g1, g2, g3⟩ := ix_ref_cell h5 q2 (ix_blt.mp hb)
        generalize hcell : ix_g t i = c at hf g3
        obtain ⟨kd, len, f⟩ := c
        dsimp only at hf
        cases hk : (Nat.ble k0 kd && Nat.ble kd k1) with
        | false => rw [hk] at hf; cases hf
        | true =>
          rw [hk] at hf
          have hk := Bool.and_eq_true_iff.mp hk
          dsimp only [cond_true] at hf
          cases ej : ix_nrm B j with
          | inl m =>
            rw [ej] at hf
            dsimp only at hf
            cases hm : Nat.blt m len with
            | false => rw [hm] at hf; cases hf
            | true =>
              rw [hm] at hf
              cases hf
              have hv := ix_nrm_ok (ad := ad) h1 q1
              rw [ej] at hv
              obtain ⟨m1, rfl⟩ := hv
              refine row (kd, len, f) ws ad H locs ce sl ls vs a i e _ m (ix_ble.mp hk.1) (ix_ble.mp hk.2) h5.2.2.2.2.1 g1 g3 (ix_blt.mp hm) (fun hl => ⟨ix_in (ix_blt.mp hm) hl, ix_cl (by have := ix_blt.mp hm; dsimp only at hl; omega)⟩) fun v hv => ?_
              exact ix_go_e hn (hg _ List.mem_cons_self) ad ws H locs ls _ ⟨h1, h2, ⟨hv, q3⟩, h4, h5, h6⟩ hS
          | inr w =>
            rw [ej] at hf
            match w, hf with
            | .inl _, hf => cases hf
            | .inr (.inl _), hf => cases hf
            | .inr (.inr (x, c)), hf => exact ix_again hp hf hg hr0 hS
  · cases hf
theorem io_bald (C : ix_ctx k E own cc Ts) {pc nx : Nat} (h : ix_at cc pc .baload 1 nx) : ix_ok k E pc (ix_ald 1 2 pc nx) := by
  have hp := h.lt
  obtain ⟨hd, rfl, hn⟩ := h
  refine ix_ok_ald hp hn fun c ws ad H locs ce sl ls stk a i e z m k1 k2 hP he hc hm hz kk => ?_
  obtain ⟨f, rfl, f1, f2⟩ := ix_rc_int hc (by omega)
  obtain ⟨z1, z2⟩ := hz f1
  have hv : ix_rv (ix_es E) ad (ix_g c.2.2 m) (.int (f z.toNatClampNeg)) := by rw [z2]; exact f2 m hm
  rcases (show c.1 = 1 ∨ c.1 = 2 by omega) with hk | hk
  · rw [hk] at he
    exact va_bald C.1 C.2.1 C.2.2.2.2.2.1 hP i 1 he (ix_tys_at _).2.1 z1 hd (kk _ hv)
  · rw [hk] at he
    exact va_zald C.1 C.2.1 C.2.2.2.2.2.1 hP i 2 he (ix_tys_at _).2.2.1 z1 hd (kk _ hv)
theorem io_lald (C : ix_ctx k E own cc Ts) {pc nx : Nat} (h : ix_at cc pc .laload 1 nx) : ix_ok k E pc (ix_ald 3 3 pc nx) := by
  have hp := h.lt
  obtain ⟨hd, rfl, hn⟩ := h
  refine ix_ok_ald hp hn fun c ws ad H locs ce sl ls stk a i e z m k1 k2 hP he hc hm hz kk => ?_
  have hk : c.1 = 3 := by omega
  obtain ⟨f, rfl, f1, f2⟩ := ix_rc_long hc hk
  obtain ⟨z1, z2⟩ := hz f1
  have hv : ix_rv (ix_es E) ad (ix_g c.2.2 m) (.long (f z.toNatClampNeg)) := by rw [z2]; exact f2 m hm
  rw [hk] at he
  exact va_lald C.1 C.2.1 C.2.2.2.2.2.1 hP i 3 he (ix_tys_at _).2.2.2.1 z1 hd (kk _ hv)
theorem io_aald (C : ix_ctx k E own cc Ts) {pc nx : Nat} (h : ix_at cc pc .aaload 1 nx) : ix_ok k E pc (ix_ald 4 97 pc nx) := by
  have hp := h.lt
  obtain ⟨hd, rfl, hn⟩ := h
  refine ix_ok_ald hp hn fun c ws ad H locs ce sl ls stk a i e z m k1 k2 hP he hc hm hz kk => ?_
  obtain ⟨k3, f, rfl, f1, f2⟩ := ix_rc_ref hc k1 k2
  obtain ⟨z1, z2⟩ := hz f1
  have hv : ix_rv (ix_es E) ad (ix_g c.2.2 m) (va_rf (f z.toNatClampNeg)) := by rw [z2]; exact f2 m hm
  rcases (show c.1 = 4 ∨ c.1 = 5 by omega) with hk | hk
  · rw [hk] at he
    exact va_aldq C.1 C.2.1 C.2.2.2.2.2.1 hP i 4 he (ix_tys_at _).2.2.2.2.1 z1 hd (kk _ hv)
  · rw [hk] at he
    exact va_aldq C.1 C.2.1 C.2.2.2.2.2.1 hP i 5 he (ix_tys_at _).2.2.2.2.2 z1 hd (kk _ hv)
/-- a row's element is set -/
theorem ix_ok_ast {pc nx k0 k1 : Nat} {nar : Nat → ix_V → ix_V} {ok : ix_V → Bool} (hp : pc < 99999) (hn : nx < 99999)
    (row : ∀ (c : ix_C) (x : ix_V) (v : Value) (ws : va_W) ad H locs ce sl ls stk (a i : Nat) (e : va_E) (z : Int32) (m nn : Nat) (t : ix_T), k0 ≤ c.1 → c.1 ≤ k1 → ok x = true → ix_rv (ix_es E) ad x v → ix_rw (ix_el E) (ix_es E) (ix_eD E) (ix_eT E) (ix_eA E) ad nn t ws H → va_S (ix_eA E) (ix_ks k).heap H locs → ws[i]? = some (a, e) → ix_rc (ix_es E) ad (ix_eT E) c e → m < c.2.1 → (c.2.1 ≤ 16384 → vp_in z c.2.1 ∧ z.toNatClampNeg = m) →
      (∀ (e' : va_E) H1 locs1, (c.2.1 ≤ 16384 → ix_rc (ix_es E) ad (ix_eT E) (c.1, c.2.1, ix_u (ix_dep c.2.1) c.2.2 m (nar c.1 x)) e') → va_P (ix_eD E) (ix_el E) (ws.set i (a, e')) H1 → va_D (ix_eA E) (ws.set i (a, e')) → va_S (ix_eA E) (ix_ks k).heap H1 locs1 → c.2.1 ≤ 16384 → ix_W k H1 locs1 ce sl (F0 (ix_km k) nx ls stk)) → ix_W k H locs ce sl (F0 (ix_km k) pc ls (v :: .int z :: .ref a :: stk))) : ix_ok k E pc (ix_ast k0 k1 pc nx nar ok) := by
  intro S outs hf hg
  obtain ⟨B, L, st, nn, t, ce, sl⟩ := S
  unfold ix_ast at hf
  split at hf
  · rename_i x j r _ _ _ _ e9
    cases e9
    split at hf
    · cases hf
    · rename_i i
      refine ix_go_i hp fun ad ws H locs ls stk hr hS => ?_
      have hr0 := hr
      obtain ⟨h1, h2, h3, h4, h5, h6⟩ := hr
      obtain ⟨vx, vr, rfl, q0, h3b⟩ := ix_rs_1 h3
      obtain ⟨vj, va, vs, rfl, q1, q2, q3⟩ := ix_rs_2 h3b
      cases hb : (Nat.blt i nn && ok x) with
      | false => rw [hb] at hf; cases hf
      | true =>
        rw [hb] at hf
        have hb := Bool.and_eq_true_iff.mp hb
        dsimp only [cond_true] at hf
        obtain ⟨a, e, rfl, g1, g2, g3⟩ := ix_ref_cell h5 q2 (ix_blt.mp hb.1)
        generalize hcell : ix_g t i = c at hf g3
        obtain ⟨kd, len, f⟩ := c
        dsimp only at hf
        cases hk : (Nat.ble k0 kd && Nat.ble kd k1) with
        | false => rw [hk] at hf; cases hf
        | true =>
          rw [hk] at hf
          have hk := Bool.and_eq_true_iff.mp hk
          dsimp only [cond_true] at hf
          cases ej : ix_nrm B j with
          | inl m =>
            rw [ej] at hf
            dsimp only at hf
            cases hm : Nat.blt m len with
            | false => rw [hm] at hf; cases hf
            | true =>
              rw [hm] at hf
              cases hf
              have hv := ix_nrm_ok (ad := ad) h1 q1
              rw [ej] at hv
              obtain ⟨m1, rfl⟩ := hv
              refine row (kd, len, f) x vx ws ad H locs ce sl ls vs a i e _ m nn t (ix_ble.mp hk.1) (ix_ble.mp hk.2) hb.2 q0 h5 hS g1 g3 (ix_blt.mp hm) (fun hl => ⟨ix_in (ix_blt.mp hm) hl, ix_cl (by have := ix_blt.mp hm; dsimp only at hl; omega)⟩) fun e' H1 locs1 hc hP hD hS1 hl => ?_
              exact ix_go_e hn (hg _ List.mem_cons_self) ad (ws.set i (a, e')) H1 locs1 ls vs ⟨h1, h2, q3, h4, h5.upd (ix_blt.mp hb.1) g1 (hc hl) hP hD, h6⟩ hS1
          | inr w =>
            rw [ej] at hf
            match w, hf with
            | .inl _, hf => cases hf
            | .inr (.inl _), hf => cases hf
            | .inr (.inr (x, c)), hf => exact ix_again hp hf hg hr0 hS
  · cases hf
theorem ix_dep_lt {n len : Nat} (h : n < len) (hl : len ≤ 16384) : n < 2 ^ ix_dep len := by
  unfold ix_dep
  cases hb : Nat.ble len 64 with
  | true => have := ix_ble.mp hb; show n < 64; omega
  | false => show n < 16384; omega
/-- an int row's new contents -/
theorem ix_rc_seti {σ : ix_Sg} {ad : Nat → Option Nat} {dT : Nat → ClassId} {c : ix_C} {f : Nat → Int32} {m : Nat} {x : ix_V} {z : Int32} (hk : c.1 < 3) (hm : m < c.2.1) (hl : c.2.1 ≤ 16384) (hf : ∀ j, j < c.2.1 → ix_rv σ ad (ix_g c.2.2 j) (.int (f j))) (hv : ix_rv σ ad x (.int z)) : ix_rc σ ad dT (c.1, c.2.1, ix_u (ix_dep c.2.1) c.2.2 m x) (.inl (dT c.1, c.2.1, .inl (upd f m z))) := by
  refine Or.inr ⟨by show c.1 ≠ 98; omega, rfl, hk, rfl, hl, fun j hj => ?_⟩
  show ix_rv σ ad (ix_g (ix_u (ix_dep c.2.1) c.2.2 m x) j) (.int (upd f m z j))
  rw [ix_gu _ _ m j x (ix_dep_lt hm hl) (ix_dep_lt hj hl)]
  unfold upd
  by_cases e : j = m
  · rw [if_pos e, if_pos e]; exact hv
  · rw [if_neg e, if_neg e]; exact hf j hj
theorem io_iast (C : ix_ctx k E own cc Ts) {pc nx : Nat} (h : ix_at cc pc .iastore 1 nx) : ix_ok k E pc (ix_ast 0 0 pc nx ix_nar ix_isInt) := by
  have hp := h.lt
  obtain ⟨hd, rfl, hn⟩ := h
  refine ix_ok_ast hp hn fun c x v ws ad H locs ce sl ls stk a i e z m nn t k1 k2 ho hv hw hS he hc hm hz kk => ?_
  have hk : c.1 = 0 := by omega
  obtain ⟨f, rfl, f1, f2⟩ := ix_rc_int hc (by omega)
  obtain ⟨z1, z2⟩ := hz f1
  obtain ⟨y, rfl⟩ := ix_int_of ho hv
  have he0 := he
  rw [hk] at he0
  refine va_iast C.1 C.2.1 C.2.2.2.2.2.1 hw.2.2.2.2.1 hw.2.2.2.2.2 hS i 0 he0 (ix_tys_at _).1 z1 hd fun H1 locs1 hP hD hS1 => ?_
  rw [← hk] at hP hD
  refine kk _ H1 locs1 (fun hl => ?_) hP hD hS1 f1
  rw [z2]
  have hnar : ix_nar c.1 x = x := by
    rw [hk]
    match x with
    | .inl _ => rfl
    | .inr _ => rfl
  rw [hnar]
  exact ix_rc_seti (by omega) hm hl f2 hv
theorem io_bast (C : ix_ctx k E own cc Ts) {pc nx : Nat} (h : ix_at cc pc .bastore 1 nx) : ix_ok k E pc (ix_ast 1 2 pc nx ix_nar ix_isInt) := by
  have hp := h.lt
  obtain ⟨hd, rfl, hn⟩ := h
  refine ix_ok_ast hp hn fun c x v ws ad H locs ce sl ls stk a i e z m nn t k1 k2 ho hv hw hS he hc hm hz kk => ?_
  obtain ⟨f, rfl, f1, f2⟩ := ix_rc_int hc (by omega)
  obtain ⟨z1, z2⟩ := hz f1
  obtain ⟨y, rfl⟩ := ix_int_of ho hv
  have he0 := he
  rcases (show c.1 = 1 ∨ c.1 = 2 by omega) with hk | hk
  · rw [hk] at he0
    refine va_bast C.1 C.2.1 C.2.2.2.2.2.1 hw.2.2.2.2.1 hw.2.2.2.2.2 hS i 1 he0 (ix_tys_at _).2.1 z1 hd fun H1 locs1 hP hD hS1 => ?_
    rw [← hk] at hP hD
    refine kk _ H1 locs1 (fun hl => ?_) hP hD hS1 f1
    rw [z2]
    refine ix_rc_seti (by omega) hm hl f2 ?_
    rw [hk]
    match x, hv with
    | .inl n, hv =>
      obtain ⟨n1, rfl⟩ := ix_rv_int hv
      exact ix_mk_int _
    | .inr (.inr (.inr _)), hv => exact ix_any_ok _
    | .inr (.inl _), hv => exact absurd hv.2 (by simp)
    | .inr (.inr (.inl _)), hv => exact absurd hv (by rintro (⟨_, q⟩ | ⟨_, _, _, _, q⟩) <;> cases q)
  · rw [hk] at he0
    refine va_zast C.1 C.2.1 C.2.2.2.2.2.1 hw.2.2.2.2.1 hw.2.2.2.2.2 hS i 2 he0 (ix_tys_at _).2.2.1 z1 hd fun H1 locs1 hP hD hS1 => ?_
    rw [← hk] at hP hD
    refine kk _ H1 locs1 (fun hl => ?_) hP hD hS1 f1
    rw [z2]
    refine ix_rc_seti (by omega) hm hl f2 ?_
    rw [hk]
    match x, hv with
    | .inl n, hv =>
      obtain ⟨n1, rfl⟩ := ix_rv_int hv
      exact ix_mk_int _
    | .inr (.inr (.inr _)), hv => exact ix_any_ok _
    | .inr (.inl _), hv => exact absurd hv.2 (by simp)
    | .inr (.inr (.inl _)), hv => exact absurd hv (by rintro (⟨_, q⟩ | ⟨_, _, _, _, q⟩) <;> cases q)
theorem io_last (C : ix_ctx k E own cc Ts) {pc nx : Nat} (h : ix_at cc pc .lastore 1 nx) : ix_ok k E pc (ix_ast 3 3 pc nx ix_nar ix_isLong) := by
  have hp := h.lt
  obtain ⟨hd, rfl, hn⟩ := h
  refine ix_ok_ast hp hn fun c x v ws ad H locs ce sl ls stk a i e z m nn t k1 k2 ho hv hw hS he hc hm hz kk => ?_
  have hk : c.1 = 3 := by omega
  obtain ⟨f, rfl, f1, f2⟩ := ix_rc_long hc hk
  obtain ⟨z1, z2⟩ := hz f1
  obtain ⟨y, rfl⟩ := ix_long_of ho hv
  have he0 := he
  rw [hk] at he0
  refine va_last C.1 C.2.1 C.2.2.2.2.2.1 hw.2.2.2.2.1 hw.2.2.2.2.2 hS i 3 he0 (ix_tys_at _).2.2.2.1 z1 hd fun H1 locs1 hP hD hS1 => ?_
  rw [← hk] at hP hD
  refine kk _ H1 locs1 (fun hl => ?_) hP hD hS1 f1
  rw [z2]
  have hnar : ix_nar c.1 x = x := by
    rw [hk]
    match x with
    | .inl _ => rfl
    | .inr _ => rfl
  rw [hnar]
  refine Or.inr ⟨by show c.1 ≠ 98; omega, rfl, hk, rfl, hl, fun j hj => ?_⟩
  show ix_rv (ix_es E) ad (ix_g (ix_u (ix_dep c.2.1) c.2.2 m x) j) (.long (vp_updL f m y j))
  have hj : j < c.2.1 := hj
  rw [ix_gu _ _ m j x (ix_dep_lt hm hl) (ix_dep_lt hj hl)]
  unfold vp_updL
  by_cases e : j = m
  · rw [if_pos e, if_pos e]; exact hv
  · rw [if_neg e, if_neg e]; exact f2 j hj
end IXA
