/-! the instructions that read, write and make cells -/
theorem ix_rc_int {σ : ix_Sg} {ad : Nat → Option Nat} {dT : Nat → ClassId} {c : ix_C} {e : va_E} (h : ix_rc σ ad dT c e) (hk : c.1 < 3) : ∃ f : Nat → Int32, e = .inl (dT c.1, c.2.1, .inl f) ∧ c.2.1 ≤ 16384 ∧ ∀ j, j < c.2.1 → ix_rv σ ad (ix_g c.2.2 j) (.int (f j)) := by
  rcases h with h | ⟨_, h⟩
  · have := h.1; omega
  match e, h with
  | .inr (ci, fs), h => have := h.1; omega
  | .inl (cA, n, .inl f), h => obtain ⟨rfl, h2, rfl, h4, h5⟩ := h; exact ⟨f, rfl, h4, h5⟩
  | .inl (cA, n, .inr (.inl f)), h => have := h.2.1; omega
  | .inl (cA, n, .inr (.inr (.inr (.inr f)))), h => have := h.2.1; omega
  | .inl (_, _, .inr (.inr (.inl _))), h => exact h.elim
  | .inl (_, _, .inr (.inr (.inr (.inl _)))), h => exact h.elim
theorem ix_rc_long {σ : ix_Sg} {ad : Nat → Option Nat} {dT : Nat → ClassId} {c : ix_C} {e : va_E} (h : ix_rc σ ad dT c e) (hk : c.1 = 3) : ∃ f : Nat → Int64, e = .inl (dT c.1, c.2.1, .inr (.inl f)) ∧ c.2.1 ≤ 16384 ∧ ∀ j, j < c.2.1 → ix_rv σ ad (ix_g c.2.2 j) (.long (f j)) := by
  rcases h with h | ⟨_, h⟩
  · have := h.1; omega
  match e, h with
  | .inr (ci, fs), h => have := h.1; omega
  | .inl (cA, n, .inl f), h => have := h.2.1; omega
  | .inl (cA, n, .inr (.inl f)), h => obtain ⟨rfl, h2, rfl, h4, h5⟩ := h; exact ⟨f, rfl, h4, h5⟩
  | .inl (cA, n, .inr (.inr (.inr (.inr f)))), h => have := h.2.1; omega
  | .inl (_, _, .inr (.inr (.inl _))), h => exact h.elim
  | .inl (_, _, .inr (.inr (.inr (.inl _)))), h => exact h.elim
theorem ix_rc_ref {σ : ix_Sg} {ad : Nat → Option Nat} {dT : Nat → ClassId} {c : ix_C} {e : va_E} (h : ix_rc σ ad dT c e) (hk : 4 ≤ c.1) (hk2 : c.1 ≤ 97) : c.1 < 6 ∧ ∃ f : Nat → Option Nat, e = .inl (dT c.1, c.2.1, .inr (.inr (.inr (.inr f)))) ∧ c.2.1 ≤ 16384 ∧ ∀ j, j < c.2.1 → ix_rv σ ad (ix_g c.2.2 j) (va_rf (f j)) := by
  rcases h with h | ⟨_, h⟩
  · have := h.1; omega
  match e, h with
  | .inr (ci, fs), h => have := h.1; omega
  | .inl (cA, n, .inl f), h => have := h.2.1; omega
  | .inl (cA, n, .inr (.inl f)), h => have := h.2.1; omega
  | .inl (cA, n, .inr (.inr (.inr (.inr f)))), h => obtain ⟨rfl, h2, h3, rfl, h4, h5⟩ := h; exact ⟨h3, f, rfl, h4, h5⟩
  | .inl (_, _, .inr (.inr (.inl _))), h => exact h.elim
  | .inl (_, _, .inr (.inr (.inr (.inl _)))), h => exact h.elim
theorem ix_rc_obj {σ : ix_Sg} {ad : Nat → Option Nat} {dT : Nat → ClassId} {c : ix_C} {e : va_E} {ci : Nat} (h : ix_rc σ ad dT c e) (hk : c.1 = ci + 100) : ∃ fs, e = .inr (ci, fs) ∧ fs.length = c.2.1 ∧ c.2.1 ≤ 64 ∧ ∀ k, k < c.2.1 → ∃ v, fs[k]? = some v ∧ ix_rv σ ad (ix_g c.2.2 k) v := by
  rcases h with h | ⟨_, h⟩
  · have := h.1; omega
  match e, h with
  | .inr (ci', fs), h =>
    have : ci' = ci := by have := h.1; omega
    subst this
    exact ⟨fs, rfl, h.2.1, h.2.2.1, h.2.2.2⟩
  | .inl (cA, n, .inl f), h => have := h.2.1; omega
  | .inl (cA, n, .inr (.inl f)), h => have := h.2.1; omega
  | .inl (cA, n, .inr (.inr (.inr (.inr f)))), h => have := h.2.2.1; omega
  | .inl (_, _, .inr (.inr (.inl _))), h => exact h.elim
  | .inl (_, _, .inr (.inr (.inr (.inl _)))), h => exact h.elim
theorem ix_rw.upd {cl : List vw_C} {σ : ix_Sg} {D : va_G} {dT : Nat → ClassId} {A : Nat → Prop} {ad : Nat → Option Nat} {n : Nat} {t : ix_T} {ws : va_W} {H H1 : Heap} (h : ix_rw cl σ D dT A ad n t ws H) {i a : Nat} {e e' : va_E} {c' : ix_C} (hi : i < n) (he : ws[i]? = some (a, e)) (hc : ix_rc σ ad dT c' e')
    (hP : va_P D cl (ws.set i (a, e')) H1) (hD : va_D A (ws.set i (a, e'))) : ix_rw cl σ D dT A ad n (ix_u 14 t i c') (ws.set i (a, e')) H1 := by
  obtain ⟨h1, h2, h3, h4, _, _⟩ := h
  refine ⟨by rw [List.length_set]; exact h1, h2, h3, fun j hj => ?_, hP, hD⟩
  rw [ix_gu 14 t i j c' (by show i < 16384; omega) (by show j < 16384; omega)]
  obtain ⟨a1, e1, g1, g2, g3⟩ := h4 j hj
  by_cases ej : j = i
  · subst ej
    rw [if_pos rfl]
    rw [he] at g1
    cases g1
    exact ⟨a, e', by rw [List.getElem?_set]; simp; omega, g2, hc⟩
  · rw [if_neg ej]
    exact ⟨a1, e1, by rw [List.getElem?_set_ne (Ne.symm ej)]; exact g1, g2, g3⟩
def ix_adn (ad : Nat → Option Nat) (n q : Nat) : Nat → Option Nat := fun i => if i = n then some q else ad i
theorem ix_rw.adn {cl : List vw_C} {σ : ix_Sg} {D : va_G} {dT : Nat → ClassId} {A : Nat → Prop} {ad : Nat → Option Nat} {n : Nat} {t : ix_T} {ws : va_W} {H : Heap} (h : ix_rw cl σ D dT A ad n t ws H) (q : Nat) : ix_ext ad (ix_adn ad n q) := by
  intro i a hi
  unfold ix_adn
  by_cases e : i = n
  · subst e
    rw [h.2.2.1 i (Nat.le_refl _) (by have := h.2.1; omega)] at hi
    cases hi
  · rw [if_neg e]; exact hi
theorem ix_rw.push {cl : List vw_C} {σ : ix_Sg} {D : va_G} {dT : Nat → ClassId} {A : Nat → Prop} {ad : Nat → Option Nat} {n : Nat} {t : ix_T} {ws : va_W} {H H1 : Heap} (h : ix_rw cl σ D dT A ad n t ws H) (hn : n < 16384) {q : Nat} {e : va_E} {c : ix_C} (hc : ix_rc σ (ix_adn ad n q) dT c e)
    (hP : va_P D cl (ws ++ [(q, e)]) H1) (hD : va_D A (ws ++ [(q, e)])) : ix_rw cl σ D dT A (ix_adn ad n q) (n + 1) (ix_u 14 t n c) (ws ++ [(q, e)]) H1 := by
  have hx := h.adn q
  obtain ⟨h1, h2, h3, h4, _, _⟩ := h
  refine ⟨by simp [h1], by omega, fun i hi hl => ?_, fun j hj => ?_, hP, hD⟩
  · unfold ix_adn
    rw [if_neg (by omega)]
    exact h3 i (by omega) hl
  · rw [ix_gu 14 t n j c (by show n < 16384; omega) (by show j < 16384; omega)]
    by_cases ej : j = n
    · subst ej
      rw [if_pos rfl]
      exact ⟨q, e, by rw [List.getElem?_append_right (by omega)]; simp [h1], by simp [ix_adn], hc⟩
    · rw [if_neg ej]
      obtain ⟨a1, e1, g1, g2, g3⟩ := h4 j (by omega)
      exact ⟨a1, e1, by rw [List.getElem?_append_left (by omega)]; exact g1, hx j a1 g2, g3.ext hx⟩
/-- a reference to a cell of the world -/
theorem ix_ref_cell {cl : List vw_C} {σ : ix_Sg} {D : va_G} {dT : Nat → ClassId} {A : Nat → Prop} {ad : Nat → Option Nat} {n : Nat} {t : ix_T} {ws : va_W} {H : Heap} (h : ix_rw cl σ D dT A ad n t ws H) {i : Nat} {v : Value} (hv : ix_rv σ ad (.inr (.inr (.inl (i + 1)))) v) (hi : i < n) : ∃ a e, v = .ref a ∧ ws[i]? = some (a, e) ∧ ad i = some a ∧ ix_rc σ ad dT (ix_g t i) e := by
  obtain ⟨a, e, h1, h2, h3⟩ := h.2.2.2.1 i hi
  rcases hv with ⟨q, _⟩ | ⟨j, b, hj, hb, rfl⟩
  · omega
  · have : j = i := by omega
    subst this
    rw [hb] at h2
    have e0 := Option.some.inj h2
    exact ⟨a, e, by rw [e0], h1, by rw [hb, e0], h3⟩
theorem ix_fit_int {σ : ix_Sg} {ad : Nat → Option Nat} {x : ix_V} {v : Value} (h : ix_isInt x = true) (hv : ix_rv σ ad x v) : narrow .int v = v ∧ fits .int v = true := by
  obtain ⟨z, rfl⟩ := ix_int_of h hv
  exact ⟨rfl, rfl⟩
theorem ix_fit_long {σ : ix_Sg} {ad : Nat → Option Nat} {x : ix_V} {v : Value} (h : ix_isLong x = true) (hv : ix_rv σ ad x v) : narrow .long v = v ∧ fits .long v = true := by
  obtain ⟨z, rfl⟩ := ix_long_of h hv
  exact ⟨rfl, rfl⟩
theorem ix_bit_of {σ : ix_Sg} {ad : Nat → Option Nat} {x : ix_V} {v : Value} (h : ix_isBit x = true) (hv : ix_rv σ ad x v) : v = .int 0 ∨ v = .int 1 := by
  match x, h, hv with
  | .inl n, h, hv =>
    have := ix_blt.mp h
    obtain ⟨_, rfl⟩ := hv
    rcases (show n = 0 ∨ n = 1 by omega) with rfl | rfl
    · exact Or.inl rfl
    · exact Or.inr rfl
theorem ix_fit_bit {σ : ix_Sg} {ad : Nat → Option Nat} {x : ix_V} {v : Value} (h : ix_isBit x = true) (hv : ix_rv σ ad x v) : narrow .boolean v = v ∧ fits .boolean v = true := by
  rcases ix_bit_of h hv with rfl | rfl
  · exact ⟨rfl, rfl⟩
  · exact ⟨rfl, rfl⟩
theorem ix_fit_obj {σ : ix_Sg} {ad : Nat → Option Nat} {x : ix_V} {v : Value} {C : String} (h : ix_isRef x = true) (hv : ix_rv σ ad x v) : narrow (.object C) v = v ∧ fits (.object C) v = true := by
  rcases ix_ref_of h hv with rfl | ⟨a, rfl⟩
  · exact ⟨rfl, rfl⟩
  · exact ⟨rfl, rfl⟩
theorem ix_fit_arr {σ : ix_Sg} {ad : Nat → Option Nat} {x : ix_V} {v : Value} {C : FieldType} (h : ix_isRef x = true) (hv : ix_rv σ ad x v) : narrow (.array C) v = v ∧ fits (.array C) v = true := by
  rcases ix_ref_of h hv with rfl | ⟨a, rfl⟩
  · exact ⟨rfl, rfl⟩
  · exact ⟨rfl, rfl⟩
section IXH
variable {k : ix_K} {E : ix_E} {own : String} {cc : ByteArray} {Ts : List Cond}
theorem io_getf (C : ix_ctx k E own cc Ts) {pc nx ci kd kf idx N : Nat} {Cn : String} {T : u_T} (h : ix_at cc pc (.getfield idx) 3 nx) (hkd : kd = ci + 100) (hc : (ix_el E)[ci]? = some (Cn, T, N)) (hin : ∀ w ∈ u_ws Cn T N, w ∈ Ts) (hk : kf < N) (hw : Cond.fieldLink own idx (T kf).1 (T kf).2.1 (T kf).2.2.1 ∈ Ts) : ix_ok k E pc (ix_getf kd kf nx) := by
  have hp := h.lt
  obtain ⟨hd, rfl, hn⟩ := h
  intro S outs hf hg
  obtain ⟨B, L, st, nn, t, ce, sl⟩ := S
  unfold ix_getf at hf
  split at hf
  · rename_i r _ _ _ _ e9
    cases e9
    split at hf
    · cases hf
    · rename_i i
      cases hb : Nat.blt i nn with
      | false => rw [hb] at hf; cases hf
      | true =>
        rw [hb] at hf
        dsimp only [cond_true] at hf
        generalize hcell : ix_g t i = c at hf
        obtain ⟨kd', len, f⟩ := c
        dsimp only at hf
        cases hb2 : (Nat.beq kd' kd && Nat.blt kf len) with
        | false => rw [hb2] at hf; cases hf
        | true =>
          rw [hb2] at hf
          cases hf
          have hb3 := Bool.and_eq_true_iff.mp hb2
          have e1 := ix_beq.mp hb3.1
          have e2 := ix_blt.mp hb3.2
          refine ix_go_i hp fun ad ws H locs ls stk hr hS => ?_
          obtain ⟨h1, h2, h3, h4, h5, h6⟩ := hr
          obtain ⟨va, vs, rfl, q2, q3⟩ := ix_rs_1 h3
          obtain ⟨a, e, rfl, g1, g2, g3⟩ := ix_ref_cell h5 q2 (ix_blt.mp hb)
          rw [hcell] at g3
          obtain ⟨fs, rfl, f1, f2, f3⟩ := ix_rc_obj (ci := ci) g3 (by show kd' = _; omega)
          obtain ⟨v, v1, v2⟩ := f3 kf e2
          exact va_get C.1 C.2.1 C.2.2.2.2.1 hin C.2.2.2.1 C.2.2.2.2.2.1 h5.2.2.2.2.1 i g1 hc kf hk (C.2.2.2.2.1 _ hw) (fun _ h9 => h9) v1 hd (ix_go_e hn (hg _ List.mem_cons_self) ad ws H locs ls _ ⟨h1, h2, ⟨v2, q3⟩, h4, h5, h6⟩ hS)
  · cases hf
/-- a field is set: the row for a plain field, and for a final one in a constructor, differ in 'row' alone -/
theorem ix_ok_putf {pc nx ci kd kf : Nat} {ok : ix_V → Bool} (hp : pc < 99999) (hn : nx < 99999) (hkd : kd = ci + 100)
    (row : ∀ x v ad (ws : va_W) H locs ce sl ls stk a i fs, ok x = true → ix_rv (ix_es E) ad x v → va_P (ix_eD E) (ix_el E) ws H → va_D (ix_eA E) ws → va_S (ix_eA E) (ix_ks k).heap H locs → ws[i]? = some (a, .inr (ci, fs)) → kf < fs.length →
      (∀ H1 locs1, va_P (ix_eD E) (ix_el E) (ws.set i (a, .inr (ci, fs.set kf v))) H1 → va_D (ix_eA E) (ws.set i (a, .inr (ci, fs.set kf v))) → va_S (ix_eA E) (ix_ks k).heap H1 locs1 → ix_W k H1 locs1 ce sl (F0 (ix_km k) nx ls stk)) → ix_W k H locs ce sl (F0 (ix_km k) pc ls (v :: .ref a :: stk))) : ix_ok k E pc (ix_putf kd kf nx ok) := by
  intro S outs hf hg
  obtain ⟨B, L, st, nn, t, ce, sl⟩ := S
  unfold ix_putf at hf
  split at hf
  · rename_i x r _ _ _ _ e9
    cases e9
    split at hf
    · cases hf
    · rename_i i
      cases hb : (Nat.blt i nn && ok x) with
      | false => rw [hb] at hf; cases hf
      | true =>
        rw [hb] at hf
        have hb := Bool.and_eq_true_iff.mp hb
        dsimp only [cond_true] at hf
        generalize hcell : ix_g t i = c at hf
        obtain ⟨kd', len, f⟩ := c
        dsimp only at hf
        cases hb2 : (Nat.beq kd' kd && Nat.blt kf len) with
        | false => rw [hb2] at hf; cases hf
        | true =>
          rw [hb2] at hf
          cases hf
          have hb3 := Bool.and_eq_true_iff.mp hb2
          have e1 := ix_beq.mp hb3.1
          have e2 := ix_blt.mp hb3.2
          refine ix_go_i hp fun ad ws H locs ls stk hr hS => ?_
          obtain ⟨h1, h2, h3, h4, h5, h6⟩ := hr
          obtain ⟨vx, va, vs, rfl, q1, q2, q3⟩ := ix_rs_2 h3
          obtain ⟨a, e, rfl, g1, g2, g3⟩ := ix_ref_cell h5 q2 (ix_blt.mp hb.1)
          rw [hcell] at g3
          obtain ⟨fs, rfl, f1, f2, f3⟩ := ix_rc_obj (ci := ci) g3 (by show kd' = _; omega)
          dsimp only at f1 f2 f3
          refine row x vx ad ws H locs ce sl ls vs a i fs hb.2 q1 h5.2.2.2.2.1 h5.2.2.2.2.2 hS g1 (by omega) fun H1 locs1 hP hD hS1 => ?_
          refine ix_go_e hn (hg _ List.mem_cons_self) ad (ws.set i (a, .inr (ci, fs.set kf vx))) H1 locs1 ls vs ⟨h1, h2, q3, h4, h5.upd (ix_blt.mp hb.1) g1 ?_ hP hD, h6⟩ hS1
          refine Or.inr ⟨by show kd' ≠ 98; omega, by show kd' = _; omega, by rw [List.length_set]; exact f1, f2, fun j hj => ?_⟩
          have hj : j < len := hj
          show ∃ v, (fs.set kf vx)[j]? = some v ∧ ix_rv (ix_es E) ad (ix_g (ix_u 6 f kf x) j) v
          rw [ix_gu 6 f kf j x (by show kf < 64; omega) (by show j < 64; omega)]
          by_cases ej : j = kf
          · subst ej
            rw [if_pos rfl]
            exact ⟨vx, by rw [List.getElem?_set]; simp; omega, q1⟩
          · rw [if_neg ej, List.getElem?_set_ne (Ne.symm ej)]
            exact f3 j hj
  · cases hf
theorem io_putf (C : ix_ctx k E own cc Ts) {pc nx ci kd kf idx N : Nat} {Cn : String} {T : u_T} {ok : ix_V → Bool} {ty : FieldType} (h : ix_at cc pc (.putfield idx) 3 nx) (hkd : kd = ci + 100) (hc : (ix_el E)[ci]? = some (Cn, T, N)) (hin : ∀ w ∈ u_ws Cn T N, w ∈ Ts) (ty0 : Nat → FieldType) (hty : ∀ k, k < N → parseFieldDescriptor (T k).2.2.1 = some (ty0 k)) (hnm : ∀ a, a < N → ∀ b, b < N → a ≠ b → (T a).2.1 ≠ (T b).2.1)
    (hk : kf < N) (hw : Cond.fieldLink own idx (T kf).1 (T kf).2.1 (T kf).2.2.1 ∈ Ts) (hfin : (T kf).2.2.2 = false) (ht : ty0 kf = ty) (hfit : ∀ x v ad, ok x = true → ix_rv (ix_es E) ad x v → narrow ty v = v ∧ fits ty v = true) : ix_ok k E pc (ix_putf kd kf nx ok) := by
  have hp := h.lt
  obtain ⟨hd, rfl, hn⟩ := h
  refine ix_ok_putf hp hn hkd fun x v ad ws H locs ce sl ls stk a i fs ho hv hP hD hS he hl kk => ?_
  exact va_put C.1 C.2.1 C.2.2.2.2.1 hin ty0 hty hnm C.2.2.2.1 C.2.2.2.2.2.1 hP hD hS i he hc kf hk (C.2.2.2.2.1 _ hw) (fun _ h9 => h9) hfin ((hty kf hk).trans (congrArg some ht)) (hfit x v ad ho hv).1 (hfit x v ad ho hv).2 hl hd kk
theorem io_putF (C : ix_ctx k E own cc Ts) (hinit : k.2.1.2.2.2.1.name = "<init>") {pc nx ci kd kf idx N : Nat} {Cn : String} {T : u_T} {ok : ix_V → Bool} {ty : FieldType} (h : ix_at cc pc (.putfield idx) 3 nx) (hkd : kd = ci + 100) (hc : (ix_el E)[ci]? = some (Cn, T, N)) (hin : ∀ w ∈ u_ws Cn T N, w ∈ Ts) (ty0 : Nat → FieldType) (hty : ∀ k, k < N → parseFieldDescriptor (T k).2.2.1 = some (ty0 k)) (hnm : ∀ a, a < N → ∀ b, b < N → a ≠ b → (T a).2.1 ≠ (T b).2.1)
    (hk : kf < N) (hw : Cond.fieldLink own idx (T kf).1 (T kf).2.1 (T kf).2.2.1 ∈ Ts) (hfin : (T kf).2.2.2 = true) (hdecl : (T kf).1 = own) (ht : ty0 kf = ty) (hfit : ∀ x v ad, ok x = true → ix_rv (ix_es E) ad x v → narrow ty v = v ∧ fits ty v = true) : ix_ok k E pc (ix_putf kd kf nx ok) := by
  have hp := h.lt
  obtain ⟨hd, rfl, hn⟩ := h
  refine ix_ok_putf hp hn hkd fun x v ad ws H locs ce sl ls stk a i fs ho hv hP hD hS he hl kk => ?_
  exact va_putF C.1 C.2.1 C.2.2.2.2.1 hin ty0 hty hnm C.2.2.2.1 C.2.2.2.2.2.1 hP hD hS i he hc kf hk (C.2.2.2.2.1 _ hw) (fun _ h9 => h9) hfin hinit hdecl ((hty kf hk).trans (congrArg some ht)) (hfit x v ad ho hv).1 (hfit x v ad ho hv).2 hl hd kk
end IXH
