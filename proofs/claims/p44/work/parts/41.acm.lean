/-! two references compared -/
noncomputable def ix_acm (tgt nx : Nat) : ix_S → ix_R
  | (B, ls, .inr (.inr (.inl q)) :: .inr (.inr (.inl r)) :: st, n, t, w) => cond (Nat.ble q n && Nat.ble r n) (some [(cond (Nat.beq q r) nx tgt, (B, ls, st, n, t, w))]) none
  | _ => none
def ix_rfo (ad : Nat → Option Nat) (q : Nat) : Option Nat := match q with
  | 0 => none
  | i + 1 => ad i
theorem ix_rfo_rv {σ : ix_Sg} {ad : Nat → Option Nat} {q : Nat} {v : Value} (h : ix_rv σ ad (.inr (.inr (.inl q))) v) : v = va_rf (ix_rfo ad q) := by
  rcases h with ⟨rfl, rfl⟩ | ⟨i, a, rfl, h2, rfl⟩
  · rfl
  · show Value.ref a = va_rf (ad i)
    rw [h2]
    rfl
theorem ix_rfo_eq {cl : List vw_C} {σ : ix_Sg} {D : va_G} {dT : Nat → ClassId} {A : Nat → Prop} {ad : Nat → Option Nat} {n : Nat} {t : ix_T} {ws : va_W} {H : Heap} (h : ix_rw cl σ D dT A ad n t ws H) {q r : Nat} (hq : q ≤ n) (hr : r ≤ n) : ix_rfo ad r = ix_rfo ad q ↔ q = r := by
  obtain ⟨_, _, _, h4, _, h6⟩ := h
  constructor
  · intro e
    cases q with
    | zero =>
      cases r with
      | zero => rfl
      | succ j =>
        obtain ⟨b, eb, _, b2, _⟩ := h4 j (by omega)
        rw [show ix_rfo ad (j + 1) = ad j from rfl, b2] at e
        cases e
    | succ i =>
      obtain ⟨a, ea, a1, a2, _⟩ := h4 i (by omega)
      cases r with
      | zero =>
        rw [show ix_rfo ad (i + 1) = ad i from rfl, a2] at e
        cases e
      | succ j =>
        obtain ⟨b, eb, b1, b2, _⟩ := h4 j (by omega)
        rw [show ix_rfo ad (i + 1) = ad i from rfl, show ix_rfo ad (j + 1) = ad j from rfl, a2, b2] at e
        cases e
        rw [h6.1 i j _ _ a1 b1 rfl]
  · rintro rfl
    rfl
theorem io_acmne {k : ix_K} {E : ix_E} {own : String} {cc : ByteArray} {Ts : List Cond} (C : ix_ctx k E own cc Ts) {pc nx tgt : Nat} {off : Int} (h : ix_at cc pc (.if_acmp .ne off) 3 nx) (ht : (pc : Int) + off = (tgt : Int)) (hl : tgt < 99999) : ix_ok k E pc (ix_acm tgt nx) := by
  have hp := h.lt
  obtain ⟨hd, rfl, hn⟩ := h
  intro S outs hf hg
  obtain ⟨B, L, st, nn, t, ce, sl⟩ := S
  unfold ix_acm at hf
  split at hf
  · rename_i q r _ _ _ _ e9
    cases e9
    cases hc : (Nat.ble q nn && Nat.ble r nn) with
    | false => rw [hc] at hf; cases hf
    | true =>
      rw [hc, cond_true] at hf
      cases hf
      have c := Bool.and_eq_true_iff.mp hc
      refine ix_go_i hp fun ad ws H locs ls stk hr hS => ?_
      obtain ⟨h1, h2, h3, h4, h5, h6⟩ := hr
      obtain ⟨v1, v2, vs, rfl, q2, q3, q4⟩ := ix_rs_2 h3
      have g := hg _ List.mem_cons_self
      have e1 := ix_rfo_rv q2
      have e2 := ix_rfo_rv q3
      subst e1
      subst e2
      have hiff := ix_rfo_eq h5 (ix_ble.mp c.1) (ix_ble.mp c.2)
      refine lv_acmp_ne C.1 C.2.1 hd ht (fun ne => ?_) (fun eq => ?_)
      · have z : Nat.beq q r = false := ix_beq_f.mpr (fun e => ne (hiff.mpr e))
        rw [z] at g
        exact ix_go_e hl g ad ws H locs ls vs ⟨h1, h2, q4, h4, h5, h6⟩ hS
      · rw [ix_beq.mpr (hiff.mp eq)] at g
        exact ix_go_e hn g ad ws H locs ls vs ⟨h1, h2, q4, h4, h5, h6⟩ hS
  · cases hf
