/-! two references compared -/
section TYAC
variable {h : ty_H} {cp : Nat × Nat} {pc : Nat}
/-- nothing or a cell that has a name -/
noncomputable def ty_nmd (h : ty_H) (W : ty_W) (r : Nat) : Bool := Nat.beq r 0 || Nat.ble r (Nat.add h.1 W.2.2.1.1)
theorem ty_nmd_ok {σ : ty_Sg} {W : ty_W} {n r : Nat} {t : ix_T} {w : ix_V} (hw : ty_wk h σ W n t) (hr : ty_rv (ty_k h W) σ (.inr (.inr (.inl r))) w) (he : ty_nmd h W r = true) : ∃ q, w = .inr (.inr (.inl q)) ∧ q ≤ n := by
  cases r with
  | zero => exact ⟨0, hr, Nat.zero_le _⟩
  | succ p =>
    have hp : p < h.1 + W.2.2.1.1 := by
      rcases (Bool.or_eq_true _ _).mp he with z | z
      · cases (ix_beq.mp z)
      · have : p + 1 ≤ h.1 + W.2.2.1.1 := ix_ble.mp z
        omega
    have e := ty_named hw hr hp
    obtain ⟨hn, _⟩ := ty_ty_ok hw hp
    exact ⟨_, e, hn⟩
noncomputable def ty_acm (h : ty_H) (tgt nx : Nat) : ty_S → ty_R
  | (W, L, .inr (.inr (.inl q)) :: .inr (.inr (.inl r)) :: st, w) => cond (ty_nmd h W q && ty_nmd h W r) (some [(nx, (W, L, st, w)), (tgt, (W, L, st, w))]) none
  | _ => none
theorem ts_acm {tgt nx : Nat} : ty_sd h cp pc (fun _ => ix_acm tgt nx) (ty_acm h tgt nx) := by
  intro S outs hs σ C hi
  obtain ⟨W, L, st, w⟩ := S
  obtain ⟨ls, stk, n, t, ce, sl⟩ := C
  rcases st with _ | ⟨a, _ | ⟨b, st⟩⟩
  · cases hs
  · rcases a with b | q | r | q <;> cases hs
  · rcases a with a | a | q | a
    · cases hs
    · cases hs
    · rcases b with b | b | r | b
      · cases hs
      · cases hs
      · change cond (ty_nmd h W q && ty_nmd h W r) (some [(nx, (W, L, st, w)), (tgt, (W, L, st, w))]) none = _ at hs
        cases hc : (ty_nmd h W q && ty_nmd h W r) with
        | false => rw [hc] at hs; cases hs
        | true =>
          rw [hc, cond_true] at hs
          cases hs
          have c := Bool.and_eq_true_iff.mp hc
          obtain ⟨x, stk1, e1, x2, x3⟩ := ty_vs_1 hi.2.2.1
          obtain ⟨y, stk2, e2, y2, y3⟩ := ty_vs_1 x3
          have e' : stk = x :: y :: stk2 := by rw [← e2]; exact e1
          subst e'
          obtain ⟨a, rfl, ha⟩ := ty_nmd_ok hi.1 x2 c.1
          obtain ⟨b, rfl, hb⟩ := ty_nmd_ok hi.1 y2 c.2
          have hin : ty_in h cp σ (W, L, st, w) (ls, stk2, n, t, ce, sl) := ⟨hi.1, hi.2.1, y3, hi.2.2.2⟩
          have run : ∀ g : Nat, ix_acm tgt nx ([], ls, .inr (.inr (.inl a)) :: .inr (.inr (.inl b)) :: stk2, n, t, ce, sl) = some [(cond (Nat.beq a b) nx tgt, ([], ls, stk2, n, t, ce, sl))] := fun _ => by
            show cond (Nat.ble a n && Nat.ble b n) _ none = _
            rw [ix_ble.mpr ha, ix_ble.mpr hb]
            rfl
          cases hq : Nat.beq a b with
          | true => exact ⟨_, List.mem_cons_self, σ, (ls, stk2, n, t, ce, sl), ty_mo.rf, ty_agr.rf, hin, Or.inr ⟨0, fun g _ => by have z := run g; rw [hq] at z; exact z⟩⟩
          | false => exact ⟨_, List.mem_cons_of_mem _ List.mem_cons_self, σ, (ls, stk2, n, t, ce, sl), ty_mo.rf, ty_agr.rf, hin, Or.inr ⟨0, fun g _ => by have z := run g; rw [hq] at z; exact z⟩⟩
      · cases hs
    · cases hs
end TYAC
