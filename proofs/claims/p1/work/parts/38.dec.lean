/-! an instruction by its place in a list that was decoded at once -/
theorem ix_dec {cc : ByteArray} {l : List (Nat × Instr × Nat)} (h : l.all (fun q => decide (decode cc q.1 = .ok (q.2.1, q.2.2)) && Nat.blt (q.1 + q.2.2) 99999) = true) (k : Nat) {pc len : Nat} {i : Instr} (hk : l[k]? = some (pc, i, len)) : ix_at cc pc i len (pc + len) := by
  have h1 := Bool.and_eq_true_iff.mp (List.all_eq_true.mp h _ (List.mem_of_getElem? hk))
  exact ⟨of_decide_eq_true h1.1, rfl, ix_blt.mp h1.2⟩
theorem io_look {k : ix_K} {E : ix_E} {own : String} {cc : ByteArray} {Ts : List Cond} (C : ix_ctx k E own cc Ts) {pc nx dflt t0 t1 len : Nat} {d o0 o1 : Int} (h : ix_at cc pc (.lookupswitch d #[(0, o0), (1, o1)]) len nx) (e0 : (pc : Int) + o0 = (t0 : Int)) (e1 : (pc : Int) + o1 = (t1 : Int)) (e2 : (pc : Int) + d = (dflt : Int)) (l0 : t0 < 99999) (l1 : t1 < 99999) (l2 : dflt < 99999) : ix_ok k E pc (ix_sw [(0, t0), (1, t1)] dflt pc) := by
  have hsw : ∀ m, ix_swt [(0, t0), (1, t1)] dflt m = if m = 0 then t0 else if m = 1 then t1 else dflt := by
    intro m
    match m with
    | 0 => rfl
    | 1 => rfl
    | m + 2 => rfl
  refine ix_ok_sw h.lt (fun m => ?_) (fun q hq => ?_) (fun m H locs ce sl ls stk hm kk => ?_)
  · rw [hsw]
    split
    · exact l0
    · split
      · exact l1
      · exact l2
  · rcases List.mem_cons.mp hq with rfl | hq
    · show 0 < 4294967296; decide
    · rcases List.mem_cons.mp hq with rfl | hq
      · show 1 < 4294967296; decide
      · cases hq
  · rw [hsw] at kk
    have hti := ix_toInt hm
    by_cases m0 : m = 0
    · subst m0
      exact lv_lookup (off := o0) C.1 C.2.1 h.1 (by simp) (by rw [hti]; simp [Op.lookupswitch.offset]) e0 kk
    · rw [if_neg m0] at kk
      by_cases m1 : m = 1
      · subst m1
        exact lv_lookup (off := o1) C.1 C.2.1 h.1 (by simp) (by rw [hti]; simp [Op.lookupswitch.offset]) e1 kk
      · rw [if_neg m1] at kk
        refine lv_lookup (off := d) C.1 C.2.1 h.1 (by simp) ?_ e2 kk
        have a0 : ¬ (Int32.ofNat m).toInt = 0 := by rw [hti]; split <;> omega
        have a1 : ¬ (Int32.ofNat m).toInt = 1 := by rw [hti]; split <;> omega
        have b0 : ¬ 0 = (Int32.ofNat m).toInt := fun q => a0 q.symm
        have b1 : ¬ 1 = (Int32.ofNat m).toInt := fun q => a1 q.symm
        clear hti
        revert a0 a1 b0 b1
        generalize (Int32.ofNat m).toInt = z
        intro a0 a1 b0 b1
        simp [Op.lookupswitch.offset, b0, b1]
theorem io_cut {k : ix_K} {E : ix_E} {own : String} {cc : ByteArray} {Ts : List Cond} (C : ix_ctx k E own cc Ts) (hσ : ix_es E 7 = ix_es E 6 &&& 63) {pc nx : Nat} (h : ix_at cc pc .iand 1 nx) : ix_ok k E pc (ix_cut 6 7 nx) := by
  have hp := h.lt
  obtain ⟨hd, rfl, hn⟩ := h
  intro S outs hf hg
  obtain ⟨B, L, st, nn, t, ce, sl⟩ := S
  unfold ix_cut at hf
  split at hf
  · rename_i z _ _ e9
    cases e9
    cases hb : Nat.beq z 6 with
    | false => rw [hb] at hf; cases hf
    | true =>
      rw [hb] at hf
      cases hf
      have hz := ix_beq.mp hb
      subst hz
      refine ix_go_i hp fun ad ws H locs ls stk hr hS => ?_
      obtain ⟨h1, h2, h3, h4, h5, h6⟩ := hr
      obtain ⟨vb, va, vs, rfl, q1, q2, q3⟩ := ix_rs_2 h3
      obtain ⟨_, rfl⟩ := q1
      obtain ⟨_, z, rfl, hz⟩ := q2
      rcases hz with hz | hz
      · cases hz
      · rw [ix_zero_add] at hz
        subst hz
        refine lv_iand C.1 C.2.1 hd (ix_go_e hn (hg _ List.mem_cons_self) ad ws H locs ls _ ⟨h1, h2, ⟨⟨by decide, _, rfl, Or.inr ?_⟩, q3⟩, h4, h5, h6⟩ hS)
        rw [ix_zero_add, hσ]
        rfl
  · cases hf
