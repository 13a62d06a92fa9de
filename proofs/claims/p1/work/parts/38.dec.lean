/-! an instruction by its place in a list that was decoded at once -/
theorem ix_dec {cc : ByteArray} {l : List (Nat × Instr × Nat)} (h : l.all (fun q => decide (decode cc q.1 = .ok (q.2.1, q.2.2)) && Nat.blt (q.1 + q.2.2) 99999) = true) (k : Nat) {pc len : Nat} {i : Instr} (hk : l[k]? = some (pc, i, len)) : ix_at cc pc i len (pc + len) := by
  have h1 := Bool.and_eq_true_iff.mp (List.all_eq_true.mp h _ (List.mem_of_getElem? hk))
  exact ⟨of_decide_eq_true h1.1, rfl, ix_blt.mp h1.2⟩
