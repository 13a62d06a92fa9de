/-! an int made a byte -/
theorem ty_i2b_rng (z : Int32) : -128 ≤ (ix_ji2b z).toInt ∧ (ix_ji2b z).toInt ≤ 127 := by
  unfold ix_ji2b
  rw [Int8.toInt_toInt32]
  exact ⟨Int8.le_toInt _, Int8.toInt_le _⟩
theorem ty_i2b_ok : ty_op1 (ix_s1 ix_ji2b) (ty_un (ix_s1 ix_ji2b) 4294967168 4294967423) := ty_un_ok (fun m hm => by
  have hl : ix_s1 ix_ji2b m < 4294967296 := (ix_ji2b (Int32.ofNat m)).toBitVec.isLt
  have h1 := ix_toInt hl
  have e : Int32.ofNat (ix_s1 ix_ji2b m) = ix_ji2b (Int32.ofNat m) := ix_bk _
  rw [e] at h1
  have r := ty_i2b_rng (Int32.ofNat m)
  have k := ty_kp_eq (ix_s1 ix_ji2b m)
  split at h1 <;> exact ⟨hl, by omega, by omega⟩)
