/-! the numbers of the machine of our own beside Java's -/
theorem ix_bv (n : Nat) : (Int32.ofNat n).toBitVec = BitVec.ofNat 32 n := by rfl
theorem ix_bv64 (n : Nat) : (Int64.ofNat n).toBitVec = BitVec.ofNat 64 n := by rfl
theorem ix_ext32 {a b : Int32} (h : a.toBitVec.toNat = b.toBitVec.toNat) : a = b := Int32.toBitVec_inj.mp (BitVec.eq_of_toNat_eq h)
theorem ix_ext64 {a b : Int64} (h : a.toBitVec.toNat = b.toBitVec.toNat) : a = b := Int64.toBitVec_inj.mp (BitVec.eq_of_toNat_eq h)
theorem ix_tn (n : Nat) : (Int32.ofNat n).toBitVec.toNat = n % 4294967296 := by rw [ix_bv, BitVec.toNat_ofNat]
theorem ix_tn64 (n : Nat) : (Int64.ofNat n).toBitVec.toNat = n % 18446744073709551616 := by rw [ix_bv64, BitVec.toNat_ofNat]
theorem ix_bk (z : Int32) : Int32.ofNat z.toBitVec.toNat = z := ix_ext32 (by rw [ix_tn]; exact Nat.mod_eq_of_lt z.toBitVec.isLt)
theorem ix_bk64 (z : Int64) : Int64.ofNat z.toBitVec.toNat = z := ix_ext64 (by rw [ix_tn64]; exact Nat.mod_eq_of_lt z.toBitVec.isLt)
theorem ix_add_ok (a b : Nat) : Int32.ofNat (ix_add a b) = Int32.ofNat a + Int32.ofNat b := ix_ext32 (by
  rw [ix_tn, Int32.toBitVec_add, ix_bv, ix_bv, BitVec.toNat_add, BitVec.toNat_ofNat, BitVec.toNat_ofNat]
  show (a + b) % 4294967296 % 4294967296 = _
  omega)
theorem ix_add_lt (a b : Nat) : ix_add a b < 4294967296 := Nat.mod_lt _ (by decide)
theorem ix_sub_ok {a b : Nat} (hb : b < 4294967296) : Int32.ofNat (ix_sub a b) = Int32.ofNat a - Int32.ofNat b := ix_ext32 (by
  rw [ix_tn, Int32.toBitVec_sub, ix_bv, ix_bv, BitVec.toNat_sub, BitVec.toNat_ofNat, BitVec.toNat_ofNat]
  show (a + 4294967296 - b) % 4294967296 % 4294967296 = _
  omega)
theorem ix_sub_lt (a b : Nat) : ix_sub a b < 4294967296 := Nat.mod_lt _ (by decide)
theorem ix_mul_ok (a b : Nat) : Int32.ofNat (ix_mul a b) = Int32.ofNat a * Int32.ofNat b := ix_ext32 (by
  rw [ix_tn, Int32.toBitVec_mul, ix_bv, ix_bv, BitVec.toNat_mul, BitVec.toNat_ofNat, BitVec.toNat_ofNat]
  show (a * b) % 4294967296 % 4294967296 = _
  rw [Nat.mod_mod, Nat.mul_mod])
theorem ix_mul_lt (a b : Nat) : ix_mul a b < 4294967296 := Nat.mod_lt _ (by decide)
theorem ix_inj {a b : Nat} (ha : a < 4294967296) (hb : b < 4294967296) (h : Int32.ofNat a = Int32.ofNat b) : a = b := by
  have h1 := congrArg (fun z : Int32 => z.toBitVec.toNat) h
  simp only [ix_tn] at h1
  omega
/-- an int as a number that is moved -/
def ix_bz (z : Int32) : Nat := (z.toInt + 2147483648).toNat
theorem ix_toInt {n : Nat} (h : n < 4294967296) : (Int32.ofNat n).toInt = if n < 2147483648 then (n : Int) else (n : Int) - 4294967296 := by
  show (Int32.ofNat n).toBitVec.toInt = _
  rw [BitVec.toInt_eq_toNat_cond, ix_tn, Nat.mod_eq_of_lt h]
  by_cases q : n < 2147483648
  · rw [if_pos (by omega), if_pos q]
  · rw [if_neg (by omega), if_neg q]; rfl
theorem ix_bz_ok {n : Nat} (h : n < 4294967296) : ix_bz (Int32.ofNat n) = ix_bias n := by
  unfold ix_bz ix_bias
  rw [ix_toInt h]
  show _ = (n + 2147483648) % 4294967296
  split <;> omega
theorem ix_rng (z : Int32) : -2147483648 ≤ z.toInt ∧ z.toInt < 2147483648 := by
  have h1 := Int32.le_toInt z
  have h2 := Int32.toInt_lt z
  constructor
  · exact h1
  · exact h2
theorem ix_bz_lt (z : Int32) : ix_bz z < 4294967296 := by
  have := ix_rng z
  unfold ix_bz
  omega
theorem ix_lt_iff (a b : Int32) : a < b ↔ ix_bz a < ix_bz b := by
  have h1 := ix_rng a
  have h2 := ix_rng b
  rw [Int32.lt_iff_toInt_lt]
  unfold ix_bz
  omega
theorem ix_bz_inj {a b : Int32} (h : ix_bz a = ix_bz b) : a = b := by
  have h1 := ix_rng a
  have h2 := ix_rng b
  unfold ix_bz at h
  exact Int32.toInt_inj.mp (by omega)
/-- back from a moved number -/
theorem ix_unb {z : Int32} {k : Nat} (h : ix_bz z = k) : z = Int32.ofNat (ix_bias k) := by
  have hk := ix_bz_lt z
  have hb : ix_bias k < 4294967296 := Nat.mod_lt _ (by decide)
  apply ix_bz_inj
  rw [ix_bz_ok hb, h]
  unfold ix_bias
  show k = ((k + 2147483648) % 4294967296 + 2147483648) % 4294967296
  omega
theorem ix_bias_lt (n : Nat) : ix_bias n < 4294967296 := Nat.mod_lt _ (by decide)
theorem ix_nn {n : Nat} (h : n < 2147483648) : ¬ Int32.ofNat n < 0 := by
  rw [ix_lt_iff, ix_bz_ok (by omega), show (0 : Int32) = Int32.ofNat 0 from rfl, ix_bz_ok (by decide)]
  unfold ix_bias
  show ¬ (n + 2147483648) % 4294967296 < (0 + 2147483648) % 4294967296
  omega
theorem ix_cl {n : Nat} (h : n < 2147483648) : (Int32.ofNat n).toNatClampNeg = n := by
  show (Int32.ofNat n).toInt.toNat = n
  rw [ix_toInt (by omega), if_pos h]
  rfl
theorem ix_in {n len : Nat} (h : n < len) (hl : len ≤ 16384) : vp_in (Int32.ofNat n) len := by
  rintro (q | q)
  · exact ix_nn (by omega) q
  · rw [ix_cl (by omega)] at q; omega
