/-! ints, longs, jumps: each instruction's own row -/
def ix_p2 (op : Nat → Nat → Nat) (f : Int32 → Int32 → Int32) : Prop := ∀ a b, a < 4294967296 → b < 4294967296 → op a b < 4294967296 ∧ Int32.ofNat (op a b) = f (Int32.ofNat a) (Int32.ofNat b)
theorem ix_p2_s (f : Int32 → Int32 → Int32) : ix_p2 (ix_s2 f) f := fun a b _ _ => ⟨(f (Int32.ofNat a) (Int32.ofNat b)).toBitVec.isLt, ix_bk _⟩
theorem ix_p2_mul : ix_p2 ix_mul (fun x y => x * y) := fun a b _ _ => ⟨ix_mul_lt a b, ix_mul_ok a b⟩
theorem ix_p2_and : ix_p2 Nat.land (fun x y => x &&& y) := fun a b ha hb => ⟨Nat.lt_of_le_of_lt Nat.and_le_left ha, ix_ext32 (by
  show _ = ((Int32.ofNat a).toBitVec &&& (Int32.ofNat b).toBitVec).toNat
  rw [ix_tn, BitVec.toNat_and, ix_tn, ix_tn, Nat.mod_eq_of_lt ha, Nat.mod_eq_of_lt hb]
  exact Nat.mod_eq_of_lt (Nat.lt_of_le_of_lt Nat.and_le_left ha))⟩
theorem ix_p2_or : ix_p2 Nat.lor (fun x y => x ||| y) := fun a b ha hb => ⟨Nat.or_lt_two_pow (n := 32) ha hb, ix_ext32 (by
  show _ = ((Int32.ofNat a).toBitVec ||| (Int32.ofNat b).toBitVec).toNat
  rw [ix_tn, BitVec.toNat_or, ix_tn, ix_tn, Nat.mod_eq_of_lt ha, Nat.mod_eq_of_lt hb]
  exact Nat.mod_eq_of_lt (Nat.or_lt_two_pow (n := 32) ha hb))⟩
theorem ix_p2_xor : ix_p2 Nat.xor (fun x y => x ^^^ y) := fun a b ha hb => ⟨Nat.xor_lt_two_pow (n := 32) ha hb, ix_ext32 (by
  show _ = ((Int32.ofNat a).toBitVec ^^^ (Int32.ofNat b).toBitVec).toNat
  rw [ix_tn, BitVec.toNat_xor, ix_tn, ix_tn, Nat.mod_eq_of_lt ha, Nat.mod_eq_of_lt hb]
  exact Nat.mod_eq_of_lt (Nat.xor_lt_two_pow (n := 32) ha hb))⟩
theorem ix_msb {a : Nat} (h : a < 2147483648) : (Int32.ofNat a).toBitVec.msb = false := by
  rw [BitVec.msb_eq_false_iff_two_mul_lt, ix_tn]
  omega
theorem ix_p2_div : ix_p2 ix_div (fun x y => x / y) := fun a b ha hb => by
  unfold ix_div
  cases hc : (Nat.blt a ix_h32 && Nat.blt b ix_h32) with
  | false => exact ix_p2_s _ a b ha hb
  | true =>
    have h1 := Bool.and_eq_true_iff.mp hc
    have a1 : a < 2147483648 := ix_blt.mp h1.1
    have b1 : b < 2147483648 := ix_blt.mp h1.2
    refine ⟨Nat.lt_of_le_of_lt (Nat.div_le_self a b) ha, ix_ext32 ?_⟩
    show (Int32.ofNat (a / b)).toBitVec.toNat = ((Int32.ofNat a).toBitVec.sdiv (Int32.ofNat b).toBitVec).toNat
    rw [BitVec.sdiv_eq, ix_msb a1, ix_msb b1]
    show _ = ((Int32.ofNat a).toBitVec / (Int32.ofNat b).toBitVec).toNat
    rw [BitVec.toNat_udiv, ix_tn, ix_tn, ix_tn, Nat.mod_eq_of_lt ha, Nat.mod_eq_of_lt hb]
    exact Nat.mod_eq_of_lt (Nat.lt_of_le_of_lt (Nat.div_le_self a b) ha)
theorem ix_p2_rem : ix_p2 ix_rem (fun x y => x - x / y * y) := fun a b ha hb => by
  unfold ix_rem
  cases hc : (Nat.blt a ix_h32 && Nat.blt b ix_h32) with
  | false => exact ix_p2_s (fun x y => x - x / y * y) a b ha hb
  | true =>
    have h0 := (ix_p2_div a b ha hb).2
    unfold ix_div at h0
    rw [hc] at h0
    have h2 : Int32.ofNat (a / b) = Int32.ofNat a / Int32.ofNat b := h0
    refine ⟨Nat.lt_of_le_of_lt (Nat.mod_le a b) ha, ?_⟩
    show Int32.ofNat (a % b) = Int32.ofNat a - Int32.ofNat a / Int32.ofNat b * Int32.ofNat b
    rw [← h2, ← ix_mul_ok, ← ix_sub_ok (ix_mul_lt _ _)]
    have e1 : a / b * b ≤ a := Nat.div_mul_le_self a b
    have e2 : a / b * b + a % b = a := by rw [Nat.mul_comm]; exact Nat.div_add_mod a b
    have e3 : ix_mul (a / b) b = a / b * b := Nat.mod_eq_of_lt (Nat.lt_of_le_of_lt e1 ha)
    rw [e3]
    have e4 : ix_sub a (a / b * b) = a % b := by
      show (a + 4294967296 - a / b * b) % 4294967296 = a % b
      have e5 : a % b < 4294967296 := Nat.lt_of_le_of_lt (Nat.mod_le a b) ha
      rw [show a + 4294967296 - a / b * b = a % b + 4294967296 by omega, Nat.add_mod_right]
      exact Nat.mod_eq_of_lt e5
    rw [e4]
theorem ix_any_ok {σ : ix_Sg} {ad : Nat → Option Nat} (z : Int32) : ix_rv σ ad ix_any (.int z) := ⟨by decide, z, rfl, Or.inl rfl⟩
section IXI
variable {k : ix_K} {E : ix_E} {own : String} {cc : ByteArray} {Ts : List Cond}
theorem ix_at.lt {cc : ByteArray} {pc : Nat} {i : Instr} {len nx : Nat} (h : ix_at cc pc i len nx) : pc < 99999 := by have := h.2.1; have := h.2.2; omega
theorem io_iconst (C : ix_ctx k E own cc Ts) {pc nx v : Nat} {n : Int} (h : ix_at cc pc (.iconst n) 1 nx) (hv : v < 4294967296) (e : Int32.ofInt n = Int32.ofNat v) : ix_ok k E pc (ix_push nx (ix_vI v)) := by
  have hp := h.lt
  obtain ⟨hd, rfl, hn⟩ := h
  exact ix_ok_push hp hn (fun _ _ => ⟨hv, rfl⟩) (fun _ _ _ _ _ _ kk => lv_iconst C.1 C.2.1 hd e kk)
theorem io_bipush (C : ix_ctx k E own cc Ts) {pc nx v : Nat} {n : Int} (h : ix_at cc pc (.bipush n) 2 nx) (hv : v < 4294967296) (e : (Int8.ofInt n).toInt32 = Int32.ofNat v) : ix_ok k E pc (ix_push nx (ix_vI v)) := by
  have hp := h.lt
  obtain ⟨hd, rfl, hn⟩ := h
  exact ix_ok_push hp hn (fun _ _ => ⟨hv, rfl⟩) (fun _ _ _ _ _ _ kk => lv_bipush C.1 C.2.1 hd e kk)
theorem io_sipush (C : ix_ctx k E own cc Ts) {pc nx v : Nat} {n : Int} (h : ix_at cc pc (.sipush n) 3 nx) (hv : v < 4294967296) (e : (Int16.ofInt n).toInt32 = Int32.ofNat v) : ix_ok k E pc (ix_push nx (ix_vI v)) := by
  have hp := h.lt
  obtain ⟨hd, rfl, hn⟩ := h
  exact ix_ok_push hp hn (fun _ _ => ⟨hv, rfl⟩) (fun _ _ _ _ _ _ kk => lv_sipush C.1 C.2.1 hd e kk)
theorem io_lconst (C : ix_ctx k E own cc Ts) {pc nx v : Nat} {n : Fin 2} (h : ix_at cc pc (.lconst n) 1 nx) (hv : v < 18446744073709551616) (e : Int64.ofNat (n : Nat) = Int64.ofNat v) : ix_ok k E pc (ix_push nx (ix_vL v)) := by
  have hp := h.lt
  obtain ⟨hd, rfl, hn⟩ := h
  exact ix_ok_push hp hn (fun _ _ => ⟨hv, rfl⟩) (fun _ _ _ _ _ _ kk => lv_lconst C.1 C.2.1 hd e kk)
theorem io_null (C : ix_ctx k E own cc Ts) {pc nx : Nat} (h : ix_at cc pc .aconst_null 1 nx) : ix_ok k E pc (ix_push nx (ix_vR 0)) := by
  have hp := h.lt
  obtain ⟨hd, rfl, hn⟩ := h
  exact ix_ok_push (v := .null) hp hn (fun _ _ => Or.inl ⟨rfl, rfl⟩) (fun _ _ _ _ _ _ kk => lv_null C.1 C.2.1 hd kk)
theorem io_ldc (C : ix_ctx k E own cc Ts) {pc nx v idx : Nat} {z : Int32} (h : ix_at cc pc (.ldc idx) 2 nx) (hw : Cond.constant own idx z ∈ Ts) (hv : v < 4294967296) (e : z = Int32.ofNat v) : ix_ok k E pc (ix_push nx (ix_vI v)) := by
  have hp := h.lt
  obtain ⟨hd, rfl, hn⟩ := h
  subst e
  exact ix_ok_push hp hn (fun _ _ => ⟨hv, rfl⟩) (fun _ _ _ _ _ _ kk => lv_ldc C.1 C.2.1 C.2.2.2.1 (C.2.2.2.2.1 _ hw) hd kk)
theorem io_ldcw (C : ix_ctx k E own cc Ts) {pc nx v idx : Nat} {z : Int32} (h : ix_at cc pc (.ldc_w idx) 3 nx) (hw : Cond.constant own idx z ∈ Ts) (hv : v < 4294967296) (e : z = Int32.ofNat v) : ix_ok k E pc (ix_push nx (ix_vI v)) := by
  have hp := h.lt
  obtain ⟨hd, rfl, hn⟩ := h
  subst e
  exact ix_ok_push hp hn (fun _ _ => ⟨hv, rfl⟩) (fun _ _ _ _ _ _ kk => lv_ldcw C.1 C.2.1 C.2.2.2.1 (C.2.2.2.2.1 _ hw) hd kk)
theorem io_ldc2 (C : ix_ctx k E own cc Ts) {pc nx v idx : Nat} {z : Int64} (h : ix_at cc pc (.ldc2_w idx) 3 nx) (hw : Cond.constantLong own idx z ∈ Ts) (hv : v < 18446744073709551616) (e : z = Int64.ofNat v) : ix_ok k E pc (ix_push nx (ix_vL v)) := by
  have hp := h.lt
  obtain ⟨hd, rfl, hn⟩ := h
  subst e
  exact ix_ok_push hp hn (fun _ _ => ⟨hv, rfl⟩) (fun _ _ _ _ _ _ kk => lv_ldc2 C.1 C.2.1 C.2.2.2.1 (C.2.2.2.2.1 _ hw) hd kk)
theorem io_iload_n (C : ix_ctx k E own cc Ts) {pc nx i : Nat} {j : Fin 4} (h : ix_at cc pc (.iload_n j) 1 nx) (hj : (j : Nat) = i) : ix_ok k E pc (ix_load ix_isInt i nx) := by
  have hp := h.lt
  obtain ⟨hd, rfl, hn⟩ := h
  refine ix_ok_load hp hn fun x v ad H locs ce sl ls stk ho hv hl kk => ?_
  obtain ⟨z, rfl⟩ := ix_int_of ho hv
  exact lv_iload_n C.1 C.2.1 hd hj hl kk
theorem io_iload (C : ix_ctx k E own cc Ts) {pc nx i : Nat} (h : ix_at cc pc (.iload i) 2 nx) : ix_ok k E pc (ix_load ix_isInt i nx) := by
  have hp := h.lt
  obtain ⟨hd, rfl, hn⟩ := h
  refine ix_ok_load hp hn fun x v ad H locs ce sl ls stk ho hv hl kk => ?_
  obtain ⟨z, rfl⟩ := ix_int_of ho hv
  exact lv_iload C.1 C.2.1 hd hl kk
theorem io_lload_n (C : ix_ctx k E own cc Ts) {pc nx i : Nat} {j : Fin 4} (h : ix_at cc pc (.lload_n j) 1 nx) (hj : (j : Nat) = i) : ix_ok k E pc (ix_load ix_isLong i nx) := by
  have hp := h.lt
  obtain ⟨hd, rfl, hn⟩ := h
  refine ix_ok_load hp hn fun x v ad H locs ce sl ls stk ho hv hl kk => ?_
  obtain ⟨z, rfl⟩ := ix_long_of ho hv
  exact lv_lload_n C.1 C.2.1 hd hj hl kk
theorem io_lload (C : ix_ctx k E own cc Ts) {pc nx i : Nat} (h : ix_at cc pc (.lload i) 2 nx) : ix_ok k E pc (ix_load ix_isLong i nx) := by
  have hp := h.lt
  obtain ⟨hd, rfl, hn⟩ := h
  refine ix_ok_load hp hn fun x v ad H locs ce sl ls stk ho hv hl kk => ?_
  obtain ⟨z, rfl⟩ := ix_long_of ho hv
  exact lv_lload C.1 C.2.1 hd hl kk
theorem io_aload_n (C : ix_ctx k E own cc Ts) {pc nx i : Nat} {j : Fin 4} (h : ix_at cc pc (.aload_n j) 1 nx) (hj : (j : Nat) = i) : ix_ok k E pc (ix_load ix_isRef i nx) := by
  have hp := h.lt
  obtain ⟨hd, rfl, hn⟩ := h
  refine ix_ok_load hp hn fun x v ad H locs ce sl ls stk ho hv hl kk => ?_
  rcases ix_ref_of ho hv with rfl | ⟨a, rfl⟩
  · exact lv_aload_nN C.1 C.2.1 hd hj hl kk
  · exact lv_aload_n C.1 C.2.1 hd hj hl kk
theorem io_aload (C : ix_ctx k E own cc Ts) {pc nx i : Nat} (h : ix_at cc pc (.aload i) 2 nx) : ix_ok k E pc (ix_load ix_isRef i nx) := by
  have hp := h.lt
  obtain ⟨hd, rfl, hn⟩ := h
  refine ix_ok_load hp hn fun x v ad H locs ce sl ls stk ho hv hl kk => ?_
  rcases ix_ref_of ho hv with rfl | ⟨a, rfl⟩
  · exact lv_aloadN C.1 C.2.1 hd hl kk
  · exact lv_aload C.1 C.2.1 hd hl kk
theorem io_istore_n (C : ix_ctx k E own cc Ts) {pc nx i : Nat} {j : Fin 4} (h : ix_at cc pc (.istore_n j) 1 nx) (hj : (j : Nat) = i) : ix_ok k E pc (ix_store ix_isInt i nx) := by
  have hp := h.lt
  obtain ⟨hd, rfl, hn⟩ := h
  refine ix_ok_store hp hn fun x v ad H locs ce sl ls stk lv ho hv hi hl kk => ?_
  obtain ⟨z, rfl⟩ := ix_int_of ho hv
  exact lv_istore_n C.1 C.2.1 hd hj hl hi rfl kk
theorem io_istore (C : ix_ctx k E own cc Ts) {pc nx i : Nat} (h : ix_at cc pc (.istore i) 2 nx) : ix_ok k E pc (ix_store ix_isInt i nx) := by
  have hp := h.lt
  obtain ⟨hd, rfl, hn⟩ := h
  refine ix_ok_store hp hn fun x v ad H locs ce sl ls stk lv ho hv hi hl kk => ?_
  obtain ⟨z, rfl⟩ := ix_int_of ho hv
  exact lv_istore C.1 C.2.1 hd hl hi rfl kk
theorem io_astore_n (C : ix_ctx k E own cc Ts) {pc nx i : Nat} {j : Fin 4} (h : ix_at cc pc (.astore_n j) 1 nx) (hj : (j : Nat) = i) : ix_ok k E pc (ix_store ix_isRef i nx) := by
  have hp := h.lt
  obtain ⟨hd, rfl, hn⟩ := h
  refine ix_ok_store hp hn fun x v ad H locs ce sl ls stk lv ho hv hi hl kk => ?_
  rcases ix_ref_of ho hv with rfl | ⟨a, rfl⟩
  · exact lv_astore_nN C.1 C.2.1 hd hj hl hi rfl kk
  · exact lv_astore_n C.1 C.2.1 hd hj hl hi rfl kk
theorem io_astore (C : ix_ctx k E own cc Ts) {pc nx i : Nat} (h : ix_at cc pc (.astore i) 2 nx) : ix_ok k E pc (ix_store ix_isRef i nx) := by
  have hp := h.lt
  obtain ⟨hd, rfl, hn⟩ := h
  refine ix_ok_store hp hn fun x v ad H locs ce sl ls stk lv ho hv hi hl kk => ?_
  rcases ix_ref_of ho hv with rfl | ⟨a, rfl⟩
  · exact lv_astoreN C.1 C.2.1 hd hl hi rfl kk
  · exact lv_astore C.1 C.2.1 hd hl hi rfl kk
theorem io_lstore_n (C : ix_ctx k E own cc Ts) {pc nx i : Nat} {j : Fin 4} (h : ix_at cc pc (.lstore_n j) 1 nx) (hj : (j : Nat) = i) : ix_ok k E pc (ix_lstore i nx) := by
  have hp := h.lt
  obtain ⟨hd, rfl, hn⟩ := h
  exact ix_ok_lstore hp hn fun z H locs ce sl ls stk lv hi hl kk => lv_lstore_n C.1 C.2.1 hd hj hl hi rfl kk
theorem io_lstore (C : ix_ctx k E own cc Ts) {pc nx i : Nat} (h : ix_at cc pc (.lstore i) 2 nx) : ix_ok k E pc (ix_lstore i nx) := by
  have hp := h.lt
  obtain ⟨hd, rfl, hn⟩ := h
  exact ix_ok_lstore hp hn fun z H locs ce sl ls stk lv hi hl kk => lv_lstore C.1 C.2.1 hd hl hi rfl kk
theorem ix_plus_int {a b r : ix_V} (h : ix_plus a b = some r) : ix_isInt a = true ∧ ix_isInt b = true := by
  match a, b, h with
  | .inl _, .inl _, _ => exact ⟨rfl, rfl⟩
  | .inr (.inr (.inr _)), .inl _, _ => exact ⟨rfl, rfl⟩
  | .inl _, .inr (.inr (.inr _)), _ => exact ⟨rfl, rfl⟩
  | .inr (.inr (.inr _)), .inr (.inr (.inr _)), _ => exact ⟨rfl, rfl⟩
theorem ix_minus_int {a b r : ix_V} (h : ix_minus a b = some r) : ix_isInt a = true ∧ ix_isInt b = true := by
  match a, b, h with
  | .inl _, .inl _, _ => exact ⟨rfl, rfl⟩
  | .inr (.inr (.inr _)), .inl _, _ => exact ⟨rfl, rfl⟩
  | .inl _, .inr (.inr (.inr _)), _ => exact ⟨rfl, rfl⟩
  | .inr (.inr (.inr _)), .inr (.inr (.inr _)), _ => exact ⟨rfl, rfl⟩
theorem io_iinc (C : ix_ctx k E own cc Ts) {pc nx i v : Nat} {n : Int} (h : ix_at cc pc (.iinc i n) 3 nx) (hv : v < 4294967296) (e : Int32.ofInt n = Int32.ofNat v) : ix_ok k E pc (ix_iinc i v nx) := by
  have hp := h.lt
  obtain ⟨hd, rfl, hn⟩ := h
  intro S outs hf hg
  obtain ⟨B, L, st, n2, t, ce, sl⟩ := S
  unfold ix_iinc at hf
  dsimp only at hf
  split at hf
  · rename_i x hx
    split at hf
    · rename_i r hr2
      cases hf
      refine ix_go_i hp fun ad ws H locs ls stk hr hS => ?_
      obtain ⟨h1, h2, h3, h4, h5, h6⟩ := hr
      obtain ⟨hL, lv, hl, hl2⟩ := h2
      obtain ⟨w, q1, q2⟩ := hl2 i x hx
      obtain ⟨z, rfl⟩ := ix_int_of (ix_plus_int hr2).1 q2
      obtain ⟨kk, hkk⟩ := List.getElem?_of_mem q1
      have hi : i < ix_eL E := by rw [← hL]; exact (List.getElem?_eq_some_iff.mp hx).1
      exact lv_iinc (v := z + Int32.ofNat v) C.1 C.2.1 hd hl hkk (by rw [e]) hi rfl (fun ls' h' => ix_go_e hn (hg _ List.mem_cons_self) ad ws H locs ls' stk ⟨h1, ix_rl.set1 hL hl2 (ix_plus_ok hr2 q2 ⟨hv, rfl⟩) h', h3, h4, h5, h6⟩ hS)
    · cases hf
  · cases hf
theorem io_iadd (C : ix_ctx k E own cc Ts) {pc nx : Nat} (h : ix_at cc pc .iadd 1 nx) : ix_ok k E pc (ix_iadd nx) := by
  have hp := h.lt
  obtain ⟨hd, rfl, hn⟩ := h
  intro S outs hf hg
  obtain ⟨B, L, st, n2, t, ce, sl⟩ := S
  match st, hf with
  | [], hf => cases hf
  | [_], hf => cases hf
  | b :: a :: st, hf =>
    unfold ix_iadd at hf
    dsimp only at hf
    split at hf
    · rename_i r hr2
      cases hf
      refine ix_go_i hp fun ad ws H locs ls stk hr hS => ?_
      obtain ⟨h1, h2, h3, h4, h5, h6⟩ := hr
      obtain ⟨vb, va, vs, rfl, q1, q2, q3⟩ := ix_rs_2 h3
      obtain ⟨zb, rfl⟩ := ix_int_of (ix_plus_int hr2).2 q1
      obtain ⟨za, rfl⟩ := ix_int_of (ix_plus_int hr2).1 q2
      exact lv_iadd C.1 C.2.1 hd (ix_go_e hn (hg _ List.mem_cons_self) ad ws H locs ls _ ⟨h1, h2, ⟨ix_plus_ok hr2 q2 q1, q3⟩, h4, h5, h6⟩ hS)
    · cases hf
theorem io_isub (C : ix_ctx k E own cc Ts) {pc nx : Nat} (h : ix_at cc pc .isub 1 nx) : ix_ok k E pc (ix_isub nx) := by
  have hp := h.lt
  obtain ⟨hd, rfl, hn⟩ := h
  intro S outs hf hg
  obtain ⟨B, L, st, n2, t, ce, sl⟩ := S
  match st, hf with
  | [], hf => cases hf
  | [_], hf => cases hf
  | b :: a :: st, hf =>
    unfold ix_isub at hf
    dsimp only at hf
    split at hf
    · rename_i r hr2
      cases hf
      refine ix_go_i hp fun ad ws H locs ls stk hr hS => ?_
      obtain ⟨h1, h2, h3, h4, h5, h6⟩ := hr
      obtain ⟨vb, va, vs, rfl, q1, q2, q3⟩ := ix_rs_2 h3
      obtain ⟨zb, rfl⟩ := ix_int_of (ix_minus_int hr2).2 q1
      obtain ⟨za, rfl⟩ := ix_int_of (ix_minus_int hr2).1 q2
      exact lv_isub C.1 C.2.1 hd (ix_go_e hn (hg _ List.mem_cons_self) ad ws H locs ls _ ⟨h1, h2, ⟨ix_minus_ok hr2 q2 q1, q3⟩, h4, h5, h6⟩ hS)
    · cases hf
/-- the same place once more, by a smaller box -/
theorem ix_again {k : ix_K} {E : ix_E} {pc : Nat} {S : ix_S} {x : Nat} {outs : List (Nat × ix_S)} (hp : pc < 99999) (h : ix_split pc S x = some outs) (hg : ∀ o ∈ outs, ix_Go k E o.1 o.2) {ad : Nat → Option Nat} {ws : va_W} {H : Heap} {locs : List Loc} {ls : Array Slot} {stk : List Value} (hr : ix_rel E S ad ws H ls stk) (hS : va_S (ix_eA E) (ix_ks k).heap H locs) :
    ix_W k H locs S.2.2.2.2.2.1 S.2.2.2.2.2.2 (F0 (ix_km k) pc ls stk) := by
  obtain ⟨b, hb, hi⟩ := ix_split_ok h hr.1
  exact ix_go_e hp (hg _ hb) ad ws H locs ls stk ⟨hi, hr.2⟩ hS
end IXI
