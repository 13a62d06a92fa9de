/-! the rows of single mnemonics -/
section IXR
variable {k : ix_K} {E : ix_E} {own : String} {cc : ByteArray} {Ts : List Cond}
theorem io_imul (C : ix_ctx k E own cc Ts) {pc nx : Nat} (h : ix_at cc pc .imul 1 nx) : ix_ok k E pc (ix_ibin ix_mul pc nx) := by
  have hp := h.lt
  obtain ⟨hd, rfl, hn⟩ := h
  exact ix_ok_ibin ix_p2_mul hp hn (fun a b _ _ _ _ _ _ kk => lv_imul C.1 C.2.1 hd kk)
theorem io_iand (C : ix_ctx k E own cc Ts) {pc nx : Nat} (h : ix_at cc pc .iand 1 nx) : ix_ok k E pc (ix_ibin Nat.land pc nx) := by
  have hp := h.lt
  obtain ⟨hd, rfl, hn⟩ := h
  exact ix_ok_ibin ix_p2_and hp hn (fun a b _ _ _ _ _ _ kk => lv_iand C.1 C.2.1 hd kk)
theorem io_ior (C : ix_ctx k E own cc Ts) {pc nx : Nat} (h : ix_at cc pc .ior 1 nx) : ix_ok k E pc (ix_ibin Nat.lor pc nx) := by
  have hp := h.lt
  obtain ⟨hd, rfl, hn⟩ := h
  exact ix_ok_ibin ix_p2_or hp hn (fun a b _ _ _ _ _ _ kk => lv_ior C.1 C.2.1 hd kk)
theorem io_ixor (C : ix_ctx k E own cc Ts) {pc nx : Nat} (h : ix_at cc pc .ixor 1 nx) : ix_ok k E pc (ix_ibin Nat.xor pc nx) := by
  have hp := h.lt
  obtain ⟨hd, rfl, hn⟩ := h
  exact ix_ok_ibin ix_p2_xor hp hn (fun a b _ _ _ _ _ _ kk => lv_ixor C.1 C.2.1 hd kk)
theorem io_ishl (C : ix_ctx k E own cc Ts) {pc nx : Nat} (h : ix_at cc pc .ishl 1 nx) : ix_ok k E pc (ix_ibin (ix_s2 ix_jshl) pc nx) := by
  have hp := h.lt
  obtain ⟨hd, rfl, hn⟩ := h
  exact ix_ok_ibin (ix_p2_s ix_jshl) hp hn (fun a b _ _ _ _ _ _ kk => lv_ishl C.1 C.2.1 hd kk)
theorem io_ishr (C : ix_ctx k E own cc Ts) {pc nx : Nat} (h : ix_at cc pc .ishr 1 nx) : ix_ok k E pc (ix_ibin (ix_s2 ix_jshr) pc nx) := by
  have hp := h.lt
  obtain ⟨hd, rfl, hn⟩ := h
  exact ix_ok_ibin (ix_p2_s ix_jshr) hp hn (fun a b _ _ _ _ _ _ kk => lv_ishr C.1 C.2.1 hd kk)
theorem io_iushr (C : ix_ctx k E own cc Ts) {pc nx : Nat} (h : ix_at cc pc .iushr 1 nx) : ix_ok k E pc (ix_ibin (ix_s2 ix_jushr) pc nx) := by
  have hp := h.lt
  obtain ⟨hd, rfl, hn⟩ := h
  exact ix_ok_ibin (ix_p2_s ix_jushr) hp hn (fun a b _ _ _ _ _ _ kk => lv_iushr C.1 C.2.1 hd rfl kk)
theorem io_idiv (C : ix_ctx k E own cc Ts) {pc nx : Nat} (h : ix_at cc pc .idiv 1 nx) : ix_ok k E pc (ix_idiv ix_div pc nx) := by
  have hp := h.lt
  obtain ⟨hd, rfl, hn⟩ := h
  exact ix_ok_idiv ix_p2_div hp hn (fun a b _ _ _ _ _ _ hb kk => lv_idiv C.1 C.2.1 hd hb kk)
theorem io_irem (C : ix_ctx k E own cc Ts) {pc nx : Nat} (h : ix_at cc pc .irem 1 nx) : ix_ok k E pc (ix_idiv ix_rem pc nx) := by
  have hp := h.lt
  obtain ⟨hd, rfl, hn⟩ := h
  exact ix_ok_idiv ix_p2_rem hp hn (fun a b _ _ _ _ _ _ hb kk => lv_irem C.1 C.2.1 hd hb kk)
theorem io_ineg (C : ix_ctx k E own cc Ts) {pc nx : Nat} (h : ix_at cc pc .ineg 1 nx) : ix_ok k E pc (ix_iun (ix_s1 (fun x => -x)) nx) := by
  have hp := h.lt
  obtain ⟨hd, rfl, hn⟩ := h
  exact ix_ok_iun hp hn (fun a _ _ _ _ _ _ kk => lv_ineg C.1 C.2.1 hd kk)
theorem io_i2b (C : ix_ctx k E own cc Ts) {pc nx : Nat} (h : ix_at cc pc .i2b 1 nx) : ix_ok k E pc (ix_iun (ix_s1 ix_ji2b) nx) := by
  have hp := h.lt
  obtain ⟨hd, rfl, hn⟩ := h
  exact ix_ok_iun hp hn (fun a _ _ _ _ _ _ kk => lv_i2b C.1 C.2.1 hd rfl kk)
theorem io_i2c (C : ix_ctx k E own cc Ts) {pc nx : Nat} (h : ix_at cc pc .i2c 1 nx) : ix_ok k E pc (ix_iun (ix_s1 ix_ji2c) nx) := by
  have hp := h.lt
  obtain ⟨hd, rfl, hn⟩ := h
  exact ix_ok_iun hp hn (fun a _ _ _ _ _ _ kk => lv_i2c C.1 C.2.1 hd rfl kk)
theorem io_ladd (C : ix_ctx k E own cc Ts) {pc nx : Nat} (h : ix_at cc pc .ladd 1 nx) : ix_ok k E pc (ix_lbin (ix_l2 (fun x y => x + y)) nx) := by
  have hp := h.lt
  obtain ⟨hd, rfl, hn⟩ := h
  exact ix_ok_lbin hp hn (fun a b _ _ _ _ _ _ kk => lv_ladd C.1 C.2.1 hd kk)
theorem io_lsub (C : ix_ctx k E own cc Ts) {pc nx : Nat} (h : ix_at cc pc .lsub 1 nx) : ix_ok k E pc (ix_lbin (ix_l2 (fun x y => x - y)) nx) := by
  have hp := h.lt
  obtain ⟨hd, rfl, hn⟩ := h
  exact ix_ok_lbin hp hn (fun a b _ _ _ _ _ _ kk => lv_lsub C.1 C.2.1 hd kk)
theorem io_lmul (C : ix_ctx k E own cc Ts) {pc nx : Nat} (h : ix_at cc pc .lmul 1 nx) : ix_ok k E pc (ix_lbin (ix_l2 (fun x y => x * y)) nx) := by
  have hp := h.lt
  obtain ⟨hd, rfl, hn⟩ := h
  exact ix_ok_lbin hp hn (fun a b _ _ _ _ _ _ kk => lv_lmul C.1 C.2.1 hd kk)
theorem io_land (C : ix_ctx k E own cc Ts) {pc nx : Nat} (h : ix_at cc pc .land 1 nx) : ix_ok k E pc (ix_lbin (ix_l2 (fun x y => x &&& y)) nx) := by
  have hp := h.lt
  obtain ⟨hd, rfl, hn⟩ := h
  exact ix_ok_lbin hp hn (fun a b _ _ _ _ _ _ kk => lv_land C.1 C.2.1 hd kk)
theorem io_lor (C : ix_ctx k E own cc Ts) {pc nx : Nat} (h : ix_at cc pc .lor 1 nx) : ix_ok k E pc (ix_lbin (ix_l2 (fun x y => x ||| y)) nx) := by
  have hp := h.lt
  obtain ⟨hd, rfl, hn⟩ := h
  exact ix_ok_lbin hp hn (fun a b _ _ _ _ _ _ kk => lv_lor C.1 C.2.1 hd kk)
theorem io_lxor (C : ix_ctx k E own cc Ts) {pc nx : Nat} (h : ix_at cc pc .lxor 1 nx) : ix_ok k E pc (ix_lbin (ix_l2 (fun x y => x ^^^ y)) nx) := by
  have hp := h.lt
  obtain ⟨hd, rfl, hn⟩ := h
  exact ix_ok_lbin hp hn (fun a b _ _ _ _ _ _ kk => lv_lxor C.1 C.2.1 hd kk)
theorem io_ldiv (C : ix_ctx k E own cc Ts) {pc nx : Nat} (h : ix_at cc pc .ldiv 1 nx) : ix_ok k E pc (ix_ldiv (ix_l2 (fun x y => x / y)) nx) := by
  have hp := h.lt
  obtain ⟨hd, rfl, hn⟩ := h
  exact ix_ok_ldiv hp hn (fun a b _ _ _ _ _ _ hb kk => lv_ldiv C.1 C.2.1 hd hb kk)
theorem io_lrem (C : ix_ctx k E own cc Ts) {pc nx : Nat} (h : ix_at cc pc .lrem 1 nx) : ix_ok k E pc (ix_ldiv (ix_l2 (fun x y => x - x / y * y)) nx) := by
  have hp := h.lt
  obtain ⟨hd, rfl, hn⟩ := h
  exact ix_ok_ldiv hp hn (fun a b _ _ _ _ _ _ hb kk => lv_lrem C.1 C.2.1 hd hb kk)
theorem io_lshl (C : ix_ctx k E own cc Ts) {pc nx : Nat} (h : ix_at cc pc .lshl 1 nx) : ix_ok k E pc (ix_lsh (ix_lk ix_jlshl) nx) := by
  have hp := h.lt
  obtain ⟨hd, rfl, hn⟩ := h
  exact ix_ok_lsh hp hn (fun a b _ _ _ _ _ _ kk => lv_lshl C.1 C.2.1 hd rfl kk)
theorem io_lushr (C : ix_ctx k E own cc Ts) {pc nx : Nat} (h : ix_at cc pc .lushr 1 nx) : ix_ok k E pc (ix_lsh (ix_lk ix_jlushr) nx) := by
  have hp := h.lt
  obtain ⟨hd, rfl, hn⟩ := h
  exact ix_ok_lsh hp hn (fun a b _ _ _ _ _ _ kk => lv_lushr C.1 C.2.1 hd rfl kk)
theorem io_lneg (C : ix_ctx k E own cc Ts) {pc nx : Nat} (h : ix_at cc pc .lneg 1 nx) : ix_ok k E pc (ix_lun (ix_l1 (fun x => -x)) nx) := by
  have hp := h.lt
  obtain ⟨hd, rfl, hn⟩ := h
  exact ix_ok_lun hp hn (fun a _ _ _ _ _ _ kk => lv_lneg C.1 C.2.1 hd kk)
theorem io_icmp_eq (C : ix_ctx k E own cc Ts) {pc nx tgt : Nat} {off : Int} (h : ix_at cc pc (.if_icmp .eq off) 3 nx) (ht : (pc : Int) + off = (tgt : Int)) (hl : tgt < 99999) : ix_ok k E pc (ix_icmp false false false tgt nx) := by
  have hp := h.lt
  obtain ⟨hd, rfl, hn⟩ := h
  exact ix_ok_icmp hp hl hn (fun a b => a = b) (fun a b => rfl) (fun a b _ _ _ _ _ _ kt kf => lv_icmp_eq C.1 C.2.1 hd ht kt kf)
theorem io_if_eq (C : ix_ctx k E own cc Ts) {pc nx tgt : Nat} {off : Int} (h : ix_at cc pc (.ifCond .eq off) 3 nx) (ht : (pc : Int) + off = (tgt : Int)) (hl : tgt < 99999) : ix_ok k E pc (ix_if false false false tgt nx) := by
  have hp := h.lt
  obtain ⟨hd, rfl, hn⟩ := h
  exact ix_ok_if hp hl hn (fun a => a = 0) (fun a => rfl) (fun a _ _ _ _ _ _ kt kf => lv_if_eq C.1 C.2.1 hd ht kt kf)
theorem io_icmp_ne (C : ix_ctx k E own cc Ts) {pc nx tgt : Nat} {off : Int} (h : ix_at cc pc (.if_icmp .ne off) 3 nx) (ht : (pc : Int) + off = (tgt : Int)) (hl : tgt < 99999) : ix_ok k E pc (ix_icmp false true false tgt nx) := by
  have hp := h.lt
  obtain ⟨hd, rfl, hn⟩ := h
  exact ix_ok_icmp hp hn hl (fun a b => a = b) (fun a b => rfl) (fun a b _ _ _ _ _ _ kt kf => lv_icmp_ne C.1 C.2.1 hd ht kf kt)
theorem io_if_ne (C : ix_ctx k E own cc Ts) {pc nx tgt : Nat} {off : Int} (h : ix_at cc pc (.ifCond .ne off) 3 nx) (ht : (pc : Int) + off = (tgt : Int)) (hl : tgt < 99999) : ix_ok k E pc (ix_if false true false tgt nx) := by
  have hp := h.lt
  obtain ⟨hd, rfl, hn⟩ := h
  exact ix_ok_if hp hn hl (fun a => a = 0) (fun a => rfl) (fun a _ _ _ _ _ _ kt kf => lv_if_ne C.1 C.2.1 hd ht kf kt)
theorem io_icmp_lt (C : ix_ctx k E own cc Ts) {pc nx tgt : Nat} {off : Int} (h : ix_at cc pc (.if_icmp .lt off) 3 nx) (ht : (pc : Int) + off = (tgt : Int)) (hl : tgt < 99999) : ix_ok k E pc (ix_icmp true false false tgt nx) := by
  have hp := h.lt
  obtain ⟨hd, rfl, hn⟩ := h
  exact ix_ok_icmp hp hl hn (fun a b => a < b) (fun a b => rfl) (fun a b _ _ _ _ _ _ kt kf => lv_icmp_lt C.1 C.2.1 hd ht kt kf)
theorem io_if_lt (C : ix_ctx k E own cc Ts) {pc nx tgt : Nat} {off : Int} (h : ix_at cc pc (.ifCond .lt off) 3 nx) (ht : (pc : Int) + off = (tgt : Int)) (hl : tgt < 99999) : ix_ok k E pc (ix_if true false false tgt nx) := by
  have hp := h.lt
  obtain ⟨hd, rfl, hn⟩ := h
  exact ix_ok_if hp hl hn (fun a => a < 0) (fun a => rfl) (fun a _ _ _ _ _ _ kt kf => lv_if_lt C.1 C.2.1 hd ht kt kf)
theorem io_icmp_ge (C : ix_ctx k E own cc Ts) {pc nx tgt : Nat} {off : Int} (h : ix_at cc pc (.if_icmp .ge off) 3 nx) (ht : (pc : Int) + off = (tgt : Int)) (hl : tgt < 99999) : ix_ok k E pc (ix_icmp true true false tgt nx) := by
  have hp := h.lt
  obtain ⟨hd, rfl, hn⟩ := h
  exact ix_ok_icmp hp hn hl (fun a b => a < b) (fun a b => rfl) (fun a b _ _ _ _ _ _ kt kf => lv_icmp_ge C.1 C.2.1 hd ht (fun g => kf (Int32.not_lt.mpr g)) (fun g => kt (Int32.not_le.mp g)))
theorem io_if_ge (C : ix_ctx k E own cc Ts) {pc nx tgt : Nat} {off : Int} (h : ix_at cc pc (.ifCond .ge off) 3 nx) (ht : (pc : Int) + off = (tgt : Int)) (hl : tgt < 99999) : ix_ok k E pc (ix_if true true false tgt nx) := by
  have hp := h.lt
  obtain ⟨hd, rfl, hn⟩ := h
  exact ix_ok_if hp hn hl (fun a => a < 0) (fun a => rfl) (fun a _ _ _ _ _ _ kt kf => lv_if_ge C.1 C.2.1 hd ht (fun g => kf (Int32.not_lt.mpr g)) (fun g => kt (Int32.not_le.mp g)))
theorem io_icmp_gt (C : ix_ctx k E own cc Ts) {pc nx tgt : Nat} {off : Int} (h : ix_at cc pc (.if_icmp .gt off) 3 nx) (ht : (pc : Int) + off = (tgt : Int)) (hl : tgt < 99999) : ix_ok k E pc (ix_icmp true false true tgt nx) := by
  have hp := h.lt
  obtain ⟨hd, rfl, hn⟩ := h
  exact ix_ok_icmp hp hl hn (fun a b => b < a) (fun a b => rfl) (fun a b _ _ _ _ _ _ kt kf => lv_icmp_gt C.1 C.2.1 hd ht kt kf)
theorem io_if_gt (C : ix_ctx k E own cc Ts) {pc nx tgt : Nat} {off : Int} (h : ix_at cc pc (.ifCond .gt off) 3 nx) (ht : (pc : Int) + off = (tgt : Int)) (hl : tgt < 99999) : ix_ok k E pc (ix_if true false true tgt nx) := by
  have hp := h.lt
  obtain ⟨hd, rfl, hn⟩ := h
  exact ix_ok_if hp hl hn (fun a => 0 < a) (fun a => rfl) (fun a _ _ _ _ _ _ kt kf => lv_if_gt C.1 C.2.1 hd ht kt kf)
theorem io_icmp_le (C : ix_ctx k E own cc Ts) {pc nx tgt : Nat} {off : Int} (h : ix_at cc pc (.if_icmp .le off) 3 nx) (ht : (pc : Int) + off = (tgt : Int)) (hl : tgt < 99999) : ix_ok k E pc (ix_icmp true true true tgt nx) := by
  have hp := h.lt
  obtain ⟨hd, rfl, hn⟩ := h
  exact ix_ok_icmp hp hn hl (fun a b => b < a) (fun a b => rfl) (fun a b _ _ _ _ _ _ kt kf => lv_icmp_le C.1 C.2.1 hd ht (fun g => kf (Int32.not_lt.mpr g)) (fun g => kt (Int32.not_le.mp g)))
theorem io_if_le (C : ix_ctx k E own cc Ts) {pc nx tgt : Nat} {off : Int} (h : ix_at cc pc (.ifCond .le off) 3 nx) (ht : (pc : Int) + off = (tgt : Int)) (hl : tgt < 99999) : ix_ok k E pc (ix_if true true true tgt nx) := by
  have hp := h.lt
  obtain ⟨hd, rfl, hn⟩ := h
  exact ix_ok_if hp hn hl (fun a => 0 < a) (fun a => rfl) (fun a _ _ _ _ _ _ kt kf => lv_if_le C.1 C.2.1 hd ht (fun g => kf (Int32.not_lt.mpr g)) (fun g => kt (Int32.not_le.mp g)))
theorem ix_ok_ifnull {pc yes no : Nat} (hp : pc < 99999) (hy : yes < 99999) (hz : no < 99999)
    (rowN : ∀ H locs ce sl ls stk, ix_W k H locs ce sl (F0 (ix_km k) yes ls stk) → ix_W k H locs ce sl (F0 (ix_km k) pc ls (.null :: stk)))
    (rowR : ∀ (a : Nat) H locs ce sl ls stk, ix_W k H locs ce sl (F0 (ix_km k) no ls stk) → ix_W k H locs ce sl (F0 (ix_km k) pc ls (.ref a :: stk))) : ix_ok k E pc (ix_ifnull yes no) := by
  intro S outs hf hg
  obtain ⟨B, L, st, nn, t, ce, sl⟩ := S
  unfold ix_ifnull at hf
  split at hf
  · rename_i r _ _ e9
    cases e9
    cases hf
    refine ix_go_i hp fun ad ws H locs ls stk hr hS => ?_
    obtain ⟨h1, h2, h3, h4, h5, h6⟩ := hr
    obtain ⟨va, vs, rfl, q2, q3⟩ := ix_rs_1 h3
    have g := hg _ List.mem_cons_self
    rcases q2 with ⟨r0, rfl⟩ | ⟨i, a, r1, _, rfl⟩
    · subst r0
      exact rowN _ _ _ _ _ _ (ix_go_e hy g ad ws H locs ls vs ⟨h1, h2, q3, h4, h5, h6⟩ hS)
    · subst r1
      exact rowR a _ _ _ _ _ _ (ix_go_e hz g ad ws H locs ls vs ⟨h1, h2, q3, h4, h5, h6⟩ hS)
  · cases hf
theorem io_ifnull (C : ix_ctx k E own cc Ts) {pc nx tgt : Nat} {off : Int} (h : ix_at cc pc (.ifnull off) 3 nx) (ht : (pc : Int) + off = (tgt : Int)) (hl : tgt < 99999) : ix_ok k E pc (ix_ifnull tgt nx) := by
  have hp := h.lt
  obtain ⟨hd, rfl, hn⟩ := h
  exact ix_ok_ifnull hp hl hn (fun _ _ _ _ _ _ kk => lv_ifnullN C.1 C.2.1 hd ht kk) (fun a _ _ _ _ _ _ kk => lv_ifnull C.1 C.2.1 hd kk)
theorem io_ifnonnull (C : ix_ctx k E own cc Ts) {pc nx tgt : Nat} {off : Int} (h : ix_at cc pc (.ifnonnull off) 3 nx) (ht : (pc : Int) + off = (tgt : Int)) (hl : tgt < 99999) : ix_ok k E pc (ix_ifnull nx tgt) := by
  have hp := h.lt
  obtain ⟨hd, rfl, hn⟩ := h
  exact ix_ok_ifnull hp hn hl (fun _ _ _ _ _ _ kk => lv_ifnonnullN C.1 C.2.1 hd kk) (fun a _ _ _ _ _ _ kk => lv_ifnonnull C.1 C.2.1 hd ht kk)
/-- where a switch goes -/
def ix_swt (cs : List (Nat × Nat)) (dflt m : Nat) : Nat := (cs.find? (fun q => Nat.beq q.1 m)).elim dflt (fun q => q.2)
theorem ix_ok_sw {pc dflt : Nat} {cs : List (Nat × Nat)} (hp : pc < 99999) (hl : ∀ m, ix_swt cs dflt m < 99999) (hcs : ∀ q ∈ cs, q.1 < 4294967296)
    (row : ∀ (m : Nat) H locs ce sl ls stk, m < 4294967296 → ix_W k H locs ce sl (F0 (ix_km k) (ix_swt cs dflt m) ls stk) → ix_W k H locs ce sl (F0 (ix_km k) pc ls (.int (Int32.ofNat m) :: stk))) : ix_ok k E pc (ix_sw cs dflt pc) := by
  intro S outs hf hg
  obtain ⟨B, L, st, nn, t, ce, sl⟩ := S
  unfold ix_sw at hf
  split at hf
  · rename_i a _ _ e9
    cases e9
    refine ix_go_i hp fun ad ws H locs ls stk hr hS => ?_
    have hr0 := hr
    obtain ⟨h1, h2, h3, h4, h5, h6⟩ := hr
    obtain ⟨va, vs, rfl, q2, q3⟩ := ix_rs_1 h3
    have n2 := ix_nrm_ok (ad := ad) h1 q2
    cases ea : ix_nrm B a with
    | inl m =>
      rw [ea] at n2 hf
      obtain ⟨m1, rfl⟩ := n2
      cases hf
      exact row m _ _ _ _ _ _ m1 (ix_go_e (hl m) (hg _ List.mem_cons_self) ad ws H locs ls vs ⟨h1, h2, q3, h4, h5, h6⟩ hS)
    | inr w =>
      rw [ea] at n2 hf
      match w, ea, n2, hf with
      | .inl _, _, _, hf => cases hf
      | .inr (.inl _), _, _, hf => cases hf
      | .inr (.inr (x, c)), ea, n2, hf =>
        dsimp only at hf
        cases e0 : (Nat.blt 0 x && Nat.blt x B.length) with
        | false => rw [e0] at hf; cases hf
        | true =>
          rw [e0] at hf
          dsimp only [cond_true] at hf
          have x0 := ix_blt.mp (Bool.and_eq_true_iff.mp e0).1
          split at hf
          · rename_i hnone
            cases hf
            obtain ⟨c1, z, rfl, hz⟩ := n2
            rcases hz with hz | hz
            · omega
            · have hb := ix_box_ok h1 x
              have em : z = Int32.ofNat z.toBitVec.toNat := (ix_bk z).symm
              have none2 : cs.find? (fun q => Nat.beq q.1 z.toBitVec.toNat) = none := by
                refine List.find?_eq_none.mpr fun q hq g => ?_
                have g1 := ix_beq.mp g
                have g2 := List.find?_eq_none.mp hnone q hq
                apply g2
                have g4 : ix_bz ((ix_es E).1 x) = ix_bias (ix_sub q.1 c) := (ix_sym_eq c1 (hcs q hq)).mp (by rw [← hz, g1]; exact em)
                show (match ix_box B x with | (lo, hi) => Nat.ble lo (ix_bias (ix_sub q.1 c)) && Nat.ble (ix_bias (ix_sub q.1 c)) hi) = true
                revert hb
                show (ix_box B x).1 ≤ _ ∧ _ ≤ (ix_box B x).2 → _
                generalize ix_box B x = bx
                obtain ⟨lo, hi⟩ := bx
                intro hb
                rw [g4] at hb
                exact Bool.and_eq_true_iff.mpr ⟨ix_ble.mpr hb.1, ix_ble.mpr hb.2⟩
              have et : ix_swt cs dflt z.toBitVec.toNat = dflt := by unfold ix_swt; rw [none2]; rfl
              rw [em]
              exact row _ _ _ _ _ _ _ z.toBitVec.isLt (by rw [et]; exact ix_go_e (by rw [← et]; exact hl _) (hg _ List.mem_cons_self) ad ws H locs ls vs ⟨h1, h2, q3, h4, h5, h6⟩ hS)
          · rename_i q hq
            have hv : ix_rv (ix_es E) ad (ix_vI q.1) (.int (Int32.ofNat q.1)) := ⟨hcs q (List.mem_of_find?_eq_some hq), rfl⟩
            obtain ⟨z, rfl⟩ := ix_int_of (ix_nrm_int (B := B) (by rw [ea]; rfl)) q2
            have key := ix_br_ok (k := k) (E := E) (P := z = Int32.ofNat q.1) hf (fun r' hr' => ix_eq_ok hr' h1 q2 hv) hg
            by_cases g : z = Int32.ofNat q.1
            · obtain ⟨b', g1, g2⟩ := key.1 g
              exact ix_go_e hp g2 ad ws H locs ls _ ⟨g1, hr0.2⟩ hS
            · obtain ⟨b', g1, g2⟩ := key.2 g
              exact ix_go_e hp g2 ad ws H locs ls _ ⟨g1, hr0.2⟩ hS
  · cases hf
/-- the cases of a table from lo on -/
def ix_cs : Nat → List Nat → List (Nat × Nat)
  | _, [] => []
  | lo, t :: ts => (lo, t) :: ix_cs (lo + 1) ts
theorem ix_cs_find (m : Nat) : ∀ (ts : List Nat) (lo : Nat), (ix_cs lo ts).find? (fun q => Nat.beq q.1 m) = if lo ≤ m ∧ m < lo + ts.length then some (m, ts.getD (m - lo) 0) else none
  | [], lo => by rw [if_neg (by simp)]; rfl
  | t :: ts, lo => by
    show ((lo, t) :: ix_cs (lo + 1) ts).find? _ = _
    rw [List.find?_cons]
    cases hb : Nat.beq lo m with
    | true =>
      have e := ix_beq.mp hb
      subst e
      rw [if_pos (by simp)]
      simp [hb]
    | false =>
      have e := ix_beq_f.mp hb
      simp only [hb]
      rw [ix_cs_find m ts (lo + 1)]
      by_cases h : lo ≤ m ∧ m < lo + (t :: ts).length
      · rw [if_pos h, if_pos (by simp at h ⊢; omega)]
        have : m - lo = (m - (lo + 1)) + 1 := by omega
        rw [this]
        rfl
      · rw [if_neg h, if_neg (by simp at h ⊢; omega)]
theorem io_table (C : ix_ctx k E own cc Ts) {pc nx dflt lo len : Nat} {d lo' hi' : Int} {offs : Array Int} {ts : List Nat} (h : ix_at cc pc (.tableswitch d lo' hi' offs) len nx) (e1 : (lo : Int) = lo') (e2 : (lo : Int) + ts.length = hi' + 1) (e3 : offs.toList.map (fun o => (pc : Int) + o) = ts.map (fun t : Nat => (t : Int))) (e4 : (pc : Int) + d = (dflt : Int))
    (hl : (dflt :: ts).all (fun t => Nat.blt t 99999) = true) (hm : lo + ts.length < 2147483648) : ix_ok k E pc (ix_sw (ix_cs lo ts) dflt pc) := by
  have hall := List.all_eq_true.mp hl
  have tl : ∀ m, ix_swt (ix_cs lo ts) dflt m < 99999 := by
    intro m
    unfold ix_swt
    rw [ix_cs_find]
    split
    · rename_i g
      show ts.getD (m - lo) 0 < 99999
      rw [List.getD_eq_getElem?_getD, List.getElem?_eq_getElem (by omega)]
      exact ix_blt.mp (hall _ (List.mem_cons_of_mem _ (List.getElem_mem _)))
    · exact ix_blt.mp (hall _ List.mem_cons_self)
  refine ix_ok_sw h.lt tl ?_ ?_
  · have : ∀ (ts : List Nat) (lo : Nat), ∀ q ∈ ix_cs lo ts, q.1 < lo + ts.length := by
      intro ts
      induction ts with
      | nil => intro lo q hq; cases hq
      | cons t ts ih =>
        intro lo q hq
        rcases List.mem_cons.mp hq with rfl | hq
        · simp
        · have := ih (lo + 1) q hq
          simp; omega
    intro q hq
    have := this ts lo q hq
    omega
  · intro m H locs ce sl ls stk hm2 kk
    have hti := ix_toInt hm2
    unfold ix_swt at kk
    rw [ix_cs_find] at kk
    by_cases g : lo ≤ m ∧ m < lo + ts.length
    · rw [if_pos g] at kk
      have hmi : (Int32.ofNat m).toInt = (m : Int) := by rw [hti, if_pos (by omega)]
      have hlen : offs.toList.length = ts.length := by have := congrArg List.length e3; simpa using this
      have hlt : m - lo < offs.toList.length := by omega
      have he : (offs.toList.map (fun o => (pc : Int) + o))[m - lo]? = (ts.map (fun t : Nat => (t : Int)))[m - lo]? := by rw [e3]
      rw [List.getElem?_map, List.getElem?_map, List.getElem?_eq_getElem hlt, List.getElem?_eq_getElem (by omega)] at he
      have he2 := Option.some.inj he
      refine lv_tableIn (off := offs.toList[m - lo]) (tgt := ts[m - lo]) C.1 C.2.1 h.1 (by rw [hmi]; omega) (by rw [hmi]; omega) ?_ he2 ?_
      · rw [hmi, ← e1, show ((m : Int) - (lo : Int)).toNat = m - lo by omega, ← Array.getElem?_toList, List.getElem?_eq_getElem hlt]
      · have : (some (m, ts.getD (m - lo) 0)).elim dflt (fun q => q.2) = ts[m - lo] := by
          show ts.getD (m - lo) 0 = _
          rw [List.getD_eq_getElem?_getD, List.getElem?_eq_getElem (by omega)]; rfl
        rw [this] at kk
        exact kk
    · rw [if_neg g] at kk
      refine lv_tableOut (tgt := dflt) C.1 C.2.1 h.1 ?_ e4 kk
      rw [hti]
      split <;> omega

end IXR
