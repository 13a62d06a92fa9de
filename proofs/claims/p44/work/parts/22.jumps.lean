/-! operations by Java's own functions, stack rows, jumps and switches -/
section IXJ
variable {k : ix_K} {E : ix_E} {own : String} {cc : ByteArray} {Ts : List Cond}
theorem ix_nrm_int {B : ix_B} {x : ix_V} (h : ix_isInt (ix_nrm B x) = true) : ix_isInt x = true := by
  match x, h with
  | .inl _, _ => rfl
  | .inr (.inl _), h => exact h
  | .inr (.inr (.inl _)), h => exact h
  | .inr (.inr (.inr _)), _ => rfl
theorem ix_ok_ibin {pc nx : Nat} {op : Nat → Nat → Nat} {f : Int32 → Int32 → Int32} (ho : ix_p2 op f) (hp : pc < 99999) (hn : nx < 99999)
    (row : ∀ (a b : Int32) H locs ce sl ls stk, ix_W k H locs ce sl (F0 (ix_km k) nx ls (.int (f a b) :: stk)) → ix_W k H locs ce sl (F0 (ix_km k) pc ls (.int b :: .int a :: stk))) : ix_ok k E pc (ix_ibin op pc nx) := by
  intro S outs hf hg
  obtain ⟨B, L, st, nn, t, ce, sl⟩ := S
  match st, hf with
  | [], hf => cases hf
  | [_], hf => cases hf
  | b :: a :: st, hf =>
    unfold ix_ibin at hf
    dsimp only at hf
    refine ix_go_i hp fun ad ws H locs ls stk hr hS => ?_
    have hr0 := hr
    obtain ⟨h1, h2, h3, h4, h5, h6⟩ := hr
    obtain ⟨vb, va, vs, rfl, q1, q2, q3⟩ := ix_rs_2 h3
    have n1 := ix_nrm_ok (ad := ad) h1 q1
    have n2 := ix_nrm_ok (ad := ad) h1 q2
    have any : ∀ (ha : ix_isInt a = true) (hb : ix_isInt b = true), outs = [(nx, (B, L, ix_any :: st, nn, t, ce, sl))] → ix_W k H locs ce sl (F0 (ix_km k) pc ls (vb :: va :: vs)) := by
      intro ha hb ho2
      subst ho2
      obtain ⟨zb, rfl⟩ := ix_int_of hb q1
      obtain ⟨za, rfl⟩ := ix_int_of ha q2
      exact row za zb _ _ _ _ _ _ (ix_go_e hn (hg _ List.mem_cons_self) ad ws H locs ls _ ⟨h1, h2, ⟨ix_any_ok _, q3⟩, h4, h5, h6⟩ hS)
    cases ea : ix_nrm B a with
    | inl m =>
      have ha : ix_isInt a = true := ix_nrm_int (B := B) (by rw [ea]; rfl)
      rw [ea] at n2 hf
      cases eb : ix_nrm B b with
      | inl n =>
        have hb : ix_isInt b = true := ix_nrm_int (B := B) (by rw [eb]; rfl)
        rw [eb] at n1 hf
        obtain ⟨zb, rfl⟩ := ix_int_of hb q1
        obtain ⟨za, rfl⟩ := ix_int_of ha q2
        obtain ⟨m1, rfl⟩ := ix_rv_int n2
        obtain ⟨m2, rfl⟩ := ix_rv_int n1
        cases hf
        obtain ⟨o1, o2⟩ := ho m n m1 m2
        exact row _ _ _ _ _ _ _ _ (ix_go_e hn (hg _ List.mem_cons_self) ad ws H locs ls _ ⟨h1, h2, ⟨⟨o1, by rw [o2]⟩, q3⟩, h4, h5, h6⟩ hS)
      | inr w =>
        rw [eb] at hf
        match w, eb, hf with
        | .inl _, _, hf => cases hf
        | .inr (.inl _), _, hf => cases hf
        | .inr (.inr (x, c)), eb, hf =>
          dsimp only at hf
          split at hf
          · rename_i r hr2
            cases hf
            exact ix_again hp hr2 hg hr0 hS
          · exact any ha (ix_nrm_int (B := B) (by rw [eb]; rfl)) (Option.some.inj hf).symm
    | inr w =>
      rw [ea] at hf
      match w, ea, hf with
      | .inl _, _, hf => cases hf
      | .inr (.inl _), _, hf => cases hf
      | .inr (.inr (x, c)), ea, hf =>
        have ha : ix_isInt a = true := ix_nrm_int (B := B) (by rw [ea]; rfl)
        cases eb : ix_nrm B b with
        | inl n =>
          rw [eb] at hf
          dsimp only at hf
          split at hf
          · rename_i r hr2
            cases hf
            exact ix_again hp hr2 hg hr0 hS
          · exact any ha (ix_nrm_int (B := B) (by rw [eb]; rfl)) (Option.some.inj hf).symm
        | inr w2 =>
          rw [eb] at hf
          match w2, eb, hf with
          | .inl _, _, hf => cases hf
          | .inr (.inl _), _, hf => cases hf
          | .inr (.inr _), eb, hf => exact any ha (ix_nrm_int (B := B) (by rw [eb]; rfl)) (Option.some.inj hf).symm
theorem ix_ok_idiv {pc nx : Nat} {op : Nat → Nat → Nat} {f : Int32 → Int32 → Int32} (ho : ix_p2 op f) (hp : pc < 99999) (hn : nx < 99999)
    (row : ∀ (a b : Int32) H locs ce sl ls stk, ¬ b = 0 → ix_W k H locs ce sl (F0 (ix_km k) nx ls (.int (f a b) :: stk)) → ix_W k H locs ce sl (F0 (ix_km k) pc ls (.int b :: .int a :: stk))) : ix_ok k E pc (ix_idiv op pc nx) := by
  intro S outs hf hg
  obtain ⟨B, L, st, nn, t, ce, sl⟩ := S
  match st, hf with
  | [], hf => cases hf
  | [_], hf => cases hf
  | b :: a :: st, hf =>
    unfold ix_idiv at hf
    dsimp only at hf
    refine ix_go_i hp fun ad ws H locs ls stk hr hS => ?_
    have hr0 := hr
    obtain ⟨h1, h2, h3, h4, h5, h6⟩ := hr
    obtain ⟨vb, va, vs, rfl, q1, q2, q3⟩ := ix_rs_2 h3
    have n1 := ix_nrm_ok (ad := ad) h1 q1
    have n2 := ix_nrm_ok (ad := ad) h1 q2
    cases eb : ix_nrm B b with
    | inr w =>
      rw [eb] at hf
      cases ea : ix_nrm B a with
      | inl m => rw [ea] at hf; cases hf
      | inr w2 =>
        rw [ea] at hf
        match w2, hf with
        | .inl _, hf => cases hf
        | .inr (.inl _), hf => cases hf
        | .inr (.inr _), hf => cases hf
    | inl n =>
      have hb : ix_isInt b = true := ix_nrm_int (B := B) (by rw [eb]; rfl)
      rw [eb] at hf n1
      obtain ⟨zb, rfl⟩ := ix_int_of hb q1
      obtain ⟨m2, rfl⟩ := ix_rv_int n1
      have nz : Nat.beq n 0 = false → ¬ Int32.ofNat n = 0 := fun q g => ix_beq_f.mp q (ix_inj m2 (by decide) g)
      cases ea : ix_nrm B a with
      | inl m =>
        have ha : ix_isInt a = true := ix_nrm_int (B := B) (by rw [ea]; rfl)
        rw [ea] at n2 hf
        obtain ⟨za, rfl⟩ := ix_int_of ha q2
        obtain ⟨m1, rfl⟩ := ix_rv_int n2
        dsimp only at hf
        cases e0 : Nat.beq n 0 with
        | true => rw [e0] at hf; cases hf
        | false =>
          rw [e0] at hf
          cases hf
          obtain ⟨o1, o2⟩ := ho m n m1 m2
          exact row _ _ _ _ _ _ _ _ (nz e0) (ix_go_e hn (hg _ List.mem_cons_self) ad ws H locs ls _ ⟨h1, h2, ⟨⟨o1, by rw [o2]⟩, q3⟩, h4, h5, h6⟩ hS)
      | inr w =>
        rw [ea] at hf
        match w, ea, hf with
        | .inl _, _, hf => cases hf
        | .inr (.inl _), _, hf => cases hf
        | .inr (.inr (x, c)), ea, hf =>
          have ha : ix_isInt a = true := ix_nrm_int (B := B) (by rw [ea]; rfl)
          dsimp only at hf
          cases e0 : Nat.beq n 0 with
          | true => rw [e0] at hf; cases hf
          | false =>
            rw [e0] at hf
            dsimp only [cond_false] at hf
            split at hf
            · rename_i r hr2
              cases hf
              exact ix_again hp hr2 hg hr0 hS
            · cases hf
              obtain ⟨za, rfl⟩ := ix_int_of ha q2
              exact row za _ _ _ _ _ _ _ (nz e0) (ix_go_e hn (hg _ List.mem_cons_self) ad ws H locs ls _ ⟨h1, h2, ⟨ix_any_ok _, q3⟩, h4, h5, h6⟩ hS)
theorem ix_ok_iun {pc nx : Nat} {f : Int32 → Int32} (hp : pc < 99999) (hn : nx < 99999)
    (row : ∀ (a : Int32) H locs ce sl ls stk, ix_W k H locs ce sl (F0 (ix_km k) nx ls (.int (f a) :: stk)) → ix_W k H locs ce sl (F0 (ix_km k) pc ls (.int a :: stk))) : ix_ok k E pc (ix_iun (ix_s1 f) nx) := by
  intro S outs hf hg
  obtain ⟨B, L, st, nn, t, ce, sl⟩ := S
  match st, hf with
  | [], hf => cases hf
  | a :: st, hf =>
    unfold ix_iun at hf
    dsimp only at hf
    refine ix_go_i hp fun ad ws H locs ls stk hr hS => ?_
    obtain ⟨h1, h2, h3, h4, h5, h6⟩ := hr
    obtain ⟨va, vs, rfl, q2, q3⟩ := ix_rs_1 h3
    have n2 := ix_nrm_ok (ad := ad) h1 q2
    cases ea : ix_nrm B a with
    | inl m =>
      have ha : ix_isInt a = true := ix_nrm_int (B := B) (by rw [ea]; rfl)
      rw [ea] at n2 hf
      obtain ⟨za, rfl⟩ := ix_int_of ha q2
      obtain ⟨m1, rfl⟩ := ix_rv_int n2
      cases hf
      exact row _ _ _ _ _ _ _ (ix_go_e hn (hg _ List.mem_cons_self) ad ws H locs ls _ ⟨h1, h2, ⟨⟨(f (Int32.ofNat m)).toBitVec.isLt, by show _ = Value.int (Int32.ofNat (f (Int32.ofNat m)).toBitVec.toNat); rw [ix_bk]⟩, q3⟩, h4, h5, h6⟩ hS)
    | inr w =>
      rw [ea] at hf
      match w, ea, hf with
      | .inl _, _, hf => cases hf
      | .inr (.inl _), _, hf => cases hf
      | .inr (.inr _), ea, hf =>
        have ha : ix_isInt a = true := ix_nrm_int (B := B) (by rw [ea]; rfl)
        obtain ⟨za, rfl⟩ := ix_int_of ha q2
        cases hf
        exact row _ _ _ _ _ _ _ (ix_go_e hn (hg _ List.mem_cons_self) ad ws H locs ls _ ⟨h1, h2, ⟨ix_any_ok _, q3⟩, h4, h5, h6⟩ hS)
theorem ix_rv_long {σ : ix_Sg} {ad : Nat → Option Nat} {n : Nat} {v : Value} (h : ix_rv σ ad (.inr (.inl n)) v) : n < 18446744073709551616 ∧ v = .long (Int64.ofNat n) := h
theorem ix_mk_long {σ : ix_Sg} {ad : Nat → Option Nat} (z : Int64) : ix_rv σ ad (ix_vL z.toBitVec.toNat) (.long z) := ⟨z.toBitVec.isLt, by rw [ix_bk64]⟩
theorem ix_mk_int {σ : ix_Sg} {ad : Nat → Option Nat} (z : Int32) : ix_rv σ ad (ix_vI z.toBitVec.toNat) (.int z) := ⟨z.toBitVec.isLt, by rw [ix_bk]⟩
theorem ix_ok_lbin {pc nx : Nat} {f : Int64 → Int64 → Int64} (hp : pc < 99999) (hn : nx < 99999)
    (row : ∀ (a b : Int64) H locs ce sl ls stk, ix_W k H locs ce sl (F0 (ix_km k) nx ls (.long (f a b) :: stk)) → ix_W k H locs ce sl (F0 (ix_km k) pc ls (.long b :: .long a :: stk))) : ix_ok k E pc (ix_lbin (ix_l2 f) nx) := by
  intro S outs hf hg
  obtain ⟨B, L, st, nn, t, ce, sl⟩ := S
  unfold ix_lbin at hf
  split at hf
  · rename_i e9
    cases e9
    cases hf
    refine ix_go_i hp fun ad ws H locs ls stk hr hS => ?_
    obtain ⟨h1, h2, h3, h4, h5, h6⟩ := hr
    obtain ⟨vb, va, vs, rfl, q1, q2, q3⟩ := ix_rs_2 h3
    obtain ⟨_, rfl⟩ := ix_rv_long q1
    obtain ⟨_, rfl⟩ := ix_rv_long q2
    exact row _ _ _ _ _ _ _ _ (ix_go_e hn (hg _ List.mem_cons_self) ad ws H locs ls _ ⟨h1, h2, ⟨ix_mk_long _, q3⟩, h4, h5, h6⟩ hS)
  · cases hf
theorem ix_ok_ldiv {pc nx : Nat} {f : Int64 → Int64 → Int64} (hp : pc < 99999) (hn : nx < 99999)
    (row : ∀ (a b : Int64) H locs ce sl ls stk, ¬ b = 0 → ix_W k H locs ce sl (F0 (ix_km k) nx ls (.long (f a b) :: stk)) → ix_W k H locs ce sl (F0 (ix_km k) pc ls (.long b :: .long a :: stk))) : ix_ok k E pc (ix_ldiv (ix_l2 f) nx) := by
  intro S outs hf hg
  obtain ⟨B, L, st, nn, t, ce, sl⟩ := S
  unfold ix_ldiv at hf
  split at hf
  · rename_i n m _ _ e9
    cases e9
    cases e0 : Nat.beq n 0 with
    | true => rw [e0] at hf; cases hf
    | false =>
      rw [e0] at hf
      cases hf
      refine ix_go_i hp fun ad ws H locs ls stk hr hS => ?_
      obtain ⟨h1, h2, h3, h4, h5, h6⟩ := hr
      obtain ⟨vb, va, vs, rfl, q1, q2, q3⟩ := ix_rs_2 h3
      obtain ⟨b1, rfl⟩ := ix_rv_long q1
      obtain ⟨_, rfl⟩ := ix_rv_long q2
      refine row _ _ _ _ _ _ _ _ (fun g => ?_) (ix_go_e hn (hg _ List.mem_cons_self) ad ws H locs ls _ ⟨h1, h2, ⟨ix_mk_long _, q3⟩, h4, h5, h6⟩ hS)
      have g1 := congrArg (fun z : Int64 => z.toBitVec.toNat) g
      simp only [ix_tn64] at g1
      have g2 : (0 : Int64).toBitVec.toNat = 0 := rfl
      rw [g2, Nat.mod_eq_of_lt b1] at g1
      exact ix_beq_f.mp e0 g1
  · cases hf
theorem ix_ok_lsh {pc nx : Nat} {f : Int64 → Int32 → Int64} (hp : pc < 99999) (hn : nx < 99999)
    (row : ∀ (a : Int64) (b : Int32) H locs ce sl ls stk, ix_W k H locs ce sl (F0 (ix_km k) nx ls (.long (f a b) :: stk)) → ix_W k H locs ce sl (F0 (ix_km k) pc ls (.int b :: .long a :: stk))) : ix_ok k E pc (ix_lsh (ix_lk f) nx) := by
  intro S outs hf hg
  obtain ⟨B, L, st, nn, t, ce, sl⟩ := S
  unfold ix_lsh at hf
  split at hf
  · rename_i kk m _ _ e9
    cases e9
    cases ea : ix_nrm B kk with
    | inr w => rw [ea] at hf; cases hf
    | inl n =>
      rw [ea] at hf
      cases hf
      refine ix_go_i hp fun ad ws H locs ls stk hr hS => ?_
      obtain ⟨h1, h2, h3, h4, h5, h6⟩ := hr
      obtain ⟨vb, va, vs, rfl, q1, q2, q3⟩ := ix_rs_2 h3
      have n1 := ix_nrm_ok (ad := ad) h1 q1
      rw [ea] at n1
      obtain ⟨_, rfl⟩ := n1
      obtain ⟨_, rfl⟩ := ix_rv_long q2
      exact row _ _ _ _ _ _ _ _ (ix_go_e hn (hg _ List.mem_cons_self) ad ws H locs ls _ ⟨h1, h2, ⟨ix_mk_long _, q3⟩, h4, h5, h6⟩ hS)
  · cases hf
theorem ix_ok_lun {pc nx : Nat} {f : Int64 → Int64} (hp : pc < 99999) (hn : nx < 99999)
    (row : ∀ (a : Int64) H locs ce sl ls stk, ix_W k H locs ce sl (F0 (ix_km k) nx ls (.long (f a) :: stk)) → ix_W k H locs ce sl (F0 (ix_km k) pc ls (.long a :: stk))) : ix_ok k E pc (ix_lun (ix_l1 f) nx) := by
  intro S outs hf hg
  obtain ⟨B, L, st, nn, t, ce, sl⟩ := S
  unfold ix_lun at hf
  split at hf
  · rename_i e9
    cases e9
    cases hf
    refine ix_go_i hp fun ad ws H locs ls stk hr hS => ?_
    obtain ⟨h1, h2, h3, h4, h5, h6⟩ := hr
    obtain ⟨va, vs, rfl, q2, q3⟩ := ix_rs_1 h3
    obtain ⟨_, rfl⟩ := ix_rv_long q2
    exact row _ _ _ _ _ _ _ (ix_go_e hn (hg _ List.mem_cons_self) ad ws H locs ls _ ⟨h1, h2, ⟨ix_mk_long _, q3⟩, h4, h5, h6⟩ hS)
  · cases hf
theorem io_l2i (C : ix_ctx k E own cc Ts) {pc nx : Nat} (h : ix_at cc pc .l2i 1 nx) : ix_ok k E pc (ix_l2i nx) := by
  have hp := h.lt
  obtain ⟨hd, rfl, hn⟩ := h
  intro S outs hf hg
  obtain ⟨B, L, st, nn, t, ce, sl⟩ := S
  unfold ix_l2i at hf
  split at hf
  · rename_i e9
    cases e9
    cases hf
    refine ix_go_i hp fun ad ws H locs ls stk hr hS => ?_
    obtain ⟨h1, h2, h3, h4, h5, h6⟩ := hr
    obtain ⟨va, vs, rfl, q2, q3⟩ := ix_rs_1 h3
    obtain ⟨_, rfl⟩ := ix_rv_long q2
    exact lv_l2i C.1 C.2.1 hd rfl (ix_go_e hn (hg _ List.mem_cons_self) ad ws H locs ls _ ⟨h1, h2, ⟨ix_mk_int _, q3⟩, h4, h5, h6⟩ hS)
  · cases hf
theorem io_i2l (C : ix_ctx k E own cc Ts) {pc nx : Nat} (h : ix_at cc pc .i2l 1 nx) : ix_ok k E pc (ix_i2l nx) := by
  have hp := h.lt
  obtain ⟨hd, rfl, hn⟩ := h
  intro S outs hf hg
  obtain ⟨B, L, st, nn, t, ce, sl⟩ := S
  unfold ix_i2l at hf
  split at hf
  · rename_i a _ _ e9
    cases e9
    cases ea : ix_nrm B a with
    | inr w => rw [ea] at hf; cases hf
    | inl n =>
      rw [ea] at hf
      cases hf
      refine ix_go_i hp fun ad ws H locs ls stk hr hS => ?_
      obtain ⟨h1, h2, h3, h4, h5, h6⟩ := hr
      obtain ⟨va, vs, rfl, q2, q3⟩ := ix_rs_1 h3
      have n1 := ix_nrm_ok (ad := ad) h1 q2
      rw [ea] at n1
      obtain ⟨_, rfl⟩ := n1
      exact lv_i2l C.1 C.2.1 hd rfl (ix_go_e hn (hg _ List.mem_cons_self) ad ws H locs ls _ ⟨h1, h2, ⟨ix_mk_long _, q3⟩, h4, h5, h6⟩ hS)
  · cases hf
theorem io_lcmp (C : ix_ctx k E own cc Ts) {pc nx : Nat} (h : ix_at cc pc .lcmp 1 nx) : ix_ok k E pc (ix_lcmp nx) := by
  have hp := h.lt
  obtain ⟨hd, rfl, hn⟩ := h
  intro S outs hf hg
  obtain ⟨B, L, st, nn, t, ce, sl⟩ := S
  unfold ix_lcmp at hf
  split at hf
  · rename_i e9
    cases e9
    cases hf
    refine ix_go_i hp fun ad ws H locs ls stk hr hS => ?_
    obtain ⟨h1, h2, h3, h4, h5, h6⟩ := hr
    obtain ⟨vb, va, vs, rfl, q1, q2, q3⟩ := ix_rs_2 h3
    obtain ⟨_, rfl⟩ := ix_rv_long q1
    obtain ⟨_, rfl⟩ := ix_rv_long q2
    exact W.lcmp C.1 C.2.1 hd (ix_go_e hn (hg _ List.mem_cons_self) ad ws H locs ls _ ⟨h1, h2, ⟨ix_mk_int _, q3⟩, h4, h5, h6⟩ hS)
  · cases hf
theorem io_dup (C : ix_ctx k E own cc Ts) {pc nx : Nat} (h : ix_at cc pc .dup 1 nx) : ix_ok k E pc (ix_dup nx) := by
  have hp := h.lt
  obtain ⟨hd, rfl, hn⟩ := h
  intro S outs hf hg
  obtain ⟨B, L, st, nn, t, ce, sl⟩ := S
  unfold ix_dup at hf
  split at hf
  · rename_i a _ _ e9
    cases e9
    cases ea : ix_cat2 a with
    | true => rw [ea] at hf; cases hf
    | false =>
      rw [ea] at hf
      cases hf
      refine ix_go_i hp fun ad ws H locs ls stk hr hS => ?_
      obtain ⟨h1, h2, h3, h4, h5, h6⟩ := hr
      obtain ⟨va, vs, rfl, q2, q3⟩ := ix_rs_1 h3
      exact lv_dup C.1 C.2.1 hd (ix_cat_of ea q2) (ix_go_e hn (hg _ List.mem_cons_self) ad ws H locs ls _ ⟨h1, h2, ⟨q2, q2, q3⟩, h4, h5, h6⟩ hS)
  · cases hf
theorem io_pop (C : ix_ctx k E own cc Ts) {pc nx : Nat} (h : ix_at cc pc .pop 1 nx) : ix_ok k E pc (ix_pop nx) := by
  have hp := h.lt
  obtain ⟨hd, rfl, hn⟩ := h
  intro S outs hf hg
  obtain ⟨B, L, st, nn, t, ce, sl⟩ := S
  unfold ix_pop at hf
  split at hf
  · rename_i a _ _ e9
    cases e9
    cases ea : ix_cat2 a with
    | true => rw [ea] at hf; cases hf
    | false =>
      rw [ea] at hf
      cases hf
      refine ix_go_i hp fun ad ws H locs ls stk hr hS => ?_
      obtain ⟨h1, h2, h3, h4, h5, h6⟩ := hr
      obtain ⟨va, vs, rfl, q2, q3⟩ := ix_rs_1 h3
      exact lv_pop C.1 C.2.1 hd (ix_cat_of ea q2) (ix_go_e hn (hg _ List.mem_cons_self) ad ws H locs ls _ ⟨h1, h2, q3, h4, h5, h6⟩ hS)
  · cases hf
theorem io_dup2 (C : ix_ctx k E own cc Ts) {pc nx : Nat} (h : ix_at cc pc .dup2 1 nx) : ix_ok k E pc (ix_dup2 nx) := by
  have hp := h.lt
  obtain ⟨hd, rfl, hn⟩ := h
  intro S outs hf hg
  obtain ⟨B, L, st, nn, t, ce, sl⟩ := S
  unfold ix_dup2 at hf
  split at hf
  · rename_i a b _ _ e9
    cases e9
    cases ea : (ix_cat2 a || ix_cat2 b) with
    | true => rw [ea] at hf; cases hf
    | false =>
      rw [ea] at hf
      cases hf
      have ea := Bool.or_eq_false_iff.mp ea
      refine ix_go_i hp fun ad ws H locs ls stk hr hS => ?_
      obtain ⟨h1, h2, h3, h4, h5, h6⟩ := hr
      obtain ⟨va, vb, vs, rfl, q1, q2, q3⟩ := ix_rs_2 h3
      exact lv_dup2_11 C.1 C.2.1 hd (ix_cat_of ea.1 q1) (ix_cat_of ea.2 q2) (ix_go_e hn (hg _ List.mem_cons_self) ad ws H locs ls _ ⟨h1, h2, ⟨q1, q2, q1, q2, q3⟩, h4, h5, h6⟩ hS)
  · cases hf
theorem io_dup_x1 (C : ix_ctx k E own cc Ts) {pc nx : Nat} (h : ix_at cc pc .dup_x1 1 nx) : ix_ok k E pc (ix_dup_x1 nx) := by
  have hp := h.lt
  obtain ⟨hd, rfl, hn⟩ := h
  intro S outs hf hg
  obtain ⟨B, L, st, nn, t, ce, sl⟩ := S
  unfold ix_dup_x1 at hf
  split at hf
  · rename_i a b _ _ e9
    cases e9
    cases ea : (ix_cat2 a || ix_cat2 b) with
    | true => rw [ea] at hf; cases hf
    | false =>
      rw [ea] at hf
      cases hf
      have ea := Bool.or_eq_false_iff.mp ea
      refine ix_go_i hp fun ad ws H locs ls stk hr hS => ?_
      obtain ⟨h1, h2, h3, h4, h5, h6⟩ := hr
      obtain ⟨va, vb, vs, rfl, q1, q2, q3⟩ := ix_rs_2 h3
      exact lv_dup_x1 C.1 C.2.1 hd (ix_cat_of ea.1 q1) (ix_cat_of ea.2 q2) (ix_go_e hn (hg _ List.mem_cons_self) ad ws H locs ls _ ⟨h1, h2, ⟨q1, q2, q1, q3⟩, h4, h5, h6⟩ hS)
  · cases hf
theorem io_goto (C : ix_ctx k E own cc Ts) {pc nx tgt : Nat} {off : Int} (h : ix_at cc pc (.goto off) 3 nx) (ht : (pc : Int) + off = (tgt : Int)) (hl : tgt < 99999) : ix_ok k E pc (ix_goto tgt) := by
  intro S outs hf hg
  cases hf
  refine ix_go_i h.lt fun ad ws H locs ls stk hr hS => ?_
  exact lv_goto C.1 C.2.1 h.1 ht (ix_go_e hl (hg _ List.mem_cons_self) ad ws H locs ls stk hr hS)
/-- a jump's two ways -/
theorem ix_br_ok {k : ix_K} {E : ix_E} {r : Option (List ix_B × List ix_B)} {yes no : Nat} {S' : ix_L × (List ix_V × (Nat × (ix_T × (Nat × Nat))))} {outs : List (Nat × ix_S)} {P : Prop} (h : ix_br r yes no S' = some outs) (hc : ∀ r', r = some r' → ix_cd (ix_es E) r' P) (hg : ∀ o ∈ outs, ix_Go k E o.1 o.2) :
    (P → ∃ b, ix_ib (ix_es E) b ∧ ix_Go k E yes (b, S')) ∧ (¬ P → ∃ b, ix_ib (ix_es E) b ∧ ix_Go k E no (b, S')) := by
  unfold ix_br at h
  split at h
  · rename_i y z
    cases h
    have hc := hc _ rfl
    constructor
    · intro hP
      obtain ⟨b, h1, h2⟩ := hc.1 hP
      exact ⟨b, h2, hg (yes, (b, S')) (List.mem_append.mpr (Or.inl (List.mem_map.mpr ⟨b, h1, rfl⟩)))⟩
    · intro hP
      obtain ⟨b, h1, h2⟩ := hc.2 hP
      exact ⟨b, h2, hg (no, (b, S')) (List.mem_append.mpr (Or.inr (List.mem_map.mpr ⟨b, h1, rfl⟩)))⟩
  · cases h
theorem ix_lt_int {B : ix_B} {a b : ix_V} {r : List ix_B × List ix_B} (h : ix_lt B a b = some r) : ix_isInt a = true ∧ ix_isInt b = true := by
  match a, b, h with
  | .inl _, .inl _, _ => exact ⟨rfl, rfl⟩
  | .inr (.inr (.inr _)), .inl _, _ => exact ⟨rfl, rfl⟩
  | .inl _, .inr (.inr (.inr _)), _ => exact ⟨rfl, rfl⟩
  | .inr (.inr (.inr _)), .inr (.inr (.inr _)), _ => exact ⟨rfl, rfl⟩
theorem ix_eq_int {B : ix_B} {a b : ix_V} {r : List ix_B × List ix_B} (h : ix_eq B a b = some r) : ix_isInt a = true ∧ ix_isInt b = true := by
  match a, b, h with
  | .inl _, .inl _, _ => exact ⟨rfl, rfl⟩
  | .inr (.inr (.inr _)), .inl _, _ => exact ⟨rfl, rfl⟩
  | .inl _, .inr (.inr (.inr _)), _ => exact ⟨rfl, rfl⟩
  | .inr (.inr (.inr _)), .inr (.inr (.inr _)), _ => exact ⟨rfl, rfl⟩
/-- two ints compared: P is the condition that our lists speak of -/
theorem ix_ok_icmp {pc tgt nx : Nat} {lt neg swap : Bool} (hp : pc < 99999) (hy : (cond neg nx tgt) < 99999) (hz : (cond neg tgt nx) < 99999) (P : Int32 → Int32 → Prop) (hP : ∀ a b, P a b = cond lt (cond swap (b < a) (a < b)) (a = b))
    (row : ∀ (a b : Int32) H locs ce sl ls stk, (P a b → ix_W k H locs ce sl (F0 (ix_km k) (cond neg nx tgt) ls stk)) → (¬ P a b → ix_W k H locs ce sl (F0 (ix_km k) (cond neg tgt nx) ls stk)) → ix_W k H locs ce sl (F0 (ix_km k) pc ls (.int b :: .int a :: stk))) : ix_ok k E pc (ix_icmp lt neg swap tgt nx) := by
  intro S outs hf hg
  obtain ⟨B, L, st, nn, t, ce, sl⟩ := S
  unfold ix_icmp at hf
  split at hf
  · rename_i b a _ _ e9
    cases e9
    refine ix_go_i hp fun ad ws H locs ls stk hr hS => ?_
    obtain ⟨h1, h2, h3, h4, h5, h6⟩ := hr
    obtain ⟨vb, va, vs, rfl, q1, q2, q3⟩ := ix_rs_2 h3
    obtain ⟨⟨za, rfl⟩, zb, rfl⟩ : (∃ z, va = .int z) ∧ ∃ z, vb = .int z := by
      unfold ix_br at hf
      split at hf
      · rename_i y z hc
        cases lt
        · exact ⟨ix_int_of (ix_nrm_int (ix_eq_int hc).1) q2, ix_int_of (ix_nrm_int (ix_eq_int hc).2) q1⟩
        · cases swap
          · exact ⟨ix_int_of (ix_nrm_int (ix_lt_int hc).1) q2, ix_int_of (ix_nrm_int (ix_lt_int hc).2) q1⟩
          · exact ⟨ix_int_of (ix_nrm_int (ix_lt_int hc).2) q2, ix_int_of (ix_nrm_int (ix_lt_int hc).1) q1⟩
      · cases hf
    have key := ix_br_ok (k := k) (E := E) (P := P za zb) hf (fun r' hr' => by
      rw [hP]
      cases lt
      · exact ix_eq_ok hr' h1 (ix_nrm_ok h1 q2) (ix_nrm_ok h1 q1)
      · cases swap
        · exact ix_lt_ok hr' h1 (ix_nrm_ok h1 q2) (ix_nrm_ok h1 q1)
        · exact ix_lt_ok hr' h1 (ix_nrm_ok h1 q1) (ix_nrm_ok h1 q2)) hg
    refine row za zb _ _ _ _ _ _ (fun g => ?_) (fun g => ?_)
    · obtain ⟨b', g1, g2⟩ := key.1 g
      exact ix_go_e hy g2 ad ws H locs ls vs ⟨g1, h2, q3, h4, h5, h6⟩ hS
    · obtain ⟨b', g1, g2⟩ := key.2 g
      exact ix_go_e hz g2 ad ws H locs ls vs ⟨g1, h2, q3, h4, h5, h6⟩ hS
  · cases hf
theorem ix_ok_if {pc tgt nx : Nat} {lt neg swap : Bool} (hp : pc < 99999) (hy : (cond neg nx tgt) < 99999) (hz : (cond neg tgt nx) < 99999) (P : Int32 → Prop) (hP : ∀ a, P a = cond lt (cond swap (0 < a) (a < 0)) (a = 0))
    (row : ∀ (a : Int32) H locs ce sl ls stk, (P a → ix_W k H locs ce sl (F0 (ix_km k) (cond neg nx tgt) ls stk)) → (¬ P a → ix_W k H locs ce sl (F0 (ix_km k) (cond neg tgt nx) ls stk)) → ix_W k H locs ce sl (F0 (ix_km k) pc ls (.int a :: stk))) : ix_ok k E pc (ix_if lt neg swap tgt nx) := by
  intro S outs hf hg
  obtain ⟨B, L, st, nn, t, ce, sl⟩ := S
  unfold ix_if at hf
  split at hf
  · rename_i a _ _ e9
    cases e9
    refine ix_go_i hp fun ad ws H locs ls stk hr hS => ?_
    obtain ⟨h1, h2, h3, h4, h5, h6⟩ := hr
    obtain ⟨va, vs, rfl, q2, q3⟩ := ix_rs_1 h3
    have q1 : ix_rv (ix_es E) ad (ix_vI 0) (.int 0) := ⟨by decide, rfl⟩
    obtain ⟨za, rfl⟩ : ∃ z, va = .int z := by
      unfold ix_br at hf
      split at hf
      · rename_i y z hc
        cases lt
        · exact ix_int_of (ix_nrm_int (ix_eq_int hc).1) q2
        · cases swap
          · exact ix_int_of (ix_nrm_int (ix_lt_int hc).1) q2
          · exact ix_int_of (ix_nrm_int (ix_lt_int hc).2) q2
      · cases hf
    have key := ix_br_ok (k := k) (E := E) (P := P za) hf (fun r' hr' => by
      rw [hP]
      cases lt
      · exact ix_eq_ok hr' h1 (ix_nrm_ok h1 q2) q1
      · cases swap
        · exact ix_lt_ok hr' h1 (ix_nrm_ok h1 q2) q1
        · exact ix_lt_ok hr' h1 q1 (ix_nrm_ok h1 q2)) hg
    refine row za _ _ _ _ _ _ (fun g => ?_) (fun g => ?_)
    · obtain ⟨b', g1, g2⟩ := key.1 g
      exact ix_go_e hy g2 ad ws H locs ls vs ⟨g1, h2, q3, h4, h5, h6⟩ hS
    · obtain ⟨b', g1, g2⟩ := key.2 g
      exact ix_go_e hz g2 ad ws H locs ls vs ⟨g1, h2, q3, h4, h5, h6⟩ hS
  · cases hf
end IXJ
