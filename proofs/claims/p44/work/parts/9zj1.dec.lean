/-! an instruction by its place in a list that was decoded at once -/
theorem ix_dec {cc : ByteArray} {l : List (Nat × Instr × Nat)} (h : l.all (fun q => decide (decode cc q.1 = .ok (q.2.1, q.2.2)) && Nat.blt (q.1 + q.2.2) 99999) = true) (k : Nat) {pc len : Nat} {i : Instr} (hk : l[k]? = some (pc, i, len)) : ix_at cc pc i len (pc + len) := by
  have h1 := Bool.and_eq_true_iff.mp (List.all_eq_true.mp h _ (List.mem_of_getElem? hk))
  exact ⟨of_decide_eq_true h1.1, rfl, ix_blt.mp h1.2⟩
theorem io_look {k : ix_K} {E : ix_E} {own : String} {cc : ByteArray} {Ts : List Cond} (C : ix_ctx k E own cc Ts) {pc nx dflt t0 t1 len : Nat} {d o0 o1 : Int} (h : ix_at cc pc (.lookupswitch d #[(0, o0), (1, o1)]) len nx) (e0 : (pc : Int) + o0 = (t0 : Int)) (e1 : (pc : Int) + o1 = (t1 : Int)) (e2 : (pc : Int) + d = (dflt : Int)) (l0 : t0 < 99999) (l1 : t1 < 99999) (l2 : dflt < 99999) : ix_ok k E pc (ix_sw [(0, t0), (1, t1)] dflt pc) := by
  have hsw : ∀ m, ix_swt [(0, t0), (1, t1)] dflt m = if m = 0 then t0 else if m = 1 then t1 else dflt := by
    intro m
    match m with
    | 0 => rfl
    | 1 => rfl
    | m + 2 => rfl
  refine ix_ok_sw h.lt (fun m => ?_) (fun q hq => ?_) (fun m H locs ce sl ls stk hm kk => ?_)
  · rw [hsw]
    split
    · exact l0
    · split
      · exact l1
      · exact l2
  · rcases List.mem_cons.mp hq with rfl | hq
    · show 0 < 4294967296; decide
    · rcases List.mem_cons.mp hq with rfl | hq
      · show 1 < 4294967296; decide
      · cases hq
  · rw [hsw] at kk
    have hti := ix_toInt hm
    by_cases m0 : m = 0
    · subst m0
      exact lv_lookup (off := o0) C.1 C.2.1 h.1 (by simp) (by rw [hti]; simp [Op.lookupswitch.offset]) e0 kk
    · rw [if_neg m0] at kk
      by_cases m1 : m = 1
      · subst m1
        exact lv_lookup (off := o1) C.1 C.2.1 h.1 (by simp) (by rw [hti]; simp [Op.lookupswitch.offset]) e1 kk
      · rw [if_neg m1] at kk
        refine lv_lookup (off := d) C.1 C.2.1 h.1 (by simp) ?_ e2 kk
        have a0 : ¬ (Int32.ofNat m).toInt = 0 := by rw [hti]; split <;> omega
        have a1 : ¬ (Int32.ofNat m).toInt = 1 := by rw [hti]; split <;> omega
        have b0 : ¬ 0 = (Int32.ofNat m).toInt := fun q => a0 q.symm
        have b1 : ¬ 1 = (Int32.ofNat m).toInt := fun q => a1 q.symm
        clear hti
        revert a0 a1 b0 b1
        generalize (Int32.ofNat m).toInt = z
        intro a0 a1 b0 b1
        simp [Op.lookupswitch.offset, b0, b1]
theorem ix_ok_m2 {k : ix_K} {E : ix_E} {own : String} {cc : ByteArray} {Ts : List Cond} {f : Int32 → Int32 → Int32} (C : ix_ctx k E own cc Ts) {pc nx : Nat} (hp : pc < 99999) (hn : nx < 99999)
    (row : ∀ (x y : Int32) H locs ce sl ls stk, ls.size = ix_eL E → (stk.map fun v => v.category).sum ≤ 8 → ce ≤ k.1.2.2.2.1.cells → sl ≤ k.1.2.2.2.1.slots → ix_W k H locs ce sl (F0 (ix_km k) nx ls (.int (f x y) :: stk)) → ix_W k H locs ce sl (F0 (ix_km k) pc ls (.int y :: .int x :: stk))) : ix_ok k E pc (ix_m2 f nx) := by
  have r1 : ix_eC E ≤ k.1.2.2.2.1.cells := C.2.2.2.2.2.2.2.1
  have r2 : ix_eS E ≤ k.1.2.2.2.1.slots := C.2.2.2.2.2.2.2.2
  intro S outs hf hg
  obtain ⟨B, L, st, nn, t, ce, sl⟩ := S
  unfold ix_m2 at hf
  split at hf
  · rename_i b a st0 _ e9
    cases e9
    cases hb : (Nat.ble (ix_cats st0) 8 && (ix_isInt a && ix_isInt b)) with
    | false => rw [hb] at hf; cases hf
    | true =>
      rw [hb] at hf
      dsimp only [cond_true] at hf
      have hb1 := Bool.and_eq_true_iff.mp hb
      have hb2 := Bool.and_eq_true_iff.mp hb1.2
      refine ix_go_i hp fun ad ws H locs ls stk hr hS => ?_
      obtain ⟨h1, h2, h3, h4, h5, h6, h7⟩ := hr
      obtain ⟨vb, va, vs, rfl, q1, q2, q3⟩ := ix_rs_2 h3
      obtain ⟨zb, rfl⟩ := ix_int_of hb2.2 q1
      obtain ⟨za, rfl⟩ := ix_int_of hb2.1 q2
      have hls : ls.size = ix_eL E := by obtain ⟨_, lv, q, _⟩ := h2; exact q.1
      refine row za zb H locs ce sl ls vs hls (by rw [ix_cats_ok q3]; exact ix_ble.mp hb1.1) (Nat.le_trans h6 r1) (Nat.le_trans h7 r2) ?_
      split at hf
      · rename_i m n ea eb
        cases hf
        have n1 := ix_nrm_ok (ad := ad) h1 q1
        have n2 := ix_nrm_ok (ad := ad) h1 q2
        rw [eb] at n1
        rw [ea] at n2
        obtain ⟨m2, rfl⟩ := ix_rv_int n1
        obtain ⟨m1, rfl⟩ := ix_rv_int n2
        obtain ⟨o1, o2⟩ := ix_p2_s f m n m1 m2
        exact ix_go_e hn (hg _ List.mem_cons_self) ad ws H locs ls _ ⟨h1, h2, ⟨⟨o1, by rw [o2]⟩, q3⟩, h4, h5, h6, h7⟩ hS
      · cases hf
        exact ix_go_e hn (hg _ List.mem_cons_self) ad ws H locs ls _ ⟨h1, h2, ⟨ix_any_ok _, q3⟩, h4, h5, h6, h7⟩ hS
  · cases hf
theorem io_mmax {k : ix_K} {E : ix_E} {own : String} {cc : ByteArray} {Ts : List Cond} {O : ix_O} {sl : ix_Sl} {J : ix_J} {d : Nat} {call : ix_Call} (V : ix_env k E own cc Ts O sl J d call) {idx pc nx : Nat} (h : ix_at cc pc (.invokestatic idx) 3 nx) (w1 : Cond.methodLink own idx Lib.Math.max.name ∈ Ts) (w2 : Cond.static Lib.Math.max.name ∈ Ts) (w3 : Cond.initialized "java/lang/Math" ∈ Ts) (w4 : Cond.code Lib.Math.max.name Lib.Math.max.code 2 (some .int) ∈ Ts) : ix_ok k E pc (ix_m2 ix_jmax nx) := by
  obtain ⟨C, hgl, hco, hfr, hlo, hG⟩ := V
  have hp := h.lt
  obtain ⟨hd, rfl, hn⟩ := h
  have hts : ∀ w ∈ Ts, w.before (ix_ka k) (ix_ks k) = true := C.2.2.2.2.1
  exact ix_ok_m2 C hp hn (fun x y H locs ce sl ls stk hls hcat hc hs kk => va_mmax C.1 C.2.1 (C.2.2.1.trans hls.symm) C.2.2.2.1 (hts _ w1) (hts _ w2) (hts _ w3) (hts _ w4) (by omega) (by omega) hc hs hd kk)
theorem io_mmin {k : ix_K} {E : ix_E} {own : String} {cc : ByteArray} {Ts : List Cond} {O : ix_O} {sl : ix_Sl} {J : ix_J} {d : Nat} {call : ix_Call} (V : ix_env k E own cc Ts O sl J d call) {idx pc nx : Nat} (h : ix_at cc pc (.invokestatic idx) 3 nx) (w1 : Cond.methodLink own idx Lib.Math.min.name ∈ Ts) (w2 : Cond.static Lib.Math.min.name ∈ Ts) (w3 : Cond.initialized "java/lang/Math" ∈ Ts) (w4 : Cond.code Lib.Math.min.name Lib.Math.min.code 2 (some .int) ∈ Ts) : ix_ok k E pc (ix_m2 ix_jmin nx) := by
  obtain ⟨C, hgl, hco, hfr, hlo, hG⟩ := V
  have hp := h.lt
  obtain ⟨hd, rfl, hn⟩ := h
  have hts : ∀ w ∈ Ts, w.before (ix_ka k) (ix_ks k) = true := C.2.2.2.2.1
  exact ix_ok_m2 C hp hn (fun x y H locs ce sl ls stk hls hcat hc hs kk => va_mmin C.1 C.2.1 (C.2.2.1.trans hls.symm) C.2.2.2.1 (hts _ w1) (hts _ w2) (hts _ w3) (hts _ w4) (by omega) (by omega) hc hs hd kk)
theorem io_cut {k : ix_K} {E : ix_E} {own : String} {cc : ByteArray} {Ts : List Cond} (C : ix_ctx k E own cc Ts) (hσ : (ix_es E).1 7 = (ix_es E).1 6 &&& 63) {pc nx : Nat} (h : ix_at cc pc .iand 1 nx) : ix_ok k E pc (ix_cut 6 7 nx) := by
  have hp := h.lt
  obtain ⟨hd, rfl, hn⟩ := h
  intro S outs hf hg
  obtain ⟨B, L, st, nn, t, ce, sl⟩ := S
  unfold ix_cut at hf
  split at hf
  · rename_i z _ _ e9
    cases e9
    cases hb : Nat.beq z 6 with
    | false => rw [hb] at hf; cases hf
    | true =>
      rw [hb] at hf
      cases hf
      have hz := ix_beq.mp hb
      subst hz
      refine ix_go_i hp fun ad ws H locs ls stk hr hS => ?_
      obtain ⟨h1, h2, h3, h4, h5, h6⟩ := hr
      obtain ⟨vb, va, vs, rfl, q1, q2, q3⟩ := ix_rs_2 h3
      obtain ⟨_, rfl⟩ := q1
      obtain ⟨_, z, rfl, hz⟩ := q2
      rcases hz with hz | hz
      · cases hz
      · rw [ix_zero_add] at hz
        subst hz
        refine lv_iand C.1 C.2.1 hd (ix_go_e hn (hg _ List.mem_cons_self) ad ws H locs ls _ ⟨h1, h2, ⟨⟨by decide, _, rfl, Or.inr ?_⟩, q3⟩, h4, h5, h6⟩ hS)
        rw [ix_zero_add, hσ]
        rfl
  · cases hf
