/-! image and back: the reference's, the class's image -/
section FRJ
variable {O : ix_O} {P : ix_P} {Q : ix_S → Prop} {A : Nat → Prop} {B : ix_B} {ls : ix_L} {st : List ix_V} {n nx : Nat} {t : ix_T}
/-- a row's place is set: what is asked of the heap stays -/
theorem Iv.row {c m : Nat} {v : ix_V} (h : Iv n t) (hc : c = 84 ∨ c = 34) : Iv n (pl_set c m v t) := by
  obtain ⟨a1, a2, a3, a4, a5, a6, a7, a8⟩ := h
  have hc' : c < 16384 := by omega
  have ks : ∀ j, j < 16384 → (ix_g (pl_set c m v t) j).1 = (ix_g t j).1 := fun j hj => by
    by_cases q : j = c
    · rw [q, pl_set_s hc']
    · rw [pl_set_o hc' hj q]
  have ob : ∀ j, j < 16384 → 100 ≤ (ix_g t j).1 → ix_g (pl_set c m v t) j = ix_g t j := fun j hj h100 => by
    refine pl_set_o hc' hj (fun q => ?_)
    subst q
    rcases hc with rfl | rfl
    · rw [a3] at h100; omega
    · rw [a4] at h100; omega
  refine ⟨a1, a2, (ks 84 (by decide)).trans a3, (ks 34 (by decide)).trans a4, fun i hi hk f hf => ?_, fun i hi hk j hj => ?_, (ks 79 (by decide)).trans a7, ?_⟩
  · rw [ks i (by omega)] at hk
    rw [ob i (by omega) (by omega)]
    exact a5 i hi hk f hf
  · rw [ks i (by omega)] at hk
    rw [ob i (by omega) (by omega)] at hj
    obtain ⟨b1, b2⟩ := a6 i hi hk j hj
    exact ⟨b1, (ks j (by omega)).trans b2⟩
  · rw [ob 79 (by decide) (by omega)]
    exact a8
theorem Iv.hall {len : Nat} {f : ix_A} (h : Iv n t) (hn : n < 16384) (hf : ix_g f 8 = .inr (.inr (.inl 0))) : Iv (n + 1) (ix_u 14 t n (101, len, f)) ∧ eqc t (ix_u 14 t n (101, len, f)) := by
  obtain ⟨a1, a2, a3, a4, a5, a6, a7, a8⟩ := h
  have g : ∀ j, j < 16384 → ix_g (ix_u 14 t n (101, len, f)) j = if j = n then (101, len, f) else ix_g t j := fun j hj => ix_gu 14 t n j _ (by show n < 16384; exact hn) hj
  have e84 : ix_g (ix_u 14 t n (101, len, f)) 84 = ix_g t 84 := by rw [g 84 (by decide), if_neg (by omega)]
  have e34 : ix_g (ix_u 14 t n (101, len, f)) 34 = ix_g t 34 := by rw [g 34 (by decide), if_neg (by omega)]
  have e79 : ix_g (ix_u 14 t n (101, len, f)) 79 = ix_g t 79 := by rw [g 79 (by decide), if_neg (by omega)]
  refine ⟨⟨hn, Nat.lt_succ_of_lt a2, by rw [e84]; exact a3, by rw [e34]; exact a4, fun i hi hki f' hf' => ?_, fun i hi hki j hj => ?_, by rw [e79]; exact a7, by rw [e79]; exact a8⟩, e84, e34⟩
  · by_cases q : i = n
    · rw [g i (by omega), if_pos q] at hki
      cases hki
    · rw [g i (by omega), if_neg q] at hki ⊢
      exact a5 i (by omega) hki f' hf'
  · by_cases q : i = n
    · rw [g i (by omega), if_pos q] at hj
      change ix_g f 8 = .inr (.inr (.inl (j + 1))) at hj
      rw [hf] at hj
      cases hj
    · rw [g i (by omega), if_neg q] at hki hj
      obtain ⟨b1, b2⟩ := a6 i (by omega) hki j hj
      exact ⟨Nat.lt_succ_of_lt b1, by rw [g j (by omega), if_neg (by omega)]; exact b2⟩
/-- a hall's laws: a row of texts is laid there -/
theorem Gr.laws {i j : Nat} (hi : i < n) (hk : (ix_g t i).1 = 101) (hj : j < n) (hkj : (ix_g t j).1 = 4) : Gr n t n (pl_fld i 8 (.inr (.inr (.inl (j + 1)))) t) := fun h => by
  obtain ⟨a1, a2, a3, a4, a5, a6, a7, a8⟩ := h
  have n84 : ¬ i = 84 := fun q => by rw [q, a3] at hk; cases hk
  have n34 : ¬ i = 34 := fun q => by rw [q, a4] at hk; cases hk
  have n79 : ¬ i = 79 := fun q => by rw [q, a7] at hk; cases hk
  have ot : ∀ j', j' < 16384 → ¬ j' = i → ix_g (pl_fld i 8 (.inr (.inr (.inl (j + 1)))) t) j' = ix_g t j' := fun j' hj' hne => pl_fld_o (by omega) hj' hne
  have ks : ∀ j', j' < 16384 → (ix_g (pl_fld i 8 (.inr (.inr (.inl (j + 1)))) t) j').1 = (ix_g t j').1 := fun j' hj' => by
    by_cases q : j' = i
    · rw [q, pl_fld_s (by omega)]
    · rw [ot j' hj' q]
  refine ⟨⟨a1, a2, (ks 84 (by decide)).trans a3, (ks 34 (by decide)).trans a4, fun i' hi' hk' f hf => ?_, fun i' hi' hk' j' hj' => ?_, (ks 79 (by decide)).trans a7, ?_⟩, Nat.le_refl _, ot 84 (by decide) (fun q => n84 q.symm), ot 34 (by decide) (fun q => n34 q.symm)⟩
  · rw [ks i' (by omega)] at hk'
    have ne : ¬ i' = i := fun q => by rw [q, hk] at hk'; cases hk'
    rw [ot i' (by omega) ne]
    exact a5 i' hi' hk' f hf
  · rw [ks i' (by omega)] at hk'
    by_cases q : i' = i
    · subst q
      rw [pl_fld_g (by omega) (by decide) (by decide), if_pos rfl] at hj'
      cases hj'
      exact ⟨hj, (ks j (by omega)).trans hkj⟩
    · rw [ot i' (by omega) q] at hj'
      obtain ⟨b1, b2⟩ := a6 i' hi' hk' j' hj'
      exact ⟨b1, (ks j' (by omega)).trans b2⟩
  · rw [ot 79 (by decide) (fun q => n79 q.symm)]
    exact a8
set_option maxRecDepth 100000 in
theorem st_X12_back {c : ix_Call} (pc : Nat) : ljQ (fun p : Nat => 31 ≤ p ∧ p ≤ 69) 69 pc (ix_cX12_back O c pc) := (lj_b (lj_b (lj_b (lj_b (lj_b (lj_l (fun _ h => absurd h (by decide))) (lj_l (fun _ h => absurd h (by decide)))) (lj_b (lj_l (fun _ h => absurd h (by decide))) (lj_b (lj_l (fun _ h => absurd h (by decide))) (lj_l (fun _ h => absurd h (by decide)))))) (lj_b (lj_b (lj_l (fun _ h => absurd h (by decide))) (lj_b (lj_l (fun _ h => absurd h (by decide))) (lj_l (fun _ h => absurd h (by decide))))) (lj_b (lj_l (fun _ h => absurd h (by decide))) (lj_b (lj_l (fun _ h => absurd h (by decide))) (lj_l (fun _ h => absurd h (by decide))))))) (lj_b (lj_b (lj_b (lj_l (fun _ h => absurd h (by decide))) (lj_l (fun _ h => absurd h (by decide)))) (lj_b (lj_l (fun _ h => absurd h (by decide))) (lj_b (lj_l (fun _ h => absurd h (by decide))) (lj_l (fun _ h => absurd h (by decide)))))) (lj_b (lj_b (lj_l (fun _ h => absurd h (by decide))) (lj_b (lj_l (fun _ h => absurd h (by decide))) (lj_l (fun _ _ => ⟨fr_N.G (fn_push (by decide)), lk_s (pc := 31) sk_push⟩)))) (lj_b (lj_l (fun _ _ => ⟨fr_N.G (fn_store (by decide)), lk_store⟩)) (lj_b (lj_l (fun _ _ => ⟨fr_N.G (fn_load (by decide)), lk_s (pc := 33) sk_load⟩)) (lj_l (fun _ _ => ⟨fr_N.G (fn_push (by decide)), lk_s (pc := 34) sk_push⟩))))))) (lj_b (lj_b (lj_b (lj_b (lj_l (fun _ _ => ⟨fr_N.G (fn_icmp (by decide) (by decide)), lk_s (pc := 37) sk_icmp⟩)) (lj_l (fun _ _ => ⟨fr_N.G (fn_load (by decide)), lk_s (pc := 40) sk_load⟩))) (lj_b (lj_l (fun _ _ => ⟨fr_N.G (fn_getf (by decide)), lk_s (pc := 41) sk_getf⟩)) (lj_b (lj_l (fun _ _ => ⟨fr_N.G (fn_load (by decide)), lk_s (pc := 44) sk_load⟩)) (lj_l (fun _ _ => ⟨fr_N.G (fn_load (by decide)), lk_s (pc := 45) sk_load⟩))))) (lj_b (lj_b (lj_l (fun _ _ => ⟨fr_N.G (fn_getf (by decide)), lk_s (pc := 46) sk_getf⟩)) (lj_b (lj_l (fun _ _ => ⟨fr_N.G (fn_push (by decide)), lk_s (pc := 49) sk_push⟩)) (lj_l (fun _ _ => ⟨fr_N.G (fn_load (by decide)), lk_s (pc := 52) sk_load⟩)))) (lj_b (lj_l (fun _ _ => ⟨fr_N.G (fn_ibin (by decide) (by decide)), lk_s (pc := 53) sk_ibin⟩)) (lj_b (lj_l (fun _ _ => ⟨fr_N.G (fn_load (by decide)), lk_s (pc := 54) sk_load⟩)) (lj_l (fun _ _ => ⟨fr_N.G (fn_iadd (by decide)), lk_s (pc := 55) sk_iadd⟩)))))) (lj_b (lj_b (lj_b (lj_l (fun _ _ => ⟨fr_N.G (fn_iald (by decide) (by decide)), lk_s (pc := 56) sk_iald⟩)) (lj_l (fun _ _ => ⟨gp4_ast (by decide) (by decide) (by decide), lk_ast⟩))) (lj_b (lj_l (fun _ _ => ⟨fr_N.G (fn_iinc (by decide)), lk_iinc⟩)) (lj_b (lj_l (fun _ _ => ⟨fr_N.G (fn_goto (by decide)), lk_s (pc := 61) sk_goto⟩)) (lj_l (fun _ _ => ⟨fr_N.G (fn_load (by decide)), lk_s (pc := 64) sk_load⟩))))) (lj_b (lj_b (lj_l (fun _ _ => ⟨fr_N.G (fn_push (by decide)), lk_s (pc := 65) sk_push⟩)) (lj_b (lj_l (fun _ _ => ⟨gp4_putf (by decide) (by decide) (by decide) rfl, lk_putf⟩)) (lj_l (fun h _ => absurd rfl h)))) (lj_b (lj_l (fun _ h => absurd h (by decide))) (lj_b (lj_l (fun _ h => absurd h (by decide))) (lj_l (fun _ h => absurd h (by decide)))))))))
theorem wr_X12_back_o {g d m : Nat} {outs : List ix_S} (hm : ofr m) (e : ix_exec (ix_tbl O) ty_no g (d + 1) 98 [.inr (.inr (.inl 80)), .inl m] B n t = some outs) : ∀ o ∈ outs, o.2.2.1 = [.inl 4294967295] ∧ Gr n t o.2.2.2.1 o.2.2.2.2.1 := by
  refine gd_ex (Q := fun o => o.2.2.1 = [.inl 4294967295] ∧ Gr n t o.2.2.2.1 o.2.2.2.2.1) (show ix_tbl O 98 = some (ix_cX12_back O, 3) from rfl) (fun c hc => ?_) e
  refine gd_s (r := ix_load ix_isInt 1 1) (by decide) rfl (fun outs e => gp_load e rfl) ?_
  refine gd_s (r := ix_push 2 (ix_vI 0)) (by decide) rfl (fun outs e => gp_push e) ?_
  refine gd_s (r := ix_push 3 (ix_vI 1)) (by decide) rfl (fun outs e => gp_push e) ?_
  refine gd_callx (R := fun o => o.2.2.1 = [.inl (cond (enq m 1) 1 0)] ∧ o.2.2.2.1 = n ∧ o.2.2.2.2.1 = t) (by decide) (show ix_cX12_back O c 3 = ix_call ix_any3 c 3 150 0 0 0 0 6 from rfl) rfl (fun outs e o ho => ?_) (fun o w hR => ?_)
  · rw [hc] at e
    cases d with
    | zero => exact fr_nn e
    | succ d => exact wr_X12_lies e o ho
  · rw [hR.1, hR.2.1, hR.2.2, show enq m 1 = false from ofr_enq hm]
    show gd _ 6 (_, _, [.inl 0], n, t, w) _
    refine gd_s (r := ix_if false true false 15 9) (by decide) rfl (fun outs e => gp_ifz e) ?_
    refine gd_s (r := ix_load ix_isRef 0 10) (by decide) rfl (fun outs e => gp_load e rfl) ?_
    refine gd_s (r := ix_push 11 (ix_vI 4294967295)) (by decide) rfl (fun outs e => gp_push e) ?_
    refine gd_callx (R := fun o => o.2.2.1 = [.inl 4294967295] ∧ Gr n t o.2.2.2.1 o.2.2.2.2.1) (by decide) (show ix_cX12_back O c 11 = ix_call (ix_rcv 112) c 2 188 0 0 0 0 14 from rfl) rfl (fun outs e o ho => ?_) (fun o w hR => ?_)
    · rw [hc] at e
      cases d with
      | zero => exact fr_nn e
      | succ d => exact wr_X12_refuses rfl rfl e o ho
    · rw [hR.1]
      refine gd_s (r := ix_ret ix_isInt) (by decide) rfl (fun outs e => gp_ret e) ?_
      exact gd_ends ⟨rfl, hR.2⟩
theorem wr_X12_image_o {g d m : Nat} {outs : List ix_S} (hm : ofr m) (e : ix_exec (ix_tbl O) ty_no g (d + 1) 132 [.inr (.inr (.inl 80)), .inl m] B n t = some outs) : ∀ o ∈ outs, o.2.2.1 = [.inl 4294967295] ∧ Gr n t o.2.2.2.1 o.2.2.2.2.1 := by
  refine gd_ex (Q := fun o => o.2.2.1 = [.inl 4294967295] ∧ Gr n t o.2.2.2.1 o.2.2.2.2.1) (show ix_tbl O 132 = some (ix_cX12_image O, 3) from rfl) (fun c hc => ?_) e
  refine gd_s (r := ix_load ix_isInt 1 1) (by decide) rfl (fun outs e => gp_load e rfl) ?_
  refine gd_s (r := ix_push 2 (ix_vI 0)) (by decide) rfl (fun outs e => gp_push e) ?_
  refine gd_s (r := ix_push 3 (ix_vI 1)) (by decide) rfl (fun outs e => gp_push e) ?_
  refine gd_callx (R := fun o => o.2.2.1 = [.inl (cond (enq m 1) 1 0)] ∧ o.2.2.2.1 = n ∧ o.2.2.2.2.1 = t) (by decide) (show ix_cX12_image O c 3 = ix_call ix_any3 c 3 150 0 0 0 0 6 from rfl) rfl (fun outs e o ho => ?_) (fun o w hR => ?_)
  · rw [hc] at e
    cases d with
    | zero => exact fr_nn e
    | succ d => exact wr_X12_lies e o ho
  · rw [hR.1, hR.2.1, hR.2.2, show enq m 1 = false from ofr_enq hm]
    show gd _ 6 (_, _, [.inl 0], n, t, w) _
    refine gd_s (r := ix_if false true false 15 9) (by decide) rfl (fun outs e => gp_ifz e) ?_
    refine gd_s (r := ix_load ix_isRef 0 10) (by decide) rfl (fun outs e => gp_load e rfl) ?_
    refine gd_s (r := ix_push 11 (ix_vI 4294967295)) (by decide) rfl (fun outs e => gp_push e) ?_
    refine gd_callx (R := fun o => o.2.2.1 = [.inl 4294967295] ∧ Gr n t o.2.2.2.1 o.2.2.2.2.1) (by decide) (show ix_cX12_image O c 11 = ix_call (ix_rcv 112) c 2 188 0 0 0 0 14 from rfl) rfl (fun outs e o ho => ?_) (fun o w hR => ?_)
    · rw [hc] at e
      cases d with
      | zero => exact fr_nn e
      | succ d => exact wr_X12_refuses rfl rfl e o ho
    · rw [hR.1]
      refine gd_s (r := ix_ret ix_isInt) (by decide) rfl (fun outs e => gp_ret e) ?_
      exact gd_ends ⟨rfl, hR.2⟩
theorem wr_X12_back_0 {g d z : Nat} {outs : List ix_S} (h6 : ix_g (ix_g t 79).2.2 6 = .inr (.inr (.inl 85))) (hz : ix_g (ix_g t 84).2.2 0 = .inl z) (e : ix_exec (ix_tbl O) ty_no g (d + 1) 98 [.inr (.inr (.inl 80)), .inl 0] B n t = some outs) : ∀ o ∈ outs, o.2.2.1 = [.inl (cond (Nat.beq z 0) 4294967294 0)] ∧ Gr n t o.2.2.2.1 o.2.2.2.2.1 := by
  refine gd_ex (Q := fun o => o.2.2.1 = [.inl (cond (Nat.beq z 0) 4294967294 0)] ∧ Gr n t o.2.2.2.1 o.2.2.2.2.1) (show ix_tbl O 98 = some (ix_cX12_back O, 3) from rfl) (fun c hc => ?_) e
  refine gd_s (r := ix_load ix_isInt 1 1) (by decide) rfl (fun outs e => gp_load e rfl) ?_
  refine gd_s (r := ix_push 2 (ix_vI 0)) (by decide) rfl (fun outs e => gp_push e) ?_
  refine gd_s (r := ix_push 3 (ix_vI 1)) (by decide) rfl (fun outs e => gp_push e) ?_
  refine gd_callx (R := fun o => o.2.2.1 = [.inl (cond (enq 0 1) 1 0)] ∧ o.2.2.2.1 = n ∧ o.2.2.2.2.1 = t) (by decide) (show ix_cX12_back O c 3 = ix_call ix_any3 c 3 150 0 0 0 0 6 from rfl) rfl (fun outs e o ho => ?_) (fun o w hR => ?_)
  · rw [hc] at e
    cases d with
    | zero => exact fr_nn e
    | succ d => exact wr_X12_lies e o ho
  · rw [hR.1, hR.2.1, hR.2.2, show enq 0 1 = true from by decide]
    show gd _ 6 (_, _, [.inl 1], n, t, w) _
    refine gd_s (r := ix_if false true false 15 9) (by decide) rfl (fun outs e => gp_ifz e) ?_
    refine gd_s (r := ix_load ix_isRef 0 16) (by decide) rfl (fun outs e => gp_load e rfl) ?_
    refine gd_s (r := ix_getf 112 6 19) (by decide) rfl (fun outs e => gp_getf e) ?_
    rw [h6]
    refine gd_s (r := ix_load ix_isInt 1 20) (by decide) rfl (fun outs e => gp_load e rfl) ?_
    refine gd_s (r := ix_ald 1 2 20 21) (by decide) rfl (fun outs e => (gp_ald e).1) ?_
    rw [hz]
    refine gd_s (r := ix_if false true false 31 24) (by decide) rfl (fun outs e => gp_ifz e) ?_
    cases hb : Nat.beq z 0 with
    | true =>
      show gd _ 24 _ _
      refine gd_s (r := ix_load ix_isRef 0 25) (by decide) rfl (fun outs e => gp_load e rfl) ?_
      refine gd_s (r := ix_push 27 (ix_vI 4294967294)) (by decide) rfl (fun outs e => gp_push e) ?_
      refine gd_callx (R := fun o => o.2.2.1 = [.inl 4294967294] ∧ Gr n t o.2.2.2.1 o.2.2.2.2.1) (by decide) (show ix_cX12_back O c 27 = ix_call (ix_rcv 112) c 2 188 0 0 0 0 30 from rfl) rfl (fun outs e o ho => ?_) (fun o w hR => ?_)
      · rw [hc] at e
        cases d with
        | zero => exact fr_nn e
        | succ d => exact wr_X12_refuses rfl rfl e o ho
      · rw [hR.1]
        refine gd_s (r := ix_ret ix_isInt) (by decide) rfl (fun outs e => gp_ret e) ?_
        exact gd_ends ⟨rfl, hR.2⟩
    | false =>
      show gd _ 31 _ _
      refine gd_str (A := fun p : Nat => 31 ≤ p ∧ p ≤ 69) (x := 69) (u := .inr (.inr (.inl 80))) (v := .inl 0) (fun pc => st_X12_back pc) (by decide) rfl rfl (by decide) rfl rfl (fun B ls st n' t' w h0 h1 hg => ?_)
      refine gd_s (r := ix_load ix_isRef 0 70) (by decide) rfl (fun outs e => gp_load e h0) ?_
      refine gd_s (r := ix_push 71 (ix_vI 0)) (by decide) rfl (fun outs e => gp_push e) ?_
      refine gd_callx (R := fun o => o.2.2.1 = [.inl 0] ∧ Gr n' t' o.2.2.2.1 o.2.2.2.2.1) (by decide) (show ix_cX12_back O c 71 = ix_call (ix_rcv 112) c 2 126 0 0 0 0 74 from rfl) rfl (fun outs e o ho => ?_) (fun o w hR => ?_)
      · rw [hc] at e
        cases d with
        | zero => exact fr_nn e
        | succ d => exact wr_X12_good rfl rfl e o ho
      · rw [hR.1]
        refine gd_s (r := ix_ret ix_isInt) (by decide) rfl (fun outs e => gp_ret e) ?_
        exact gd_ends ⟨rfl, hg.tr hR.2⟩
theorem wr_X12_back_1 {g d z : Nat} {outs : List ix_S} (h6 : ix_g (ix_g t 79).2.2 6 = .inr (.inr (.inl 85))) (hz : ix_g (ix_g t 84).2.2 1 = .inl z) (e : ix_exec (ix_tbl O) ty_no g (d + 1) 98 [.inr (.inr (.inl 80)), .inl 1] B n t = some outs) : ∀ o ∈ outs, o.2.2.1 = [.inl (cond (Nat.beq z 0) 4294967294 0)] ∧ Gr n t o.2.2.2.1 o.2.2.2.2.1 := by
  refine gd_ex (Q := fun o => o.2.2.1 = [.inl (cond (Nat.beq z 0) 4294967294 0)] ∧ Gr n t o.2.2.2.1 o.2.2.2.2.1) (show ix_tbl O 98 = some (ix_cX12_back O, 3) from rfl) (fun c hc => ?_) e
  refine gd_s (r := ix_load ix_isInt 1 1) (by decide) rfl (fun outs e => gp_load e rfl) ?_
  refine gd_s (r := ix_push 2 (ix_vI 0)) (by decide) rfl (fun outs e => gp_push e) ?_
  refine gd_s (r := ix_push 3 (ix_vI 1)) (by decide) rfl (fun outs e => gp_push e) ?_
  refine gd_callx (R := fun o => o.2.2.1 = [.inl (cond (enq 1 1) 1 0)] ∧ o.2.2.2.1 = n ∧ o.2.2.2.2.1 = t) (by decide) (show ix_cX12_back O c 3 = ix_call ix_any3 c 3 150 0 0 0 0 6 from rfl) rfl (fun outs e o ho => ?_) (fun o w hR => ?_)
  · rw [hc] at e
    cases d with
    | zero => exact fr_nn e
    | succ d => exact wr_X12_lies e o ho
  · rw [hR.1, hR.2.1, hR.2.2, show enq 1 1 = true from by decide]
    show gd _ 6 (_, _, [.inl 1], n, t, w) _
    refine gd_s (r := ix_if false true false 15 9) (by decide) rfl (fun outs e => gp_ifz e) ?_
    refine gd_s (r := ix_load ix_isRef 0 16) (by decide) rfl (fun outs e => gp_load e rfl) ?_
    refine gd_s (r := ix_getf 112 6 19) (by decide) rfl (fun outs e => gp_getf e) ?_
    rw [h6]
    refine gd_s (r := ix_load ix_isInt 1 20) (by decide) rfl (fun outs e => gp_load e rfl) ?_
    refine gd_s (r := ix_ald 1 2 20 21) (by decide) rfl (fun outs e => (gp_ald e).1) ?_
    rw [hz]
    refine gd_s (r := ix_if false true false 31 24) (by decide) rfl (fun outs e => gp_ifz e) ?_
    cases hb : Nat.beq z 0 with
    | true =>
      show gd _ 24 _ _
      refine gd_s (r := ix_load ix_isRef 0 25) (by decide) rfl (fun outs e => gp_load e rfl) ?_
      refine gd_s (r := ix_push 27 (ix_vI 4294967294)) (by decide) rfl (fun outs e => gp_push e) ?_
      refine gd_callx (R := fun o => o.2.2.1 = [.inl 4294967294] ∧ Gr n t o.2.2.2.1 o.2.2.2.2.1) (by decide) (show ix_cX12_back O c 27 = ix_call (ix_rcv 112) c 2 188 0 0 0 0 30 from rfl) rfl (fun outs e o ho => ?_) (fun o w hR => ?_)
      · rw [hc] at e
        cases d with
        | zero => exact fr_nn e
        | succ d => exact wr_X12_refuses rfl rfl e o ho
      · rw [hR.1]
        refine gd_s (r := ix_ret ix_isInt) (by decide) rfl (fun outs e => gp_ret e) ?_
        exact gd_ends ⟨rfl, hR.2⟩
    | false =>
      show gd _ 31 _ _
      refine gd_str (A := fun p : Nat => 31 ≤ p ∧ p ≤ 69) (x := 69) (u := .inr (.inr (.inl 80))) (v := .inl 1) (fun pc => st_X12_back pc) (by decide) rfl rfl (by decide) rfl rfl (fun B ls st n' t' w h0 h1 hg => ?_)
      refine gd_s (r := ix_load ix_isRef 0 70) (by decide) rfl (fun outs e => gp_load e h0) ?_
      refine gd_s (r := ix_push 71 (ix_vI 0)) (by decide) rfl (fun outs e => gp_push e) ?_
      refine gd_callx (R := fun o => o.2.2.1 = [.inl 0] ∧ Gr n' t' o.2.2.2.1 o.2.2.2.2.1) (by decide) (show ix_cX12_back O c 71 = ix_call (ix_rcv 112) c 2 126 0 0 0 0 74 from rfl) rfl (fun outs e o ho => ?_) (fun o w hR => ?_)
      · rw [hc] at e
        cases d with
        | zero => exact fr_nn e
        | succ d => exact wr_X12_good rfl rfl e o ho
      · rw [hR.1]
        refine gd_s (r := ix_ret ix_isInt) (by decide) rfl (fun outs e => gp_ret e) ?_
        exact gd_ends ⟨rfl, hg.tr hR.2⟩
set_option maxRecDepth 100000 in
theorem st_X12_image {c : ix_Call} (pc : Nat) : ljQ (fun p : Nat => 15 ≤ p ∧ p ≤ 48) 48 pc (ix_cX12_image O c pc) := (lj_b (lj_b (lj_b (lj_b (lj_b (lj_l (fun _ h => absurd h (by decide))) (lj_l (fun _ h => absurd h (by decide)))) (lj_b (lj_l (fun _ h => absurd h (by decide))) (lj_l (fun _ h => absurd h (by decide))))) (lj_b (lj_b (lj_l (fun _ h => absurd h (by decide))) (lj_l (fun _ h => absurd h (by decide)))) (lj_b (lj_l (fun _ h => absurd h (by decide))) (lj_b (lj_l (fun _ h => absurd h (by decide))) (lj_l (fun _ h => absurd h (by decide))))))) (lj_b (lj_b (lj_b (lj_l (fun _ _ => ⟨fr_N.G (fn_push (by decide)), lk_s (pc := 15) sk_push⟩)) (lj_l (fun _ _ => ⟨fr_N.G (fn_store (by decide)), lk_store⟩))) (lj_b (lj_l (fun _ _ => ⟨fr_N.G (fn_load (by decide)), lk_s (pc := 17) sk_load⟩)) (lj_l (fun _ _ => ⟨fr_N.G (fn_push (by decide)), lk_s (pc := 18) sk_push⟩)))) (lj_b (lj_b (lj_l (fun _ _ => ⟨fr_N.G (fn_icmp (by decide) (by decide)), lk_s (pc := 21) sk_icmp⟩)) (lj_l (fun _ _ => ⟨fr_N.G (fn_load (by decide)), lk_s (pc := 24) sk_load⟩))) (lj_b (lj_l (fun _ _ => ⟨fr_N.G (fn_getf (by decide)), lk_s (pc := 25) sk_getf⟩)) (lj_b (lj_l (fun _ _ => ⟨fr_N.G (fn_push (by decide)), lk_s (pc := 28) sk_push⟩)) (lj_l (fun _ _ => ⟨fr_N.G (fn_load (by decide)), lk_s (pc := 31) sk_load⟩))))))) (lj_b (lj_b (lj_b (lj_b (lj_l (fun _ _ => ⟨fr_N.G (fn_ibin (by decide) (by decide)), lk_s (pc := 32) sk_ibin⟩)) (lj_l (fun _ _ => ⟨fr_N.G (fn_load (by decide)), lk_s (pc := 33) sk_load⟩))) (lj_b (lj_l (fun _ _ => ⟨fr_N.G (fn_iadd (by decide)), lk_s (pc := 34) sk_iadd⟩)) (lj_l (fun _ _ => ⟨fr_N.G (fn_load (by decide)), lk_s (pc := 35) sk_load⟩)))) (lj_b (lj_b (lj_l (fun _ _ => ⟨fr_N.G (fn_getf (by decide)), lk_s (pc := 36) sk_getf⟩)) (lj_l (fun _ _ => ⟨fr_N.G (fn_load (by decide)), lk_s (pc := 39) sk_load⟩))) (lj_b (lj_l (fun _ _ => ⟨fr_N.G (fn_iald (by decide) (by decide)), lk_s (pc := 40) sk_iald⟩)) (lj_b (lj_l (fun _ _ => ⟨gp4_ast (by decide) (by decide) (by decide), lk_ast⟩)) (lj_l (fun _ _ => ⟨fr_N.G (fn_iinc (by decide)), lk_iinc⟩)))))) (lj_b (lj_b (lj_b (lj_l (fun _ _ => ⟨fr_N.G (fn_goto (by decide)), lk_s (pc := 45) sk_goto⟩)) (lj_l (fun h _ => absurd rfl h))) (lj_b (lj_l (fun _ h => absurd h (by decide))) (lj_b (lj_l (fun _ h => absurd h (by decide))) (lj_l (fun _ h => absurd h (by decide)))))) (lj_b (lj_b (lj_l (fun _ h => absurd h (by decide))) (lj_l (fun _ h => absurd h (by decide)))) (lj_b (lj_l (fun _ h => absurd h (by decide))) (lj_b (lj_l (fun _ h => absurd h (by decide))) (lj_l (fun _ h => absurd h (by decide)))))))))
set_option maxRecDepth 100000 in
theorem ga_X12_image {c : ix_Call} (hc : gr_C gr_W c) (pc : Nat) (h : (fun p : Nat => 55 ≤ p) pc) : gr_P (fun p : Nat => 55 ≤ p) (ix_cX12_image O c pc) := (show gr_Q (fun p : Nat => 55 ≤ p) pc (ix_cX12_image O c pc) from (gr_b (gr_b (gr_b (gr_b (gr_b (gr_l (fun h => absurd h (by decide))) (gr_l (fun h => absurd h (by decide)))) (gr_b (gr_l (fun h => absurd h (by decide))) (gr_l (fun h => absurd h (by decide))))) (gr_b (gr_b (gr_l (fun h => absurd h (by decide))) (gr_l (fun h => absurd h (by decide)))) (gr_b (gr_l (fun h => absurd h (by decide))) (gr_b (gr_l (fun h => absurd h (by decide))) (gr_l (fun h => absurd h (by decide))))))) (gr_b (gr_b (gr_b (gr_l (fun h => absurd h (by decide))) (gr_l (fun h => absurd h (by decide)))) (gr_b (gr_l (fun h => absurd h (by decide))) (gr_l (fun h => absurd h (by decide))))) (gr_b (gr_b (gr_l (fun h => absurd h (by decide))) (gr_l (fun h => absurd h (by decide)))) (gr_b (gr_l (fun h => absurd h (by decide))) (gr_b (gr_l (fun h => absurd h (by decide))) (gr_l (fun h => absurd h (by decide)))))))) (gr_b (gr_b (gr_b (gr_b (gr_l (fun h => absurd h (by decide))) (gr_l (fun h => absurd h (by decide)))) (gr_b (gr_l (fun h => absurd h (by decide))) (gr_l (fun h => absurd h (by decide))))) (gr_b (gr_b (gr_l (fun h => absurd h (by decide))) (gr_l (fun h => absurd h (by decide)))) (gr_b (gr_l (fun h => absurd h (by decide))) (gr_b (gr_l (fun h => absurd h (by decide))) (gr_l (fun h => absurd h (by decide))))))) (gr_b (gr_b (gr_b (gr_l (fun h => absurd h (by decide))) (gr_l (fun h => absurd h (by decide)))) (gr_b (gr_l (fun h => absurd h (by decide))) (gr_b (gr_l (fun h => absurd h (by decide))) (gr_l (fun h => absurd h (by decide)))))) (gr_b (gr_b (gr_l (fun h => absurd h (by decide))) (gr_l (fun _ => fr_N.G (fn_load (by decide))))) (gr_b (gr_l (fun _ => fr_N.G (fn_push (by decide)))) (gr_b (gr_l (fun _ => gp4_call hc rfl (by decide))) (gr_l (fun _ => fr_N.G (fn_ret (by decide))))))))))) h
theorem wr_X12_image_0 {g d : Nat} {outs : List ix_S} (hv : Iv n t) (hl : (ix_g t 84).2.1 = 2) (e : ix_exec (ix_tbl O) ty_no g (d + 1) 132 [.inr (.inr (.inl 80)), .inl 0] B n t = some outs) : ∀ o ∈ outs, Iv o.2.2.2.1 o.2.2.2.2.1 ∧ ix_g o.2.2.2.2.1 34 = ix_g t 34 ∧ ix_g (ix_g o.2.2.2.2.1 84).2.2 0 = .inl 1 ∧ ix_g (ix_g o.2.2.2.2.1 84).2.2 1 = ix_g (ix_g t 84).2.2 1 := by
  refine gd_ex (Q := fun o => Iv o.2.2.2.1 o.2.2.2.2.1 ∧ ix_g o.2.2.2.2.1 34 = ix_g t 34 ∧ ix_g (ix_g o.2.2.2.2.1 84).2.2 0 = .inl 1 ∧ ix_g (ix_g o.2.2.2.2.1 84).2.2 1 = ix_g (ix_g t 84).2.2 1) (show ix_tbl O 132 = some (ix_cX12_image O, 3) from rfl) (fun c hc => ?_) e
  refine gd_s (r := ix_load ix_isInt 1 1) (by decide) rfl (fun outs e => gp_load e rfl) ?_
  refine gd_s (r := ix_push 2 (ix_vI 0)) (by decide) rfl (fun outs e => gp_push e) ?_
  refine gd_s (r := ix_push 3 (ix_vI 1)) (by decide) rfl (fun outs e => gp_push e) ?_
  refine gd_callx (R := fun o => o.2.2.1 = [.inl (cond (enq 0 1) 1 0)] ∧ o.2.2.2.1 = n ∧ o.2.2.2.2.1 = t) (by decide) (show ix_cX12_image O c 3 = ix_call ix_any3 c 3 150 0 0 0 0 6 from rfl) rfl (fun outs e o ho => ?_) (fun o w hR => ?_)
  · rw [hc] at e
    cases d with
    | zero => exact fr_nn e
    | succ d => exact wr_X12_lies e o ho
  · rw [hR.1, hR.2.1, hR.2.2, show enq 0 1 = true from by decide]
    show gd _ 6 (_, _, [.inl 1], n, t, w) _
    refine gd_s (r := ix_if false true false 15 9) (by decide) rfl (fun outs e => gp_ifz e) ?_
    refine gd_str (A := fun p : Nat => 15 ≤ p ∧ p ≤ 48) (x := 48) (u := .inr (.inr (.inl 80))) (v := .inl 0) (fun pc => st_X12_image pc) (by decide) rfl rfl (by decide) rfl rfl (fun B ls st n' t' w h0 h1 hg => ?_)
    obtain ⟨hv', he1, he2⟩ := hg.eq hv
    refine gd_s (r := ix_load ix_isRef 0 49) (by decide) rfl (fun outs e => gp_load e h0) ?_
    refine gd_s (r := ix_getf 112 6 52) (by decide) rfl (fun outs e => gp_getf e) ?_
    rw [hv'.2.2.2.2.2.2.2]
    refine gd_s (r := ix_load ix_isInt 1 53) (by decide) rfl (fun outs e => gp_load e h1) ?_
    refine gd_s (r := ix_push 54 (ix_vI 1)) (by decide) rfl (fun outs e => gp_push e) ?_
    refine gd_s (r := ix_ast 1 2 54 55 ix_nar ix_isInt) (by decide) rfl (fun outs e => (gp_ast e).1) ?_
    rw [show ix_nar (ix_g t' 84).1 (ix_vI 1) = .inl 1 by rw [hv'.2.2.1]; rfl]
    have hl' : (ix_g t' 84).2.1 = 2 := by rw [he1]; exact hl
    refine gd_gr (A := fun p : Nat => 55 ≤ p) (fun pc h => ga_X12_image (by rw [hc]; exact gr_exec d) pc h) (by decide) (fun o ho => ?_)
    obtain ⟨q0, q1, q2⟩ := ho.eq (hv'.row (Or.inl rfl))
    refine ⟨q0, by rw [q2]; exact (pl_set_o (by decide) (by decide) (by decide)).trans he2, ?_, ?_⟩
    · rw [q1]
      show ix_g (ix_g (pl_set 84 0 (.inl 1) t') 84).2.2 0 = _
      rw [pl_set_g (by decide) (by omega) (by omega) (by omega), if_pos rfl]
    · rw [q1]
      show ix_g (ix_g (pl_set 84 0 (.inl 1) t') 84).2.2 1 = _
      rw [pl_set_g (by decide) (by omega) (by omega) (by omega), if_neg (by decide), he1]
theorem wr_X12_image_1 {g d : Nat} {outs : List ix_S} (hv : Iv n t) (hl : (ix_g t 84).2.1 = 2) (e : ix_exec (ix_tbl O) ty_no g (d + 1) 132 [.inr (.inr (.inl 80)), .inl 1] B n t = some outs) : ∀ o ∈ outs, Iv o.2.2.2.1 o.2.2.2.2.1 ∧ ix_g o.2.2.2.2.1 34 = ix_g t 34 ∧ ix_g (ix_g o.2.2.2.2.1 84).2.2 1 = .inl 1 ∧ ix_g (ix_g o.2.2.2.2.1 84).2.2 0 = ix_g (ix_g t 84).2.2 0 := by
  refine gd_ex (Q := fun o => Iv o.2.2.2.1 o.2.2.2.2.1 ∧ ix_g o.2.2.2.2.1 34 = ix_g t 34 ∧ ix_g (ix_g o.2.2.2.2.1 84).2.2 1 = .inl 1 ∧ ix_g (ix_g o.2.2.2.2.1 84).2.2 0 = ix_g (ix_g t 84).2.2 0) (show ix_tbl O 132 = some (ix_cX12_image O, 3) from rfl) (fun c hc => ?_) e
  refine gd_s (r := ix_load ix_isInt 1 1) (by decide) rfl (fun outs e => gp_load e rfl) ?_
  refine gd_s (r := ix_push 2 (ix_vI 0)) (by decide) rfl (fun outs e => gp_push e) ?_
  refine gd_s (r := ix_push 3 (ix_vI 1)) (by decide) rfl (fun outs e => gp_push e) ?_
  refine gd_callx (R := fun o => o.2.2.1 = [.inl (cond (enq 1 1) 1 0)] ∧ o.2.2.2.1 = n ∧ o.2.2.2.2.1 = t) (by decide) (show ix_cX12_image O c 3 = ix_call ix_any3 c 3 150 0 0 0 0 6 from rfl) rfl (fun outs e o ho => ?_) (fun o w hR => ?_)
  · rw [hc] at e
    cases d with
    | zero => exact fr_nn e
    | succ d => exact wr_X12_lies e o ho
  · rw [hR.1, hR.2.1, hR.2.2, show enq 1 1 = true from by decide]
    show gd _ 6 (_, _, [.inl 1], n, t, w) _
    refine gd_s (r := ix_if false true false 15 9) (by decide) rfl (fun outs e => gp_ifz e) ?_
    refine gd_str (A := fun p : Nat => 15 ≤ p ∧ p ≤ 48) (x := 48) (u := .inr (.inr (.inl 80))) (v := .inl 1) (fun pc => st_X12_image pc) (by decide) rfl rfl (by decide) rfl rfl (fun B ls st n' t' w h0 h1 hg => ?_)
    obtain ⟨hv', he1, he2⟩ := hg.eq hv
    refine gd_s (r := ix_load ix_isRef 0 49) (by decide) rfl (fun outs e => gp_load e h0) ?_
    refine gd_s (r := ix_getf 112 6 52) (by decide) rfl (fun outs e => gp_getf e) ?_
    rw [hv'.2.2.2.2.2.2.2]
    refine gd_s (r := ix_load ix_isInt 1 53) (by decide) rfl (fun outs e => gp_load e h1) ?_
    refine gd_s (r := ix_push 54 (ix_vI 1)) (by decide) rfl (fun outs e => gp_push e) ?_
    refine gd_s (r := ix_ast 1 2 54 55 ix_nar ix_isInt) (by decide) rfl (fun outs e => (gp_ast e).1) ?_
    rw [show ix_nar (ix_g t' 84).1 (ix_vI 1) = .inl 1 by rw [hv'.2.2.1]; rfl]
    have hl' : (ix_g t' 84).2.1 = 2 := by rw [he1]; exact hl
    refine gd_gr (A := fun p : Nat => 55 ≤ p) (fun pc h => ga_X12_image (by rw [hc]; exact gr_exec d) pc h) (by decide) (fun o ho => ?_)
    obtain ⟨q0, q1, q2⟩ := ho.eq (hv'.row (Or.inl rfl))
    refine ⟨q0, by rw [q2]; exact (pl_set_o (by decide) (by decide) (by decide)).trans he2, ?_, ?_⟩
    · rw [q1]
      show ix_g (ix_g (pl_set 84 1 (.inl 1) t') 84).2.2 1 = _
      rw [pl_set_g (by decide) (by omega) (by omega) (by omega), if_pos rfl]
    · rw [q1]
      show ix_g (ix_g (pl_set 84 1 (.inl 1) t') 84).2.2 0 = _
      rw [pl_set_g (by decide) (by omega) (by omega) (by omega), if_neg (by decide), he1]
/-- a new hall -/
def J1 (n0 : Nat) (t0 : ix_T) (pc : Nat) (S : ix_S) : Prop := Gr n0 t0 S.2.2.2.1 S.2.2.2.2.1 ∧ (pc = 122 → ∃ j st', S.2.2.1 = .inr (.inr (.inl (j + 1))) :: st' ∧ j < S.2.2.2.1 ∧ (ix_g S.2.2.2.2.1 j).1 = 4 ∧ S.2.2.2.1 ≤ 16384)
def JQ (pc : Nat) (r : ix_S → ix_R) : Prop := ∀ n0 t0 (S : ix_S) (outs : List (Nat × ix_S)), J1 n0 t0 pc S → r S = some outs → ∀ o ∈ outs, J1 n0 t0 o.1 o.2
theorem jq_b {x : Bool} {pc : Nat} {a b : ix_S → ix_R} (h1 : JQ pc a) (h2 : JQ pc b) : JQ pc (cond x a b) := by
  cases x
  · exact h2
  · exact h1
theorem jq_l {pc k : Nat} {a : ix_S → ix_R} (h : JQ k a) : JQ pc (cond (Nat.beq pc k) a ix_no) := by
  cases hb : Nat.beq pc k with
  | true =>
    rw [ix_beq.mp hb]
    exact h
  | false => exact fun n0 t0 S outs _ e => fr_no e
theorem jq_n {pc : Nat} {r : ix_S → ix_R} (h : gr_P (fun p => ¬ p = 122) r) : JQ pc r := fun n0 t0 S outs hj e o ho => by
  obtain ⟨B, ls, st, n, t, w⟩ := S
  obtain ⟨z1, z2⟩ := h B ls st n t w outs e o ho
  exact ⟨hj.1.tr z2, fun q => absurd q z1⟩
theorem jq_newa {pc nx : Nat} {z : ix_V} {capC capS : Nat} : JQ pc (ix_newa 4 z capC capS nx) := fun n0 t0 S outs hj e o ho => by
  obtain ⟨B, ls, st, n, t, ce, sl⟩ := S
  rcases st with _ | ⟨a, st⟩
  · exact fr_no e
  · unfold ix_newa at e
    dsimp only at e
    split at e
    · rename_i m _
      cases hb : (Nat.ble m 16384 && (Nat.blt n 16384 && (Nat.ble (Nat.succ ce) capC && Nat.ble (Nat.add sl m) capS))) with
      | false => rw [hb] at e; cases e
      | true =>
        rw [hb, cond_true] at e
        have hn : n < 16384 := ix_blt.mp (Bool.and_eq_true_iff.mp (Bool.and_eq_true_iff.mp hb).2).1
        cases e
        cases List.mem_singleton.mp ho
        refine ⟨hj.1.tr (Gr.nw hn (by decide) (by decide)), fun _ => ⟨n, st, rfl, Nat.lt_succ_self n, ?_, hn⟩⟩
        show (ix_g (ix_u 14 t n (4, m, .leaf z)) n).1 = 4
        rw [ix_gu 14 t n n _ (by show n < 16384; exact hn) (by show n < 16384; exact hn), if_pos rfl]
    · exact fr_no e
theorem jq_put {nx : Nat} {ok : ix_V → Bool} (h : ¬ nx = 122) : JQ 122 (ix_putf 101 8 nx ok) := fun n0 t0 S outs hj e o ho => by
  obtain ⟨B, ls, st, n, t, w⟩ := S
  obtain ⟨j, st', h1, h2, h3, h4⟩ := hj.2 rfl
  change st = _ at h1
  subst h1
  rcases st' with _ | ⟨a, st'⟩
  · exact fr_no e
  · rcases a with a | a | a | a
    · exact fr_no e
    · exact fr_no e
    · cases a with
      | zero => exact fr_no e
      | succ i =>
        change cond (Nat.blt i n && ok (.inr (.inr (.inl (j + 1))))) (cond (Nat.beq (ix_g t i).1 101 && Nat.blt 8 (ix_g t i).2.1) (some [(nx, (B, ls, st', n, pl_fld i 8 (.inr (.inr (.inl (j + 1)))) t, w))]) none) none = some outs at e
        cases hb : (Nat.blt i n && ok (.inr (.inr (.inl (j + 1))))) with
        | false => rw [hb] at e; cases e
        | true =>
          rw [hb, cond_true] at e
          cases hb2 : (Nat.beq (ix_g t i).1 101 && Nat.blt 8 (ix_g t i).2.1) with
          | false => rw [hb2] at e; cases e
          | true =>
            rw [hb2, cond_true] at e
            cases e
            cases List.mem_singleton.mp ho
            exact ⟨hj.1.tr (Gr.laws (ix_blt.mp (Bool.and_eq_true_iff.mp hb).1) (ix_beq.mp (Bool.and_eq_true_iff.mp hb2).1) h2 h3), fun q => absurd q h⟩
    · exact fr_no e
set_option maxRecDepth 100000 in
theorem j1_X1_init {c : ix_Call} (hc : gr_C gr_W c) (pc : Nat) : JQ pc (ix_cX1_init O c pc) := (jq_b (jq_b (jq_b (jq_b (jq_b (jq_b (jq_l (jq_n (fr_N.G (fn_load (by decide))))) (jq_l (jq_n (fr_N.G (fn_obj (by decide)))))) (jq_b (jq_l (jq_n (fr_N.G (fn_load (by decide))))) (jq_l (jq_n (fr_N.G (fn_push (by decide))))))) (jq_b (jq_b (jq_l (jq_n (gp4_newa (by decide) (by decide) (by decide)))) (jq_l (jq_n (gp4_putf (by decide) (by decide) (by decide) rfl)))) (jq_b (jq_l (jq_n (fr_N.G (fn_load (by decide))))) (jq_b (jq_l (jq_n (fr_N.G (fn_push (by decide))))) (jq_l (jq_n (gp4_newa (by decide) (by decide) (by decide)))))))) (jq_b (jq_b (jq_b (jq_l (jq_n (gp4_putf (by decide) (by decide) (by decide) rfl))) (jq_l (jq_n (fr_N.G (fn_load (by decide)))))) (jq_b (jq_l (jq_n (fr_N.G (fn_getf (by decide))))) (jq_l (jq_n (fr_N.G (fn_push (by decide))))))) (jq_b (jq_b (jq_l (jq_n (fr_N.G (fn_push (by decide))))) (jq_l (jq_n (gp4_ast (by decide) (by decide) (by decide))))) (jq_b (jq_l (jq_n (fr_N.G (fn_load (by decide))))) (jq_b (jq_l (jq_n (fr_N.G (fn_getf (by decide))))) (jq_l (jq_n (fr_N.G (fn_push (by decide)))))))))) (jq_b (jq_b (jq_b (jq_b (jq_l (jq_n (fr_N.G (fn_push (by decide))))) (jq_l (jq_n (gp4_ast (by decide) (by decide) (by decide))))) (jq_b (jq_l (jq_n (fr_N.G (fn_load (by decide))))) (jq_l (jq_n (gp4_new (by decide) (by decide) (by decide)))))) (jq_b (jq_b (jq_l (jq_n (fr_N.G (fn_dup (by decide))))) (jq_l (jq_n (fr_N.G (fn_push (by decide)))))) (jq_b (jq_l (jq_n (fr_N.G (fn_push (by decide))))) (jq_b (jq_l (jq_n (gp4_call hc rfl (by decide)))) (jq_l (jq_n (gp4_putf (by decide) (by decide) (by decide) rfl))))))) (jq_b (jq_b (jq_b (jq_l (jq_n (fr_N.G (fn_load (by decide))))) (jq_l (jq_n (gp4_new (by decide) (by decide) (by decide))))) (jq_b (jq_l (jq_n (fr_N.G (fn_dup (by decide))))) (jq_l (jq_n (fr_N.G (fn_push (by decide))))))) (jq_b (jq_b (jq_l (jq_n (fr_N.G (fn_push (by decide))))) (jq_l (jq_n (gp4_call hc rfl (by decide))))) (jq_b (jq_l (jq_n (gp4_putf (by decide) (by decide) (by decide) rfl))) (jq_b (jq_l (jq_n (fr_N.G (fn_load (by decide))))) (jq_l (jq_n (gp4_new (by decide) (by decide) (by decide)))))))))) (jq_b (jq_b (jq_b (jq_b (jq_b (jq_l (jq_n (fr_N.G (fn_dup (by decide))))) (jq_l (jq_n (fr_N.G (fn_push (by decide)))))) (jq_b (jq_l (jq_n (fr_N.G (fn_push (by decide))))) (jq_l (jq_n (gp4_call hc rfl (by decide)))))) (jq_b (jq_b (jq_l (jq_n (gp4_putf (by decide) (by decide) (by decide) rfl))) (jq_l (jq_n (fr_N.G (fn_load (by decide)))))) (jq_b (jq_l (jq_n (gp4_new (by decide) (by decide) (by decide)))) (jq_b (jq_l (jq_n (fr_N.G (fn_dup (by decide))))) (jq_l (jq_n (fr_N.G (fn_push (by decide))))))))) (jq_b (jq_b (jq_b (jq_l (jq_n (fr_N.G (fn_push (by decide))))) (jq_l (jq_n (gp4_call hc rfl (by decide))))) (jq_b (jq_l (jq_n (gp4_putf (by decide) (by decide) (by decide) rfl))) (jq_l (jq_n (fr_N.G (fn_load (by decide))))))) (jq_b (jq_b (jq_l (jq_n (gp4_new (by decide) (by decide) (by decide)))) (jq_l (jq_n (fr_N.G (fn_dup (by decide)))))) (jq_b (jq_l (jq_n (fr_N.G (fn_push (by decide))))) (jq_b (jq_l (jq_n (fr_N.G (fn_push (by decide))))) (jq_l (jq_n (gp4_call hc rfl (by decide))))))))) (jq_b (jq_b (jq_b (jq_b (jq_l (jq_n (gp4_putf (by decide) (by decide) (by decide) rfl))) (jq_l (jq_n (fr_N.G (fn_load (by decide)))))) (jq_b (jq_l (jq_n (gp4_new (by decide) (by decide) (by decide)))) (jq_l (jq_n (fr_N.G (fn_dup (by decide))))))) (jq_b (jq_b (jq_l (jq_n (fr_N.G (fn_push (by decide))))) (jq_l (jq_n (fr_N.G (fn_push (by decide)))))) (jq_b (jq_l (jq_n (gp4_call hc rfl (by decide)))) (jq_b (jq_l (jq_n (gp4_putf (by decide) (by decide) (by decide) rfl))) (jq_l (jq_n (fr_N.G (fn_load (by decide))))))))) (jq_b (jq_b (jq_b (jq_l (jq_n (fr_N.G (fn_push (by decide))))) (jq_l jq_newa)) (jq_b (jq_l (jq_put (by decide))) (jq_b (jq_l (jq_n (fr_N.G (fn_load (by decide))))) (jq_l (jq_n (fr_N.G (fn_push (by decide)))))))) (jq_b (jq_b (jq_l (jq_n (gp4_putf (by decide) (by decide) (by decide) rfl))) (jq_l (jq_n (fr_N.G (fn_load (by decide)))))) (jq_b (jq_l (jq_n (fr_N.G (fn_push (by decide))))) (jq_b (jq_l (jq_n (gp4_putf (by decide) (by decide) (by decide) rfl))) (jq_l (jq_n (fr_N.G (fn_retv (by decide))))))))))))
theorem ln_put {L ci f nx : Nat} {ok : ix_V → Bool} (h : ¬ nx = 99999) : ln_P L (ix_putf ci f nx ok) := fun S outs e o ho q => by
  obtain ⟨B, ls, st, n, t, w⟩ := S
  rcases st with _ | ⟨x, _ | ⟨a, st⟩⟩
  · exact fr_no e
  · exact fr_no e
  · rcases a with a | a | a | a
    · exact fr_no e
    · exact fr_no e
    · cases a with
      | zero => exact fr_no e
      | succ i =>
        rw [gp_putf e] at ho
        cases List.mem_singleton.mp ho
        exact absurd q h
    · exact fr_no e
set_option maxRecDepth 100000 in
theorem ln_X1_init {c : ix_Call} (pc : Nat) : ln_P 0 (ix_cX1_init O c pc) := (ln_b (ln_b (ln_b (ln_b (ln_b (ln_b (ln_l (ln_n (fn_load (by decide)))) (ln_l (ln_n (fn_obj (by decide))))) (ln_b (ln_l (ln_n (fn_load (by decide)))) (ln_l (ln_n (fn_push (by decide)))))) (ln_b (ln_b (ln_l (ln_g (gp4_newa (by decide) (by decide) (by decide)))) (ln_l (ln_g (gp4_putf (by decide) (by decide) (by decide) rfl)))) (ln_b (ln_l (ln_n (fn_load (by decide)))) (ln_b (ln_l (ln_n (fn_push (by decide)))) (ln_l (ln_g (gp4_newa (by decide) (by decide) (by decide)))))))) (ln_b (ln_b (ln_b (ln_l (ln_g (gp4_putf (by decide) (by decide) (by decide) rfl))) (ln_l (ln_n (fn_load (by decide))))) (ln_b (ln_l (ln_n (fn_getf (by decide)))) (ln_l (ln_n (fn_push (by decide)))))) (ln_b (ln_b (ln_l (ln_n (fn_push (by decide)))) (ln_l (ln_g (gp4_ast (by decide) (by decide) (by decide))))) (ln_b (ln_l (ln_n (fn_load (by decide)))) (ln_b (ln_l (ln_n (fn_getf (by decide)))) (ln_l (ln_n (fn_push (by decide))))))))) (ln_b (ln_b (ln_b (ln_b (ln_l (ln_n (fn_push (by decide)))) (ln_l (ln_g (gp4_ast (by decide) (by decide) (by decide))))) (ln_b (ln_l (ln_n (fn_load (by decide)))) (ln_l (ln_g (gp4_new (by decide) (by decide) (by decide)))))) (ln_b (ln_b (ln_l (ln_n (fn_dup (by decide)))) (ln_l (ln_n (fn_push (by decide))))) (ln_b (ln_l (ln_n (fn_push (by decide)))) (ln_b (ln_l (ln_call (by decide))) (ln_l (ln_g (gp4_putf (by decide) (by decide) (by decide) rfl))))))) (ln_b (ln_b (ln_b (ln_l (ln_n (fn_load (by decide)))) (ln_l (ln_g (gp4_new (by decide) (by decide) (by decide))))) (ln_b (ln_l (ln_n (fn_dup (by decide)))) (ln_l (ln_n (fn_push (by decide)))))) (ln_b (ln_b (ln_l (ln_n (fn_push (by decide)))) (ln_l (ln_call (by decide)))) (ln_b (ln_l (ln_g (gp4_putf (by decide) (by decide) (by decide) rfl))) (ln_b (ln_l (ln_n (fn_load (by decide)))) (ln_l (ln_g (gp4_new (by decide) (by decide) (by decide)))))))))) (ln_b (ln_b (ln_b (ln_b (ln_b (ln_l (ln_n (fn_dup (by decide)))) (ln_l (ln_n (fn_push (by decide))))) (ln_b (ln_l (ln_n (fn_push (by decide)))) (ln_l (ln_call (by decide))))) (ln_b (ln_b (ln_l (ln_g (gp4_putf (by decide) (by decide) (by decide) rfl))) (ln_l (ln_n (fn_load (by decide))))) (ln_b (ln_l (ln_g (gp4_new (by decide) (by decide) (by decide)))) (ln_b (ln_l (ln_n (fn_dup (by decide)))) (ln_l (ln_n (fn_push (by decide)))))))) (ln_b (ln_b (ln_b (ln_l (ln_n (fn_push (by decide)))) (ln_l (ln_call (by decide)))) (ln_b (ln_l (ln_g (gp4_putf (by decide) (by decide) (by decide) rfl))) (ln_l (ln_n (fn_load (by decide)))))) (ln_b (ln_b (ln_l (ln_g (gp4_new (by decide) (by decide) (by decide)))) (ln_l (ln_n (fn_dup (by decide))))) (ln_b (ln_l (ln_n (fn_push (by decide)))) (ln_b (ln_l (ln_n (fn_push (by decide)))) (ln_l (ln_call (by decide)))))))) (ln_b (ln_b (ln_b (ln_b (ln_l (ln_g (gp4_putf (by decide) (by decide) (by decide) rfl))) (ln_l (ln_n (fn_load (by decide))))) (ln_b (ln_l (ln_g (gp4_new (by decide) (by decide) (by decide)))) (ln_l (ln_n (fn_dup (by decide)))))) (ln_b (ln_b (ln_l (ln_n (fn_push (by decide)))) (ln_l (ln_n (fn_push (by decide))))) (ln_b (ln_l (ln_call (by decide))) (ln_b (ln_l (ln_g (gp4_putf (by decide) (by decide) (by decide) rfl))) (ln_l (ln_n (fn_load (by decide)))))))) (ln_b (ln_b (ln_b (ln_l (ln_n (fn_push (by decide)))) (ln_l (ln_g (gp4_newa (by decide) (by decide) (by decide))))) (ln_b (ln_l (ln_put (by decide))) (ln_b (ln_l (ln_n (fn_load (by decide)))) (ln_l (ln_n (fn_push (by decide))))))) (ln_b (ln_b (ln_l (ln_g (gp4_putf (by decide) (by decide) (by decide) rfl))) (ln_l (ln_n (fn_load (by decide))))) (ln_b (ln_l (ln_n (fn_push (by decide)))) (ln_b (ln_l (ln_g (gp4_putf (by decide) (by decide) (by decide) rfl))) (ln_l ln_retv))))))))
theorem wr_X1_init {g d : Nat} {as : List ix_V} {outs : List ix_S} (e : ix_exec (ix_tbl O) ty_no g (d + 1) 226 as B n t = some outs) : ∀ o ∈ outs, o.2.2.1 = [] ∧ Gr n t o.2.2.2.1 o.2.2.2.2.1 := by
  refine gd_ex (Q := fun o => o.2.2.1 = [] ∧ Gr n t o.2.2.2.1 o.2.2.2.2.1) (show ix_tbl O 226 = some (ix_cX1_init O, 1) from rfl) (fun c hc fuel outs e o ho => ?_) e
  have gc : gr_C gr_W c := by
    rw [hc]
    exact gr_exec d
  exact ⟨List.eq_nil_of_length_eq_zero (ln_loop (fun pc => ln_X1_init pc) fuel _ outs e o ho), (fj_loop (J := fun pc S' => J1 n t pc S') (fun pc S' l hj e q hq => j1_X1_init gc pc _ _ S' l hj e q hq) fuel 0 _ outs ⟨Gr.rf, fun q => absurd q (by decide)⟩ e o ho).1⟩
set_option maxRecDepth 100000 in
theorem gb_X11_image {c : ix_Call} (hc : gr_C gr_W c) (pc : Nat) (h : (fun p : Nat => 41 ≤ p) pc) : gr_P (fun p : Nat => 41 ≤ p) (ix_cX11_image O c pc) := (show gr_Q (fun p : Nat => 41 ≤ p) pc (ix_cX11_image O c pc) from (gr_b (gr_b (gr_b (gr_b (gr_b (gr_l (fun h => absurd h (by decide))) (gr_l (fun h => absurd h (by decide)))) (gr_b (gr_l (fun h => absurd h (by decide))) (gr_l (fun h => absurd h (by decide))))) (gr_b (gr_b (gr_l (fun h => absurd h (by decide))) (gr_l (fun h => absurd h (by decide)))) (gr_b (gr_l (fun h => absurd h (by decide))) (gr_l (fun h => absurd h (by decide)))))) (gr_b (gr_b (gr_b (gr_l (fun h => absurd h (by decide))) (gr_l (fun h => absurd h (by decide)))) (gr_b (gr_l (fun h => absurd h (by decide))) (gr_l (fun h => absurd h (by decide))))) (gr_b (gr_b (gr_l (fun h => absurd h (by decide))) (gr_l (fun h => absurd h (by decide)))) (gr_b (gr_l (fun h => absurd h (by decide))) (gr_b (gr_l (fun h => absurd h (by decide))) (gr_l (fun h => absurd h (by decide)))))))) (gr_b (gr_b (gr_b (gr_b (gr_l (fun h => absurd h (by decide))) (gr_l (fun h => absurd h (by decide)))) (gr_b (gr_l (fun h => absurd h (by decide))) (gr_l (fun h => absurd h (by decide))))) (gr_b (gr_b (gr_l (fun h => absurd h (by decide))) (gr_l (fun h => absurd h (by decide)))) (gr_b (gr_l (fun _ => fr_N.G (fn_load (by decide)))) (gr_l (fun _ => fr_N.G (fn_getf (by decide))))))) (gr_b (gr_b (gr_b (gr_l (fun _ => fr_N.G (fn_load (by decide)))) (gr_l (fun _ => fr_N.G (fn_ald (by decide) (by decide))))) (gr_b (gr_l (fun _ => fr_N.G (fn_load (by decide)))) (gr_l (fun _ => fr_N.G (fn_getf (by decide)))))) (gr_b (gr_b (gr_l (fun _ => gp4_call hc rfl (by decide))) (gr_l (fun _ => fr_N.G (fn_load (by decide))))) (gr_b (gr_l (fun _ => fr_N.G (fn_push (by decide)))) (gr_b (gr_l (fun _ => gp4_call hc rfl (by decide))) (gr_l (fun _ => fr_N.G (fn_ret (by decide))))))))))) h
theorem gp_new {kd len : Nat} {fs : ix_A} {capC capS : Nat} {ce sl : Nat} {outs : List (Nat × ix_S)} (e : ix_new kd len fs capC capS nx (B, ls, st, n, t, ce, sl) = some outs) : outs = [(nx, (B, ls, .inr (.inr (.inl (n + 1))) :: st, n + 1, ix_u 14 t n (kd, len, fs), Nat.succ ce, Nat.add sl len))] ∧ n < 16384 := by
  unfold ix_new at e
  dsimp only at e
  cases hb : (Nat.blt n 16384 && (Nat.ble (Nat.succ ce) capC && Nat.ble (Nat.add sl len) capS)) with
  | false => rw [hb] at e; cases e
  | true =>
    rw [hb, cond_true] at e
    cases e
    exact ⟨rfl, ix_blt.mp (Bool.and_eq_true_iff.mp hb).1⟩
theorem gp_aast {pc i m q : Nat} {w : Nat × Nat} {outs : List (Nat × ix_S)} (e : ix_aast pc nx (B, ls, .inr (.inr (.inl q)) :: .inl m :: .inr (.inr (.inl (i + 1))) :: st, n, t, w) = some outs) : outs = [(nx, (B, ls, st, n, pl_set i m (.inr (.inr (.inl q))) t, w))] ∧ m < (ix_g t i).2.1 := by
  change cond (Nat.blt i n) (cond ((Nat.beq (ix_g t i).1 4 || Nat.beq (ix_g t i).1 5) && ix_aok (ix_g t i).1 q n t) (cond (Nat.blt m (ix_g t i).2.1) (some [(nx, (B, ls, st, n, pl_set i m (.inr (.inr (.inl q))) t, w))]) none) none) none = some outs at e
  refine fr_c e (fun e => fr_c e (fun e => ?_))
  cases hm : Nat.blt m (ix_g t i).2.1 with
  | true =>
    rw [hm, cond_true] at e
    cases e
    exact ⟨rfl, ix_blt.mp hm⟩
  | false => rw [hm] at e; cases e
theorem wr_X11_image_o {g d m : Nat} {outs : List ix_S} (hn : 34 < n) (h1 : ix_g (ix_g t 0).2.2 1 = .inr (.inr (.inl 35))) (hl : (ix_g t 34).2.1 = 2) (hm : ofr m) (e : ix_exec (ix_tbl O) ty_no g (d + 1) 58 [.inr (.inr (.inl 1)), .inl m] B n t = some outs) : ∀ o ∈ outs, Gr n t o.2.2.2.1 o.2.2.2.2.1 := by
  refine gd_ex (Q := fun o => Gr n t o.2.2.2.1 o.2.2.2.2.1) (show ix_tbl O 58 = some (ix_cX11_image O, 2) from rfl) (fun c hc => ?_) e
  have no : ∀ B st, gd (ix_cX11_image O c) 13 (B, [some (.inr (.inr (.inl 1))), some (.inl m)], st, n, t, 0, 0) (fun o => Gr n t o.2.2.2.1 o.2.2.2.2.1) := fun B st => gd_gr (A := fun p : Nat => (13 ≤ p ∧ p ≤ 18) ∨ p = 99999) (fun pc h => ga_X11_image (by rw [hc]; exact gr_exec d) pc h) (by decide) (fun o ho => ho)
  refine gd_s (r := ix_load ix_isInt 1 1) (by decide) rfl (fun outs e => gp_load e rfl) ?_
  refine gd_s (r := ix_if true false false 13 4) (by decide) rfl (fun outs e => gp_ifl e) ?_
  cases c1 : Nat.blt (ix_bias m) (ix_bias 0) with
  | true => exact no _ _
  | false =>
    have c2 : Nat.blt (ix_bias m) (ix_bias 2) = false := by
      rcases hm with q | q
      · rw [c1] at q; cases q
      · exact q.2.1
    show gd _ 4 _ _
    refine gd_s (r := ix_load ix_isInt 1 5) (by decide) rfl (fun outs e => gp_load e rfl) ?_
    refine gd_s (r := ix_load ix_isRef 0 6) (by decide) rfl (fun outs e => gp_load e rfl) ?_
    refine gd_s (r := ix_getf 111 1 9) (by decide) rfl (fun outs e => gp_getf e) ?_
    rw [h1]
    refine gd_s (r := ix_alen O 10) (by decide) rfl (fun outs e => gp_alen e hn) ?_
    rw [hl]
    refine gd_s (r := ix_icmp true false false 19 13) (by decide) rfl (fun outs e => gp_cmp e) ?_
    rw [c2]
    exact no _ _
theorem wr_X11_image_0 {g d r : Nat} {outs : List ix_S} (hv : Iv n t) (hn : 34 < n) (h1 : ix_g (ix_g t 0).2.2 1 = .inr (.inr (.inl 35))) (hl : (ix_g t 34).2.1 = 2) (hr : ix_g (ix_g t 34).2.2 0 = .inr (.inr (.inl r))) (e : ix_exec (ix_tbl O) ty_no g (d + 1) 58 [.inr (.inr (.inl 1)), .inl 0] B n t = some outs) : ∀ o ∈ outs, Iv o.2.2.2.1 o.2.2.2.2.1 ∧ ix_g o.2.2.2.2.1 84 = ix_g t 84 ∧ (∃ q, ix_g (ix_g o.2.2.2.2.1 34).2.2 0 = .inr (.inr (.inl (q + 1)))) ∧ ix_g (ix_g o.2.2.2.2.1 34).2.2 1 = ix_g (ix_g t 34).2.2 1 := by
  refine gd_ex (Q := fun o => Iv o.2.2.2.1 o.2.2.2.2.1 ∧ ix_g o.2.2.2.2.1 84 = ix_g t 84 ∧ (∃ q, ix_g (ix_g o.2.2.2.2.1 34).2.2 0 = .inr (.inr (.inl (q + 1)))) ∧ ix_g (ix_g o.2.2.2.2.1 34).2.2 1 = ix_g (ix_g t 34).2.2 1) (show ix_tbl O 58 = some (ix_cX11_image O, 2) from rfl) (fun c hc => ?_) e
  have gc : gr_C gr_W c := by
    rw [hc]
    exact gr_exec d
  refine gd_s (r := ix_load ix_isInt 1 1) (by decide) rfl (fun outs e => gp_load e rfl) ?_
  refine gd_s (r := ix_if true false false 13 4) (by decide) rfl (fun outs e => gp_ifl e) ?_
  rw [show Nat.blt (ix_bias 0) (ix_bias 0) = false by decide]
  show gd _ 4 _ _
  refine gd_s (r := ix_load ix_isInt 1 5) (by decide) rfl (fun outs e => gp_load e rfl) ?_
  refine gd_s (r := ix_load ix_isRef 0 6) (by decide) rfl (fun outs e => gp_load e rfl) ?_
  refine gd_s (r := ix_getf 111 1 9) (by decide) rfl (fun outs e => gp_getf e) ?_
  rw [h1]
  refine gd_s (r := ix_alen O 10) (by decide) rfl (fun outs e => gp_alen e hn) ?_
  rw [hl]
  refine gd_s (r := ix_icmp true false false 19 13) (by decide) rfl (fun outs e => gp_cmp e) ?_
  rw [show Nat.blt (ix_bias 0) (ix_bias 2) = true by decide]
  show gd _ 19 _ _
  refine gd_s (r := ix_load ix_isRef 0 20) (by decide) rfl (fun outs e => gp_load e rfl) ?_
  refine gd_s (r := ix_getf 111 1 23) (by decide) rfl (fun outs e => gp_getf e) ?_
  rw [h1]
  refine gd_s (r := ix_load ix_isInt 1 24) (by decide) rfl (fun outs e => gp_load e rfl) ?_
  refine gd_s (r := ix_ald 4 97 24 25) (by decide) rfl (fun outs e => (gp_ald e).1) ?_
  rw [hr]
  refine gd_s (r := ix_ifnull 28 41) (by decide) rfl (fun outs e => gp_ifnull e) ?_
  cases hz : Nat.beq r 0 with
  | false =>
    show gd _ 41 _ _
    refine gd_gr (A := fun p : Nat => 41 ≤ p) (fun pc h => gb_X11_image gc pc h) (by decide) (fun o ho => ?_)
    obtain ⟨q0, q1, q2⟩ := ho.eq hv
    obtain ⟨r', rfl⟩ : ∃ r', r = r' + 1 := by
      cases r with
      | zero => cases hz
      | succ r' => exact ⟨r', rfl⟩
    exact ⟨q0, q1, ⟨r', by rw [q2]; exact hr⟩, by rw [q2]⟩
  | true =>
    show gd _ 28 _ _
    refine gd_s (r := ix_load ix_isRef 0 29) (by decide) rfl (fun outs e => gp_load e rfl) ?_
    refine gd_s (r := ix_getf 111 1 32) (by decide) rfl (fun outs e => gp_getf e) ?_
    rw [h1]
    refine gd_s (r := ix_load ix_isInt 1 33) (by decide) rfl (fun outs e => gp_load e rfl) ?_
    refine gd_x (r := ix_new 101 11 ix_f1 16 540 36) (by decide) rfl (fun outs e => ?_)
    obtain ⟨x1, x2⟩ := gp_new e
    refine ⟨_, _, x1, ?_⟩
    obtain ⟨hv1, he1⟩ := hv.hall (len := 11) (f := ix_f1) x2 rfl
    refine gd_s (r := ix_dup 37) (by decide) rfl (fun outs e => gp_dup e) ?_
    refine gd_callx (R := fun o => o.2.2.1 = [] ∧ Gr (n + 1) (ix_u 14 t n (101, 11, ix_f1)) o.2.2.2.1 o.2.2.2.2.1) (by decide) (show ix_cX11_image O c 37 = ix_call (ix_rcv 101) c 1 226 15 529 16 540 40 from rfl) rfl (fun outs e o ho => ?_) (fun o1 w hR => ?_)
    · rw [hc] at e
      cases d with
      | zero => exact fr_nn e
      | succ d => exact wr_X1_init e o ho
    · rw [hR.1]
      obtain ⟨hv2, he2⟩ := hR.2.eq hv1
      have e84 : ix_g o1.2.2.2.2.1 84 = ix_g t 84 := he2.1.trans he1.1
      have e34 : ix_g o1.2.2.2.2.1 34 = ix_g t 34 := he2.2.trans he1.2
      refine gd_s (r := ix_aast 40 41) (by decide) rfl (fun outs e => (gp_aast e).1) ?_
      refine gd_gr (A := fun p : Nat => 41 ≤ p) (fun pc h => gb_X11_image gc pc h) (by decide) (fun o ho => ?_)
      obtain ⟨q0, q1, q2⟩ := ho.eq (hv2.row (Or.inr rfl))
      have hl2 : (ix_g o1.2.2.2.2.1 34).2.1 = 2 := by rw [e34]; exact hl
      refine ⟨q0, by rw [q1]; exact (pl_set_o (by decide) (by decide) (by decide)).trans e84, ⟨n, ?_⟩, ?_⟩
      · rw [q2]
        show ix_g (ix_g (pl_set 34 0 _ o1.2.2.2.2.1) 34).2.2 0 = _
        rw [pl_set_g (by decide) (by omega) (by omega) (by omega), if_pos rfl]
      · rw [q2]
        show ix_g (ix_g (pl_set 34 0 _ o1.2.2.2.2.1) 34).2.2 1 = _
        rw [pl_set_g (by decide) (by omega) (by omega) (by omega), if_neg (by decide), e34]
theorem wr_X11_image_1 {g d r : Nat} {outs : List ix_S} (hv : Iv n t) (hn : 34 < n) (h1 : ix_g (ix_g t 0).2.2 1 = .inr (.inr (.inl 35))) (hl : (ix_g t 34).2.1 = 2) (hr : ix_g (ix_g t 34).2.2 1 = .inr (.inr (.inl r))) (e : ix_exec (ix_tbl O) ty_no g (d + 1) 58 [.inr (.inr (.inl 1)), .inl 1] B n t = some outs) : ∀ o ∈ outs, Iv o.2.2.2.1 o.2.2.2.2.1 ∧ ix_g o.2.2.2.2.1 84 = ix_g t 84 ∧ (∃ q, ix_g (ix_g o.2.2.2.2.1 34).2.2 1 = .inr (.inr (.inl (q + 1)))) ∧ ix_g (ix_g o.2.2.2.2.1 34).2.2 0 = ix_g (ix_g t 34).2.2 0 := by
  refine gd_ex (Q := fun o => Iv o.2.2.2.1 o.2.2.2.2.1 ∧ ix_g o.2.2.2.2.1 84 = ix_g t 84 ∧ (∃ q, ix_g (ix_g o.2.2.2.2.1 34).2.2 1 = .inr (.inr (.inl (q + 1)))) ∧ ix_g (ix_g o.2.2.2.2.1 34).2.2 0 = ix_g (ix_g t 34).2.2 0) (show ix_tbl O 58 = some (ix_cX11_image O, 2) from rfl) (fun c hc => ?_) e
  have gc : gr_C gr_W c := by
    rw [hc]
    exact gr_exec d
  refine gd_s (r := ix_load ix_isInt 1 1) (by decide) rfl (fun outs e => gp_load e rfl) ?_
  refine gd_s (r := ix_if true false false 13 4) (by decide) rfl (fun outs e => gp_ifl e) ?_
  rw [show Nat.blt (ix_bias 1) (ix_bias 0) = false by decide]
  show gd _ 4 _ _
  refine gd_s (r := ix_load ix_isInt 1 5) (by decide) rfl (fun outs e => gp_load e rfl) ?_
  refine gd_s (r := ix_load ix_isRef 0 6) (by decide) rfl (fun outs e => gp_load e rfl) ?_
  refine gd_s (r := ix_getf 111 1 9) (by decide) rfl (fun outs e => gp_getf e) ?_
  rw [h1]
  refine gd_s (r := ix_alen O 10) (by decide) rfl (fun outs e => gp_alen e hn) ?_
  rw [hl]
  refine gd_s (r := ix_icmp true false false 19 13) (by decide) rfl (fun outs e => gp_cmp e) ?_
  rw [show Nat.blt (ix_bias 1) (ix_bias 2) = true by decide]
  show gd _ 19 _ _
  refine gd_s (r := ix_load ix_isRef 0 20) (by decide) rfl (fun outs e => gp_load e rfl) ?_
  refine gd_s (r := ix_getf 111 1 23) (by decide) rfl (fun outs e => gp_getf e) ?_
  rw [h1]
  refine gd_s (r := ix_load ix_isInt 1 24) (by decide) rfl (fun outs e => gp_load e rfl) ?_
  refine gd_s (r := ix_ald 4 97 24 25) (by decide) rfl (fun outs e => (gp_ald e).1) ?_
  rw [hr]
  refine gd_s (r := ix_ifnull 28 41) (by decide) rfl (fun outs e => gp_ifnull e) ?_
  cases hz : Nat.beq r 0 with
  | false =>
    show gd _ 41 _ _
    refine gd_gr (A := fun p : Nat => 41 ≤ p) (fun pc h => gb_X11_image gc pc h) (by decide) (fun o ho => ?_)
    obtain ⟨q0, q1, q2⟩ := ho.eq hv
    obtain ⟨r', rfl⟩ : ∃ r', r = r' + 1 := by
      cases r with
      | zero => cases hz
      | succ r' => exact ⟨r', rfl⟩
    exact ⟨q0, q1, ⟨r', by rw [q2]; exact hr⟩, by rw [q2]⟩
  | true =>
    show gd _ 28 _ _
    refine gd_s (r := ix_load ix_isRef 0 29) (by decide) rfl (fun outs e => gp_load e rfl) ?_
    refine gd_s (r := ix_getf 111 1 32) (by decide) rfl (fun outs e => gp_getf e) ?_
    rw [h1]
    refine gd_s (r := ix_load ix_isInt 1 33) (by decide) rfl (fun outs e => gp_load e rfl) ?_
    refine gd_x (r := ix_new 101 11 ix_f1 16 540 36) (by decide) rfl (fun outs e => ?_)
    obtain ⟨x1, x2⟩ := gp_new e
    refine ⟨_, _, x1, ?_⟩
    obtain ⟨hv1, he1⟩ := hv.hall (len := 11) (f := ix_f1) x2 rfl
    refine gd_s (r := ix_dup 37) (by decide) rfl (fun outs e => gp_dup e) ?_
    refine gd_callx (R := fun o => o.2.2.1 = [] ∧ Gr (n + 1) (ix_u 14 t n (101, 11, ix_f1)) o.2.2.2.1 o.2.2.2.2.1) (by decide) (show ix_cX11_image O c 37 = ix_call (ix_rcv 101) c 1 226 15 529 16 540 40 from rfl) rfl (fun outs e o ho => ?_) (fun o1 w hR => ?_)
    · rw [hc] at e
      cases d with
      | zero => exact fr_nn e
      | succ d => exact wr_X1_init e o ho
    · rw [hR.1]
      obtain ⟨hv2, he2⟩ := hR.2.eq hv1
      have e84 : ix_g o1.2.2.2.2.1 84 = ix_g t 84 := he2.1.trans he1.1
      have e34 : ix_g o1.2.2.2.2.1 34 = ix_g t 34 := he2.2.trans he1.2
      refine gd_s (r := ix_aast 40 41) (by decide) rfl (fun outs e => (gp_aast e).1) ?_
      refine gd_gr (A := fun p : Nat => 41 ≤ p) (fun pc h => gb_X11_image gc pc h) (by decide) (fun o ho => ?_)
      obtain ⟨q0, q1, q2⟩ := ho.eq (hv2.row (Or.inr rfl))
      have hl2 : (ix_g o1.2.2.2.2.1 34).2.1 = 2 := by rw [e34]; exact hl
      refine ⟨q0, by rw [q1]; exact (pl_set_o (by decide) (by decide) (by decide)).trans e84, ⟨n, ?_⟩, ?_⟩
      · rw [q2]
        show ix_g (ix_g (pl_set 34 1 _ o1.2.2.2.2.1) 34).2.2 1 = _
        rw [pl_set_g (by decide) (by omega) (by omega) (by omega), if_pos rfl]
      · rw [q2]
        show ix_g (ix_g (pl_set 34 1 _ o1.2.2.2.2.1) 34).2.2 0 = _
        rw [pl_set_g (by decide) (by omega) (by omega) (by omega), if_neg (by decide), e34]
end FRJ
