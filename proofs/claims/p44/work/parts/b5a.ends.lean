/-! end and feed: what they answer, the tapes' lengths then -/
section FRE
variable {O : ix_O} {P : ix_P} {Q : ix_S → Prop} {B : ix_B} {ls : ix_L} {st : List ix_V} {outs : List (Nat × ix_S)} {n nx tgt : Nat} {t : ix_T}
theorem gp_ifl {m : Nat} {w : Nat × (ix_T × (Nat × Nat))} (e : ix_if true false false tgt nx (B, ls, .inl m :: st, w) = some outs) : outs = [(cond (Nat.blt (ix_bias m) (ix_bias 0)) tgt nx, (B, ls, st, w))] := by
  change ix_br (some (cond (Nat.blt (ix_bias m) (ix_bias 0)) ([B], []) ([], [B]))) tgt nx (ls, st, w) = some outs at e
  cases hb : Nat.blt (ix_bias m) (ix_bias 0) with
  | true =>
    rw [hb] at e
    exact (Option.some.inj (show some [(tgt, (B, ls, st, w))] = some outs from e)).symm
  | false =>
    rw [hb] at e
    exact (Option.some.inj (show some [(nx, (B, ls, st, w))] = some outs from e)).symm
theorem gp_ifz {m : Nat} {w : Nat × (ix_T × (Nat × Nat))} (e : ix_if false true false tgt nx (B, ls, .inl m :: st, w) = some outs) : outs = [(cond (Nat.beq m 0) nx tgt, (B, ls, st, w))] := by
  change ix_br (some (cond (Nat.beq m 0) ([B], []) ([], [B]))) nx tgt (ls, st, w) = some outs at e
  cases hb : Nat.beq m 0 with
  | true =>
    rw [hb] at e
    exact (Option.some.inj (show some [(nx, (B, ls, st, w))] = some outs from e)).symm
  | false =>
    rw [hb] at e
    exact (Option.some.inj (show some [(tgt, (B, ls, st, w))] = some outs from e)).symm
theorem gp_br {q : Bool} {y z : Nat} {w : Nat × (ix_T × (Nat × Nat))} (e : ix_br (some (cond q ([B], []) ([], [B]))) y z (ls, st, w) = some outs) : outs = [(cond q y z, (B, ls, st, w))] := by
  cases q
  · exact (Option.some.inj (show some [(z, (B, ls, st, w))] = some outs from e)).symm
  · exact (Option.some.inj (show some [(y, (B, ls, st, w))] = some outs from e)).symm
/-- if b is below a (top first: b, a), jump or not -/
theorem gp_cmps {neg : Bool} {a b : Nat} {w : Nat × (ix_T × (Nat × Nat))} (e : ix_icmp true neg true tgt nx (B, ls, .inl b :: .inl a :: st, w) = some outs) : outs = [(cond (Nat.blt (ix_bias b) (ix_bias a)) (cond neg nx tgt) (cond neg tgt nx), (B, ls, st, w))] := gp_br e
theorem gp_cmp {neg : Bool} {a b : Nat} {w : Nat × (ix_T × (Nat × Nat))} (e : ix_icmp true neg false tgt nx (B, ls, .inl b :: .inl a :: st, w) = some outs) : outs = [(cond (Nat.blt (ix_bias a) (ix_bias b)) (cond neg nx tgt) (cond neg tgt nx), (B, ls, st, w))] := gp_br e
theorem gp_ret {ok : ix_V → Bool} {v : ix_V} {w : Nat × (ix_T × (Nat × Nat))} (e : ix_ret ok (B, ls, v :: st, w) = some outs) : outs = [(99999, (B, [], [v], w))] := by
  rcases st with _ | ⟨u, st⟩
  · unfold ix_ret at e
    dsimp only at e
    refine fr_c e (fun e => ?_)
    cases e
    rfl
  · exact fr_no e
theorem gp_retv {w : Nat × (ix_T × (Nat × Nat))} (e : ix_retv (B, ls, st, w) = some outs) : outs = [(99999, (B, [], [], w))] := by
  rcases st with _ | ⟨u, st⟩
  · cases e
    rfl
  · exact fr_no e
theorem gp_iadd {a b : Nat} {w : Nat × (ix_T × (Nat × Nat))} (e : ix_iadd nx (B, ls, .inl b :: .inl a :: st, w) = some outs) : outs = [(nx, (B, ls, .inl (ix_add a b) :: st, w))] := (Option.some.inj (show some [_] = some outs from e)).symm
theorem gp_isub {a b : Nat} {w : Nat × (ix_T × (Nat × Nat))} (e : ix_isub nx (B, ls, .inl b :: .inl a :: st, w) = some outs) : outs = [(nx, (B, ls, .inl (ix_sub a b) :: st, w))] := (Option.some.inj (show some [_] = some outs from e)).symm
theorem gp_ibin {op : Nat → Nat → Nat} {pc a b : Nat} {w : Nat × (ix_T × (Nat × Nat))} (e : ix_ibin op pc nx (B, ls, .inl b :: .inl a :: st, w) = some outs) : outs = [(nx, (B, ls, .inl (op a b) :: st, w))] := (Option.some.inj (show some [_] = some outs from e)).symm
theorem gp_iun {op : Nat → Nat} {a : Nat} {w : Nat × (ix_T × (Nat × Nat))} (e : ix_iun op nx (B, ls, .inl a :: st, w) = some outs) : outs = [(nx, (B, ls, .inl (op a) :: st, w))] := (Option.some.inj (show some [_] = some outs from e)).symm
theorem gp_idiv {op : Nat → Nat → Nat} {pc a b : Nat} {w : Nat × (ix_T × (Nat × Nat))} (e : ix_idiv op pc nx (B, ls, .inl b :: .inl a :: st, w) = some outs) : outs = [(nx, (B, ls, .inl (op a b) :: st, w))] := by
  change cond (Nat.beq b 0) none (some [(nx, (B, ls, ix_vI (op a b) :: st, w))]) = some outs at e
  refine fr_d e (fun e => ?_)
  cases e
  rfl
theorem gp_dup {a : ix_V} {w : Nat × (ix_T × (Nat × Nat))} (e : ix_dup nx (B, ls, a :: st, w) = some outs) : outs = [(nx, (B, ls, a :: a :: st, w))] := by
  unfold ix_dup at e
  dsimp only at e
  refine fr_d e (fun e => ?_)
  cases e
  rfl
theorem gp_iinc {i k a : Nat} {w : Nat × (ix_T × (Nat × Nat))} (e : ix_iinc i k nx (B, ls, st, w) = some outs) (h : ls[i]? = some (some (.inl a))) : outs = [(nx, (B, (ix_clr ls i).set i (some (.inl (ix_add a k))), st, w))] := by
  unfold ix_iinc at e
  dsimp only at e
  rw [h] at e
  exact (Option.some.inj (show some [_] = some outs from e)).symm
theorem gp_alen {i : Nat} {w : Nat × Nat} (e : ix_alen O nx (B, ls, .inr (.inr (.inl (i + 1))) :: st, n, t, w) = some outs) (hi : i < n) : outs = [(nx, (B, ls, .inl (ix_g t i).2.1 :: st, n, t, w))] := by
  change (match cond (Nat.blt i n) (cond (Nat.blt (ix_g t i).1 98) (some (ix_g t i).2) none) (cond (Nat.blt i 1000000) none (O i)) with
    | some (len, _) => some [(nx, (B, ls, ix_vI len :: st, n, t, w))]
    | none => none) = some outs at e
  rw [ix_blt.mpr hi, cond_true] at e
  cases hb : Nat.blt (ix_g t i).1 98 with
  | true =>
    rw [hb, cond_true] at e
    exact (Option.some.inj (show some [_] = some outs from e)).symm
  | false =>
    rw [hb, cond_false] at e
    cases e
theorem gp_iald {i m pc : Nat} {w : Nat × Nat} (hi : i < n) (hf : ∀ j, j < (ix_g t i).2.1 → ∃ z, ix_g (ix_g t i).2.2 j = .inl z) (e : ix_iald O pc nx (B, ls, .inl m :: .inr (.inr (.inl (i + 1))) :: st, n, t, w) = some outs) : ∃ z, outs = [(nx, (B, ls, .inl z :: st, n, t, w))] := by
  change (match cond (Nat.blt i n) (cond (Nat.beq (ix_g t i).1 0) (some (ix_g t i).2) none) (cond (Nat.blt i 1000000) none (O i)) with
    | some (len, f) => cond (Nat.blt m len) (some [(nx, (B, ls, ix_g f m :: st, n, t, w))]) none
    | none => none) = some outs at e
  rw [ix_blt.mpr hi, cond_true] at e
  cases hb : Nat.beq (ix_g t i).1 0 with
  | true =>
    rw [hb, cond_true] at e
    change cond (Nat.blt m (ix_g t i).2.1) (some [(nx, (B, ls, ix_g (ix_g t i).2.2 m :: st, n, t, w))]) none = some outs at e
    cases hm : Nat.blt m (ix_g t i).2.1 with
    | true =>
      rw [hm, cond_true] at e
      obtain ⟨z, hz⟩ := hf m (ix_blt.mp hm)
      rw [hz] at e
      cases e
      exact ⟨z, rfl⟩
    | false => rw [hm] at e; cases e
  | false =>
    rw [hb, cond_false] at e
    cases e
theorem gp_ast {k0 k1 i m pc : Nat} {nar : Nat → ix_V → ix_V} {ok : ix_V → Bool} {v : ix_V} {w : Nat × Nat} (e : ix_ast k0 k1 pc nx nar ok (B, ls, v :: .inl m :: .inr (.inr (.inl (i + 1))) :: st, n, t, w) = some outs) : outs = [(nx, (B, ls, st, n, pl_set i m (nar (ix_g t i).1 v) t, w))] ∧ m < (ix_g t i).2.1 := by
  change cond (Nat.blt i n && ok v) (cond (Nat.ble k0 (ix_g t i).1 && Nat.ble (ix_g t i).1 k1) (cond (Nat.blt m (ix_g t i).2.1) (some [(nx, (B, ls, st, n, pl_set i m (nar (ix_g t i).1 v) t, w))]) none) none) none = some outs at e
  refine fr_c e (fun e => fr_c e (fun e => ?_))
  change cond (Nat.blt m (ix_g t i).2.1) (some [(nx, (B, ls, st, n, pl_set i m (nar (ix_g t i).1 v) t, w))]) none = some outs at e
  cases hm : Nat.blt m (ix_g t i).2.1 with
  | true =>
    rw [hm, cond_true] at e
    cases e
    exact ⟨rfl, ix_blt.mp hm⟩
  | false => rw [hm] at e; cases e
/-- a step whose outcome is one of some -/
theorem gd_x {pc : Nat} {S : ix_S} {r : ix_S → ix_R} (hp : ¬ pc = 99999) (hr : P pc = r) (h : ∀ outs, r S = some outs → ∃ pc' S', outs = [(pc', S')] ∧ gd P pc' S' Q) : gd P pc S Q := gd_step hp (fun outs e o ho => by
  rw [hr] at e
  obtain ⟨pc', S', h1, h2⟩ := h outs e
  rw [h1] at ho
  cases List.mem_singleton.mp ho
  exact h2)
theorem gd_callx {pc na y mc ms cC cS ce sl : Nat} {chk : List ix_V → Nat → ix_T → Bool} {c : ix_Call} {as rest : List ix_V} {R : ix_S → Prop} (hp : ¬ pc = 99999) (hr : P pc = ix_call chk c na y mc ms cC cS nx) (ht : ix_take na [] st = some (as, rest)) (hc : ∀ outs, c y as B n t = some outs → ∀ o ∈ outs, R o) (k : ∀ o w, R o → gd P nx (o.1, ls, o.2.2.1 ++ rest, o.2.2.2.1, o.2.2.2.2.1, w) Q) : gd P pc (B, ls, st, n, t, ce, sl) Q := gd_step hp (fun outs e o ho => by
  rw [hr] at e
  unfold ix_call at e
  dsimp only at e
  rw [ht] at e
  dsimp only at e
  refine fr_c e (fun e => ?_)
  split at e
  · rename_i o2 ho2
    cases e
    obtain ⟨q, q1, rfl⟩ := List.mem_map.mp ho
    exact k q _ (hc o2 ho2 q q1)
  · cases e)
/-- is it so many at most -/
noncomputable def enq (m a : Nat) : Bool := cond (Nat.blt (ix_bias m) (ix_bias 0)) false (cond (Nat.blt (ix_bias a) (ix_bias m)) false true)
noncomputable def enr (m a : Nat) : Nat := cond (enq m a) m 4294967295
noncomputable def ent (m a : Nat) : Nat := cond (enq m a) m a
theorem wr_X11_end {g d m a : Nat} {outs : List ix_S} (hk : K2 n t) (ha : tpc t = .inl a) (e : ix_exec (ix_tbl O) ty_no g (d + 1) 45 [.inr (.inr (.inl 1)), .inl m] B n t = some outs) : ∀ o ∈ outs, o.2.2.1 = [.inl (enr m a)] ∧ K2 o.2.2.2.1 o.2.2.2.2.1 ∧ tpc o.2.2.2.2.1 = .inl (ent m a) ∧ tpr o.2.2.2.2.1 = tpr t := by
  have ha' : ix_g (ix_g t 0).2.2 11 = .inl a := ha
  refine gd_ex (Q := fun o => o.2.2.1 = [.inl (enr m a)] ∧ K2 o.2.2.2.1 o.2.2.2.2.1 ∧ tpc o.2.2.2.2.1 = .inl (ent m a) ∧ tpr o.2.2.2.2.1 = tpr t) (show ix_tbl O 45 = some (ix_cX11_end O, 2) from rfl) (fun c hc => ?_) e
  unfold enr ent enq
  have no : ∀ B st, gd (ix_cX11_end O c) 12 (B, [some (.inr (.inr (.inl 1))), some (.inl m)], st, n, t, 0, 0) (fun o => o.2.2.1 = [.inl 4294967295] ∧ K2 o.2.2.2.1 o.2.2.2.2.1 ∧ tpc o.2.2.2.2.1 = .inl a ∧ tpr o.2.2.2.2.1 = tpr t) := fun B st => by
    refine gd_s (r := ix_push 13 (ix_vI 4294967295)) (by decide) rfl (fun outs e => gp_push e) ?_
    refine gd_s (r := ix_ret ix_isInt) (by decide) rfl (fun outs e => gp_ret e) ?_
    exact gd_ends ⟨rfl, hk, ha, rfl⟩
  refine gd_s (r := ix_load ix_isInt 1 1) (by decide) rfl (fun outs e => gp_load e rfl) ?_
  refine gd_s (r := ix_if true false false 12 4) (by decide) rfl (fun outs e => gp_ifl e) ?_
  cases h1 : Nat.blt (ix_bias m) (ix_bias 0) with
  | true => exact no _ _
  | false =>
    show gd _ 4 _ _
    refine gd_s (r := ix_load ix_isInt 1 5) (by decide) rfl (fun outs e => gp_load e rfl) ?_
    refine gd_s (r := ix_load ix_isRef 0 6) (by decide) rfl (fun outs e => gp_load e rfl) ?_
    refine gd_s (r := ix_getf 111 11 9) (by decide) rfl (fun outs e => gp_getf e) ?_
    rw [ha']
    refine gd_s (r := ix_icmp true true true 14 12) (by decide) rfl (fun outs e => gp_cmps e) ?_
    cases h2 : Nat.blt (ix_bias a) (ix_bias m) with
    | true => exact no _ _
    | false =>
      show gd _ 14 _ _
      refine gd_s (r := ix_load ix_isRef 0 15) (by decide) rfl (fun outs e => gp_load e rfl) ?_
      refine gd_s (r := ix_load ix_isInt 1 16) (by decide) rfl (fun outs e => gp_load e rfl) ?_
      refine gd_s (r := ix_putf 111 11 19 ix_isInt) (by decide) rfl (fun outs e => gp_putf e) ?_
      refine gd_s (r := ix_load ix_isInt 1 20) (by decide) rfl (fun outs e => gp_load e rfl) ?_
      refine gd_s (r := ix_ret ix_isInt) (by decide) rfl (fun outs e => gp_ret e) ?_
      exact gd_ends ⟨rfl, hk.fld (Or.inl rfl), tpc_0, tpr_0⟩

theorem wr_X12_lies {g d m a : Nat} {outs : List ix_S} (e : ix_exec (ix_tbl O) ty_no g (d + 1) 150 [.inl m, .inl 0, .inl a] B n t = some outs) : ∀ o ∈ outs, o.2.2.1 = [.inl (cond (enq m a) 1 0)] ∧ o.2.2.2.1 = n ∧ o.2.2.2.2.1 = t := by
  refine gd_ex (Q := fun o => o.2.2.1 = [.inl (cond (enq m a) 1 0)] ∧ o.2.2.2.1 = n ∧ o.2.2.2.2.1 = t) (show ix_tbl O 150 = some (ix_cX12_lies O, 3) from rfl) (fun c hc => ?_) e
  unfold enq
  have no : ∀ B st, gd (ix_cX12_lies O c) 14 (B, [some (.inl m), some (.inl 0), some (.inl a)], st, n, t, 0, 0) (fun o => o.2.2.1 = [.inl 0] ∧ o.2.2.2.1 = n ∧ o.2.2.2.2.1 = t) := fun B st => by
    refine gd_s (r := ix_push 15 (ix_vI 0)) (by decide) rfl (fun outs e => gp_push e) ?_
    refine gd_s (r := ix_ret ix_isBit) (by decide) rfl (fun outs e => gp_ret e) ?_
    exact gd_ends ⟨rfl, rfl, rfl⟩
  refine gd_s (r := ix_load ix_isInt 0 1) (by decide) rfl (fun outs e => gp_load e rfl) ?_
  refine gd_s (r := ix_load ix_isInt 1 2) (by decide) rfl (fun outs e => gp_load e rfl) ?_
  refine gd_s (r := ix_icmp true false false 14 5) (by decide) rfl (fun outs e => gp_cmp e) ?_
  cases h1 : Nat.blt (ix_bias m) (ix_bias 0) with
  | true => exact no _ _
  | false =>
    show gd _ 5 _ _
    refine gd_s (r := ix_load ix_isInt 0 6) (by decide) rfl (fun outs e => gp_load e rfl) ?_
    refine gd_s (r := ix_load ix_isInt 2 7) (by decide) rfl (fun outs e => gp_load e rfl) ?_
    refine gd_s (r := ix_icmp true false true 14 10) (by decide) rfl (fun outs e => gp_cmps e) ?_
    cases h2 : Nat.blt (ix_bias a) (ix_bias m) with
    | true => exact no _ _
    | false =>
      show gd _ 10 _ _
      refine gd_s (r := ix_push 11 (ix_vI 1)) (by decide) rfl (fun outs e => gp_push e) ?_
      refine gd_s (r := ix_goto 15) (by decide) rfl (fun outs e => gp_goto e) ?_
      refine gd_s (r := ix_ret ix_isBit) (by decide) rfl (fun outs e => gp_ret e) ?_
      exact gd_ends ⟨rfl, rfl, rfl⟩

theorem wr_X12_end {g d m a : Nat} {outs : List ix_S} (hk : K2 n t) (ha : tpr t = .inl a) (e : ix_exec (ix_tbl O) ty_no g (d + 1) 113 [.inr (.inr (.inl 80)), .inl m] B n t = some outs) : ∀ o ∈ outs, o.2.2.1 = [.inl (enr m a)] ∧ K2 o.2.2.2.1 o.2.2.2.2.1 ∧ tpr o.2.2.2.2.1 = .inl (ent m a) ∧ tpc o.2.2.2.2.1 = tpc t := by
  have ha' : ix_g (ix_g t 79).2.2 17 = .inl a := ha
  refine gd_ex (Q := fun o => o.2.2.1 = [.inl (enr m a)] ∧ K2 o.2.2.2.1 o.2.2.2.2.1 ∧ tpr o.2.2.2.2.1 = .inl (ent m a) ∧ tpc o.2.2.2.2.1 = tpc t) (show ix_tbl O 113 = some (ix_cX12_end O, 2) from rfl) (fun c hc => ?_) e
  refine gd_s (r := ix_load ix_isInt 1 1) (by decide) rfl (fun outs e => gp_load e rfl) ?_
  refine gd_s (r := ix_push 2 (ix_vI 0)) (by decide) rfl (fun outs e => gp_push e) ?_
  refine gd_s (r := ix_load ix_isRef 0 3) (by decide) rfl (fun outs e => gp_load e rfl) ?_
  refine gd_s (r := ix_getf 112 17 6) (by decide) rfl (fun outs e => gp_getf e) ?_
  rw [ha']
  refine gd_callx (R := fun o => o.2.2.1 = [.inl (cond (enq m a) 1 0)] ∧ o.2.2.2.1 = n ∧ o.2.2.2.2.1 = t) (by decide) (show ix_cX12_end O c 6 = ix_call ix_any3 c 3 150 0 0 0 0 9 from rfl) rfl (fun outs e o ho => ?_) (fun o w hR => ?_)
  · rw [hc] at e
    cases d with
    | zero => exact fr_nn e
    | succ d => exact wr_X12_lies e o ho
  · rw [hR.1, hR.2.1, hR.2.2]
    show gd _ 9 (_, _, [.inl (cond (enq m a) 1 0)], n, t, w) _
    unfold enr ent
    cases enq m a with
    | false =>
      show gd _ 9 (_, _, [.inl 0], n, t, w) _
      refine gd_s (r := ix_if false true false 14 12) (by decide) rfl (fun outs e => gp_ifz e) ?_
      refine gd_s (r := ix_push 13 (ix_vI 4294967295)) (by decide) rfl (fun outs e => gp_push e) ?_
      refine gd_s (r := ix_ret ix_isInt) (by decide) rfl (fun outs e => gp_ret e) ?_
      exact gd_ends ⟨rfl, hk, ha, rfl⟩
    | true =>
      show gd _ 9 (_, _, [.inl 1], n, t, w) _
      refine gd_s (r := ix_if false true false 14 12) (by decide) rfl (fun outs e => gp_ifz e) ?_
      refine gd_s (r := ix_load ix_isRef 0 15) (by decide) rfl (fun outs e => gp_load e rfl) ?_
      refine gd_s (r := ix_load ix_isInt 1 16) (by decide) rfl (fun outs e => gp_load e rfl) ?_
      refine gd_s (r := ix_putf 112 17 19 ix_isInt) (by decide) rfl (fun outs e => gp_putf e) ?_
      refine gd_s (r := ix_load ix_isInt 1 20) (by decide) rfl (fun outs e => gp_load e rfl) ?_
      refine gd_s (r := ix_ret ix_isInt) (by decide) rfl (fun outs e => gp_ret e) ?_
      exact gd_ends ⟨rfl, hk.fld (Or.inr rfl), tpr_79, tpc_79⟩

/-- the class's tape lies where it lies -/
def K3 (n : Nat) (t : ix_T) : Prop := K2 n t ∧ ix_g (ix_g t 0).2.2 2 = .inr (.inr (.inl 18)) ∧ (ix_g t 17).2.1 = 400
theorem k3_st {m : Nat} {v : ix_V} (h : K3 n t) : K3 n (pl_set 17 m v t) ∧ tpc (pl_set 17 m v t) = tpc t ∧ tpr (pl_set 17 m v t) = tpr t := by
  obtain ⟨⟨k1, k2, k3, k4⟩, k5, k6⟩ := h
  have o : ∀ j, j < 16384 → ¬ j = 17 → ix_g (pl_set 17 m v t) j = ix_g t j := fun j hj hn => pl_set_o (by decide) hj hn
  refine ⟨⟨⟨k1, k2, ?_, ?_⟩, ?_, ?_⟩, ?_, ?_⟩
  · rw [o 0 (by decide) (by decide)]; exact k3
  · rw [o 79 (by decide) (by decide)]; exact k4
  · rw [o 0 (by decide) (by decide)]; exact k5
  · rw [pl_set_s (by decide)]; exact k6
  · unfold tpc; rw [o 0 (by decide) (by decide)]
  · unfold tpr; rw [o 79 (by decide) (by decide)]
theorem K3.f11 {v : ix_V} (h : K3 n t) : K3 n (pl_fld 0 11 v t) := by
  obtain ⟨k0, k5, k6⟩ := h
  refine ⟨k0.fld (Or.inl rfl), ?_, ?_⟩
  · rw [pl_fld_g (by decide) (by decide) (by decide), if_neg (by decide)]; exact k5
  · rw [pl_fld_o (by decide) (by decide) (by decide)]; exact k6
theorem ap_body {c : ix_Call} {a m s s' : Nat} {w : Nat × Nat} (hk : K3 n t) (ha : tpc t = .inl a) (ha4 : a < 400) (hs : Nat.blt (ix_bias s) (ix_bias 0) = false) (hs' : ix_add s 4294967288 = s') (k : ∀ B t', K3 n t' → tpc t' = .inl (a + 1) → tpr t' = tpr t → gd (ix_cX11_append O c) 3 (B, [some (.inr (.inr (.inl 1))), some (.inl m), some (.inl s')], [], n, t', w) Q) : gd (ix_cX11_append O c) 3 (B, [some (.inr (.inr (.inl 1))), some (.inl m), some (.inl s)], [], n, t, w) Q := by
  have ha' : ix_g (ix_g t 0).2.2 11 = .inl a := ha
  have h17 : 17 < n := by have := hk.1.2.1; omega
  have hb0 : Nat.blt (ix_bias a) (ix_bias 0) = false := by
    rw [pl_bias (show a < 2147483648 by omega), pl_bias (show 0 < 2147483648 by decide)]
    exact ix_blt_f.mpr (by omega)
  have hb4 : Nat.blt (ix_bias a) (ix_bias 400) = true := by
    rw [pl_bias (show a < 2147483648 by omega), pl_bias (show 400 < 2147483648 by decide)]
    exact ix_blt.mpr (by omega)
  refine gd_s (r := ix_load ix_isInt 2 4) (by decide) rfl (fun outs e => gp_load e rfl) ?_
  refine gd_s (r := ix_if true false false 58 7) (by decide) rfl (fun outs e => gp_ifl e) ?_
  rw [hs]
  show gd _ 7 _ _
  refine gd_s (r := ix_load ix_isRef 0 8) (by decide) rfl (fun outs e => gp_load e rfl) ?_
  refine gd_s (r := ix_getf 111 11 11) (by decide) rfl (fun outs e => gp_getf e) ?_
  rw [ha']
  refine gd_s (r := ix_if true false false 52 14) (by decide) rfl (fun outs e => gp_ifl e) ?_
  rw [hb0]
  show gd _ 14 _ _
  refine gd_s (r := ix_load ix_isRef 0 15) (by decide) rfl (fun outs e => gp_load e rfl) ?_
  refine gd_s (r := ix_getf 111 11 18) (by decide) rfl (fun outs e => gp_getf e) ?_
  rw [ha']
  refine gd_s (r := ix_load ix_isRef 0 19) (by decide) rfl (fun outs e => gp_load e rfl) ?_
  refine gd_s (r := ix_getf 111 2 22) (by decide) rfl (fun outs e => gp_getf e) ?_
  rw [hk.2.1]
  refine gd_s (r := ix_alen O 23) (by decide) rfl (fun outs e => gp_alen e h17) ?_
  rw [hk.2.2]
  refine gd_s (r := ix_icmp true true false 52 26) (by decide) rfl (fun outs e => gp_cmp e) ?_
  rw [hb4]
  show gd _ 26 _ _
  refine gd_s (r := ix_load ix_isRef 0 27) (by decide) rfl (fun outs e => gp_load e rfl) ?_
  refine gd_s (r := ix_getf 111 2 30) (by decide) rfl (fun outs e => gp_getf e) ?_
  rw [hk.2.1]
  refine gd_s (r := ix_load ix_isRef 0 31) (by decide) rfl (fun outs e => gp_load e rfl) ?_
  refine gd_s (r := ix_getf 111 11 34) (by decide) rfl (fun outs e => gp_getf e) ?_
  rw [ha']
  refine gd_s (r := ix_load ix_isInt 1 35) (by decide) rfl (fun outs e => gp_load e rfl) ?_
  refine gd_s (r := ix_load ix_isInt 2 36) (by decide) rfl (fun outs e => gp_load e rfl) ?_
  refine gd_s (r := ix_ibin (ix_s2 ix_jshr) 36 37) (by decide) rfl (fun outs e => gp_ibin e) ?_
  refine gd_s (r := ix_push 40 (ix_vI 255)) (by decide) rfl (fun outs e => gp_push e) ?_
  refine gd_s (r := ix_ibin Nat.land 40 41) (by decide) rfl (fun outs e => gp_ibin e) ?_
  refine gd_s (r := ix_ast 0 0 41 42 ix_nar ix_isInt) (by decide) rfl (fun outs e => (gp_ast e).1) ?_
  obtain ⟨q1, q2, q3⟩ := k3_st hk (m := a) (v := ix_nar (ix_g t 17).1 (.inl (Nat.land (ix_s2 ix_jshr m s) 255)))
  have q4 := q2.trans ha
  have q4' : ix_g (ix_g (pl_set 17 a (ix_nar (ix_g t 17).1 (.inl (Nat.land (ix_s2 ix_jshr m s) 255))) t) 0).2.2 11 = .inl a := q4
  refine gd_s (r := ix_load ix_isRef 0 43) (by decide) rfl (fun outs e => gp_load e rfl) ?_
  refine gd_s (r := ix_dup 44) (by decide) rfl (fun outs e => gp_dup e) ?_
  refine gd_s (r := ix_getf 111 11 47) (by decide) rfl (fun outs e => gp_getf e) ?_
  rw [q4']
  refine gd_s (r := ix_push 48 (ix_vI 1)) (by decide) rfl (fun outs e => gp_push e) ?_
  refine gd_s (r := ix_iadd 49) (by decide) rfl (fun outs e => gp_iadd e) ?_
  refine gd_s (r := ix_putf 111 11 52 ix_isInt) (by decide) rfl (fun outs e => gp_putf e) ?_
  refine gd_s (r := ix_iinc 2 4294967288 55) (by decide) rfl (fun outs e => gp_iinc e rfl) ?_
  refine gd_s (r := ix_goto 3) (by decide) rfl (fun outs e => gp_goto e) ?_
  rw [hs', pl_add (show a + 1 < 4294967296 by omega)]
  exact k _ _ q1.f11 tpc_0 (tpr_0.trans q3)
theorem wr_X11_append {g d a m : Nat} {outs : List ix_S} (hk : K3 n t) (ha : tpc t = .inl a) (ha4 : a + 4 ≤ 400) (e : ix_exec (ix_tbl O) ty_no g (d + 1) 33 [.inr (.inr (.inl 1)), .inl m] B n t = some outs) : ∀ o ∈ outs, o.2.2.2.1 = n ∧ K3 n o.2.2.2.2.1 ∧ tpc o.2.2.2.2.1 = .inl (a + 4) ∧ tpr o.2.2.2.2.1 = tpr t := by
  refine gd_ex (Q := fun o => o.2.2.2.1 = n ∧ K3 n o.2.2.2.2.1 ∧ tpc o.2.2.2.2.1 = .inl (a + 4) ∧ tpr o.2.2.2.2.1 = tpr t) (show ix_tbl O 33 = some (ix_cX11_append O, 3) from rfl) (fun c hc => ?_) e
  refine gd_s (r := ix_push 2 (ix_vI 24)) (by decide) rfl (fun outs e => gp_push e) ?_
  refine gd_s (r := ix_store ix_isInt 2 3) (by decide) rfl (fun outs e => gp_store e) ?_
  refine ap_body (s := 24) (s' := 16) hk ha (by omega) (by decide) (by decide) (fun B t1 k1 a1 b1 => ?_)
  refine ap_body (s := 16) (s' := 8) k1 a1 (by omega) (by decide) (by decide) (fun B t2 k2 a2 b2 => ?_)
  refine ap_body (s := 8) (s' := 0) k2 a2 (by omega) (by decide) (by decide) (fun B t3 k3 a3 b3 => ?_)
  refine ap_body (s := 0) (s' := 4294967288) k3 a3 (by omega) (by decide) (by decide) (fun B t4 k4 a4 b4 => ?_)
  refine gd_s (r := ix_load ix_isInt 2 4) (by decide) rfl (fun outs e => gp_load e rfl) ?_
  refine gd_s (r := ix_if true false false 58 7) (by decide) rfl (fun outs e => gp_ifl e) ?_
  rw [show Nat.blt (ix_bias 4294967288) (ix_bias 0) = true by decide]
  show gd _ 58 _ _
  refine gd_s (r := ix_retv) (by decide) rfl (fun outs e => gp_retv e) ?_
  exact gd_ends ⟨rfl, k4, a4, b4.trans (b3.trans (b2.trans b1))⟩

/-- is there no room -/
noncomputable def fdq (a : Nat) : Bool := Nat.blt (ix_bias 400) (ix_bias (ix_add a 20))
theorem fdq_y {a : Nat} (ha : a ≤ 400) (h : fdq a = false) : a + 20 ≤ 400 := by
  unfold fdq at h
  rw [pl_add (by omega), pl_bias (by decide), pl_bias (by omega)] at h
  have := ix_blt_f.mp h
  omega
theorem wr_X11_feed {g d a v1 v2 v3 v4 v5 : Nat} {outs : List ix_S} (hk : K3 n t) (ha : tpc t = .inl a) (ha4 : a ≤ 400) (e : ix_exec (ix_tbl O) ty_no g (d + 1) 48 [.inr (.inr (.inl 1)), .inl v1, .inl v2, .inl v3, .inl v4, .inl v5] B n t = some outs) : ∀ o ∈ outs, o.2.2.1 = [.inl (cond (fdq a) 4294967295 (a + 20))] ∧ K2 o.2.2.2.1 o.2.2.2.2.1 ∧ tpc o.2.2.2.2.1 = .inl (cond (fdq a) a (a + 20)) ∧ tpr o.2.2.2.2.1 = tpr t := by
  have ha' : ix_g (ix_g t 0).2.2 11 = .inl a := ha
  refine gd_ex (Q := fun o => o.2.2.1 = [.inl (cond (fdq a) 4294967295 (a + 20))] ∧ K2 o.2.2.2.1 o.2.2.2.2.1 ∧ tpc o.2.2.2.2.1 = .inl (cond (fdq a) a (a + 20)) ∧ tpr o.2.2.2.2.1 = tpr t) (show ix_tbl O 48 = some (ix_cX11_feed O, 6) from rfl) (fun c hc => ?_) e
  refine gd_s (r := ix_load ix_isRef 0 1) (by decide) rfl (fun outs e => gp_load e rfl) ?_
  refine gd_s (r := ix_getf 111 11 4) (by decide) rfl (fun outs e => gp_getf e) ?_
  rw [ha']
  refine gd_s (r := ix_push 6 (ix_vI 20)) (by decide) rfl (fun outs e => gp_push e) ?_
  refine gd_s (r := ix_iadd 7) (by decide) rfl (fun outs e => gp_iadd e) ?_
  refine gd_s (r := ix_push 10 (ix_vI 400)) (by decide) rfl (fun outs e => gp_push e) ?_
  refine gd_s (r := ix_icmp true true true 15 13) (by decide) rfl (fun outs e => gp_cmps e) ?_
  cases hq : fdq a with
  | true =>
    rw [show Nat.blt (ix_bias 400) (ix_bias (ix_add a 20)) = true from hq]
    show gd _ 13 _ _
    refine gd_s (r := ix_push 14 (ix_vI 4294967295)) (by decide) rfl (fun outs e => gp_push e) ?_
    refine gd_s (r := ix_ret ix_isInt) (by decide) rfl (fun outs e => gp_ret e) ?_
    exact gd_ends ⟨rfl, hk.1, ha, rfl⟩
  | false =>
    have h20 := fdq_y ha4 hq
    rw [show Nat.blt (ix_bias 400) (ix_bias (ix_add a 20)) = false from hq]
    show gd _ 15 _ _
    have ap : ∀ {a : Nat} {t1 : ix_T} {m : Nat} {B : ix_B} {outs : List ix_S}, K3 n t1 → tpc t1 = .inl a → a + 4 ≤ 400 → c 33 [.inr (.inr (.inl 1)), .inl m] B n t1 = some outs → ∀ o ∈ outs, o.2.2.2.1 = n ∧ K3 n o.2.2.2.2.1 ∧ tpc o.2.2.2.2.1 = .inl (a + 4) ∧ tpr o.2.2.2.2.1 = tpr t1 := fun h1 h2 h3 e o ho => by
      rw [hc] at e
      cases d with
      | zero => exact fr_nn e
      | succ d => exact wr_X11_append h1 h2 h3 e o ho
    refine gd_s (r := ix_load ix_isRef 0 16) (by decide) rfl (fun outs e => gp_load e rfl) ?_
    refine gd_s (r := ix_load ix_isInt 1 17) (by decide) rfl (fun outs e => gp_load e rfl) ?_
    refine gd_callx (R := fun o => o.2.2.2.1 = n ∧ K3 n o.2.2.2.2.1 ∧ tpc o.2.2.2.2.1 = .inl (a + 4) ∧ tpr o.2.2.2.2.1 = tpr t) (by decide) (show ix_cX11_feed O c 17 = ix_call (ix_rcv 111) c 2 33 0 0 0 0 20 from rfl) rfl (fun outs e o ho => ap hk ha (by omega) e o ho) (fun o0 w0 r0 => ?_)
    rw [r0.1]
    refine gd_s (r := ix_load ix_isRef 0 21) (by decide) rfl (fun outs e => gp_load e rfl) ?_
    refine gd_s (r := ix_load ix_isInt 2 22) (by decide) rfl (fun outs e => gp_load e rfl) ?_
    refine gd_callx (R := fun o => o.2.2.2.1 = n ∧ K3 n o.2.2.2.2.1 ∧ tpc o.2.2.2.2.1 = .inl (a + 4 + 4) ∧ tpr o.2.2.2.2.1 = tpr o0.2.2.2.2.1) (by decide) (show ix_cX11_feed O c 22 = ix_call (ix_rcv 111) c 2 33 0 0 0 0 25 from rfl) rfl (fun outs e o ho => ap r0.2.1 r0.2.2.1 (by omega) e o ho) (fun o1 w1 r1 => ?_)
    rw [r1.1]
    refine gd_s (r := ix_load ix_isRef 0 26) (by decide) rfl (fun outs e => gp_load e rfl) ?_
    refine gd_s (r := ix_load ix_isInt 3 27) (by decide) rfl (fun outs e => gp_load e rfl) ?_
    refine gd_callx (R := fun o => o.2.2.2.1 = n ∧ K3 n o.2.2.2.2.1 ∧ tpc o.2.2.2.2.1 = .inl (a + 4 + 4 + 4) ∧ tpr o.2.2.2.2.1 = tpr o1.2.2.2.2.1) (by decide) (show ix_cX11_feed O c 27 = ix_call (ix_rcv 111) c 2 33 0 0 0 0 30 from rfl) rfl (fun outs e o ho => ap r1.2.1 r1.2.2.1 (by omega) e o ho) (fun o2 w2 r2 => ?_)
    rw [r2.1]
    refine gd_s (r := ix_load ix_isRef 0 31) (by decide) rfl (fun outs e => gp_load e rfl) ?_
    refine gd_s (r := ix_load ix_isInt 4 33) (by decide) rfl (fun outs e => gp_load e rfl) ?_
    refine gd_callx (R := fun o => o.2.2.2.1 = n ∧ K3 n o.2.2.2.2.1 ∧ tpc o.2.2.2.2.1 = .inl (a + 4 + 4 + 4 + 4) ∧ tpr o.2.2.2.2.1 = tpr o2.2.2.2.2.1) (by decide) (show ix_cX11_feed O c 33 = ix_call (ix_rcv 111) c 2 33 0 0 0 0 36 from rfl) rfl (fun outs e o ho => ap r2.2.1 r2.2.2.1 (by omega) e o ho) (fun o3 w3 r3 => ?_)
    rw [r3.1]
    refine gd_s (r := ix_load ix_isRef 0 37) (by decide) rfl (fun outs e => gp_load e rfl) ?_
    refine gd_s (r := ix_load ix_isInt 5 39) (by decide) rfl (fun outs e => gp_load e rfl) ?_
    refine gd_callx (R := fun o => o.2.2.2.1 = n ∧ K3 n o.2.2.2.2.1 ∧ tpc o.2.2.2.2.1 = .inl (a + 4 + 4 + 4 + 4 + 4) ∧ tpr o.2.2.2.2.1 = tpr o3.2.2.2.2.1) (by decide) (show ix_cX11_feed O c 39 = ix_call (ix_rcv 111) c 2 33 0 0 0 0 42 from rfl) rfl (fun outs e o ho => ap r3.2.1 r3.2.2.1 (by omega) e o ho) (fun o4 w4 r4 => ?_)
    rw [r4.1]
    rw [show a + 4 + 4 + 4 + 4 + 4 = a + 20 by omega] at r4
    have e11 : ix_g (ix_g o4.2.2.2.2.1 0).2.2 11 = .inl (a + 20) := r4.2.2.1
    refine gd_s (r := ix_load ix_isRef 0 43) (by decide) rfl (fun outs e => gp_load e rfl) ?_
    refine gd_s (r := ix_getf 111 11 46) (by decide) rfl (fun outs e => gp_getf e) ?_
    rw [e11]
    refine gd_s (r := ix_ret ix_isInt) (by decide) rfl (fun outs e => gp_ret e) ?_
    exact gd_ends ⟨rfl, r4.2.1.1, r4.2.2.1, r4.2.2.2.trans (r3.2.2.2.trans (r2.2.2.2.trans (r1.2.2.2.trans r0.2.2.2)))⟩

/-- where the reference's tape lies -/
def K4 (n : Nat) (t : ix_T) : Prop := K2 n t ∧ ix_g (ix_g t 79).2.2 15 = .inr (.inr (.inl 89)) ∧ ix_g (ix_g t 79).2.2 16 = .inr (.inr (.inl 90)) ∧ 89 < n ∧ (ix_g t 89).1 = 0 ∧ (ix_g t 89).2.1 ≤ 16384 ∧ ∀ j, j < (ix_g t 89).2.1 → ∃ z, ix_g (ix_g t 89).2.2 j = .inl z
theorem K4.s88 {m : Nat} {v : ix_V} (h : K4 n t) : K4 n (pl_set 88 m v t) ∧ tpc (pl_set 88 m v t) = tpc t ∧ tpr (pl_set 88 m v t) = tpr t := by
  obtain ⟨⟨k1, k2, k3, k4⟩, k5, k6, k7, k8, k9, k10⟩ := h
  have o : ∀ j, j < 16384 → ¬ j = 88 → ix_g (pl_set 88 m v t) j = ix_g t j := fun j hj hn => pl_set_o (by decide) hj hn
  unfold K4 K2 tpc tpr
  rw [o 0 (by decide) (by decide), o 79 (by decide) (by decide), o 89 (by decide) (by decide)]
  exact ⟨⟨⟨k1, k2, k3, k4⟩, k5, k6, k7, k8, k9, k10⟩, rfl, rfl⟩
theorem K4.s89 {m v : Nat} (h : K4 n t) (hm : m < (ix_g t 89).2.1) : K4 n (pl_set 89 m (.inl v) t) ∧ tpc (pl_set 89 m (.inl v) t) = tpc t ∧ tpr (pl_set 89 m (.inl v) t) = tpr t := by
  obtain ⟨⟨k1, k2, k3, k4⟩, k5, k6, k7, k8, k9, k10⟩ := h
  have o : ∀ j, j < 16384 → ¬ j = 89 → ix_g (pl_set 89 m (.inl v) t) j = ix_g t j := fun j hj hn => pl_set_o (by decide) hj hn
  have s1 : (ix_g (pl_set 89 m (.inl v) t) 89).1 = (ix_g t 89).1 := by rw [pl_set_s (by decide)]
  have s2 : (ix_g (pl_set 89 m (.inl v) t) 89).2.1 = (ix_g t 89).2.1 := by rw [pl_set_s (by decide)]
  have s3 : ∀ j, j < (ix_g t 89).2.1 → ∃ z, ix_g (ix_g (pl_set 89 m (.inl v) t) 89).2.2 j = .inl z := fun j hj => by
    rw [pl_set_g (by decide) k9 hm hj]
    by_cases q : j = m
    · rw [if_pos q]; exact ⟨v, rfl⟩
    · rw [if_neg q]; exact k10 j hj
  unfold K4 K2 tpc tpr
  rw [o 0 (by decide) (by decide), o 79 (by decide) (by decide), s1, s2]
  exact ⟨⟨⟨k1, k2, k3, k4⟩, k5, k6, k7, k8, k9, s3⟩, rfl, rfl⟩
theorem fd_body {c : ix_Call} {a k v1 v2 v3 v4 v5 : Nat} {w : Nat × Nat} (hk : K4 n t) (ha : tpr t = .inl a) (hk20 : k < 20) (kk : ∀ B t', K4 n t' → tpc t' = tpc t → tpr t' = tpr t → gd (ix_cX12_feed O c) 55 (B, [some (.inr (.inr (.inl 80))), some (.inl v1), some (.inl v2), some (.inl v3), some (.inl v4), some (.inl v5), some (.inl (k + 1))], [], n, t', w) Q) : gd (ix_cX12_feed O c) 55 (B, [some (.inr (.inr (.inl 80))), some (.inl v1), some (.inl v2), some (.inl v3), some (.inl v4), some (.inl v5), some (.inl k)], [], n, t, w) Q := by
  have ha' : ix_g (ix_g t 79).2.2 17 = .inl a := ha
  have hb : Nat.blt (ix_bias k) (ix_bias 20) = true := by
    rw [pl_bias (show k < 2147483648 by omega), pl_bias (show 20 < 2147483648 by decide)]
    exact ix_blt.mpr (by omega)
  refine gd_s (r := ix_load ix_isInt 6 57) (by decide) rfl (fun outs e => gp_load e rfl) ?_
  refine gd_s (r := ix_push 59 (ix_vI 20)) (by decide) rfl (fun outs e => gp_push e) ?_
  refine gd_s (r := ix_icmp true true false 101 62) (by decide) rfl (fun outs e => gp_cmp e) ?_
  rw [hb]
  show gd _ 62 _ _
  refine gd_s (r := ix_load ix_isRef 0 63) (by decide) rfl (fun outs e => gp_load e rfl) ?_
  refine gd_s (r := ix_getf 112 15 66) (by decide) rfl (fun outs e => gp_getf e) ?_
  rw [hk.2.1]
  refine gd_s (r := ix_load ix_isRef 0 67) (by decide) rfl (fun outs e => gp_load e rfl) ?_
  refine gd_s (r := ix_getf 112 17 70) (by decide) rfl (fun outs e => gp_getf e) ?_
  rw [ha']
  refine gd_s (r := ix_load ix_isInt 6 72) (by decide) rfl (fun outs e => gp_load e rfl) ?_
  refine gd_s (r := ix_iadd 73) (by decide) rfl (fun outs e => gp_iadd e) ?_
  refine gd_s (r := ix_load ix_isRef 0 74) (by decide) rfl (fun outs e => gp_load e rfl) ?_
  refine gd_s (r := ix_getf 112 16 77) (by decide) rfl (fun outs e => gp_getf e) ?_
  rw [hk.2.2.1]
  refine gd_s (r := ix_load ix_isInt 6 79) (by decide) rfl (fun outs e => gp_load e rfl) ?_
  refine gd_s (r := ix_push 80 (ix_vI 4)) (by decide) rfl (fun outs e => gp_push e) ?_
  refine gd_s (r := ix_idiv ix_div 80 81) (by decide) rfl (fun outs e => gp_idiv e) ?_
  refine gd_x (r := ix_iald O 81 82) (by decide) rfl (fun outs e => ?_)
  obtain ⟨z, hz⟩ := gp_iald hk.2.2.2.1 hk.2.2.2.2.2.2 e
  refine ⟨_, _, hz, ?_⟩
  refine gd_s (r := ix_push 84 (ix_vI 24)) (by decide) rfl (fun outs e => gp_push e) ?_
  refine gd_s (r := ix_push 86 (ix_vI 8)) (by decide) rfl (fun outs e => gp_push e) ?_
  refine gd_s (r := ix_load ix_isInt 6 88) (by decide) rfl (fun outs e => gp_load e rfl) ?_
  refine gd_s (r := ix_push 89 (ix_vI 4)) (by decide) rfl (fun outs e => gp_push e) ?_
  refine gd_s (r := ix_idiv ix_rem 89 90) (by decide) rfl (fun outs e => gp_idiv e) ?_
  refine gd_s (r := ix_ibin ix_mul 90 91) (by decide) rfl (fun outs e => gp_ibin e) ?_
  refine gd_s (r := ix_isub 92) (by decide) rfl (fun outs e => gp_isub e) ?_
  refine gd_s (r := ix_ibin (ix_s2 ix_jshr) 92 93) (by decide) rfl (fun outs e => gp_ibin e) ?_
  refine gd_s (r := ix_iun (ix_s1 ix_ji2b) 94) (by decide) rfl (fun outs e => gp_iun e) ?_
  refine gd_s (r := ix_ast 1 2 94 95 ix_nar ix_isInt) (by decide) rfl (fun outs e => (gp_ast e).1) ?_
  refine gd_s (r := ix_iinc 6 1 98) (by decide) rfl (fun outs e => gp_iinc e rfl) ?_
  refine gd_s (r := ix_goto 55) (by decide) rfl (fun outs e => gp_goto e) ?_
  rw [pl_add (show k + 1 < 4294967296 by omega)]
  exact kk _ _ hk.s88.1 hk.s88.2.1 hk.s88.2.2
theorem fd_loop {c : ix_Call} {a v1 v2 v3 v4 v5 : Nat} {w : Nat × Nat} (tc tr : ix_V) (ht : tr = .inl a) (kk : ∀ B t', K4 n t' → tpc t' = tc → tpr t' = tr → gd (ix_cX12_feed O c) 55 (B, [some (.inr (.inr (.inl 80))), some (.inl v1), some (.inl v2), some (.inl v3), some (.inl v4), some (.inl v5), some (.inl 20)], [], n, t', w) Q) : ∀ (j k : Nat) (B : ix_B) (t : ix_T), k + j = 20 → K4 n t → tpc t = tc → tpr t = tr → gd (ix_cX12_feed O c) 55 (B, [some (.inr (.inr (.inl 80))), some (.inl v1), some (.inl v2), some (.inl v3), some (.inl v4), some (.inl v5), some (.inl k)], [], n, t, w) Q
  | 0, k, B, t, h, h1, h2, h3 => by
    have e : k = 20 := by omega
    subst e
    exact kk B t h1 h2 h3
  | j + 1, k, B, t, h, h1, h2, h3 => fd_body h1 (h3.trans ht) (by omega) (fun B t' q1 q2 q3 => fd_loop tc tr ht kk j (k + 1) B t' (by omega) q1 (q2.trans h2) (q3.trans h3))
theorem wr_X12_feed {g d a v1 v2 v3 v4 v5 : Nat} {outs : List ix_S} (hk : K4 n t) (ha : tpr t = .inl a) (ha4 : a ≤ 400) (e : ix_exec (ix_tbl O) ty_no g (d + 1) 117 [.inr (.inr (.inl 80)), .inl v1, .inl v2, .inl v3, .inl v4, .inl v5] B n t = some outs) : ∀ o ∈ outs, o.2.2.1 = [.inl (cond (fdq a) 4294967295 (a + 20))] ∧ K2 o.2.2.2.1 o.2.2.2.2.1 ∧ tpr o.2.2.2.2.1 = .inl (cond (fdq a) a (a + 20)) ∧ tpc o.2.2.2.2.1 = tpc t := by
  have ha' : ix_g (ix_g t 79).2.2 17 = .inl a := ha
  refine gd_ex (Q := fun o => o.2.2.1 = [.inl (cond (fdq a) 4294967295 (a + 20))] ∧ K2 o.2.2.2.1 o.2.2.2.2.1 ∧ tpr o.2.2.2.2.1 = .inl (cond (fdq a) a (a + 20)) ∧ tpc o.2.2.2.2.1 = tpc t) (show ix_tbl O 117 = some (ix_cX12_feed O, 7) from rfl) (fun c hc => ?_) e
  clear e
  refine gd_s (r := ix_load ix_isRef 0 1) (by decide) rfl (fun outs e => gp_load e rfl) ?_
  refine gd_s (r := ix_getf 112 17 4) (by decide) rfl (fun outs e => gp_getf e) ?_
  rw [ha']
  refine gd_s (r := ix_push 6 (ix_vI 20)) (by decide) rfl (fun outs e => gp_push e) ?_
  refine gd_s (r := ix_iadd 7) (by decide) rfl (fun outs e => gp_iadd e) ?_
  refine gd_s (r := ix_push 10 (ix_vI 400)) (by decide) rfl (fun outs e => gp_push e) ?_
  refine gd_s (r := ix_icmp true true true 15 13) (by decide) rfl (fun outs e => gp_cmps e) ?_
  cases hq : fdq a with
  | true =>
    rw [show Nat.blt (ix_bias 400) (ix_bias (ix_add a 20)) = true from hq]
    show gd _ 13 _ _
    refine gd_s (r := ix_push 14 (ix_vI 4294967295)) (by decide) rfl (fun outs e => gp_push e) ?_
    refine gd_s (r := ix_ret ix_isInt) (by decide) rfl (fun outs e => gp_ret e) ?_
    exact gd_ends ⟨rfl, hk.1, ha, rfl⟩
  | false =>
    have h20 := fdq_y ha4 hq
    rw [show Nat.blt (ix_bias 400) (ix_bias (ix_add a 20)) = false from hq]
    show gd _ 15 _ _
    refine gd_s (r := ix_load ix_isRef 0 16) (by decide) rfl (fun outs e => gp_load e rfl) ?_
    refine gd_s (r := ix_getf 112 16 19) (by decide) rfl (fun outs e => gp_getf e) ?_
    rw [hk.2.2.1]
    refine gd_s (r := ix_push 20 (ix_vI 0)) (by decide) rfl (fun outs e => gp_push e) ?_
    refine gd_s (r := ix_load ix_isInt 1 21) (by decide) rfl (fun outs e => gp_load e rfl) ?_
    refine gd_x (r := ix_ast 0 0 21 22 ix_nar ix_isInt) (by decide) rfl (fun outs e => ?_)
    obtain ⟨x1, y1⟩ := gp_ast e
    refine ⟨_, _, x1, ?_⟩
    rw [show ix_nar (ix_g (t) 89).1 (.inl v1) = .inl v1 by rw [hk.2.2.2.2.1]; rfl]
    obtain ⟨k1, c1, r1⟩ := hk.s89 (v := v1) y1
    refine gd_s (r := ix_load ix_isRef 0 23) (by decide) rfl (fun outs e => gp_load e rfl) ?_
    refine gd_s (r := ix_getf 112 16 26) (by decide) rfl (fun outs e => gp_getf e) ?_
    rw [k1.2.2.1]
    refine gd_s (r := ix_push 27 (ix_vI 1)) (by decide) rfl (fun outs e => gp_push e) ?_
    refine gd_s (r := ix_load ix_isInt 2 28) (by decide) rfl (fun outs e => gp_load e rfl) ?_
    refine gd_x (r := ix_ast 0 0 28 29 ix_nar ix_isInt) (by decide) rfl (fun outs e => ?_)
    obtain ⟨x2, y2⟩ := gp_ast e
    refine ⟨_, _, x2, ?_⟩
    rw [show ix_nar (ix_g (pl_set 89 0 (.inl v1) (t)) 89).1 (.inl v2) = .inl v2 by rw [k1.2.2.2.2.1]; rfl]
    obtain ⟨k2, c2, r2⟩ := k1.s89 (v := v2) y2
    refine gd_s (r := ix_load ix_isRef 0 30) (by decide) rfl (fun outs e => gp_load e rfl) ?_
    refine gd_s (r := ix_getf 112 16 33) (by decide) rfl (fun outs e => gp_getf e) ?_
    rw [k2.2.2.1]
    refine gd_s (r := ix_push 34 (ix_vI 2)) (by decide) rfl (fun outs e => gp_push e) ?_
    refine gd_s (r := ix_load ix_isInt 3 35) (by decide) rfl (fun outs e => gp_load e rfl) ?_
    refine gd_x (r := ix_ast 0 0 35 36 ix_nar ix_isInt) (by decide) rfl (fun outs e => ?_)
    obtain ⟨x3, y3⟩ := gp_ast e
    refine ⟨_, _, x3, ?_⟩
    rw [show ix_nar (ix_g (pl_set 89 1 (.inl v2) (pl_set 89 0 (.inl v1) (t))) 89).1 (.inl v3) = .inl v3 by rw [k2.2.2.2.2.1]; rfl]
    obtain ⟨k3, c3, r3⟩ := k2.s89 (v := v3) y3
    refine gd_s (r := ix_load ix_isRef 0 37) (by decide) rfl (fun outs e => gp_load e rfl) ?_
    refine gd_s (r := ix_getf 112 16 40) (by decide) rfl (fun outs e => gp_getf e) ?_
    rw [k3.2.2.1]
    refine gd_s (r := ix_push 41 (ix_vI 3)) (by decide) rfl (fun outs e => gp_push e) ?_
    refine gd_s (r := ix_load ix_isInt 4 43) (by decide) rfl (fun outs e => gp_load e rfl) ?_
    refine gd_x (r := ix_ast 0 0 43 44 ix_nar ix_isInt) (by decide) rfl (fun outs e => ?_)
    obtain ⟨x4, y4⟩ := gp_ast e
    refine ⟨_, _, x4, ?_⟩
    rw [show ix_nar (ix_g (pl_set 89 2 (.inl v3) (pl_set 89 1 (.inl v2) (pl_set 89 0 (.inl v1) (t)))) 89).1 (.inl v4) = .inl v4 by rw [k3.2.2.2.2.1]; rfl]
    obtain ⟨k4, c4, r4⟩ := k3.s89 (v := v4) y4
    refine gd_s (r := ix_load ix_isRef 0 45) (by decide) rfl (fun outs e => gp_load e rfl) ?_
    refine gd_s (r := ix_getf 112 16 48) (by decide) rfl (fun outs e => gp_getf e) ?_
    rw [k4.2.2.1]
    refine gd_s (r := ix_push 49 (ix_vI 4)) (by decide) rfl (fun outs e => gp_push e) ?_
    refine gd_s (r := ix_load ix_isInt 5 51) (by decide) rfl (fun outs e => gp_load e rfl) ?_
    refine gd_x (r := ix_ast 0 0 51 52 ix_nar ix_isInt) (by decide) rfl (fun outs e => ?_)
    obtain ⟨x5, y5⟩ := gp_ast e
    refine ⟨_, _, x5, ?_⟩
    rw [show ix_nar (ix_g (pl_set 89 3 (.inl v4) (pl_set 89 2 (.inl v3) (pl_set 89 1 (.inl v2) (pl_set 89 0 (.inl v1) (t))))) 89).1 (.inl v5) = .inl v5 by rw [k4.2.2.2.2.1]; rfl]
    obtain ⟨k5, c5, r5⟩ := k4.s89 (v := v5) y5
    refine gd_s (r := ix_push 53 (ix_vI 0)) (by decide) rfl (fun outs e => gp_push e) ?_
    refine gd_s (r := ix_store ix_isInt 6 55) (by decide) rfl (fun outs e => gp_store e) ?_
    have hr5 := r5.trans (r4.trans (r3.trans (r2.trans r1)))
    have hc5 := c5.trans (c4.trans (c3.trans (c2.trans c1)))
    refine fd_loop (a := a) (tpc t) (tpr t) ha (fun B t' q1 q2 q3 => ?_) 20 0 _ _ (by decide) k5 hc5 hr5
    have q3' : ix_g (ix_g t' 79).2.2 17 = .inl a := q3.trans ha
    refine gd_s (r := ix_load ix_isInt 6 57) (by decide) rfl (fun outs e => gp_load e rfl) ?_
    refine gd_s (r := ix_push 59 (ix_vI 20)) (by decide) rfl (fun outs e => gp_push e) ?_
    refine gd_s (r := ix_icmp true true false 101 62) (by decide) rfl (fun outs e => gp_cmp e) ?_
    rw [show Nat.blt (ix_bias 20) (ix_bias 20) = false by decide]
    show gd _ 101 _ _
    refine gd_s (r := ix_load ix_isRef 0 102) (by decide) rfl (fun outs e => gp_load e rfl) ?_
    refine gd_s (r := ix_dup 103) (by decide) rfl (fun outs e => gp_dup e) ?_
    refine gd_s (r := ix_getf 112 17 106) (by decide) rfl (fun outs e => gp_getf e) ?_
    rw [q3']
    refine gd_s (r := ix_push 108 (ix_vI 20)) (by decide) rfl (fun outs e => gp_push e) ?_
    refine gd_s (r := ix_iadd 109) (by decide) rfl (fun outs e => gp_iadd e) ?_
    refine gd_s (r := ix_putf 112 17 112 ix_isInt) (by decide) rfl (fun outs e => gp_putf e) ?_
    rw [pl_add (show a + 20 < 4294967296 by omega)]
    have e17 : ix_g (ix_g (pl_fld 79 17 (.inl (a + 20)) t') 79).2.2 17 = .inl (a + 20) := tpr_79
    refine gd_s (r := ix_load ix_isRef 0 113) (by decide) rfl (fun outs e => gp_load e rfl) ?_
    refine gd_s (r := ix_getf 112 17 116) (by decide) rfl (fun outs e => gp_getf e) ?_
    rw [e17]
    refine gd_s (r := ix_ret ix_isInt) (by decide) rfl (fun outs e => gp_ret e) ?_
    exact gd_ends ⟨rfl, q1.1.fld (Or.inr rfl), tpr_79, tpc_79.trans q2⟩

end FRE
