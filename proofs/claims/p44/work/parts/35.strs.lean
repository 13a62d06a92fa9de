/-! texts: their fields, their rows, calls of their methods -/
section IXT
variable {k : ix_K} {E : ix_E} {own : String} {cc : ByteArray} {Ts : List Cond} {O : ix_O} {sl : ix_Sl} {J : ix_J} {d : Nat} {call : ix_Call}
theorem ix_tref {σ : ix_Sg} {ad : Nat → Option Nat} {i a : Nat} {v : Value} (h : ix_rv σ ad (.inr (.inr (.inl (i + 1)))) v) (ha : ad i = some a) : v = .ref a := by
  rcases h with ⟨q, _⟩ | ⟨i', b', hi', hb', rfl⟩
  · omega
  · have : i' = i := by omega
    subst this
    rw [ha] at hb'
    rw [Option.some.inj hb']
theorem io_ogv (V : ix_env k E own cc Ts O sl J d call) {idx pc nx : Nat} (h : ix_at cc pc (.getfield idx) 3 nx) (w : Cond.fieldLink own idx "java/lang/String" "value" "[B" ∈ Ts) : ix_ok k E pc (ix_ogf 0 nx) := by
  obtain ⟨C, hgl, hco, hfr, hlo, hG⟩ := V
  have hp := h.lt
  obtain ⟨hdg, rfl, hn⟩ := h
  have hts : ∀ w ∈ Ts, w.before (ix_ka k) (ix_ks k) = true := C.2.2.2.2.1
  intro S outs hf hg
  obtain ⟨B, L, st, n, t, ce, sl2⟩ := S
  unfold ix_ogf at hf
  split at hf
  · rename_i r st0 _ e9
    cases e9
    split at hf
    · cases hf
    · rename_i i
      split at hf
      · rename_i q hq
        cases hf
        refine ix_go_i hp fun ad ws H locs ls stk hr hS => ?_
        obtain ⟨h1, h2, h3, h4, h5, h6⟩ := hr
        obtain ⟨va, vs, rfl, q2, q3⟩ := ix_rs_1 h3
        obtain ⟨a, b, a1, b1, o1, o2, o3⟩ := hgl.2.2.2.2.2.2.1 i q hq
        have := ix_tref q2 (h4 _ _ a1)
        subst this
        exact vk_getf C.1 C.2.1 o3 hS C.2.2.2.1 (hts _ w) (fun _ h9 => h9) hdg (ix_go_e hn (hg _ List.mem_cons_self) ad ws H locs ls _ ⟨h1, h2, ⟨Or.inr ⟨i + 1000000, b, rfl, h4 _ _ b1, rfl⟩, q3⟩, h4, h5, h6⟩ hS)
      · cases hf
  · cases hf
theorem io_ogc (V : ix_env k E own cc Ts O sl J d call) {idx pc nx : Nat} (h : ix_at cc pc (.getfield idx) 3 nx) (w : Cond.fieldLink own idx "java/lang/String" "coder" "B" ∈ Ts) : ix_ok k E pc (ix_ogf 1 nx) := by
  obtain ⟨C, hgl, hco, hfr, hlo, hG⟩ := V
  have hp := h.lt
  obtain ⟨hdg, rfl, hn⟩ := h
  have hts : ∀ w ∈ Ts, w.before (ix_ka k) (ix_ks k) = true := C.2.2.2.2.1
  intro S outs hf hg
  obtain ⟨B, L, st, n, t, ce, sl2⟩ := S
  unfold ix_ogf at hf
  split at hf
  · rename_i r st0 _ e9
    cases e9
    split at hf
    · cases hf
    · rename_i i
      split at hf
      · rename_i q hq
        cases hf
        refine ix_go_i hp fun ad ws H locs ls stk hr hS => ?_
        obtain ⟨h1, h2, h3, h4, h5, h6⟩ := hr
        obtain ⟨va, vs, rfl, q2, q3⟩ := ix_rs_1 h3
        obtain ⟨a, b, a1, b1, o1, o2, o3⟩ := hgl.2.2.2.2.2.2.1 i q hq
        have := ix_tref q2 (h4 _ _ a1)
        subst this
        exact vk_getf C.1 C.2.1 o2 hS C.2.2.2.1 (hts _ w) (fun _ h9 => h9) hdg (ix_go_e hn (hg _ List.mem_cons_self) ad ws H locs ls _ ⟨h1, h2, ⟨⟨(by decide : 0 < 4294967296), rfl⟩, q3⟩, h4, h5, h6⟩ hS)
      · cases hf
  · cases hf
theorem io_olen (V : ix_env k E own cc Ts O sl J d call) {pc nx : Nat} (h : ix_at cc pc .arraylength 1 nx) : ix_ok k E pc (ix_olen nx) := by
  obtain ⟨C, hgl, hco, hfr, hlo, hG⟩ := V
  have hp := h.lt
  obtain ⟨hdg, rfl, hn⟩ := h
  intro S outs hf hg
  obtain ⟨B, L, st, n, t, ce, sl2⟩ := S
  unfold ix_olen at hf
  split at hf
  · rename_i r st0 _ e9
    cases e9
    split at hf
    · cases hf
    · rename_i i
      split at hf
      · rename_i len f hq
        cases hf
        refine ix_go_i hp fun ad ws H locs ls stk hr hS => ?_
        obtain ⟨h1, h2, h3, h4, h5, h6⟩ := hr
        obtain ⟨va, vs, rfl, q2, q3⟩ := ix_rs_1 h3
        obtain ⟨b, b1, xs, o4, o5, o6⟩ := hgl.2.2.2.2.2.2.2.1 _ len f hq
        have := ix_tref q2 (h4 _ _ b1)
        subst this
        obtain ⟨cell, t1, t2, t3, t4, t5, t6, t7⟩ := o4.kept (H1 := H) (fun a h1 h2 => hS.2.1 a h1 h2)
        exact W.alen C.1 C.2.1 t1 t2 t5 rfl rfl hdg (ix_go_e hn (hg _ List.mem_cons_self) ad ws H locs ls _ ⟨h1, h2, ⟨⟨by omega, rfl⟩, q3⟩, h4, h5, h6⟩ hS)
      · cases hf
  · cases hf
theorem io_obd (V : ix_env k E own cc Ts O sl J d call) {pc nx : Nat} (h : ix_at cc pc .baload 1 nx) : ix_ok k E pc (ix_obd nx) := by
  obtain ⟨C, hgl, hco, hfr, hlo, hG⟩ := V
  have hp := h.lt
  obtain ⟨hdg, rfl, hn⟩ := h
  intro S outs hf hg
  obtain ⟨B, L, st, n, t, ce, sl2⟩ := S
  unfold ix_obd at hf
  split at hf
  · rename_i m r st0 _ e9
    cases e9
    split at hf
    · cases hf
    · rename_i i
      split at hf
      · rename_i len f hq
        cases hm : Nat.blt m len with
        | false => rw [hm] at hf; cases hf
        | true =>
          rw [hm, cond_true] at hf
          cases hf
          have hml := ix_blt.mp hm
          refine ix_go_i hp fun ad ws H locs ls stk hr hS => ?_
          obtain ⟨h1, h2, h3, h4, h5, h6⟩ := hr
          obtain ⟨vj, va, vs, rfl, q1, q2, q3⟩ := ix_rs_2 h3
          obtain ⟨b, b1, xs, o4, o5, o6⟩ := hgl.2.2.2.2.2.2.2.1 _ len f hq
          have := ix_tref q2 (h4 _ _ b1)
          subst this
          obtain ⟨m1, rfl⟩ := q1
          obtain ⟨c, c1, c2, c3⟩ := o6 m hml
          refine va_tb C.1 C.2.1 o4 hS (ix_in hml o5) (v := .int (xs m)) (by rw [ix_cl (by omega)]) hdg ?_
          refine ix_go_e hn (hg _ List.mem_cons_self) ad ws H locs ls _ ⟨h1, h2, ⟨?_, q3⟩, h4, h5, h6⟩ hS
          rw [c1, c3]
          exact ⟨by omega, rfl⟩
      · cases hf
  · cases hf
theorem io_gcs (V : ix_env k E own cc Ts O sl J d call) {idx pc nx : Nat} (h : ix_at cc pc (.getstatic idx) 3 nx) (w : Cond.fieldLink own idx "java/lang/String" "COMPACT_STRINGS" "Z" ∈ Ts) : ix_ok k E pc (ix_push nx (ix_vI 1)) := by
  obtain ⟨C, hgl, hco, hfr, hlo, hG⟩ := V
  have hp := h.lt
  obtain ⟨hdg, rfl, hn⟩ := h
  intro S outs hf hg
  obtain ⟨B, L, st, n, t, ce, sl2⟩ := S
  cases hf
  refine ix_go_i hp fun ad ws H locs ls stk hr hS => ?_
  obtain ⟨h1, h2, h3, h4, h5, h6⟩ := hr
  exact va_gets C.1 C.2.1 hgl.2.2.2.2.2.2.2.2.1 hS C.2.2.2.1 (C.2.2.2.2.1 _ w) (fun _ h9 => h9) hdg (ix_go_e hn (hg _ List.mem_cons_self) ad ws H locs ls _ ⟨h1, h2, ⟨⟨(by decide : 1 < 4294967296), rfl⟩, h3⟩, h4, h5, h6⟩ hS)
theorem io_gfm (V : ix_env k E own cc Ts O sl J d call) {idx pc nx : Nat} (h : ix_at cc pc (.getstatic idx) 3 nx) (w : Cond.fieldLink own idx "jdk/internal/util/Preconditions" "SIOOBE_FORMATTER" "Ljava/util/function/BiFunction;" ∈ Ts) : ix_ok k E pc (ix_gfm O nx) := by
  obtain ⟨C, hgl, hco, hfr, hlo, hG⟩ := V
  have hp := h.lt
  obtain ⟨hdg, rfl, hn⟩ := h
  intro S outs hf hg
  obtain ⟨B, L, st, n, t, ce, sl2⟩ := S
  unfold ix_gfm at hf
  rcases hgl.2.2.2.2.2.2.2.2.2 with ⟨o, b2⟩ | ⟨u, b, o, b1, b2⟩
  · rw [o] at hf
    cases hf
    refine ix_go_i hp fun ad ws H locs ls stk hr hS => ?_
    obtain ⟨h1, h2, h3, h4, h5, h6⟩ := hr
    exact va_gets C.1 C.2.1 b2 hS C.2.2.2.1 (C.2.2.2.2.1 _ w) (fun _ h9 => h9) hdg (ix_go_e hn (hg _ List.mem_cons_self) ad ws H locs ls _ ⟨h1, h2, ⟨Or.inl ⟨rfl, rfl⟩, h3⟩, h4, h5, h6⟩ hS)
  · rw [o] at hf
    cases hf
    refine ix_go_i hp fun ad ws H locs ls stk hr hS => ?_
    obtain ⟨h1, h2, h3, h4, h5, h6⟩ := hr
    exact va_gets C.1 C.2.1 b2 hS C.2.2.2.1 (C.2.2.2.2.1 _ w) (fun _ h9 => h9) hdg (ix_go_e hn (hg _ List.mem_cons_self) ad ws H locs ls _ ⟨h1, h2, ⟨Or.inr ⟨2500000, b, rfl, h4 _ _ b1, rfl⟩, h3⟩, h4, h5, h6⟩ hS)
theorem io_cret (C : ix_ctx k E own cc Ts) (hrt : ix_rt k E (some .char)) {pc nx : Nat} (h : ix_at cc pc .ireturn 1 nx) : ix_ok k E pc (ix_ret ix_isC) :=
  ix_ok_ret hrt h.lt fun x v ad H locs ls Qc free ho hv hr hl hq hf => by
    rcases x with n | x
    · obtain ⟨_, rfl⟩ := hv
      exact W.zret C.1 C.2.1 hr (pk_charN (q := n) (ix_blt.mp ho)).1 hq hf h.1 hl
    · rcases x with x | x | x <;> cases ho
theorem io_bret (C : ix_ctx k E own cc Ts) (hrt : ix_rt k E (some .byte)) {pc nx : Nat} (h : ix_at cc pc .ireturn 1 nx) : ix_ok k E pc (ix_ret ix_isBit) :=
  ix_ok_ret hrt h.lt fun x v ad H locs ls Qc free ho hv hr hl hq hf => by
    rcases ix_bit_of ho hv with rfl | rfl
    · exact W.zret C.1 C.2.1 hr (by rfl) hq hf h.1 hl
    · exact W.zret C.1 C.2.1 hr (by rfl) hq hf h.1 hl
theorem io_callT (V : ix_env k E own cc Ts O sl J d call) {y na idx mc ms capC capS pc nx maxL : Nat} {nm : MethodName} {bytes : ByteArray} {ret : Option FieldType} (hJ : J y = (nm, bytes, maxL, ret, mc, ms)) (h : ix_at cc pc (.invokevirtual idx) 3 nx) (hC : capC ≤ ix_eC E) (hCs : capS ≤ ix_eS E) (hml : maxL ≤ 45) (hst : nm.cls = "java/lang/String")
    (w1 : Cond.methodLink own idx nm ∈ Ts) (w2 : Cond.instanceMethod nm ∈ Ts) (w5 : Cond.selects nm.cls nm nm ∈ Ts) (w3 : Cond.initialized nm.cls ∈ Ts) (w4 : Cond.code nm bytes maxL ret ∈ Ts) (hd : nm.cls ≠ "java/lang/invoke/MethodHandle" ∧ nm.cls ≠ "java/lang/invoke/VarHandle" ∧ (parseMethodDescriptor nm.desc).map (fun d => d.parameters.length) = some na) : ix_ok k E pc (ix_call ix_rst call (na + 1) y mc ms capC capS nx) := by
  obtain ⟨C, hgl, hco, hfr, hlo, hG⟩ := V
  refine ix_call_go C h.lt ⟨h.2.1, h.2.2⟩ hgl hco (by rw [hJ]) hC hCs fun as av ar rv ad ws n t outs H locs ce sl2 ls hrs hav hna hchk hrw hls hcat hc1 hc2 hM hPc => ?_
  rw [hJ] at hM
  have hts : ∀ w ∈ Ts, w.before (ix_ka k) (ix_ks k) = true := C.2.2.2.2.1
  have cb := callB_of (R := k.1.2.2.2.1) (own := own) (index := idx) (rm := ix_rm d mc ms) na hts (ix_goodc hG w4) rfl rfl rfl (hts _ w3) (hts _ w1) hd ⟨hfr, by show 8 + (maxL + 11) + 64 * d ≤ _; omega⟩
  obtain ⟨b, rest, hb, hrc⟩ : ∃ (b : Nat) (rest : List Value), av = .ref b :: rest ∧ ∃ cell : Cell, H[b]? = some cell ∧ cell.vm.isStatics = false ∧ (ix_ks k).vm.findClass nm.cls = some cell.cls := by
    have hk : ix_rst as n t = true := hchk
    unfold ix_rst at hk
    split at hk
    · rename_i r _
      cases r with
      | zero => cases hk
      | succ i =>
        obtain ⟨v, vs, e1, q1, q2⟩ := ix_rs_1 hrs
        obtain ⟨q, hq⟩ := Option.isSome_iff_exists.mp (show (ix_stx i).isSome = true from hk)
        have hU := hPc { ix_ks k with heap := H } rfl (State.WarmedH.refl (ix_ks k))
        obtain ⟨_, _, _, _, _, g⟩ := hU
        obtain ⟨a, _, a1, _, o1, _⟩ := g.2.2.2.2.2.2.1 i q hq
        have := ix_tref q1 a1
        subst this
        obtain ⟨cell, p1, p2, p3, _⟩ := o1
        exact ⟨a, vs, e1, cell, p1, p2, by rw [hst]; exact p3⟩
    · cases hk
  subst hb
  have hst2 := ix_arev (rv := rv) hav.symm
  have hlen : rest.length = na := by have := congrArg List.length hav; simp at this; omega
  rw [hst2]
  exact va_runV (C := nm.cls) (As := rest) (rest := rv) (g := F0 (ix_km k) pc ls (rest.reverse ++ .ref b :: rv)) ⟨C.1, C.2.1, C.2.2.1, C.2.2.2.1, hts⟩ hM ⟨cb, hts _ w2, hts _ w5⟩ ⟨ix_blind, hrc, hPc⟩ rfl hlen hls rfl (lv_room hcat) h.1 ⟨hc1, hc2⟩
end IXT
