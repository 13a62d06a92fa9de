/-! call instructions, returns, and the whole run of a method -/
section IXX
variable {k : ix_K} {E : ix_E} {own : String} {cc : ByteArray} {Ts : List Cond} {O : ix_O} {sl : ix_Sl} {J : ix_J} {d : Nat} {call : ix_Call}
/-- all that a method's own code may lean on -/
def ix_env (k : ix_K) (E : ix_E) (own : String) (cc : ByteArray) (Ts : List Cond) (O : ix_O) (sl : ix_Sl) (J : ix_J) (d : Nat) (call : ix_Call) : Prop :=
  ix_ctx k E own cc Ts ∧ ix_gl (ix_ks k) (ix_es E) (ix_eA E) (ix_e0 E) O sl ∧ ix_CO k.1.2.1 Ts (ix_el E) O sl J d call ∧ d + 1 ≤ k.1.2.2.2.1.frames ∧ 64 * d + 64 ≤ k.1.2.2.2.1.locals ∧ GoodIn Ts Ts
theorem ix_goodc {Ts : List Cond} (h : GoodIn Ts Ts) {w : Cond} (hw : w ∈ Ts) : GoodIn Ts (w :: Ts) := fun x hx => by
  rcases List.mem_cons.mp hx with rfl | hx
  · exact h _ hw
  · exact h _ hx
theorem ix_blind {cl : List vw_C} {σ : ix_Sg} {D : va_G} {dT : Nat → ClassId} {ad : Nat → Option Nat} {av : List Value} {ws : va_W} {sz : Nat} : FrameBlind (ix_Pc cl σ D dT ad O sl av ws sz) := fun a U g mk q => by
  obtain ⟨q0, q1, qP, qD, qK, qG⟩ := q
  exact ⟨q0, q1, qP, qD, va_K.moved (u := U) (U := U.calling g mk a) (Vm.Alike.refl U.vm) qK, qG.calling g mk a⟩
theorem io_callS (V : ix_env k E own cc Ts O sl J d call) {y na idx mc ms capC capS pc nx maxL : Nat} {nm : MethodName} {bytes : ByteArray} {ret : Option FieldType} (hJ : J y = (nm, bytes, maxL, ret, mc, ms)) (h : ix_at cc pc (.invokestatic idx) 3 nx) (hC : capC ≤ ix_eC E) (hCs : capS ≤ ix_eS E) (hml : maxL ≤ 45)
    (w1 : Cond.methodLink own idx nm ∈ Ts) (w2 : Cond.static nm ∈ Ts) (w3 : Cond.initialized nm.cls ∈ Ts) (w4 : Cond.code nm bytes maxL ret ∈ Ts) (hd : nm.cls ≠ "java/lang/invoke/MethodHandle" ∧ nm.cls ≠ "java/lang/invoke/VarHandle" ∧ (parseMethodDescriptor nm.desc).map (fun d => d.parameters.length) = some na) : ix_ok k E pc (ix_call ix_any3 call na y mc ms capC capS nx) := by
  obtain ⟨C, hgl, hco, hfr, hlo, hG⟩ := V
  refine ix_call_go C h.lt ⟨h.2.1, h.2.2⟩ hgl hco (by rw [hJ]) hC hCs fun as av ar rv ad ws n t outs H locs ce sl2 ls hrs hav hna _ hrw hls hcat hc1 hc2 hM hPc => ?_
  rw [hJ] at hM
  have hts : ∀ w ∈ Ts, w.before (ix_ka k) (ix_ks k) = true := C.2.2.2.2.1
  have cb := callB_of (R := k.1.2.2.2.1) (own := own) (index := idx) (rm := ix_rm d mc ms) na hts (ix_goodc hG w4) rfl rfl rfl (hts _ w3) (hts _ w1) hd ⟨hfr, by show 8 + (maxL + 11) + 64 * d ≤ _; omega⟩
  subst hav
  exact va_runS (As := ar.reverse) (rest := rv) (g := F0 (ix_km k) pc ls (ar ++ rv)) ⟨C.1, C.2.1, C.2.2.1, C.2.2.2.1, hts⟩ hM ⟨cb, hts _ w2⟩ ⟨ix_blind, hPc⟩ rfl (by simp [hna]) hls (by simp) (lv_room hcat) h.1 ⟨hc1, hc2⟩
theorem io_callSN (V : ix_env k E own cc Ts O sl J d call) {y na idx mc ms capC capS pc nx maxL : Nat} {nm : MethodName} {host : String} {bytes : ByteArray} {ret : Option FieldType} (hJ : J y = (nm, bytes, maxL, ret, mc, ms)) (h : ix_at cc pc (.invokestatic idx) 3 nx) (hC : capC ≤ ix_eC E) (hCs : capS ≤ ix_eS E) (hml : maxL ≤ 45)
    (w1 : va_Nw (.methodLinkNest own idx nm host) (ix_ks k)) (w2 : Cond.static nm ∈ Ts) (w3 : Cond.initialized nm.cls ∈ Ts) (w4 : Cond.code nm bytes maxL ret ∈ Ts) (hd : nm.cls ≠ "java/lang/invoke/MethodHandle" ∧ nm.cls ≠ "java/lang/invoke/VarHandle" ∧ (parseMethodDescriptor nm.desc).map (fun d => d.parameters.length) = some na) : ix_ok k E pc (ix_call ix_any3 call na y mc ms capC capS nx) := by
  obtain ⟨C, hgl, hco, hfr, hlo, hG⟩ := V
  refine ix_call_go C h.lt ⟨h.2.1, h.2.2⟩ hgl hco (by rw [hJ]) hC hCs fun as av ar rv ad ws n t outs H locs ce sl2 ls hrs hav hna _ hrw hls hcat hc1 hc2 hM hPc => ?_
  rw [hJ] at hM
  have hts : ∀ w ∈ Ts, w.before (ix_ka k) (ix_ks k) = true := C.2.2.2.2.1
  have cb := va_cnB (R := k.1.2.2.2.1) (own := own) (host := host) (index := idx) (rm := ix_rm d mc ms) na hts (ix_goodc hG w4) rfl rfl rfl w1 (hts _ w3) hd ⟨hfr, by show 8 + (maxL + 11) + 64 * d ≤ _; omega⟩
  subst hav
  exact va_runSN (As := ar.reverse) (rest := rv) (g := F0 (ix_km k) pc ls (ar ++ rv)) ⟨C.1, C.2.1, C.2.2.1, C.2.2.2.1, hts⟩ hM ⟨cb, hts _ w2, trivial⟩ ⟨ix_blind, hPc⟩ rfl (by simp [hna]) hls (by simp) (lv_room hcat) h.1 ⟨hc1, hc2⟩
/-- the first argument of a virtual call -/
theorem ix_rcv_ok {cl : List vw_C} {σ : ix_Sg} {D : va_G} {dT : Nat → ClassId} {A : Nat → Prop} {ad : Nat → Option Nat} {n : Nat} {t : ix_T} {ws : va_W} {H : Heap} (hrw : ix_rw cl σ D dT A ad n t ws H) {kd ci : Nat} {as : List ix_V} {av : List Value} (hk : ix_rcv kd as n t = true) (hkd : kd = ci + 100) (hrs : ix_rs σ ad as av) : ∃ (b : Nat) (rest : List Value) (i : Nat) (fs : List Value), av = Value.ref b :: rest ∧ ws[i]? = some (b, Sum.inr (ci, fs)) := by
  unfold ix_rcv at hk
  split at hk
  · rename_i r _
    cases r with
    | zero => cases hk
    | succ i =>
      obtain ⟨v, vs, rfl, q1, q2⟩ := ix_rs_1 hrs
      have hk2 := Bool.and_eq_true_iff.mp hk
      obtain ⟨a, e, rfl, g1, g2, g3⟩ := ix_ref_cell hrw q1 (ix_blt.mp hk2.1)
      obtain ⟨fs, rfl, -, -, -⟩ := ix_rc_obj (ci := ci) g3 ((ix_beq.mp hk2.2).trans hkd)
      exact ⟨a, vs, i, fs, rfl, g1⟩
  · cases hk
theorem ix_arev {ar rest rv : List Value} {b : Nat} (h : ar.reverse = .ref b :: rest) : ar ++ rv = rest.reverse ++ .ref b :: rv := by
  have : ar = (Value.ref b :: rest).reverse := by rw [← h, List.reverse_reverse]
  rw [this]
  simp
theorem io_callV (V : ix_env k E own cc Ts O sl J d call) {y na idx mc ms capC capS pc nx maxL kd ci N : Nat} {nm : MethodName} {bytes : ByteArray} {ret : Option FieldType} {T : u_T} (hJ : J y = (nm, bytes, maxL, ret, mc, ms)) (h : ix_at cc pc (.invokevirtual idx) 3 nx) (hC : capC ≤ ix_eC E) (hCs : capS ≤ ix_eS E) (hml : maxL ≤ 45) (hkd : kd = ci + 100) (hcl : (ix_el E)[ci]? = some (nm.cls, T, N))
    (w1 : Cond.methodLink own idx nm ∈ Ts) (w2 : Cond.instanceMethod nm ∈ Ts) (w5 : Cond.selects nm.cls nm nm ∈ Ts) (w3 : Cond.initialized nm.cls ∈ Ts) (w4 : Cond.code nm bytes maxL ret ∈ Ts) (hd : nm.cls ≠ "java/lang/invoke/MethodHandle" ∧ nm.cls ≠ "java/lang/invoke/VarHandle" ∧ (parseMethodDescriptor nm.desc).map (fun d => d.parameters.length) = some na) : ix_ok k E pc (ix_call (ix_rcv kd) call (na + 1) y mc ms capC capS nx) := by
  obtain ⟨C, hgl, hco, hfr, hlo, hG⟩ := V
  refine ix_call_go C h.lt ⟨h.2.1, h.2.2⟩ hgl hco (by rw [hJ]) hC hCs fun as av ar rv ad ws n t outs H locs ce sl2 ls hrs hav hna hchk hrw hls hcat hc1 hc2 hM hPc => ?_
  rw [hJ] at hM
  have hts : ∀ w ∈ Ts, w.before (ix_ka k) (ix_ks k) = true := C.2.2.2.2.1
  have cb := callB_of (R := k.1.2.2.2.1) (own := own) (index := idx) (rm := ix_rm d mc ms) na hts (ix_goodc hG w4) rfl rfl rfl (hts _ w3) (hts _ w1) hd ⟨hfr, by show 8 + (maxL + 11) + 64 * d ≤ _; omega⟩
  obtain ⟨b, rest, i, fs, hb, hi⟩ := ix_rcv_ok hrw hchk hkd hrs
  subst hb
  have hst := ix_arev (rv := rv) hav.symm
  have hlen : rest.length = na := by have := congrArg List.length hav; simp at this; omega
  rw [hst]
  exact va_runV (C := nm.cls) (As := rest) (rest := rv) (g := F0 (ix_km k) pc ls (rest.reverse ++ .ref b :: rv)) ⟨C.1, C.2.1, C.2.2.1, C.2.2.2.1, hts⟩ hM ⟨cb, hts _ w2, hts _ w5⟩ ⟨ix_blind, va_recv C.2.2.2.2.2.1 hrw.2.2.2.2.1 hcl hi, hPc⟩ rfl hlen hls rfl (lv_room hcat) h.1 ⟨hc1, hc2⟩
theorem io_callI (V : ix_env k E own cc Ts O sl J d call) {y na idx mc ms capC capS pc nx maxL kd ci : Nat} {nm : MethodName} {bytes : ByteArray} (hJ : J y = (nm, bytes, maxL, none, mc, ms)) (h : ix_at cc pc (.invokespecial idx) 3 nx) (hC : capC ≤ ix_eC E) (hCs : capS ≤ ix_eS E) (hml : maxL ≤ 45) (hkd : kd = ci + 100) (hnm : nm.name = "<init>")
    (w1 : Cond.methodLink own idx nm ∈ Ts) (w2 : Cond.instanceMethod nm ∈ Ts) (w3 : Cond.initialized nm.cls ∈ Ts) (w4 : Cond.code nm bytes maxL none ∈ Ts) (hd : nm.cls ≠ "java/lang/invoke/MethodHandle" ∧ nm.cls ≠ "java/lang/invoke/VarHandle" ∧ (parseMethodDescriptor nm.desc).map (fun d => d.parameters.length) = some na) : ix_ok k E pc (ix_call (ix_rcv kd) call (na + 1) y mc ms capC capS nx) := by
  obtain ⟨C, hgl, hco, hfr, hlo, hG⟩ := V
  refine ix_call_go C h.lt ⟨h.2.1, h.2.2⟩ hgl hco (by rw [hJ]) hC hCs fun as av ar rv ad ws n t outs H locs ce sl2 ls hrs hav hna hchk hrw hls hcat hc1 hc2 hM hPc => ?_
  rw [hJ] at hM
  have hts : ∀ w ∈ Ts, w.before (ix_ka k) (ix_ks k) = true := C.2.2.2.2.1
  have cb := callB_of (R := k.1.2.2.2.1) (own := own) (index := idx) (rm := ix_rm d mc ms) na hts (ix_goodc hG w4) rfl rfl rfl (hts _ w3) (hts _ w1) hd ⟨hfr, by show 8 + (maxL + 11) + 64 * d ≤ _; omega⟩
  obtain ⟨b, rest, i, fs, hb, hi⟩ := ix_rcv_ok hrw hchk hkd hrs
  subst hb
  have hst := ix_arev (rv := rv) hav.symm
  have hlen : rest.length = na := by have := congrArg List.length hav; simp at this; omega
  rw [hst]
  exact va_runI (As := rest) (rest := rv) (g := F0 (ix_km k) pc ls (rest.reverse ++ .ref b :: rv)) ⟨C.1, C.2.1, C.2.2.1, C.2.2.2.1, hts⟩ hM ⟨cb, hnm, hts _ w2⟩ ⟨ix_blind, hPc⟩ rfl hlen hls rfl (lv_room hcat) h.1 ⟨hc1, hc2⟩
theorem io_obj (V : ix_env k E own cc Ts O sl J d call) {idx pc nx : Nat} (h : ix_at cc pc (.invokespecial idx) 3 nx) (w1 : Cond.methodLink own idx objectInit ∈ Ts) (w2 : Cond.instanceMethod objectInit ∈ Ts) (w3 : Cond.code objectInit ⟨#[0xb1]⟩ 1 none ∈ Ts) : ix_ok k E pc (ix_obj nx) := by
  obtain ⟨C, hgl, hco, hfr, hlo, hG⟩ := V
  have hp := h.lt
  obtain ⟨hdg, rfl, hn⟩ := h
  have hts : ∀ w ∈ Ts, w.before (ix_ka k) (ix_ks k) = true := C.2.2.2.2.1
  intro S outs hf hg
  obtain ⟨B, L, st, nn, t, ce, sl2⟩ := S
  unfold ix_obj at hf
  split at hf
  · rename_i r st0 _ e9
    cases e9
    cases hb : (Nat.ble (ix_cats st0) 8 && Nat.blt 0 r) with
    | false => rw [hb] at hf; cases hf
    | true =>
      rw [hb] at hf
      cases hf
      have hb := Bool.and_eq_true_iff.mp hb
      have c8 := ix_ble.mp hb.1
      have r0 := ix_blt.mp hb.2
      refine ix_go_i hp fun ad ws H locs ls stk hr hS => ?_
      obtain ⟨h1, h2, h3, h4, h5, h6⟩ := hr
      obtain ⟨va, vs, rfl, q2, q3⟩ := ix_rs_1 h3
      rcases q2 with ⟨q, _⟩ | ⟨i, a, _, _, rfl⟩
      · omega
      · have hls : ls.size = ix_eL E := by obtain ⟨_, lv, q, _⟩ := h2; exact q.1
        have hcat := ix_cats_ok q3
        refine W.objInit C.1 C.2.1 C.2.2.2.1 (hts _ w1) (hts _ w2) (hts _ w3) rfl (hls.trans C.2.2.1.symm) rfl hdg (by omega) ?_ ?_
        · have := lv_room (m := ix_km k) (pc := pc) (ls := ls) (rest := .ref a :: vs) (st := vs) (by rw [hcat]; exact c8)
          omega
        · exact ix_go_e hn (hg _ List.mem_cons_self) ad ws H locs ls vs ⟨h1, h2, q3, h4, h5, h6⟩ hS
  · cases hf
/-- a text's constant -/
theorem io_ldcS (V : ix_env k E own cc Ts O sl J d call) {idx pc nx r : Nat} {tx : String} (h : ix_at cc pc (.ldc idx) 2 nx) (hq : (own, (idx, (tx, r))) ∈ sl) : ix_ok k E pc (ix_push nx (ix_vR (r + 1))) := by
  obtain ⟨C, hgl, hco, hfr, hlo, hG⟩ := V
  have hp := h.lt
  obtain ⟨hdg, rfl, hn⟩ := h
  obtain ⟨b, b1, b2⟩ := hgl.2.2.1 _ hq
  exact ix_ok_push hp hn (fun ad hx => Or.inr ⟨r, b, rfl, hx _ _ b1, rfl⟩) (fun _ _ _ _ _ _ kk => va_ldcS C.1 C.2.1 C.2.2.2.1 b2 hdg kk)
theorem io_gets (V : ix_env k E own cc Ts O sl J d call) {idx pc nx r : Nat} {nm : String} (h : ix_at cc pc (.getstatic idx) 3 nx) (hq : (nm, r) ∈ ix_stat) (w : Cond.fieldLink own idx "MirrorHeirs" nm "[I" ∈ Ts) : ix_ok k E pc (ix_push nx (ix_vR (r + 1))) := by
  obtain ⟨C, hgl, hco, hfr, hlo, hG⟩ := V
  have hp := h.lt
  obtain ⟨hdg, rfl, hn⟩ := h
  obtain ⟨b, b1, b2⟩ := hgl.2.1 _ hq
  intro S outs hf hg
  obtain ⟨B, L, st, n, t, ce, sl2⟩ := S
  cases hf
  refine ix_go_i hp fun ad ws H locs ls stk hr hS => ?_
  obtain ⟨h1, h2, h3, h4, h5, h6⟩ := hr
  exact va_gets C.1 C.2.1 b2 hS C.2.2.2.1 (C.2.2.2.2.1 _ w) (fun _ h9 => h9) hdg (ix_go_e hn (hg _ List.mem_cons_self) ad ws H locs ls _ ⟨h1, h2, ⟨Or.inr ⟨r, b, rfl, h4 _ _ b1, rfl⟩, h3⟩, h4, h5, h6⟩ hS)
/-- what a return leans on: the frame's end is the contract's -/
def ix_rt (k : ix_K) (E : ix_E) (ret : Option FieldType) : Prop := ∃ (Qc : Array Value → State → Outcome → State → Prop) (free : Addr → Prop), k.2.2 = MQ k.2.1.2.2.1 Qc (ix_ka k) (ix_ks k) (ix_eC E) (ix_eS E) free ∧ (∀ q, ix_eA E q → free q) ∧ k.2.1.2.2.2.1.sig.returnType = ret ∧ k.2.1.2.2.2.1.locks = false ∧
  ∀ S, ix_eF E S → ∀ ad ws H locs (v : Option Value), ix_fr (ix_el E) (ix_es E) (ix_eD E) (ix_eT E) (ix_eA E) (ix_e0 E) S ad ws v.toList H → va_S (ix_eA E) (ix_ks k).heap H locs → ∀ t, t.heap = H → (ix_ks k).WarmedH t.vm → Qc (ix_ka k) (ix_ks k) (.returned v) t
theorem ix_ok_ret {ret : Option FieldType} (hrt : ix_rt k E ret) {pc : Nat} {ok : ix_V → Bool} (hp : pc < 99999)
    (row : ∀ x v ad H locs ls Qc free, ok x = true → ix_rv (ix_es E) ad x v → k.2.1.2.2.2.1.sig.returnType = ret → k.2.1.2.2.2.1.locks = false → (∀ t : State, t.heap = H → (ix_ks k).WarmedH t.vm → Qc (ix_ka k) (ix_ks k) (.returned (some v)) t) → (∀ q ∈ locs, free q.base) → W k.1.1 k.1.2.1 k.1.2.2.1 k.1.2.2.2.1 k.1.2.2.2.2 k.2.1.1 k.2.1.2.1 k.2.1.2.2.1 k.2.1.2.2.2.1 k.2.1.2.2.2.2 H locs (ix_eC E) (ix_eS E) (MQ k.2.1.2.2.1 Qc (ix_ka k) (ix_ks k) (ix_eC E) (ix_eS E) free) (F0 (ix_km k) pc ls [v])) : ix_ok k E pc (ix_ret ok) := by
  obtain ⟨Qc, free, e1, e2, e3, e4, e5⟩ := hrt
  intro S outs hf hg
  obtain ⟨B, L, st, nn, t, ce, sl2⟩ := S
  unfold ix_ret at hf
  split at hf
  · rename_i x _ e9
    cases e9
    cases ho : ok x with
    | false => rw [ho] at hf; cases hf
    | true =>
      rw [ho] at hf
      cases hf
      have hfin : ix_eF E (B, [], [x], nn, t, ce, sl2) := by
        have := hg _ List.mem_cons_self
        unfold ix_Go at this
        rw [if_pos rfl] at this
        exact this
      refine ix_go_i hp fun ad ws H locs ls stk hr hS => ?_
      obtain ⟨h1, h2, h3, h4, h5, h6, h7⟩ := hr
      obtain ⟨v, vs, rfl, q2, q3⟩ := ix_rs_1 h3
      have := ix_rs_0 q3
      subst this
      refine W.widen (k := ix_eC E) (n := ix_eS E) h6 h7 ?_
      show W _ _ _ _ _ _ _ _ _ _ H locs (ix_eC E) (ix_eS E) k.2.2 _
      rw [e1]
      exact row x v ad H locs ls Qc free ho q2 e3 e4 (e5 _ hfin ad ws H locs (some v) ⟨h1, ⟨q2, trivial⟩, h4, h5⟩ hS) (fun q hq => e2 _ (hS.2.2 q hq))
  · cases hf
theorem io_iret (C : ix_ctx k E own cc Ts) (hrt : ix_rt k E (some .int)) {pc nx : Nat} (h : ix_at cc pc .ireturn 1 nx) : ix_ok k E pc (ix_ret ix_isInt) :=
  ix_ok_ret hrt h.lt fun x v ad H locs ls Qc free ho hv hr hl hq hf => by
    obtain ⟨z, rfl⟩ := ix_int_of ho hv
    exact W.iret C.1 C.2.1 hr hq hf h.1 hl
theorem io_zret (C : ix_ctx k E own cc Ts) (hrt : ix_rt k E (some .boolean)) {pc nx : Nat} (h : ix_at cc pc .ireturn 1 nx) : ix_ok k E pc (ix_ret ix_isBit) :=
  ix_ok_ret hrt h.lt fun x v ad H locs ls Qc free ho hv hr hl hq hf => by
    have hn := ix_fit_bit ho hv
    rcases ix_bit_of ho hv with rfl | rfl
    · exact W.zret C.1 C.2.1 hr hn.1 hq hf h.1 hl
    · exact W.zret C.1 C.2.1 hr hn.1 hq hf h.1 hl
theorem io_lret (C : ix_ctx k E own cc Ts) (hrt : ix_rt k E (some .long)) {pc nx : Nat} (h : ix_at cc pc .lreturn 1 nx) : ix_ok k E pc (ix_ret ix_isLong) :=
  ix_ok_ret hrt h.lt fun x v ad H locs ls Qc free ho hv hr hl hq hf => by
    obtain ⟨z, rfl⟩ := ix_long_of ho hv
    exact W.lret C.1 C.2.1 hr hq hf h.1 hl
theorem io_aret (C : ix_ctx k E own cc Ts) {Cn : String} (hrt : ix_rt k E (some (.object Cn))) {pc nx : Nat} (h : ix_at cc pc .areturn 1 nx) : ix_ok k E pc (ix_ret ix_isRef) :=
  ix_ok_ret hrt h.lt fun x v ad H locs ls Qc free ho hv hr hl hq hf => W.aret C.1 C.2.1 hr (Or.inl ⟨_, rfl⟩) (ix_ref_of ho hv) hq hf h.1 hl
theorem io_vret (C : ix_ctx k E own cc Ts) (hrt : ix_rt k E none) {pc nx : Nat} (h : ix_at cc pc .return_ 1 nx) : ix_ok k E pc ix_retv := by
  have hp := h.lt
  obtain ⟨Qc, free, e1, e2, e3, e4, e5⟩ := hrt
  intro S outs hf hg
  obtain ⟨B, L, st, nn, t, ce, sl2⟩ := S
  unfold ix_retv at hf
  split at hf
  · rename_i _ e9
    cases e9
    cases hf
    have hfin : ix_eF E (B, [], [], nn, t, ce, sl2) := by
      have := hg _ List.mem_cons_self
      unfold ix_Go at this
      rw [if_pos rfl] at this
      exact this
    refine ix_go_i hp fun ad ws H locs ls stk hr hS => ?_
    obtain ⟨h1, h2, h3, h4, h5, h6, h7⟩ := hr
    have := ix_rs_0 h3
    subst this
    refine W.widen (k := ix_eC E) (n := ix_eS E) h6 h7 ?_
    show W _ _ _ _ _ _ _ _ _ _ H locs (ix_eC E) (ix_eS E) k.2.2 _
    rw [e1]
    exact W.vret C.1 C.2.1 e3 (e5 _ hfin ad ws H locs none ⟨h1, trivial, h4, h5⟩ hS) (fun q hq => e2 _ (hS.2.2 q hq)) h.1 e4
  · cases hf
theorem ix_app_mem {a b : Option (List ix_S)} {r : List ix_S} (h : ix_app a b = some r) : ∃ x y, a = some x ∧ b = some y ∧ r = x ++ y := by
  unfold ix_app at h
  split at h
  · cases h
  · rename_i x
    split at h
    · cases h
    · rename_i y
      cases h
      exact ⟨x, y, rfl, rfl, rfl⟩
theorem ix_fold_mem {f : Nat × ix_S → Option (List ix_S)} : ∀ (l : List (Nat × ix_S)) (r : List ix_S), l.foldr (fun o acc => ix_app (f o) acc) (some []) = some r → ∀ o ∈ l, ∃ x, f o = some x ∧ ∀ q ∈ x, q ∈ r
  | [], r, h, o, ho => by cases ho
  | p :: l, r, h, o, ho => by
    obtain ⟨x, y, h1, h2, rfl⟩ := ix_app_mem h
    rcases List.mem_cons.mp ho with rfl | ho
    · exact ⟨x, h1, fun q hq => List.mem_append.mpr (Or.inl hq)⟩
    · obtain ⟨z, z1, z2⟩ := ix_fold_mem l y h2 o ho
      exact ⟨z, z1, fun q hq => List.mem_append.mpr (Or.inr (z2 q hq))⟩
theorem ix_loop_succ (P : ix_P) (f pc : Nat) (S : ix_S) : ix_loop P (f + 1) pc S = cond (Nat.beq pc 99999) (some [S]) (match P pc S with
      | none => none
      | some outs => (match outs with
        | [] => some []
        | (pc1, S1) :: r => (match r with
          | [] => ix_loop P f pc1 S1
          | _ => outs.foldr (fun o acc => ix_app (ix_loop P f o.1 o.2) acc) (some [])))) := rfl
theorem ix_loop_ok {P : ix_P} (hok : ∀ pc, ix_ok k E pc (P pc)) : ∀ (f pc : Nat) (S : ix_S) (outs : List ix_S), ix_loop P f pc S = some outs → (∀ o ∈ outs, ix_eF E o) → ix_Go k E pc S
  | 0, pc, S, outs, h, _ => by cases h
  | f + 1, pc, S, outs, h, hF => by
    rw [ix_loop_succ] at h
    cases hb : Nat.beq pc 99999 with
    | true =>
      rw [hb] at h
      cases h
      unfold ix_Go
      rw [if_pos (ix_beq.mp hb)]
      exact hF _ List.mem_cons_self
    | false =>
      rw [hb] at h
      dsimp only [cond_false] at h
      split at h
      · cases h
      · rename_i o2 hP
        split at h
        · exact hok pc S [] hP (fun o ho => by cases ho)
        · rename_i pc1 S1 r
          split at h
          · refine hok pc S _ hP fun o ho => ?_
            rcases List.mem_cons.mp ho with rfl | ho
            · exact ix_loop_ok hok f pc1 S1 outs h hF
            · cases ho
          · refine hok pc S _ hP fun o ho => ?_
            obtain ⟨x, x1, x2⟩ := ix_fold_mem (f := fun o => ix_loop P f o.1 o.2) _ outs h o ho
            exact ix_loop_ok hok f o.1 o.2 x x1 (fun q hq => hF q (x2 q hq))
end IXX
