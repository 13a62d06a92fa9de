/-! returns and calls -/
abbrev ix_J : Type := Nat → MethodName × (ByteArray × (Nat × (Option FieldType × (Nat × Nat))))
def ix_rwp (σ : ix_Sg) (dT : Nat → ClassId) (ad : Nat → Option Nat) (n : Nat) (t : ix_T) (ws : va_W) : Prop :=
  ws.length = n ∧ n ≤ 16384 ∧ (∀ i, n ≤ i → i < 1000000 → ad i = none) ∧ ∀ i, i < n → ∃ a e, ws[i]? = some (a, e) ∧ ad i = some a ∧ ix_rc σ ad dT (ix_g t i) e
theorem ix_rw.p {cl : List vw_C} {σ : ix_Sg} {D : va_G} {dT : Nat → ClassId} {A : Nat → Prop} {ad : Nat → Option Nat} {n : Nat} {t : ix_T} {ws : va_W} {H : Heap} (h : ix_rw cl σ D dT A ad n t ws H) : ix_rwp σ dT ad n t ws := ⟨h.1, h.2.1, h.2.2.1, h.2.2.2.1⟩
/-- links between nest mates -/
def ix_nest : List (String × (Nat × (MethodName × String))) := [("MirrorHeirs$Hall", 73, ⟨"MirrorHeirs", "turnedKind", "(I)I"⟩, "MirrorHeirs"), ("MirrorHeirs$Sight", 69, ⟨"MirrorHeirs", "step", "(II)I"⟩, "MirrorHeirs"), ("MirrorHeirs$Sight", 80, ⟨"MirrorHeirs", "isGlass", "(I)Z"⟩, "MirrorHeirs"), ("MirrorHeirs$Sight", 88, ⟨"MirrorHeirs", "bent", "(II)I"⟩, "MirrorHeirs"), ("MirrorHeirs$Deeds", 147, ⟨"MirrorHeirs", "isCell", "(I)Z"⟩, "MirrorHeirs"), ("MirrorHeirs$Places", 89, ⟨"MirrorHeirs", "pick", "(JI)I"⟩, "MirrorHeirs"), ("MirrorHeirs$Wind", 75, ⟨"MirrorHeirs", "step", "(II)I"⟩, "MirrorHeirs")]
def ix_stat : List (String × Nat) := [("LEAST_TERMS", 1000001), ("MOST_TERMS", 1000002)]
abbrev ix_Sl : Type := List (String × (Nat × (String × Nat)))
/-- what lies outside of the world: rows, constants, texts -/
def ix_gl (s : State) (σ : ix_Sg) (A : Nat → Prop) (ad0 : Nat → Option Nat) (O : ix_O) (sl : ix_Sl) : Prop :=
  ix_out s σ A ad0 O ∧ (∀ q ∈ ix_stat, ∃ b, ad0 q.2 = some b ∧ va_Z "MirrorHeirs" q.1 "[I" (.ref b) A s s.heap) ∧ (∀ q ∈ sl, ∃ b, ad0 q.2.2.2 = some b ∧ vk_R q.1 q.2.1 q.2.2.1 b s) ∧ va_AO "MirrorHeirs$Text" s ∧ va_AO "MirrorHeirs$Hall" s ∧ (∀ q ∈ ix_nest, va_Nw (.methodLinkNest q.1 q.2.1 q.2.2.1 q.2.2.2) s) ∧ ix_txt s A ad0 O
/-- the same for a callee: it starts at a heap that has kept what isn't the caller's own -/
theorem ix_gl.to {s U : State} {σ : ix_Sg} {A A' : Nat → Prop} {ad0 ad : Nat → Option Nat} {O : ix_O} {sl : ix_Sl} (h : ix_gl s σ A ad0 O sl) (hx : ix_ext ad0 ad) (hAA : ∀ q, A' q → A q) (hz : s.heap.size ≤ U.heap.size) (hk : ∀ q : Nat, q < s.heap.size → ¬ A q → U.heap[q]? = s.heap[q]?) (hW : s.WarmedH U.vm) : ix_gl U σ A' ad O sl := by
  obtain ⟨h1, h2, h3, h4, h5, h6, h7⟩ := h
  refine ⟨fun i len f hi hO => ?_, fun q hq => ?_, fun q hq => ?_, va_AO.moved hW.alike h4, va_AO.moved hW.alike h5, fun q hq => va_Nw.warmM hW (h6 q hq), h7.to hx hAA hk hW⟩
  · obtain ⟨b, xs, o1, o2, o5, o6⟩ := h1 i len f hi hO
    exact ⟨b, xs, hx _ _ o1, va_T.moved hW.alike ((o2.kept (H1 := U.heap) hk).narrow hAA), o5, o6⟩
  · obtain ⟨b, o1, o2⟩ := h2 q hq
    exact ⟨b, hx _ _ o1, va_Z.moved hW.alike ((o2.kept (H1 := U.heap) hk).narrow hAA)⟩
  · obtain ⟨b, o1, o2⟩ := h3 q hq
    exact ⟨b, hx _ _ o1, o2.warm hW⟩
theorem ix_gl.calling {U : State} {σ : ix_Sg} {A : Nat → Prop} {ad : Nat → Option Nat} {O : ix_O} {sl : ix_Sl} (h : ix_gl U σ A ad O sl) (g : JFrame) (mk : MethodId) (a : Array Value) : ix_gl (U.calling g mk a) σ A ad O sl := by
  obtain ⟨h1, h2, h3, h4, h5, h6, h7⟩ := h
  refine ⟨fun i len f hi hO => ?_, fun q hq => ?_, fun q hq => ?_, va_AO.moved (u := U) (U := U.calling g mk a) (Vm.Alike.refl U.vm) h4, va_AO.moved (u := U) (U := U.calling g mk a) (Vm.Alike.refl U.vm) h5, fun q hq => va_Nw.same rfl (u := U) (U := U.calling g mk a) rfl (h6 q hq), h7.calling g mk a⟩
  · obtain ⟨b, xs, o1, o2, o5, o6⟩ := h1 i len f hi hO
    exact ⟨b, xs, o1, va_T.moved (u := U) (U := U.calling g mk a) (Vm.Alike.refl U.vm) o2, o5, o6⟩
  · obtain ⟨b, o1, o2⟩ := h2 q hq
    exact ⟨b, o1, va_Z.moved (u := U) (U := U.calling g mk a) (Vm.Alike.refl U.vm) o2⟩
  · obtain ⟨b, o1, o2⟩ := h3 q hq
    exact ⟨b, o1, vk_R.same (u := U) (U := U.calling g mk a) rfl o2⟩
def ix_Pc (cl : List vw_C) (σ : ix_Sg) (D : va_G) (dT : Nat → ClassId) (ad : Nat → Option Nat) (O : ix_O) (sl : ix_Sl) (av : List Value) (ws : va_W) (sz : Nat) : Array Value → State → Prop :=
  va_Pc av (fun U => U.heap.size = sz ∧ va_P D cl ws U.heap ∧ va_D (fun _ => True) ws ∧ va_K D cl (ix_tys dT) U ∧ ix_gl U σ (va_A ws sz) ad O sl)
/-- a state at a method's end, and Java's -/
def ix_fr (cl : List vw_C) (σ : ix_Sg) (D : va_G) (dT : Nat → ClassId) (A : Nat → Prop) (ad0 : Nat → Option Nat) (o : ix_S) (ad : Nat → Option Nat) (ws : va_W) (stk : List Value) (H : Heap) : Prop :=
  ix_ib σ o.1 ∧ ix_rs σ ad o.2.2.1 stk ∧ ix_ext ad0 ad ∧ ix_rw cl σ D dT A ad o.2.2.2.1 o.2.2.2.2.1 ws H
def ix_Qc (cl : List vw_C) (σ : ix_Sg) (D : va_G) (dT : Nat → ClassId) (ad0 : Nat → Option Nat) (ws0 : va_W) (sz : Nat) (outs : List ix_S) : Array Value → State → Outcome → State → Prop := fun _ st oc t =>
  (∃ o ∈ outs, ∃ ad ws v, oc = .returned v ∧ ix_fr cl σ D dT (va_A ws0 sz) ad0 o ad ws v.toList t.heap) ∧ va_F (va_A ws0 sz) st t
def ix_rm (d mc ms : Nat) : Room := { frames := d, cells := mc, slots := ms, locals := 64 * d }
/-- what is said of calls: each is met -/
def ix_CO (l : Launch) (Ts : List Cond) (cl : List vw_C) (O : ix_O) (sl : ix_Sl) (J : ix_J) (d : Nat) (call : ix_Call) : Prop := ∀ y as B n t outs, call y as B n t = some outs → ∀ σ D dT ad av ws sz, ix_ib σ B → ix_rs σ ad as av → ix_rwp σ dT ad n t ws →
  Met l (J y).1 (Cond.code (J y).1 (J y).2.1 (J y).2.2.1 (J y).2.2.2.1 :: Ts) (ix_rm d (J y).2.2.2.2.1 (J y).2.2.2.2.2) (ix_Pc cl σ D dT ad O sl av ws sz) (ix_Qc cl σ D dT ad ws sz outs) (J y).2.2.2.2.1 (J y).2.2.2.2.2 (va_A ws sz)
theorem ix_rs_app {σ : ix_Sg} {ad : Nat → Option Nat} : ∀ {xs ys : List ix_V} {vs ws : List Value}, ix_rs σ ad xs vs → ix_rs σ ad ys ws → ix_rs σ ad (xs ++ ys) (vs ++ ws)
  | [], _, [], _, _, h => h
  | _ :: _, _, _ :: _, _, h1, h2 => ⟨h1.1, ix_rs_app h1.2 h2⟩
  | [], _, _ :: _, _, h1, _ => h1.elim
  | _ :: _, _, [], _, h1, _ => h1.elim
theorem ix_rs_len {σ : ix_Sg} {ad : Nat → Option Nat} : ∀ {xs : List ix_V} {vs : List Value}, ix_rs σ ad xs vs → xs.length = vs.length
  | [], [], _ => rfl
  | _ :: _, _ :: _, h => by simp [ix_rs_len h.2]
  | [], _ :: _, h => h.elim
  | _ :: _, [], h => h.elim
theorem ix_take_ok {σ : ix_Sg} {ad : Nat → Option Nat} : ∀ (na : Nat) (acc : List ix_V) (st : List ix_V) (as rest : List ix_V) (av : List Value) (stk : List Value), ix_take na acc st = some (as, rest) → ix_rs σ ad acc av → ix_rs σ ad st stk → ∃ ar rv, stk = ar ++ rv ∧ ix_rs σ ad as (ar.reverse ++ av) ∧ ix_rs σ ad rest rv ∧ ar.length = na
  | 0, acc, st, as, rest, av, stk, h, h1, h2 => by
    cases h
    exact ⟨[], stk, rfl, h1, h2, rfl⟩
  | _ + 1, acc, [], as, rest, av, stk, h, h1, h2 => by cases h
  | na + 1, acc, v :: st, as, rest, av, stk, h, h1, h2 => by
    obtain ⟨w, vs, rfl, q1, q2⟩ := ix_rs_1 h2
    obtain ⟨ar, rv, rfl, g1, g2, g3⟩ := ix_take_ok na (v :: acc) st as rest (w :: av) vs h ⟨q1, h1⟩ q2
    exact ⟨w :: ar, rv, rfl, by simpa using g1, g2, by simp [g3]⟩
theorem ix_cats_ok {σ : ix_Sg} {ad : Nat → Option Nat} {xs : List ix_V} {vs : List Value} (h : ix_rs σ ad xs vs) : (vs.map fun v => v.category).sum = ix_cats xs := by
  have : ∀ (xs : List ix_V) (vs : List Value) (z : Nat), ix_rs σ ad xs vs → z + (vs.map fun v => v.category).sum = xs.foldl (fun a v => cond (ix_cat2 v) (a + 2) (a + 1)) z := by
    intro xs
    induction xs with
    | nil => intro vs z h; rw [ix_rs_0 h]; rfl
    | cons x xs ih =>
      intro vs z h
      obtain ⟨v, vs, rfl, q1, q2⟩ := ix_rs_1 h
      rw [List.foldl_cons, ← ih vs _ q2, List.map_cons, List.sum_cons]
      rcases q1.cat with ⟨c1, c2⟩ | ⟨c1, c2⟩
      · rw [c1, c2]; show z + (2 + _) = z + 2 + _; omega
      · rw [c1, c2]; show z + (1 + _) = z + 1 + _; omega
  have h0 := this xs vs 0 h
  unfold ix_cats
  omega
section IXC
variable {k : ix_K} {E : ix_E} {own : String} {cc : ByteArray} {Ts : List Cond} {O : ix_O} {sl : ix_Sl} {J : ix_J} {d : Nat} {call : ix_Call}
/-- behind a call's row -/
theorem ix_call_go {chk : List ix_V → Nat → ix_T → Bool} {na y mc ms capC capS pc nx : Nat} (C : ix_ctx k E own cc Ts) (hp : pc < 99999) (hn : pc + 3 = nx ∧ nx < 99999) (hgl : ix_gl (ix_ks k) (ix_es E) (ix_eA E) (ix_e0 E) O sl) (hco : ix_CO k.1.2.1 Ts (ix_el E) O sl J d call) (hcap : (J y).2.2.2.2 = (mc, ms)) (hC : capC ≤ ix_eC E) (hCs : capS ≤ ix_eS E)
    (row : ∀ (as : List ix_V) (av : List Value) (ar rv : List Value) (ad : Nat → Option Nat) (ws : va_W) (n : Nat) (t : ix_T) (outs : List ix_S) H locs ce sl2 ls, ix_rs (ix_es E) ad as av → av = ar.reverse → ar.length = na → chk as n t = true → ix_rw (ix_el E) (ix_es E) (ix_eD E) (ix_eT E) (ix_eA E) ad n t ws H → ls.size = ix_eL E → (rv.map fun v => v.category).sum ≤ 8 → ce + mc ≤ k.1.2.2.2.1.cells → sl2 + ms ≤ k.1.2.2.2.1.slots →
      Met k.1.2.1 (J y).1 (Cond.code (J y).1 (J y).2.1 (J y).2.2.1 (J y).2.2.2.1 :: Ts) (ix_rm d mc ms) (ix_Pc (ix_el E) (ix_es E) (ix_eD E) (ix_eT E) ad O sl av ws H.size) (ix_Qc (ix_el E) (ix_es E) (ix_eD E) (ix_eT E) ad ws H.size outs) mc ms (va_A ws H.size) →
      (∀ U : State, U.heap = H → (ix_ks k).WarmedH U.vm → ix_Pc (ix_el E) (ix_es E) (ix_eD E) (ix_eT E) ad O sl av ws H.size av.toArray U) →
      va_Run k.1.1 k.1.2.1 k.1.2.2.1 k.1.2.2.2.1 k.1.2.2.2.2 k.2.1.1 k.2.1.2.1 k.2.1.2.2.1 k.2.1.2.2.2.1 k.2.1.2.2.2.2 H locs ce sl2 mc ms (F0 (ix_km k) pc ls (ar ++ rv)) rv (ix_Qc (ix_el E) (ix_es E) (ix_eD E) (ix_eT E) ad ws H.size outs av.toArray) (va_A ws H.size)) : ix_ok k E pc (ix_call chk call na y mc ms capC capS nx) := by
  obtain ⟨rfl, hn⟩ := hn
  intro S outs hf hg
  obtain ⟨B, L, st, nn, t, ce, sl2⟩ := S
  unfold ix_call at hf
  dsimp only at hf
  split at hf
  · rename_i as rest htk
    cases hb : (chk as nn t && (Nat.ble (ix_cats rest) 8 && (Nat.ble (Nat.add ce mc) capC && Nat.ble (Nat.add sl2 ms) capS))) with
    | false => rw [hb] at hf; cases hf
    | true =>
      rw [hb] at hf
      dsimp only [cond_true] at hf
      have hb1 := Bool.and_eq_true_iff.mp hb
      have hb2 := Bool.and_eq_true_iff.mp hb1.2
      have hb3 := Bool.and_eq_true_iff.mp hb2.2
      have e1 := ix_ble.mp hb2.1
      have e2 : ce + mc ≤ capC := ix_ble.mp hb3.1
      have e3 : sl2 + ms ≤ capS := ix_ble.mp hb3.2
      have r1 : ix_eC E ≤ k.1.2.2.2.1.cells := C.2.2.2.2.2.2.2.1
      have r2 : ix_eS E ≤ k.1.2.2.2.1.slots := C.2.2.2.2.2.2.2.2
      split at hf
      · rename_i outs2 hcall
        cases hf
        refine ix_go_i hp fun ad ws H locs ls stk hr hS => ?_
        obtain ⟨h1, h2, h3, h4, h5, h6⟩ := hr
        obtain ⟨ar, rv, rfl, g1, g2, g3⟩ := ix_take_ok na [] st as rest [] stk htk trivial h3
        simp only [List.append_nil] at g1
        have hAA : ∀ q, va_A ws H.size q → ix_eA E q := by
          rintro q (⟨j, e, hj⟩ | hq)
          · exact h5.2.2.2.2.2.2 j (q, e) hj
          · exact C.2.2.2.2.2.2.1 q (Nat.le_trans hS.1 hq)
        have hM := hco y as B nn t outs2 hcall (ix_es E) (ix_eD E) (ix_eT E) ad ar.reverse ws H.size h1 g1 h5.p
        rw [hcap] at hM
        have hPc : ∀ U : State, U.heap = H → (ix_ks k).WarmedH U.vm → ix_Pc (ix_el E) (ix_es E) (ix_eD E) (ix_eT E) ad O sl ar.reverse ws H.size ar.reverse.toArray U := by
          intro U hU hW
          refine ⟨rfl, by rw [hU], by rw [hU]; exact h5.2.2.2.2.1, h5.2.2.2.2.2.weaken (fun _ _ _ _ => trivial), va_K.moved hW.alike C.2.2.2.2.2.1, hgl.to h4 hAA (by rw [hU]; exact hS.1) (fun q h1 h2 => by rw [hU]; exact hS.2.1 q h1 h2) hW⟩
        have hrun := row as ar.reverse ar rv ad ws nn t outs2 H locs ce sl2 ls g1 rfl g3 hb1.1 h5 (by obtain ⟨_, lv, q, _⟩ := h2; exact q.1) (by rw [ix_cats_ok g2]; exact e1) (by omega) (by omega) hM hPc
        intro T hT X
        obtain ⟨v, st₀, t2, T', Lc, w0, X', hL, w1, w2, ⟨⟨o, ho, ad', ws', v', hoc, hfr⟩, hF⟩, hst⟩ := hrun T hT X
        have hvv : v = v' := Outcome.returned.inj hoc
        subst hvv
        obtain ⟨f1, f2, f3, f4⟩ := hfr
        have hF1 := hF.1
        have hF2 := hF.2
        rw [w0] at hF1 hF2
        have hgo := hg (pc + 3, (o.1, L, o.2.2.1 ++ rest, o.2.2.2.1, o.2.2.2.2.1, ce + mc, sl2 + ms)) (List.mem_map.mpr ⟨o, ho, rfl⟩)
        have hS1 : va_S (ix_eA E) (ix_ks k).heap t2.heap (locs ++ Lc) := by
          refine ⟨Nat.le_trans hS.1 hF1, fun q q1 q2 => ?_, fun q hq => ?_⟩
          · rw [hF2 q (Nat.lt_of_lt_of_le q1 hS.1) (fun z => q2 (hAA q z))]
            exact hS.2.1 q q1 q2
          · rcases List.mem_append.mp hq with z | z
            · exact hS.2.2 q z
            · exact hAA _ (hL q z)
        have hrel : ix_rel E (o.1, L, o.2.2.1 ++ rest, o.2.2.2.1, o.2.2.2.2.1, ce + mc, sl2 + ms) ad' ws' t2.heap ls (v.toList ++ rv) := by
          refine ⟨f1, h2.ext f3, ix_rs_app f2 (g2.ext f3), h4.tr f3, ⟨f4.1, f4.2.1, f4.2.2.1, f4.2.2.2.1, f4.2.2.2.2.1, f4.2.2.2.2.2.weaken (fun _ _ _ z => hAA _ z)⟩, ?_, ?_⟩
          · show ce + mc ≤ _; omega
          · show sl2 + ms ≤ _; omega
        have hW := ix_go_e hn hgo ad' ws' t2.heap (locs ++ Lc) ls (v.toList ++ rv) hrel hS1
        obtain ⟨tf, a1, b1⟩ := hW T' w1 X'
        exact ⟨tf, hst tf a1, b1⟩
      · cases hf
  · cases hf
end IXC
