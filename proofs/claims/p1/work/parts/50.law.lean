/-! the law's own frame: what holds at its entry, and its run by our machine -/
theorem ix_pick {α : Type} (key : α → Nat) {P : α → Nat → Prop} : ∀ (l : List α), (l.map key).Nodup → (∀ q ∈ l, ∃ a, P q a) → ∃ g : Nat → Nat, ∀ q ∈ l, P q (g (key q))
  | [], _, _ => ⟨fun _ => 0, fun q hq => by cases hq⟩
  | p :: l, hn, h => by
    have hn := List.nodup_cons.mp hn
    obtain ⟨g, hg⟩ := ix_pick key l hn.2 (fun q hq => h q (List.mem_cons_of_mem _ hq))
    obtain ⟨a, ha⟩ := h p List.mem_cons_self
    refine ⟨fun i => if i = key p then a else g i, fun q hq => ?_⟩
    rcases List.mem_cons.mp hq with rfl | hq
    · simp only [if_true]; exact ha
    · have : ¬ key q = key p := fun e => hn.1 (by rw [← e]; exact List.mem_map.mpr ⟨q, hq, rfl⟩)
      simp only [if_neg this]
      exact hg q hq
theorem xs_nodup : (xsl.map (fun q => q.2.2.2)).Nodup := by decide +kernel
theorem xs_words : xsl.all (fun q => decide (Cond.stringRef q.1 q.2.1 q.2.2.1 ∈ lw_tbl)) = true := by decide +kernel
theorem xs_exact : xsl.all (fun q => decide (Cond.exactly (.string q.1 q.2.1) "java/lang/String" ∈ flatC (Jvm.Cond.and given_1 narrow_1))) = true := by decide +kernel
theorem xb_arrays {s : State} {args : Array Value} (hts : ∀ w ∈ lw_tbl, w.before args s = true) : ∃ dT : Nat → ClassId, ∀ (k : Nat) (q : ClassId × FieldType), (ix_tys dT)[k]? = some q → ArrOfT s q.1 q.2 ∧ va_RA s q.1 q.2 := by
  have prim : ∀ ty : FieldType, (∀ C, ty ≠ .object C) → Cond.arrayClass ty ∈ lw_tbl → ∃ c, ArrOfT s c ty ∧ va_RA s c ty := by
    intro ty hno hw
    obtain ⟨c, k, comp, h1, h2, h3⟩ := Cond.arrayClass_spec (hts _ hw)
    refine ⟨c, fun n z => ⟨fun k h => (by cases h), k, h2, comp, h3⟩, ?_⟩
    cases ty with
    | object C => exact absurd rfl (hno C)
    | _ => exact h1
  have obj : ∀ C : String, Cond.arrayOver (.object C) ∈ lw_tbl → ∃ c, ArrOfT s c (.object C) ∧ va_RA s c (.object C) := by
    intro C hw
    obtain ⟨comp, c, k, h1, h2, h3, h4, h5⟩ := Cond.arrayOver_spec (hts _ hw)
    exact ⟨c, fun n z => ⟨fun k h => (by cases h), k, h3, comp, h4⟩, k, comp, h3, h4, h1, h5⟩
  obtain ⟨c0, p0⟩ := prim .int (fun C h => by cases h) (by decide +kernel)
  obtain ⟨c1, p1⟩ := prim .byte (fun C h => by cases h) (by decide +kernel)
  obtain ⟨c2, p2⟩ := prim .boolean (fun C h => by cases h) (by decide +kernel)
  obtain ⟨c3, p3⟩ := prim .long (fun C h => by cases h) (by decide +kernel)
  obtain ⟨c4, p4⟩ := obj "MirrorHeirs$Text" (by decide +kernel)
  obtain ⟨c5, p5⟩ := obj "MirrorHeirs$Hall" (by decide +kernel)
  refine ⟨fun k => match k with | 0 => c0 | 1 => c1 | 2 => c2 | 3 => c3 | 4 => c4 | _ => c5, fun k q hq => ?_⟩
  match k, hq with
  | 0, hq => cases hq; exact p0
  | 1, hq => cases hq; exact p1
  | 2, hq => cases hq; exact p2
  | 3, hq => cases hq; exact p3
  | 4, hq => cases hq; exact p4
  | 5, hq => cases hq; exact p5
  | k + 6, hq => simp [ix_tys] at hq
theorem xb_known {s : State} {args : Array Value} (hts : ∀ w ∈ xTs, w.before args s = true) {C : String} {T : u_T} {N : Nat} (hin : ∀ w ∈ u_ws C T N, w ∈ xTs) (hi : Cond.instantiable C N ∈ xTs) : ∃ (cC : ClassId) (iS : Nat → Nat), ∀ q : vw_C, q = (C, T, N) → u_Kn s q.1 q.2.1 q.2.2 cC iS := by
  obtain ⟨cC, iS, h⟩ := u_known hts hin (hts _ hi)
  exact ⟨cC, iS, fun q hq => by subst hq; exact h⟩
theorem xb_classes {s : State} {args : Array Value} (hts : ∀ w ∈ xTs, w.before args s = true) : ∃ (dC : Nat → ClassId) (dI : Nat → Nat → Nat), ∀ (k : Nat) (q : vw_C), xcl[k]? = some q → u_Kn s q.1 q.2.1 q.2.2 (dC k) (dI k) := by
  have h : ∀ k : Nat, ∃ (cC : ClassId) (iS : Nat → Nat), ∀ q : vw_C, xcl[k]? = some q → u_Kn s q.1 q.2.1 q.2.2 cC iS := by
    intro k
    have use : ∀ {C : String} {T : u_T} {N : Nat}, (∀ w ∈ u_ws C T N, w ∈ xTs) → Cond.instantiable C N ∈ xTs → xcl[k]? = some (C, T, N) → ∃ (cC : ClassId) (iS : Nat → Nat), ∀ q : vw_C, xcl[k]? = some q → u_Kn s q.1 q.2.1 q.2.2 cC iS := by
      intro C T N hin hi hk
      obtain ⟨cC, iS, hu⟩ := xb_known hts hin hi
      exact ⟨cC, iS, fun q hq => hu q (Option.some.inj (hq.symm.trans hk))⟩
    match k with
    | 0 => exact use xi0 xa_0 rfl
    | 1 => exact use xi1 xa_1 rfl
    | 2 => exact use xi2 xa_2 rfl
    | 3 => exact use xi3 xa_3 rfl
    | 4 => exact use xi4 xa_4 rfl
    | 5 => exact use xi5 xa_5 rfl
    | 6 => exact use xi6 xa_6 rfl
    | 7 => exact use xi7 xa_7 rfl
    | 8 => exact use xi8 xa_8 rfl
    | 9 => exact use xi9 xa_9 rfl
    | 10 => exact use xi10 xa_10 rfl
    | 11 => exact use xi11 xa_11 rfl
    | 12 => exact use xi12 xa_12 rfl
    | k + 13 => exact ⟨0, fun _ => 0, fun q hq => by simp [xcl] at hq⟩
  exact ⟨fun k => Classical.choose (h k), fun k => Classical.choose (Classical.choose_spec (h k)), fun k => Classical.choose_spec (Classical.choose_spec (h k))⟩
/-- the symbols' values: the script's ints, and the first cut to six bits -/
def xσ (xs : Nat → Int32) : ix_Sg := (fun i => match i with
  | 1 => xs 1
  | 2 => xs 2
  | 3 => xs 3
  | 4 => xs 4
  | 5 => xs 5
  | 6 => xs 0
  | 7 => xs 0 &&& 63
  | _ => 0, fun _ => .inr (0, []))
def xc1 : Nat → Int32 := fun j => if j = 0 then 1 else 0
def xc2 : Nat → Int32 := fun j => if j = 0 then 6 else if j = 1 then 23 else 10
/-- a row of a constant -/
theorem xb_row {s : State} {b : Nat} {nm : String} {f : Nat → Int32} (hts : ∀ w ∈ lw_tbl, w.before #[Value.ref b] s = true) (hs : ∀ c ∈ flatC (Jvm.Cond.and given_1 narrow_1), c.before #[Value.ref b] s = true) (w1 : Cond.laysStatic "MirrorHeirs" nm "[I" ∈ lw_tbl) (n1 : Cond.arrayOf (.static "MirrorHeirs" nm "[I") .int ∈ flatC (Jvm.Cond.and given_1 narrow_1)) (n2 : Cond.eq (.length (.static "MirrorHeirs" nm "[I")) (.int 3) ∈ flatC (Jvm.Cond.and given_1 narrow_1))
    (n3 : ∀ j, j < 3 → Cond.eq (.elem (.static "MirrorHeirs" nm "[I") (.int (Int32.ofNat j))) (.int (f j)) ∈ flatC (Jvm.Cond.and given_1 narrow_1)) : ∃ t, va_T .int t 3 (fun j => .int (f j)) (fun q => s.heap.size ≤ q) s s.heap ∧ va_Z "MirrorHeirs" nm "[I" (.ref t) (fun q => s.heap.size ≤ q) s s.heap := by
  have hA : ∀ a : Nat, a < s.heap.size → ¬ (fun q : Nat => s.heap.size ≤ q) a := fun a h => Nat.not_le.mpr h
  obtain ⟨t, ht, hT⟩ := va_Tof (f := fun j => Value.int (f j)) (N := 3) (A := fun q => s.heap.size ≤ q) (by decide) (hs _ n1) (va_eqt (hs _ n2)) (fun j hj => va_eqt (hs _ (n3 j hj))) hA
  exact ⟨t, hT, va_Zof (hts _ w1) (hts _ (by decide +kernel)) ht hA⟩
/-- the law by our machine: what is good there is right -/
theorem xlaw {p : Program} {e : Env} {s : State} {m : MethodId} {below : List Frame} {meth : Method} {c : Code} (l : Launch) {b L : Nat} {xs : Nat → Int32} (hL : L ≤ 6) (C0 : lw_At p s m meth c b L xs) (S0 : Nat → ix_Call) (hS0 : ∀ d, ix_CO l xTs xcl (ix_O0 L) xsl xJ (d + 1) (S0 d)) (B : ix_B) (hB : ix_ib (xσ xs) B) (hgood : ix_good (ix_law S0 L B) = true) : W p l e room_1 s m #[Value.ref b] below meth c s.heap [] 0 0 (lw_Z below #[Value.ref b] s) (entryFrame m ([Value.ref b] : List Value).toArray 4) := by
  obtain ⟨hx, hb, hr, hml, hown, hts, hX, hbl, hlocks, hgv⟩ := id C0
  have hs := flat_of_before _ hgv
  have hts2 : ∀ w ∈ xTs, w.before #[Value.ref b] s = true := fun w hw => hts w (List.mem_filter.mp hw).1
  obtain ⟨dT, hdT⟩ := xb_arrays hts
  obtain ⟨dC, dI, hcl⟩ := xb_classes hts2
  obtain ⟨b1, t1, z1⟩ := xb_row (nm := "LEAST_TERMS") (f := xc1) hts hs (by decide +kernel) (by decide +kernel) (by decide +kernel) (by decide +kernel)
  obtain ⟨b2, t2, z2⟩ := xb_row (nm := "MOST_TERMS") (f := xc2) hts hs (by decide +kernel) (by decide +kernel) (by decide +kernel) (by decide +kernel)
  obtain ⟨g, hg⟩ := ix_pick (fun q : String × (Nat × (String × Nat)) => q.2.2.2) (P := fun q a => vk_R q.1 q.2.1 q.2.2.1 a s) xsl xs_nodup (fun q hq => by
    have w1 := of_decide_eq_true (List.all_eq_true.mp xs_words q hq)
    have w2 := of_decide_eq_true (List.all_eq_true.mp xs_exact q hq)
    obtain ⟨a, _, _, _, ha, _⟩ := Cond.exactly_spec (hs _ w2)
    exact ⟨a, vk_R.of (hts _ w1) ha⟩)
  have hsz : ∀ q ∈ xsl, 2000000 ≤ q.2.2.2 := by decide +kernel
  generalize hO : ix_O0 L = O at hS0
  obtain ⟨ad0, ha0, ha1, ha2, ha3, ha4⟩ : ∃ ad0 : Nat → Option Nat, ad0 1000000 = some b ∧ ad0 1000001 = some b1 ∧ ad0 1000002 = some b2 ∧ (∀ i, 2000000 ≤ i → ad0 i = some (g i)) ∧ ∀ i, i < 1000000 → ad0 i = none :=
    ⟨fun i => if i = 1000000 then some b else if i = 1000001 then some b1 else if i = 1000002 then some b2 else if 2000000 ≤ i then some (g i) else none, by simp, by simp, by simp, fun i hi => by
      dsimp only
      rw [if_neg (by omega), if_neg (by omega), if_neg (by omega), if_pos hi], fun i hi => by
      dsimp only
      rw [if_neg (by omega), if_neg (by omega), if_neg (by omega), if_neg (by omega)]⟩
  have hgl : ix_gl s (xσ xs) (fun q => s.heap.size ≤ q) ad0 O xsl := by
    refine ⟨fun i len f hi hOi => ?_, fun q hq => ?_, fun q hq => ⟨_, ha3 _ (hsz q hq), hg q hq⟩, va_AO.of (hts (.arrayOver (.object "MirrorHeirs$Text")) (by decide +kernel)), va_AO.of (hts (.arrayOver (.object "MirrorHeirs$Hall")) (by decide +kernel)), fun q hq => ?_⟩
    · rw [← hO] at hOi
      unfold ix_O0 at hOi
      cases e0 : Nat.beq i 1000000 with
      | true =>
        rw [e0] at hOi
        cases hOi
        rw [ix_beq.mp e0]
        refine ⟨b, xs, ha0, ?_, by omega, fun j hj ad => ?_⟩
        · obtain ⟨scr, s1, s2, s3, s4, s5⟩ := hX
          exact ⟨scr, s1, s2, s3, by omega, by rw [s4], fun j hj => s5 j hj, Nat.not_le.mpr hbl⟩
        · rcases (show j = 0 ∨ j = 1 ∨ j = 2 ∨ j = 3 ∨ j = 4 ∨ j = 5 by omega) with rfl | rfl | rfl | rfl | rfl | rfl
          · exact ⟨by decide, _, rfl, Or.inr (ix_zero_add _).symm⟩
          · exact ⟨by decide, _, rfl, Or.inr (ix_zero_add _).symm⟩
          · exact ⟨by decide, _, rfl, Or.inr (ix_zero_add _).symm⟩
          · exact ⟨by decide, _, rfl, Or.inr (ix_zero_add _).symm⟩
          · exact ⟨by decide, _, rfl, Or.inr (ix_zero_add _).symm⟩
          · exact ⟨by decide, _, rfl, Or.inr (ix_zero_add _).symm⟩
      | false =>
        rw [e0] at hOi
        dsimp only [cond_false] at hOi
        cases e1 : Nat.beq i 1000001 with
        | true =>
          rw [e1] at hOi
          cases hOi
          rw [ix_beq.mp e1]
          refine ⟨b1, xc1, ha1, t1, by decide, fun j hj ad => ?_⟩
          rcases (show j = 0 ∨ j = 1 ∨ j = 2 by omega) with rfl | rfl | rfl
          · exact ⟨by decide, rfl⟩
          · exact ⟨by decide, rfl⟩
          · exact ⟨by decide, rfl⟩
        | false =>
          rw [e1] at hOi
          dsimp only [cond_false] at hOi
          cases e2 : Nat.beq i 1000002 with
          | true =>
            rw [e2] at hOi
            cases hOi
            rw [ix_beq.mp e2]
            refine ⟨b2, xc2, ha2, t2, by decide, fun j hj ad => ?_⟩
            rcases (show j = 0 ∨ j = 1 ∨ j = 2 by omega) with rfl | rfl | rfl
            · exact ⟨by decide, rfl⟩
            · exact ⟨by decide, rfl⟩
            · exact ⟨by decide, rfl⟩
          | false => rw [e2] at hOi; cases hOi
    · rcases List.mem_cons.mp hq with rfl | hq
      · exact ⟨b1, ha1, z1⟩
      · rcases List.mem_cons.mp hq with rfl | hq
        · exact ⟨b2, ha2, z2⟩
        · cases hq
    · have hall : ∀ q ∈ ix_nest, Cond.methodLinkNest q.1 q.2.1 q.2.2.1 q.2.2.2 ∈ lw_tbl := by decide +kernel
      exact va_Nw.of rfl (hts _ (hall q hq))
  have hK : va_K (dC, dI) xcl (ix_tys dT) s := ⟨hcl, hdT⟩
  have hCO := ix_exec_ok (l := l) (Ts := xTs) (cl := xcl) (O := O) (sl := xsl) (J := xJ) (M := ix_tbl O) (S0 := S0) (fuel := 100000) (fun y => xM y) hS0 xgood 15
  have hctx : ix_ctx ((p, l, e, room_1, s), (m, #[Value.ref b], below, meth, c), lw_Z below #[Value.ref b] s) (xcl, xσ xs, (dC, dI), dT, (fun q => s.heap.size ≤ q), ad0, 4, (600000, 7302250), fun S => ix_one S = true) "MirrorHeirsLaw" code xTs :=
    ⟨hx, hb, hml, hown, hts2, hK, fun q hq => hq, Nat.le_refl _, Nat.le_refl _⟩
  have henv : ix_env ((p, l, e, room_1, s), (m, #[Value.ref b], below, meth, c), lw_Z below #[Value.ref b] s) (xcl, xσ xs, (dC, dI), dT, (fun q => s.heap.size ≤ q), ad0, 4, (600000, 7302250), fun S => ix_one S = true) "MirrorHeirsLaw" code xTs O xsl xJ 15 (ix_exec (ix_tbl O) S0 100000 15) :=
    ⟨hctx, hgl, hCO, (by decide : 15 + 1 ≤ room_1.frames), (by decide : 64 * 15 + 64 ≤ room_1.locals), xgood⟩
  have hret : ∀ pc nx, ix_at code pc .ireturn 1 nx → ix_ok ((p, l, e, room_1, s), (m, #[Value.ref b], below, meth, c), lw_Z below #[Value.ref b] s) (xcl, xσ xs, (dC, dI), dT, (fun q => s.heap.size ≤ q), ad0, 4, (600000, 7302250), fun S => ix_one S = true) pc (ix_ret ix_isBit) := by
    intro pc nx h S outs hf hg
    obtain ⟨BB, LL, st, nn, t, ce, sl2⟩ := S
    unfold ix_ret at hf
    split at hf
    · rename_i x _ e9
      cases e9
      cases ho : ix_isBit x with
      | false => rw [ho] at hf; cases hf
      | true =>
        rw [ho] at hf
        cases hf
        have hfin : ix_one (BB, [], [x], nn, t, ce, sl2) = true := by
          have := hg _ List.mem_cons_self
          unfold ix_Go at this
          rw [if_pos rfl] at this
          exact this
        have hx1 : x = ix_vI 1 := by
          unfold ix_one at hfin
          split at hfin
          · rename_i e8
            cases e8
            rfl
          · cases hfin
        subst hx1
        refine ix_go_i h.lt fun ad ws H locs ls stk hrel hS => ?_
        obtain ⟨h1, h2, h3, h4, h5, h6, h7⟩ := hrel
        obtain ⟨v, vs, rfl, q2, q3⟩ := ix_rs_1 h3
        have := ix_rs_0 q3
        subst this
        obtain ⟨_, rfl⟩ := q2
        refine va_forget (fun q hq => hS.2.2 q hq) ?_
        refine W.widen (k := 600000) (n := 7302250) h6 h7 ?_
        exact lw_ret hx hb hr hlocks h.1
    · cases hf
  have hok := fun pc => xm_L_law henv rfl rfl hret rfl rfl pc
  cases hrun : ix_law S0 L B with
  | none => rw [hrun] at hgood; cases hgood
  | some outs =>
    rw [hrun] at hgood
    have hall := List.all_eq_true.mp hgood
    unfold ix_law at hrun
    rw [hO] at hrun
    have hgo := ix_loop_ok hok 100000 0 _ outs hrun (fun o ho => hall o ho)
    rw [lg_entry_eq]
    refine ix_go_e (by decide) hgo ad0 [] s.heap [] _ [] ⟨hB, ?_, trivial, ix_ext.rf, ⟨rfl, Nat.zero_le _, fun i _ hi => ha4 i hi, fun i hi => absurd hi (Nat.not_lt_zero i), fun k q h => by simp at h, ⟨fun i j p q h => by simp at h, fun k q h => by simp at h⟩⟩, Nat.zero_le _, Nat.zero_le _⟩ va_S.rf
    exact ix_entry (as := [ix_vR 1000001]) (nL := 4) ⟨Or.inr ⟨1000000, b, rfl, ha0, rfl⟩, trivial⟩ (by decide)
