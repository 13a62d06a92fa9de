/-! the law's own frame in Java -/
theorem ix_pick {α : Type} (key : α → Nat) {P : α → Nat → Prop} : ∀ (l : List α), (l.map key).Nodup → (∀ q ∈ l, ∃ a, P q a) → ∃ g : Nat → Nat, ∀ q ∈ l, P q (g (key q))
  | [], _, _ => ⟨fun _ => 0, fun q hq => by cases hq⟩
  | p :: l, hn, h => by
    have hn := List.nodup_cons.mp hn
    obtain ⟨g, hg⟩ := ix_pick key l hn.2 (fun q hq => h q (List.mem_cons_of_mem _ hq))
    obtain ⟨a, ha⟩ := h p List.mem_cons_self
    refine ⟨fun i => if i = key p then a else g i, fun q hq => ?_⟩
    rcases List.mem_cons.mp hq with rfl | hq
    · simp only [if_true]; exact ha
    · have : ¬ key q = key p := fun e => hn.1 (by rw [← e]; exact List.mem_map.mpr ⟨q, hq, rfl⟩)
      simp only [if_neg this]
      exact hg q hq
theorem xs_nodup : (xsl.map (fun q => q.2.2.2)).Nodup := by decide +kernel
theorem xs_words : xsl.all (fun q => decide (Cond.stringRef q.1 q.2.1 q.2.2.1 ∈ lw_tbl)) = true := by decide +kernel
theorem xs_exact : xsl.all (fun q => decide (Cond.exactly (.string q.1 q.2.1) "java/lang/String" ∈ flatC (Jvm.Cond.and given_1 narrow_1))) = true := by decide +kernel
theorem xb_arrays {s : State} {args : Array Value} (hts : ∀ w ∈ lw_tbl, w.before args s = true) : ∃ dT : Nat → ClassId, ∀ (k : Nat) (q : ClassId × FieldType), (ix_tys dT)[k]? = some q → ArrOfT s q.1 q.2 ∧ va_RA s q.1 q.2 := by
  have prim : ∀ ty : FieldType, (∀ C, ty ≠ .object C) → Cond.arrayClass ty ∈ lw_tbl → ∃ c, ArrOfT s c ty ∧ va_RA s c ty := by
    intro ty hno hw
    obtain ⟨c, k, comp, h1, h2, h3⟩ := Cond.arrayClass_spec (hts _ hw)
    refine ⟨c, fun n z => ⟨fun k h => (by cases h), k, h2, comp, h3⟩, ?_⟩
    cases ty with
    | object C => exact absurd rfl (hno C)
    | _ => exact h1
  have obj : ∀ C : String, Cond.arrayOver (.object C) ∈ lw_tbl → ∃ c, ArrOfT s c (.object C) ∧ va_RA s c (.object C) := by
    intro C hw
    obtain ⟨comp, c, k, h1, h2, h3, h4, h5⟩ := Cond.arrayOver_spec (hts _ hw)
    exact ⟨c, fun n z => ⟨fun k h => (by cases h), k, h3, comp, h4⟩, k, comp, h3, h4, h1, h5⟩
  obtain ⟨c0, p0⟩ := prim .int (fun C h => by cases h) (by decide +kernel)
  obtain ⟨c1, p1⟩ := prim .byte (fun C h => by cases h) (by decide +kernel)
  obtain ⟨c2, p2⟩ := prim .boolean (fun C h => by cases h) (by decide +kernel)
  obtain ⟨c3, p3⟩ := prim .long (fun C h => by cases h) (by decide +kernel)
  obtain ⟨c4, p4⟩ := obj "MirrorHeirs$Text" (by decide +kernel)
  obtain ⟨c5, p5⟩ := obj "MirrorHeirs$Hall" (by decide +kernel)
  refine ⟨fun k => match k with | 0 => c0 | 1 => c1 | 2 => c2 | 3 => c3 | 4 => c4 | _ => c5, fun k q hq => ?_⟩
  match k, hq with
  | 0, hq => cases hq; exact p0
  | 1, hq => cases hq; exact p1
  | 2, hq => cases hq; exact p2
  | 3, hq => cases hq; exact p3
  | 4, hq => cases hq; exact p4
  | 5, hq => cases hq; exact p5
  | k + 6, hq => simp [ix_tys] at hq
theorem xb_known {s : State} {args : Array Value} (hts : ∀ w ∈ xTs, w.before args s = true) {C : String} {T : u_T} {N : Nat} (hin : ∀ w ∈ u_ws C T N, w ∈ xTs) (hi : Cond.instantiable C N ∈ xTs) : ∃ (cC : ClassId) (iS : Nat → Nat), ∀ q : vw_C, q = (C, T, N) → u_Kn s q.1 q.2.1 q.2.2 cC iS := by
  obtain ⟨cC, iS, h⟩ := u_known hts hin (hts _ hi)
  exact ⟨cC, iS, fun q hq => by subst hq; exact h⟩
theorem xb_classes {s : State} {args : Array Value} (hts : ∀ w ∈ xTs, w.before args s = true) : ∃ (dC : Nat → ClassId) (dI : Nat → Nat → Nat), ∀ (k : Nat) (q : vw_C), xcl[k]? = some q → u_Kn s q.1 q.2.1 q.2.2 (dC k) (dI k) := by
  have h : ∀ k : Nat, ∃ (cC : ClassId) (iS : Nat → Nat), ∀ q : vw_C, xcl[k]? = some q → u_Kn s q.1 q.2.1 q.2.2 cC iS := by
    intro k
    have use : ∀ {C : String} {T : u_T} {N : Nat}, (∀ w ∈ u_ws C T N, w ∈ xTs) → Cond.instantiable C N ∈ xTs → xcl[k]? = some (C, T, N) → ∃ (cC : ClassId) (iS : Nat → Nat), ∀ q : vw_C, xcl[k]? = some q → u_Kn s q.1 q.2.1 q.2.2 cC iS := by
      intro C T N hin hi hk
      obtain ⟨cC, iS, hu⟩ := xb_known hts hin hi
      exact ⟨cC, iS, fun q hq => hu q (Option.some.inj (hq.symm.trans hk))⟩
    match k with
    | 0 => exact use xi0 xa_0 rfl
    | 1 => exact use xi1 xa_1 rfl
    | 2 => exact use xi2 xa_2 rfl
    | 3 => exact use xi3 xa_3 rfl
    | 4 => exact use xi4 xa_4 rfl
    | 5 => exact use xi5 xa_5 rfl
    | 6 => exact use xi6 xa_6 rfl
    | 7 => exact use xi7 xa_7 rfl
    | 8 => exact use xi8 xa_8 rfl
    | 9 => exact use xi9 xa_9 rfl
    | 10 => exact use xi10 xa_10 rfl
    | 11 => exact use xi11 xa_11 rfl
    | 12 => exact use xi12 xa_12 rfl
    | k + 13 => exact ⟨0, fun _ => 0, fun q hq => by simp [xcl] at hq⟩
  exact ⟨fun k => Classical.choose (h k), fun k => Classical.choose (Classical.choose_spec (h k)), fun k => Classical.choose_spec (Classical.choose_spec (h k))⟩

def xc1 : Nat → Int32 := fun j => if j = 0 then 1 else 0
def xc2 : Nat → Int32 := fun j => if j = 0 then 6 else if j = 1 then 23 else 10
/-- a row of a constant -/
theorem xb_row {s : State} {b : Nat} {nm : String} {f : Nat → Int32} (hts : ∀ w ∈ lw_tbl, w.before #[Value.ref b] s = true) (hs : ∀ c ∈ flatC (Jvm.Cond.and given_1 narrow_1), c.before #[Value.ref b] s = true) (w1 : Cond.laysStatic "MirrorHeirs" nm "[I" ∈ lw_tbl) (n1 : Cond.arrayOf (.static "MirrorHeirs" nm "[I") .int ∈ flatC (Jvm.Cond.and given_1 narrow_1)) (n2 : Cond.eq (.length (.static "MirrorHeirs" nm "[I")) (.int 3) ∈ flatC (Jvm.Cond.and given_1 narrow_1))
    (n3 : ∀ j, j < 3 → Cond.eq (.elem (.static "MirrorHeirs" nm "[I") (.int (Int32.ofNat j))) (.int (f j)) ∈ flatC (Jvm.Cond.and given_1 narrow_1)) : ∃ t, va_T .int t 3 (fun j => .int (f j)) (fun q => s.heap.size ≤ q) s s.heap ∧ va_Z "MirrorHeirs" nm "[I" (.ref t) (fun q => s.heap.size ≤ q) s s.heap := by
  have hA : ∀ a : Nat, a < s.heap.size → ¬ (fun q : Nat => s.heap.size ≤ q) a := fun a h => Nat.not_le.mpr h
  obtain ⟨t, ht, hT⟩ := va_Tof (f := fun j => Value.int (f j)) (N := 3) (A := fun q => s.heap.size ≤ q) (by decide) (hs _ n1) (va_eqt (hs _ n2)) (fun j hj => va_eqt (hs _ (n3 j hj))) hA
  exact ⟨t, hT, va_Zof (hts _ w1) (hts _ (by decide +kernel)) ht hA⟩

/-! texts -/
def xq : List ((String × (Nat × (String × Nat))) × List Nat) := [(("MirrorHeirs$Reader", (108, ("fogs", 2000000))), [102, 111, 103, 115]), (("MirrorHeirs$Reader", (113, ("claims", 2000001))), [99, 108, 97, 105, 109, 115]), (("MirrorHeirs$Reader", (195, ("[", 2000002))), [91]), (("MirrorHeirs$Reader", (197, ("]", 2000003))), [93]), (("MirrorHeirs$Reader", (205, ("x", 2000004))), [120]), (("MirrorHeirs$Reader", (207, ("y", 2000005))), [121]), (("MirrorHeirs$Reader", (209, ("glance", 2000006))), [103, 108, 97, 110, 99, 101]), (("MirrorHeirs$Reader", (214, ("hour", 2000007))), [104, 111, 117, 114]), (("MirrorHeirs$Reader", (216, ("heir", 2000008))), [104, 101, 105, 114]), (("MirrorHeirs$Reader", (218, ("age", 2000009))), [97, 103, 101]), (("MirrorHeirs$Reader", (220, ("thing", 2000010))), [116, 104, 105, 110, 103]), (("MirrorHeirs$Reader", (222, ("worth", 2000011))), [119, 111, 114, 116, 104]), (("MirrorHeirs$Reader", (224, ("high", 2000012))), [104, 105, 103, 104]), (("MirrorHeirs$Reader", (226, ("lit", 2000013))), [108, 105, 116]), (("MirrorHeirs$Reader", (231, ("pivots", 2000014))), [112, 105, 118, 111, 116, 115]), (("MirrorHeirs$Reader", (233, ("done", 2000015))), [100, 111, 110, 101]), (("MirrorHeirs$Reader", (235, ("rent", 2000016))), [114, 101, 110, 116]), (("MirrorHeirs$Reader", (237, ("estate", 2000017))), [101, 115, 116, 97, 116, 101]), (("MirrorHeirs$Reader", (239, ("sees", 2000018))), [115, 101, 101, 115]), (("MirrorHeirs$Reader", (189, ("*", 2000019))), [42]), (("MirrorHeirs$Reader", (191, ("/", 2000020))), [47]), (("MirrorHeirs$Reader", (193, ("%", 2000021))), [37]), (("MirrorHeirs$Reader", (182, ("+", 2000022))), [43]), (("MirrorHeirs$Reader", (184, ("-", 2000023))), [45]), (("MirrorHeirs$Reader", (124, ("bars", 2000024))), [98, 97, 114, 115]), (("MirrorHeirs$Reader", (139, ("if", 2000025))), [105, 102]), (("MirrorHeirs$Reader", (160, ("not", 2000026))), [110, 111, 116]), (("MirrorHeirs$Reader", (162, ("(", 2000027))), [40]), (("MirrorHeirs$Reader", (167, (")", 2000028))), [41]), (("MirrorHeirs$Reader", (173, ("<", 2000029))), [60]), (("MirrorHeirs$Reader", (175, (">", 2000030))), [62]), (("MirrorHeirs$Reader", (177, ("=", 2000031))), [61]), (("MirrorHeirs$Reader", (158, ("and", 2000032))), [97, 110, 100]), (("MirrorHeirs$Reader", (147, ("or", 2000033))), [111, 114]), (("MirrorHeirs$Reader", (77, (";", 2000034))), [59]), (("MirrorHeirs$Reader", (126, ("turn", 2000035))), [116, 117, 114, 110]), (("MirrorHeirs$Reader", (128, ("move", 2000036))), [109, 111, 118, 101]), (("MirrorHeirs$Reader", (130, ("to", 2000037))), [116, 111]), (("MirrorHeirs$Reader", (132, ("wait", 2000038))), [119, 97, 105, 116]), (("MirrorHeirs$Reader", (134, ("times", 2000039))), [116, 105, 109, 101, 115])]
theorem xq_map : xsl = xq.map (fun q => q.1) := rfl
noncomputable def xq_F : List Cond := flatC (Jvm.Cond.and given_1 narrow_1)
def xq_t (q : (String × (Nat × (String × Nat))) × List Nat) : Term := .string q.1.1 q.1.2.1
def xq_v (q : (String × (Nat × (String × Nat))) × List Nat) : Term := .field (xq_t q) "java/lang/String" "value" "[B"
theorem xq_1 : xq.all (fun q => decide (Cond.exactly (xq_t q) "java/lang/String" ∈ flatC (Jvm.Cond.and given_1 narrow_1)) && decide (Cond.stringRef q.1.1 q.1.2.1 q.1.2.2.1 ∈ lw_tbl)) = true := by decide +kernel
theorem xq_2 : xq.all (fun q => decide (Cond.eq (.field (xq_t q) "java/lang/String" "coder" "B") (.int 0) ∈ flatC (Jvm.Cond.and given_1 narrow_1)) && decide (Cond.arrayOf (xq_v q) .byte ∈ flatC (Jvm.Cond.and given_1 narrow_1))) = true := by decide +kernel
theorem xq_3 : xq.all (fun q => decide (Cond.eq (.length (xq_v q)) (.int (Int32.ofNat q.2.length)) ∈ flatC (Jvm.Cond.and given_1 narrow_1))) = true := by decide +kernel
theorem xq_4 : xq.all (fun q => (List.range q.2.length).all (fun j => decide (Cond.eq (.elem (xq_v q) (.int (Int32.ofNat j))) (.int (Int32.ofNat (q.2.getD j 0))) ∈ flatC (Jvm.Cond.and given_1 narrow_1)))) = true := by decide +kernel
theorem xq_5 : xq.all (fun q => decide (q.2.length < 2 ^ 31) && (decide (2000000 ≤ q.1.2.2.2) && decide (q.1.2.2.2 < 2400000))) = true := by decide +kernel
theorem xq_nodup : (xq.map (fun q => q.1.2.2.2)).Nodup := by decide +kernel
/-- a text as it lies in the heap -/
def xq_P (s : State) (q : (String × (Nat × (String × Nat))) × List Nat) (a : Nat) : Prop := vk_R q.1.1 q.1.2.1 q.1.2.2.1 a s ∧ va_O "java/lang/String" a (fun x => s.heap.size ≤ x) s s.heap ∧ va_OF "java/lang/String" "coder" "B" (.int 0) a (fun x => s.heap.size ≤ x) s s.heap ∧ ∃ t : Nat, va_OF "java/lang/String" "value" "[B" (.ref t) a (fun x => s.heap.size ≤ x) s s.heap ∧ va_T .byte t q.2.length (fun j => .int (Int32.ofNat (q.2.getD j 0))) (fun x => s.heap.size ≤ x) s s.heap
theorem xq_ok {s : State} {b : Nat} (hts : ∀ w ∈ lw_tbl, w.before #[Value.ref b] s = true) (hs : ∀ c ∈ flatC (Jvm.Cond.and given_1 narrow_1), c.before #[Value.ref b] s = true) : ∀ q ∈ xq, ∃ a, xq_P s q a := by
  intro q hq
  have hA : ∀ a : Nat, a < s.heap.size → ¬ (fun q : Nat => s.heap.size ≤ q) a := fun a h => Nat.not_le.mpr h
  have w1 := Bool.and_eq_true_iff.mp (List.all_eq_true.mp xq_1 q hq)
  have w2 := Bool.and_eq_true_iff.mp (List.all_eq_true.mp xq_2 q hq)
  have w3 := List.all_eq_true.mp xq_3 q hq
  have w4 := List.all_eq_true.mp xq_4 q hq
  have w5 := Bool.and_eq_true_iff.mp (List.all_eq_true.mp xq_5 q hq)
  obtain ⟨a, c, cA, kA, q1, q2, q3, q4, q5, q6, -⟩ := Cond.exactly_spec (args := #[Value.ref b]) (first := s) (o := none) (s := s) (idx := []) (t := xq_t q) (cls := "java/lang/String") (hs _ (of_decide_eq_true w1.1))
  obtain ⟨t, ht, hT⟩ := va_Tof (f := fun j => Value.int (Int32.ofNat (q.2.getD j 0))) (A := fun q => s.heap.size ≤ q) (of_decide_eq_true w5.1) (hs _ (of_decide_eq_true w2.2)) (va_eqt (hs _ (of_decide_eq_true w3))) (fun j hj => va_eqt (hs _ (of_decide_eq_true (List.all_eq_true.mp w4 j (List.mem_range.mpr hj))))) hA
  exact ⟨a, vk_R.of (hts _ (of_decide_eq_true w1.2)) q1, ⟨cA, q3, q5, by rw [q6]; exact q2, hA a (Array.getElem?_eq_some_iff.mp q3).1⟩, vk_OFof q1 (va_eqt (hs _ (of_decide_eq_true w2.1))) hA, t, vk_OFof q1 ht hA, hT⟩
def pt (P : Nat → (Nat × ix_A) → Prop) (i : Nat) (r : Option (Nat × ix_A)) : Prop := ∀ q, r = some q → P i q
theorem pt_b {P : Nat → (Nat × ix_A) → Prop} {i : Nat} {x : Bool} {a b : Option (Nat × ix_A)} (h1 : pt P i a) (h2 : pt P i b) : pt P i (cond x a b) := by
  cases x
  · exact h2
  · exact h1
theorem pt_l {P : Nat → (Nat × ix_A) → Prop} {i k : Nat} {q : Nat × ix_A} (h : P k q) : pt P i (cond (Nat.beq i k) (some q) none) := by
  intro q' hq
  cases hb : Nat.beq i k with
  | false => rw [hb] at hq; cases hq
  | true =>
    rw [hb] at hq
    cases hq
    rw [ix_beq.mp hb]
    exact h
theorem xstx {P : Nat → Prop} (h : ∀ q ∈ xq, P q.1.2.2.2) (i : Nat) : pt (fun i _ => P i) i (ix_stx i) := by
  unfold ix_stx
  exact (pt_b (pt_b (pt_b (pt_b (pt_b (pt_l (h _ (List.mem_of_getElem? (i := 0) rfl))) (pt_l (h _ (List.mem_of_getElem? (i := 1) rfl)))) (pt_b (pt_l (h _ (List.mem_of_getElem? (i := 2) rfl))) (pt_b (pt_l (h _ (List.mem_of_getElem? (i := 3) rfl))) (pt_l (h _ (List.mem_of_getElem? (i := 4) rfl)))))) (pt_b (pt_b (pt_l (h _ (List.mem_of_getElem? (i := 5) rfl))) (pt_l (h _ (List.mem_of_getElem? (i := 6) rfl)))) (pt_b (pt_l (h _ (List.mem_of_getElem? (i := 7) rfl))) (pt_b (pt_l (h _ (List.mem_of_getElem? (i := 8) rfl))) (pt_l (h _ (List.mem_of_getElem? (i := 9) rfl))))))) (pt_b (pt_b (pt_b (pt_l (h _ (List.mem_of_getElem? (i := 10) rfl))) (pt_l (h _ (List.mem_of_getElem? (i := 11) rfl)))) (pt_b (pt_l (h _ (List.mem_of_getElem? (i := 12) rfl))) (pt_b (pt_l (h _ (List.mem_of_getElem? (i := 13) rfl))) (pt_l (h _ (List.mem_of_getElem? (i := 14) rfl)))))) (pt_b (pt_b (pt_l (h _ (List.mem_of_getElem? (i := 15) rfl))) (pt_l (h _ (List.mem_of_getElem? (i := 16) rfl)))) (pt_b (pt_l (h _ (List.mem_of_getElem? (i := 17) rfl))) (pt_b (pt_l (h _ (List.mem_of_getElem? (i := 18) rfl))) (pt_l (h _ (List.mem_of_getElem? (i := 19) rfl)))))))) (pt_b (pt_b (pt_b (pt_b (pt_l (h _ (List.mem_of_getElem? (i := 20) rfl))) (pt_l (h _ (List.mem_of_getElem? (i := 21) rfl)))) (pt_b (pt_l (h _ (List.mem_of_getElem? (i := 22) rfl))) (pt_b (pt_l (h _ (List.mem_of_getElem? (i := 23) rfl))) (pt_l (h _ (List.mem_of_getElem? (i := 24) rfl)))))) (pt_b (pt_b (pt_l (h _ (List.mem_of_getElem? (i := 25) rfl))) (pt_l (h _ (List.mem_of_getElem? (i := 26) rfl)))) (pt_b (pt_l (h _ (List.mem_of_getElem? (i := 27) rfl))) (pt_b (pt_l (h _ (List.mem_of_getElem? (i := 28) rfl))) (pt_l (h _ (List.mem_of_getElem? (i := 29) rfl))))))) (pt_b (pt_b (pt_b (pt_l (h _ (List.mem_of_getElem? (i := 30) rfl))) (pt_l (h _ (List.mem_of_getElem? (i := 31) rfl)))) (pt_b (pt_l (h _ (List.mem_of_getElem? (i := 32) rfl))) (pt_b (pt_l (h _ (List.mem_of_getElem? (i := 33) rfl))) (pt_l (h _ (List.mem_of_getElem? (i := 34) rfl)))))) (pt_b (pt_b (pt_l (h _ (List.mem_of_getElem? (i := 35) rfl))) (pt_l (h _ (List.mem_of_getElem? (i := 36) rfl)))) (pt_b (pt_l (h _ (List.mem_of_getElem? (i := 37) rfl))) (pt_b (pt_l (h _ (List.mem_of_getElem? (i := 38) rfl))) (pt_l (h _ (List.mem_of_getElem? (i := 39) rfl)))))))))
noncomputable def xq_c (len : Nat) (f : ix_A) (cs : List Nat) : Bool := Nat.beq len cs.length && (List.range len).all (fun j => match ix_g f j with
  | .inl c => Nat.beq c (cs.getD j 0) && Nat.blt c 128
  | _ => false)
theorem xq_c_ok {len : Nat} {f : ix_A} {cs : List Nat} (h : xq_c len f cs = true) : len = cs.length ∧ ∀ j, j < len → ∃ c, ix_g f j = .inl c ∧ c < 128 ∧ Int32.ofNat (cs.getD j 0) = Int32.ofNat c := by
  have c := Bool.and_eq_true_iff.mp h
  refine ⟨ix_beq.mp c.1, fun j hj => ?_⟩
  have w := List.all_eq_true.mp c.2 j (List.mem_range.mpr hj)
  split at w
  · rename_i c hc
    have w2 := Bool.and_eq_true_iff.mp w
    exact ⟨c, hc, ix_blt.mp w2.2, by rw [ix_beq.mp w2.1]⟩
  · cases w
theorem xsty {P : Nat → (Nat × ix_A) → Prop} (h : ∀ q ∈ xq, ∀ len f, xq_c len f q.2 = true → P (q.1.2.2.2 + 1000000) (len, f)) (i : Nat) : pt P i (ix_sty i) := by
  unfold ix_sty
  exact (pt_b (pt_b (pt_b (pt_b (pt_b (pt_l (h _ (List.mem_of_getElem? (i := 0) rfl) _ _ (by decide +kernel))) (pt_l (h _ (List.mem_of_getElem? (i := 1) rfl) _ _ (by decide +kernel)))) (pt_b (pt_l (h _ (List.mem_of_getElem? (i := 2) rfl) _ _ (by decide +kernel))) (pt_b (pt_l (h _ (List.mem_of_getElem? (i := 3) rfl) _ _ (by decide +kernel))) (pt_l (h _ (List.mem_of_getElem? (i := 4) rfl) _ _ (by decide +kernel)))))) (pt_b (pt_b (pt_l (h _ (List.mem_of_getElem? (i := 5) rfl) _ _ (by decide +kernel))) (pt_l (h _ (List.mem_of_getElem? (i := 6) rfl) _ _ (by decide +kernel)))) (pt_b (pt_l (h _ (List.mem_of_getElem? (i := 7) rfl) _ _ (by decide +kernel))) (pt_b (pt_l (h _ (List.mem_of_getElem? (i := 8) rfl) _ _ (by decide +kernel))) (pt_l (h _ (List.mem_of_getElem? (i := 9) rfl) _ _ (by decide +kernel))))))) (pt_b (pt_b (pt_b (pt_l (h _ (List.mem_of_getElem? (i := 10) rfl) _ _ (by decide +kernel))) (pt_l (h _ (List.mem_of_getElem? (i := 11) rfl) _ _ (by decide +kernel)))) (pt_b (pt_l (h _ (List.mem_of_getElem? (i := 12) rfl) _ _ (by decide +kernel))) (pt_b (pt_l (h _ (List.mem_of_getElem? (i := 13) rfl) _ _ (by decide +kernel))) (pt_l (h _ (List.mem_of_getElem? (i := 14) rfl) _ _ (by decide +kernel)))))) (pt_b (pt_b (pt_l (h _ (List.mem_of_getElem? (i := 15) rfl) _ _ (by decide +kernel))) (pt_l (h _ (List.mem_of_getElem? (i := 16) rfl) _ _ (by decide +kernel)))) (pt_b (pt_l (h _ (List.mem_of_getElem? (i := 17) rfl) _ _ (by decide +kernel))) (pt_b (pt_l (h _ (List.mem_of_getElem? (i := 18) rfl) _ _ (by decide +kernel))) (pt_l (h _ (List.mem_of_getElem? (i := 19) rfl) _ _ (by decide +kernel)))))))) (pt_b (pt_b (pt_b (pt_b (pt_l (h _ (List.mem_of_getElem? (i := 20) rfl) _ _ (by decide +kernel))) (pt_l (h _ (List.mem_of_getElem? (i := 21) rfl) _ _ (by decide +kernel)))) (pt_b (pt_l (h _ (List.mem_of_getElem? (i := 22) rfl) _ _ (by decide +kernel))) (pt_b (pt_l (h _ (List.mem_of_getElem? (i := 23) rfl) _ _ (by decide +kernel))) (pt_l (h _ (List.mem_of_getElem? (i := 24) rfl) _ _ (by decide +kernel)))))) (pt_b (pt_b (pt_l (h _ (List.mem_of_getElem? (i := 25) rfl) _ _ (by decide +kernel))) (pt_l (h _ (List.mem_of_getElem? (i := 26) rfl) _ _ (by decide +kernel)))) (pt_b (pt_l (h _ (List.mem_of_getElem? (i := 27) rfl) _ _ (by decide +kernel))) (pt_b (pt_l (h _ (List.mem_of_getElem? (i := 28) rfl) _ _ (by decide +kernel))) (pt_l (h _ (List.mem_of_getElem? (i := 29) rfl) _ _ (by decide +kernel))))))) (pt_b (pt_b (pt_b (pt_l (h _ (List.mem_of_getElem? (i := 30) rfl) _ _ (by decide +kernel))) (pt_l (h _ (List.mem_of_getElem? (i := 31) rfl) _ _ (by decide +kernel)))) (pt_b (pt_l (h _ (List.mem_of_getElem? (i := 32) rfl) _ _ (by decide +kernel))) (pt_b (pt_l (h _ (List.mem_of_getElem? (i := 33) rfl) _ _ (by decide +kernel))) (pt_l (h _ (List.mem_of_getElem? (i := 34) rfl) _ _ (by decide +kernel)))))) (pt_b (pt_b (pt_l (h _ (List.mem_of_getElem? (i := 35) rfl) _ _ (by decide +kernel))) (pt_l (h _ (List.mem_of_getElem? (i := 36) rfl) _ _ (by decide +kernel)))) (pt_b (pt_l (h _ (List.mem_of_getElem? (i := 37) rfl) _ _ (by decide +kernel))) (pt_b (pt_l (h _ (List.mem_of_getElem? (i := 38) rfl) _ _ (by decide +kernel))) (pt_l (h _ (List.mem_of_getElem? (i := 39) rfl) _ _ (by decide +kernel)))))))))
/-! the script's row, the rows of constants -/
noncomputable def lw_mk : Nat → (Nat → ix_V) → ix_A
  | 0, g => .leaf (g 0)
  | d + 1, g => .branch 0 (lw_mk d (fun j => g (2 * j))) (lw_mk d (fun j => g (2 * j + 1)))
theorem lw_mk_g : ∀ (d : Nat) (g : Nat → ix_V) (j : Nat), j < 2 ^ d → ix_g (lw_mk d g) j = g j
  | 0, g, j, h => by
    have : j = 0 := by simpa using h
    subst this
    rfl
  | d + 1, g, j, h => by
    have e : 2 ^ (d + 1) = 2 * 2 ^ d := by rw [Nat.pow_succ]; omega
    show ix_g (.branch 0 (lw_mk d (fun j => g (2 * j))) (lw_mk d (fun j => g (2 * j + 1)))) j = _
    rw [ix_g_branch]
    by_cases hj : j % 2 = 0
    · rw [if_pos hj, lw_mk_g d _ _ (by omega)]
      show g (2 * (j / 2)) = g j
      rw [show 2 * (j / 2) = j by omega]
    · rw [if_neg hj, lw_mk_g d _ _ (by omega)]
      show g (2 * (j / 2) + 1) = g j
      rw [show 2 * (j / 2) + 1 = j by omega]
noncomputable def lw_f1 : ix_A := .branch 0 (.branch 0 (.leaf (.inl 1)) (.leaf (.inl 0))) (.leaf (.inl 0))
noncomputable def lw_f2 : ix_A := .branch 0 (.branch 0 (.leaf (.inl 6)) (.leaf (.inl 10))) (.leaf (.inl 23))
noncomputable def lw_O (z : Option (Nat × ix_A)) (L : Nat) (f : ix_A) : ix_O := fun i => cond (Nat.beq i 0) z (cond (Nat.beq i 1000000) (some (L, f)) (cond (Nat.beq i 1000001) (some (3, lw_f1)) (cond (Nat.beq i 1000002) (some (3, lw_f2)) none)))
theorem lw_hO (z : Option (Nat × ix_A)) (L : Nat) (f : ix_A) : ty_hO (lw_O z L f) := by
  intro p m v h
  unfold ty_oc at h
  cases e1 : Nat.beq p 1000001 with
  | true =>
    rw [e1, cond_true] at h
    rw [ix_beq.mp e1]
    refine ⟨lw_f1, rfl, ?_⟩
    match m, h with
    | 0, h => cases h; exact ⟨by decide, rfl⟩
    | 1, h => cases h; exact ⟨by decide, rfl⟩
    | 2, h => cases h; exact ⟨by decide, rfl⟩
    | m + 3, h =>
      have : Nat.blt (m + 3) 3 = false := ix_blt_f.mpr (by omega)
      change cond (Nat.beq (m + 3) 0) (some 1) (cond (Nat.blt (m + 3) 3) (some 0) none) = some v at h
      rw [this, ix_beq_f.mpr (show ¬ m + 3 = 0 by omega)] at h
      cases h
  | false =>
    rw [e1, cond_false] at h
    cases e2 : Nat.beq p 1000002 with
    | false => rw [e2] at h; cases h
    | true =>
      rw [e2, cond_true] at h
      rw [ix_beq.mp e2]
      refine ⟨lw_f2, rfl, ?_⟩
      match m, h with
      | 0, h => cases h; exact ⟨by decide, rfl⟩
      | 1, h => cases h; exact ⟨by decide, rfl⟩
      | 2, h => cases h; exact ⟨by decide, rfl⟩
      | m + 3, h =>
        change cond (Nat.beq (m + 3) 0) (some 6) (cond (Nat.beq (m + 3) 1) (some 23) (cond (Nat.beq (m + 3) 2) (some 10) none)) = some v at h
        rw [ix_beq_f.mpr (show ¬ m + 3 = 0 by omega), ix_beq_f.mpr (show ¬ m + 3 = 1 by omega), ix_beq_f.mpr (show ¬ m + 3 = 2 by omega)] at h
        cases h
def lw_σ : ix_Sg := (fun _ => 0, fun _ => .inr (0, []))
theorem lw_ref {s : State} {args : Array Value} {t : Term} (h : (Cond.isRef t).before args s = true) : t.eval args s none [] s = some .null ∨ ∃ a : Nat, t.eval args s none [] s = some (.ref a) := by
  cases hv : t.eval args s none [] s with
  | none => simp [Cond.before, Cond.holds, Cond.value, hv] at h
  | some w =>
    cases w with
    | ref a => exact Or.inr ⟨a, rfl⟩
    | null => exact Or.inl rfl
    | _ => simp [Cond.before, Cond.holds, Cond.value, hv] at h

theorem xq_6 : xq.all (fun q => decide (q.2.length ≤ 16384)) = true := by decide +kernel
theorem xlaw_iand : ix_at code 32 .iand 1 33 := (ix_dec xd_L_law_0 20 rfl)
/-- every script of at most 3072 ints -/
theorem whole_start {p : Program} {e : Env} {s : State} {m : MethodId} {below : List Frame} {meth : Method} {c : Code} (l : Launch) (hflags : l.flags = flags0) {b L : Nat} {xs : Nat → Int32} (hL : L ≤ 3072) (C0 : lw_At p s m meth c b L xs) : W p l e room_1 s m #[Value.ref b] below meth c s.heap [] 0 0 (lw_Z below #[Value.ref b] s) (entryFrame m ([Value.ref b] : List Value).toArray 4) := by
  obtain ⟨hx, hb, hr, hml, hown, hts, hX, hbl, hlocks, hgv⟩ := id C0
  have hs := flat_of_before _ hgv
  have hts2 : ∀ w ∈ xTs, w.before #[Value.ref b] s = true := fun w hw => hts w (List.mem_filter.mp hw).1
  obtain ⟨dT, hdT⟩ := xb_arrays hts
  obtain ⟨dC, dI, hcl⟩ := xb_classes hts2
  obtain ⟨b1, t1, z1⟩ := xb_row (nm := "LEAST_TERMS") (f := xc1) hts hs (by decide +kernel) (by decide +kernel) (by decide +kernel) (by decide +kernel)
  obtain ⟨b2, t2, z2⟩ := xb_row (nm := "MOST_TERMS") (f := xc2) hts hs (by decide +kernel) (by decide +kernel) (by decide +kernel) (by decide +kernel)
  obtain ⟨g, hg⟩ := ix_pick (fun q : (String × (Nat × (String × Nat))) × List Nat => q.1.2.2.2) (P := fun q a => xq_P s q a) xq xq_nodup (xq_ok hts hs)
  obtain ⟨g2, hg2⟩ := ix_pick (fun q : (String × (Nat × (String × Nat))) × List Nat => q.1.2.2.2) (P := fun q t => va_OF "java/lang/String" "value" "[B" (.ref t) (g q.1.2.2.2) (fun x => s.heap.size ≤ x) s s.heap ∧ va_T .byte t q.2.length (fun j => .int (Int32.ofNat (q.2.getD j 0))) (fun x => s.heap.size ≤ x) s s.heap) xq xq_nodup (fun q hq => (hg q hq).2.2.2)
  have hsz : ∀ q ∈ xq, 2000000 ≤ q.1.2.2.2 ∧ q.1.2.2.2 < 2400000 := fun q hq => by
    have w := Bool.and_eq_true_iff.mp (Bool.and_eq_true_iff.mp (List.all_eq_true.mp xq_5 q hq)).2
    exact ⟨of_decide_eq_true w.1, of_decide_eq_true w.2⟩
  have hA : ∀ a : Nat, a < s.heap.size → ¬ (fun q : Nat => s.heap.size ≤ q) a := fun a h => Nat.not_le.mpr h
  have zc : va_Z "java/lang/String" "COMPACT_STRINGS" "Z" (.int 1) (fun x => s.heap.size ≤ x) s s.heap := va_Zof (hts (.laysStatic "java/lang/String" "COMPACT_STRINGS" "Z") (by decide +kernel)) (hts (.initialized "java/lang/String") (by decide +kernel)) (va_eqt (hs (.eq (.static "java/lang/String" "COMPACT_STRINGS" "Z") (.int 1)) (by decide +kernel))) hA
  obtain ⟨z0, bf, hz0⟩ : ∃ (z : Option (Nat × ix_A)) (bf : Nat), (z = none ∧ va_Z "jdk/internal/util/Preconditions" "SIOOBE_FORMATTER" "Ljava/util/function/BiFunction;" .null (fun x => s.heap.size ≤ x) s s.heap) ∨ (∃ u, z = some u) ∧ va_Z "jdk/internal/util/Preconditions" "SIOOBE_FORMATTER" "Ljava/util/function/BiFunction;" (.ref bf) (fun x => s.heap.size ≤ x) s s.heap := by
    have w1 := hts (.laysStatic "jdk/internal/util/Preconditions" "SIOOBE_FORMATTER" "Ljava/util/function/BiFunction;") (by decide +kernel)
    have w2 := hts (.initialized "jdk/internal/util/Preconditions") (by decide +kernel)
    rcases lw_ref (hs (.isRef (.static "jdk/internal/util/Preconditions" "SIOOBE_FORMATTER" "Ljava/util/function/BiFunction;")) (by decide +kernel)) with hbf | ⟨bf, hbf⟩
    · exact ⟨none, 0, Or.inl ⟨rfl, va_Zof w1 w2 hbf hA⟩⟩
    · exact ⟨some (0, .leaf (.inl 0)), bf, Or.inr ⟨⟨_, rfl⟩, va_Zof w1 w2 hbf hA⟩⟩
  obtain ⟨v, hvd⟩ : ∃ v : Nat → Nat, ∀ j, v j = (xs j).toBitVec.toNat := ⟨fun j => (xs j).toBitVec.toNat, fun _ => rfl⟩
  have hv32 : ∀ j, v j < 4294967296 := fun j => by rw [hvd]; exact (xs j).toBitVec.isLt
  obtain ⟨f, hf0⟩ : ∃ f : ix_A, ∀ j, j < 2 ^ 12 → ix_g f j = .inl (v j) := ⟨lw_mk 12 (fun j => .inl (v j)), fun j hj => lw_mk_g 12 _ j hj⟩
  have hf : ∀ j, j < L → ix_g f j = .inl (v j) := fun j hj => hf0 j (by omega)
  obtain ⟨o, ho, f0, hrun⟩ := lw_whole (lw_hO z0 L f) (L := L) (f := f) rfl hf hv32 hL
  generalize hO : lw_O z0 L f = O at hrun
  have hO0 : O 0 = z0 := by rw [← hO]; rfl
  obtain ⟨ad0, ha0, ha1, ha2, haf, ha3, ha5, ha4⟩ : ∃ ad0 : Nat → Option Nat, ad0 1000000 = some b ∧ ad0 1000001 = some b1 ∧ ad0 1000002 = some b2 ∧ ad0 2500000 = some bf ∧ (∀ i, 2000000 ≤ i → i < 2400000 → ad0 i = some (g i)) ∧ (∀ i, 2000000 ≤ i → ad0 (i + 1000000) = some (g2 i)) ∧ ∀ i, i < 1000000 → ad0 i = none :=
    ⟨fun i => if i = 1000000 then some b else if i = 1000001 then some b1 else if i = 1000002 then some b2 else if i = 2500000 then some bf else if 3000000 ≤ i then some (g2 (i - 1000000)) else if 2000000 ≤ i then some (g i) else none, by simp, by simp, by simp, by simp, fun i hi hi2 => by
      dsimp only
      rw [if_neg (by omega), if_neg (by omega), if_neg (by omega), if_neg (by omega), if_neg (by omega), if_pos hi], fun i hi => by
      dsimp only
      rw [if_neg (by omega), if_neg (by omega), if_neg (by omega), if_neg (by omega), if_pos (by omega), Nat.add_sub_cancel], fun i hi => by
      dsimp only
      rw [if_neg (by omega), if_neg (by omega), if_neg (by omega), if_neg (by omega), if_neg (by omega), if_neg (by omega)]⟩
  have htx : ix_txt s (fun q => s.heap.size ≤ q) ad0 O := by
    refine ⟨fun i q hi => xstx (P := fun i => ∃ a b : Nat, ad0 i = some a ∧ ad0 (i + 1000000) = some b ∧ va_O "java/lang/String" a (fun x => s.heap.size ≤ x) s s.heap ∧ va_OF "java/lang/String" "coder" "B" (.int 0) a (fun x => s.heap.size ≤ x) s s.heap ∧ va_OF "java/lang/String" "value" "[B" (.ref b) a (fun x => s.heap.size ≤ x) s s.heap) (fun q hq => ?_) i q hi, fun i len f hi => xsty (P := fun i q => ∃ b : Nat, ad0 i = some b ∧ ∃ xs : Nat → Int32, va_T .byte b q.1 (fun j => .int (xs j)) (fun x => s.heap.size ≤ x) s s.heap ∧ q.1 ≤ 16384 ∧ ∀ j, j < q.1 → ∃ c, ix_g q.2 j = .inl c ∧ c < 128 ∧ xs j = Int32.ofNat c) (fun q hq len f hc => ?_) i (len, f) hi, zc, ?_⟩
    · obtain ⟨z1, z2⟩ := hsz q hq
      exact ⟨_, _, ha3 _ z1 z2, ha5 _ z1, (hg q hq).2.1, (hg q hq).2.2.1, (hg2 q hq).1⟩
    · obtain ⟨z1, z2⟩ := hsz q hq
      obtain ⟨hlen, hch⟩ := xq_c_ok hc
      have w5 := of_decide_eq_true (List.all_eq_true.mp xq_6 q hq)
      exact ⟨_, ha5 _ z1, fun j => Int32.ofNat (q.2.getD j 0), by rw [hlen]; exact (hg2 q hq).2, by show len ≤ 16384; omega, hch⟩
    · rcases hz0 with ⟨y1, y2⟩ | ⟨⟨u, y1⟩, y2⟩
      · exact Or.inl ⟨hO0.trans y1, y2⟩
      · exact Or.inr ⟨u, bf, hO0.trans y1, haf, y2⟩
  have hgl : ix_gl s lw_σ (fun q => s.heap.size ≤ q) ad0 O xsl := by
    refine ⟨fun i len f hi hOi => ?_, fun q hq => ?_, fun q hq => ?_, va_AO.of (hts (.arrayOver (.object "MirrorHeirs$Text")) (by decide +kernel)), va_AO.of (hts (.arrayOver (.object "MirrorHeirs$Hall")) (by decide +kernel)), fun q hq => ?_, htx⟩
    · rw [← hO] at hOi
      unfold lw_O at hOi
      rw [ix_beq_f.mpr (show ¬ i = 0 by omega), cond_false] at hOi
      cases e0 : Nat.beq i 1000000 with
      | true =>
        rw [e0] at hOi
        cases hOi
        rw [ix_beq.mp e0]
        refine ⟨b, xs, ha0, ?_, by omega, fun j hj ad => ?_⟩
        · obtain ⟨scr, s1, s2, s3, s4, s5⟩ := hX
          exact ⟨scr, s1, s2, s3, by omega, by rw [s4], fun j hj => s5 j hj, Nat.not_le.mpr hbl⟩
        · rw [hf j hj]
          exact ⟨hv32 j, by rw [hvd, ix_bk]⟩
      | false =>
        rw [e0] at hOi
        dsimp only [cond_false] at hOi
        cases e1 : Nat.beq i 1000001 with
        | true =>
          rw [e1] at hOi
          cases hOi
          rw [ix_beq.mp e1]
          refine ⟨b1, xc1, ha1, t1, by decide, fun j hj ad => ?_⟩
          rcases (show j = 0 ∨ j = 1 ∨ j = 2 by omega) with rfl | rfl | rfl
          · exact ⟨by decide, rfl⟩
          · exact ⟨by decide, rfl⟩
          · exact ⟨by decide, rfl⟩
        | false =>
          rw [e1] at hOi
          dsimp only [cond_false] at hOi
          cases e2 : Nat.beq i 1000002 with
          | true =>
            rw [e2] at hOi
            cases hOi
            rw [ix_beq.mp e2]
            refine ⟨b2, xc2, ha2, t2, by decide, fun j hj ad => ?_⟩
            rcases (show j = 0 ∨ j = 1 ∨ j = 2 by omega) with rfl | rfl | rfl
            · exact ⟨by decide, rfl⟩
            · exact ⟨by decide, rfl⟩
            · exact ⟨by decide, rfl⟩
          | false => rw [e2] at hOi; cases hOi
    · rcases List.mem_cons.mp hq with rfl | hq
      · exact ⟨b1, ha1, z1⟩
      · rcases List.mem_cons.mp hq with rfl | hq
        · exact ⟨b2, ha2, z2⟩
        · cases hq
    · rw [xq_map] at hq
      obtain ⟨q', hq', rfl⟩ := List.mem_map.mp hq
      obtain ⟨y1, y2⟩ := hsz q' hq'
      exact ⟨_, ha3 _ y1 y2, (hg q' hq').1⟩
    · have hall : ∀ q ∈ ix_nest, Cond.methodLinkNest q.1 q.2.1 q.2.2.1 q.2.2.2 ∈ lw_tbl := by decide +kernel
      exact va_Nw.of rfl (hts _ (hall q hq))
  have hK : va_K (dC, dI) xcl (ix_tys dT) s := ⟨hcl, hdT⟩
  have hCO := ix_exec_ok (l := l) (Ts := xTs) (cl := xcl) (O := O) (sl := xsl) (J := xJ) (M := ix_tbl O) (S0 := ty_no) (fuel := f0) (fun y => xM y) (fun d y as B n t outs h => by cases h) xgood 410
  have hctx : ix_ctx ((p, l, e, room_1, s), (m, #[Value.ref b], below, meth, c), lw_Z below #[Value.ref b] s) (xcl, lw_σ, (dC, dI), dT, (fun q => s.heap.size ≤ q), ad0, 4, (600000, 7302250), lw_end) "MirrorHeirsLaw" code xTs :=
    ⟨hx, hb, hml, hown, hts2, hK, fun q hq => hq, Nat.le_refl _, Nat.le_refl _⟩
  have henv : ix_env ((p, l, e, room_1, s), (m, #[Value.ref b], below, meth, c), lw_Z below #[Value.ref b] s) (xcl, lw_σ, (dC, dI), dT, (fun q => s.heap.size ≤ q), ad0, 4, (600000, 7302250), lw_end) "MirrorHeirsLaw" code xTs O xsl xJ 410 (ix_exec (ix_tbl O) ty_no f0 410) :=
    ⟨hctx, hgl, hCO, (by decide : 410 + 1 ≤ room_1.frames), (by decide : 64 * 410 + 64 ≤ room_1.locals), xgood⟩
  have hret : ∀ pc nx, ix_at code pc .ireturn 1 nx → ix_ok ((p, l, e, room_1, s), (m, #[Value.ref b], below, meth, c), lw_Z below #[Value.ref b] s) (xcl, lw_σ, (dC, dI), dT, (fun q => s.heap.size ≤ q), ad0, 4, (600000, 7302250), lw_end) pc (ix_ret ix_isBit) := by
    intro pc nx h S outs hf hg
    obtain ⟨BB, LL, st, nn, t, ce, sl2⟩ := S
    unfold ix_ret at hf
    split at hf
    · rename_i x _ e9
      cases e9
      cases ho : ix_isBit x with
      | false => rw [ho] at hf; cases hf
      | true =>
        rw [ho] at hf
        cases hf
        have hfin : lw_end (BB, [], [x], nn, t, ce, sl2) := by
          have := hg _ List.mem_cons_self
          unfold ix_Go at this
          rw [if_pos rfl] at this
          exact this
        have hx1 : x = ix_vI 1 := by
          have z := hfin.2
          dsimp only at z
          exact (List.cons.inj z).1
        subst hx1
        refine ix_go_i h.lt fun ad ws H locs ls stk hrel hS => ?_
        obtain ⟨h1, h2, h3, h4, h5, h6, h7⟩ := hrel
        obtain ⟨v, vs, rfl, q2, q3⟩ := ix_rs_1 h3
        have := ix_rs_0 q3
        subst this
        obtain ⟨_, rfl⟩ := q2
        refine va_forget (fun q hq => hS.2.2 q hq) ?_
        refine W.widen (k := 600000) (n := 7302250) h6 h7 ?_
        exact lw_ret hx hb hr hlocks h.1
    · cases hf
  have hok0 := fun pc => xm_L_law henv rfl (by show (0 : Int32) = 0 &&& 63; decide) hret rfl rfl pc
  have hok : ∀ pc, ix_ok ((p, l, e, room_1, s), (m, #[Value.ref b], below, meth, c), lw_Z below #[Value.ref b] s) (xcl, lw_σ, (dC, dI), dT, (fun q => s.heap.size ≤ q), ad0, 4, (600000, 7302250), lw_end) pc (ix_cLw O (ix_exec (ix_tbl O) ty_no f0 410) pc) := by
    intro pc
    unfold ix_cLw
    cases hpc : Nat.beq pc 32 with
    | false => exact hok0 pc
    | true =>
      rw [ix_beq.mp hpc, cond_true]
      exact io_iand hctx xlaw_iand
  have hgo := ix_loop_ok hok f0 0 _ _ (hrun f0 (Nat.le_refl _) f0 (Nat.le_refl _)) (fun q hq => by rw [List.mem_singleton.mp hq]; exact ho)
  rw [lg_entry_eq]
  refine ix_go_e (by decide) hgo ad0 [] s.heap [] _ [] ⟨fun x lo hi h => by simp at h, ?_, trivial, ix_ext.rf, ⟨rfl, Nat.zero_le _, fun i _ hi => ha4 i hi, fun i hi => absurd hi (Nat.not_lt_zero i), fun k q h => by simp at h, ⟨fun i j p q h => by simp at h, fun k q h => by simp at h⟩⟩, Nat.zero_le _, Nat.zero_le _⟩ va_S.rf
  exact ix_entry (as := [ix_vR 1000001]) (nL := 4) ⟨Or.inr ⟨1000000, b, rfl, ha0, rfl⟩, trivial⟩ (by decide)
