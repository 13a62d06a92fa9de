/-! the instructions that touch no heap -/
abbrev ix_K : Type := (Program × Launch × Env × Room × State) × (MethodId × Array Value × List Frame × Method × Code) × (State → Prop)
abbrev ix_W (k : ix_K) (H : Heap) (locs : List Loc) (ce sl : Nat) (g : JFrame) : Prop := W k.1.1 k.1.2.1 k.1.2.2.1 k.1.2.2.2.1 k.1.2.2.2.2 k.2.1.1 k.2.1.2.1 k.2.1.2.2.1 k.2.1.2.2.2.1 k.2.1.2.2.2.2 H locs ce sl k.2.2 g
abbrev ix_ks (k : ix_K) : State := k.1.2.2.2.2
abbrev ix_km (k : ix_K) : MethodId := k.2.1.1
abbrev ix_ka (k : ix_K) : Array Value := k.2.1.2.1
abbrev ix_kR (k : ix_K) : Room := k.1.2.2.2.1
/-- classes, symbols' values, classes' numbers, rows' classes, own addresses, addresses at the start, locals, room, end -/
abbrev ix_E : Type := List vw_C × ix_Sg × va_G × (Nat → ClassId) × (Nat → Prop) × (Nat → Option Nat) × Nat × (Nat × Nat) × (ix_S → Prop)
abbrev ix_el (E : ix_E) : List vw_C := E.1
abbrev ix_es (E : ix_E) : ix_Sg := E.2.1
abbrev ix_eD (E : ix_E) : va_G := E.2.2.1
abbrev ix_eT (E : ix_E) : Nat → ClassId := E.2.2.2.1
abbrev ix_eA (E : ix_E) : Nat → Prop := E.2.2.2.2.1
abbrev ix_e0 (E : ix_E) : Nat → Option Nat := E.2.2.2.2.2.1
abbrev ix_eL (E : ix_E) : Nat := E.2.2.2.2.2.2.1
abbrev ix_eC (E : ix_E) : Nat := E.2.2.2.2.2.2.2.1.1
abbrev ix_eS (E : ix_E) : Nat := E.2.2.2.2.2.2.2.1.2
abbrev ix_eF (E : ix_E) : ix_S → Prop := E.2.2.2.2.2.2.2.2
def ix_rel (E : ix_E) (S : ix_S) (ad : Nat → Option Nat) (ws : va_W) (H : Heap) (ls : Array Slot) (stk : List Value) : Prop :=
  ix_ib (ix_es E) S.1 ∧ ix_rl (ix_es E) ad S.2.1 (ix_eL E) ls ∧ ix_rs (ix_es E) ad S.2.2.1 stk ∧ ix_ext (ix_e0 E) ad ∧ ix_rw (ix_el E) (ix_es E) (ix_eD E) (ix_eT E) (ix_eA E) ad S.2.2.2.1 S.2.2.2.2.1 ws H ∧ S.2.2.2.2.2.1 ≤ ix_eC E ∧ S.2.2.2.2.2.2 ≤ ix_eS E
def ix_Go (k : ix_K) (E : ix_E) (pc : Nat) (S : ix_S) : Prop := if pc = 99999 then ix_eF E S else ∀ ad ws H locs ls stk, ix_rel E S ad ws H ls stk → va_S (ix_eA E) (ix_ks k).heap H locs → ix_W k H locs S.2.2.2.2.2.1 S.2.2.2.2.2.2 (F0 (ix_km k) pc ls stk)
def ix_ok (k : ix_K) (E : ix_E) (pc : Nat) (f : ix_S → ix_R) : Prop := ∀ S outs, f S = some outs → (∀ o ∈ outs, ix_Go k E o.1 o.2) → ix_Go k E pc S
def ix_tys (dT : Nat → ClassId) : List (ClassId × FieldType) := [(dT 0, .int), (dT 1, .byte), (dT 2, .boolean), (dT 3, .long), (dT 4, .object "MirrorHeirs$Text"), (dT 5, .object "MirrorHeirs$Hall")]
def ix_ctx (k : ix_K) (E : ix_E) (own : String) (cc : ByteArray) (Ts : List Cond) : Prop :=
  k.1.1.tables.exec = Jvm.exec ∧ k.2.1.2.2.2.2.code = cc ∧ k.2.1.2.2.2.2.maxLocals = ix_eL E ∧ (ix_ks k).vm.findClass own = some (ix_km k).cls ∧ (∀ w ∈ Ts, w.before (ix_ka k) (ix_ks k) = true) ∧ va_K (ix_eD E) (ix_el E) (ix_tys (ix_eT E)) (ix_ks k) ∧ (∀ q, (ix_ks k).heap.size ≤ q → ix_eA E q) ∧ ix_eC E ≤ (ix_kR k).cells ∧ ix_eS E ≤ (ix_kR k).slots
/-- an instruction at its place -/
def ix_at (cc : ByteArray) (pc : Nat) (i : Instr) (len nx : Nat) : Prop := decode cc pc = .ok (i, len) ∧ pc + len = nx ∧ nx < 99999
theorem ix_go_i {k : ix_K} {E : ix_E} {pc : Nat} {S : ix_S} (h : pc < 99999) (g : ∀ ad ws H locs ls stk, ix_rel E S ad ws H ls stk → va_S (ix_eA E) (ix_ks k).heap H locs → ix_W k H locs S.2.2.2.2.2.1 S.2.2.2.2.2.2 (F0 (ix_km k) pc ls stk)) : ix_Go k E pc S := by
  unfold ix_Go
  rw [if_neg (by omega)]
  exact g
theorem ix_go_e {k : ix_K} {E : ix_E} {pc : Nat} {S : ix_S} (h : pc < 99999) (g : ix_Go k E pc S) : ∀ ad ws H locs ls stk, ix_rel E S ad ws H ls stk → va_S (ix_eA E) (ix_ks k).heap H locs → ix_W k H locs S.2.2.2.2.2.1 S.2.2.2.2.2.2 (F0 (ix_km k) pc ls stk) := by
  unfold ix_Go at g
  rw [if_neg (by omega)] at g
  exact g
theorem ix_ok_no {k : ix_K} {E : ix_E} {pc : Nat} : ix_ok k E pc ix_no := fun S outs h => by cases h
theorem ix_ok_b {k : ix_K} {E : ix_E} {pc : Nat} {b : Bool} {f g : ix_S → ix_R} (h1 : ix_ok k E pc f) (h2 : ix_ok k E pc g) : ix_ok k E pc (cond b f g) := by
  cases b
  · exact h2
  · exact h1
theorem ix_ok_l {k : ix_K} {E : ix_E} {pc q : Nat} {f : ix_S → ix_R} (h : ix_ok k E q f) : ix_ok k E pc (cond (Nat.beq pc q) f ix_no) := by
  cases hb : Nat.beq pc q
  · exact ix_ok_no
  · rw [ix_beq.mp hb]; exact h
theorem ix_rs_1 {σ : ix_Sg} {ad : Nat → Option Nat} {x : ix_V} {xs : List ix_V} {stk : List Value} (h : ix_rs σ ad (x :: xs) stk) : ∃ v vs, stk = v :: vs ∧ ix_rv σ ad x v ∧ ix_rs σ ad xs vs := by
  match stk, h with
  | v :: vs, h => exact ⟨v, vs, rfl, h.1, h.2⟩
theorem ix_rs_2 {σ : ix_Sg} {ad : Nat → Option Nat} {x y : ix_V} {xs : List ix_V} {stk : List Value} (h : ix_rs σ ad (x :: y :: xs) stk) : ∃ v w vs, stk = v :: w :: vs ∧ ix_rv σ ad x v ∧ ix_rv σ ad y w ∧ ix_rs σ ad xs vs := by
  match stk, h with
  | v :: w :: vs, h => exact ⟨v, w, vs, rfl, h.1, h.2.1, h.2.2⟩
theorem ix_rs_0 {σ : ix_Sg} {ad : Nat → Option Nat} {stk : List Value} (h : ix_rs σ ad [] stk) : stk = [] := by
  match stk, h with
  | [], _ => rfl
theorem ix_int_of {σ : ix_Sg} {ad : Nat → Option Nat} {x : ix_V} {v : Value} (h : ix_isInt x = true) (hv : ix_rv σ ad x v) : ∃ z, v = .int z := by
  match x, h, hv with
  | .inl n, _, hv => exact ⟨_, hv.2⟩
  | .inr (.inr (.inr _)), _, hv => obtain ⟨_, z, hz, _⟩ := hv; exact ⟨z, hz⟩
theorem ix_long_of {σ : ix_Sg} {ad : Nat → Option Nat} {x : ix_V} {v : Value} (h : ix_isLong x = true) (hv : ix_rv σ ad x v) : ∃ z, v = .long z := by
  match x, h, hv with
  | .inr (.inl n), _, hv => exact ⟨_, hv.2⟩
theorem ix_ref_of {σ : ix_Sg} {ad : Nat → Option Nat} {x : ix_V} {v : Value} (h : ix_isRef x = true) (hv : ix_rv σ ad x v) : v = .null ∨ ∃ a, v = .ref a := by
  match x, h, hv with
  | .inr (.inr (.inl n)), _, hv =>
    rcases hv with ⟨_, q⟩ | ⟨_, a, _, _, q⟩
    · exact Or.inl q
    · exact Or.inr ⟨a, q⟩
theorem ix_cat_of {σ : ix_Sg} {ad : Nat → Option Nat} {x : ix_V} {v : Value} (h : ix_cat2 x = false) (hv : ix_rv σ ad x v) : v.category = 1 := by
  rcases hv.cat with ⟨q, _⟩ | ⟨_, q⟩
  · rw [h] at q; cases q
  · exact q
section IXP
variable {k : ix_K} {E : ix_E} {own : String} {cc : ByteArray} {Ts : List Cond}
/-- a value onto the stack -/
theorem ix_ok_push {pc nx : Nat} {x : ix_V} {v : Value} (hpc : pc < 99999) (hnx : nx < 99999) (hv : ∀ ad, ix_ext (ix_e0 E) ad → ix_rv (ix_es E) ad x v)
    (row : ∀ H locs ce sl ls stk, ix_W k H locs ce sl (F0 (ix_km k) nx ls (v :: stk)) → ix_W k H locs ce sl (F0 (ix_km k) pc ls stk)) : ix_ok k E pc (ix_push nx x) := by
  intro S outs hf hg
  obtain ⟨B, L, st, n, t, ce, sl⟩ := S
  cases hf
  refine ix_go_i hpc fun ad ws H locs ls stk hr hS => ?_
  obtain ⟨h1, h2, h3, h4, h5, h6⟩ := hr
  exact row _ _ _ _ _ _ (ix_go_e hnx (hg _ List.mem_cons_self) ad ws H locs ls (v :: stk) ⟨h1, h2, ⟨hv ad h4, h3⟩, h4, h5, h6⟩ hS)
theorem ix_ok_load {pc nx i : Nat} {ok : ix_V → Bool} (hpc : pc < 99999) (hnx : nx < 99999)
    (row : ∀ x v ad H locs ce sl ls stk, ok x = true → ix_rv (ix_es E) ad x v → ls[i]? = some (.val v) → ix_W k H locs ce sl (F0 (ix_km k) nx ls (v :: stk)) → ix_W k H locs ce sl (F0 (ix_km k) pc ls stk)) : ix_ok k E pc (ix_load ok i nx) := by
  intro S outs hf hg
  obtain ⟨B, L, st, n, t, ce, sl⟩ := S
  unfold ix_load at hf
  dsimp only at hf
  split at hf
  · rename_i x hx
    cases ho : ok x with
    | false => rw [ho] at hf; cases hf
    | true =>
      rw [ho] at hf
      cases hf
      refine ix_go_i hpc fun ad ws H locs ls stk hr hS => ?_
      obtain ⟨h1, h2, h3, h4, h5, h6⟩ := hr
      obtain ⟨v, q1, q2⟩ := h2.get hx
      exact row x v ad _ _ _ _ _ _ ho q2 q1 (ix_go_e hnx (hg _ List.mem_cons_self) ad ws H locs ls (v :: stk) ⟨h1, h2, ⟨q2, h3⟩, h4, h5, h6⟩ hS)
  · cases hf
theorem ix_ok_store {pc nx i : Nat} {ok : ix_V → Bool} (hpc : pc < 99999) (hnx : nx < 99999)
    (row : ∀ x v ad H locs ce sl ls stk lv, ok x = true → ix_rv (ix_es E) ad x v → i < ix_eL E → lv_has ls (ix_eL E) lv → (∀ ls', lv_has ls' (ix_eL E) ((i, v) :: lv.filter (fun q => !(q.1 == i) && !(q.1 + 1 == i && q.2.category == 2))) → ix_W k H locs ce sl (F0 (ix_km k) nx ls' stk)) → ix_W k H locs ce sl (F0 (ix_km k) pc ls (v :: stk))) : ix_ok k E pc (ix_store ok i nx) := by
  intro S outs hf hg
  obtain ⟨B, L, st, n, t, ce, sl⟩ := S
  unfold ix_store at hf
  match st, hf with
  | [], hf => cases hf
  | x :: st, hf =>
    dsimp only at hf
    cases ho : (ok x && Nat.blt i L.length) with
    | false => rw [ho] at hf; cases hf
    | true =>
      rw [ho] at hf
      cases hf
      have ho := Bool.and_eq_true_iff.mp ho
      refine ix_go_i hpc fun ad ws H locs ls stk hr hS => ?_
      obtain ⟨h1, h2, h3, h4, h5, h6⟩ := hr
      obtain ⟨v, vs, rfl, q1, q2⟩ := ix_rs_1 h3
      obtain ⟨hL, lv, hl, hl2⟩ := h2
      have hi : i < ix_eL E := by rw [← hL]; exact ix_blt.mp ho.2
      exact row x v ad _ _ _ _ _ _ lv ho.1 q1 hi hl (fun ls' h' => ix_go_e hnx (hg _ List.mem_cons_self) ad ws H locs ls' vs ⟨h1, ix_rl.set1 hL hl2 q1 h', q2, h4, h5, h6⟩ hS)
theorem ix_ok_lstore {pc nx i : Nat} (hpc : pc < 99999) (hnx : nx < 99999)
    (row : ∀ (z : Int64) H locs ce sl ls stk lv, i + 1 < ix_eL E → lv_has ls (ix_eL E) lv → (∀ ls', lv_has ls' (ix_eL E) ((i, Value.long z) :: lv.filter (fun q => !(q.1 == i) && (!(q.1 == i + 1) && !(q.1 + 1 == i && q.2.category == 2)))) → ix_W k H locs ce sl (F0 (ix_km k) nx ls' stk)) → ix_W k H locs ce sl (F0 (ix_km k) pc ls (.long z :: stk))) : ix_ok k E pc (ix_lstore i nx) := by
  intro S outs hf hg
  obtain ⟨B, L, st, n, t, ce, sl⟩ := S
  unfold ix_lstore at hf
  match st, hf with
  | [], hf => cases hf
  | x :: st, hf =>
    dsimp only at hf
    cases ho : (ix_isLong x && Nat.blt (i + 1) L.length) with
    | false => rw [ho] at hf; cases hf
    | true =>
      rw [ho] at hf
      cases hf
      have ho := Bool.and_eq_true_iff.mp ho
      refine ix_go_i hpc fun ad ws H locs ls stk hr hS => ?_
      obtain ⟨h1, h2, h3, h4, h5, h6⟩ := hr
      obtain ⟨v, vs, rfl, q1, q2⟩ := ix_rs_1 h3
      obtain ⟨z, rfl⟩ := ix_long_of ho.1 q1
      obtain ⟨hL, lv, hl, hl2⟩ := h2
      have hi : i + 1 < ix_eL E := by rw [← hL]; exact ix_blt.mp ho.2
      refine row z _ _ _ _ _ _ lv hi hl (fun ls' h' => ix_go_e hnx (hg _ List.mem_cons_self) ad ws H locs ls' vs ⟨h1, ⟨?_, _, h', ?_⟩, q2, h4, h5, h6⟩ hS)
      · rw [List.length_set, List.length_set, ix_clr_len]; exact hL
      · intro j y hy
        by_cases e1 : i + 1 = j
        · subst e1
          rw [List.getElem?_set] at hy
          simp only [if_true] at hy
          split at hy
          · cases hy
          · cases hy
        · rw [List.getElem?_set_ne e1] at hy
          by_cases e2 : i = j
          · subst e2
            rw [List.getElem?_set] at hy
            simp only [if_true] at hy
            split at hy
            · cases hy
              exact ⟨_, List.mem_cons_self, q1⟩
            · cases hy
          · rw [List.getElem?_set_ne e2] at hy
            obtain ⟨g1, g2⟩ := ix_clr_get hy
            obtain ⟨w, p1, p2⟩ := hl2 j y g1
            refine ⟨w, List.mem_cons_of_mem _ (List.mem_filter.mpr ⟨p1, ?_⟩), p2⟩
            have a1 : (j == i) = false := by simp; omega
            have a2 : (j == i + 1) = false := by simp; omega
            simp only [a1, a2, Bool.not_false, Bool.true_and]
            by_cases e3 : j + 1 = i
            · have := g2 e3
              rcases p2.cat with ⟨c1, _⟩ | ⟨_, c2⟩
              · rw [this] at c1; cases c1
              · simp [c2]
            · simp [e3]
theorem ix_plus_ok {σ : ix_Sg} {ad : Nat → Option Nat} {a b r : ix_V} {za zb : Int32} (h : ix_plus a b = some r) (ha : ix_rv σ ad a (.int za)) (hb : ix_rv σ ad b (.int zb)) : ix_rv σ ad r (.int (za + zb)) := by
  match a, b, h, ha, hb with
  | .inl m, .inl n, h, ha, hb =>
    obtain ⟨m1, rfl⟩ := ix_rv_int ha
    obtain ⟨n1, rfl⟩ := ix_rv_int hb
    have h9 : ix_vI (ix_add m n) = r := Option.some.inj h
    subst h9
    exact ⟨ix_add_lt _ _, by rw [ix_add_ok]⟩
  | .inr (.inr (.inr (x, c))), .inl n, h, ha, hb =>
    obtain ⟨c1, hz⟩ := ix_rv_sym ha
    obtain ⟨n1, rfl⟩ := ix_rv_int hb
    have h9 : ix_vS x (ix_add c n) = r := Option.some.inj h
    subst h9
    refine ⟨ix_add_lt _ _, _, rfl, ?_⟩
    rcases hz with hz | hz
    · exact Or.inl hz
    · exact Or.inr (by rw [hz, ix_add_ok, Int32.add_assoc])
  | .inl n, .inr (.inr (.inr (x, c))), h, ha, hb =>
    obtain ⟨c1, hz⟩ := ix_rv_sym hb
    obtain ⟨n1, rfl⟩ := ix_rv_int ha
    have h9 : ix_vS x (ix_add c n) = r := Option.some.inj h
    subst h9
    refine ⟨ix_add_lt _ _, _, rfl, ?_⟩
    rcases hz with hz | hz
    · exact Or.inl hz
    · exact Or.inr (by rw [hz, ix_add_ok, Int32.add_comm, Int32.add_assoc])
  | .inr (.inr (.inr _)), .inr (.inr (.inr _)), h, ha, hb =>
    have h9 : ix_any = r := Option.some.inj h
    subst h9
    exact ⟨by decide, _, rfl, Or.inl rfl⟩
  | .inr (.inl _), b, h, ha, hb => exact absurd ha.2 (by simp)
  | .inr (.inr (.inl _)), b, h, ha, hb => exact absurd ha (by rintro (⟨_, q⟩ | ⟨_, _, _, _, q⟩) <;> cases q)
  | .inl _, .inr (.inl _), h, ha, hb => exact absurd hb.2 (by simp)
  | .inl _, .inr (.inr (.inl _)), h, ha, hb => exact absurd hb (by rintro (⟨_, q⟩ | ⟨_, _, _, _, q⟩) <;> cases q)
  | .inr (.inr (.inr _)), .inr (.inl _), h, ha, hb => exact absurd hb.2 (by simp)
  | .inr (.inr (.inr _)), .inr (.inr (.inl _)), h, ha, hb => exact absurd hb (by rintro (⟨_, q⟩ | ⟨_, _, _, _, q⟩) <;> cases q)
theorem ix_minus_ok {σ : ix_Sg} {ad : Nat → Option Nat} {a b r : ix_V} {za zb : Int32} (h : ix_minus a b = some r) (ha : ix_rv σ ad a (.int za)) (hb : ix_rv σ ad b (.int zb)) : ix_rv σ ad r (.int (za - zb)) := by
  match a, b, h, ha, hb with
  | .inl m, .inl n, h, ha, hb =>
    obtain ⟨m1, rfl⟩ := ix_rv_int ha
    obtain ⟨n1, rfl⟩ := ix_rv_int hb
    have h9 : ix_vI (ix_sub m n) = r := Option.some.inj h
    subst h9
    exact ⟨ix_sub_lt _ _, by rw [ix_sub_ok n1]⟩
  | .inr (.inr (.inr (x, c))), .inl n, h, ha, hb =>
    obtain ⟨c1, hz⟩ := ix_rv_sym ha
    obtain ⟨n1, rfl⟩ := ix_rv_int hb
    have h9 : ix_vS x (ix_sub c n) = r := Option.some.inj h
    subst h9
    refine ⟨ix_sub_lt _ _, _, rfl, ?_⟩
    rcases hz with hz | hz
    · exact Or.inl hz
    · exact Or.inr (by rw [hz, ix_sub_ok n1, Int32.sub_eq_add_neg, Int32.sub_eq_add_neg, Int32.add_assoc])
  | .inl n, .inr (.inr (.inr (x, c))), h, ha, hb =>
    have h9 : ix_any = r := Option.some.inj h
    subst h9
    exact ⟨by decide, _, rfl, Or.inl rfl⟩
  | .inr (.inr (.inr _)), .inr (.inr (.inr _)), h, ha, hb =>
    have h9 : ix_any = r := Option.some.inj h
    subst h9
    exact ⟨by decide, _, rfl, Or.inl rfl⟩
  | .inr (.inl _), b, h, ha, hb => exact absurd ha.2 (by simp)
  | .inr (.inr (.inl _)), b, h, ha, hb => exact absurd ha (by rintro (⟨_, q⟩ | ⟨_, _, _, _, q⟩) <;> cases q)
  | .inl _, .inr (.inl _), h, ha, hb => exact absurd hb.2 (by simp)
  | .inl _, .inr (.inr (.inl _)), h, ha, hb => exact absurd hb (by rintro (⟨_, q⟩ | ⟨_, _, _, _, q⟩) <;> cases q)
  | .inr (.inr (.inr _)), .inr (.inl _), h, ha, hb => exact absurd hb.2 (by simp)
  | .inr (.inr (.inr _)), .inr (.inr (.inl _)), h, ha, hb => exact absurd hb (by rintro (⟨_, q⟩ | ⟨_, _, _, _, q⟩) <;> cases q)
end IXP
