/-! image: its loop by a symbol; what is copied is any -/
noncomputable def xD141 : ix_C := (112, 62, .branch 0 (.branch 0 (.branch 0 (.branch 0 (.branch 0 (.branch 0 (.leaf (ix_vS 0 0)) (.leaf (ix_vR 97))) (.branch 0 (.leaf (ix_vR 90)) (.leaf (ix_vR 110)))) (.branch 0 (.branch 0 (.leaf (ix_vR 87)) (.leaf (ix_vR 103))) (.branch 0 (.leaf (ix_vS 0 0)) (.leaf (ix_vR 111))))) (.branch 0 (.branch 0 (.branch 0 (.leaf (ix_vR 83)) (.leaf (ix_vR 99))) (.branch 0 (.leaf (ix_vR 92)) (.leaf (ix_vS 0 0)))) (.branch 0 (.branch 0 (.leaf (ix_vS 0 0)) (.leaf (ix_vR 107))) (.leaf (ix_vS 0 0))))) (.branch 0 (.branch 0 (.branch 0 (.branch 0 (.leaf (ix_vR 81)) (.leaf (ix_vS 0 0))) (.leaf (ix_vS 0 0))) (.branch 0 (.branch 0 (.leaf (ix_vS 0 0)) (.leaf (ix_vR 105))) (.branch 0 (.leaf (ix_vS 0 0)) (.leaf (ix_vR 113))))) (.branch 0 (.branch 0 (.branch 0 (.leaf (ix_vR 85)) (.leaf (ix_vR 101))) (.leaf (ix_vS 0 0))) (.branch 0 (.leaf (ix_vS 0 0)) (.branch 0 (.leaf (ix_vR 95)) (.leaf (ix_vR 0))))))) (.branch 0 (.branch 0 (.branch 0 (.leaf (ix_vS 0 0)) (.branch 0 (.branch 0 (.leaf (ix_vS 0 0)) (.leaf (ix_vR 104))) (.branch 0 (.leaf (ix_vS 0 0)) (.leaf (ix_vR 112))))) (.branch 0 (.branch 0 (.branch 0 (.leaf (ix_vR 84)) (.leaf (ix_vR 100))) (.branch 0 (.leaf (ix_vR 93)) (.leaf (ix_vS 0 0)))) (.branch 0 (.branch 0 (.leaf (ix_vS 0 0)) (.leaf (ix_vR 108))) (.branch 0 (.leaf (ix_vR 94)) (.leaf (ix_vS 0 0)))))) (.branch 0 (.branch 0 (.branch 0 (.branch 0 (.leaf (ix_vR 82)) (.leaf (ix_vR 98))) (.branch 0 (.leaf (ix_vR 91)) (.leaf (ix_vS 0 0)))) (.branch 0 (.branch 0 (.leaf (ix_vR 88)) (.leaf (ix_vR 106))) (.branch 0 (.leaf (ix_vS 0 0)) (.leaf (ix_vR 114))))) (.branch 0 (.branch 0 (.branch 0 (.leaf (ix_vR 86)) (.leaf (ix_vR 102))) (.leaf (ix_vS 0 0))) (.branch 0 (.branch 0 (.leaf (ix_vR 89)) (.leaf (ix_vR 109))) (.branch 0 (.leaf (ix_vR 96)) (.leaf (ix_vR 0))))))))
noncomputable def xD142 : ix_C := (0, 5800, .leaf (ix_vS 0 0))
noncomputable def xD143 : ix_C := (0, 11600, .leaf (ix_vS 0 0))
noncomputable def xD144 : ix_C := (2, 2, .leaf (ix_vS 0 0))
/-- a row of which nothing is said, read at a symbol's place: no split -/
noncomputable def ix_isAny (v : ix_V) : Bool := match v with
  | .inr (.inr (.inr (y, c))) => Nat.beq y 0 && Nat.beq c 0
  | _ => false
theorem ix_isAny_ok {v : ix_V} (h : ix_isAny v = true) : v = ix_any := by
  unfold ix_isAny at h
  split at h
  · rename_i y c
    have c1 := Bool.and_eq_true_iff.mp h
    rw [ix_beq.mp c1.1, ix_beq.mp c1.2]
  · cases h
/-- a row of ints of such a length, of which nothing is said -/
noncomputable def ix_isRow (len : Nat) (c : ix_C) : Bool := Nat.beq c.1 0 && (Nat.beq c.2.1 len && Lean.RArray.casesOn (motive := fun _ => Bool) c.2.2 (fun a => ix_isAny a) (fun _ _ _ => false))
theorem ix_isRow_ok {len : Nat} {c : ix_C} (h : ix_isRow len c = true) : c = (0, len, .leaf ix_any) := by
  obtain ⟨kd, l, f⟩ := c
  have c1 := Bool.and_eq_true_iff.mp h
  have c2 := Bool.and_eq_true_iff.mp c1.2
  have e1 : kd = 0 := ix_beq.mp c1.1
  have e2 : l = len := ix_beq.mp c2.1
  cases f with
  | leaf a =>
    have e3 : a = ix_any := ix_isAny_ok c2.2
    rw [e1, e2, e3]
  | branch p q r => cases c2.2
/-- a symbol and a place within a row -/
noncomputable def ix_inb (x c len : Nat) (B : ix_B) : Bool := Nat.blt 0 x && (Nat.blt x B.length && (Nat.ble 2147483648 (ix_box B x).1 && (Nat.blt (Nat.add (ix_box B x).2 c) (Nat.add 2147483648 len) && Nat.blt c 100000)))
noncomputable def ix_ac (x c i len : Nat) (S : ix_S) : Bool := match S with
  | (B, _, j :: r :: _, n, t, _) => (match j with
      | .inr (.inr (.inr (y, d))) => Nat.beq y x && Nat.beq d c
      | _ => false) && ((match r with
      | .inr (.inr (.inl q)) => Nat.beq q (Nat.succ i)
      | _ => false) && (Nat.blt i n && (ix_isRow len (ix_g t i) && ix_inb x c len B)))
  | _ => false
noncomputable def ix_aal (x c i len nx : Nat) (old : ix_S → ix_R) (S : ix_S) : ix_R := cond (ix_ac x c i len S) (some [(nx, (S.1, S.2.1, ix_any :: S.2.2.1.tail.tail, S.2.2.2))]) (old S)
theorem ix_ac_ok {x c i len : Nat} {S : ix_S} (h : ix_ac x c i len S = true) : ∃ B ls st n t w, S = (B, ls, .inr (.inr (.inr (x, c))) :: .inr (.inr (.inl (i + 1))) :: st, n, t, w) ∧ i < n ∧ ix_g t i = (0, len, .leaf ix_any) ∧ ix_inb x c len B = true := by
  unfold ix_ac at h
  split at h
  · rename_i B ls j r st n t w
    have c1 := Bool.and_eq_true_iff.mp h
    have c2 := Bool.and_eq_true_iff.mp c1.2
    have c3 := Bool.and_eq_true_iff.mp c2.2
    have c4 := Bool.and_eq_true_iff.mp c3.2
    have e1 : j = .inr (.inr (.inr (x, c))) := by
      have q := c1.1
      split at q
      · have q2 := Bool.and_eq_true_iff.mp q
        rw [ix_beq.mp q2.1, ix_beq.mp q2.2]
      · cases q
    have e2 : r = .inr (.inr (.inl (i + 1))) := by
      have q := c2.1
      split at q
      · rw [ix_beq.mp q]
      · cases q
    subst e1
    subst e2
    exact ⟨B, ls, st, n, t, w, rfl, ix_blt.mp c3.1, ix_isRow_ok c4.1, c4.2⟩
  · cases h
/-- a symbol of one value within a row -/
theorem ix_inb_ok {σ : ix_Sg} {x c len : Nat} {B : ix_B} (hl : len ≤ 100000) (h : ix_inb x c len B = true) (hB : ix_ib σ B) : ∃ z, ix_bz (σ.1 x) = z ∧ ix_ib σ (B.set x (z, z)) ∧ ix_nrm (B.set x (z, z)) (.inr (.inr (.inr (x, c)))) = .inl (z - 2147483648 + c) ∧ z - 2147483648 + c < len := by
  have c1 := Bool.and_eq_true_iff.mp h
  have c2 := Bool.and_eq_true_iff.mp c1.2
  have c3 := Bool.and_eq_true_iff.mp c2.2
  have c4 := Bool.and_eq_true_iff.mp c3.2
  have h3 := ix_blt.mp c1.1
  have h4 := ix_blt.mp c2.1
  have h5 := ix_ble.mp c3.1
  have h6 : (ix_box B x).2 + c < 2147483648 + len := ix_blt.mp c4.1
  have h7 := ix_blt.mp c4.2
  have hb := ix_box_ok hB x
  obtain ⟨z, hz⟩ : ∃ z, ix_bz (σ.1 x) = z := ⟨_, rfl⟩
  rw [hz] at hb
  have hbox : ix_box (B.set x (z, z)) x = (z, z) := by
    unfold ix_box
    rw [List.getD_eq_getElem?_getD, List.getElem?_set_self h4]
    rfl
  have hx0 : Nat.beq x 0 = false := ix_beq_f.mpr (by omega)
  have hzz : Nat.beq z z = true := ix_beq.mpr rfl
  refine ⟨z, hz, hB.set (Nat.le_of_eq hz.symm) (Nat.le_of_eq hz), ?_, by omega⟩
  show cond (Nat.beq x 0) _ (match ix_box (B.set x (z, z)) x with | (lo, hi) => cond (Nat.beq lo hi) (ix_vI (ix_add (ix_bias lo) c)) _) = _
  rw [hbox, hx0]
  show cond (Nat.beq z z) (ix_vI (ix_add (ix_bias z) c)) _ = _
  rw [hzz]
  have hz2 : ((z + 2147483648) % 4294967296 + c) % 4294967296 = z - 2147483648 + c := by omega
  exact congrArg (fun q : Nat => (Sum.inl q : ix_V)) hz2
theorem ix_aal_ok {k : ix_K} {E : ix_E} {O : ix_O} {pc nx x c i len : Nat} (hp : pc < 99999) (hn : nx < 99999) (hl : len ≤ 100000) (hok : ix_ok k E pc (ix_iald O pc nx)) : ix_ok k E pc (ix_aal x c i len nx (ix_iald O pc nx)) := by
  intro S outs hf hg
  unfold ix_aal at hf
  cases hc : ix_ac x c i len S with
  | false => rw [hc] at hf; exact hok S outs hf hg
  | true =>
    rw [hc] at hf
    cases hf
    obtain ⟨B, ls, st, n, t, w, rfl, h1, h2, h3⟩ := ix_ac_ok hc
    have g : ix_Go k E nx (B, ls, ix_any :: st, n, t, w) := hg _ List.mem_cons_self
    refine ix_go_i hp fun ad ws H locs lc stk hr hS => ?_
    have hB : ix_ib (ix_es E) B := hr.1
    obtain ⟨z, -, hB', hnrm, hin⟩ := ix_inb_ok hl h3 hB
    have e1 : Nat.blt i n = true := ix_blt.mpr h1
    have e2 : Nat.blt (z - 2147483648 + c) len = true := ix_blt.mpr hin
    have hold : ix_iald O pc nx (B.set x (z, z), ls, .inr (.inr (.inr (x, c))) :: .inr (.inr (.inl (i + 1))) :: st, n, t, w) = some [(nx, (B.set x (z, z), ls, ix_any :: st, n, t, w))] := by
      unfold ix_iald
      dsimp only
      rw [e1, h2]
      show (match ix_nrm (B.set x (z, z)) (.inr (.inr (.inr (x, c)))) with
        | .inl m => cond (Nat.blt m len) (some [(nx, (B.set x (z, z), ls, ix_any :: st, n, t, w))]) none
        | .inr (.inr (.inr (x, _))) => _
        | _ => none) = _
      rw [hnrm]
      show cond (Nat.blt (z - 2147483648 + c) len) _ none = _
      rw [e2]
      rfl
    have hgo := hok _ _ hold (fun o ho => by
      rcases List.mem_cons.mp ho with rfl | ho
      · exact ix_go_i hn fun ad' ws' H' locs' lc' stk' hr' hS' => ix_go_e hn g ad' ws' H' locs' lc' stk' ⟨hB, hr'.2⟩ hS'
      · cases ho)
    exact ix_go_e hp hgo ad ws H locs lc stk ⟨hB', hr.2⟩ hS
/-! the same, written -/
theorem ix_u_wl {α : Type} {p : α → Bool} {a : α} (hp : p a = true) : ∀ (f n : Nat), ix_wl p (ix_u f (.leaf a) n a) = true
  | 0, n => hp
  | f + 1, n => by
    rw [ix_u_succ_leaf]
    split
    · exact Bool.and_eq_true_iff.mpr ⟨ix_u_wl hp f _, hp⟩
    · exact Bool.and_eq_true_iff.mpr ⟨hp, ix_u_wl hp f _⟩
theorem ix_wt_leaf {α : Type} {p : α → α → Bool} (b : α) : ∀ (s : Lean.RArray α), ix_wl (fun a => p a b) s = true → ix_wt p s (.leaf b) = true
  | .leaf a, h => h
  | .branch q l r, h => by
    have h1 := Bool.and_eq_true_iff.mp (show (ix_wl (fun a => p a b) l && ix_wl (fun a => p a b) r) = true from h)
    exact Bool.and_eq_true_iff.mpr ⟨ix_wt_leaf b l h1.1, ix_wt_leaf b r h1.2⟩
noncomputable def ix_as (x i len : Nat) (S : ix_S) : Bool := match S with
  | (B, _, v :: j :: r :: _, n, t, _) => ix_isAny v && ((match j with
      | .inr (.inr (.inr (y, d))) => Nat.beq y x && ix_inb x d len B
      | _ => false) && ((match r with
      | .inr (.inr (.inl q)) => Nat.beq q (Nat.succ i)
      | _ => false) && (Nat.blt i n && ix_isRow len (ix_g t i))))
  | _ => false
noncomputable def ix_aas (x i len nx : Nat) (old : ix_S → ix_R) (S : ix_S) : ix_R := cond (ix_as x i len S) (some [(nx, (S.1, S.2.1, S.2.2.1.tail.tail.tail, S.2.2.2))]) (old S)
theorem ix_as_ok {x i len : Nat} {S : ix_S} (h : ix_as x i len S = true) : ∃ B ls c st n t w, S = (B, ls, ix_any :: .inr (.inr (.inr (x, c))) :: .inr (.inr (.inl (i + 1))) :: st, n, t, w) ∧ i < n ∧ ix_g t i = (0, len, .leaf ix_any) ∧ ix_inb x c len B = true := by
  unfold ix_as at h
  split at h
  · rename_i B ls v j r st n t w
    have c1 := Bool.and_eq_true_iff.mp h
    have c2 := Bool.and_eq_true_iff.mp c1.2
    have c3 := Bool.and_eq_true_iff.mp c2.2
    have c4 := Bool.and_eq_true_iff.mp c3.2
    have e0 := ix_isAny_ok c1.1
    have e1 : ∃ c, j = .inr (.inr (.inr (x, c))) ∧ ix_inb x c len B = true := by
      have q := c2.1
      split at q
      · rename_i y d
        have q2 := Bool.and_eq_true_iff.mp q
        exact ⟨d, by rw [ix_beq.mp q2.1], q2.2⟩
      · cases q
    have e2 : r = .inr (.inr (.inl (i + 1))) := by
      have q := c3.1
      split at q
      · rw [ix_beq.mp q]
      · cases q
    obtain ⟨c, e1, e3⟩ := e1
    subst e0
    subst e1
    subst e2
    exact ⟨B, ls, c, st, n, t, w, rfl, ix_blt.mp c4.1, ix_isRow_ok c4.2, e3⟩
  · cases h
theorem ix_aas_ok {k : ix_K} {E : ix_E} {pc nx x i len : Nat} (hp : pc < 99999) (hn : nx < 99999) (hl : len ≤ 16384) (hok : ix_ok k E pc (ix_ast 0 0 pc nx ix_nar ix_isInt)) : ix_ok k E pc (ix_aas x i len nx (ix_ast 0 0 pc nx ix_nar ix_isInt)) := by
  intro S outs hf hg
  unfold ix_aas at hf
  cases hc : ix_as x i len S with
  | false => rw [hc] at hf; exact hok S outs hf hg
  | true =>
    rw [hc] at hf
    cases hf
    obtain ⟨B, ls, c, st, n, t, w, rfl, h1, h2, h3⟩ := ix_as_ok hc
    have g : ix_Go k E nx (B, ls, st, n, t, w) := hg _ List.mem_cons_self
    refine ix_go_i hp fun ad ws H locs lc stk hr hS => ?_
    have hB : ix_ib (ix_es E) B := hr.1
    obtain ⟨z, -, hB', hnrm, hin⟩ := ix_inb_ok (by omega) h3 hB
    generalize hm : z - 2147483648 + c = m at hnrm hin
    have e1 : Nat.blt i n = true := ix_blt.mpr h1
    have e2 : Nat.blt m len = true := ix_blt.mpr hin
    have hold : ix_ast 0 0 pc nx ix_nar ix_isInt (B.set x (z, z), ls, ix_any :: .inr (.inr (.inr (x, c))) :: .inr (.inr (.inl (i + 1))) :: st, n, t, w) = some [(nx, (B.set x (z, z), ls, st, n, ix_u 8 t i (0, len, ix_u (ix_dep len) (.leaf ix_any) m ix_any), w))] := by
      unfold ix_ast
      dsimp only
      rw [e1, h2]
      show (match ix_nrm (B.set x (z, z)) (.inr (.inr (.inr (x, c)))) with
        | .inl m => cond (Nat.blt m len) (some [(nx, (B.set x (z, z), ls, st, n, ix_u 8 t i (0, len, ix_u (ix_dep len) (.leaf ix_any) m ix_any), w))]) none
        | .inr (.inr (.inr (x, _))) => _
        | _ => none) = _
      rw [hnrm]
      show cond (Nat.blt m len) _ none = _
      rw [e2]
      rfl
    have hgo := hok _ _ hold (fun o ho => by
      rcases List.mem_cons.mp ho with rfl | ho
      · refine ix_go_i hn fun ad' ws' H' locs' lc' stk' hr' hS' => ?_
        obtain ⟨q1, q2, q3, q4, q5, q6⟩ := hr'
        refine ix_go_e hn g ad' ws' H' locs' lc' stk' ⟨hB, q2, q3, q4, ?_, q6⟩ hS'
        obtain ⟨r1, r2, r3, r4, r5, r6⟩ := q5
        refine ⟨r1, r2, r3, fun i' hi' => ?_, r5, r6⟩
        obtain ⟨a, e, g1, g2, g3⟩ := r4 i' hi'
        refine ⟨a, e, g1, g2, ?_⟩
        have r2' : n ≤ 256 := r2
        have hi2 : i' < n := hi'
        have hgu := ix_gu 8 t i i' (0, len, ix_u (ix_dep len) (.leaf ix_any) m ix_any) (show i < 256 by omega) (show i' < 256 by omega)
        have g4 : ix_rc (ix_es E) ad' (ix_eT E) (ix_g (ix_u 8 t i (0, len, ix_u (ix_dep len) (.leaf ix_any) m ix_any)) i') e := g3
        rw [hgu] at g4
        by_cases ei : i' = i
        · rw [if_pos ei] at g4
          show ix_rc (ix_es E) ad' (ix_eT E) (ix_g t i') e
          rw [ei, h2]
          refine ix_wc_ok2 (c := (0, len, ix_u (ix_dep len) (.leaf ix_any) m ix_any)) ?_ g4
          refine Bool.and_eq_true_iff.mpr ⟨rfl, Bool.and_eq_true_iff.mpr ⟨ix_beq.mpr rfl, ?_⟩⟩
          exact ix_wt_leaf _ _ (ix_u_wl rfl _ _)
        · rw [if_neg ei] at g4
          exact g4
      · cases ho)
    exact ix_go_e hp hgo ad ws H locs lc stk ⟨hB', hr.2⟩ hS
noncomputable def xi_call : ix_Call := ix_exec (ix_tbl (ix_O0 6)) ix_none 1000 1
noncomputable def xi_P : ix_P := ix_cX12_image (ix_O0 6) xi_call
noncomputable def xi_B : ix_B := (List.replicate 9 ix_full).set 8 (2147483648, 2147489447)
theorem xi_ib {σ : ix_Sg} {w : Nat} (h2 : w ≤ 5799) : ix_ib (ix_ov σ (xfv w 0 0 0 0)) xi_B := by
  have e8 : (ix_ov σ (xfv w 0 0 0 0)).1 8 = Int32.ofNat w := xq_ov (f := xfv w 0 0 0 0) (x := 8) (by decide)
  unfold xi_B
  refine (ix_ff 9).set ?_ ?_
  · rw [e8, xq_bz (by omega)]; omega
  · rw [e8, xq_bz (by omega)]; omega
noncomputable def xi_req : List (Nat × ix_C) := [(79, xD141), (81, xD142), (82, xD143), (84, xD144)]
noncomputable def xi_t : ix_T := ix_puts (ix_dark 130) xi_req
theorem xi_l : ix_wl ix_lc xi_t = true := by decide +kernel
noncomputable def xi_P2 : ix_P := fun pc => cond (Nat.beq pc 40) (ix_aal 8 0 81 5800 41 (xi_P 40)) (cond (Nat.beq pc 41) (ix_aas 8 82 11600 42 (xi_P 41)) (xi_P pc))
theorem xi_ok2 {k : ix_K} {E : ix_E} (hok : ∀ f pc, ix_ok k (ix_Eo E f) pc (xi_P pc)) (f : Nat → Nat) (pc : Nat) : ix_ok k (ix_Eo E f) pc (xi_P2 pc) := by
  unfold xi_P2
  cases h1 : Nat.beq pc 40 with
  | true =>
    rw [ix_beq.mp h1]
    exact ix_aal_ok (O := ix_O0 6) (by decide) (by decide) (by decide) (hok f 40)
  | false =>
    cases h2 : Nat.beq pc 41 with
    | true =>
      rw [ix_beq.mp h2]
      exact ix_aas_ok (by decide) (by decide) (by decide) (hok f 41)
    | false => exact hok f pc
noncomputable def xi0_L0 : ix_L := [some (ix_vR 80), some (ix_vI 0), none]
noncomputable def xi0_L1 : ix_L := [some (ix_vR 80), some (ix_vI 0), some (ix_vI 0)]
noncomputable def xi0_L : ix_L := [some (ix_vR 80), some (ix_vI 0), some (ix_vS 8 0)]
noncomputable def xi0_Lo : ix_L := [some (ix_vR 80), some (ix_vI 0), some (ix_vS 8 1)]
set_option maxRecDepth 1000000 in
theorem xi0_k0 : ix_chk (ix_seg xi_P 17 300 0 (xi_B, xi0_L0, [], 130, xi_t, 0, 0)) 17 xi0_L1 130 xi_t = true := by decide +kernel
theorem xi0_s0 : xi0_L0.all ix_so = true ∧ xi0_L1.all ix_so = true := by decide +kernel
set_option maxRecDepth 1000000 in
theorem xi0_k1 : ix_chk (ix_seg xi_P2 17 300 17 (xi_B, xi0_L, [], 130, xi_t, 0, 0)) 17 xi0_Lo 130 xi_t = true := by decide +kernel
theorem xi0_s1 : xi0_L.all ix_so = true ∧ xi0_Lo.all ix_so = true := by decide +kernel
theorem xi0_A {k : ix_K} {E : ix_E} (hok : ∀ f pc, ix_ok k (ix_Eo E f) pc (xi_P pc)) : ∀ (j w : Nat), w + j = 5800 → ix_Go k E 17 ([], ix_con (xfv 5800 0 0 0 0) xi0_L, [], 130, xi_t, 0, 0) → ix_Go k E 17 ([], ix_con (xfv w 0 0 0 0) xi0_L, [], 130, xi_t, 0, 0)
  | 0, w, h, g => by
    have e : w = 5800 := h
    subst e
    exact g
  | j + 1, w, h, g => ix_part (xi_ok2 hok _) (xq_f (by omega) (by omega) (by omega) (by omega) (by omega)) (by decide) (by decide) (xi_ib (by omega)) xi0_s1.1 xi0_s1.2 xi_l xi_l xi0_k1 (xi0_A hok j (w + 1) (by omega) g)
noncomputable def xi0_outs : List ix_S := (ix_loop xi_P 100 17 ([], ix_con (xfv 5800 0 0 0 0) xi0_L, [], 130, xi_t, 0, 0)).getD []
theorem xi0_is : (ix_loop xi_P 100 17 ([], ix_con (xfv 5800 0 0 0 0) xi0_L, [], 130, xi_t, 0, 0)).isSome = true := by decide +kernel
set_option maxHeartbeats 400000 in
theorem xi0_mt {l : Launch} : ix_MT l xTs xcl (ix_O0 6) xsl xJ 2 132 [ix_vR 80, ix_vI 0] 130 xi_t xi0_outs := by
  refine ix_mt_of2 (d := 1) (call := xi_call) xm_X12_image (ix_exec_ok (fun y => xM y) xnone xgood _) xgood (by decide) xq_lo (fun k E hok0 hok hF => ?_)
  have e0 : ix_pad (ix_args [ix_vR 80, ix_vI 0]) (Nat.sub (xJ 132).2.2.1 (ix_args [ix_vR 80, ix_vI 0]).length) = ix_con (xfv 0 0 0 0 0) xi0_L0 := rfl
  rw [e0]
  have e1 : ix_con (xfv 0 0 0 0 0) xi0_L1 = ix_con (xfv 0 0 0 0 0) xi0_L := rfl
  refine ix_part (hok _) (xq_f (by omega) (by omega) (by omega) (by omega) (by omega)) (by decide) (by decide) (xi_ib (by omega)) xi0_s0.1 xi0_s0.2 xi_l xi_l xi0_k0 ?_
  rw [e1]
  refine xi0_A hok 5800 0 rfl ?_
  obtain ⟨r, hr⟩ := Option.isSome_iff_exists.mp xi0_is
  have er : xi0_outs = r := by unfold xi0_outs; rw [hr]; rfl
  exact ix_loop_ok hok0 100 17 _ r hr (fun o ho => (hF o).mpr (by rw [er]; exact ho))
theorem xi0_ends : (ix_ends 130 xi0_outs [([ix_vI 0], xi_req)] && (Nat.ble 130 256 && (xi_req.all (fun q => Nat.blt q.1 130 && !(Nat.beq q.2.1 98)) && [([ix_vI 0], xi_req)].all (fun o => o.2.all (fun q => Nat.blt q.1 130 && !(Nat.beq q.2.1 98)))))) = true := by decide +kernel
noncomputable def xsm_im0 : ix_Sm := (2, 132, [ix_vR 80, ix_vI 0], 130, xi_req, [([ix_vI 0], xi_req)])
theorem xok_im0 : ix_made (ix_c1 132 [ix_vR 80, ix_vI 0] 130 xi_t xi0_outs) xsm_im0 = true := ix_c1_made xi0_ends
noncomputable def xi1_L0 : ix_L := [some (ix_vR 80), some (ix_vI 1), none]
noncomputable def xi1_L1 : ix_L := [some (ix_vR 80), some (ix_vI 1), some (ix_vI 0)]
noncomputable def xi1_L : ix_L := [some (ix_vR 80), some (ix_vI 1), some (ix_vS 8 0)]
noncomputable def xi1_Lo : ix_L := [some (ix_vR 80), some (ix_vI 1), some (ix_vS 8 1)]
set_option maxRecDepth 1000000 in
theorem xi1_k0 : ix_chk (ix_seg xi_P 17 300 0 (xi_B, xi1_L0, [], 130, xi_t, 0, 0)) 17 xi1_L1 130 xi_t = true := by decide +kernel
theorem xi1_s0 : xi1_L0.all ix_so = true ∧ xi1_L1.all ix_so = true := by decide +kernel
set_option maxRecDepth 1000000 in
theorem xi1_k1 : ix_chk (ix_seg xi_P2 17 300 17 (xi_B, xi1_L, [], 130, xi_t, 0, 0)) 17 xi1_Lo 130 xi_t = true := by decide +kernel
theorem xi1_s1 : xi1_L.all ix_so = true ∧ xi1_Lo.all ix_so = true := by decide +kernel
theorem xi1_A {k : ix_K} {E : ix_E} (hok : ∀ f pc, ix_ok k (ix_Eo E f) pc (xi_P pc)) : ∀ (j w : Nat), w + j = 5800 → ix_Go k E 17 ([], ix_con (xfv 5800 0 0 0 0) xi1_L, [], 130, xi_t, 0, 0) → ix_Go k E 17 ([], ix_con (xfv w 0 0 0 0) xi1_L, [], 130, xi_t, 0, 0)
  | 0, w, h, g => by
    have e : w = 5800 := h
    subst e
    exact g
  | j + 1, w, h, g => ix_part (xi_ok2 hok _) (xq_f (by omega) (by omega) (by omega) (by omega) (by omega)) (by decide) (by decide) (xi_ib (by omega)) xi1_s1.1 xi1_s1.2 xi_l xi_l xi1_k1 (xi1_A hok j (w + 1) (by omega) g)
noncomputable def xi1_outs : List ix_S := (ix_loop xi_P 100 17 ([], ix_con (xfv 5800 0 0 0 0) xi1_L, [], 130, xi_t, 0, 0)).getD []
theorem xi1_is : (ix_loop xi_P 100 17 ([], ix_con (xfv 5800 0 0 0 0) xi1_L, [], 130, xi_t, 0, 0)).isSome = true := by decide +kernel
set_option maxHeartbeats 400000 in
theorem xi1_mt {l : Launch} : ix_MT l xTs xcl (ix_O0 6) xsl xJ 2 132 [ix_vR 80, ix_vI 1] 130 xi_t xi1_outs := by
  refine ix_mt_of2 (d := 1) (call := xi_call) xm_X12_image (ix_exec_ok (fun y => xM y) xnone xgood _) xgood (by decide) xq_lo (fun k E hok0 hok hF => ?_)
  have e0 : ix_pad (ix_args [ix_vR 80, ix_vI 1]) (Nat.sub (xJ 132).2.2.1 (ix_args [ix_vR 80, ix_vI 1]).length) = ix_con (xfv 0 0 0 0 0) xi1_L0 := rfl
  rw [e0]
  have e1 : ix_con (xfv 0 0 0 0 0) xi1_L1 = ix_con (xfv 0 0 0 0 0) xi1_L := rfl
  refine ix_part (hok _) (xq_f (by omega) (by omega) (by omega) (by omega) (by omega)) (by decide) (by decide) (xi_ib (by omega)) xi1_s0.1 xi1_s0.2 xi_l xi_l xi1_k0 ?_
  rw [e1]
  refine xi1_A hok 5800 0 rfl ?_
  obtain ⟨r, hr⟩ := Option.isSome_iff_exists.mp xi1_is
  have er : xi1_outs = r := by unfold xi1_outs; rw [hr]; rfl
  exact ix_loop_ok hok0 100 17 _ r hr (fun o ho => (hF o).mpr (by rw [er]; exact ho))
theorem xi1_ends : (ix_ends 130 xi1_outs [([ix_vI 0], xi_req)] && (Nat.ble 130 256 && (xi_req.all (fun q => Nat.blt q.1 130 && !(Nat.beq q.2.1 98)) && [([ix_vI 0], xi_req)].all (fun o => o.2.all (fun q => Nat.blt q.1 130 && !(Nat.beq q.2.1 98)))))) = true := by decide +kernel
noncomputable def xsm_im1 : ix_Sm := (2, 132, [ix_vR 80, ix_vI 1], 130, xi_req, [([ix_vI 0], xi_req)])
theorem xok_im1 : ix_made (ix_c1 132 [ix_vR 80, ix_vI 1] 130 xi_t xi1_outs) xsm_im1 = true := ix_c1_made xi1_ends
noncomputable def xS5 : List ix_Sm := [xsm_im0, xsm_im1]
theorem xco5 {l : Launch} : ∀ d, ix_CO l xTs xcl (ix_O0 6) xsl xJ (d + 1) (ix_sums xS5 d) := ix_sums_ok xS5 (List.forall_mem_cons.mpr ⟨⟨_, ix_c1_ok xi0_mt, xok_im0⟩, List.forall_mem_cons.mpr ⟨⟨_, ix_c1_ok xi1_mt, xok_im1⟩, fun q hq => by cases hq⟩⟩)
noncomputable def iz_p5 (y : Nat) : Bool := Nat.beq y 132
noncomputable def iz_S5 : Nat → ix_Call := iz_flt iz_p5 (ix_sums xS5)
theorem iz_co5 {l : Launch} : ∀ d, ix_CO l xTs xcl (ix_O0 6) xsl xJ (d + 1) (iz_S5 d) := iz_flt_ok xco5
set_option maxRecDepth 10000000 in
theorem xh_41_0 : ix_good (iz_law iz_S5 6 ((ix_Bop 41).set 1 (0, 2147483647))) = true := by decide +kernel
set_option maxRecDepth 10000000 in
theorem xh_41_1 : ix_good (iz_law iz_S5 6 ((ix_Bop 41).set 1 (2147483648, 2147483648))) = true := by decide +kernel
set_option maxRecDepth 10000000 in
theorem xh_41_2 : ix_good (iz_law iz_S5 6 ((ix_Bop 41).set 1 (2147483649, 2147483649))) = true := by decide +kernel
set_option maxRecDepth 10000000 in
theorem xh_41_3 : ix_good (iz_law iz_S5 6 ((ix_Bop 41).set 1 (2147483650, 4294967295))) = true := by decide +kernel
