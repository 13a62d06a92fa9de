/-! a frame's loops: symbols from 8 on are set anew for each part of a walk -/
def ix_ov (σ : ix_Sg) (f : Nat → Nat) : ix_Sg := (fun x => if x < 8 then σ.1 x else Int32.ofNat (f x), σ.2)
def ix_Eo (E : ix_E) (f : Nat → Nat) : ix_E := (E.1, ix_ov E.2.1 f, E.2.2.1, E.2.2.2.1, E.2.2.2.2.1, E.2.2.2.2.2.1, E.2.2.2.2.2.2.1, E.2.2.2.2.2.2.2.1, fun _ => False)
noncomputable def ix_lo (v : ix_V) : Bool := match v with
  | .inr (.inr (.inr (x, _))) => Nat.blt x 8
  | _ => true
theorem ix_lo_ok {σ : ix_Sg} {f : Nat → Nat} {ad : Nat → Option Nat} {x : ix_V} {v : Value} (h : ix_lo x = true) : ix_rv (ix_ov σ f) ad x v ↔ ix_rv σ ad x v := by
  match x, h with
  | .inl _, _ => exact Iff.rfl
  | .inr (.inl _), _ => exact Iff.rfl
  | .inr (.inr (.inl _)), _ => exact Iff.rfl
  | .inr (.inr (.inr (y, c))), h =>
    have hy : y < 8 := ix_blt.mp h
    have e : (ix_ov σ f).1 y = σ.1 y := if_pos hy
    show (c < 4294967296 ∧ ∃ z, v = .int z ∧ (y = 0 ∨ z = (ix_ov σ f).1 y + Int32.ofNat c)) ↔ (c < 4294967296 ∧ ∃ z, v = .int z ∧ (y = 0 ∨ z = σ.1 y + Int32.ofNat c))
    rw [e]
noncomputable def ix_lc (c : ix_C) : Bool := ix_wl ix_lo c.2.2
theorem ix_lc_ok {σ σ' : ix_Sg} {ad : Nat → Option Nat} {dT : Nat → ClassId} {c : ix_C} {e : va_E} (h2 : σ'.2 = σ.2) (hσ : ∀ x v, ix_lo x = true → ix_rv σ ad x v → ix_rv σ' ad x v) (h : ix_lc c = true) (hc : ix_rc σ ad dT c e) : ix_rc σ' ad dT c e := by
  have hw := ix_wl_ok _ (show ix_wl ix_lo c.2.2 = true from h)
  rcases hc with hc | ⟨h98, hc⟩
  · exact Or.inl ⟨hc.1, by rw [h2]; exact hc.2⟩
  · refine Or.inr ⟨h98, ?_⟩
    match e, hc with
    | .inr (ci, fs), hc => exact ⟨hc.1, hc.2.1, hc.2.2.1, fun k hk => by
        obtain ⟨v, v1, v2⟩ := hc.2.2.2 k hk
        exact ⟨v, v1, hσ _ _ (hw k) v2⟩⟩
    | .inl (cA, n, .inl f), hc => exact ⟨hc.1, hc.2.1, hc.2.2.1, hc.2.2.2.1, fun j hj => hσ _ _ (hw j) (hc.2.2.2.2 j hj)⟩
    | .inl (cA, n, .inr (.inl f)), hc => exact ⟨hc.1, hc.2.1, hc.2.2.1, hc.2.2.2.1, fun j hj => hσ _ _ (hw j) (hc.2.2.2.2 j hj)⟩
    | .inl (cA, n, .inr (.inr (.inr (.inr f)))), hc => exact ⟨hc.1, hc.2.1, hc.2.2.1, hc.2.2.2.1, hc.2.2.2.2.1, fun j hj => hσ _ _ (hw j) (hc.2.2.2.2.2 j hj)⟩
    | .inl (_, _, .inr (.inr (.inl _))), hc => exact hc.elim
    | .inl (_, _, .inr (.inr (.inr (.inl _)))), hc => exact hc.elim
theorem ix_rw_lo {cl : List vw_C} {σ σ' : ix_Sg} {D : va_G} {dT : Nat → ClassId} {A : Nat → Prop} {ad : Nat → Option Nat} {n : Nat} {t : ix_T} {ws : va_W} {H : Heap} (h2 : σ'.2 = σ.2) (hσ : ∀ x v, ix_lo x = true → ix_rv σ ad x v → ix_rv σ' ad x v) (ht : ix_wl ix_lc t = true) (h : ix_rw cl σ D dT A ad n t ws H) : ix_rw cl σ' D dT A ad n t ws H := by
  obtain ⟨r1, r2, r3, r4, r5, r6⟩ := h
  refine ⟨r1, r2, r3, fun i hi => ?_, r5, r6⟩
  obtain ⟨a, e, g1, g2, g3⟩ := r4 i hi
  exact ⟨a, e, g1, g2, ix_lc_ok h2 hσ (ix_wl_ok t ht i) g3⟩
/-- a weaker tree of cells, dark ones too -/
theorem ix_wc_ok2 {σ : ix_Sg} {ad : Nat → Option Nat} {dT : Nat → ClassId} {c c0 : ix_C} {e : va_E} (h : ix_wc c c0 = true) (hc : ix_rc σ ad dT c e) : ix_rc σ ad dT c0 e := by
  by_cases h98 : c0.1 = 98
  · have h1 := Bool.and_eq_true_iff.mp h
    have h2 := Bool.and_eq_true_iff.mp h1.2
    have e1 := ix_beq.mp h1.1
    have e2 := ix_beq.mp h2.1
    rcases hc with hc | ⟨h9, _⟩
    · exact Or.inl ⟨h98, by rw [← e2]; exact hc.2⟩
    · exact absurd (e1.trans h98) h9
  · exact ix_wc_ok (fun _ _ q => q) h h98 hc
theorem ix_rw_w {cl : List vw_C} {σ : ix_Sg} {D : va_G} {dT : Nat → ClassId} {A : Nat → Prop} {ad : Nat → Option Nat} {n : Nat} {t t0 : ix_T} {ws : va_W} {H : Heap} (ht : ix_wt ix_wc t t0 = true) (h : ix_rw cl σ D dT A ad n t ws H) : ix_rw cl σ D dT A ad n t0 ws H := by
  obtain ⟨r1, r2, r3, r4, r5, r6⟩ := h
  refine ⟨r1, r2, r3, fun i hi => ?_, r5, r6⟩
  obtain ⟨a, e, g1, g2, g3⟩ := r4 i hi
  exact ⟨a, e, g1, g2, ix_wc_ok2 (ix_wt_ok t t0 ht i) g3⟩
/-- the symbols from 8 on made numbers -/
noncomputable def ix_cv (f : Nat → Nat) (v : ix_V) : ix_V := match v with
  | .inr (.inr (.inr (x, c))) => cond (Nat.blt x 8) v (ix_vI (f x + c))
  | w => w
noncomputable def ix_sc (v : ix_V) : Bool := match v with
  | .inr (.inr (.inr (_, c))) => Nat.blt c 1000
  | _ => true
theorem ix_cv_ok {σ : ix_Sg} {f : Nat → Nat} {ad : Nat → Option Nat} {x : ix_V} {v : Value} (hf : ∀ y, f y ≤ 700000) (hs : ix_sc x = true) : ix_rv σ ad (ix_cv f x) v ↔ ix_rv (ix_ov σ f) ad x v := by
  match x, hs with
  | .inl _, _ => exact Iff.rfl
  | .inr (.inl _), _ => exact Iff.rfl
  | .inr (.inr (.inl _)), _ => exact Iff.rfl
  | .inr (.inr (.inr (y, c))), hs =>
    have hc : c < 1000 := ix_blt.mp hs
    have hfy := hf y
    cases hy : Nat.blt y 8 with
    | true =>
      have e : ix_cv f (.inr (.inr (.inr (y, c)))) = .inr (.inr (.inr (y, c))) := by
        show cond (Nat.blt y 8) _ _ = _
        rw [hy]; rfl
      rw [e]
      exact (ix_lo_ok (f := f) (x := .inr (.inr (.inr (y, c)))) hy).symm
    | false =>
      have hy8 := ix_blt_f.mp hy
      have e : ix_cv f (.inr (.inr (.inr (y, c)))) = ix_vI (f y + c) := by
        show cond (Nat.blt y 8) _ _ = _
        rw [hy]; rfl
      have e2 : (ix_ov σ f).1 y = Int32.ofNat (f y) := if_neg hy8
      have e3 : Int32.ofNat (f y + c) = Int32.ofNat (f y) + Int32.ofNat c := by
        rw [← ix_add_ok]
        congr 1
        exact (Nat.mod_eq_of_lt (show f y + c < 4294967296 by omega)).symm
      rw [e]
      show (f y + c < 4294967296 ∧ v = .int (Int32.ofNat (f y + c))) ↔ (c < 4294967296 ∧ ∃ z, v = .int z ∧ (y = 0 ∨ z = (ix_ov σ f).1 y + Int32.ofNat c))
      rw [e2, e3]
      constructor
      · rintro ⟨_, q⟩
        exact ⟨by omega, _, q, Or.inr rfl⟩
      · rintro ⟨_, z, q, q2⟩
        rcases q2 with q2 | q2
        · omega
        · exact ⟨by omega, by rw [q, q2]⟩
noncomputable def ix_con (f : Nat → Nat) (L : ix_L) : ix_L := L.map (fun o => o.map (ix_cv f))
noncomputable def ix_so (o : Option ix_V) : Bool := match o with
  | some v => ix_sc v
  | none => true
theorem ix_con_in {σ : ix_Sg} {f : Nat → Nat} {ad : Nat → Option Nat} {L : ix_L} {nL : Nat} {ls : Array Slot} (hf : ∀ y, f y ≤ 700000) (hs : L.all ix_so = true) (h : ix_rl σ ad (ix_con f L) nL ls) : ix_rl (ix_ov σ f) ad L nL ls := by
  obtain ⟨h1, lv, h2, h3⟩ := h
  refine ⟨by rw [← h1]; simp [ix_con], lv, h2, fun i x hx => ?_⟩
  have hm : some x ∈ L := List.mem_of_getElem? hx
  obtain ⟨v, v1, v2⟩ := h3 i (ix_cv f x) (by unfold ix_con; rw [List.getElem?_map, hx]; rfl)
  exact ⟨v, v1, (ix_cv_ok hf (List.all_eq_true.mp hs _ hm)).mp v2⟩
theorem ix_con_out {σ : ix_Sg} {f : Nat → Nat} {ad : Nat → Option Nat} {L : ix_L} {nL : Nat} {ls : Array Slot} (hf : ∀ y, f y ≤ 700000) (hs : L.all ix_so = true) (h : ix_rl (ix_ov σ f) ad L nL ls) : ix_rl σ ad (ix_con f L) nL ls := by
  obtain ⟨h1, lv, h2, h3⟩ := h
  refine ⟨by rw [← h1]; simp [ix_con], lv, h2, fun i x hx => ?_⟩
  unfold ix_con at hx
  rw [List.getElem?_map] at hx
  cases hL : L[i]? with
  | none => rw [hL] at hx; cases hx
  | some o =>
    rw [hL] at hx
    cases o with
    | none => cases hx
    | some y =>
      have e : ix_cv f y = x := by injection hx with q; injection q
      obtain ⟨v, v1, v2⟩ := h3 i y hL
      have hm : some y ∈ L := List.mem_of_getElem? hL
      exact ⟨v, v1, by rw [← e]; exact (ix_cv_ok hf (List.all_eq_true.mp hs _ hm)).mpr v2⟩
/-- weaker locals -/
noncomputable def ix_wo (a b : Option ix_V) : Bool := match b with
  | none => true
  | some y => match a with
    | some x => ix_wv x y
    | none => false
noncomputable def ix_wL : ix_L → ix_L → Bool
  | [], [] => true
  | a :: l, b :: m => ix_wo a b && ix_wL l m
  | _, _ => false
theorem ix_wL_len : ∀ (l m : ix_L), ix_wL l m = true → l.length = m.length
  | [], [], _ => rfl
  | a :: l, b :: m, h => by simp [ix_wL_len l m (Bool.and_eq_true_iff.mp (show (ix_wo a b && ix_wL l m) = true from h)).2]
  | [], _ :: _, h => by cases h
  | _ :: _, [], h => by cases h
theorem ix_wL_get : ∀ (l m : ix_L), ix_wL l m = true → ∀ (i : Nat) (y : ix_V), m[i]? = some (some y) → ∃ x, l[i]? = some (some x) ∧ ix_wv x y = true
  | [], [], _, i, y, h => by simp at h
  | a :: l, b :: m, h, 0, y, hy => by
    have h1 := (Bool.and_eq_true_iff.mp (show (ix_wo a b && ix_wL l m) = true from h)).1
    cases hy
    cases a with
    | none => cases h1
    | some x => exact ⟨x, rfl, h1⟩
  | a :: l, b :: m, h, i + 1, y, hy => ix_wL_get l m (Bool.and_eq_true_iff.mp (show (ix_wo a b && ix_wL l m) = true from h)).2 i y hy
  | [], _ :: _, h, _, _, _ => by cases h
  | _ :: _, [], h, _, _, _ => by cases h
theorem ix_wL_ok {σ : ix_Sg} {ad : Nat → Option Nat} {L L' : ix_L} {nL : Nat} {ls : Array Slot} (hw : ix_wL L L' = true) (h : ix_rl σ ad L nL ls) : ix_rl σ ad L' nL ls := by
  obtain ⟨h1, lv, h2, h3⟩ := h
  refine ⟨by rw [← ix_wL_len _ _ hw]; exact h1, lv, h2, fun i y hy => ?_⟩
  obtain ⟨x, x1, x2⟩ := ix_wL_get _ _ hw i y hy
  obtain ⟨v, v1, v2⟩ := h3 i x x1
  exact ⟨v, v1, ix_wv_ok x2 v2⟩
/-- the end of a part of a walk is as is said -/
noncomputable def ix_end1 (pc : Nat) (L : ix_L) (n : Nat) (t : ix_T) (o : Nat × ix_S) : Bool := Nat.beq o.1 pc && (ix_wL o.2.2.1 L && (o.2.2.2.1.isEmpty && (Nat.beq o.2.2.2.2.1 n && (ix_wt ix_wc o.2.2.2.2.2.1 t && (Nat.beq o.2.2.2.2.2.2.1 0 && Nat.beq o.2.2.2.2.2.2.2 0)))))
noncomputable def ix_chk (r : Option (List (Nat × ix_S))) (pc : Nat) (L : ix_L) (n : Nat) (t : ix_T) : Bool := match r with
  | some outs => outs.all (ix_end1 pc L n t)
  | none => false
theorem ix_part {k : ix_K} {E : ix_E} {P : ix_P} {f : Nat → Nat} (hok : ∀ pc, ix_ok k (ix_Eo E f) pc (P pc)) (hf : ∀ y, f y ≤ 700000) {pc pc' stop fuel n : Nat} {B : ix_B} {L L' : ix_L} {t t' : ix_T} (h1 : pc < 99999) (h2 : pc' < 99999) (hB : ix_ib (ix_ov (ix_es E) f) B) (hL : L.all ix_so = true) (hL' : L'.all ix_so = true) (ht : ix_wl ix_lc t = true) (ht' : ix_wl ix_lc t' = true)
    (hrun : ix_chk (ix_seg P stop fuel pc (B, L, [], n, t, 0, 0)) pc' L' n t' = true) (g : ix_Go k E pc' ([], ix_con f L', [], n, t', 0, 0)) : ix_Go k E pc ([], ix_con f L, [], n, t, 0, 0) := by
  unfold ix_chk at hrun
  split at hrun
  · rename_i outs hseg
    have hall := List.all_eq_true.mp hrun
    have gg : ix_Go k (ix_Eo E f) pc (B, L, [], n, t, 0, 0) := ix_seg_ok hok fuel pc _ outs hseg fun o ho => by
      have c1 := Bool.and_eq_true_iff.mp (hall o ho)
      have c2 := Bool.and_eq_true_iff.mp c1.2
      have c3 := Bool.and_eq_true_iff.mp c2.2
      have c4 := Bool.and_eq_true_iff.mp c3.2
      have c5 := Bool.and_eq_true_iff.mp c4.2
      have c6 := Bool.and_eq_true_iff.mp c5.2
      obtain ⟨p2, B2, L2, st2, n2, t2, ce, sl⟩ := o
      have e1 : p2 = pc' := ix_beq.mp c1.1
      have e3 : st2 = [] := List.isEmpty_iff.mp c3.1
      have e4 : n2 = n := ix_beq.mp c4.1
      have e5 : ce = 0 := ix_beq.mp c6.1
      have e6 : sl = 0 := ix_beq.mp c6.2
      subst e1; subst e3; subst e4; subst e5; subst e6
      refine ix_go_i h2 fun ad ws H locs ls stk hr hS => ?_
      obtain ⟨q1, q2, q3, q4, q5, q6, q7⟩ := hr
      refine ix_go_e h2 g ad ws H locs ls stk ⟨fun x lo hi hx => by simp at hx, ix_con_out hf hL' (ix_wL_ok c2.1 q2), ?_, q4, ?_, q6, q7⟩ hS
      · rw [ix_rs_0 q3]; exact trivial
      · exact ix_rw_lo (σ := ix_ov (ix_es E) f) (σ' := ix_es E) rfl (fun x v hx hv => (ix_lo_ok hx).mp hv) ht' (ix_rw_w c5.1 q5)
    refine ix_go_i h1 fun ad ws H locs ls stk hr hS => ?_
    obtain ⟨q1, q2, q3, q4, q5, q6, q7⟩ := hr
    refine ix_go_e h1 gg ad ws H locs ls stk ⟨hB, ix_con_in hf hL q2, ?_, q4, ?_, q6, q7⟩ hS
    · rw [ix_rs_0 q3]; exact trivial
    · exact ix_rw_lo (σ := ix_es E) (σ' := ix_ov (ix_es E) f) rfl (fun x v hx hv => (ix_lo_ok hx).mpr hv) ht q5
  · cases hrun
/-- a contract out of a walk of the frame whose symbols from 8 on may be set anew -/
theorem ix_mt_of2 {l : Launch} {Ts : List Cond} {cl : List vw_C} {O : ix_O} {sl : ix_Sl} {J : ix_J} {d y : Nat} {as : List ix_V} {n : Nat} {t : ix_T} {outs : List ix_S} {code : ix_Call → ix_P} {call : ix_Call} (hMO : ix_MO Ts cl O sl J y code) (hco : ix_CO l Ts cl O sl J d call) (hG : GoodIn Ts Ts) (hl : (ix_args as).length ≤ (J y).2.2.1) (hO : ∀ i len f, O i = some (len, f) → ∀ j, ix_lo (ix_g f j) = true)
    (go : ∀ (k : ix_K) (E : ix_E), (∀ pc, ix_ok k E pc (code call pc)) → (∀ f pc, ix_ok k (ix_Eo E f) pc (code call pc)) → (∀ S, ix_eF E S ↔ S ∈ outs) → ix_Go k E 0 ([], ix_pad (ix_args as) (Nat.sub (J y).2.2.1 (ix_args as).length), [], n, t, 0, 0)) : ix_MT l Ts cl O sl J (d + 1) y as n t outs := by
  intro σ D dT ad av ws sz hrs hrw
  obtain ⟨hplain, hcode⟩ := hMO
  refine Met.ofW (cc := (J y).2.1) (maxL := (J y).2.2.1) (ret := (J y).2.2.2.1) hplain rfl ?_
  intro p e s m args below meth c s₁ Bd hml hv
  obtain ⟨rfl, hsz, hP, hD0, hK, hgl⟩ := hv
  subst hsz
  have hctx : ix_ctx ((p, l, e, (headSpec (Cond.code (J y).1 (J y).2.1 (J y).2.2.1 (J y).2.2.2.1 :: Ts) (ix_rm (d + 1) (J y).2.2.2.2.1 (J y).2.2.2.2.2)).room, s), (m, av.toArray, below, meth, c), MQ below (ix_Qc cl σ D dT ad ws s.heap.size outs) av.toArray s (J y).2.2.2.2.1 (J y).2.2.2.2.2 (va_A ws s.heap.size)) (cl, σ, D, dT, va_A ws s.heap.size, ad, (J y).2.2.1, ((J y).2.2.2.2.1, (J y).2.2.2.2.2), fun S => S ∈ outs) (J y).1.cls (J y).2.1 Ts :=
    ⟨Bd.exec, Bd.bytes, hml, findClass_of_methodNamed Bd.named, fun w hw => atoms_spec (ws := Cond.code (J y).1 (J y).2.1 (J y).2.2.1 (J y).2.2.2.1 :: Ts) Bd.pre w (List.mem_cons_of_mem _ hw), hK, fun q hq => Or.inr hq, Nat.le_refl _, Nat.le_refl _⟩
  have hok := hcode _ _ d call ⟨hctx, hgl, hco, Nat.le_refl _, Nat.le_of_eq (by show 64 * d + 64 = 64 * (d + 1); omega), hG⟩ rfl ⟨_, _, rfl, fun q hq => hq, Bd.returns, Bd.notSynchronized, fun S hS ad' ws' H locs v hfr hS' t ht hW => ⟨⟨S, hS, ad', ws', v, rfl, by rw [ht]; exact hfr⟩, hS'.F ht⟩⟩ (name_of_methodNamed Bd.named Bd.method).1 rfl rfl
  have hok2 := fun f => hcode ((p, l, e, (headSpec (Cond.code (J y).1 (J y).2.1 (J y).2.2.1 (J y).2.2.2.1 :: Ts) (ix_rm (d + 1) (J y).2.2.2.2.1 (J y).2.2.2.2.2)).room, s), (m, av.toArray, below, meth, c), MQ below (ix_Qc cl σ D dT ad ws s.heap.size outs) av.toArray s (J y).2.2.2.2.1 (J y).2.2.2.2.2 (va_A ws s.heap.size)) (ix_Eo (cl, σ, D, dT, va_A ws s.heap.size, ad, (J y).2.2.1, ((J y).2.2.2.2.1, (J y).2.2.2.2.2), fun S => S ∈ outs) f) d call ⟨hctx, ⟨fun i len g hi hOi => by
      obtain ⟨b, xs, o1, o2, o5, o6⟩ := hgl.1 i len g hi hOi
      exact ⟨b, xs, o1, o2, o5, fun j hj ad => (ix_lo_ok (hO i len g hOi j)).mpr (o6 j hj ad)⟩, hgl.2⟩, hco, Nat.le_refl _, Nat.le_of_eq (by show 64 * d + 64 = 64 * (d + 1); omega), hG⟩ rfl ⟨_, _, rfl, fun q hq => hq, Bd.returns, Bd.notSynchronized, fun S hS => hS.elim⟩ (name_of_methodNamed Bd.named Bd.method).1 rfl rfl
  have hgo := go _ _ hok hok2 (fun S => Iff.rfl)
  rw [lg_entry_eq]
  exact ix_go_e (by decide) hgo ad ws s.heap [] _ [] ⟨fun x lo hi hx => by simp at hx, ix_entry hrs hl, trivial, ix_ext.rf, ⟨hrw.1, hrw.2.1, hrw.2.2.1, hrw.2.2.2, hP, hD0.self⟩, Nat.zero_le _, Nat.zero_le _⟩ va_S.rf
/-- one contract as a call of ours -/
noncomputable def ix_c1 (y0 : Nat) (as0 : List ix_V) (n0 : Nat) (t0 : ix_T) (outs : List ix_S) : ix_Call := fun y as B n t => @ite _ (y = y0 ∧ as = as0 ∧ B = [] ∧ n = n0 ∧ t = t0) (Classical.propDecidable _) (some outs) none
theorem ix_c1_eq (y0 : Nat) (as0 : List ix_V) (n0 : Nat) (t0 : ix_T) (outs : List ix_S) : ix_c1 y0 as0 n0 t0 outs y0 as0 [] n0 t0 = some outs := if_pos ⟨rfl, rfl, rfl, rfl, rfl⟩
theorem ix_c1_ok {l : Launch} {Ts : List Cond} {cl : List vw_C} {O : ix_O} {sl : ix_Sl} {J : ix_J} {d y0 n0 : Nat} {as0 : List ix_V} {t0 : ix_T} {outs0 : List ix_S} (h : ix_MT l Ts cl O sl J d y0 as0 n0 t0 outs0) : ix_CO l Ts cl O sl J d (ix_c1 y0 as0 n0 t0 outs0) := by
  intro y as B n t outs hc σ D dT ad av ws sz _ hrs hrw
  unfold ix_c1 at hc
  split at hc
  · rename_i q
    obtain ⟨rfl, rfl, rfl, rfl, rfl⟩ := q
    cases hc
    exact h σ D dT ad av ws sz hrs hrw
  · cases hc
