/-! runs from a place to a place within one frame; a method's contract out of such runs; standsBy's loops -/
noncomputable def ix_app2 (a b : Option (List (Nat × ix_S))) : Option (List (Nat × ix_S)) := match a with
  | none => none
  | some x => match b with
    | none => none
    | some y => some (x ++ y)
/-- at least one step, then until the place comes again -/
noncomputable def ix_seg (P : ix_P) (stop fuel : Nat) : Nat → ix_S → Option (List (Nat × ix_S)) :=
  Nat.rec (motive := fun _ => Nat → ix_S → Option (List (Nat × ix_S))) (fun _ _ => none)
    (fun _ ih pc S => match P pc S with
      | none => none
      | some outs => outs.foldr (fun o acc => ix_app2 (cond (Nat.beq o.1 stop || Nat.beq o.1 99999) (some [o]) (ih o.1 o.2)) acc) (some [])) fuel
theorem ix_app2_mem {a b : Option (List (Nat × ix_S))} {r : List (Nat × ix_S)} (h : ix_app2 a b = some r) : ∃ x y, a = some x ∧ b = some y ∧ r = x ++ y := by
  unfold ix_app2 at h
  split at h
  · cases h
  · rename_i x
    split at h
    · cases h
    · rename_i y
      cases h
      exact ⟨x, y, rfl, rfl, rfl⟩
theorem ix_fold2_mem {f : Nat × ix_S → Option (List (Nat × ix_S))} : ∀ (l : List (Nat × ix_S)) (r : List (Nat × ix_S)), l.foldr (fun o acc => ix_app2 (f o) acc) (some []) = some r → ∀ o ∈ l, ∃ x, f o = some x ∧ ∀ q ∈ x, q ∈ r
  | [], r, h, o, ho => by cases ho
  | p :: l, r, h, o, ho => by
    obtain ⟨x, y, h1, h2, rfl⟩ := ix_app2_mem h
    rcases List.mem_cons.mp ho with rfl | ho
    · exact ⟨x, h1, fun q hq => List.mem_append.mpr (Or.inl hq)⟩
    · obtain ⟨z, z1, z2⟩ := ix_fold2_mem l y h2 o ho
      exact ⟨z, z1, fun q hq => List.mem_append.mpr (Or.inr (z2 q hq))⟩
theorem ix_seg_succ (P : ix_P) (stop f pc : Nat) (S : ix_S) : ix_seg P stop (f + 1) pc S = (match P pc S with
      | none => none
      | some outs => outs.foldr (fun o acc => ix_app2 (cond (Nat.beq o.1 stop || Nat.beq o.1 99999) (some [o]) (ix_seg P stop f o.1 o.2)) acc) (some [])) := rfl
theorem ix_seg_ok {k : ix_K} {E : ix_E} {P : ix_P} {stop : Nat} (hok : ∀ pc, ix_ok k E pc (P pc)) : ∀ (f pc : Nat) (S : ix_S) (outs : List (Nat × ix_S)), ix_seg P stop f pc S = some outs → (∀ o ∈ outs, ix_Go k E o.1 o.2) → ix_Go k E pc S
  | 0, pc, S, outs, h, _ => by cases h
  | f + 1, pc, S, outs, h, hF => by
    rw [ix_seg_succ] at h
    split at h
    · cases h
    · rename_i o2 hP
      refine hok pc S _ hP fun o ho => ?_
      obtain ⟨x, x1, x2⟩ := ix_fold2_mem (f := fun o => cond (Nat.beq o.1 stop || Nat.beq o.1 99999) (some [o]) (ix_seg P stop f o.1 o.2)) _ outs h o ho
      cases hb : (Nat.beq o.1 stop || Nat.beq o.1 99999) with
      | true =>
        rw [hb] at x1
        cases x1
        exact hF o (x2 o List.mem_cons_self)
      | false =>
        rw [hb] at x1
        exact ix_seg_ok hok f o.1 o.2 x x1 (fun q hq => hF q (x2 q hq))
/-- one call's contract -/
def ix_MT (l : Launch) (Ts : List Cond) (cl : List vw_C) (O : ix_O) (sl : ix_Sl) (J : ix_J) (d y : Nat) (as : List ix_V) (n : Nat) (t : ix_T) (outs : List ix_S) : Prop := ∀ σ D dT ad av ws sz, ix_rs σ ad as av → ix_rwp σ dT ad n t ws →
  Met l (J y).1 (Cond.code (J y).1 (J y).2.1 (J y).2.2.1 (J y).2.2.2.1 :: Ts) (ix_rm d (J y).2.2.2.2.1 (J y).2.2.2.2.2) (ix_Pc cl σ D dT ad O sl av ws sz) (ix_Qc cl σ D dT ad ws sz outs) (J y).2.2.2.2.1 (J y).2.2.2.2.2 (va_A ws sz)
/-- a contract out of a walk of the frame, however it was come by -/
theorem ix_mt_of {l : Launch} {Ts : List Cond} {cl : List vw_C} {O : ix_O} {sl : ix_Sl} {J : ix_J} {d y : Nat} {as : List ix_V} {n : Nat} {t : ix_T} {outs : List ix_S} {code : ix_Call → ix_P} {call : ix_Call} (hMO : ix_MO Ts cl O sl J y code) (hco : ix_CO l Ts cl O sl J d call) (hG : GoodIn Ts Ts) (hl : (ix_args as).length ≤ (J y).2.2.1)
    (go : ∀ (k : ix_K) (E : ix_E), (∀ pc, ix_ok k E pc (code call pc)) → (∀ S, ix_eF E S ↔ S ∈ outs) → ix_eC E = (J y).2.2.2.2.1 → ix_eS E = (J y).2.2.2.2.2 → ix_Go k E 0 ([], ix_pad (ix_args as) (Nat.sub (J y).2.2.1 (ix_args as).length), [], n, t, 0, 0)) : ix_MT l Ts cl O sl J (d + 1) y as n t outs := by
  intro σ D dT ad av ws sz hrs hrw
  obtain ⟨hplain, hcode⟩ := hMO
  refine Met.ofW (cc := (J y).2.1) (maxL := (J y).2.2.1) (ret := (J y).2.2.2.1) hplain rfl ?_
  intro p e s m args below meth c s₁ Bd hml hv
  obtain ⟨rfl, hsz, hP, hD0, hK, hgl⟩ := hv
  subst hsz
  have hctx : ix_ctx ((p, l, e, (headSpec (Cond.code (J y).1 (J y).2.1 (J y).2.2.1 (J y).2.2.2.1 :: Ts) (ix_rm (d + 1) (J y).2.2.2.2.1 (J y).2.2.2.2.2)).room, s), (m, av.toArray, below, meth, c), MQ below (ix_Qc cl σ D dT ad ws s.heap.size outs) av.toArray s (J y).2.2.2.2.1 (J y).2.2.2.2.2 (va_A ws s.heap.size)) (cl, σ, D, dT, va_A ws s.heap.size, ad, (J y).2.2.1, ((J y).2.2.2.2.1, (J y).2.2.2.2.2), fun S => S ∈ outs) (J y).1.cls (J y).2.1 Ts :=
    ⟨Bd.exec, Bd.bytes, hml, findClass_of_methodNamed Bd.named, fun w hw => atoms_spec (ws := Cond.code (J y).1 (J y).2.1 (J y).2.2.1 (J y).2.2.2.1 :: Ts) Bd.pre w (List.mem_cons_of_mem _ hw), hK, fun q hq => Or.inr hq, Nat.le_refl _, Nat.le_refl _⟩
  have hok := hcode _ _ d call ⟨hctx, hgl, hco, Nat.le_refl _, Nat.le_of_eq (by show 64 * d + 64 = 64 * (d + 1); omega), hG⟩ rfl ⟨_, _, rfl, fun q hq => hq, Bd.returns, Bd.notSynchronized, fun S hS ad' ws' H locs v hfr hS' t ht hW => ⟨⟨S, hS, ad', ws', v, rfl, by rw [ht]; exact hfr⟩, hS'.F ht⟩⟩ (name_of_methodNamed Bd.named Bd.method).1 rfl rfl
  have hgo := go _ _ hok (fun S => Iff.rfl) rfl rfl
  rw [lg_entry_eq]
  exact ix_go_e (by decide) hgo ad ws s.heap [] _ [] ⟨fun x lo hi hx => by simp at hx, ix_entry hrs hl, trivial, ix_ext.rf, ⟨hrw.1, hrw.2.1, hrw.2.2.1, hrw.2.2.2, hP, hD0.self⟩, Nat.zero_le _, Nat.zero_le _⟩ va_S.rf
