/-! runs of the typed machine through loops -/
section TYO
variable {h : ty_H} {M : ix_M} {d : Nat} {P : ix_Call → ix_P}
noncomputable def ty_app (a b : ty_R) : ty_R := match a with
  | none => none
  | some x => match b with
    | none => none
    | some y => some (x ++ y)
theorem ty_app_mem {a b : ty_R} {r : List (Nat × ty_S)} (he : ty_app a b = some r) : ∃ x y, a = some x ∧ b = some y ∧ r = x ++ y := by
  unfold ty_app at he
  split at he
  · cases he
  · rename_i x
    split at he
    · cases he
    · rename_i y
      cases he
      exact ⟨x, y, rfl, rfl, rfl⟩
theorem ty_fold_mem {f : Nat × ty_S → ty_R} : ∀ (l r : List (Nat × ty_S)), l.foldr (fun o acc => ty_app (f o) acc) (some []) = some r → ∀ o ∈ l, ∃ x, f o = some x ∧ ∀ q ∈ x, q ∈ r
  | [], r, he, o, ho => by cases ho
  | p :: l, r, he, o, ho => by
    obtain ⟨x, y, h1, h2, rfl⟩ := ty_app_mem he
    rcases List.mem_cons.mp ho with rfl | ho
    · exact ⟨x, h1, fun q hq => List.mem_append.mpr (Or.inl hq)⟩
    · obtain ⟨z, z1, z2⟩ := ty_fold_mem l y h2 o ho
      exact ⟨z, z1, fun q hq => List.mem_append.mpr (Or.inr (z2 q hq))⟩
noncomputable def ty_dr (ds : List (Nat × Nat)) (X : ty_X) : ty_X := X.filter (fun f => !(ds.any (fun q => Nat.beq q.1 f.1.1 && (Nat.beq q.2 0 || ty_veq f.1.2 (.inl q.2)))))
noncomputable def ty_fitv (A : ty_A) (q : Nat × (Nat × Nat)) (v : ix_V) : Bool := !(ty_isI v) || (Nat.ble q.2.1 (ty_rng A v).1 && Nat.ble (ty_rng A v).2 q.2.2)
noncomputable def ty_ndb : List (Nat × (Nat × Nat)) → Bool
  | [] => true
  | q :: l => !(l.any (fun r => Nat.beq r.1 q.1)) && ty_ndb l
theorem ty_ndb_ok : ∀ (l : List (Nat × (Nat × Nat))), ty_ndb l = true → (l.map (fun q => q.1)).Nodup
  | [], _ => List.nodup_nil
  | q :: l, he => by
    have c := Bool.and_eq_true_iff.mp (show (!(l.any (fun r => Nat.beq r.1 q.1)) && ty_ndb l) = true from he)
    refine List.nodup_cons.mpr ⟨fun hm => ?_, ty_ndb_ok l c.2⟩
    obtain ⟨r, r1, r2⟩ := List.mem_map.mp hm
    have : l.any (fun r => Nat.beq r.1 q.1) = true := List.any_eq_true.mpr ⟨r, r1, ix_beq.mpr r2⟩
    rw [this] at c
    cases c.1
/-- a state at a loop's head, made free -/
noncomputable def ty_gen (sp : ty_L) (S : ty_S) : Option ty_S := cond (S.2.2.1.isEmpty && (ty_ndb sp.1 && sp.1.all (fun q => match S.2.1[q.1]? with
    | some (some v) => ty_fitv S.1.1 q v
    | _ => false))) (match ty_gl sp.1 S.1.1 S.2.1 with
    | some (A, L) => some ((A, (S.1.2.1, (S.1.2.2.1, (S.1.2.2.2.1, ty_dr sp.2.1 S.1.2.2.2.2)))), (L, ([], S.2.2.2)))
    | none => none) none
/-- a state that comes back to the head is one of those -/
noncomputable def ty_arr (sp : ty_L) (S G o : ty_S) : Bool := o.2.2.1.isEmpty && (Nat.ble o.2.2.2.1 S.2.2.2.1 && (Nat.ble o.2.2.2.2 S.2.2.2.2 && (Nat.ble S.1.2.2.1.1 o.1.2.2.1.1 && ((List.range S.1.2.2.1.1).all (fun p => Nat.beq (ix_g o.1.2.2.1.2 p) (ix_g S.1.2.2.1.2 p)) && (Nat.beq o.2.1.length S.2.1.length && ((List.range S.2.1.length).all (fun i => match S.2.1[i]? with
    | some (some v) => (match o.2.1[i]? with
      | some (some u) => cond (sp.1.any (fun q => Nat.beq q.1 i)) true (ty_veq v u)
      | _ => false)
    | _ => true) && (sp.1.all (fun q => match S.2.1[q.1]? with
    | some (some v) => (match o.2.1[q.1]? with
      | some (some u) => ty_fitv o.1.1 q u && ((!(ty_isI v) || ty_isI u) && (!(ix_isLong v) || ix_isLong u))
      | _ => false)
    | _ => true) && ((ty_dr sp.2.1 S.1.2.2.2.2).all (fun f => o.1.2.2.2.2.any (fun g => ty_feq f g)) && (match G.2.1[sp.2.2.1]? with
    | some (some a) => (match o.2.1[sp.2.2.1]? with
      | some (some b) => ty_isI a && (ty_isI b && cond sp.2.2.2 (ty_le o.1.1 o.1.2.2.2.1 a b 1) (ty_le o.1.1 o.1.2.2.2.1 b a 1))
      | _ => false)
    | _ => false)))))))))
noncomputable def ty_run (A : Nat → ty_S → ty_R) (H : Nat → Option ty_L) (fuel : Nat) : List Nat → Nat → ty_S → ty_R :=
  Nat.rec (motive := fun _ => List Nat → Nat → ty_S → ty_R) (fun _ _ _ => none)
    (fun _ ih act pc S => cond (Nat.beq pc 99999 || act.any (fun q => Nat.beq q pc)) (some [(pc, S)]) (match H pc with
      | none => (match A pc S with
        | none => none
        | some outs => outs.foldr (fun o acc => ty_app (ih act o.1 o.2) acc) (some []))
      | some sp => (match ty_gen sp S with
        | none => none
        | some G => (match A pc G with
          | none => none
          | some outs => (match outs.foldr (fun o acc => ty_app (ih (pc :: act) o.1 o.2) acc) (some []) with
            | none => none
            | some l => cond (l.all (fun o => !(Nat.beq o.1 pc) || ty_arr sp S G o.2)) (some (l.filter (fun o => !(Nat.beq o.1 pc)))) none))))) fuel
theorem ty_run_succ (A : Nat → ty_S → ty_R) (H : Nat → Option ty_L) (f : Nat) (act : List Nat) (pc : Nat) (S : ty_S) : ty_run A H (f + 1) act pc S = cond (Nat.beq pc 99999 || act.any (fun q => Nat.beq q pc)) (some [(pc, S)]) (match H pc with
      | none => (match A pc S with
        | none => none
        | some outs => outs.foldr (fun o acc => ty_app (ty_run A H f act o.1 o.2) acc) (some []))
      | some sp => (match ty_gen sp S with
        | none => none
        | some G => (match A pc G with
          | none => none
          | some outs => (match outs.foldr (fun o acc => ty_app (ty_run A H f (pc :: act) o.1 o.2) acc) (some []) with
            | none => none
            | some l => cond (l.all (fun o => !(Nat.beq o.1 pc) || ty_arr sp S G o.2)) (some (l.filter (fun o => !(Nat.beq o.1 pc)))) none)))) := rfl
/-- there is an outcome that the plain machine comes to -/
def ty_res (h : ty_H) (M : ix_M) (d : Nat) (P : ix_Call → ix_P) (pc : Nat) (C : ty_C) (σ : ty_Sg) (W : ty_W) (outs : List (Nat × ty_S)) : Prop := ∃ o ∈ outs, ∃ σ' C', ty_mo W o.2.1 ∧ ty_agr (ty_k h W) σ σ' ∧ ty_in h σ' o.2 C' ∧ ty_rt M d P pc C o.1 C'
theorem ty_k6 {σ : ty_Sg} {W : ty_W} {n : Nat} {t : ix_T} (hw : ty_wk h σ W n t) : (ty_k h W).2.2 ≤ 1000000 := by
  have h1 := hw.2.2.1.1
  have h2 := hw.2.2.1.2.1
  have h3 := hw.2.2.2.1.1
  show h.1 + W.2.2.1.1 ≤ _
  omega
theorem ty_fitv_ok {σ : ty_Sg} {A : ty_A} {k2 : Nat × Nat} {q : Nat × (Nat × Nat)} {v w : ix_V} (hA : ty_bx σ.1 A) (hr : ty_rv (A.1, k2) σ v w) (he : ty_fitv A q v = true) : ty_fit q v w := by
  refine ⟨fun hi => ?_, fun hj => ?_⟩
  · obtain ⟨m, rfl, hm⟩ := hr.toint hi
    rcases (Bool.or_eq_true _ _).mp he with z | z
    · rw [hi] at z; cases z
    · have c := Bool.and_eq_true_iff.mp z
      have g1 := ix_ble.mp c.1
      have g2 := ix_ble.mp c.2
      have r : (ty_rng A v).1 ≤ ty_kp m ∧ ty_kp m ≤ (ty_rng A v).2 := ty_rng_ok hA hm
      exact ⟨m, rfl, hm.1, by omega, by omega⟩
  · rcases v with b | l | r | y
    · cases hj
    · obtain ⟨m, rfl, hm⟩ := hr
      exact ⟨m, rfl, hm.1⟩
    · cases hj
    · cases hj
/-- fewer facts -/
theorem ty_wk.fewer {σ : ty_Sg} {A L : ty_A} {R : Nat × Lean.RArray Nat} {Q : ty_Q} {X X' : ty_X} {n : Nat} {t : ix_T} (hw : ty_wk h σ (A, (L, (R, (Q, X)))) n t) (hX : ∀ f ∈ X', f ∈ X) : ty_wk h σ (A, (L, (R, (Q, X')))) n t := by
  obtain ⟨h1, h2, h3, h4, h5, h6⟩ := hw
  exact ⟨h1, h2, h3, h4, h5, fun f hf => h6 f (hX f hf)⟩
/-- from a world at the head that holds but for the locals, the free state -/
theorem ty_gen_in {sp : ty_L} {S G : ty_S} {σ : ty_Sg} {C : ty_C} (he : ty_gen sp S = some G) (hw : ty_wk h σ (S.1.1, (S.1.2.1, (S.1.2.2.1, (S.1.2.2.2.1, ty_dr sp.2.1 S.1.2.2.2.2)))) C.2.2.1 C.2.2.2.1) (hl : S.2.1.length = C.1.length) (hL : ∀ (i : Nat) (v : ix_V), S.2.1[i]? = some (some v) → ∃ w, C.1[i]? = some (some w) ∧ ((∃ q ∈ sp.1, q.1 = i) ∨ ty_rv (ty_k h S.1) σ v w)) (hf : ∀ q ∈ sp.1, ∀ v, S.2.1[q.1]? = some (some v) → ∀ w, C.1[q.1]? = some (some w) → ty_fit q v w) (hst : C.2.1 = []) (hc : C.2.2.2.2.1 ≤ S.2.2.2.1 ∧ C.2.2.2.2.2 ≤ S.2.2.2.2) : ∃ σ', ty_mo S.1 G.1 ∧ ty_agr (ty_k h S.1) σ σ' ∧ ty_in h σ' G C := by
  unfold ty_gen at he
  cases hb : (S.2.2.1.isEmpty && (ty_ndb sp.1 && sp.1.all (fun q => match S.2.1[q.1]? with
    | some (some v) => ty_fitv S.1.1 q v
    | _ => false))) with
  | false => rw [hb] at he; cases he
  | true =>
    rw [hb] at he
    dsimp only [cond_true] at he
    have c1 := Bool.and_eq_true_iff.mp hb
    have c2 := Bool.and_eq_true_iff.mp c1.2
    split at he
    · rename_i A L hgl
      cases he
      obtain ⟨⟨B, Lg, R, Q, X⟩, LL, st, w⟩ := S
      obtain ⟨ls, stk, n, t, ce, sl⟩ := C
      obtain ⟨s, s1, s2, s3, s4⟩ := ty_gl_ok (k2 := (Lg.1, h.1 + R.1)) (s := σ.2) (ls := ls) sp.1 B A LL L σ.1 hgl hw.1 hl hL hf (ty_ndb_ok _ c2.1)
      obtain ⟨g1, g2, g3⟩ := ty_wk.boxes hw s1 s2 s3
      refine ⟨(s, σ.2), ⟨s2, Nat.le_refl _, Nat.le_refl _⟩, g2, g1, s4, ?_, hc⟩
      have hst' : stk = [] := hst
      rw [hst']
      exact trivial
    · cases he
theorem ty_gen_fit {sp : ty_L} {S G : ty_S} (he : ty_gen sp S = some G) : S.2.2.1 = [] ∧ ∀ q ∈ sp.1, ∀ v, S.2.1[q.1]? = some (some v) → ty_fitv S.1.1 q v = true := by
  unfold ty_gen at he
  cases hb : (S.2.2.1.isEmpty && (ty_ndb sp.1 && sp.1.all (fun q => match S.2.1[q.1]? with
    | some (some v) => ty_fitv S.1.1 q v
    | _ => false))) with
  | false => rw [hb] at he; cases he
  | true =>
    have c1 := Bool.and_eq_true_iff.mp hb
    have c2 := Bool.and_eq_true_iff.mp c1.2
    refine ⟨List.isEmpty_iff.mp c1.1, fun q hq v hv => ?_⟩
    have := List.all_eq_true.mp c2.2 q hq
    rw [hv] at this
    exact this
/-- a state that comes back is one of the free ones -/
theorem ty_arr_ok {sp : ty_L} {S G o : ty_S} {σ0 σ σ' : ty_Sg} {C0 C C' : ty_C} (hg : ty_gen sp S = some G) (he : ty_arr sp S G o = true) (h0 : ty_in h σ0 S C0) (hmo : ty_mo S.1 G.1) (ha0 : ty_agr (ty_k h S.1) σ0 σ) (hG : ty_in h σ G C) (hmo2 : ty_mo G.1 o.1) (ha : ty_agr (ty_k h G.1) σ σ') (hi : ty_in h σ' o C') : (∃ σ2, ty_agr (ty_k h S.1) σ0 σ2 ∧ ty_in h σ2 G C') ∧ ∃ ma mb, C.1[sp.2.2.1]? = some (some (.inl ma)) ∧ C'.1[sp.2.2.1]? = some (some (.inl mb)) ∧ (sp.2.2.2 = true → ty_kp ma + 1 ≤ ty_kp mb) ∧ (sp.2.2.2 = false → ty_kp mb + 1 ≤ ty_kp ma) := by
  have c1 := Bool.and_eq_true_iff.mp he
  have c2 := Bool.and_eq_true_iff.mp c1.2
  have c3 := Bool.and_eq_true_iff.mp c2.2
  have c4 := Bool.and_eq_true_iff.mp c3.2
  have c5 := Bool.and_eq_true_iff.mp c4.2
  have c6 := Bool.and_eq_true_iff.mp c5.2
  have c7 := Bool.and_eq_true_iff.mp c6.2
  have c8 := Bool.and_eq_true_iff.mp c7.2
  have c9 := Bool.and_eq_true_iff.mp c8.2
  have hkSG : ty_kl (ty_k h S.1) (ty_k h G.1) := hmo.k
  have haS : ty_agr (ty_k h S.1) σ0 σ' := ha0.tr ha hkSG
  have k6S := ty_k6 h0.1
  have k6o := ty_k6 hi.1
  have hb : ty_agr (ty_k h S.1) (σ0.1, (σ0.2.1, (σ'.2.2.1, σ'.2.2.2))) σ' := ⟨haS.1, haS.2.1, ty_ag.rf⟩
  have hb0 : ty_agr (ty_k h S.1) σ0 (σ0.1, (σ0.2.1, (σ'.2.2.1, σ'.2.2.2))) := ⟨ty_ag.rf, ty_ag.rf, haS.2.2⟩
  constructor
  · have hlen : o.2.1.length = S.2.1.length := ix_beq.mp c6.1
    have hwk : ty_wk h (σ0.1, (σ0.2.1, (σ'.2.2.1, σ'.2.2.2))) (S.1.1, (S.1.2.1, (S.1.2.2.1, (S.1.2.2.2.1, ty_dr sp.2.1 S.1.2.2.2.2)))) C'.2.2.1 C'.2.2.2.1 := by
      refine ⟨h0.1.1, h0.1.2.1, ⟨hi.1.2.2.1.1, hi.1.2.2.1.2.1, hi.1.2.2.1.2.2.1, hi.1.2.2.1.2.2.2⟩, ⟨h0.1.2.2.2.1.1, fun p hp => ?_⟩, h0.1.2.2.2.2.1, fun f hf => ?_⟩
      · have hp' : p < S.1.2.2.1.1 := hp
        have := hi.1.2.2.2.1.2 p (Nat.lt_of_lt_of_le hp' (ix_ble.mp c4.1))
        have e := ix_beq.mp (List.all_eq_true.mp c5.1 p (List.mem_range.mpr hp'))
        rw [e] at this
        exact this
      · have hm : f ∈ S.1.2.2.2.2 := (List.mem_filter.mp hf).1
        obtain ⟨g, g1, g2⟩ := List.any_eq_true.mp (List.all_eq_true.mp c9.1 f hf)
        have e := ty_feq_ok g2
        subst e
        exact (hi.1.2.2.2.2.2 f g1).dn (h0.1.2.2.2.2.2 f hm) hb k6S k6o
    obtain ⟨σ2, _, s2, s3⟩ := ty_gen_in hg hwk (hlen.symm.trans hi.2.1.1) (fun i v hv => by
        have hlt : i < S.2.1.length := (List.getElem?_eq_some_iff.mp hv).1
        have hz := List.all_eq_true.mp c7.1 i (List.mem_range.mpr hlt)
        rw [hv] at hz
        dsimp only at hz
        split at hz
        · rename_i u hu
          obtain ⟨w, w1, w2⟩ := hi.2.1.2 i u hu
          refine ⟨w, w1, ?_⟩
          cases hq : sp.1.any (fun q => Nat.beq q.1 i) with
          | true =>
            obtain ⟨q, q1, q2⟩ := List.any_eq_true.mp hq
            exact Or.inl ⟨q, q1, ix_beq.mp q2⟩
          | false =>
            rw [hq] at hz
            have e := ty_veq_ok hz
            subst e
            obtain ⟨w0, _, z0⟩ := h0.2.1.2 i v hv
            exact Or.inr (w2.dn z0.sc hb k6S k6o)
        · cases hz) (fun q hq v hv w hw => by
        have hz := List.all_eq_true.mp c8.1 q hq
        rw [hv] at hz
        dsimp only at hz
        split at hz
        · rename_i u hu
          have z1 := Bool.and_eq_true_iff.mp hz
          have z2 := Bool.and_eq_true_iff.mp z1.2
          obtain ⟨w', w1, w2⟩ := hi.2.1.2 q.1 u hu
          rw [hw] at w1
          cases w1
          have hfit := ty_fitv_ok (k2 := (ty_k h o.1).2) hi.1.1 w2 z1.1
          refine ⟨fun hI => hfit.1 ?_, fun hJ => hfit.2 ?_⟩
          · rcases (Bool.or_eq_true _ _).mp z2.1 with y | y
            · rw [hI] at y; cases y
            · exact y
          · rcases (Bool.or_eq_true _ _).mp z2.2 with y | y
            · rw [hJ] at y; cases y
            · exact y
        · cases hz) (by
        have : o.2.2.1 = [] := List.isEmpty_iff.mp c1.1
        have hv := hi.2.2.1
        rw [this] at hv
        exact ty_vs_0 hv) ⟨Nat.le_trans hi.2.2.2.1 (ix_ble.mp c2.1), Nat.le_trans hi.2.2.2.2 (ix_ble.mp c3.1)⟩
    exact ⟨σ2, hb0.tr s2 ty_kl.rf, s3⟩
  · have hz := c9.2
    split at hz
    · rename_i a hA
      split at hz
      · rename_i b hB
        have z1 := Bool.and_eq_true_iff.mp hz
        have z2 := Bool.and_eq_true_iff.mp z1.2
        obtain ⟨wa, wa1, wa2⟩ := hG.2.1.2 _ a hA
        obtain ⟨wb, wb1, wb2⟩ := hi.2.1.2 _ b hB
        obtain ⟨ma, rfl, ia⟩ := wa2.toint z1.1
        obtain ⟨mb, rfl, ib⟩ := wb2.toint z2.1
        have ia' : ty_iv o.1.1.1 σ'.1 a ma := ia.ag ha.1 hmo2.1
        refine ⟨ma, mb, wa1, wb1, fun hup => ?_, fun hup => ?_⟩
        · have z3 := z2.2
          rw [hup] at z3
          exact ty_le_ok hi.1.1 hi.1.2.2.2.2.1 ia' ib z3
        · have z3 := z2.2
          rw [hup] at z3
          exact ty_le_ok hi.1.1 hi.1.2.2.2.2.1 ib ia' z3
      · cases hz
    · cases hz
/-- what our machine runs to, the plain one comes to -/
theorem ty_run_ok {A : Nat → ty_S → ty_R} {H : Nat → Option ty_L} (hA : ∀ pc, ty_sd h pc (fun g => P (ix_exec M ty_no g d) pc) (A pc)) : ∀ (f : Nat) (act : List Nat) (pc : Nat) (S : ty_S) (outs : List (Nat × ty_S)), ty_run A H f act pc S = some outs → ∀ σ C, ty_in h σ S C → ty_res h M d P pc C σ S.1 outs
  | 0, act, pc, S, outs, he, σ, C, hi => by cases he
  | f + 1, act, pc, S, outs, he, σ, C, hi => by
    rw [ty_run_succ] at he
    cases hb : (Nat.beq pc 99999 || act.any (fun q => Nat.beq q pc)) with
    | true =>
      rw [hb] at he
      cases he
      exact ⟨_, List.mem_cons_self, σ, C, ty_mo.rf, ty_agr.rf, hi, fun o ho => ho⟩
    | false =>
      rw [hb, cond_false] at he
      have hpc : ¬ pc = 99999 := fun e => by
        have := (Bool.or_eq_false_iff.mp hb).1
        rw [ix_beq.mpr e] at this
        cases this
      -- one step, then a run
      have hstep : ∀ (act2 : List Nat) (G : ty_S) (o1 l : List (Nat × ty_S)), A pc G = some o1 → o1.foldr (fun o acc => ty_app (ty_run A H f act2 o.1 o.2) acc) (some []) = some l → ∀ σ1 C1, ty_in h σ1 G C1 → ty_res h M d P pc C1 σ1 G.1 l := by
        intro act2 G o1 l e1 e2 σ1 C1 hi1
        obtain ⟨o, om, σ2, C2, m2, a2, i2, hs⟩ := hA pc G o1 e1 σ1 C1 hi1
        obtain ⟨x, x1, x2⟩ := ty_fold_mem (f := fun o => ty_run A H f act2 o.1 o.2) o1 l e2 o om
        obtain ⟨q, qm, σ3, C3, m3, a3, i3, r3⟩ := ty_run_ok hA f act2 o.1 o.2 x x1 σ2 C2 i2
        refine ⟨q, x2 q qm, σ3, C3, m2.tr m3, a2.tr a3 m2.k, i3, ?_⟩
        rcases hs with ⟨e3, e4⟩ | hs
        · rw [e3, e4] at r3; exact r3
        · exact (ty_rt_step hpc hs).tr r3
      cases hH : H pc with
      | none =>
        rw [hH] at he
        dsimp only at he
        split at he
        · cases he
        · rename_i o1 e1
          exact hstep act S o1 outs e1 he σ C hi
      | some sp =>
        rw [hH] at he
        dsimp only at he
        split at he
        · cases he
        · rename_i G hG
          split at he
          · cases he
          · rename_i o1 e1
            split at he
            · cases he
            · rename_i l e2
              cases hc : l.all (fun o => !(Nat.beq o.1 pc) || ty_arr sp S G o.2) with
              | false => rw [hc] at he; cases he
              | true =>
                rw [hc] at he
                cases he
                have hall := List.all_eq_true.mp hc
                obtain ⟨est, hfit⟩ := ty_gen_fit hG
                -- the head, free
                have hent : ∃ σ', ty_mo S.1 G.1 ∧ ty_agr (ty_k h S.1) σ σ' ∧ ty_in h σ' G C := by
                  obtain ⟨⟨B, Lg, R, Q, X⟩, LL, st, w⟩ := S
                  refine ty_gen_in hG (hi.1.fewer (fun f hf => (List.mem_filter.mp hf).1)) hi.2.1.1 (fun i v hv => by
                    obtain ⟨w, w1, w2⟩ := hi.2.1.2 i v hv
                    exact ⟨w, w1, Or.inr w2⟩) (fun q hq v hv w hw => by
                    obtain ⟨w', w1, w2⟩ := hi.2.1.2 q.1 v hv
                    rw [hw] at w1
                    cases w1
                    exact ty_fitv_ok hi.1.1 w2 (hfit q hq v hv)) (by
                    have hv := hi.2.2.1
                    have e9 : st = [] := est
                    subst e9
                    exact ty_vs_0 hv) hi.2.2.2
                obtain ⟨σg, mg, ag, ig⟩ := hent
                have claim : ∀ (N : Nat) (σ1 : ty_Sg) (C1 : ty_C), ty_agr (ty_k h S.1) σ σ1 → ty_in h σ1 G C1 → (∀ m, C1.1[sp.2.2.1]? = some (some (.inl m)) → (sp.2.2.2 = true → 6442450944 ≤ ty_kp m + N) ∧ (sp.2.2.2 = false → ty_kp m ≤ N)) → ty_res h M d P pc C1 σ S.1 (l.filter (fun o => !(Nat.beq o.1 pc))) := by
                  intro N
                  induction N with
                  | zero =>
                    intro σ1 C1 a1 i1 hN
                    obtain ⟨o, om, σ2, C2, m2, a2, i2, r2⟩ := hstep (pc :: act) G o1 l e1 e2 σ1 C1 i1
                    cases hq : Nat.beq o.1 pc with
                    | false => exact ⟨o, List.mem_filter.mpr ⟨om, by rw [hq]; rfl⟩, σ2, C2, mg.tr m2, a1.tr a2 mg.k, i2, r2⟩
                    | true =>
                      have ha := hall o om
                      rw [hq] at ha
                      obtain ⟨_, ma, mb, w1, w2, w3, w4⟩ := ty_arr_ok hG ha hi mg a1 i1 m2 a2 i2
                      have hz := hN ma w1
                      have u1 := ty_kp_hi ma
                      have u2 := ty_kp_lo ma
                      cases hup : sp.2.2.2 with
                      | true => have := hz.1 hup; omega
                      | false => have := hz.2 hup; omega
                  | succ N ih =>
                    intro σ1 C1 a1 i1 hN
                    obtain ⟨o, om, σ2, C2, m2, a2, i2, r2⟩ := hstep (pc :: act) G o1 l e1 e2 σ1 C1 i1
                    cases hq : Nat.beq o.1 pc with
                    | false => exact ⟨o, List.mem_filter.mpr ⟨om, by rw [hq]; rfl⟩, σ2, C2, mg.tr m2, a1.tr a2 mg.k, i2, r2⟩
                    | true =>
                      have ha := hall o om
                      rw [hq] at ha
                      obtain ⟨⟨σ3, a3, i3⟩, ma, mb, w1, w2, w3, w4⟩ := ty_arr_ok hG ha hi mg a1 i1 m2 a2 i2
                      have hz := hN ma w1
                      obtain ⟨o4, om4, σ4, C4, m4, a4, i4, r4⟩ := ih σ3 C2 a3 i3 (fun m hm => by
                        rw [w2] at hm
                        cases hm
                        refine ⟨fun hup => ?_, fun hup => ?_⟩
                        · have := hz.1 hup; have := w3 hup; omega
                        · have := hz.2 hup; have := w4 hup; omega)
                      have eo := ix_beq.mp hq
                      rw [eo] at r2
                      exact ⟨o4, om4, σ4, C4, m4, a4, i4, r2.tr r4⟩
                exact claim 6442450944 σg C ag ig (fun m _ => by
                  have u1 := ty_kp_hi m
                  exact ⟨fun _ => by omega, fun _ => by omega⟩)
end TYO
