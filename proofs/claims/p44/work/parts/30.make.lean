/-! references into rows, lengths, new cells -/
section IXM
variable {k : ix_K} {E : ix_E} {own : String} {cc : ByteArray} {Ts : List Cond}
theorem io_aast (C : ix_ctx k E own cc Ts) (hT : ∃ T N, (ix_el E)[9]? = some ("MirrorHeirs$Text", T, N)) (hH : ∃ T N, (ix_el E)[1]? = some ("MirrorHeirs$Hall", T, N)) {pc nx : Nat} (h : ix_at cc pc .aastore 1 nx) : ix_ok k E pc (ix_aast pc nx) := by
  have hp := h.lt
  obtain ⟨hd, rfl, hn⟩ := h
  intro S outs hf hg
  obtain ⟨B, L, st, nn, t, ce, sl⟩ := S
  unfold ix_aast at hf
  split at hf
  · rename_i q j r st0 _ _ _ e9
    cases e9
    split at hf
    · cases hf
    · rename_i i
      refine ix_go_i hp fun ad ws H locs ls stk hr hS => ?_
      have hr0 := hr
      obtain ⟨h1, h2, h3, h4, h5, h6⟩ := hr
      obtain ⟨vx, vr, rfl, q0, h3b⟩ := ix_rs_1 h3
      obtain ⟨vj, va, vs, rfl, q1, q2, q3⟩ := ix_rs_2 h3b
      cases hb : Nat.blt i nn with
      | false => rw [hb] at hf; cases hf
      | true =>
        rw [hb] at hf
        dsimp only [cond_true] at hf
        obtain ⟨a, e, rfl, g1, g2, g3⟩ := ix_ref_cell h5 q2 (ix_blt.mp hb)
        generalize hcell : ix_g t i = c at hf g3
        obtain ⟨kd, len, f⟩ := c
        dsimp only at hf
        cases hchk : ((Nat.beq kd 4 || Nat.beq kd 5) && ix_aok kd q nn t) with
        | false => rw [hchk] at hf; cases hf
        | true =>
          rw [hchk] at hf
          dsimp only [cond_true] at hf
          have hk := Bool.and_eq_true_iff.mp hchk
          have kk45 : kd = 4 ∨ kd = 5 := by
            rcases Bool.or_eq_true_iff.mp hk.1 with g | g
            · exact Or.inl (ix_beq.mp g)
            · exact Or.inr (ix_beq.mp g)
          cases ej : ix_nrm B j with
          | inr w =>
            rw [ej] at hf
            match w, hf with
            | .inl _, hf => cases hf
            | .inr (.inl _), hf => cases hf
            | .inr (.inr (x, c)), hf => exact ix_again hp hf hg hr0 hS
          | inl m =>
            rw [ej] at hf
            dsimp only at hf
            cases hm : Nat.blt m len with
            | false => rw [hm] at hf; cases hf
            | true =>
              rw [hm] at hf
              cases hf
              have hm := ix_blt.mp hm
              obtain ⟨k3, f', rfl, f1, f2⟩ := ix_rc_ref g3 (by show 4 ≤ kd; omega) (by show kd ≤ 97; omega)
              dsimp only at f1 f2
              obtain ⟨z, rfl, z1, z2⟩ := ix_idx h1 q1 ej hm f1
              have fin : ∀ (o : Option Nat) H1 locs1, ix_rv (ix_es E) ad (.inr (.inr (.inl q))) (va_rf o) → va_P (ix_eD E) (ix_el E) (ws.set i (a, .inl (ix_eT E kd, len, .inr (.inr (.inr (.inr (va_up f' z.toNatClampNeg o))))))) H1 → va_D (ix_eA E) (ws.set i (a, .inl (ix_eT E kd, len, .inr (.inr (.inr (.inr (va_up f' z.toNatClampNeg o))))))) → va_S (ix_eA E) (ix_ks k).heap H1 locs1 → ix_W k H1 locs1 ce sl (F0 (ix_km k) (pc + 1) ls vs) := by
                intro o H1 locs1 hv hP hD hS1
                refine ix_go_e hn (hg _ List.mem_cons_self) ad _ H1 locs1 ls vs ⟨h1, h2, q3, h4, h5.upd (ix_blt.mp hb) g1 ?_ hP hD, h6⟩ hS1
                refine Or.inr ⟨by show kd ≠ 98; omega, rfl, by show 4 ≤ kd; omega, k3, rfl, f1, fun jj hj => ?_⟩
                show ix_rv (ix_es E) ad (ix_g (ix_u (ix_dep len) f m _) jj) (va_rf (va_up f' z.toNatClampNeg o jj))
                have hj : jj < len := hj
                rw [z2, ix_gu _ _ m jj _ (ix_dep_lt hm f1) (ix_dep_lt hj f1)]
                unfold va_up
                by_cases ee : jj = m
                · rw [if_pos ee, if_pos ee]; exact hv
                · rw [if_neg ee, if_neg ee]; exact f2 jj hj
              rcases q0 with ⟨hq, rfl⟩ | ⟨i2, b, hq, hb2, rfl⟩
              · have hv : ix_rv (ix_es E) ad (.inr (.inr (.inl q))) (va_rf none) := Or.inl ⟨hq, rfl⟩
                rcases kk45 with rfl | rfl
                · exact va_astqN C.1 C.2.1 C.2.2.2.2.2.1 h5.2.2.2.2.1 h5.2.2.2.2.2 hS i 4 g1 (ix_tys_at _).2.2.2.2.1 z1 hd (fun H1 locs1 hP hD hS1 => fin none H1 locs1 hv hP hD hS1)
                · exact va_astqN C.1 C.2.1 C.2.2.2.2.2.1 h5.2.2.2.2.1 h5.2.2.2.2.2 hS i 5 g1 (ix_tys_at _).2.2.2.2.2 z1 hd (fun H1 locs1 hP hD hS1 => fin none H1 locs1 hv hP hD hS1)
              · subst hq
                have hk2 : Nat.blt i2 nn = true ∧ Nat.beq (ix_g t i2).1 (cond (Nat.beq kd 4) 109 101) = true := Bool.and_eq_true_iff.mp hk.2
                have hv : ix_rv (ix_es E) ad (.inr (.inr (.inl (i2 + 1)))) (va_rf (some b)) := Or.inr ⟨i2, b, rfl, hb2, rfl⟩
                obtain ⟨b', e2, hbb, w1, w2, w3⟩ := ix_ref_cell h5 hv (ix_blt.mp hk2.1)
                have hbb2 : b = b' := Value.ref.inj hbb
                subst hbb2
                have hkd2 := ix_beq.mp hk2.2
                rcases kk45 with rfl | rfl
                · obtain ⟨T, N, hcl⟩ := hT
                  obtain ⟨fs, rfl, -, -, -⟩ := ix_rc_obj (ci := 9) w3 hkd2
                  exact va_astq C.1 C.2.1 C.2.2.2.2.2.1 h5.2.2.2.2.1 h5.2.2.2.2.2 hS i 4 i2 9 g1 (r := ("MirrorHeirs$Text", T, N)) (ix_tys_at _).2.2.2.2.1 w1 hcl z1 hd (fun H1 locs1 hP hD hS1 => fin (some b) H1 locs1 hv hP hD hS1)
                · obtain ⟨T, N, hcl⟩ := hH
                  obtain ⟨fs, rfl, -, -, -⟩ := ix_rc_obj (ci := 1) w3 hkd2
                  exact va_astq C.1 C.2.1 C.2.2.2.2.2.1 h5.2.2.2.2.1 h5.2.2.2.2.2 hS i 5 i2 1 g1 (r := ("MirrorHeirs$Hall", T, N)) (ix_tys_at _).2.2.2.2.2 w1 hcl z1 hd (fun H1 locs1 hP hD hS1 => fin (some b) H1 locs1 hv hP hD hS1)
  · cases hf
theorem io_alen (C : ix_ctx k E own cc Ts) {O : ix_O} (hO : ix_out (ix_ks k) (ix_es E) (ix_eA E) (ix_e0 E) O) {pc nx : Nat} (h : ix_at cc pc .arraylength 1 nx) : ix_ok k E pc (ix_alen O nx) := by
  have hp := h.lt
  obtain ⟨hd, rfl, hn⟩ := h
  intro S outs hf hg
  obtain ⟨B, L, st, nn, t, ce, sl⟩ := S
  unfold ix_alen at hf
  split at hf
  · rename_i r st0 _ _ _ e9
    cases e9
    split at hf
    · cases hf
    · rename_i i
      refine ix_go_i hp fun ad ws H locs ls stk hr hS => ?_
      obtain ⟨h1, h2, h3, h4, h5, h6⟩ := hr
      obtain ⟨va, vs, rfl, q2, q3⟩ := ix_rs_1 h3
      split at hf
      · rename_i len f hsel
        cases hf
        have goal : len ≤ 16384 → ix_W k H locs ce sl (F0 (ix_km k) (pc + 1) ls (.int (Int32.ofNat len) :: vs)) := fun hl => ix_go_e hn (hg _ List.mem_cons_self) ad ws H locs ls _ ⟨h1, h2, ⟨⟨by omega, rfl⟩, q3⟩, h4, h5, h6⟩ hS
        cases hb : Nat.blt i nn with
        | true =>
          rw [hb] at hsel
          dsimp only [cond_true] at hsel
          obtain ⟨a, e, rfl, g1, g2, g3⟩ := ix_ref_cell h5 q2 (ix_blt.mp hb)
          generalize hcell : ix_g t i = c at hsel g3
          obtain ⟨kd, q⟩ := c
          dsimp only at hsel
          cases hk : Nat.blt kd 98 with
          | false => rw [hk] at hsel; cases hsel
          | true =>
            rw [hk] at hsel
            cases hsel
            have k0 := ix_blt.mp hk
            by_cases c1 : kd < 3
            · obtain ⟨f', rfl, f1, f2⟩ := ix_rc_int g3 c1
              rcases (show kd = 0 ∨ kd = 1 ∨ kd = 2 by omega) with rfl | rfl | rfl
              · exact va_alen C.1 C.2.1 C.2.2.2.2.2.1 h5.2.2.2.2.1 i 0 g1 (ix_tys_at _).1 rfl hd (goal f1)
              · exact va_alen C.1 C.2.1 C.2.2.2.2.2.1 h5.2.2.2.2.1 i 1 g1 (ix_tys_at _).2.1 rfl hd (goal f1)
              · exact va_alen C.1 C.2.1 C.2.2.2.2.2.1 h5.2.2.2.2.1 i 2 g1 (ix_tys_at _).2.2.1 rfl hd (goal f1)
            · by_cases c2 : kd = 3
              · subst c2
                obtain ⟨f', rfl, f1, f2⟩ := ix_rc_long g3 rfl
                exact va_alen C.1 C.2.1 C.2.2.2.2.2.1 h5.2.2.2.2.1 i 3 g1 (ix_tys_at _).2.2.2.1 rfl hd (goal f1)
              · obtain ⟨k3, f', rfl, f1, f2⟩ := ix_rc_ref g3 (by show 4 ≤ kd; omega) (by show kd ≤ 97; omega)
                dsimp only at k3
                rcases (show kd = 4 ∨ kd = 5 by omega) with rfl | rfl
                · exact va_alen C.1 C.2.1 C.2.2.2.2.2.1 h5.2.2.2.2.1 i 4 g1 (ix_tys_at _).2.2.2.2.1 rfl hd (goal f1)
                · exact va_alen C.1 C.2.1 C.2.2.2.2.2.1 h5.2.2.2.2.1 i 5 g1 (ix_tys_at _).2.2.2.2.2 rfl hd (goal f1)
        | false =>
          rw [hb] at hsel
          dsimp only [cond_false] at hsel
          cases hm6 : Nat.blt i 1000000 with
          | true => rw [hm6] at hsel; cases hsel
          | false =>
            rw [hm6] at hsel
            dsimp only [cond_false] at hsel
            obtain ⟨b, xs, o1, o2, o5, o6⟩ := hO i len f (by have := ix_blt_f.mp hm6; omega) hsel
            have hva : va = .ref b := by
              rcases q2 with ⟨q, _⟩ | ⟨i', b', hi', hb', rfl⟩
              · omega
              · have : i' = i := by omega
                subst this
                rw [h4 _ _ o1] at hb'
                rw [Option.some.inj hb']
            subst hva
            obtain ⟨cell, t1, t2, t3, t4, t5, t6, t7⟩ := o2.kept (H1 := H) (fun a h1 h2 => hS.2.1 a h1 h2)
            exact W.alen C.1 C.2.1 t1 t2 t5 rfl rfl hd (goal o5)
      · cases hf
  · cases hf
/-- what a field holds at first -/
def ix_dv (x : ix_V) (ty : FieldType) : Bool := match x, ty with
  | .inl 0, .int => true
  | .inl 0, .boolean => true
  | .inl 0, .byte => true
  | .inr (.inl 0), .long => true
  | .inr (.inr (.inl 0)), .object _ => true
  | .inr (.inr (.inl 0)), .array _ => true
  | _, _ => false
theorem ix_dv_ok {σ : ix_Sg} {ad : Nat → Option Nat} {x : ix_V} {ty : FieldType} (h : ix_dv x ty = true) : ix_rv σ ad x (defaultValue ty) := by
  unfold ix_dv at h
  split at h
  · exact ⟨by decide, rfl⟩
  · exact ⟨by decide, rfl⟩
  · exact ⟨by decide, rfl⟩
  · exact ⟨by decide, rfl⟩
  · exact Or.inl ⟨rfl, rfl⟩
  · exact Or.inl ⟨rfl, rfl⟩
  · cases h
theorem io_new (C : ix_ctx k E own cc Ts) {pc nx ci kd idx N capC capS : Nat} {fs : ix_A} {Cn : String} {T : u_T} (h : ix_at cc pc (.new idx) 3 nx) (hkd : kd = ci + 100) (hc : (ix_el E)[ci]? = some (Cn, T, N)) (hin : ∀ w ∈ u_ws Cn T N, w ∈ Ts) (ty : Nat → FieldType) (hty : ∀ k, k < N → parseFieldDescriptor (T k).2.2.1 = some (ty k))
    (hw1 : Cond.classLink own idx Cn ∈ Ts) (hw2 : Cond.instantiable Cn N ∈ Ts) (hw3 : Cond.initialized Cn ∈ Ts) (hN : N ≤ 64) (hdv : ∀ j, j < N → ix_dv (ix_g fs j) (ty j) = true) (hC : capC ≤ ix_eC E) (hCs : capS ≤ ix_eS E) : ix_ok k E pc (ix_new kd N fs capC capS nx) := by
  have hp := h.lt
  obtain ⟨hd, rfl, hn⟩ := h
  intro S outs hf hg
  obtain ⟨B, L, st, nn, t, ce, sl⟩ := S
  unfold ix_new at hf
  dsimp only at hf
  cases hb : (Nat.blt nn 16384 && (Nat.ble (Nat.succ ce) capC && Nat.ble (Nat.add sl N) capS)) with
  | false => rw [hb] at hf; cases hf
  | true =>
    rw [hb] at hf
    cases hf
    have hb1 := Bool.and_eq_true_iff.mp hb
    have hb2 := Bool.and_eq_true_iff.mp hb1.2
    have e1 := ix_blt.mp hb1.1
    have e2 : ce + 1 ≤ capC := ix_ble.mp hb2.1
    have e3 : sl + N ≤ capS := ix_ble.mp hb2.2
    refine ix_go_i hp fun ad ws H locs ls stk hr hS => ?_
    obtain ⟨h1, h2, h3, h4, h5, h6⟩ := hr
    have r1 : ix_eC E ≤ k.1.2.2.2.1.cells := C.2.2.2.2.2.2.2.1
    have r2 : ix_eS E ≤ k.1.2.2.2.1.slots := C.2.2.2.2.2.2.2.2
    refine va_new (fs := (List.range N).map (fun j => defaultValue (ty j))) C.1 C.2.1 C.2.2.2.2.1 hin ty hty C.2.2.2.1 (C.2.2.2.2.1 _ hw1) (C.2.2.2.2.1 _ hw2) (C.2.2.2.2.1 _ hw3) C.2.2.2.2.2.1 h5.2.2.2.2.1 h5.2.2.2.2.2 hS C.2.2.2.2.2.2.1 hc ?_ (by show ce + 1 ≤ _; omega) (by show sl + N ≤ _; omega) hd fun q H1 hP hD hS1 => ?_
    · intro j hj
      unfold vp_V
      rw [List.getD_eq_getElem?_getD, List.getElem?_map, List.getElem?_range hj]
      rfl
    · have hx := h5.adn q
      refine ix_go_e hn (hg _ List.mem_cons_self) (ix_adn ad nn q) _ H1 locs ls (.ref q :: stk) ⟨h1, h2.ext hx, ⟨Or.inr ⟨nn, q, rfl, by simp [ix_adn], rfl⟩, h3.ext hx⟩, h4.tr hx, h5.push e1 ?_ hP hD, ?_, ?_⟩ hS1
      · refine Or.inr ⟨by show kd ≠ 98; omega, hkd, by simp, hN, fun j hj => ?_⟩
        have hj : j < N := hj
        exact ⟨defaultValue (ty j), by rw [List.getElem?_map, List.getElem?_range hj]; rfl, ix_dv_ok (hdv j hj)⟩
      · show ce + 1 ≤ _; omega
      · show sl + N ≤ _; omega
  
/-- a new row of ints, bytes, booleans, longs -/
theorem ix_ok_newa {pc nx kd capC capS : Nat} {z : ix_V} (hp : pc < 99999) (hn : nx < 99999) (hC : capC ≤ ix_eC E) (hCs : capS ≤ ix_eS E)
    (row : ∀ (m : Nat) (ws : va_W) (ad : Nat → Option Nat) H locs ce sl ls stk, m ≤ 16384 → ce + 1 ≤ ix_eC E → sl + m ≤ ix_eS E → va_P (ix_eD E) (ix_el E) ws H → va_D (ix_eA E) ws → va_S (ix_eA E) (ix_ks k).heap H locs →
      (∀ (q : Nat) (e : va_E) H1, (∀ ad, ix_rc (ix_es E) ad (ix_eT E) (kd, m, .leaf z) e) → va_P (ix_eD E) (ix_el E) (ws ++ [(q, e)]) H1 → va_D (ix_eA E) (ws ++ [(q, e)]) → va_S (ix_eA E) (ix_ks k).heap H1 locs → ix_W k H1 locs (ce + 1) (sl + m) (F0 (ix_km k) nx ls (.ref q :: stk))) → ix_W k H locs ce sl (F0 (ix_km k) pc ls (.int (Int32.ofNat m) :: stk))) : ix_ok k E pc (ix_newa kd z capC capS nx) := by
  intro S outs hf hg
  obtain ⟨B, L, st, nn, t, ce, sl⟩ := S
  unfold ix_newa at hf
  split at hf
  · rename_i a0 _ _ _ _ _ e9
    cases e9
    cases ea : ix_nrm B a0 with
    | inr w => rw [ea] at hf; cases hf
    | inl m =>
      rw [ea] at hf
      dsimp only at hf
      cases hb : (Nat.ble m 16384 && (Nat.blt nn 16384 && (Nat.ble (Nat.succ ce) capC && Nat.ble (Nat.add sl m) capS))) with
      | false => rw [hb] at hf; cases hf
      | true =>
        rw [hb] at hf
        cases hf
        have hb0 := Bool.and_eq_true_iff.mp hb
        have hb1 := Bool.and_eq_true_iff.mp hb0.2
        have hb2 := Bool.and_eq_true_iff.mp hb1.2
        have e0 := ix_ble.mp hb0.1
        have e1 := ix_blt.mp hb1.1
        have e2 : ce + 1 ≤ capC := ix_ble.mp hb2.1
        have e3 : sl + m ≤ capS := ix_ble.mp hb2.2
        refine ix_go_i hp fun ad ws H locs ls stk hr hS => ?_
        obtain ⟨h1, h2, h3, h4, h5, h6⟩ := hr
        obtain ⟨va, vs, rfl, q2, q3⟩ := ix_rs_1 h3
        have hv := ix_nrm_ok (ad := ad) h1 q2
        rw [ea] at hv
        obtain ⟨m1, rfl⟩ := hv
        refine row m ws ad H locs ce sl ls vs e0 (by omega) (by omega) h5.2.2.2.2.1 h5.2.2.2.2.2 hS fun q e H1 hrc hP hD hS1 => ?_
        have hx := h5.adn q
        refine ix_go_e hn (hg _ List.mem_cons_self) (ix_adn ad nn q) _ H1 locs ls (.ref q :: vs) ⟨h1, h2.ext hx, ⟨Or.inr ⟨nn, q, rfl, by simp [ix_adn], rfl⟩, q3.ext hx⟩, h4.tr hx, h5.push e1 (hrc _) hP hD, ?_, ?_⟩ hS1
        · show ce + 1 ≤ _; omega
        · show sl + m ≤ _; omega
  · cases hf
/-- the class of a new row is the one that the tables have -/
theorem ix_RA_eq {U : State} {c d : ClassId} {ty : FieldType} (h1 : va_RA U c ty) (h2 : va_RA U d ty) : c = d := by
  cases ty with
  | object C =>
    obtain ⟨_, _, _, _, _, a4⟩ := h1
    obtain ⟨_, _, _, _, _, b4⟩ := h2
    exact Option.some.inj (a4.symm.trans b4)
  | _ => exact Option.some.inj (Eq.symm h1 |>.trans h2)
theorem ix_last {D : va_G} {cl : List vw_C} {tys : List (ClassId × FieldType)} {c : ClassId} {ty : FieldType} {U : State} (h : va_K D cl (tys ++ [(c, ty)]) U) : va_RA U c ty := (h.2 tys.length (c, ty) (by simp)).2
theorem io_newi (C : ix_ctx k E own cc Ts) {pc nx capC capS : Nat} (h : ix_at cc pc (.newarray .int) 2 nx) (hw : Cond.arrayClass .int ∈ Ts) (hC : capC ≤ ix_eC E) (hCs : capS ≤ ix_eS E) : ix_ok k E pc (ix_newa 0 (ix_vI 0) capC capS nx) := by
  have hp := h.lt
  obtain ⟨hd, rfl, hn⟩ := h
  have r1 : ix_eC E ≤ k.1.2.2.2.1.cells := C.2.2.2.2.2.2.2.1
  have r2 : ix_eS E ≤ k.1.2.2.2.1.slots := C.2.2.2.2.2.2.2.2
  refine ix_ok_newa hp hn hC hCs fun m ws ad H locs ce sl ls stk hm hc hs hP hD hS kk => ?_
  refine va_newa (atype := .int) (ty := .int) (a0 := (m, .inl (fun _ => 0))) C.1 C.2.1 (C.2.2.2.2.1 _ hw) rfl C.2.2.2.2.2.1 hP hD hS C.2.2.2.2.2.2.1 (fun _ => rfl) (ix_nn (by omega)) (ix_cl (by omega)) (by show m * 4 ≤ _; omega) (by omega) (by omega) hd fun q cA H1 hK hP1 hD1 hS1 => ?_
  have ec : cA = ix_eT E 0 := ix_RA_eq (ix_last hK) (C.2.2.2.2.2.1.2 0 _ (ix_tys_at _).1).2
  subst ec
  exact kk q (.inl (ix_eT E 0, m, .inl (fun _ => 0))) H1 (fun ad => Or.inr ⟨(by decide : 0 ≠ 98), rfl, (by decide : 0 < 3), rfl, hm, fun j _ => ⟨by decide, rfl⟩⟩) hP1 hD1 hS1
theorem io_newb (C : ix_ctx k E own cc Ts) {pc nx capC capS : Nat} (h : ix_at cc pc (.newarray .byte) 2 nx) (hw : Cond.arrayClass .byte ∈ Ts) (hC : capC ≤ ix_eC E) (hCs : capS ≤ ix_eS E) : ix_ok k E pc (ix_newa 1 (ix_vI 0) capC capS nx) := by
  have hp := h.lt
  obtain ⟨hd, rfl, hn⟩ := h
  have r1 : ix_eC E ≤ k.1.2.2.2.1.cells := C.2.2.2.2.2.2.2.1
  have r2 : ix_eS E ≤ k.1.2.2.2.1.slots := C.2.2.2.2.2.2.2.2
  refine ix_ok_newa hp hn hC hCs fun m ws ad H locs ce sl ls stk hm hc hs hP hD hS kk => ?_
  refine va_newa (atype := .byte) (ty := .byte) (a0 := (m, .inl (fun _ => 0))) C.1 C.2.1 (C.2.2.2.2.1 _ hw) rfl C.2.2.2.2.2.1 hP hD hS C.2.2.2.2.2.2.1 (fun _ => rfl) (ix_nn (by omega)) (ix_cl (by omega)) (by show m * 1 ≤ _; omega) (by omega) (by omega) hd fun q cA H1 hK hP1 hD1 hS1 => ?_
  have ec : cA = ix_eT E 1 := ix_RA_eq (ix_last hK) (C.2.2.2.2.2.1.2 1 _ (ix_tys_at _).2.1).2
  subst ec
  exact kk q (.inl (ix_eT E 1, m, .inl (fun _ => 0))) H1 (fun ad => Or.inr ⟨(by decide : 1 ≠ 98), rfl, (by decide : 1 < 3), rfl, hm, fun j _ => ⟨by decide, rfl⟩⟩) hP1 hD1 hS1
theorem io_newz (C : ix_ctx k E own cc Ts) {pc nx capC capS : Nat} (h : ix_at cc pc (.newarray .boolean) 2 nx) (hw : Cond.arrayClass .boolean ∈ Ts) (hC : capC ≤ ix_eC E) (hCs : capS ≤ ix_eS E) : ix_ok k E pc (ix_newa 2 (ix_vI 0) capC capS nx) := by
  have hp := h.lt
  obtain ⟨hd, rfl, hn⟩ := h
  have r1 : ix_eC E ≤ k.1.2.2.2.1.cells := C.2.2.2.2.2.2.2.1
  have r2 : ix_eS E ≤ k.1.2.2.2.1.slots := C.2.2.2.2.2.2.2.2
  refine ix_ok_newa hp hn hC hCs fun m ws ad H locs ce sl ls stk hm hc hs hP hD hS kk => ?_
  refine va_newa (atype := .boolean) (ty := .boolean) (a0 := (m, .inl (fun _ => 0))) C.1 C.2.1 (C.2.2.2.2.1 _ hw) rfl C.2.2.2.2.2.1 hP hD hS C.2.2.2.2.2.2.1 (fun _ => rfl) (ix_nn (by omega)) (ix_cl (by omega)) (by show m * 1 ≤ _; omega) (by omega) (by omega) hd fun q cA H1 hK hP1 hD1 hS1 => ?_
  have ec : cA = ix_eT E 2 := ix_RA_eq (ix_last hK) (C.2.2.2.2.2.1.2 2 _ (ix_tys_at _).2.2.1).2
  subst ec
  exact kk q (.inl (ix_eT E 2, m, .inl (fun _ => 0))) H1 (fun ad => Or.inr ⟨(by decide : 2 ≠ 98), rfl, (by decide : 2 < 3), rfl, hm, fun j _ => ⟨by decide, rfl⟩⟩) hP1 hD1 hS1
theorem io_newl (C : ix_ctx k E own cc Ts) {pc nx capC capS : Nat} (h : ix_at cc pc (.newarray .long) 2 nx) (hw : Cond.arrayClass .long ∈ Ts) (hC : capC ≤ ix_eC E) (hCs : capS ≤ ix_eS E) : ix_ok k E pc (ix_newa 3 (ix_vL 0) capC capS nx) := by
  have hp := h.lt
  obtain ⟨hd, rfl, hn⟩ := h
  have r1 : ix_eC E ≤ k.1.2.2.2.1.cells := C.2.2.2.2.2.2.2.1
  have r2 : ix_eS E ≤ k.1.2.2.2.1.slots := C.2.2.2.2.2.2.2.2
  refine ix_ok_newa hp hn hC hCs fun m ws ad H locs ce sl ls stk hm hc hs hP hD hS kk => ?_
  refine va_newa (atype := .long) (ty := .long) (a0 := (m, .inr (.inl (fun _ => 0)))) C.1 C.2.1 (C.2.2.2.2.1 _ hw) rfl C.2.2.2.2.2.1 hP hD hS C.2.2.2.2.2.2.1 (fun _ => rfl) (ix_nn (by omega)) (ix_cl (by omega)) (by show m * 8 ≤ _; omega) (by omega) (by omega) hd fun q cA H1 hK hP1 hD1 hS1 => ?_
  have ec : cA = ix_eT E 3 := ix_RA_eq (ix_last hK) (C.2.2.2.2.2.1.2 3 _ (ix_tys_at _).2.2.2.1).2
  subst ec
  exact kk q (.inl (ix_eT E 3, m, .inr (.inl (fun _ => 0)))) H1 (fun ad => Or.inr ⟨(by decide : 3 ≠ 98), rfl, rfl, rfl, hm, fun j _ => ⟨by decide, rfl⟩⟩) hP1 hD1 hS1
theorem io_newq (C : ix_ctx k E own cc Ts) {pc nx kd idx capC capS : Nat} {Cn : String} (h : ix_at cc pc (.anewarray idx) 3 nx) (hk4 : 4 ≤ kd) (hk6 : kd < 6) (ht : (ix_tys (ix_eT E))[kd]? = some (ix_eT E kd, .object Cn)) (hw : Cond.classLink own idx Cn ∈ Ts) (hao : va_AO Cn (ix_ks k)) (hC : capC ≤ ix_eC E) (hCs : capS ≤ ix_eS E) : ix_ok k E pc (ix_newa kd (ix_vR 0) capC capS nx) := by
  have hp := h.lt
  obtain ⟨hd, rfl, hn⟩ := h
  have r1 : ix_eC E ≤ k.1.2.2.2.1.cells := C.2.2.2.2.2.2.2.1
  have r2 : ix_eS E ≤ k.1.2.2.2.1.slots := C.2.2.2.2.2.2.2.2
  refine ix_ok_newa hp hn hC hCs fun m ws ad H locs ce sl ls stk hm hc hs hP hD hS kk => ?_
  refine va_newq C.1 C.2.1 C.2.2.2.1 (C.2.2.2.2.1 _ hw) hao C.2.2.2.2.2.1 hP hD hS C.2.2.2.2.2.2.1 (ix_nn (by omega)) (ix_cl (by omega)) (by omega) (by omega) (by omega) hd fun q cA H1 hK hP1 hD1 hS1 => ?_
  have ec : cA = ix_eT E kd := ix_RA_eq (ix_last hK) (C.2.2.2.2.2.1.2 kd _ ht).2
  subst ec
  exact kk q (.inl (ix_eT E kd, m, .inr (.inr (.inr (.inr (fun _ => none)))))) H1 (fun ad => Or.inr ⟨(show kd ≠ 98 by omega), rfl, hk4, hk6, rfl, hm, fun j _ => Or.inl ⟨rfl, rfl⟩⟩) hP1 hD1 hS1
end IXM
