/-! the table of the methods that the longer runs need, and the law's run by it -/
abbrev iz_Y : Type := Nat × ((ix_O → ix_Call → ix_P) × Nat)
noncomputable def iz_ty (O : ix_O) (t : Lean.RArray iz_Y) (y : Nat) : Option ((ix_Call → ix_P) × Nat) :=
  Lean.RArray.rec (motive := fun _ => Option ((ix_Call → ix_P) × Nat)) (fun a => cond (Nat.beq y a.1) (some (a.2.1 O, a.2.2)) none) (fun p _ _ l r => cond (Nat.blt y p) l r) t
theorem iz_ty_b {O : ix_O} {y p : Nat} {l r : Lean.RArray iz_Y} (h1 : ix_tb O y (iz_ty O l y)) (h2 : ix_tb O y (iz_ty O r y)) : ix_tb O y (iz_ty O (.branch p l r) y) := by
  show ix_tb O y (cond (Nat.blt y p) (iz_ty O l y) (iz_ty O r y))
  exact ix_tb_b h1 h2
theorem iz_ty_l {O : ix_O} {y q n : Nat} {c : ix_O → ix_Call → ix_P} (hn : n = (xJ q).2.2.1) (h : ix_MO xTs xcl O xsl xJ q (c O)) : ix_tb O y (iz_ty O (.leaf (q, (c, n))) y) := by
  show ix_tb O y (cond (Nat.beq y q) (some (c O, n)) none)
  exact ix_tb_l hn h
noncomputable def iz_T : Lean.RArray iz_Y := (.branch 219 (.branch 86 (.branch 59 (.branch 40 (.branch 19 (.branch 13 (.leaf (5, (iz_fJ13_bitCount_95d88, 2))) (.leaf (13, (iz_fJ7_fill_53178, 4)))) (.branch 27 (.leaf (19, (iz_fX0_init, 3))) (.branch 30 (.leaf (27, (iz_fX10_blow, 7))) (.leaf (30, (iz_fX10_init, 3)))))) (.branch 51 (.branch 42 (.leaf (40, (iz_fX11_countOrPick, 3))) (.leaf (42, (iz_fX11_draughts, 3)))) (.branch 52 (.leaf (51, (iz_fX11_glance, 3))) (.branch 58 (.leaf (52, (iz_fX11_granted, 2))) (.leaf (58, (iz_fX11_image, 2))))))) (.branch 75 (.branch 61 (.branch 60 (.leaf (59, (iz_fX11_init, 5))) (.leaf (60, (iz_fX11_isCell, 1)))) (.branch 63 (.leaf (61, (iz_fX11_isGlass, 1))) (.branch 72 (.leaf (63, (iz_fX11_isWithin, 3))) (.leaf (72, (iz_fX11_pick, 5)))))) (.branch 78 (.branch 76 (.leaf (75, (iz_fX11_quarrel, 3))) (.leaf (76, (iz_fX11_ray, 4)))) (.branch 82 (.leaf (78, (iz_fX11_refused, 3))) (.branch 84 (.leaf (82, (iz_fX11_stand, 3))) (.leaf (84, (iz_fX11_step, 2)))))))) (.branch 146 (.branch 126 (.branch 100 (.branch 94 (.leaf (86, (iz_fX11_stranger, 2))) (.leaf (94, (iz_fX11_views, 2)))) (.branch 109 (.leaf (100, (iz_fX12_beside, 4))) (.branch 122 (.leaf (109, (iz_fX12_draughts, 8))) (.leaf (122, (iz_fX12_glance, 3)))))) (.branch 133 (.branch 132 (.leaf (126, (iz_fX12_good, 2))) (.leaf (132, (iz_fX12_image, 3)))) (.branch 134 (.leaf (133, (iz_fX12_init, 1))) (.branch 137 (.leaf (134, (iz_fX12_isCell, 1))) (.leaf (137, (iz_fX12_isGlass, 1))))))) (.branch 176 (.branch 151 (.branch 150 (.leaf (146, (iz_fX12_laysEstates, 3))) (.leaf (150, (iz_fX12_lies, 3)))) (.branch 153 (.leaf (151, (iz_fX12_lights, 3))) (.branch 175 (.leaf (153, (iz_fX12_looks, 4))) (.leaf (175, (iz_fX12_quarrel, 9)))))) (.branch 198 (.branch 188 (.leaf (176, (iz_fX12_ray, 9))) (.branch 197 (.leaf (188, (iz_fX12_refuses, 2))) (.leaf (197, (iz_fX12_stand, 4))))) (.branch 201 (.leaf (198, (iz_fX12_standsBy, 10))) (.branch 216 (.leaf (201, (iz_fX12_stranger, 6))) (.leaf (216, (iz_fX12_turnsSet, 3))))))))) (.branch 281 (.branch 235 (.branch 227 (.branch 223 (.branch 220 (.leaf (219, (iz_fX12_views, 2))) (.leaf (220, (iz_fX12_viewsFrom, 4)))) (.branch 225 (.leaf (223, (iz_fX1_copy, 3))) (.branch 226 (.leaf (225, (iz_fX1_flipAll, 3))) (.leaf (226, (iz_fX1_init, 1)))))) (.branch 232 (.branch 228 (.leaf (227, (iz_fX1_kindAt, 2))) (.leaf (228, (iz_fX1_lawInForce, 1)))) (.branch 233 (.leaf (232, (iz_fX1_setTerm, 3))) (.branch 234 (.leaf (233, (iz_fX1_term, 2))) (.leaf (234, (iz_fX2_cover, 10))))))) (.branch 242 (.branch 237 (.branch 236 (.leaf (235, (iz_fX2_coverAll, 3))) (.leaf (236, (iz_fX2_firstCell, 2)))) (.branch 239 (.leaf (237, (iz_fX2_group, 4))) (.branch 241 (.leaf (239, (iz_fX2_init, 3))) (.leaf (241, (iz_fX2_rest, 15)))))) (.branch 271 (.branch 252 (.leaf (242, (iz_fX2_strangerCells, 6))) (.branch 270 (.leaf (252, (iz_fX3_init, 2))) (.leaf (270, (iz_fX4_clear, 1))))) (.branch 276 (.leaf (271, (iz_fX4_copy, 4))) (.branch 278 (.leaf (276, (iz_fX4_init, 3))) (.leaf (278, (iz_fX5_argue, 6)))))))) (.branch 312 (.branch 301 (.branch 290 (.branch 287 (.leaf (281, (iz_fX5_estatesIn, 5))) (.leaf (287, (iz_fX5_init, 4)))) (.branch 292 (.leaf (290, (iz_fX5_prepare, 5))) (.branch 293 (.leaf (292, (iz_fX5_sameAs, 8))) (.leaf (293, (iz_fX5_setCount, 1)))))) (.branch 304 (.branch 302 (.leaf (301, (iz_fX6_divide, 4))) (.leaf (302, (iz_fX6_estateOf, 2)))) (.branch 305 (.leaf (304, (iz_fX6_init, 3))) (.branch 309 (.leaf (305, (iz_fX6_kindle, 3))) (.leaf (309, (iz_fX6_rent, 3))))))) (.branch 319 (.branch 314 (.branch 313 (.leaf (312, (iz_fX7_along, 11))) (.leaf (313, (iz_fX7_begin, 3)))) (.branch 317 (.leaf (314, (iz_fX7_comesTo, 5))) (.branch 318 (.leaf (317, (iz_fX7_init, 2))) (.leaf (318, (iz_fX7_look, 9)))))) (.branch 322 (.branch 320 (.leaf (319, (iz_fX7_seenAt, 2))) (.branch 321 (.leaf (320, (iz_fX7_send, 4))) (.leaf (321, (iz_fX7_settleFog, 3))))) (.branch 324 (.leaf (322, (iz_fX7_thingsSeen, 3))) (.branch 330 (.leaf (324, (iz_fX8_init, 4))) (.leaf (330, (iz_fX9_init, 2))))))))))
noncomputable def iz_tbl (O : ix_O) : ix_M := fun y => iz_ty O iz_T y
set_option maxRecDepth 100000 in
theorem iz_M {O : ix_O} (y : Nat) : ix_tb O y (iz_tbl O y) := by
  unfold iz_tbl iz_T
  exact (iz_ty_b (iz_ty_b (iz_ty_b (iz_ty_b (iz_ty_b (iz_ty_b (iz_ty_l rfl iz_mJ13_bitCount_95d88) (iz_ty_l rfl iz_mJ7_fill_53178)) (iz_ty_b (iz_ty_l rfl iz_mX0_init) (iz_ty_b (iz_ty_l rfl iz_mX10_blow) (iz_ty_l rfl iz_mX10_init)))) (iz_ty_b (iz_ty_b (iz_ty_l rfl iz_mX11_countOrPick) (iz_ty_l rfl iz_mX11_draughts)) (iz_ty_b (iz_ty_l rfl iz_mX11_glance) (iz_ty_b (iz_ty_l rfl iz_mX11_granted) (iz_ty_l rfl iz_mX11_image))))) (iz_ty_b (iz_ty_b (iz_ty_b (iz_ty_l rfl iz_mX11_init) (iz_ty_l rfl iz_mX11_isCell)) (iz_ty_b (iz_ty_l rfl iz_mX11_isGlass) (iz_ty_b (iz_ty_l rfl iz_mX11_isWithin) (iz_ty_l rfl iz_mX11_pick)))) (iz_ty_b (iz_ty_b (iz_ty_l rfl iz_mX11_quarrel) (iz_ty_l rfl iz_mX11_ray)) (iz_ty_b (iz_ty_l rfl iz_mX11_refused) (iz_ty_b (iz_ty_l rfl iz_mX11_stand) (iz_ty_l rfl iz_mX11_step)))))) (iz_ty_b (iz_ty_b (iz_ty_b (iz_ty_b (iz_ty_l rfl iz_mX11_stranger) (iz_ty_l rfl iz_mX11_views)) (iz_ty_b (iz_ty_l rfl iz_mX12_beside) (iz_ty_b (iz_ty_l rfl iz_mX12_draughts) (iz_ty_l rfl iz_mX12_glance)))) (iz_ty_b (iz_ty_b (iz_ty_l rfl iz_mX12_good) (iz_ty_l rfl iz_mX12_image)) (iz_ty_b (iz_ty_l rfl iz_mX12_init) (iz_ty_b (iz_ty_l rfl iz_mX12_isCell) (iz_ty_l rfl iz_mX12_isGlass))))) (iz_ty_b (iz_ty_b (iz_ty_b (iz_ty_l rfl iz_mX12_laysEstates) (iz_ty_l rfl iz_mX12_lies)) (iz_ty_b (iz_ty_l rfl iz_mX12_lights) (iz_ty_b (iz_ty_l rfl iz_mX12_looks) (iz_ty_l rfl iz_mX12_quarrel)))) (iz_ty_b (iz_ty_b (iz_ty_l rfl iz_mX12_ray) (iz_ty_b (iz_ty_l rfl iz_mX12_refuses) (iz_ty_l rfl iz_mX12_stand))) (iz_ty_b (iz_ty_l rfl iz_mX12_standsBy) (iz_ty_b (iz_ty_l rfl iz_mX12_stranger) (iz_ty_l rfl iz_mX12_turnsSet))))))) (iz_ty_b (iz_ty_b (iz_ty_b (iz_ty_b (iz_ty_b (iz_ty_l rfl iz_mX12_views) (iz_ty_l rfl iz_mX12_viewsFrom)) (iz_ty_b (iz_ty_l rfl iz_mX1_copy) (iz_ty_b (iz_ty_l rfl iz_mX1_flipAll) (iz_ty_l rfl iz_mX1_init)))) (iz_ty_b (iz_ty_b (iz_ty_l rfl iz_mX1_kindAt) (iz_ty_l rfl iz_mX1_lawInForce)) (iz_ty_b (iz_ty_l rfl iz_mX1_setTerm) (iz_ty_b (iz_ty_l rfl iz_mX1_term) (iz_ty_l rfl iz_mX2_cover))))) (iz_ty_b (iz_ty_b (iz_ty_b (iz_ty_l rfl iz_mX2_coverAll) (iz_ty_l rfl iz_mX2_firstCell)) (iz_ty_b (iz_ty_l rfl iz_mX2_group) (iz_ty_b (iz_ty_l rfl iz_mX2_init) (iz_ty_l rfl iz_mX2_rest)))) (iz_ty_b (iz_ty_b (iz_ty_l rfl iz_mX2_strangerCells) (iz_ty_b (iz_ty_l rfl iz_mX3_init) (iz_ty_l rfl iz_mX4_clear))) (iz_ty_b (iz_ty_l rfl iz_mX4_copy) (iz_ty_b (iz_ty_l rfl iz_mX4_init) (iz_ty_l rfl iz_mX5_argue)))))) (iz_ty_b (iz_ty_b (iz_ty_b (iz_ty_b (iz_ty_l rfl iz_mX5_estatesIn) (iz_ty_l rfl iz_mX5_init)) (iz_ty_b (iz_ty_l rfl iz_mX5_prepare) (iz_ty_b (iz_ty_l rfl iz_mX5_sameAs) (iz_ty_l rfl iz_mX5_setCount)))) (iz_ty_b (iz_ty_b (iz_ty_l rfl iz_mX6_divide) (iz_ty_l rfl iz_mX6_estateOf)) (iz_ty_b (iz_ty_l rfl iz_mX6_init) (iz_ty_b (iz_ty_l rfl iz_mX6_kindle) (iz_ty_l rfl iz_mX6_rent))))) (iz_ty_b (iz_ty_b (iz_ty_b (iz_ty_l rfl iz_mX7_along) (iz_ty_l rfl iz_mX7_begin)) (iz_ty_b (iz_ty_l rfl iz_mX7_comesTo) (iz_ty_b (iz_ty_l rfl iz_mX7_init) (iz_ty_l rfl iz_mX7_look)))) (iz_ty_b (iz_ty_b (iz_ty_l rfl iz_mX7_seenAt) (iz_ty_b (iz_ty_l rfl iz_mX7_send) (iz_ty_l rfl iz_mX7_settleFog))) (iz_ty_b (iz_ty_l rfl iz_mX7_thingsSeen) (iz_ty_b (iz_ty_l rfl iz_mX8_init) (iz_ty_l rfl iz_mX9_init))))))))
noncomputable def iz_law (S0 : Nat → ix_Call) (L : Nat) (B : ix_B) : Option (List ix_S) := ix_loop (iz_fL_law (ix_O0 L) (ix_exec (iz_tbl (ix_O0 L)) S0 100000 15)) 100000 0 (B, [some (ix_vR 1000001), none, none, none], [], 0, .leaf ix_dflt, 0, 0)
/-- only calls of some methods are looked up -/
noncomputable def iz_flt (p : Nat → Bool) (S : Nat → ix_Call) : Nat → ix_Call := fun dd y as B n t => cond (p y) (S dd y as B n t) none
theorem iz_flt_ok {l : Launch} {Ts : List Cond} {cl : List vw_C} {O : ix_O} {sl : ix_Sl} {J : ix_J} {p : Nat → Bool} {S : Nat → ix_Call} (h : ∀ d, ix_CO l Ts cl O sl J (d + 1) (S d)) : ∀ d, ix_CO l Ts cl O sl J (d + 1) (iz_flt p S d) := by
  intro d y as B n t outs hc
  have hc : cond (p y) (S d y as B n t) none = some outs := hc
  cases hp : p y with
  | false => rw [hp] at hc; cases hc
  | true => rw [hp] at hc; exact h d y as B n t outs hc
/-- the law by our machine: what is good there is right -/
theorem xlaw2 {p : Program} {e : Env} {s : State} {m : MethodId} {below : List Frame} {meth : Method} {c : Code} (l : Launch) {b L : Nat} {xs : Nat → Int32} (hL : L ≤ 6) (C0 : lw_At p s m meth c b L xs) (S0 : Nat → ix_Call) (hS0 : ∀ d, ix_CO l xTs xcl (ix_O0 L) xsl xJ (d + 1) (S0 d)) (B : ix_B) (hB : ix_ib (xσ xs) B) (hgood : ix_good (iz_law S0 L B) = true) : W p l e room_1 s m #[Value.ref b] below meth c s.heap [] 0 0 (lw_Z below #[Value.ref b] s) (entryFrame m ([Value.ref b] : List Value).toArray 4) := by
  obtain ⟨hx, hb, hr, hml, hown, hts, hX, hbl, hlocks, hgv⟩ := id C0
  have hs := flat_of_before _ hgv
  have hts2 : ∀ w ∈ xTs, w.before #[Value.ref b] s = true := fun w hw => hts w (List.mem_filter.mp hw).1
  obtain ⟨dT, hdT⟩ := xb_arrays hts
  obtain ⟨dC, dI, hcl⟩ := xb_classes hts2
  obtain ⟨b1, t1, z1⟩ := xb_row (nm := "LEAST_TERMS") (f := xc1) hts hs (by decide +kernel) (by decide +kernel) (by decide +kernel) (by decide +kernel)
  obtain ⟨b2, t2, z2⟩ := xb_row (nm := "MOST_TERMS") (f := xc2) hts hs (by decide +kernel) (by decide +kernel) (by decide +kernel) (by decide +kernel)
  obtain ⟨g, hg⟩ := ix_pick (fun q : String × (Nat × (String × Nat)) => q.2.2.2) (P := fun q a => vk_R q.1 q.2.1 q.2.2.1 a s) xsl xs_nodup (fun q hq => by
    have w1 := of_decide_eq_true (List.all_eq_true.mp xs_words q hq)
    have w2 := of_decide_eq_true (List.all_eq_true.mp xs_exact q hq)
    obtain ⟨a, _, _, _, ha, _⟩ := Cond.exactly_spec (hs _ w2)
    exact ⟨a, vk_R.of (hts _ w1) ha⟩)
  have hsz : ∀ q ∈ xsl, 2000000 ≤ q.2.2.2 := by decide +kernel
  generalize hO : ix_O0 L = O at hS0
  obtain ⟨ad0, ha0, ha1, ha2, ha3, ha4⟩ : ∃ ad0 : Nat → Option Nat, ad0 1000000 = some b ∧ ad0 1000001 = some b1 ∧ ad0 1000002 = some b2 ∧ (∀ i, 2000000 ≤ i → ad0 i = some (g i)) ∧ ∀ i, i < 1000000 → ad0 i = none :=
    ⟨fun i => if i = 1000000 then some b else if i = 1000001 then some b1 else if i = 1000002 then some b2 else if 2000000 ≤ i then some (g i) else none, by simp, by simp, by simp, fun i hi => by
      dsimp only
      rw [if_neg (by omega), if_neg (by omega), if_neg (by omega), if_pos hi], fun i hi => by
      dsimp only
      rw [if_neg (by omega), if_neg (by omega), if_neg (by omega), if_neg (by omega)]⟩
  have hgl : ix_gl s (xσ xs) (fun q => s.heap.size ≤ q) ad0 O xsl := by
    refine ⟨fun i len f hi hOi => ?_, fun q hq => ?_, fun q hq => ⟨_, ha3 _ (hsz q hq), hg q hq⟩, va_AO.of (hts (.arrayOver (.object "MirrorHeirs$Text")) (by decide +kernel)), va_AO.of (hts (.arrayOver (.object "MirrorHeirs$Hall")) (by decide +kernel)), fun q hq => ?_⟩
    · rw [← hO] at hOi
      unfold ix_O0 at hOi
      cases e0 : Nat.beq i 1000000 with
      | true =>
        rw [e0] at hOi
        cases hOi
        rw [ix_beq.mp e0]
        refine ⟨b, xs, ha0, ?_, by omega, fun j hj ad => ?_⟩
        · obtain ⟨scr, s1, s2, s3, s4, s5⟩ := hX
          exact ⟨scr, s1, s2, s3, by omega, by rw [s4], fun j hj => s5 j hj, Nat.not_le.mpr hbl⟩
        · rcases (show j = 0 ∨ j = 1 ∨ j = 2 ∨ j = 3 ∨ j = 4 ∨ j = 5 by omega) with rfl | rfl | rfl | rfl | rfl | rfl
          · exact ⟨by decide, _, rfl, Or.inr (ix_zero_add _).symm⟩
          · exact ⟨by decide, _, rfl, Or.inr (ix_zero_add _).symm⟩
          · exact ⟨by decide, _, rfl, Or.inr (ix_zero_add _).symm⟩
          · exact ⟨by decide, _, rfl, Or.inr (ix_zero_add _).symm⟩
          · exact ⟨by decide, _, rfl, Or.inr (ix_zero_add _).symm⟩
          · exact ⟨by decide, _, rfl, Or.inr (ix_zero_add _).symm⟩
      | false =>
        rw [e0] at hOi
        dsimp only [cond_false] at hOi
        cases e1 : Nat.beq i 1000001 with
        | true =>
          rw [e1] at hOi
          cases hOi
          rw [ix_beq.mp e1]
          refine ⟨b1, xc1, ha1, t1, by decide, fun j hj ad => ?_⟩
          rcases (show j = 0 ∨ j = 1 ∨ j = 2 by omega) with rfl | rfl | rfl
          · exact ⟨by decide, rfl⟩
          · exact ⟨by decide, rfl⟩
          · exact ⟨by decide, rfl⟩
        | false =>
          rw [e1] at hOi
          dsimp only [cond_false] at hOi
          cases e2 : Nat.beq i 1000002 with
          | true =>
            rw [e2] at hOi
            cases hOi
            rw [ix_beq.mp e2]
            refine ⟨b2, xc2, ha2, t2, by decide, fun j hj ad => ?_⟩
            rcases (show j = 0 ∨ j = 1 ∨ j = 2 by omega) with rfl | rfl | rfl
            · exact ⟨by decide, rfl⟩
            · exact ⟨by decide, rfl⟩
            · exact ⟨by decide, rfl⟩
          | false => rw [e2] at hOi; cases hOi
    · rcases List.mem_cons.mp hq with rfl | hq
      · exact ⟨b1, ha1, z1⟩
      · rcases List.mem_cons.mp hq with rfl | hq
        · exact ⟨b2, ha2, z2⟩
        · cases hq
    · have hall : ∀ q ∈ ix_nest, Cond.methodLinkNest q.1 q.2.1 q.2.2.1 q.2.2.2 ∈ lw_tbl := by decide +kernel
      exact va_Nw.of rfl (hts _ (hall q hq))
  have hK : va_K (dC, dI) xcl (ix_tys dT) s := ⟨hcl, hdT⟩
  have hCO := ix_exec_ok (l := l) (Ts := xTs) (cl := xcl) (O := O) (sl := xsl) (J := xJ) (M := iz_tbl O) (S0 := S0) (fuel := 100000) (fun y => iz_M y) hS0 xgood 15
  have hctx : ix_ctx ((p, l, e, room_1, s), (m, #[Value.ref b], below, meth, c), lw_Z below #[Value.ref b] s) (xcl, xσ xs, (dC, dI), dT, (fun q => s.heap.size ≤ q), ad0, 4, (600000, 7302250), fun S => ix_one S = true) "MirrorHeirsLaw" code xTs :=
    ⟨hx, hb, hml, hown, hts2, hK, fun q hq => hq, Nat.le_refl _, Nat.le_refl _⟩
  have henv : ix_env ((p, l, e, room_1, s), (m, #[Value.ref b], below, meth, c), lw_Z below #[Value.ref b] s) (xcl, xσ xs, (dC, dI), dT, (fun q => s.heap.size ≤ q), ad0, 4, (600000, 7302250), fun S => ix_one S = true) "MirrorHeirsLaw" code xTs O xsl xJ 15 (ix_exec (iz_tbl O) S0 100000 15) :=
    ⟨hctx, hgl, hCO, (by decide : 15 + 1 ≤ room_1.frames), (by decide : 64 * 15 + 64 ≤ room_1.locals), xgood⟩
  have hret : ∀ pc nx, ix_at code pc .ireturn 1 nx → ix_ok ((p, l, e, room_1, s), (m, #[Value.ref b], below, meth, c), lw_Z below #[Value.ref b] s) (xcl, xσ xs, (dC, dI), dT, (fun q => s.heap.size ≤ q), ad0, 4, (600000, 7302250), fun S => ix_one S = true) pc (ix_ret ix_isBit) := by
    intro pc nx h S outs hf hg
    obtain ⟨BB, LL, st, nn, t, ce, sl2⟩ := S
    unfold ix_ret at hf
    split at hf
    · rename_i x _ e9
      cases e9
      cases ho : ix_isBit x with
      | false => rw [ho] at hf; cases hf
      | true =>
        rw [ho] at hf
        cases hf
        have hfin : ix_one (BB, [], [x], nn, t, ce, sl2) = true := by
          have := hg _ List.mem_cons_self
          unfold ix_Go at this
          rw [if_pos rfl] at this
          exact this
        have hx1 : x = ix_vI 1 := by
          unfold ix_one at hfin
          split at hfin
          · rename_i e8
            cases e8
            rfl
          · cases hfin
        subst hx1
        refine ix_go_i h.lt fun ad ws H locs ls stk hrel hS => ?_
        obtain ⟨h1, h2, h3, h4, h5, h6, h7⟩ := hrel
        obtain ⟨v, vs, rfl, q2, q3⟩ := ix_rs_1 h3
        have := ix_rs_0 q3
        subst this
        obtain ⟨_, rfl⟩ := q2
        refine va_forget (fun q hq => hS.2.2 q hq) ?_
        refine W.widen (k := 600000) (n := 7302250) h6 h7 ?_
        exact lw_ret hx hb hr hlocks h.1
    · cases hf
  have hok := fun pc => xm_L_law henv rfl rfl hret rfl rfl pc
  cases hrun : iz_law S0 L B with
  | none => rw [hrun] at hgood; cases hgood
  | some outs =>
    rw [hrun] at hgood
    have hall := List.all_eq_true.mp hgood
    unfold iz_law at hrun
    rw [hO, iz_eL_law] at hrun
    have hgo := ix_loop_ok hok 100000 0 _ outs hrun (fun o ho => hall o ho)
    rw [lg_entry_eq]
    refine ix_go_e (by decide) hgo ad0 [] s.heap [] _ [] ⟨hB, ?_, trivial, ix_ext.rf, ⟨rfl, Nat.zero_le _, fun i _ hi => ha4 i hi, fun i hi => absurd hi (Nat.not_lt_zero i), fun k q h => by simp at h, ⟨fun i j p q h => by simp at h, fun k q h => by simp at h⟩⟩, Nat.zero_le _, Nat.zero_le _⟩ va_S.rf
    exact ix_entry (as := [ix_vR 1000001]) (nL := 4) ⟨Or.inr ⟨1000000, b, rfl, ha0, rfl⟩, trivial⟩ (by decide)
noncomputable def iz_p2 (y : Nat) : Bool := Nat.beq y 147 || (Nat.beq y 189 || (Nat.beq y 153 || Nat.beq y 154))
noncomputable def iz_S1 : Nat → ix_Call := iz_flt iz_p2 (ix_sums xS1)
noncomputable def iz_S2 : Nat → ix_Call := iz_flt iz_p2 (ix_sums xS2)
theorem iz_co1 {l : Launch} : ∀ d, ix_CO l xTs xcl (ix_O0 6) xsl xJ (d + 1) (iz_S1 d) := iz_flt_ok xco1
theorem iz_co2 {l : Launch} : ∀ d, ix_CO l xTs xcl (ix_O0 6) xsl xJ (d + 1) (iz_S2 d) := iz_flt_ok xco2
