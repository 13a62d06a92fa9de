/-! the typed machine's rows for copying -/
section TYCR
variable {h : ty_H} {cp : Nat × Nat} {M : ix_M} {d : Nat} {O : ix_O}
theorem ty_lv_put {k : ty_K} {σ : ty_Sg} {L ls : ix_L} {loc : Nat} {v w : ix_V} (hl : ty_lv k σ L ls) (hv : ty_rv k σ v w) : ty_lv k σ (L.set loc (some v)) (ls.set loc (some w)) := by
  refine ⟨by rw [List.length_set, List.length_set]; exact hl.1, fun i u hu => ?_⟩
  rw [List.getElem?_set] at hu ⊢
  by_cases e : loc = i
  · rw [if_pos e] at hu ⊢
    by_cases g : loc < L.length
    · rw [if_pos g] at hu
      rw [if_pos (by rw [← hl.1]; exact g)]
      cases hu
      exact ⟨w, rfl, hv⟩
    · rw [if_neg g] at hu
      cases hu
  · rw [if_neg e] at hu ⊢
    exact hl.2 i u hu
/-- no orders are run -/
noncomputable def ty_off0 (W : ty_W) : Bool := W.2.2.2.2.any (fun f => match f.1.2 with
  | .inr (.inl q) => Nat.beq q 14
  | _ => false)
theorem ty_off0_ok {σ : ty_Sg} {W : ty_W} {n : Nat} {t : ix_T} (hw : ty_wk h σ W n t) (he : ty_off0 W = true) : σ.2.1 1001 = 0 := by
  obtain ⟨f, f1, f2⟩ := List.any_eq_true.mp he
  have hf := hw.2.2.2.2.2 f f1
  obtain ⟨⟨p, j⟩, v⟩ := f
  rcases j with b | q | r | z
  · cases f2
  · have e : q = 14 := ix_beq.mp f2
    subst e
    obtain ⟨m, _, m2⟩ := hf.2
    exact m2.2.2.2 rfl
  · cases f2
  · cases f2
noncomputable def ty_cpw (c2 : Nat) (W : ty_W) : ty_W := (W.1, (W.2.1, (W.2.2.1, (W.2.2.2.1, ty_cpx c2 W.2.2.2.2))))
theorem ty_isP_rv {σ : ty_Sg} {W : ty_W} {n : Nat} {t : ix_T} {a w : ix_V} (hw : ty_wk h σ W n t) (ha : ty_isP 79 a = true) (hv : ty_rv (ty_k h W) σ a w) : w = .inr (.inr (.inl 80)) := by
  have e := ty_isP_ok ha
  subst e
  have hh := hw.2.2.1
  have e114 := hh.2.2.2.2.2.1.1
  have e2 := ty_named hw hv (by omega)
  rw [hh.2.2.1 79 (by omega)] at e2
  exact e2
theorem ty_rng_one {σ : ty_Sg} {W : ty_W} {n m : Nat} {t : ix_T} {b : ix_V} (hw : ty_wk h σ W n t) (hb : ty_iv W.1.1 σ.1 b m) (h1 : (ty_rng W.1 b).1 = (ty_rng W.1 b).2) (h2 : 4294967296 ≤ (ty_rng W.1 b).1) : m = (ty_rng W.1 b).1 - 4294967296 := by
  have r : (ty_rng W.1 b).1 ≤ ty_kp m ∧ ty_kp m ≤ (ty_rng W.1 b).2 := ty_rng_ok hw.1 hb
  obtain ⟨a1, a2⟩ := ty_nn hb.1 (by omega)
  omega

theorem ty_rix_ok {Γ : Nat → Nat} {n i j lo hi k : Nat} {T : ty_T} {c : ix_C} (hc : ty_cok Γ n T c) (h3 : T.1 < 3) (hd : (ix_g T.2.2.2.1 0).1 = 0) (hr : T.2.2.2.2.any (ty_rix i j lo hi) = true) (h1 : i ≤ k) (h2 : k ≤ j) (hk : k < c.2.1) : ∃ m, ix_g c.2.2 k = .inl m ∧ m < 4294967296 ∧ lo ≤ ty_kp m ∧ ty_kp m ≤ hi := by
  have z := hc.2.2.2 k hk
  have s := z.2.1 (by omega)
  unfold ty_sok at s
  rw [hd] at s
  obtain ⟨m, m1, m2, _⟩ := s
  obtain ⟨p, p1, p2⟩ := List.any_eq_true.mp hr
  have y1 := Bool.and_eq_true_iff.mp p2
  have y2 := Bool.and_eq_true_iff.mp y1.2
  have y3 := Bool.and_eq_true_iff.mp y2.2
  have y4 := Bool.and_eq_true_iff.mp y3.2
  have y5 := Bool.and_eq_true_iff.mp y4.2
  have w1 := ix_ble.mp y1.1
  have w2 := ix_ble.mp y2.1
  have w3 := ix_beq.mp y3.1
  have w4 := ix_beq.mp y4.1
  have w5 := ix_ble.mp y5.1
  have w6 := ix_ble.mp y5.2
  have r := z.2.2 h3 p p1 ⟨by omega, by omega, by rw [w3, w4]; omega⟩ m m1
  exact ⟨m, m1, m2, by omega, by omega⟩
/-- kept[MOST] is at least 1: the row's own rule -/
noncomputable def ty_m182 (h : ty_H) : Bool := Nat.blt (h.2 81).1 3 && (Nat.blt 182 (h.2 81).2.1 && (Nat.beq (ix_g (h.2 81).2.2.2.1 0).1 0 && (h.2 81).2.2.2.2.any (ty_rix 182 182 4294967297 4294967302)))
theorem ty_m182_ok {σ : ty_Sg} {W : ty_W} {n : Nat} {t : ix_T} (hw : ty_wk h σ W n t) (he : ty_m182 h = true) : 1 ≤ tx_n t 81 182 := by
  have c1 := Bool.and_eq_true_iff.mp he
  have c2 := Bool.and_eq_true_iff.mp c1.2
  have c3 := Bool.and_eq_true_iff.mp c2.2
  have hh := hw.2.2.1
  have e114 := hh.2.2.2.2.2.1.1
  have n1 : 81 < n := by have := hh.1; omega
  have k1 := hh.2.2.2.1 81 n1
  rw [(hh.2.2.2.2.1 81 n1).1 (by omega)] at k1
  have l1 := k1.2.1
  have b2 := ix_blt.mp c2.1
  obtain ⟨m, m1, m2, m3, m4⟩ := ty_rix_ok k1 (ix_blt.mp c1.1) (ix_beq.mp c3.1) c3.2 (Nat.le_refl 182) (Nat.le_refl 182) (by omega)
  obtain ⟨a1, a2⟩ := ty_nn m2 (by omega)
  unfold tx_n
  rw [m1]
  show 1 ≤ m
  omega
/-- what is known of a place: at least 1 -/
noncomputable def ty_ge1 (W : ty_W) (p k : Nat) : Bool := match ty_find W.1 p (.inl (Nat.add 4294967296 k)) W.2.2.2.2 with
  | some v => ty_isI v && Nat.blt 4294967296 (ty_rng W.1 v).1
  | none => false
theorem ty_ge1_ok {σ : ty_Sg} {W : ty_W} {n p k : Nat} {t : ix_T} (hw : ty_wk h σ W n t) (hp : p < 114) (hk : k < 2147483648) (he : ty_ge1 W p k = true) : 1 ≤ tx_n t p k := by
  unfold ty_ge1 at he
  split at he
  · rename_i v hv
    have c := Bool.and_eq_true_iff.mp he
    obtain ⟨m, m1, m2⟩ := (ty_fslot hw hp hk hv).toint c.1
    have r := (ty_rng_ok hw.1 m2).1
    have b := ix_blt.mp c.2
    obtain ⟨a1, a2⟩ := ty_nn m2.1 (by omega)
    unfold tx_n
    rw [m1]
    show 1 ≤ m
    omega
  · cases he
noncomputable def ty_r183 (h : ty_H) : Bool := Nat.blt (h.2 83).1 3 && (Nat.blt 182 (h.2 83).2.1 && (Nat.beq (ix_g (h.2 83).2.2.2.1 0).1 0 && (h.2 83).2.2.2.2.any (ty_rix 182 182 4294967296 4294967302)))
noncomputable def ty_g83 (h : ty_H) (W : ty_W) : ty_W := match ty_gv h [(83, (182, (4294967297, (4294967302, 0))))] W.1 W.2.2.2.2 with
  | some (A, X) => (A, (W.2.1, (W.2.2.1, (W.2.2.2.1, X))))
  | none => W
theorem ty_g83_ok {σ : ty_Sg} {W : ty_W} {n : Nat} {t : ix_T} (hw : ty_wk h σ W n t) (he : ty_r183 h = true) (h1 : 1 ≤ tx_n t 83 182) : ∃ s, ty_ag (ty_k h W).1 σ.1 s ∧ ty_mo W (ty_g83 h W) ∧ ty_wk h (s, σ.2) (ty_g83 h W) n t := by
  have c1 := Bool.and_eq_true_iff.mp he
  have c2 := Bool.and_eq_true_iff.mp c1.2
  have c3 := Bool.and_eq_true_iff.mp c2.2
  have hh := hw.2.2.1
  have e114 := hh.2.2.2.2.2.1.1
  have n1 : 83 < n := by have := hh.1; omega
  have k1 := hh.2.2.2.1 83 n1
  rw [(hh.2.2.2.2.1 83 n1).1 (by omega)] at k1
  have l1 := k1.2.1
  have b2 := ix_blt.mp c2.1
  obtain ⟨m, m1, m2, m3, m4⟩ := ty_rix_ok k1 (ix_blt.mp c1.1) (ix_beq.mp c3.1) c3.2 (Nat.le_refl 182) (Nat.le_refl 182) (by omega)
  obtain ⟨a1, a2⟩ := ty_nn m2 (by omega)
  have h2 : 1 ≤ m := by
    unfold tx_n at h1
    rw [m1] at h1
    exact h1
  obtain ⟨A, Lg, R, Q, X⟩ := W
  unfold ty_g83
  split
  · rename_i A' X' hg
    obtain ⟨s, s1, s2, s3⟩ := ty_gv_ok _ A A' X X' σ hg hw (fun e hm => by
      rcases List.mem_cons.mp hm with rfl | hm
      · exact ⟨m, m1, m2, by show 4294967297 ≤ ty_kp m; omega, m4, Or.inl rfl⟩
      · cases hm)
    exact ⟨s, s1, ⟨s2, Nat.le_refl _, Nat.le_refl _⟩, s3⟩
  · exact ⟨σ.1, ty_ag.rf, ⟨Nat.le_refl _, Nat.le_refl _, Nat.le_refl _⟩, hw⟩
/-- that an image was taken is set -/
noncomputable def ty_flq (q : Nat × (Nat × (Nat × (Nat × (Nat × Nat))))) : Bool := Nat.ble q.2.2.2.2.1 4294967297 && Nat.ble 4294967297 q.2.2.2.2.2
noncomputable def ty_flc (h : ty_H) : Bool := Nat.beq (h.2 79).1 112 && (Nat.blt 6 (h.2 79).2.1 && (ty_cpf (ix_g (h.2 79).2.2.2.1 6) 84 && (Nat.beq (h.2 84).1 2 && (Nat.ble 2 (h.2 84).2.1 && (Nat.ble (h.2 84).2.2.1 16384 && (ty_cpd (ix_g (h.2 84).2.2.2.1 0) (0, (4294967297, 4294967297)) && (h.2 84).2.2.2.2.all ty_flq))))))
theorem ty_fl_core {σ : ty_Sg} {W : ty_W} {n k : Nat} {t : ix_T} (hw : ty_wk h σ W n t) (he : ty_flc h = true) (hk : k < 2) (h1 : 1 ≤ tx_n t 82 (5800 * k + 182)) : (79 < n ∧ (ix_g t 79).1 = 112 ∧ 6 < (ix_g t 79).2.1 ∧ ix_g (ix_g t 79).2.2 6 = .inr (.inr (.inl 85)) ∧ 84 < n ∧ (ix_g t 84).1 = 2 ∧ k < (ix_g t 84).2.1) ∧ ty_wk h σ (ty_cpw 84 W) n (pl_set 84 k (.inl 1) t) := by
  have c1 := Bool.and_eq_true_iff.mp he
  have c2 := Bool.and_eq_true_iff.mp c1.2
  have c3 := Bool.and_eq_true_iff.mp c2.2
  have c4 := Bool.and_eq_true_iff.mp c3.2
  have c5 := Bool.and_eq_true_iff.mp c4.2
  have c6 := Bool.and_eq_true_iff.mp c5.2
  have c7 := Bool.and_eq_true_iff.mp c6.2
  have dq := Bool.and_eq_true_iff.mp (show (Nat.beq (ix_g (h.2 84).2.2.2.1 0).1 0 && (Nat.beq 0 0 && (Nat.ble (ix_g (h.2 84).2.2.2.1 0).2.1 4294967297 && Nat.ble 4294967297 (ix_g (h.2 84).2.2.2.1 0).2.2))) = true from c7.1)
  have dq2 := Bool.and_eq_true_iff.mp (Bool.and_eq_true_iff.mp dq.2).2
  have d1 := ix_beq.mp dq.1
  have d3 := ix_ble.mp dq2.1
  have d4 := ix_ble.mp dq2.2
  have a1 : (h.2 79).1 = 112 := ix_beq.mp c1.1
  have a2 : 6 < (h.2 79).2.1 := ix_blt.mp c2.1
  have a4 : (h.2 84).1 = 2 := ix_beq.mp c4.1
  have a5 : 2 ≤ (h.2 84).2.1 := ix_ble.mp c5.1
  have a6 : (h.2 84).2.2.1 ≤ 16384 := ix_ble.mp c6.1
  have hh := hw.2.2.1
  have e114 := hh.2.2.2.2.2.1.1
  have hn16 := hh.2.1
  obtain ⟨r1, r2, r3, r4⟩ := ty_ref_of hh (show 79 < 114 by decide) (show 84 < 114 by decide) (by omega) a2 c3.1
  have n1 : 84 < n := by have := hh.1; omega
  have k1 := hh.2.2.2.1 84 n1
  rw [(hh.2.2.2.2.1 84 n1).1 (by omega)] at k1
  have l1 := k1.2.1
  have l2 := k1.2.2.1
  have o : ∀ j, j < 16384 → ¬ j = 84 → ix_g (pl_set 84 k (.inl 1) t) j = ix_g t j := fun j hj hn => pl_set_o (by decide) hj hn
  have kp1 : ty_kp 1 = 4294967297 := by rw [ty_kp_eq]
  have sm : ∀ {c o : Nat}, ix_g (pl_set 84 k (.inl 1) t) c = ix_g t c → ∀ k', 193 ≤ k' → k' < 5800 → tx_n (pl_set 84 k (.inl 1) t) c (o + k') = tx_n t c (o + k') := fun e _ _ _ => tx_n_c e
  have hi := hh.2.2.2.2.2.2.1
  have hinv : ty_inv σ.2.1 (pl_set 84 k (.inl 1) t) := by
    refine ⟨⟨fun j hj => ⟨tx_t_cp hj (sm (o 81 (by decide) (by decide))) (hi.1.1 j hj).1, tx_t_cp hj (sm (o 82 (by decide) (by decide))) (hi.1.1 j hj).2.1, tx_t_cp hj (sm (o 82 (by decide) (by decide))) (hi.1.1 j hj).2.2.1, tx_t_cp hj (sm (o 83 (by decide) (by decide))) (hi.1.1 j hj).2.2.2⟩, fun g => ?_⟩, fun j hj => ?_, fun g => ?_⟩
    · rw [tx_n_c (o 81 (by decide) (by decide)), tx_n_c (o 79 (by decide) (by decide)), tx_k_c (o 81 (by decide) (by decide))]
      exact hi.1.2 g
    · rw [tx_n_c (o 82 (by decide) (by decide))]
      by_cases e : j = k
      · subst e
        exact Or.inr h1
      · have e2 : tx_n (pl_set 84 k (.inl 1) t) 84 j = tx_n t 84 j := by
          unfold tx_n
          rw [pl_set_g (by decide) (by omega) (by omega) (by omega), if_neg e]
        rw [e2]
        exact hi.2.1 j hj
    · rw [tx_n_c (o 83 (by decide) (by decide))]
      exact hi.2.2 g
  refine ⟨⟨r1, r2.trans a1, r3, r4, n1, k1.1.trans a4, by omega⟩, hw.1, hw.2.1, ⟨hh.1, hh.2.1, hh.2.2.1, fun i hi2 => ?_, hh.2.2.2.2.1, hh.2.2.2.2.2.1, hinv, hh.2.2.2.2.2.2.2⟩, hw.2.2.2.1, hw.2.2.2.2.1, fun f hf => ?_⟩
  · by_cases e : i = 84
    · subst e
      rw [(hh.2.2.2.2.1 84 hi2).1 (by omega)]
      have e1 : (ix_g (pl_set 84 k (.inl 1) t) 84).1 = (ix_g t 84).1 := by rw [pl_set_s (by decide)]
      have e2 : (ix_g (pl_set 84 k (.inl 1) t) 84).2.1 = (ix_g t 84).2.1 := by rw [pl_set_s (by decide)]
      refine ⟨by rw [e1]; exact k1.1, by rw [e2]; exact k1.2.1, by rw [e2]; exact k1.2.2.1, fun x hx => ?_⟩
      rw [e2] at hx
      rw [pl_set_g (by decide) (by omega) (by omega) hx]
      by_cases q : x = k
      · rw [if_pos q]
        refine ⟨fun g => by omega, fun _ => ?_, fun _ p hp _ u hu => ?_⟩
        · unfold ty_sok
          rw [d1]
          exact ⟨1, rfl, by decide, by rw [kp1]; exact d3, by rw [kp1]; exact d4⟩
        · cases hu
          have z := Bool.and_eq_true_iff.mp (List.all_eq_true.mp c7.2 p hp)
          rw [kp1]
          exact ⟨ix_ble.mp z.1, ix_ble.mp z.2⟩
      · rw [if_neg q]
        exact k1.2.2.2 x hx
    · rw [o i (by omega) e]
      exact hh.2.2.2.1 i hi2
  · have hm := List.mem_filter.mp hf
    have hfo := hw.2.2.2.2.2 f hm.1
    obtain ⟨⟨p, j⟩, v⟩ := f
    have same : Nat.blt p 114 = true → (!(Nat.beq p 84)) = true → ix_g (pl_set 84 k (.inl 1) t) (σ.2.2.1 p) = ix_g t (σ.2.2.1 p) := fun g1 g2 => by
      have hp := ix_blt.mp g1
      rw [hh.2.2.1 p (by omega)]
      exact o p (by omega) (fun e => by rw [ix_beq.mpr e] at g2; cases g2)
    rcases j with b | q | r | q
    · have g := Bool.and_eq_true_iff.mp hm.2
      have e := same g.1 g.2
      refine ⟨hfo.1, ?_⟩
      dsimp only at hfo ⊢
      rw [e]
      exact hfo.2
    · obtain ⟨m, m1, m2⟩ := hfo.2
      exact ⟨hfo.1, m, m1, ty_lab_c (o 79 (by decide) (by decide)) (o 90 (by decide) (by decide)) (o 91 (by decide) (by decide)) (fun _ => o 81 (by decide) (by decide)) m2⟩
    · have g := Bool.and_eq_true_iff.mp hm.2
      have e := same g.1 g.2
      refine ⟨hfo.1, ?_⟩
      dsimp only at hfo ⊢
      rw [e]
      exact hfo.2
    · have g := Bool.and_eq_true_iff.mp hm.2
      have e := same g.1 g.2
      refine ⟨hfo.1, ?_⟩
      dsimp only at hfo ⊢
      rw [e]
      exact hfo.2
theorem pl_bast {ls : ix_L} {st : List ix_V} {pc nx i m n : Nat} {t : ix_T} {w : Nat × Nat} (hi : i < n) (hk : (ix_g t i).1 = 2) (hm : m < (ix_g t i).2.1) : ix_ast 1 2 pc nx ix_nar ix_isInt ([], ls, .inl 1 :: .inl m :: .inr (.inr (.inl (i + 1))) :: st, n, t, w) = some [(nx, ([], ls, st, n, pl_set i m (.inl 1) t, w))] := by
  rw [pl_ast hi rfl (by omega) (by omega) hm, hk]
  unfold pl_set
  rw [hk]
  rfl
theorem pl_flag {k : Nat} {ce sl n : Nat} {t : ix_T} (H : 79 < n ∧ (ix_g t 79).1 = 112 ∧ 6 < (ix_g t 79).2.1 ∧ ix_g (ix_g t 79).2.2 6 = .inr (.inr (.inl 85)) ∧ 84 < n ∧ (ix_g t 84).1 = 2 ∧ k < (ix_g t 84).2.1) : ty_rt M d (ix_cX12_image O) 48 ([some (.inr (.inr (.inl 80))), some (.inl k), some (.inl 5800)], [], n, t, ce, sl) 55 ([some (.inr (.inr (.inl 80))), some (.inl k), some (.inl 5800)], [], n, (pl_set 84 k (.inl 1) t), ce, sl) := by
  have s0 : ty_rt M d (ix_cX12_image O) 48 ([some (.inr (.inr (.inl 80))), some (.inl k), some (.inl 5800)], [], n, t, ce, sl) 49 ([some (.inr (.inr (.inl 80))), some (.inl k), some (.inl 5800)], [.inr (.inr (.inl 80))], n, t, ce, sl) := pl_go (by decide) (fun _ => pl_F rfl (pl_F rfl (pl_T rfl (pl_T rfl (pl_F rfl (pl_T rfl (rfl)))))))
  have s1 : ty_rt M d (ix_cX12_image O) 49 ([some (.inr (.inr (.inl 80))), some (.inl k), some (.inl 5800)], [.inr (.inr (.inl 80))], n, t, ce, sl) 52 ([some (.inr (.inr (.inl 80))), some (.inl k), some (.inl 5800)], [.inr (.inr (.inl 85))], n, t, ce, sl) := pl_go (by decide) (fun _ => pl_F rfl (pl_F rfl (pl_T rfl (pl_F rfl (pl_T rfl (pl_T rfl (pl_getf H.1 H.2.1 H.2.2.1 H.2.2.2.1)))))))
  have s2 : ty_rt M d (ix_cX12_image O) 52 ([some (.inr (.inr (.inl 80))), some (.inl k), some (.inl 5800)], [.inr (.inr (.inl 85))], n, t, ce, sl) 53 ([some (.inr (.inr (.inl 80))), some (.inl k), some (.inl 5800)], [.inl k, .inr (.inr (.inl 85))], n, t, ce, sl) := pl_go (by decide) (fun _ => pl_F rfl (pl_F rfl (pl_T rfl (pl_F rfl (pl_F rfl (pl_T rfl (pl_T rfl (rfl))))))))
  have s3 : ty_rt M d (ix_cX12_image O) 53 ([some (.inr (.inr (.inl 80))), some (.inl k), some (.inl 5800)], [.inl k, .inr (.inr (.inl 85))], n, t, ce, sl) 54 ([some (.inr (.inr (.inl 80))), some (.inl k), some (.inl 5800)], [.inl 1, .inl k, .inr (.inr (.inl 85))], n, t, ce, sl) := pl_go (by decide) (fun _ => pl_F rfl (pl_F rfl (pl_T rfl (pl_F rfl (pl_F rfl (pl_F rfl (pl_T rfl (rfl))))))))
  have s4 : ty_rt M d (ix_cX12_image O) 54 ([some (.inr (.inr (.inl 80))), some (.inl k), some (.inl 5800)], [.inl 1, .inl k, .inr (.inr (.inl 85))], n, t, ce, sl) 55 ([some (.inr (.inr (.inl 80))), some (.inl k), some (.inl 5800)], [], n, (pl_set 84 k (.inl 1) t), ce, sl) := pl_go (by decide) (fun _ => pl_F rfl (pl_F rfl (pl_F rfl (pl_T rfl (pl_T rfl (pl_T rfl (pl_bast H.2.2.2.2.1 H.2.2.2.2.2.1 H.2.2.2.2.2.2)))))))
  exact s0.tr (s1.tr (s2.tr (s3.tr (s4))))
noncomputable def ty_yimage (h : ty_H) : ty_S → ty_R
  | (W, L, st, w) => (match L with
    | [some a, some b1, x2] => cond (ty_m182 h && (ty_flc h && (st.isEmpty && (ty_isP 79 a && (ty_isI b1 && (Nat.beq (ty_rng W.1 b1).1 (ty_rng W.1 b1).2 && (Nat.ble 4294967296 (ty_rng W.1 b1).1 && (Nat.ble (ty_rng W.1 b1).1 4294967297 && (Nat.ble 11600 (h.2 82).2.1 && (ty_cpc h false 3 81 0 4 82 (Nat.mul 5800 (Nat.sub (ty_rng W.1 b1).1 4294967296)) 5800)))))))))) (some [(55, (ty_cpw 84 (ty_cpw 82 W), ([some a, some b1, x2]).set 2 (some (.inl 4294973096)), [], w))]) none
    | _ => none)
theorem ts_yimage : ty_sm h cp M d (ix_cX12_image O) 15 (ty_yimage h) := by
  intro S outs hs σ C hi
  obtain ⟨W, L, st, w⟩ := S
  obtain ⟨ls, stk, n, t, ce, sl⟩ := C
  unfold ty_yimage at hs
  dsimp only at hs
  split at hs
  rotate_left
  · cases hs
  rename_i a b1 x2
  cases hc : (ty_m182 h && (ty_flc h && (st.isEmpty && (ty_isP 79 a && (ty_isI b1 && (Nat.beq (ty_rng W.1 b1).1 (ty_rng W.1 b1).2 && (Nat.ble 4294967296 (ty_rng W.1 b1).1 && (Nat.ble (ty_rng W.1 b1).1 4294967297 && (Nat.ble 11600 (h.2 82).2.1 && (ty_cpc h false 3 81 0 4 82 (Nat.mul 5800 (Nat.sub (ty_rng W.1 b1).1 4294967296)) 5800)))))))))) with
  | false => rw [hc] at hs; cases hs
  | true =>
    rw [hc, cond_true] at hs
    have ho := Option.some.inj hs
    have c00 := Bool.and_eq_true_iff.mp hc
    have hm82 := ty_m182_ok hi.1 c00.1
    have c01 := Bool.and_eq_true_iff.mp c00.2
    have c0 := Bool.and_eq_true_iff.mp c01.2
    have c1 := Bool.and_eq_true_iff.mp c0.2
    have c2 := Bool.and_eq_true_iff.mp c1.2
    have c3 := Bool.and_eq_true_iff.mp c2.2
    have c4 := Bool.and_eq_true_iff.mp c3.2
    have c5 := Bool.and_eq_true_iff.mp c4.2
    have c6 := Bool.and_eq_true_iff.mp c5.2
    have est : st = [] := List.isEmpty_iff.mp c0.1
    subst est
    have e9 := ty_vs_0 hi.2.2.1
    have e9b : stk = [] := e9
    subst e9b
    have hlen := hi.2.1.1
    obtain ⟨z0, z1, z2, rfl⟩ : ∃ z0 z1 z2 : Option ix_V, ls = [z0, z1, z2] := by
      rcases ls with _ | ⟨z0, _ | ⟨z1, _ | ⟨z2, _ | ⟨_, _⟩⟩⟩⟩
      · exact absurd hlen (by simp)
      · exact absurd hlen (by simp)
      · exact absurd hlen (by simp)
      · exact ⟨z0, z1, z2, rfl⟩
      · exact absurd hlen (by simp)
    obtain ⟨w0, q0, q1⟩ := hi.2.1.2 0 a rfl
    have q2 : z0 = some w0 := Option.some.inj q0
    have q3 := ty_isP_rv hi.1 c1.1 q1
    subst q3
    subst q2
    obtain ⟨w1, r1, s1⟩ := hi.2.1.2 1 b1 rfl
    have u1 : z1 = some w1 := Option.some.inj r1
    obtain ⟨m1, v1, y1⟩ := s1.toint c2.1
    subst v1
    subst u1
    have km : m1 = (ty_rng W.1 b1).1 - 4294967296 := ty_rng_one hi.1 y1 (ix_beq.mp c3.1) (ix_ble.mp c4.1)
    have kl : m1 < 2 := by have := ix_ble.mp c5.1; omega
    have cc : ty_cpc h false 3 81 0 4 82 (5800 * m1) 5800 = true := by
      have z := c6.2
      rw [show Nat.sub (ty_rng W.1 b1).1 4294967296 = m1 from km.symm] at z
      exact z
    obtain ⟨⟨g1, g2, g3, g4, g5, g6⟩, g7⟩ := ty_cp_core hi.1 cc (ix_ble.mp c6.1) (fun e => absurd e (by decide)) (Or.inr ⟨rfl, Or.inl ⟨rfl, rfl, rfl, by omega⟩⟩) (by decide) (fun _ => hm82) (fun e => absurd e (by decide))
    obtain ⟨t2, hcp, hrt⟩ := pl_image (M := M) (O := O) (d := d) (ce := ce) (sl := sl) (x := z2) g1 hi.1.2.2.1.2.1 g2 g3 g4 g5 g6 kl
    have hw := g7 t2 hcp
    have v82 : 1 ≤ tx_n t2 82 (5800 * m1 + 182) := by
      rw [ty_cp_182 hcp g5, Nat.zero_add]
      exact hm82
    obtain ⟨fl1, fl2⟩ := ty_fl_core hw c01.1 kl v82
    have hrt2 := hrt.tr (pl_flag (M := M) (O := O) (d := d) (ce := ce) (sl := sl) fl1)
    exact ⟨(55, (ty_cpw 84 (ty_cpw 82 W), ([some a, some b1, x2]).set 2 (some (.inl 4294973096)), [], w)), by rw [← ho]; exact List.mem_cons_self, σ, (_, [], n, pl_set 84 m1 (.inl 1) t2, ce, sl), ⟨Nat.le_refl _, Nat.le_refl _, Nat.le_refl _⟩, ty_agr.rf, ⟨fl2, ty_lv_put (v := .inl 4294973096) (w := .inl 5800) hi.2.1 (ty_rv.int ⟨by decide, show _ = ty_kp _ from (ty_kp_nn (by decide)).symm⟩), trivial, hi.2.2.2⟩, Or.inr hrt2⟩
noncomputable def ty_yback (h : ty_H) : ty_S → ty_R
  | (W, L, st, w) => (match L with
    | [some a, some b1, x2] => cond (ty_ge1 W 84 (Nat.sub (ty_rng W.1 b1).1 4294967296) && (st.isEmpty && (ty_isP 79 a && (ty_isI b1 && (Nat.beq (ty_rng W.1 b1).1 (ty_rng W.1 b1).2 && (Nat.ble 4294967296 (ty_rng W.1 b1).1 && (Nat.ble (ty_rng W.1 b1).1 4294967297 && (Nat.ble 11600 (h.2 82).2.1 && (ty_off0 W && (ty_cpc h true 4 82 (Nat.mul 5800 (Nat.sub (ty_rng W.1 b1).1 4294967296)) 3 81 0 5800)))))))))) (some [(64, (ty_cpw 81 W, ([some a, some b1, x2]).set 2 (some (.inl 4294973096)), [], w))]) none
    | _ => none)
theorem ts_yback : ty_sm h cp M d (ix_cX12_back O) 31 (ty_yback h) := by
  intro S outs hs σ C hi
  obtain ⟨W, L, st, w⟩ := S
  obtain ⟨ls, stk, n, t, ce, sl⟩ := C
  unfold ty_yback at hs
  dsimp only at hs
  split at hs
  rotate_left
  · cases hs
  rename_i a b1 x2
  cases hc : (ty_ge1 W 84 (Nat.sub (ty_rng W.1 b1).1 4294967296) && (st.isEmpty && (ty_isP 79 a && (ty_isI b1 && (Nat.beq (ty_rng W.1 b1).1 (ty_rng W.1 b1).2 && (Nat.ble 4294967296 (ty_rng W.1 b1).1 && (Nat.ble (ty_rng W.1 b1).1 4294967297 && (Nat.ble 11600 (h.2 82).2.1 && (ty_off0 W && (ty_cpc h true 4 82 (Nat.mul 5800 (Nat.sub (ty_rng W.1 b1).1 4294967296)) 3 81 0 5800)))))))))) with
  | false => rw [hc] at hs; cases hs
  | true =>
    rw [hc, cond_true] at hs
    have ho := Option.some.inj hs
    have c00 := Bool.and_eq_true_iff.mp hc
    have c0 := Bool.and_eq_true_iff.mp c00.2
    have c1 := Bool.and_eq_true_iff.mp c0.2
    have c2 := Bool.and_eq_true_iff.mp c1.2
    have c3 := Bool.and_eq_true_iff.mp c2.2
    have c4 := Bool.and_eq_true_iff.mp c3.2
    have c5 := Bool.and_eq_true_iff.mp c4.2
    have c6 := Bool.and_eq_true_iff.mp c5.2
    have c7 := Bool.and_eq_true_iff.mp c6.2
    have est : st = [] := List.isEmpty_iff.mp c0.1
    subst est
    have e9 := ty_vs_0 hi.2.2.1
    have e9b : stk = [] := e9
    subst e9b
    have hlen := hi.2.1.1
    obtain ⟨z0, z1, z2, rfl⟩ : ∃ z0 z1 z2 : Option ix_V, ls = [z0, z1, z2] := by
      rcases ls with _ | ⟨z0, _ | ⟨z1, _ | ⟨z2, _ | ⟨_, _⟩⟩⟩⟩
      · exact absurd hlen (by simp)
      · exact absurd hlen (by simp)
      · exact absurd hlen (by simp)
      · exact ⟨z0, z1, z2, rfl⟩
      · exact absurd hlen (by simp)
    obtain ⟨w0, q0, q1⟩ := hi.2.1.2 0 a rfl
    have q2 : z0 = some w0 := Option.some.inj q0
    have q3 := ty_isP_rv hi.1 c1.1 q1
    subst q3
    subst q2
    obtain ⟨w1, r1, s1⟩ := hi.2.1.2 1 b1 rfl
    have u1 : z1 = some w1 := Option.some.inj r1
    obtain ⟨m1, v1, y1⟩ := s1.toint c2.1
    subst v1
    subst u1
    have km : m1 = (ty_rng W.1 b1).1 - 4294967296 := ty_rng_one hi.1 y1 (ix_beq.mp c3.1) (ix_ble.mp c4.1)
    have kl : m1 < 2 := by have := ix_ble.mp c5.1; omega
    have cc : ty_cpc h true 4 82 (5800 * m1) 3 81 0 5800 = true := by
      have z := c7.2
      rw [show Nat.sub (ty_rng W.1 b1).1 4294967296 = m1 from km.symm] at z
      exact z
    have v82 : 1 ≤ tx_n t 82 (5800 * m1 + 182) := by
      have z := c00.1
      rw [show Nat.sub (ty_rng W.1 b1).1 4294967296 = m1 from km.symm] at z
      have z1 := ty_ge1_ok hi.1 (by decide) (by omega) z
      rcases hi.1.2.2.1.2.2.2.2.2.2.1.2.1 m1 kl with q | q
      · omega
      · exact q
    obtain ⟨⟨g1, g2, g3, g4, g5, g6⟩, g7⟩ := ty_cp_core hi.1 cc (ix_ble.mp c6.1) (fun _ => by rw [ty_off0_ok hi.1 c7.1]; decide) (Or.inr ⟨rfl, Or.inr (Or.inr ⟨rfl, rfl, Or.inl ⟨rfl, by omega⟩⟩)⟩) (by decide) (fun e => absurd e (by decide)) (fun _ => v82)
    obtain ⟨t2, hcp, hrt⟩ := pl_back (M := M) (O := O) (d := d) (ce := ce) (sl := sl) (x := z2) g1 hi.1.2.2.1.2.1 g2 g3 g4 g5 g6 kl
    have hw := g7 t2 hcp
    exact ⟨(64, (ty_cpw 81 W, ([some a, some b1, x2]).set 2 (some (.inl 4294973096)), [], w)), by rw [← ho]; exact List.mem_cons_self, σ, (_, [], n, t2, ce, sl), ⟨Nat.le_refl _, Nat.le_refl _, Nat.le_refl _⟩, ty_agr.rf, ⟨hw, ty_lv_put (v := .inl 4294973096) (w := .inl 5800) hi.2.1 (ty_rv.int ⟨by decide, show _ = ty_kp _ from (ty_kp_nn (by decide)).symm⟩), trivial, hi.2.2.2⟩, Or.inr hrt⟩
noncomputable def ty_yahead (h : ty_H) : ty_S → ty_R
  | (W, L, st, w) => (match L with
    | [some a, x1, x2, x3, x4] => cond (ty_m182 h && ty_r183 h && (st.isEmpty && (ty_isP 79 a && (Nat.ble 11600 (h.2 82).2.1 && (ty_cpc h false 3 81 0 5 83 0 5800))))) (some [(47, (ty_g83 h (ty_cpw 83 W), ([some a, x1, x2, x3, x4]).set 1 (some (.inl 4294973096)), [], w))]) none
    | _ => none)
theorem ts_yahead : ty_sm h cp M d (ix_cX12_orders O) 20 (ty_yahead h) := by
  intro S outs hs σ C hi
  obtain ⟨W, L, st, w⟩ := S
  obtain ⟨ls, stk, n, t, ce, sl⟩ := C
  unfold ty_yahead at hs
  dsimp only at hs
  split at hs
  rotate_left
  · cases hs
  rename_i a x1 x2 x3 x4
  cases hc : (ty_m182 h && ty_r183 h && (st.isEmpty && (ty_isP 79 a && (Nat.ble 11600 (h.2 82).2.1 && (ty_cpc h false 3 81 0 5 83 0 5800))))) with
  | false => rw [hc] at hs; cases hs
  | true =>
    rw [hc, cond_true] at hs
    have ho := Option.some.inj hs
    have c00 := Bool.and_eq_true_iff.mp hc
    have c01 := Bool.and_eq_true_iff.mp c00.1
    have hm82 := ty_m182_ok hi.1 c01.1
    have c0 := Bool.and_eq_true_iff.mp c00.2
    have c1 := Bool.and_eq_true_iff.mp c0.2
    have c2 := Bool.and_eq_true_iff.mp c1.2
    have est : st = [] := List.isEmpty_iff.mp c0.1
    subst est
    have e9 := ty_vs_0 hi.2.2.1
    have e9b : stk = [] := e9
    subst e9b
    have hlen := hi.2.1.1
    obtain ⟨z0, z1, z2, z3, z4, rfl⟩ : ∃ z0 z1 z2 z3 z4 : Option ix_V, ls = [z0, z1, z2, z3, z4] := by
      rcases ls with _ | ⟨z0, _ | ⟨z1, _ | ⟨z2, _ | ⟨z3, _ | ⟨z4, _ | ⟨_, _⟩⟩⟩⟩⟩⟩
      · exact absurd hlen (by simp)
      · exact absurd hlen (by simp)
      · exact absurd hlen (by simp)
      · exact absurd hlen (by simp)
      · exact absurd hlen (by simp)
      · exact ⟨z0, z1, z2, z3, z4, rfl⟩
      · exact absurd hlen (by simp)
    obtain ⟨w0, q0, q1⟩ := hi.2.1.2 0 a rfl
    have q2 : z0 = some w0 := Option.some.inj q0
    have q3 := ty_isP_rv hi.1 c1.1 q1
    subst q3
    subst q2
    have cc : ty_cpc h false 3 81 0 5 83 0 5800 = true := by
      exact c2.2
    obtain ⟨⟨g1, g2, g3, g4, g5, g6⟩, g7⟩ := ty_cp_core hi.1 cc (ix_ble.mp c2.1) (fun e => absurd e (by decide)) (Or.inr ⟨rfl, Or.inr (Or.inl ⟨rfl, rfl, rfl, rfl⟩)⟩) (by decide) (fun _ => hm82) (fun e => absurd e (by decide))
    obtain ⟨t2, hcp, hrt⟩ := pl_ahead (M := M) (O := O) (d := d) (ce := ce) (sl := sl) (x := z1) (y2 := z2) (y3 := z3) (y4 := z4) g1 hi.1.2.2.1.2.1 g2 g3 g4 g5 g6
    have hw := g7 t2 hcp
    have v83 : 1 ≤ tx_n t2 83 182 := by
      have z := ty_cp_182 hcp g5
      rw [Nat.zero_add] at z
      rw [z]
      exact hm82
    obtain ⟨s, sa, skl, swk⟩ := ty_g83_ok hw c01.2 v83
    have sag : ty_agr (ty_k h (ty_cpw 83 W)) σ (s, σ.2) := ⟨sa, ty_ag.rf, ty_ag.rf, fun _ _ => rfl⟩
    have lv3 : ty_lv (ty_k h (ty_cpw 83 W)) σ [some a, x1, x2, x3, x4] [some (.inr (.inr (.inl 80))), z1, z2, z3, z4] := hi.2.1
    exact ⟨(47, (ty_g83 h (ty_cpw 83 W), ([some a, x1, x2, x3, x4]).set 1 (some (.inl 4294973096)), [], w)), by rw [← ho]; exact List.mem_cons_self, (s, σ.2), (_, [], n, t2, ce, sl), skl, sag, ⟨swk, ty_lv_put (v := .inl 4294973096) (w := .inl 5800) (lv3.ag sag skl.k) (ty_rv.int ⟨by decide, show _ = ty_kp _ from (ty_kp_nn (by decide)).symm⟩), trivial, hi.2.2.2⟩, Or.inr hrt⟩
noncomputable def ty_yundo1 (h : ty_H) : ty_S → ty_R
  | (W, L, st, w) => (match L with
    | [some a, x1, x2, x3, x4] => cond (st.isEmpty && (ty_isP 79 a && (Nat.ble 11600 (h.2 82).2.1 && (ty_cpc h false 7 85 0 8 86 0 48)))) (some [(73, (ty_cpw 86 W, ([some a, x1, x2, x3, x4]).set 1 (some (.inl 4294967344)), [], w))]) none
    | _ => none)
theorem ts_yundo1 : ty_sm h cp M d (ix_cX12_orders O) 47 (ty_yundo1 h) := by
  intro S outs hs σ C hi
  obtain ⟨W, L, st, w⟩ := S
  obtain ⟨ls, stk, n, t, ce, sl⟩ := C
  unfold ty_yundo1 at hs
  dsimp only at hs
  split at hs
  rotate_left
  · cases hs
  rename_i a x1 x2 x3 x4
  cases hc : (st.isEmpty && (ty_isP 79 a && (Nat.ble 11600 (h.2 82).2.1 && (ty_cpc h false 7 85 0 8 86 0 48)))) with
  | false => rw [hc] at hs; cases hs
  | true =>
    rw [hc, cond_true] at hs
    have ho := Option.some.inj hs
    have c0 := Bool.and_eq_true_iff.mp hc
    have c1 := Bool.and_eq_true_iff.mp c0.2
    have c2 := Bool.and_eq_true_iff.mp c1.2
    have est : st = [] := List.isEmpty_iff.mp c0.1
    subst est
    have e9 := ty_vs_0 hi.2.2.1
    have e9b : stk = [] := e9
    subst e9b
    have hlen := hi.2.1.1
    obtain ⟨z0, z1, z2, z3, z4, rfl⟩ : ∃ z0 z1 z2 z3 z4 : Option ix_V, ls = [z0, z1, z2, z3, z4] := by
      rcases ls with _ | ⟨z0, _ | ⟨z1, _ | ⟨z2, _ | ⟨z3, _ | ⟨z4, _ | ⟨_, _⟩⟩⟩⟩⟩⟩
      · exact absurd hlen (by simp)
      · exact absurd hlen (by simp)
      · exact absurd hlen (by simp)
      · exact absurd hlen (by simp)
      · exact absurd hlen (by simp)
      · exact ⟨z0, z1, z2, z3, z4, rfl⟩
      · exact absurd hlen (by simp)
    obtain ⟨w0, q0, q1⟩ := hi.2.1.2 0 a rfl
    have q2 : z0 = some w0 := Option.some.inj q0
    have q3 := ty_isP_rv hi.1 c1.1 q1
    subst q3
    subst q2
    have cc : ty_cpc h false 7 85 0 8 86 0 48 = true := by
      exact c2.2
    obtain ⟨⟨g1, g2, g3, g4, g5, g6⟩, g7⟩ := ty_cp_core hi.1 cc (ix_ble.mp c2.1) (fun e => absurd e (by decide)) (Or.inl (by decide)) (by decide) (fun e => absurd e (by decide)) (fun e => absurd e (by decide))
    obtain ⟨t2, hcp, hrt⟩ := pl_undo1 (M := M) (O := O) (d := d) (ce := ce) (sl := sl) (x := z1) (y2 := z2) (y3 := z3) (y4 := z4) g1 hi.1.2.2.1.2.1 g2 g3 g4 g5 g6
    have hw := g7 t2 hcp
    exact ⟨(73, (ty_cpw 86 W, ([some a, x1, x2, x3, x4]).set 1 (some (.inl 4294967344)), [], w)), by rw [← ho]; exact List.mem_cons_self, σ, (_, [], n, t2, ce, sl), ⟨Nat.le_refl _, Nat.le_refl _, Nat.le_refl _⟩, ty_agr.rf, ⟨hw, ty_lv_put (v := .inl 4294967344) (w := .inl 48) hi.2.1 (ty_rv.int ⟨by decide, show _ = ty_kp _ from (ty_kp_nn (by decide)).symm⟩), trivial, hi.2.2.2⟩, Or.inr hrt⟩
noncomputable def ty_yagain (h : ty_H) : ty_S → ty_R
  | (W, L, st, w) => (match L with
    | [some a, x1, x2, some b3, x4] => cond (ty_ge1 W 83 182 && (st.isEmpty && (ty_isP 79 a && (ty_isI b3 && (Nat.ble 11600 (h.2 82).2.1 && (ty_off0 W && (ty_cpc h true 5 83 0 3 81 0 5800))))))) (some [(162, (ty_cpw 81 W, ([some a, x1, x2, some b3, x4]).set 4 (some (.inl 4294973096)), [], w))]) none
    | _ => none)
theorem ts_yagain : ty_sm h cp M d (ix_cX12_orders O) 131 (ty_yagain h) := by
  intro S outs hs σ C hi
  obtain ⟨W, L, st, w⟩ := S
  obtain ⟨ls, stk, n, t, ce, sl⟩ := C
  unfold ty_yagain at hs
  dsimp only at hs
  split at hs
  rotate_left
  · cases hs
  rename_i a x1 x2 b3 x4
  cases hc : (ty_ge1 W 83 182 && (st.isEmpty && (ty_isP 79 a && (ty_isI b3 && (Nat.ble 11600 (h.2 82).2.1 && (ty_off0 W && (ty_cpc h true 5 83 0 3 81 0 5800))))))) with
  | false => rw [hc] at hs; cases hs
  | true =>
    rw [hc, cond_true] at hs
    have ho := Option.some.inj hs
    have c00 := Bool.and_eq_true_iff.mp hc
    have h83 := ty_ge1_ok hi.1 (by decide) (by decide) c00.1
    have c0 := Bool.and_eq_true_iff.mp c00.2
    have c1 := Bool.and_eq_true_iff.mp c0.2
    have c2 := Bool.and_eq_true_iff.mp c1.2
    have c3 := Bool.and_eq_true_iff.mp c2.2
    have c4 := Bool.and_eq_true_iff.mp c3.2
    have est : st = [] := List.isEmpty_iff.mp c0.1
    subst est
    have e9 := ty_vs_0 hi.2.2.1
    have e9b : stk = [] := e9
    subst e9b
    have hlen := hi.2.1.1
    obtain ⟨z0, z1, z2, z3, z4, rfl⟩ : ∃ z0 z1 z2 z3 z4 : Option ix_V, ls = [z0, z1, z2, z3, z4] := by
      rcases ls with _ | ⟨z0, _ | ⟨z1, _ | ⟨z2, _ | ⟨z3, _ | ⟨z4, _ | ⟨_, _⟩⟩⟩⟩⟩⟩
      · exact absurd hlen (by simp)
      · exact absurd hlen (by simp)
      · exact absurd hlen (by simp)
      · exact absurd hlen (by simp)
      · exact absurd hlen (by simp)
      · exact ⟨z0, z1, z2, z3, z4, rfl⟩
      · exact absurd hlen (by simp)
    obtain ⟨w0, q0, q1⟩ := hi.2.1.2 0 a rfl
    have q2 : z0 = some w0 := Option.some.inj q0
    have q3 := ty_isP_rv hi.1 c1.1 q1
    subst q3
    subst q2
    obtain ⟨w3, r3, s3⟩ := hi.2.1.2 3 b3 rfl
    have u3 : z3 = some w3 := Option.some.inj r3
    obtain ⟨m3, v3, y3⟩ := s3.toint c2.1
    subst v3
    subst u3
    have cc : ty_cpc h true 5 83 0 3 81 0 5800 = true := by
      exact c4.2
    obtain ⟨⟨g1, g2, g3, g4, g5, g6⟩, g7⟩ := ty_cp_core hi.1 cc (ix_ble.mp c3.1) (fun _ => by rw [ty_off0_ok hi.1 c4.1]; decide) (Or.inr ⟨rfl, Or.inr (Or.inr ⟨rfl, rfl, Or.inr ⟨rfl, rfl⟩⟩)⟩) (by decide) (fun e => absurd e (by decide)) (fun _ => by rw [Nat.zero_add]; exact h83)
    obtain ⟨t2, hcp, hrt⟩ := pl_again (M := M) (O := O) (d := d) (ce := ce) (sl := sl) (x := z4) (y1 := z1) (y2 := z2) g1 hi.1.2.2.1.2.1 g2 g3 g4 g5 g6
    have hw := g7 t2 hcp
    exact ⟨(162, (ty_cpw 81 W, ([some a, x1, x2, some b3, x4]).set 4 (some (.inl 4294973096)), [], w)), by rw [← ho]; exact List.mem_cons_self, σ, (_, [], n, t2, ce, sl), ⟨Nat.le_refl _, Nat.le_refl _, Nat.le_refl _⟩, ty_agr.rf, ⟨hw, ty_lv_put (v := .inl 4294973096) (w := .inl 5800) hi.2.1 (ty_rv.int ⟨by decide, show _ = ty_kp _ from (ty_kp_nn (by decide)).symm⟩), trivial, hi.2.2.2⟩, Or.inr hrt⟩
noncomputable def ty_yundo2 (h : ty_H) : ty_S → ty_R
  | (W, L, st, w) => (match L with
    | [some a, x1, x2, some b3, x4] => cond (st.isEmpty && (ty_isP 79 a && (ty_isI b3 && (Nat.ble 11600 (h.2 82).2.1 && (ty_cpc h false 8 86 0 7 85 0 48))))) (some [(192, (ty_cpw 85 W, ([some a, x1, x2, some b3, x4]).set 4 (some (.inl 4294967344)), [], w))]) none
    | _ => none)
theorem ts_yundo2 : ty_sm h cp M d (ix_cX12_orders O) 162 (ty_yundo2 h) := by
  intro S outs hs σ C hi
  obtain ⟨W, L, st, w⟩ := S
  obtain ⟨ls, stk, n, t, ce, sl⟩ := C
  unfold ty_yundo2 at hs
  dsimp only at hs
  split at hs
  rotate_left
  · cases hs
  rename_i a x1 x2 b3 x4
  cases hc : (st.isEmpty && (ty_isP 79 a && (ty_isI b3 && (Nat.ble 11600 (h.2 82).2.1 && (ty_cpc h false 8 86 0 7 85 0 48))))) with
  | false => rw [hc] at hs; cases hs
  | true =>
    rw [hc, cond_true] at hs
    have ho := Option.some.inj hs
    have c0 := Bool.and_eq_true_iff.mp hc
    have c1 := Bool.and_eq_true_iff.mp c0.2
    have c2 := Bool.and_eq_true_iff.mp c1.2
    have c3 := Bool.and_eq_true_iff.mp c2.2
    have est : st = [] := List.isEmpty_iff.mp c0.1
    subst est
    have e9 := ty_vs_0 hi.2.2.1
    have e9b : stk = [] := e9
    subst e9b
    have hlen := hi.2.1.1
    obtain ⟨z0, z1, z2, z3, z4, rfl⟩ : ∃ z0 z1 z2 z3 z4 : Option ix_V, ls = [z0, z1, z2, z3, z4] := by
      rcases ls with _ | ⟨z0, _ | ⟨z1, _ | ⟨z2, _ | ⟨z3, _ | ⟨z4, _ | ⟨_, _⟩⟩⟩⟩⟩⟩
      · exact absurd hlen (by simp)
      · exact absurd hlen (by simp)
      · exact absurd hlen (by simp)
      · exact absurd hlen (by simp)
      · exact absurd hlen (by simp)
      · exact ⟨z0, z1, z2, z3, z4, rfl⟩
      · exact absurd hlen (by simp)
    obtain ⟨w0, q0, q1⟩ := hi.2.1.2 0 a rfl
    have q2 : z0 = some w0 := Option.some.inj q0
    have q3 := ty_isP_rv hi.1 c1.1 q1
    subst q3
    subst q2
    obtain ⟨w3, r3, s3⟩ := hi.2.1.2 3 b3 rfl
    have u3 : z3 = some w3 := Option.some.inj r3
    obtain ⟨m3, v3, y3⟩ := s3.toint c2.1
    subst v3
    subst u3
    have cc : ty_cpc h false 8 86 0 7 85 0 48 = true := by
      exact c3.2
    obtain ⟨⟨g1, g2, g3, g4, g5, g6⟩, g7⟩ := ty_cp_core hi.1 cc (ix_ble.mp c3.1) (fun e => absurd e (by decide)) (Or.inl (by decide)) (by decide) (fun e => absurd e (by decide)) (fun e => absurd e (by decide))
    obtain ⟨t2, hcp, hrt⟩ := pl_undo2 (M := M) (O := O) (d := d) (ce := ce) (sl := sl) (x := z4) (y1 := z1) (y2 := z2) g1 hi.1.2.2.1.2.1 g2 g3 g4 g5 g6
    have hw := g7 t2 hcp
    exact ⟨(192, (ty_cpw 85 W, ([some a, x1, x2, some b3, x4]).set 4 (some (.inl 4294967344)), [], w)), by rw [← ho]; exact List.mem_cons_self, σ, (_, [], n, t2, ce, sl), ⟨Nat.le_refl _, Nat.le_refl _, Nat.le_refl _⟩, ty_agr.rf, ⟨hw, ty_lv_put (v := .inl 4294967344) (w := .inl 48) hi.2.1 (ty_rv.int ⟨by decide, show _ = ty_kp _ from (ty_kp_nn (by decide)).symm⟩), trivial, hi.2.2.2⟩, Or.inr hrt⟩
end TYCR
