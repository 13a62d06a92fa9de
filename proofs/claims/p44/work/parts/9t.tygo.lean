/-! a look goes on: what is known of the rows -/
section TYGO
variable {h : ty_H}
theorem ty_inv_o {γ : Nat → Nat} {t t' : ix_T} (hi : ty_inv γ t) (h79 : ix_g t' 79 = ix_g t 79) (h81 : ix_g t' 81 = ix_g t 81) (h82 : ix_g t' 82 = ix_g t 82) (h83 : ix_g t' 83 = ix_g t 83) (h84 : ix_g t' 84 = ix_g t 84) : ty_inv γ t' := ty_inv_79 hi h81 h82 h83 h84 (fun g => by
  rw [tx_n_c h81, tx_n_c h79, tx_k_c h81]
  exact hi.1.2 g) (fun g => by
  rw [tx_n_c h83]
  exact hi.2.2 g)
/-- a row's place is set -/
theorem ty_hp_set {σ : ty_Sg} {c n m v : Nat} {t : ix_T} (hh : ty_hp h σ n t) (hc1 : 91 < c) (hc2 : c < 114) (hk0 : (h.2 c).1 = 0) (hmax : (h.2 c).2.2.1 ≤ 16384) (hv : v < 4294967296) (hd : ty_cpd (ix_g (h.2 c).2.2.2.1 0) (0, (ty_kp v, ty_kp v)) = true) (hr : ∀ q ∈ (h.2 c).2.2.2.2, q.2.2.2.2.1 ≤ ty_kp v ∧ ty_kp v ≤ q.2.2.2.2.2) (hm : m < (ix_g t c).2.1) : ty_hp h σ n (pl_set c m (.inl v) t) := by
  obtain ⟨nc, kc⟩ := ty_cell hh hc2
  have hn16 := hh.2.1
  have e114 := hh.2.2.2.2.2.1.1
  have o : ∀ j, j < 16384 → ¬ j = c → ix_g (pl_set c m (.inl v) t) j = ix_g t j := fun j hj hn => pl_set_o (by omega) hj hn
  refine ⟨hh.1, hh.2.1, hh.2.2.1, fun i hi => ?_, hh.2.2.2.2.1, hh.2.2.2.2.2.1, ty_inv_o hh.2.2.2.2.2.2.1 (o 79 (by decide) (by omega)) (o 81 (by decide) (by omega)) (o 82 (by decide) (by omega)) (o 83 (by decide) (by omega)) (o 84 (by decide) (by omega)), hh.2.2.2.2.2.2.2⟩
  by_cases e : i = c
  · subst e
    rw [(hh.2.2.2.2.1 i hi).1 (by omega)]
    have e1 : (ix_g (pl_set i m (.inl v) t) i).1 = (ix_g t i).1 := by rw [pl_set_s (by omega)]
    have e2 : (ix_g (pl_set i m (.inl v) t) i).2.1 = (ix_g t i).2.1 := by rw [pl_set_s (by omega)]
    refine ⟨by rw [e1]; exact kc.1, by rw [e2]; exact kc.2.1, by rw [e2]; exact kc.2.2.1, fun x hx => ?_⟩
    rw [e2] at hx
    rw [pl_set_g (by omega) (by have := kc.2.2.1; omega) hm hx]
    by_cases q : x = m
    · rw [if_pos q]
      obtain ⟨d1, d2, d3, d4⟩ := ty_cpd_ok hd
      refine ⟨fun g => by omega, fun _ => ?_, fun _ p hp _ u hu => ?_⟩
      · unfold ty_sok
        rw [d1]
        exact ⟨v, rfl, hv, d3, d4⟩
      · cases hu
        exact hr p hp
    · rw [if_neg q]
      exact kc.2.2.2 x hx
  · rw [o i (by omega) e]
    exact hh.2.2.2.1 i hi
noncomputable def ty_wid (lo hi : Nat) (q : Nat × (Nat × (Nat × (Nat × (Nat × Nat))))) : Bool := Nat.ble q.2.2.2.2.1 lo && Nat.ble hi q.2.2.2.2.2
/-- what the types must say -/
noncomputable def ty_goc (h : ty_H) : Bool := Nat.beq (h.2 79).1 112 && (Nat.blt 36 (h.2 79).2.1 && (ty_cpf (ix_g (h.2 79).2.2.2.1 3) 81 && (ty_cpf (ix_g (h.2 79).2.2.2.1 32) 96 && (ty_cpf (ix_g (h.2 79).2.2.2.1 35) 97 && (ty_cpf (ix_g (h.2 79).2.2.2.1 36) 98 && (Nat.beq (h.2 81).1 0 && (Nat.ble 5800 (h.2 81).2.1 && (Nat.beq (ix_g (h.2 81).2.2.2.1 0).1 0 && ((h.2 81).2.2.2.2.any (ty_rix 0 63 4294967296 4294967311) && ((h.2 81).2.2.2.2.any (ty_rix 182 182 4294967297 4294967302) && (Nat.beq (h.2 96).1 2 && (Nat.ble 448 (h.2 96).2.1 && (Nat.beq (ix_g (h.2 96).2.2.2.1 0).1 0 && ((h.2 96).2.2.2.2.any (ty_rix 0 447 4294967296 4294967297) && (Nat.beq (h.2 97).1 0 && (Nat.ble 64 (h.2 97).2.1 && (Nat.ble (h.2 97).2.2.1 16384 && (ty_cpd (ix_g (h.2 97).2.2.2.1 0) (0, (4294967295, 4294967302)) && ((h.2 97).2.2.2.2.any (ty_rix 0 63 4294967295 4294967302) && ((h.2 97).2.2.2.2.all (ty_wid 4294967295 4294967302) && (Nat.beq (h.2 98).1 0 && (Nat.ble 192 (h.2 98).2.1 && (Nat.ble (h.2 98).2.2.1 16384 && (ty_cpd (ix_g (h.2 98).2.2.2.1 0) (0, (4294967296, 4294967359)) && (h.2 98).2.2.2.2.all (ty_wid 4294967296 4294967359)))))))))))))))))))))))))
/-- the rows that a look reads and writes -/
def go_K (n mo : Nat) (t : ix_T) : Prop := pl_gf n mo t ∧ 1 ≤ mo ∧ mo ≤ 6 ∧ (∀ c, c < 64 → ∃ k, k < 16 ∧ ix_g (ix_g t 81).2.2 c = .inl k) ∧ (∀ c, c < 64 → ∃ s, (s = 4294967295 ∨ s < 7) ∧ ix_g (ix_g t 97).2.2 c = .inl s) ∧ (∀ j, j < 192 → ∃ m, ix_g (ix_g t 98).2.2 j = .inl m) ∧ (ix_g t 97).2.1 ≤ 16384 ∧ (ix_g t 98).2.1 ≤ 16384
theorem ty_go_all (hcc : ty_goc h = true) {σ : ty_Sg} {n : Nat} : (∀ t, ty_hp h σ n t → ∃ mo, go_K n mo t) ∧ (∀ t c v, ty_hp h σ n t → c < 64 → (v = 4294967295 ∨ v < 7) → ty_hp h σ n (pl_set 97 c (.inl v) t)) ∧ (∀ t j v, ty_hp h σ n t → j < 192 → v < 64 → ty_hp h σ n (pl_set 98 j (.inl v) t)) := by
  have c := hcc
  unfold ty_goc at c
  have x1 := Bool.and_eq_true_iff.mp c
  have x2 := Bool.and_eq_true_iff.mp x1.2
  have x3 := Bool.and_eq_true_iff.mp x2.2
  have x4 := Bool.and_eq_true_iff.mp x3.2
  have x5 := Bool.and_eq_true_iff.mp x4.2
  have x6 := Bool.and_eq_true_iff.mp x5.2
  have x7 := Bool.and_eq_true_iff.mp x6.2
  have x8 := Bool.and_eq_true_iff.mp x7.2
  have x9 := Bool.and_eq_true_iff.mp x8.2
  have x10 := Bool.and_eq_true_iff.mp x9.2
  have x11 := Bool.and_eq_true_iff.mp x10.2
  have x12 := Bool.and_eq_true_iff.mp x11.2
  have x13 := Bool.and_eq_true_iff.mp x12.2
  have x14 := Bool.and_eq_true_iff.mp x13.2
  have x15 := Bool.and_eq_true_iff.mp x14.2
  have x16 := Bool.and_eq_true_iff.mp x15.2
  have x17 := Bool.and_eq_true_iff.mp x16.2
  have x18 := Bool.and_eq_true_iff.mp x17.2
  have x19 := Bool.and_eq_true_iff.mp x18.2
  have x20 := Bool.and_eq_true_iff.mp x19.2
  have x21 := Bool.and_eq_true_iff.mp x20.2
  have x22 := Bool.and_eq_true_iff.mp x21.2
  have x23 := Bool.and_eq_true_iff.mp x22.2
  have x24 := Bool.and_eq_true_iff.mp x23.2
  have x25 := Bool.and_eq_true_iff.mp x24.2
  have a1 : (h.2 79).1 = 112 := ix_beq.mp x1.1
  have a2 : 36 < (h.2 79).2.1 := ix_blt.mp x2.1
  have a7 : (h.2 81).1 = 0 := ix_beq.mp x7.1
  have a8 : 5800 ≤ (h.2 81).2.1 := ix_ble.mp x8.1
  have a9 : (ix_g (h.2 81).2.2.2.1 0).1 = 0 := ix_beq.mp x9.1
  have a12 : (h.2 96).1 = 2 := ix_beq.mp x12.1
  have a13 : 448 ≤ (h.2 96).2.1 := ix_ble.mp x13.1
  have a14 : (ix_g (h.2 96).2.2.2.1 0).1 = 0 := ix_beq.mp x14.1
  have a16 : (h.2 97).1 = 0 := ix_beq.mp x16.1
  have a17 : 64 ≤ (h.2 97).2.1 := ix_ble.mp x17.1
  have a18 : (h.2 97).2.2.1 ≤ 16384 := ix_ble.mp x18.1
  have a22 : (h.2 98).1 = 0 := ix_beq.mp x22.1
  have a23 : 192 ≤ (h.2 98).2.1 := ix_ble.mp x23.1
  have a24 : (h.2 98).2.2.1 ≤ 16384 := ix_ble.mp x24.1
  obtain ⟨d1, d2, d3, d4⟩ := ty_cpd_ok x19.1
  obtain ⟨e1, e2, e3, e4⟩ := ty_cpd_ok x25.1
  have d3' : (ix_g (h.2 97).2.2.2.1 0).2.1 ≤ 4294967295 := d3
  have d4' : 4294967302 ≤ (ix_g (h.2 97).2.2.2.1 0).2.2 := d4
  have e3' : (ix_g (h.2 98).2.2.2.1 0).2.1 ≤ 4294967296 := e3
  have e4' : 4294967359 ≤ (ix_g (h.2 98).2.2.2.1 0).2.2 := e4
  have mk : ∀ (q : Nat × (Nat × Nat)) (v : Nat), q.1 = 0 → q.2.1 ≤ ty_kp v → ty_kp v ≤ q.2.2 → ty_cpd q (0, (ty_kp v, ty_kp v)) = true := fun q v g1 g2 g3 => by
    show (Nat.beq q.1 0 && (Nat.beq 0 0 && (Nat.ble q.2.1 (ty_kp v) && Nat.ble (ty_kp v) q.2.2))) = true
    rw [ix_beq.mpr g1, ix_ble.mpr g2, ix_ble.mpr g3]
    rfl
  have wid : ∀ (ru : List (Nat × (Nat × (Nat × (Nat × (Nat × Nat)))))) (lo hi v : Nat), ru.all (ty_wid lo hi) = true → lo ≤ ty_kp v → ty_kp v ≤ hi → ∀ q ∈ ru, q.2.2.2.2.1 ≤ ty_kp v ∧ ty_kp v ≤ q.2.2.2.2.2 := fun ru lo hi v ha g1 g2 q hq => by
    have z := Bool.and_eq_true_iff.mp (List.all_eq_true.mp ha q hq)
    have z1 := ix_ble.mp z.1
    have z2 := ix_ble.mp z.2
    exact ⟨by omega, by omega⟩
  refine ⟨fun t hh => ?_, fun t c v hh hc hv => ?_, fun t j v hh hj hv => ?_⟩
  · obtain ⟨b1, b2, b3, b4⟩ := ty_ref_of hh (show 79 < 114 by decide) (show 81 < 114 by decide) (by omega) (show 3 < _ by omega) x3.1
    obtain ⟨_, _, c3, c4⟩ := ty_ref_of hh (show 79 < 114 by decide) (show 96 < 114 by decide) (by omega) (show 32 < _ by omega) x4.1
    obtain ⟨_, _, f3, f4⟩ := ty_ref_of hh (show 79 < 114 by decide) (show 97 < 114 by decide) (by omega) (show 35 < _ by omega) x5.1
    obtain ⟨_, _, g3, g4⟩ := ty_ref_of hh (show 79 < 114 by decide) (show 98 < 114 by decide) (by omega) (show 36 < _ by omega) x6.1
    obtain ⟨n81, k81⟩ := ty_cell hh (show 81 < 114 by decide)
    obtain ⟨n96, k96⟩ := ty_cell hh (show 96 < 114 by decide)
    obtain ⟨n97, k97⟩ := ty_cell hh (show 97 < 114 by decide)
    obtain ⟨n98, k98⟩ := ty_cell hh (show 98 < 114 by decide)
    have l81 := k81.2.1
    have l96 := k96.2.1
    have l97 := k97.2.1
    have l98 := k98.2.1
    obtain ⟨mo, m1, m2, m3, m4⟩ := ty_rix_ok k81 (by omega) a9 x11.1 (show 182 ≤ 182 from Nat.le_refl _) (Nat.le_refl _) (by omega)
    obtain ⟨u1, u2⟩ := ty_nn m2 (by omega)
    refine ⟨mo, ⟨⟨b1, b2.trans a1, b3, b4, c3, c4, n81, k81.1.trans a7, by omega, m1, n96, k96.1.trans a12, by omega, fun j hj => ?_⟩, f3, f4, g3, g4, n97, k97.1.trans a16, by omega, n98, k98.1.trans a22, by omega⟩, by omega, by omega, fun c hc => ?_, fun c hc => ?_, fun j hj => ?_, by have := k97.2.2.1; omega, by have := k98.2.2.1; omega⟩
    · obtain ⟨v, v1, v2, v3, v4⟩ := ty_rix_ok k96 (by omega) a14 x15.1 (Nat.zero_le j) (show j ≤ 447 by omega) (by omega)
      obtain ⟨w1, w2⟩ := ty_nn v2 (by omega)
      rw [v1]
      have z : v = 0 ∨ v = 1 := by omega
      rcases z with rfl | rfl
      · exact Or.inl rfl
      · exact Or.inr rfl
    · obtain ⟨v, v1, v2, v3, v4⟩ := ty_rix_ok k81 (by omega) a9 x10.1 (Nat.zero_le c) (show c ≤ 63 by omega) (by omega)
      obtain ⟨w1, w2⟩ := ty_nn v2 (by omega)
      exact ⟨v, by omega, v1⟩
    · obtain ⟨v, v1, v2, v3, v4⟩ := ty_rix_ok k97 (by omega) d1 x20.1 (Nat.zero_le c) (show c ≤ 63 by omega) (by omega)
      refine ⟨v, ?_, v1⟩
      rw [ty_kp_eq] at v3 v4
      omega
    · have s := (k98.2.2.2 j (by omega)).2.1 (by omega)
      unfold ty_sok at s
      rw [e1] at s
      obtain ⟨v, v1, _⟩ := s
      exact ⟨v, v1⟩
  · obtain ⟨n97, k97⟩ := ty_cell hh (show 97 < 114 by decide)
    have l97 := k97.2.1
    have v1 : v < 4294967296 := by rcases hv with q | q <;> omega
    have v2 : 4294967295 ≤ ty_kp v ∧ ty_kp v ≤ 4294967302 := by rw [ty_kp_eq]; rcases hv with q | q <;> omega
    exact ty_hp_set hh (by decide) (by decide) a16 a18 v1 (mk _ v d1 (by omega) (by omega)) (wid _ _ _ v x21.1 v2.1 v2.2) (by omega)
  · obtain ⟨n98, k98⟩ := ty_cell hh (show 98 < 114 by decide)
    have l98 := k98.2.1
    have v2 : ty_kp v = v + 4294967296 := ty_kp_nn (by omega)
    exact ty_hp_set hh (by decide) (by decide) a22 a24 (by omega) (mk _ v e1 (by omega) (by omega)) (wid _ _ _ v x25.2 (by omega) (by omega)) (by omega)
end TYGO
