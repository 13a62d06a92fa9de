/-! a text is laid: what is known then -/
section TYLY
variable {h : ty_H}
theorem tx_ok_sh {f f' : Nat → Nat × Nat} {s : Nat} : ∀ (n l v : Nat), (∀ u, v ≤ u → f' (s + u) = f u) → tx_ok f n l v → tx_ok f' n l (s + v)
  | 0, _, _, _, _ => trivial
  | n + 1, l, v, he, hk => by
    obtain ⟨l', h1, h2⟩ := hk
    exact ⟨l', by rw [he v (Nat.le_refl _)]; exact h1, tx_ok_sh n l' (v + 1) (fun u hu => he u (by omega)) h2⟩
theorem tx_acc_sh {f f' : Nat → Nat × Nat} {s l v : Nat} (he : ∀ u, v ≤ u → f' (s + u) = f u) (ha : tx_acc f l v) : tx_acc f' l (s + v) := fun n => tx_ok_sh n l v he (ha n)
theorem tx_S_SE (g : Nat) (hg : g < 2) : tx_sub (tx_S g) (tx_SE g) = true := by
  match g, hg with
  | 0, _ => decide +kernel
  | 1, _ => decide +kernel
theorem pl_Ly_n {tt tk : Nat} {t t' : ix_T} (hc : pl_Ly tt tk t tk t') (hl : 5800 ≤ (ix_g t 81).2.1) (ht : tt < 7) (htk : tk ≤ 400) : tx_n t' 81 (193 + tt) = tk ∧ (∀ u, u < tk → tx_n t' 81 (200 + 400 * tt + u) = tx_n t 90 u ∧ tx_n t' 81 (3000 + 400 * tt + u) = tx_n t 91 u ∨ 400 ≤ u) ∧ ∀ x, x < 5800 → ¬ x = 193 + tt → ¬ (200 + 400 * tt ≤ x ∧ x < 200 + 400 * tt + tk) → ¬ (3000 + 400 * tt ≤ x ∧ x < 3000 + 400 * tt + tk) → tx_n t' 81 x = tx_n t 81 x := by
  refine ⟨?_, fun u hu => ?_, fun x hx e1 e2 e3 => ?_⟩
  · unfold tx_n
    rw [hc.2.2.2 (193 + tt) (by omega), if_pos rfl]
  · by_cases g : u < 400
    · refine Or.inl ⟨?_, ?_⟩
      · unfold tx_n
        rw [hc.2.2.2 (200 + 400 * tt + u) (by omega), if_neg (by omega), if_pos (by omega), show 200 + 400 * tt + u - (200 + 400 * tt) = u by omega]
      · unfold tx_n
        rw [hc.2.2.2 (3000 + 400 * tt + u) (by omega), if_neg (by omega), if_neg (by omega), if_pos (by omega), show 3000 + 400 * tt + u - (3000 + 400 * tt) = u by omega]
    · exact Or.inr (by omega)
  · unfold tx_n
    rw [hc.2.2.2 x (by omega), if_neg e1, if_neg e2, if_neg e3]
/-- the text that was laid is right -/
theorem ty_ly_txt {tt tk g : Nat} {t t' : ix_T} (hc : pl_Ly tt tk t tk t') (hl : 5800 ≤ (ix_g t 81).2.1) (ht : tt < 7) (hk : tk ≤ 400) (hn : tx_n t 79 22 = tk) (hg : g < 2) (ha : tx_acc (tx_p t) (tx_S g) 0) : tx_n t' 81 (193 + tt) = tk ∧ tx_acc (tx_k t' 81 0 (400 * tt + tk)) (tx_SE g) (400 * tt) := by
  obtain ⟨h1, h2, _⟩ := pl_Ly_n hc hl ht hk
  refine ⟨h1, tx_sub_ok (tx_S_SE g hg) (show tx_acc _ _ (400 * tt + 0) from tx_acc_sh (s := 400 * tt) (v := 0) (f' := tx_k t' 81 0 (400 * tt + tk)) (fun u _ => ?_) ha)⟩
  unfold tx_k tx_p
  rw [hn]
  by_cases hu : u < tk
  · rcases h2 u hu with ⟨a, b⟩ | a
    · rw [if_pos (by omega), if_pos hu, show 0 + 200 + (400 * tt + u) = 200 + 400 * tt + u by omega, show 0 + 3000 + (400 * tt + u) = 3000 + 400 * tt + u by omega, a, b]
    · omega
  · rw [if_neg (by omega), if_neg hu]
theorem tx_t_ly {tt tk j : Nat} {t t' : ix_T} (hc : pl_Ly tt tk t tk t') (hl : 5800 ≤ (ix_g t 81).2.1) (ht : tt < 7) (hk : tk ≤ 400) (hj : j < 6) (hne : ¬ j = tt) (hx : tx_t t 81 0 j) : tx_t t' 81 0 j := by
  obtain ⟨_, _, h3⟩ := pl_Ly_n hc hl ht hk
  have e := h3 (0 + 193 + j) (by omega) (by omega) (by omega) (by omega)
  have h4 := hx.1
  unfold tx_t at *
  rw [e]
  refine ⟨hx.1, tx_acc.congr (fun u hu => ?_) hx.2⟩
  unfold tx_k
  by_cases q : u < 400 * j + tx_n t 81 (0 + 193 + j)
  · have e1 := h3 (0 + 200 + u) (by omega) (by omega) (by omega) (by omega)
    have e2 := h3 (0 + 3000 + u) (by omega) (by omega) (by omega) (by omega)
    rw [if_pos q, if_pos q, e1, e2]
  · rw [if_neg q, if_neg q]
theorem ty_inv_ly {γ : Nat → Nat} {tt tk g : Nat} {t t' : ix_T} (hi : ty_inv γ t) (hc : pl_Ly tt tk t tk t') (hl : 5800 ≤ (ix_g t 81).2.1) (ht : tt < 7) (hk : tk ≤ 400) (hn : tx_n t 79 22 = tk) (hg : g < 2) (ha : tx_acc (tx_p t) (tx_S g) 0) (h0 : tt < 6 → g = 0) (hz : ¬ γ 1001 = 1) : ty_inv γ t' := by
  have hi' := hi
  have hi := hi.1
  refine ⟨?_, hi'.2.al (fun g => g) (fun k _ => tx_n_c (hc.1 84 (by decide) (by decide))) (fun k _ => tx_n_c (hc.1 82 (by decide) (by decide))) (tx_n_c (hc.1 83 (by decide) (by decide)))⟩
  have o82 := hc.1 82 (by decide) (by decide)
  have o83 := hc.1 83 (by decide) (by decide)
  have sm : ∀ {c o : Nat}, ix_g t' c = ix_g t c → ∀ k, 193 ≤ k → k < 5800 → tx_n t' c (o + k) = tx_n t c (o + k) := fun e _ _ _ => tx_n_c e
  refine ⟨fun k hk6 => ⟨?_, tx_t_cp hk6 (sm o82) (hi.1 k hk6).2.1, tx_t_cp hk6 (sm o82) (hi.1 k hk6).2.2.1, tx_t_cp hk6 (sm o83) (hi.1 k hk6).2.2.2⟩, fun g => absurd g hz⟩
  by_cases e : k = tt
  · subst e
    obtain ⟨a, b⟩ := ty_ly_txt hc hl ht hk hn hg ha
    rw [h0 hk6] at b
    unfold tx_t
    rw [show 0 + 193 + k = 193 + k by omega, a]
    exact ⟨hk, b⟩
  · exact tx_t_ly hc hl ht hk hk6 e (hi.1 k hk6).1
/-- what the types must say -/
noncomputable def ty_lyr (q : Nat × (Nat × (Nat × (Nat × (Nat × Nat))))) : Bool := Nat.blt q.2.1 193 || ((Nat.blt 199 q.1 || (Nat.ble q.2.2.2.2.1 4294967296 && Nat.ble 4294967696 q.2.2.2.2.2)) && ((Nat.blt q.2.1 200 || (Nat.blt 2999 q.1 || (Nat.ble q.2.2.2.2.1 4294967296 && Nat.ble 4294967651 q.2.2.2.2.2))) && (Nat.blt q.2.1 3000 || (Nat.ble q.2.2.2.2.1 2147483648 && Nat.ble 6442450943 q.2.2.2.2.2))))
noncomputable def ty_ly9 (q : Nat × (Nat × (Nat × (Nat × (Nat × Nat))))) : Bool := Nat.beq q.1 0 && (Nat.ble 399 q.2.1 && (Nat.beq q.2.2.1 1 && (Nat.beq q.2.2.2.1 0 && (Nat.ble 4294967296 q.2.2.2.2.1 && Nat.ble q.2.2.2.2.2 4294967651))))
noncomputable def ty_lyc (h : ty_H) : Bool := Nat.beq (h.2 81).1 0 && (Nat.ble 5800 (h.2 81).2.1 && (Nat.ble (h.2 81).2.2.1 16384 && (Nat.beq (h.2 90).1 0 && (Nat.ble 400 (h.2 90).2.1 && (Nat.beq (h.2 91).1 0 && (Nat.ble 400 (h.2 91).2.1 && (Nat.beq (h.2 79).1 112 && (Nat.blt 50 (h.2 79).2.1 && (ty_cpf (ix_g (h.2 79).2.2.2.1 3) 81 && (ty_cpf (ix_g (h.2 79).2.2.2.1 19) 90 && (ty_cpf (ix_g (h.2 79).2.2.2.1 20) 91 && (ty_cpd (0, (4294967296, 4294967696)) (ix_g (h.2 79).2.2.2.1 22) && (ty_cpd (ix_g (h.2 81).2.2.2.1 0) (0, (2147483648, 6442450943)) && (ty_cpd (0, (2147483648, 6442450943)) (ix_g (h.2 90).2.2.2.1 0) && (ty_cpd (0, (2147483648, 6442450943)) (ix_g (h.2 91).2.2.2.1 0) && ((h.2 81).2.2.2.2.all ty_lyr && (h.2 90).2.2.2.2.any ty_ly9))))))))))))))))
theorem ty_cpd_ok {q p : Nat × (Nat × Nat)} (he : ty_cpd q p = true) : q.1 = 0 ∧ p.1 = 0 ∧ q.2.1 ≤ p.2.1 ∧ p.2.2 ≤ q.2.2 := by
  have a := Bool.and_eq_true_iff.mp he
  have b := Bool.and_eq_true_iff.mp a.2
  have c := Bool.and_eq_true_iff.mp b.2
  exact ⟨ix_beq.mp a.1, ix_beq.mp b.1, ix_ble.mp c.1, ix_ble.mp c.2⟩
theorem ty_cell {σ : ty_Sg} {n i : Nat} {t : ix_T} (hh : ty_hp h σ n t) (hi : i < 114) : i < n ∧ ty_cok σ.2.2.2 n (h.2 i) (ix_g t i) := by
  have e114 := hh.2.2.2.2.2.1.1
  have hn : i < n := by have := hh.1; omega
  have hco := hh.2.2.2.1 i hn
  rw [(hh.2.2.2.2.1 i hn).1 (by omega)] at hco
  exact ⟨hn, hco⟩
theorem ty_ly_core {σ : ty_Sg} {n : Nat} {t : ix_T} (hh : ty_hp h σ n t) (hcc : ty_lyc h = true) : ∃ tk, pl_Lh n tk t ∧ tk ≤ 400 ∧ tx_n t 79 22 = tk ∧ 5800 ≤ (ix_g t 81).2.1 ∧ (ix_g t 81).2.1 ≤ 16384 ∧ (∀ k, k < 400 → ∃ c, ix_g (ix_g t 90).2.2 k = .inl c) ∧ (∀ k, k < 400 → ∃ c, ix_g (ix_g t 91).2.2 k = .inl c) ∧ ∀ tt t', tt < 7 → pl_Ly tt tk t tk t' → ∀ γ, ty_inv γ t' → ty_hp h (σ.1, (γ, σ.2.2)) n t' := by
  have c := hcc
  unfold ty_lyc at c
  have x1 := Bool.and_eq_true_iff.mp c
  have x2 := Bool.and_eq_true_iff.mp x1.2
  have x3 := Bool.and_eq_true_iff.mp x2.2
  have x4 := Bool.and_eq_true_iff.mp x3.2
  have x5 := Bool.and_eq_true_iff.mp x4.2
  have x6 := Bool.and_eq_true_iff.mp x5.2
  have x7 := Bool.and_eq_true_iff.mp x6.2
  have x8 := Bool.and_eq_true_iff.mp x7.2
  have x9 := Bool.and_eq_true_iff.mp x8.2
  have x10 := Bool.and_eq_true_iff.mp x9.2
  have x11 := Bool.and_eq_true_iff.mp x10.2
  have x12 := Bool.and_eq_true_iff.mp x11.2
  have x13 := Bool.and_eq_true_iff.mp x12.2
  have x14 := Bool.and_eq_true_iff.mp x13.2
  have x15 := Bool.and_eq_true_iff.mp x14.2
  have x16 := Bool.and_eq_true_iff.mp x15.2
  have x17 := Bool.and_eq_true_iff.mp x16.2
  have a1 : (h.2 81).1 = 0 := ix_beq.mp x1.1
  have a2 : 5800 ≤ (h.2 81).2.1 := ix_ble.mp x2.1
  have a3 : (h.2 81).2.2.1 ≤ 16384 := ix_ble.mp x3.1
  have a4 : (h.2 90).1 = 0 := ix_beq.mp x4.1
  have a5 : 400 ≤ (h.2 90).2.1 := ix_ble.mp x5.1
  have a6 : (h.2 91).1 = 0 := ix_beq.mp x6.1
  have a7 : 400 ≤ (h.2 91).2.1 := ix_ble.mp x7.1
  have a8 : (h.2 79).1 = 112 := ix_beq.mp x8.1
  have a9 : 50 < (h.2 79).2.1 := ix_blt.mp x9.1
  obtain ⟨b1, b2, b3, b4⟩ := ty_ref_of hh (show 79 < 114 by decide) (show 81 < 114 by decide) (by omega) (show 3 < _ by omega) x10.1
  obtain ⟨_, _, _, b5⟩ := ty_ref_of hh (show 79 < 114 by decide) (show 90 < 114 by decide) (by omega) (show 19 < _ by omega) x11.1
  obtain ⟨_, _, _, b6⟩ := ty_ref_of hh (show 79 < 114 by decide) (show 91 < 114 by decide) (by omega) (show 20 < _ by omega) x12.1
  obtain ⟨d1, d2, d3, d4⟩ := ty_cpd_ok x13.1
  obtain ⟨e1, e2, e3, e4⟩ := ty_cpd_ok x14.1
  obtain ⟨f1, f2, f3, f4⟩ := ty_cpd_ok x15.1
  obtain ⟨g1, g2, g3, g4⟩ := ty_cpd_ok x16.1
  obtain ⟨n79, k79⟩ := ty_cell hh (show 79 < 114 by decide)
  obtain ⟨n81, k81⟩ := ty_cell hh (show 81 < 114 by decide)
  obtain ⟨n90, k90⟩ := ty_cell hh (show 90 < 114 by decide)
  obtain ⟨n91, k91⟩ := ty_cell hh (show 91 < 114 by decide)
  have s22 := (k79.2.2.2 22 (by have := k79.2.1; omega)).1 (by omega)
  unfold ty_sok at s22
  rw [d2] at s22
  obtain ⟨tk, m1, m2, m3, m4⟩ := s22
  have d3' : 4294967296 ≤ (ix_g (h.2 79).2.2.2.1 22).2.1 := d3
  have d4' : (ix_g (h.2 79).2.2.2.1 22).2.2 ≤ 4294967696 := d4
  obtain ⟨u1, u2⟩ := ty_nn m2 (by omega)
  have i90 : ∀ k, k < 400 → ∃ c, ix_g (ix_g t 90).2.2 k = .inl c ∧ c < 4294967296 ∧ 4294967296 ≤ ty_kp c ∧ ty_kp c ≤ 4294967651 := fun k hk => by
    have z := k90.2.2.2 k (by have := k90.2.1; omega)
    have s := z.2.1 (by omega)
    unfold ty_sok at s
    rw [f2] at s
    obtain ⟨c, c1, c2, _⟩ := s
    obtain ⟨p, p1, p2⟩ := List.any_eq_true.mp x17.2
    have y1 := Bool.and_eq_true_iff.mp (show (Nat.beq p.1 0 && (Nat.ble 399 p.2.1 && (Nat.beq p.2.2.1 1 && (Nat.beq p.2.2.2.1 0 && (Nat.ble 4294967296 p.2.2.2.2.1 && Nat.ble p.2.2.2.2.2 4294967651))))) = true from p2)
    have y2 := Bool.and_eq_true_iff.mp y1.2
    have y3 := Bool.and_eq_true_iff.mp y2.2
    have y4 := Bool.and_eq_true_iff.mp y3.2
    have y5 := Bool.and_eq_true_iff.mp y4.2
    have w1 := ix_beq.mp y1.1
    have w2 := ix_ble.mp y2.1
    have w3 := ix_beq.mp y3.1
    have w4 := ix_beq.mp y4.1
    have w5 := ix_ble.mp y5.1
    have w6 := ix_ble.mp y5.2
    have r := z.2.2 (by omega) p p1 ⟨by omega, by omega, by rw [w3, w4]; omega⟩ c c1
    exact ⟨c, c1, c2, by omega, by omega⟩
  have i91 : ∀ k, k < 400 → ∃ c, ix_g (ix_g t 91).2.2 k = .inl c ∧ c < 4294967296 := fun k hk => by
    have s := (k91.2.2.2 k (by have := k91.2.1; omega)).2.1 (by omega)
    unfold ty_sok at s
    rw [g2] at s
    obtain ⟨c, c1, c2, _⟩ := s
    exact ⟨c, c1, c2⟩
  have l81 : 5800 ≤ (ix_g t 81).2.1 := by have := k81.2.1; omega
  have L81 : (ix_g t 81).2.1 ≤ 16384 := by have := k81.2.2.1; omega
  refine ⟨tk, ⟨n79, n81, n90, n91, k79.1.trans a8, by have := k79.2.1; omega, b4, b5, b6, m1, k81.1.trans a1, k90.1.trans a4, k91.1.trans a6, l81, by have := k90.2.1; omega, by have := k91.2.1; omega⟩, by omega, by unfold tx_n; rw [m1], l81, L81, fun k hk => (i90 k hk).imp fun _ q => q.1, fun k hk => (i91 k hk).imp fun _ q => q.1, fun tt t' htt hc γ hinv => ⟨hh.1, hh.2.1, hh.2.2.1, fun i hi => ?_, hh.2.2.2.2.1, hh.2.2.2.2.2.1, hinv, hh.2.2.2.2.2.2.2⟩⟩
  have hn16 := hh.2.1
  by_cases e : i = 81
  · subst e
    show ty_cok σ.2.2.2 n (h.2 (σ.2.2.2 81)) (ix_g t' 81)
    rw [(hh.2.2.2.2.1 81 hi).1 (by have := hh.2.2.2.2.2.1.1; omega)]
    refine ⟨by rw [hc.2.1]; exact k81.1, by rw [hc.2.2.1]; exact k81.2.1, by rw [hc.2.2.1]; exact k81.2.2.1, fun x hx => ?_⟩
    rw [hc.2.2.1] at hx
    have old := k81.2.2.2 x hx
    have e3' : (ix_g (h.2 81).2.2.2.1 0).2.1 ≤ 2147483648 := e3
    have e4' : 6442450943 ≤ (ix_g (h.2 81).2.2.2.1 0).2.2 := e4
    have full : ∀ m, m < 4294967296 → ty_sok σ.2.2.2 n (ix_g (h.2 81).2.2.2.1 0) (.inl m) := fun m hm => by
      unfold ty_sok
      rw [e1]
      have p1 := ty_kp_lo m
      have p2 := ty_kp_hi m
      exact ⟨m, rfl, hm, by omega, by omega⟩
    have rule : ∀ q ∈ (h.2 81).2.2.2.2, ty_hit q x → (193 ≤ x → x ≤ 199 → q.2.2.2.2.1 ≤ 4294967296 ∧ 4294967696 ≤ q.2.2.2.2.2) ∧ (200 ≤ x → x ≤ 2999 → q.2.2.2.2.1 ≤ 4294967296 ∧ 4294967651 ≤ q.2.2.2.2.2) ∧ (3000 ≤ x → q.2.2.2.2.1 ≤ 2147483648 ∧ 6442450943 ≤ q.2.2.2.2.2) := fun q hq hit => by
      obtain ⟨t1, t2, _⟩ := hit
      rcases (Bool.or_eq_true _ _).mp (List.all_eq_true.mp x17.1 q hq) with z | z
      · have := ix_blt.mp z
        exact ⟨fun _ _ => by omega, fun _ _ => by omega, fun _ => by omega⟩
      · have z1 := Bool.and_eq_true_iff.mp z
        have z2 := Bool.and_eq_true_iff.mp z1.2
        refine ⟨fun v1 v2 => ?_, fun v1 v2 => ?_, fun v1 => ?_⟩
        · rcases (Bool.or_eq_true _ _).mp z1.1 with y | y
          · have := ix_blt.mp y; omega
          · have y1 := Bool.and_eq_true_iff.mp y
            exact ⟨ix_ble.mp y1.1, ix_ble.mp y1.2⟩
        · rcases (Bool.or_eq_true _ _).mp z2.1 with y | y
          · have := ix_blt.mp y; omega
          · rcases (Bool.or_eq_true _ _).mp y with y | y
            · have := ix_blt.mp y; omega
            · have y1 := Bool.and_eq_true_iff.mp y
              exact ⟨ix_ble.mp y1.1, ix_ble.mp y1.2⟩
        · rcases (Bool.or_eq_true _ _).mp z2.2 with y | y
          · have := ix_blt.mp y; omega
          · have y1 := Bool.and_eq_true_iff.mp y
            exact ⟨ix_ble.mp y1.1, ix_ble.mp y1.2⟩
    rw [hc.2.2.2 x hx]
    by_cases q1 : x = 193 + tt
    · rw [if_pos q1]
      refine ⟨fun g => by omega, fun _ => full tk m2, fun _ q hq hit m hm => ?_⟩
      cases hm
      have := (rule q hq hit).1 (by omega) (by omega)
      omega
    · rw [if_neg q1]
      by_cases q2 : 200 + 400 * tt ≤ x ∧ x < 200 + 400 * tt + tk
      · rw [if_pos q2]
        obtain ⟨v, v1, v2, v3, v4⟩ := i90 (x - (200 + 400 * tt)) (by omega)
        rw [v1]
        refine ⟨fun g => by omega, fun _ => full v v2, fun _ q hq hit m hm => ?_⟩
        cases hm
        have := (rule q hq hit).2.1 (by omega) (by omega)
        omega
      · rw [if_neg q2]
        by_cases q3 : 3000 + 400 * tt ≤ x ∧ x < 3000 + 400 * tt + tk
        · rw [if_pos q3]
          obtain ⟨v, v1, v2⟩ := i91 (x - (3000 + 400 * tt)) (by omega)
          rw [v1]
          refine ⟨fun g => by omega, fun _ => full v v2, fun _ q hq hit m hm => ?_⟩
          cases hm
          have := (rule q hq hit).2.2 (by omega)
          have p1 := ty_kp_lo v
          have p2 := ty_kp_hi v
          omega
        · rw [if_neg q3]
          exact old
  · rw [hc.1 i (by omega) e]
    exact hh.2.2.2.1 i hi
/-- a law is laid: the contract -/
noncomputable def ty_lyK : ty_KT := ([(2, 79, 0, 0), (0, 4294967296, 4294967301, 0)], [(79, 23, 4294967296, 4294967696, 15), (79, 23, 4294967296, 4294967696, 4), (81, 191, 2147483648, 6442450943, 0)], [([], [], [], [1, 2])])
theorem ty_lyK_ok {M : ix_M} {O : ix_O} {cap : Nat → Nat} {d y : Nat} (hM : M y = some (ix_cX12_lays O, 3)) (hcc : ty_lyc h = true) : ty_KS h M cap (d + 1) y ty_lyK := by
  intro σ avs n t hh has hse hn
  obtain ⟨tk, p1, p2, p3, p4, p5, p6, p7, p8⟩ := ty_ly_core hh hcc
  rcases avs with _ | ⟨w0, _ | ⟨w1, _ | ⟨w2, r⟩⟩⟩
  · exact has.elim
  · exact has.2.elim
  · have z0 : w0 = .inr (.inr (.inl (79 + 1))) ∧ 79 < 114 := has.1
    have z1 : ∃ m, w1 = .inl m ∧ m < 4294967296 ∧ 4294967296 ≤ ty_kp m ∧ ty_kp m ≤ 4294967301 ∧ ((0 : Nat) = 0 ∨ ty_lab σ.2.1 (0 - 1) t m) := has.2.1
    obtain ⟨rfl, _⟩ := z0
    obtain ⟨m, rfl, m1, m2, m3', _⟩ := z1
    obtain ⟨u1, u2⟩ := ty_nn m1 m2
    have hlab := hse (79, 23, 4294967296, 4294967696, 4) (List.mem_cons_of_mem _ List.mem_cons_self)
    have hoff := hse (79, 23, 4294967296, 4294967696, 15) List.mem_cons_self
    obtain ⟨_, _, _, _, _, hl⟩ := hlab
    obtain ⟨_, _, _, _, _, ho⟩ := hoff
    have hl2 : tx_n t 79 22 ≤ 400 ∧ tx_acc (tx_p t) (tx_S 0) 0 := by
      rcases hl with hl | hl
      · cases hl
      · exact hl
    have ho2 : σ.2.1 1001 = 0 := by
      rcases ho with ho | ho
      · cases ho
      · exact ho.2.2.2 rfl
    obtain ⟨t', c1, c2⟩ := pl_lays (M := M) (O := O) (d := d) (n := n) (ce := 0) (sl := 0) (x := none) p1 (show m < 7 by omega) p2 p5 p6 p7
    have hinv := ty_inv_ly hh.2.2.2.2.2.2.1 c1 p4 (by omega) p2 p3 (by decide) hl2.2 (fun _ => rfl) (by omega)
    have hp := p8 m t' (by omega) c1 σ.2.1 hinv
    refine ⟨_, List.mem_cons_self, σ, ([], [], n, t', 0, 0), ty_ag.rf, fun _ _ => rfl, hp, trivial, (fun e he => absurd he List.not_mem_nil), (fun r hr => absurd hr List.not_mem_nil), fun i hi e hV => ?_, Nat.le_add_right _ _, pl_call (avs := [.inr (.inr (.inl 80)), .inl m]) hM (show 2 ≤ 3 by decide) c2⟩
    have e79 := c1.1 79 (by decide) (by decide)
    rcases List.mem_cons.mp hi with rfl | hi
    · cases hV
      show ix_g (ix_g t' 79).2.2 23 = _
      rw [e79]
    · rcases List.mem_cons.mp hi with rfl | hi
      · cases hV
        show ix_g (ix_g t' 81).2.2 191 = ix_g (ix_g t 81).2.2 191
        rw [c1.2.2.2 191 (by omega), if_neg (by omega), if_neg (by omega), if_neg (by omega)]
      · cases hi
  · exact has.2.2.elim
end TYLY
