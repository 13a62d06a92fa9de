/-! a look goes on till it ends -/
section TYGW
variable {h : ty_H}
/-- how far a cell is in a direction -/
def go_b (c a : Nat) : Nat := if a = 0 then 7 - c / 8 else if a = 1 then c % 8 else if a = 2 then c / 8 else 7 - c % 8
theorem go_b_le (c a : Nat) (hc : c < 64) : go_b c a ≤ 7 := by
  unfold go_b
  split
  · omega
  · split
    · omega
    · split <;> omega
theorem go_bs {c a : Nat} (hc : c < 64) (ha : a < 4) : bs_c c a = 4294967295 ∨ (bs_c c a < 64 ∧ go_b (bs_c c a) a = go_b c a + 1) := by
  unfold bs_c
  have q : a = 0 ∨ a = 1 ∨ a = 2 ∨ a = 3 := by omega
  rcases q with rfl | rfl | rfl | rfl
  · rw [if_pos rfl]
    by_cases z : c / 8 = 0
    · exact Or.inl (if_pos z)
    · rw [if_neg z]
      refine Or.inr ⟨by omega, ?_⟩
      unfold go_b
      rw [if_pos rfl, if_pos rfl]
      omega
  · rw [if_neg (by decide), if_pos rfl]
    by_cases z : c % 8 = 7
    · exact Or.inl (if_pos z)
    · rw [if_neg z]
      refine Or.inr ⟨by omega, ?_⟩
      unfold go_b
      rw [if_neg (by decide), if_pos rfl, if_neg (by decide), if_pos rfl]
      omega
  · rw [if_neg (by decide), if_neg (by decide), if_pos rfl]
    by_cases z : c / 8 = 7
    · exact Or.inl (if_pos z)
    · rw [if_neg z]
      refine Or.inr ⟨by omega, ?_⟩
      unfold go_b
      rw [if_neg (by decide), if_neg (by decide), if_pos rfl, if_neg (by decide), if_neg (by decide), if_pos rfl]
      omega
  · rw [if_neg (by decide), if_neg (by decide), if_neg (by decide)]
    by_cases z : c % 8 = 0
    · exact Or.inl (if_pos z)
    · rw [if_neg z]
      refine Or.inr ⟨by omega, ?_⟩
      unfold go_b
      rw [if_neg (by decide), if_neg (by decide), if_neg (by decide), if_neg (by decide), if_neg (by decide), if_neg (by decide)]
      omega
/-- what one that waits is worth, by its glance -/
def go_q (g : Nat) : Nat := if g = 1 then 1073741824 else if g = 2 then 16777216 else if g = 3 then 262144 else if g = 4 then 4096 else if g = 5 then 64 else if g = 6 then 1 else 0
def go_pot (g b : Nat) : Nat := if g = 6 then 0 else (8 - b) * go_q (g + 1)
theorem go_six {g : Nat} (h1 : 1 ≤ g) (h2 : g ≤ 6) : g = 1 ∨ g = 2 ∨ g = 3 ∨ g = 4 ∨ g = 5 ∨ g = 6 := by omega
theorem go_pot_s {g b : Nat} (h1 : 1 ≤ g) (h2 : g ≤ 6) (hb : b + 1 ≤ 7) : go_pot g (b + 1) ≤ go_pot g b := by
  unfold go_pot go_q
  rcases go_six h1 h2 with rfl | rfl | rfl | rfl | rfl | rfl <;> simp <;> omega
theorem go_pot_p {g b : Nat} (h1 : 1 ≤ g) (h2 : g < 6) (hb : b + 1 ≤ 7) : go_q (g + 1) + go_pot g (b + 1) ≤ go_pot g b := by
  unfold go_pot go_q
  rcases go_six h1 (Nat.le_of_lt h2) with rfl | rfl | rfl | rfl | rfl | rfl <;> simp <;> omega
theorem go_pot_1 {g b : Nat} (h1 : 1 ≤ g) (h2 : g < 6) (hb : b ≤ 7) : go_q (g + 1) ≤ go_pot g b := by
  unfold go_pot go_q
  rcases go_six h1 (Nat.le_of_lt h2) with rfl | rfl | rfl | rfl | rfl | rfl <;> simp <;> omega
theorem go_pot_t {g b b' : Nat} (h1 : 1 ≤ g) (h2 : g < 6) (hb : b ≤ 7) : go_pot (g + 1) b' ≤ go_pot g b := by
  unfold go_pot go_q
  rcases go_six h1 (Nat.le_of_lt h2) with rfl | rfl | rfl | rfl | rfl | rfl <;> simp <;> omega
theorem go_pot_0 {g b : Nat} (h1 : 1 ≤ g) (h2 : g ≤ 6) (hb : 1 ≤ b) : go_pot g b < go_q g := by
  unfold go_pot go_q
  rcases go_six h1 h2 with rfl | rfl | rfl | rfl | rfl | rfl <;> simp <;> omega
theorem go_q_1 {g : Nat} (h1 : 1 ≤ g) (h2 : g ≤ 6) : 1 ≤ go_q g := by
  unfold go_q
  rcases go_six h1 h2 with rfl | rfl | rfl | rfl | rfl | rfl <;> simp
/-- those that wait -/
def go_S (mo : Nat) (t : ix_T) (q : Nat) : Prop := ∀ i, i < q → tx_n t 98 (3 * i) < 64 ∧ tx_n t 98 (3 * i + 1) < 4 ∧ 1 ≤ tx_n t 98 (3 * i + 2) ∧ tx_n t 98 (3 * i + 2) ≤ mo ∧ i ≤ 7 * (tx_n t 98 (3 * i + 2) - 1)
noncomputable def go_P (t : ix_T) : Nat → Nat
  | 0 => 0
  | q + 1 => go_P t q + go_q (tx_n t 98 (3 * q + 2))
theorem go_S_c {mo : Nat} {t t' : ix_T} {q : Nat} (he : ∀ j, j < 3 * q → tx_n t' 98 j = tx_n t 98 j) (hs : go_S mo t q) : go_S mo t' q := fun i hi => by
  rw [he (3 * i) (by omega), he (3 * i + 1) (by omega), he (3 * i + 2) (by omega)]
  exact hs i hi
theorem go_P_c {t t' : ix_T} : ∀ {q : Nat}, (∀ j, j < 3 * q → tx_n t' 98 j = tx_n t 98 j) → go_P t' q = go_P t q
  | 0, _ => rfl
  | q + 1, he => by
    show go_P t' q + go_q (tx_n t' 98 (3 * q + 2)) = go_P t q + go_q (tx_n t 98 (3 * q + 2))
    rw [go_P_c (q := q) (fun j hj => he j (by omega)), he (3 * q + 2) (by omega)]
/-- nothing else has changed -/
def go_sm (t t' : ix_T) : Prop := ∀ j, j < 16384 → ¬ j = 97 → ¬ j = 98 → ix_g t' j = ix_g t j
theorem go_sm.rf {t : ix_T} : go_sm t t := fun _ _ _ _ => rfl
theorem go_sm.tr {a b c : ix_T} (h1 : go_sm a b) (h2 : go_sm b c) : go_sm a c := fun j hj h3 h4 => (h2 j hj h3 h4).trans (h1 j hj h3 h4)
theorem go_sm.mo {n mo mo' : Nat} {t t' : ix_T} (hs : go_sm t t') (h1 : go_K n mo t) (h2 : go_K n mo' t') : mo' = mo := by
  have a := h1.1.1.2.2.2.2.2.2.2.2.2.1
  have b := h2.1.1.2.2.2.2.2.2.2.2.2.1
  rw [hs 81 (by decide) (by decide) (by decide), a] at b
  exact (Sum.inl.inj b).symm
theorem go_set97 {c : Nat} {v : ix_V} {t : ix_T} : go_sm t (pl_set 97 c v t) := fun j hj h1 _ => pl_set_o (by decide) hj h1
theorem go_set98 {c : Nat} {v : ix_V} {t : ix_T} : go_sm t (pl_set 98 c v t) := fun j hj _ h2 => pl_set_o (by decide) hj h2
theorem tx_n_set98 {m k v : Nat} {t : ix_T} (hl : (ix_g t 98).2.1 ≤ 16384) (h1 : 192 ≤ (ix_g t 98).2.1) (hm : m < 192) (hk : k < 192) : tx_n (pl_set 98 m (.inl v) t) 98 k = if k = m then v else tx_n t 98 k := by
  unfold tx_n
  rw [pl_set_g (by decide) hl (by omega) (by omega)]
  by_cases e : k = m
  · rw [if_pos e, if_pos e]
  · rw [if_neg e, if_neg e]
/-- the methods that a look calls -/
def go_M (M : ix_M) (O : ix_O) : Prop := M 100 = some (ix_cX12_beside O, 4) ∧ M 99 = some (ix_cX12_behind O, 2) ∧ M 191 = some (ix_cX12_rises O, 1) ∧ M 137 = some (ix_cX12_isGlass O, 1) ∧ M 136 = some (ix_cX12_isEnd O, 3)
theorem go_walk {M : ix_M} {O : ix_O} {σ : ty_Sg} {d n mo Bd m : Nat} (hM : go_M M O) (hcc : ty_goc h = true) : ∀ (N q c a g : Nat) (t : ix_T) (x6 x7 : Option ix_V), ty_hp h σ n t → go_K n mo t → c < 64 → a < 4 → 1 ≤ g → g ≤ mo → q ≤ 7 * (g - 1) + go_b c a → go_S mo t q → go_P t q + go_pot g (go_b c a) ≤ Bd → 56 ≤ 8 * g + go_b c a + N → ∃ q' t', ty_rt M (d + 2) (ix_cX12_goesOn O) 48 ([some (.inr (.inr (.inl 80))), some (.inl m), some (.inl q), some (.inl c), some (.inl a), some (.inl g), x6, x7], [], n, t, 0, 0) 99999 ([], [.inl q'], n, t', 0, 0) ∧ ty_hp h σ n t' ∧ go_S mo t' q' ∧ go_P t' q' ≤ Bd ∧ go_sm t t' ∧ q' ≤ 50 := by
  obtain ⟨A1, A2, A3⟩ := ty_go_all hcc (σ := σ) (n := n)
  intro N
  induction N with
  | zero =>
    intro q c a g t x6 x7 hh hK hc ha g1 g2 hq hS hP hN
    have := go_b_le c a hc
    have := hK.2.2.1
    omega
  | succ N ih =>
    intro q c a g t x6 x7 hh hK hc ha g1 g2 hq hS hP hN
    have b7 := go_b_le c a hc
    have mo6 := hK.2.2.1
    have q50 : q ≤ 50 := by omega
    -- what is seen
    have seen : ∃ t1, ty_rt M (d + 2) (ix_cX12_goesOn O) 48 ([some (.inr (.inr (.inl 80))), some (.inl m), some (.inl q), some (.inl c), some (.inl a), some (.inl g), x6, x7], [], n, t, 0, 0) 82 ([some (.inr (.inr (.inl 80))), some (.inl m), some (.inl q), some (.inl c), some (.inl a), some (.inl g), x6, x7], [], n, t1, 0, 0) ∧ ty_hp h σ n t1 ∧ go_sm t t1 ∧ ix_g t1 98 = ix_g t 98 := by
      have s1 := pl_go1 (M := M) (O := O) (d := d + 2) (m := m) (q := q) (a := a) (g := g) (x6 := x6) (x7 := x7) hK.1 hc
      obtain ⟨s, s2, s3⟩ := hK.2.2.2.2.1 c hc
      have st := A2 t c g hh hc (Or.inr (by omega))
      by_cases e : s = 4294967295
      · subst e
        exact ⟨_, s1.tr (pl_go2a hK.1 hc s3), st, go_set97, pl_set_o (by decide) (by decide) (by decide)⟩
      · have s7 : s < 7 := by rcases s2 with z | z <;> omega
        by_cases e2 : g < s
        · exact ⟨_, s1.tr (pl_go2b hK.1 hc s3 s7 e2), st, go_set97, pl_set_o (by decide) (by decide) (by decide)⟩
        · exact ⟨t, s1.tr (pl_go2c hK.1 hc s3 s7 (by omega) (by omega)), hh, go_sm.rf, rfl⟩
    obtain ⟨t1, r1, hh1, sm1, o1⟩ := seen
    obtain ⟨mo1, hK1⟩ := A1 t1 hh1
    have em1 := sm1.mo hK hK1
    subst em1
    have e98 : ∀ j, tx_n t1 98 j = tx_n t 98 j := fun j => tx_n_c o1
    have hS1 : go_S mo1 t1 q := go_S_c (fun j _ => e98 j) hS
    have hP1 : go_P t1 q = go_P t q := go_P_c (fun j _ => e98 j)
    have hB1 : go_P t1 q ≤ Bd := by rw [hP1]; omega
    obtain ⟨k, k6, hk⟩ := hK1.2.2.2.1 c hc
    by_cases k3 : k = 3
    · subst k3
      exact ⟨q, t1, r1.tr (pl_go3r hK1.1 hc hk), hh1, hS1, hB1, sm1, q50⟩
    -- does it end here
    have r2 := r1.tr (pl_go3 (M := M) (O := O) (d := d + 2) (m := m) (q := q) (a := a) (g := g) (x6 := x6) (x7 := x7) hK1.1 hc hk k3)
    obtain ⟨e, e2, e3, e4⟩ := pl_isEnd (M := M) (O := O) (d := d + 1) (y := 136) (c := c) (g := g) hM.2.2.2.2 hK1.1.1 hc (show g < 7 by omega)
    have r3 := r2.tr (pl_go4 (M := M) (O := O) (d := d + 2) (m := m) (q := q) (a := a) (k := k) (x7 := x7) hK1.1 e4)
    have hgl : ∀ u, ty_ev M (d + 2) 137 [.inl k] n u ([], [.inl (bh_g k)], n, u, 0, 0) := fun u => pl_isGlass (d := d + 1) hM.2.2.2.1
    -- on to the next cell
    have tail : ∀ (q2 a2 gz : Nat) (t2 : ix_T), ty_hp h σ n t2 → go_sm t t2 → a2 < 4 → 1 ≤ gz → gz ≤ mo1 → go_S mo1 t2 q2 → go_P t2 q2 ≤ Bd → q2 ≤ 50 → (bs_c c a2 < 64 → go_b (bs_c c a2) a2 = go_b c a2 + 1 → q2 ≤ 7 * (gz - 1) + go_b (bs_c c a2) a2 ∧ go_P t2 q2 + go_pot gz (go_b (bs_c c a2) a2) ≤ Bd ∧ 56 ≤ 8 * gz + go_b (bs_c c a2) a2 + N) → ∃ q' t', ty_rt M (d + 2) (ix_cX12_goesOn O) 196 ([some (.inr (.inr (.inl 80))), some (.inl m), some (.inl q2), some (.inl c), some (.inl a2), some (.inl gz), some (.inl k), some (.inl e)], [], n, t2, 0, 0) 99999 ([], [.inl q'], n, t', 0, 0) ∧ ty_hp h σ n t' ∧ go_S mo1 t' q' ∧ go_P t' q' ≤ Bd ∧ go_sm t t' ∧ q' ≤ 50 := by
      intro q2 a2 gz t2 hh2 sm2 ha2 g21 g22 hS2 hB2 q250 hnx
      obtain ⟨mo2, hK2⟩ := A1 t2 hh2
      have em2 := sm2.mo hK hK2
      subst em2
      have hb : ty_ev M (d + 2) 100 [.inl c, .inl a2] n t2 ([], [.inl (bs_c c a2)], n, t2, 0, 0) := pl_beside (d := d + 1) hM.1 hc ha2
      have r8 := pl_go8 (M := M) (O := O) (d := d + 2) (m := m) (q := q2) (g := gz) (k := k) (e := e) hK2.1 hb
      rcases go_bs hc ha2 with z | ⟨z1, z2⟩
      · rw [z] at r8
        exact ⟨q2, t2, r8.tr (pl_go1e hK2.1), hh2, hS2, hB2, sm2, q250⟩
      · obtain ⟨n1, n2, n3⟩ := hnx z1 z2
        obtain ⟨q', t', i1, i2, i3, i4, i5, i6⟩ := ih q2 (bs_c c a2) a2 gz t2 _ _ hh2 hK2 z1 ha2 g21 g22 n1 hS2 n2 n3
        exact ⟨q', t', r8.tr i1, i2, i3, i4, sm2.tr i5, i6⟩
    have fin : ∀ {C : ty_C} {pc : Nat}, ty_rt M (d + 2) (ix_cX12_goesOn O) 109 ([some (.inr (.inr (.inl 80))), some (.inl m), some (.inl q), some (.inl c), some (.inl a), some (.inl g), some (.inl k), some (.inl e)], [], n, t1, 0, 0) pc C → (∃ q' t', ty_rt M (d + 2) (ix_cX12_goesOn O) pc C 99999 ([], [.inl q'], n, t', 0, 0) ∧ ty_hp h σ n t' ∧ go_S mo1 t' q' ∧ go_P t' q' ≤ Bd ∧ go_sm t t' ∧ q' ≤ 50) → ∃ q' t', ty_rt M (d + 2) (ix_cX12_goesOn O) 48 ([some (.inr (.inr (.inl 80))), some (.inl m), some (.inl q), some (.inl c), some (.inl a), some (.inl g), x6, x7], [], n, t, 0, 0) 99999 ([], [.inl q'], n, t', 0, 0) ∧ ty_hp h σ n t' ∧ go_S mo1 t' q' ∧ go_P t' q' ≤ Bd ∧ go_sm t t' ∧ q' ≤ 50 := by
      rintro C pc rr ⟨q', t', i1, i2⟩
      exact ⟨q', t', r3.tr (rr.tr i1), i2⟩
    -- straight on
    have straight := tail q a g t1 hh1 sm1 ha g1 g2 hS1 hB1 q50 (fun z1 z2 => by
      rw [z2]
      have hb7 := go_b_le (bs_c c a) a z1
      have := go_pot_s (b := go_b c a) g1 (by omega) (by omega)
      exact ⟨by omega, by rw [hP1]; omega, by omega⟩)
    by_cases kl : k ≤ 3
    · have r5 := pl_go5a (M := M) (O := O) (d := d + 2) (m := m) (q := q) (c := c) (a := a) (g := g) (e := e) hK1.1 kl
      by_cases k0 : bh_g k = 0
      · exact fin (r5.tr (pl_go7a hK1.1 (hgl t1) k0)) straight
      · by_cases e0 : e = 0
        · subst e0
          have gm := e3 rfl
          obtain ⟨a', a4, a5⟩ := pl_behind (M := M) (O := O) (d := d) (y := 99) (n := n) (t := t1) (k := k) (e := a) hM.2.1 hM.2.2.1 ha
          have turn := tail q a' (g + 1) t1 hh1 sm1 a4 (by omega) (by omega) hS1 hB1 q50 (fun z1 z2 => by
            have := go_pot_t (b := go_b c a) (b' := go_b (bs_c c a') a') g1 (by omega) b7
            exact ⟨by omega, by rw [hP1]; omega, by omega⟩)
          exact fin (r5.tr (pl_go7d hK1.1 (hgl t1) k0 (by omega) (by omega) a5)) turn
        · exact fin (r5.tr (pl_go7c hK1.1 (hgl t1) k0 (by omega) e0)) ⟨q, t1, pl_rf, hh1, hS1, hB1, sm1, q50⟩
    · have k0 : ¬ bh_g k = 0 := by
        unfold bh_g
        rw [if_neg (by omega)]
        decide
      by_cases e0 : e = 0
      · subst e0
        have gm := e3 rfl
        have l1 := hK1.2.2.2.2.2.2.2
        have l2 := hK1.1.2.2.2.2.2.2.2.2.2.2
        -- one more waits
        obtain ⟨a', a4, a5⟩ := pl_behind (M := M) (O := O) (d := d) (y := 99) (n := n) (t := pl_set 98 (3 * q) (.inl c) t1) (k := k) (e := a) hM.2.1 hM.2.2.1 ha
        have r5 := pl_go5c (M := M) (O := O) (d := d + 2) (m := m) (q := q) (c := c) (a := a) (g := g) hK1.1 (show 3 < k by omega) k6 (by omega) (by omega) a5
        have u1 := A3 t1 (3 * q) c hh1 (by omega) hc
        have u2 := A3 _ (3 * q + 1) a' u1 (by omega) (by omega)
        have u3 := A3 _ (3 * q + 2) (g + 1) u2 (by omega) (by omega)
        have sm3 : go_sm t _ := (sm1.tr (go_set98 (c := 3 * q) (v := .inl c))).tr ((go_set98 (c := 3 * q + 1) (v := .inl a')).tr (go_set98 (c := 3 * q + 2) (v := .inl (g + 1))))
        have v1 : (ix_g (pl_set 98 (3 * q) (.inl c) t1) 98).2.1 = (ix_g t1 98).2.1 := by rw [pl_set_s (by decide)]
        have v2 : (ix_g (pl_set 98 (3 * q + 1) (.inl a') (pl_set 98 (3 * q) (.inl c) t1)) 98).2.1 = (ix_g t1 98).2.1 := by rw [pl_set_s (by decide)]; exact v1
        have val : ∀ j, j < 192 → tx_n (pl_set 98 (3 * q + 2) (.inl (g + 1)) (pl_set 98 (3 * q + 1) (.inl a') (pl_set 98 (3 * q) (.inl c) t1))) 98 j = if j = 3 * q + 2 then g + 1 else if j = 3 * q + 1 then a' else if j = 3 * q then c else tx_n t1 98 j := fun j hj => by
          rw [tx_n_set98 (by rw [v2]; exact l1) (by rw [v2]; exact l2) (by omega) hj, tx_n_set98 (by rw [v1]; exact l1) (by rw [v1]; exact l2) (by omega) hj, tx_n_set98 l1 l2 (by omega) hj]
        have old : ∀ j, j < 3 * q → tx_n (pl_set 98 (3 * q + 2) (.inl (g + 1)) (pl_set 98 (3 * q + 1) (.inl a') (pl_set 98 (3 * q) (.inl c) t1))) 98 j = tx_n t1 98 j := fun j hj => by
          rw [val j (by omega), if_neg (by omega), if_neg (by omega), if_neg (by omega)]
        have hS3 : go_S mo1 (pl_set 98 (3 * q + 2) (.inl (g + 1)) (pl_set 98 (3 * q + 1) (.inl a') (pl_set 98 (3 * q) (.inl c) t1))) (q + 1) := fun i hi => by
          by_cases ei : i = q
          · subst ei
            rw [val (3 * i) (by omega), val (3 * i + 1) (by omega), val (3 * i + 2) (by omega), if_neg (by omega), if_neg (by omega), if_pos rfl, if_neg (by omega), if_pos rfl, if_pos rfl]
            exact ⟨hc, a4, by omega, by omega, by omega⟩
          · exact go_S_c old hS1 i (by omega)
        have hP3 : go_P (pl_set 98 (3 * q + 2) (.inl (g + 1)) (pl_set 98 (3 * q + 1) (.inl a') (pl_set 98 (3 * q) (.inl c) t1))) (q + 1) = go_P t q + go_q (g + 1) := by
          show go_P _ q + go_q (tx_n _ 98 (3 * q + 2)) = _
          rw [go_P_c old, hP1, val (3 * q + 2) (by omega), if_pos rfl]
        have p1 := go_pot_1 (b := go_b c a) g1 (show g < 6 by omega) b7
        have push := tail (q + 1) a g _ u3 sm3 ha g1 g2 hS3 (by rw [hP3]; omega) (by omega) (fun z1 z2 => by
          rw [z2]
          have hb7 := go_b_le (bs_c c a) a z1
          have := go_pot_p (b := go_b c a) g1 (show g < 6 by omega) (by omega)
          exact ⟨by omega, by rw [hP3]; omega, by omega⟩)
        obtain ⟨mo3, hK3⟩ := A1 _ u3
        exact fin (r5.tr (pl_go7b hK3.1 (hgl _) k0 (by omega) k6)) push
      · exact fin ((pl_go5b hK1.1 (by omega) k6 e0).tr (pl_go7b hK1.1 (hgl t1) k0 (by omega) k6)) straight
/-- a look that waits goes on: less waits then -/
theorem go_on {M : ix_M} {O : ix_O} {σ : ty_Sg} {d n mo m y : Nat} {t : ix_T} (hy : M y = some (ix_cX12_goesOn O, 8)) (hM : go_M M O) (hcc : ty_goc h = true) (hh : ty_hp h σ n t) (hK : go_K n mo t) (hS : go_S mo t (m + 1)) : ∃ q' t', ty_ev M (d + 3) y [(.inr (.inr (.inl 80))), .inl m] n t ([], [.inl q'], n, t', 0, 0) ∧ ty_hp h σ n t' ∧ go_S mo t' q' ∧ go_P t' q' < go_P t (m + 1) ∧ go_sm t t' ∧ q' ≤ 50 := by
  obtain ⟨A1, A2, A3⟩ := ty_go_all hcc (σ := σ) (n := n)
  obtain ⟨s1, s2, s3, s4, s5⟩ := hS m (by omega)
  have mo6 := hK.2.2.1
  have get : ∀ j, j < 192 → ix_g (ix_g t 98).2.2 j = .inl (tx_n t 98 j) := fun j hj => by
    obtain ⟨v, hv⟩ := hK.2.2.2.2.2.1 j hj
    unfold tx_n
    rw [hv]
  have o0 := get (3 * m) (by omega)
  have o1 := get (3 * m + 1) (by omega)
  have o2 := get (3 * m + 2) (by omega)
  have hS0 : go_S mo t m := fun i hi => hS i (by omega)
  have hPd : go_P t (m + 1) = go_P t m + go_q (tx_n t 98 (3 * m + 2)) := rfl
  generalize tx_n t 98 (3 * m) = c at *
  generalize tx_n t 98 (3 * m + 1) = a at *
  generalize tx_n t 98 (3 * m + 2) = g at *
  have gq := go_q_1 s3 (show g ≤ 6 by omega)
  have r0 := pl_go0 (M := M) (O := O) (d := d + 2) (x2 := none) (x3 := none) (x4 := none) (x5 := none) (x6 := none) (x7 := none) hK.1 (show m < 63 by omega) o0 o1 o2 (pl_beside (d := d + 1) hM.1 s1 s2)
  have fin : (∃ q' t', ty_rt M (d + 2) (ix_cX12_goesOn O) 48 ([some (.inr (.inr (.inl 80))), some (.inl m), some (.inl m), some (.inl (bs_c c a)), some (.inl a), some (.inl g), none, none], [], n, t, 0, 0) 99999 ([], [.inl q'], n, t', 0, 0) ∧ ty_hp h σ n t' ∧ go_S mo t' q' ∧ go_P t' q' < go_P t (m + 1) ∧ go_sm t t' ∧ q' ≤ 50) → ∃ q' t', ty_ev M (d + 3) y [(.inr (.inr (.inl 80))), .inl m] n t ([], [.inl q'], n, t', 0, 0) ∧ ty_hp h σ n t' ∧ go_S mo t' q' ∧ go_P t' q' < go_P t (m + 1) ∧ go_sm t t' ∧ q' ≤ 50 := by
    rintro ⟨q', t', i1, i2⟩
    exact ⟨q', t', pl_call (avs := [(.inr (.inr (.inl 80))), .inl m]) hy (show 2 ≤ 8 by decide) (r0.tr i1), i2⟩
  apply fin
  rcases go_bs s1 s2 with z | ⟨z1, z2⟩
  · rw [z]
    exact ⟨m, t, pl_go1e hK.1, hh, hS0, by rw [hPd]; omega, go_sm.rf, by omega⟩
  · have b1 := go_pot_0 (b := go_b (bs_c c a) a) s3 (show g ≤ 6 by omega) (by omega)
    obtain ⟨q', t', i1, i2, i3, i4, i5, i6⟩ := go_walk (M := M) (O := O) (d := d) (Bd := go_P t m + go_q g - 1) (m := m) hM hcc 56 m (bs_c c a) a g t none none hh hK z1 s2 s3 s4 (by omega) hS0 (by omega) (by omega)
    exact ⟨q', t', i1, i2, i3, by rw [hPd]; omega, i5, i6⟩
end TYGW
