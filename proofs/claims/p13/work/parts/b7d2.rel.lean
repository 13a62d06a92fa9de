/-! the tapes' lengths are the same, from turn to turn -/
section LWG
variable {O : ix_O} {n : Nat} {t : ix_T} {C : ty_C}
def lw_R (t : ix_T) : Prop := ∃ a, a ≤ 400 ∧ tpc t = .inl a ∧ tpr t = .inl a
theorem lw_ce {i : Nat} (hi : i < 114) {σ : ty_Sg} (h : ty_hp ty_h σ n t) : i < n ∧ ty_cok σ.2.2.2 n (ty_h.2 i) (ix_g t i) := ty_cell h hi
theorem lw_K2 (hp : lw_hp n t) : K2 n t := by
  obtain ⟨σ, h, _⟩ := hp
  obtain ⟨_, c0⟩ := lw_ce (show 0 < 114 by decide) h
  obtain ⟨l79, c79⟩ := lw_ce (show 79 < 114 by decide) h
  exact ⟨h.2.1, l79, c0.1.trans rfl, c79.1.trans rfl⟩
theorem lw_K3 (hp : lw_hp n t) : K3 n t := by
  have k2 := lw_K2 hp
  obtain ⟨σ, h, _⟩ := hp
  obtain ⟨_, _, _, r4⟩ := ty_ref_of h (show 0 < 114 by decide) (show 17 < 114 by decide) (f := 2) (by decide +kernel) (by decide +kernel) (by decide +kernel)
  obtain ⟨_, c17⟩ := lw_ce (show 17 < 114 by decide) h
  have a1 : 400 ≤ (ix_g t 17).2.1 := Nat.le_trans (by decide +kernel) c17.2.1
  have a2 : (ix_g t 17).2.1 ≤ 400 := Nat.le_trans c17.2.2.1 (by decide +kernel)
  exact ⟨k2, r4, Nat.le_antisymm a2 a1⟩
theorem lw_K4 (hp : lw_hp n t) : K4 n t := by
  have k2 := lw_K2 hp
  obtain ⟨σ, h, _⟩ := hp
  obtain ⟨_, _, _, r4⟩ := ty_ref_of h (show 79 < 114 by decide) (show 88 < 114 by decide) (f := 15) (by decide +kernel) (by decide +kernel) (by decide +kernel)
  obtain ⟨_, _, _, s4⟩ := ty_ref_of h (show 79 < 114 by decide) (show 89 < 114 by decide) (f := 16) (by decide +kernel) (by decide +kernel) (by decide +kernel)
  obtain ⟨l89, c89⟩ := lw_ce (show 89 < 114 by decide) h
  have k0 : (ty_h.2 89).1 = 0 := rfl
  have d0 : (ix_g (ty_h.2 89).2.2.2.1 0).1 = 0 := rfl
  refine ⟨k2, r4, s4, l89, c89.1.trans k0, Nat.le_trans c89.2.2.1 (by decide +kernel), fun j hj => ?_⟩
  have z := (c89.2.2.2 j hj).2.1 (by rw [k0]; decide)
  unfold ty_sok at z
  rw [d0] at z
  obtain ⟨m, m1, _⟩ := z
  exact ⟨m, m1⟩
theorem ev_at {d y : Nat} {as : List ix_V} (h : ty_ev (ix_tbl O) d y as n t C) : ∃ g, ix_exec (ix_tbl O) ty_no g d y as [] n t = some [([], C)] := by
  obtain ⟨f0, h0⟩ := h
  exact ⟨f0, h0 f0 (Nat.le_refl _)⟩
theorem rl_YY {n1 n2 : Nat} {t1 t2 : ix_T} (h : lw_R t) (h1 : fY t n1 t1) (h2 : fY t1 n2 t2) : lw_R t2 := by
  obtain ⟨a, a1, a2, a3⟩ := h
  exact ⟨a, a1, h2.2.1.trans (h1.2.1.trans a2), h2.2.2.trans (h1.2.2.trans a3)⟩
theorem rl_Z {n1 n2 : Nat} {t1 t2 : ix_T} (h1 : fZc t n1 t1) (h2 : fZr t1 n2 t2) : lw_R t2 := ⟨0, Nat.zero_le _, h2.2.1.trans h1.2.1, h2.2.2⟩
theorem ev_X11_row (hk : K2 n t) (h : ty_ev (ix_tbl O) 410 80 [.inr (.inr (.inl 1))] n t C) : fZc t C.2.2.1 C.2.2.2.1 := by
  obtain ⟨g, e⟩ := ev_at h
  exact wr_X11_row (d := 409) hk e _ List.mem_cons_self
theorem ev_X11_law (hk : K2 n t) (h : ty_ev (ix_tbl O) 410 64 [.inr (.inr (.inl 1))] n t C) : fZc t C.2.2.1 C.2.2.2.1 := by
  obtain ⟨g, e⟩ := ev_at h
  exact wr_X11_law (d := 409) hk e _ List.mem_cons_self
theorem ev_X11_orders (hk : K2 n t) (h : ty_ev (ix_tbl O) 410 68 [.inr (.inr (.inl 1))] n t C) : fZc t C.2.2.1 C.2.2.2.1 := by
  obtain ⟨g, e⟩ := ev_at h
  exact wr_X11_orders (d := 409) hk e _ List.mem_cons_self
theorem ev_X12_row (hk : K2 n t) (h : ty_ev (ix_tbl O) 410 192 [.inr (.inr (.inl 80))] n t C) : fZr t C.2.2.1 C.2.2.2.1 := by
  obtain ⟨g, e⟩ := ev_at h
  exact wr_X12_row (d := 409) hk e _ List.mem_cons_self
theorem ev_X12_law (hk : K2 n t) (h : ty_ev (ix_tbl O) 410 144 [.inr (.inr (.inl 80))] n t C) : fZr t C.2.2.1 C.2.2.2.1 := by
  obtain ⟨g, e⟩ := ev_at h
  exact wr_X12_law (d := 409) hk e _ List.mem_cons_self
theorem ev_X12_orders (hk : K2 n t) (h : ty_ev (ix_tbl O) 410 163 [.inr (.inr (.inl 80))] n t C) : fZr t C.2.2.1 C.2.2.2.1 := by
  obtain ⟨g, e⟩ := ev_at h
  exact wr_X12_orders (d := 409) hk e _ List.mem_cons_self
theorem ev_X11_end {m a : Nat} (hk : K2 n t) (ha : tpc t = .inl a) (h : ty_ev (ix_tbl O) 410 45 [.inr (.inr (.inl 1)), .inl m] n t C) : C.2.1 = [.inl (enr m a)] ∧ K2 C.2.2.1 C.2.2.2.1 ∧ tpc C.2.2.2.1 = .inl (ent m a) ∧ tpr C.2.2.2.1 = tpr t := by
  obtain ⟨g, e⟩ := ev_at h
  exact wr_X11_end (d := 409) hk ha e _ List.mem_cons_self
theorem ev_X12_end {m a : Nat} (hk : K2 n t) (ha : tpr t = .inl a) (h : ty_ev (ix_tbl O) 410 113 [.inr (.inr (.inl 80)), .inl m] n t C) : C.2.1 = [.inl (enr m a)] ∧ K2 C.2.2.1 C.2.2.2.1 ∧ tpr C.2.2.2.1 = .inl (ent m a) ∧ tpc C.2.2.2.1 = tpc t := by
  obtain ⟨g, e⟩ := ev_at h
  exact wr_X12_end (d := 409) hk ha e _ List.mem_cons_self
theorem ev_X11_feed {a v1 v2 v3 v4 v5 : Nat} (hk : K3 n t) (ha : tpc t = .inl a) (ha4 : a ≤ 400) (h : ty_ev (ix_tbl O) 410 48 [.inr (.inr (.inl 1)), .inl v1, .inl v2, .inl v3, .inl v4, .inl v5] n t C) : C.2.1 = [.inl (cond (fdq a) 4294967295 (a + 20))] ∧ K2 C.2.2.1 C.2.2.2.1 ∧ tpc C.2.2.2.1 = .inl (cond (fdq a) a (a + 20)) ∧ tpr C.2.2.2.1 = tpr t := by
  obtain ⟨g, e⟩ := ev_at h
  exact wr_X11_feed (d := 409) hk ha ha4 e _ List.mem_cons_self
theorem ev_X12_feed {a v1 v2 v3 v4 v5 : Nat} (hk : K4 n t) (ha : tpr t = .inl a) (ha4 : a ≤ 400) (h : ty_ev (ix_tbl O) 410 117 [.inr (.inr (.inl 80)), .inl v1, .inl v2, .inl v3, .inl v4, .inl v5] n t C) : C.2.1 = [.inl (cond (fdq a) 4294967295 (a + 20))] ∧ K2 C.2.2.1 C.2.2.2.1 ∧ tpr C.2.2.2.1 = .inl (cond (fdq a) a (a + 20)) ∧ tpc C.2.2.2.1 = tpc t := by
  obtain ⟨g, e⟩ := ev_at h
  exact wr_X12_feed (d := 409) hk ha ha4 e _ List.mem_cons_self
theorem ent_le {m a : Nat} (hm : m < 4294967296) (ha : a ≤ 400) : ent m a ≤ 400 := by
  unfold ent
  cases h : enq m a with
  | false => exact ha
  | true =>
    unfold enq at h
    show m ≤ 400
    cases h1 : Nat.blt (ix_bias m) (ix_bias 0) with
    | true => rw [h1, cond_true] at h; cases h
    | false =>
      rw [h1, cond_false] at h
      cases h2 : Nat.blt (ix_bias a) (ix_bias m) with
      | true => rw [h2, cond_true] at h; cases h
      | false =>
        have g1 := ix_blt_f.mp h1
        have g2 := ix_blt_f.mp h2
        have e0 : ix_bias 0 = 2147483648 := rfl
        have ea : ix_bias a = a + 2147483648 := pl_bias (by omega)
        have em : ix_bias m = (m + 2147483648) % 4294967296 := rfl
        omega
theorem fd_le {a : Nat} (ha : a ≤ 400) : cond (fdq a) a (a + 20) ≤ 400 := by
  cases h : fdq a with
  | true => exact ha
  | false => exact fdq_y ha h
noncomputable def lw_z (v : ix_V) : Bool := match v with
  | .inl m => Nat.beq m 0
  | _ => false
theorem lw_z_ok {v : ix_V} (h : lw_z v = true) : v = .inl 0 := by
  rcases v with m | m | m | m
  · rw [ix_beq.mp (show Nat.beq m 0 = true from h)]
  · cases h
  · cases h
  · cases h
set_option maxRecDepth 10000000 in
theorem lw_R0 : lw_R lw_t3 := ⟨0, Nat.zero_le _, lw_z_ok (by decide +kernel), lw_z_ok (by decide +kernel)⟩
def lw_hq (n : Nat) (t : ix_T) : Prop := lw_hp n t ∧ lw_R t
theorem lw_hq0 : lw_hq 114 lw_t3 := ⟨lw_hp0, lw_R0⟩
end LWG
