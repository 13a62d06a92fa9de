/-! flags and images, from turn to turn -/
section LWG
variable {O : ix_O} {n : Nat} {t : ix_T} {C : ty_C}
/-- place k: no flag and no image, or both -/
def lw_r (t : ix_T) (k : Nat) : Prop := (ix_g (ix_g t 84).2.2 k = .inl 0 ∧ ix_g (ix_g t 34).2.2 k = .inr (.inr (.inl 0))) ∨ (ix_g (ix_g t 84).2.2 k = .inl 1 ∧ ∃ q, ix_g (ix_g t 34).2.2 k = .inr (.inr (.inl (q + 1))))
def lw_R (n : Nat) (t : ix_T) : Prop := Iv n t ∧ (lw_r t 0 ∧ lw_r t 1)
def lw_B (n : Nat) (t : ix_T) : Prop := 34 < n ∧ ix_g (ix_g t 0).2.2 1 = .inr (.inr (.inl 35)) ∧ (ix_g t 34).2.1 = 2 ∧ (ix_g t 84).2.1 = 2
theorem lw_ce {i : Nat} (hi : i < 114) {σ : ty_Sg} (h : ty_hp ty_h σ n t) : i < n ∧ ty_cok σ.2.2.2 n (ty_h.2 i) (ix_g t i) := ty_cell h hi
theorem lw_BB (hp : lw_hp n t) : lw_B n t := by
  obtain ⟨σ, h, _⟩ := hp
  obtain ⟨_, _, _, r4⟩ := ty_ref_of h (show 0 < 114 by decide) (show 34 < 114 by decide) (f := 1) (by decide +kernel) (by decide +kernel) (by decide +kernel)
  obtain ⟨l34, c34⟩ := lw_ce (show 34 < 114 by decide) h
  obtain ⟨_, c84⟩ := lw_ce (show 84 < 114 by decide) h
  have a1 : 2 ≤ (ix_g t 34).2.1 := Nat.le_trans (by decide +kernel) c34.2.1
  have a2 : (ix_g t 34).2.1 ≤ 2 := Nat.le_trans c34.2.2.1 (by decide +kernel)
  have b1 : 2 ≤ (ix_g t 84).2.1 := Nat.le_trans (by decide +kernel) c84.2.1
  have b2 : (ix_g t 84).2.1 ≤ 2 := Nat.le_trans c84.2.2.1 (by decide +kernel)
  exact ⟨l34, r4, Nat.le_antisymm a2 a1, Nat.le_antisymm b2 b1⟩
theorem ev_at {d y : Nat} {as : List ix_V} (h : ty_ev (ix_tbl O) d y as n t C) : ∃ g, ix_exec (ix_tbl O) ty_no g d y as [] n t = some [([], C)] := by
  obtain ⟨f0, h0⟩ := h
  exact ⟨f0, h0 f0 (Nat.le_refl _)⟩
/-- nothing of it changes -/
def gY (t : ix_T) (n' : Nat) (t' : ix_T) : Prop := Iv n' t' ∧ eqc t t'
theorem ev_Y {d y : Nat} {as : List ix_V} (hI : Iv n t) (hy : gr_W y = false) (h : ty_ev (ix_tbl O) d y as n t C) : gY t C.2.2.1 C.2.2.2.1 := (gr_ev hy h).eq hI
theorem lw_r.eq {k : Nat} {t' : ix_T} (h : lw_r t k) (e : eqc t t') : lw_r t' k := by
  unfold lw_r at h ⊢
  rw [e.1, e.2]
  exact h
theorem rl_YY {n1 n2 : Nat} {t1 t2 : ix_T} (h : lw_R n t) (h1 : gY t n1 t1) (h2 : gY t1 n2 t2) : lw_R n2 t2 := ⟨h2.1, (h.2.1.eq h1.2).eq h2.2, (h.2.2.eq h1.2).eq h2.2⟩
/-- what back answers -/
noncomputable def bkf (v : ix_V) : Nat := match v with
  | .inl z => cond (Nat.beq z 0) 4294967294 0
  | _ => 0
noncomputable def bkr (t : ix_T) (m : Nat) : Nat := cond (Nat.beq m 0) (bkf (ix_g (ix_g t 84).2.2 0)) (cond (Nat.beq m 1) (bkf (ix_g (ix_g t 84).2.2 1)) 4294967295)
theorem bkr_o {m : Nat} (h0 : ¬ m = 0) (h1 : ¬ m = 1) : bkr t m = 4294967295 := by
  unfold bkr
  rw [ix_beq_f.mpr h0, cond_false, ix_beq_f.mpr h1, cond_false]
theorem bkr_0 : bkr t 0 = bkf (ix_g (ix_g t 84).2.2 0) := rfl
theorem bkr_1 : bkr t 1 = bkf (ix_g (ix_g t 84).2.2 1) := rfl
theorem bkr_eq {m : Nat} {t' : ix_T} (e : eqc t t') : bkr t' m = bkr t m := by
  unfold bkr
  rw [e.1]
theorem ev_X11_back_0 (hb : lw_B n t) (hR : lw_R n t) (h : ty_ev (ix_tbl O) 410 35 [.inr (.inr (.inl 1)), .inl 0] n t C) : C.2.1 = [.inl (bkr t 0)] ∧ gY t C.2.2.1 C.2.2.2.1 := by
  have _ := hb
  obtain ⟨g, e⟩ := ev_at h
  rcases hR.2.1 with ⟨f0, i0⟩ | ⟨f1, q, i1⟩
  · obtain ⟨q1, q2⟩ := wr_X11_back_0 (d := 409) hb.1 hb.2.1 hb.2.2.1 i0 e _ List.mem_cons_self
    exact ⟨q1.trans (by rw [bkr_0, f0]; rfl), q2.eq hR.1⟩
  · obtain ⟨q1, q2⟩ := wr_X11_back_0 (d := 409) hb.1 hb.2.1 hb.2.2.1 i1 e _ List.mem_cons_self
    exact ⟨q1.trans (by rw [bkr_0, f1]; rfl), q2.eq hR.1⟩
theorem ev_X11_back_1 (hb : lw_B n t) (hR : lw_R n t) (h : ty_ev (ix_tbl O) 410 35 [.inr (.inr (.inl 1)), .inl 1] n t C) : C.2.1 = [.inl (bkr t 1)] ∧ gY t C.2.2.1 C.2.2.2.1 := by
  have _ := hb
  obtain ⟨g, e⟩ := ev_at h
  rcases hR.2.2 with ⟨f0, i0⟩ | ⟨f1, q, i1⟩
  · obtain ⟨q1, q2⟩ := wr_X11_back_1 (d := 409) hb.1 hb.2.1 hb.2.2.1 i0 e _ List.mem_cons_self
    exact ⟨q1.trans (by rw [bkr_1, f0]; rfl), q2.eq hR.1⟩
  · obtain ⟨q1, q2⟩ := wr_X11_back_1 (d := 409) hb.1 hb.2.1 hb.2.2.1 i1 e _ List.mem_cons_self
    exact ⟨q1.trans (by rw [bkr_1, f1]; rfl), q2.eq hR.1⟩
theorem ev_X11_back {m : Nat} (hm : m < 4294967296) (hb : lw_B n t) (hR : lw_R n t) (h : ty_ev (ix_tbl O) 410 35 [.inr (.inr (.inl 1)), .inl m] n t C) : C.2.1 = [.inl (bkr t m)] ∧ gY t C.2.2.1 C.2.2.2.1 := by
  by_cases m0 : m = 0
  · subst m0; exact ev_X11_back_0 hb hR h
  by_cases m1 : m = 1
  · subst m1; exact ev_X11_back_1 hb hR h
  obtain ⟨g, e⟩ := ev_at h
  obtain ⟨q1, q2⟩ := wr_X11_back_o (d := 409) hb.1 hb.2.1 hb.2.2.1 (ofr_of hm m0 m1) e _ List.mem_cons_self
  exact ⟨q1.trans (by rw [bkr_o m0 m1]), q2.eq hR.1⟩
theorem ev_X12_back_0 (hb : lw_B n t) (hR : lw_R n t) (h : ty_ev (ix_tbl O) 410 98 [.inr (.inr (.inl 80)), .inl 0] n t C) : C.2.1 = [.inl (bkr t 0)] ∧ gY t C.2.2.1 C.2.2.2.1 := by
  have _ := hb
  obtain ⟨g, e⟩ := ev_at h
  rcases hR.2.1 with ⟨f0, i0⟩ | ⟨f1, q, i1⟩
  · obtain ⟨q1, q2⟩ := wr_X12_back_0 (d := 409) hR.1.2.2.2.2.2.2.2 f0 e _ List.mem_cons_self
    exact ⟨q1.trans (by rw [bkr_0, f0]; rfl), q2.eq hR.1⟩
  · obtain ⟨q1, q2⟩ := wr_X12_back_0 (d := 409) hR.1.2.2.2.2.2.2.2 f1 e _ List.mem_cons_self
    exact ⟨q1.trans (by rw [bkr_0, f1]; rfl), q2.eq hR.1⟩
theorem ev_X12_back_1 (hb : lw_B n t) (hR : lw_R n t) (h : ty_ev (ix_tbl O) 410 98 [.inr (.inr (.inl 80)), .inl 1] n t C) : C.2.1 = [.inl (bkr t 1)] ∧ gY t C.2.2.1 C.2.2.2.1 := by
  have _ := hb
  obtain ⟨g, e⟩ := ev_at h
  rcases hR.2.2 with ⟨f0, i0⟩ | ⟨f1, q, i1⟩
  · obtain ⟨q1, q2⟩ := wr_X12_back_1 (d := 409) hR.1.2.2.2.2.2.2.2 f0 e _ List.mem_cons_self
    exact ⟨q1.trans (by rw [bkr_1, f0]; rfl), q2.eq hR.1⟩
  · obtain ⟨q1, q2⟩ := wr_X12_back_1 (d := 409) hR.1.2.2.2.2.2.2.2 f1 e _ List.mem_cons_self
    exact ⟨q1.trans (by rw [bkr_1, f1]; rfl), q2.eq hR.1⟩
theorem ev_X12_back {m : Nat} (hm : m < 4294967296) (hb : lw_B n t) (hR : lw_R n t) (h : ty_ev (ix_tbl O) 410 98 [.inr (.inr (.inl 80)), .inl m] n t C) : C.2.1 = [.inl (bkr t m)] ∧ gY t C.2.2.1 C.2.2.2.1 := by
  by_cases m0 : m = 0
  · subst m0; exact ev_X12_back_0 hb hR h
  by_cases m1 : m = 1
  · subst m1; exact ev_X12_back_1 hb hR h
  obtain ⟨g, e⟩ := ev_at h
  obtain ⟨q1, q2⟩ := wr_X12_back_o (d := 409) (ofr_of hm m0 m1) e _ List.mem_cons_self
  exact ⟨q1.trans (by rw [bkr_o m0 m1]), q2.eq hR.1⟩
/-- what image leaves: the class's -/
def imA (t : ix_T) (m n' : Nat) (t' : ix_T) : Prop := Iv n' t' ∧ ix_g t' 84 = ix_g t 84 ∧ ∀ k, k < 2 → (m = k → ∃ q, ix_g (ix_g t' 34).2.2 k = .inr (.inr (.inl (q + 1)))) ∧ (¬ m = k → ix_g (ix_g t' 34).2.2 k = ix_g (ix_g t 34).2.2 k)
/-- the reference's -/
def imB (t : ix_T) (m n' : Nat) (t' : ix_T) : Prop := Iv n' t' ∧ ix_g t' 34 = ix_g t 34 ∧ ∀ k, k < 2 → (m = k → ix_g (ix_g t' 84).2.2 k = .inl 1) ∧ (¬ m = k → ix_g (ix_g t' 84).2.2 k = ix_g (ix_g t 84).2.2 k)
theorem im_k {m k n1 n2 : Nat} {t1 t2 : ix_T} (hk : k < 2) (h : lw_r t k) (h1 : imA t m n1 t1) (h2 : imB t1 m n2 t2) : lw_r t2 k := by
  by_cases e : m = k
  · obtain ⟨q, hq⟩ := (h1.2.2 k hk).1 e
    exact Or.inr ⟨(h2.2.2 k hk).1 e, q, by rw [h2.2.1]; exact hq⟩
  · have a := (h1.2.2 k hk).2 e
    have b := (h2.2.2 k hk).2 e
    unfold lw_r at h ⊢
    rw [b, h1.2.1, h2.2.1, a]
    exact h
theorem im_R {m n1 n2 : Nat} {t1 t2 : ix_T} (h : lw_R n t) (h1 : imA t m n1 t1) (h2 : imB t1 m n2 t2) : lw_R n2 t2 := ⟨h2.1, im_k (by decide) h.2.1 h1 h2, im_k (by decide) h.2.2 h1 h2⟩
theorem lw_rr {k : Nat} (h : lw_r t k) : ∃ r, ix_g (ix_g t 34).2.2 k = .inr (.inr (.inl r)) := by
  rcases h with ⟨_, e⟩ | ⟨_, q, e⟩
  · exact ⟨_, e⟩
  · exact ⟨_, e⟩
theorem ev_X11_image {m : Nat} (hm : m < 4294967296) (hb : lw_B n t) (hR : lw_R n t) (h : ty_ev (ix_tbl O) 410 58 [.inr (.inr (.inl 1)), .inl m] n t C) : imA t m C.2.2.1 C.2.2.2.1 := by
  obtain ⟨g, e⟩ := ev_at h
  by_cases m0 : m = 0
  · subst m0
    obtain ⟨r, hr⟩ := lw_rr hR.2.1
    obtain ⟨q0, q1, q2, q3⟩ := wr_X11_image_0 (d := 409) hR.1 hb.1 hb.2.1 hb.2.2.1 hr e _ List.mem_cons_self
    refine ⟨q0, q1, fun k hk => ⟨fun x => by subst x; exact q2, fun x => ?_⟩⟩
    obtain rfl : k = 1 := by omega
    exact q3
  by_cases m1 : m = 1
  · subst m1
    obtain ⟨r, hr⟩ := lw_rr hR.2.2
    obtain ⟨q0, q1, q2, q3⟩ := wr_X11_image_1 (d := 409) hR.1 hb.1 hb.2.1 hb.2.2.1 hr e _ List.mem_cons_self
    refine ⟨q0, q1, fun k hk => ⟨fun x => by subst x; exact q2, fun x => ?_⟩⟩
    obtain rfl : k = 0 := by omega
    exact q3
  have q := (wr_X11_image_o (d := 409) hb.1 hb.2.1 hb.2.2.1 (ofr_of hm m0 m1) e _ List.mem_cons_self).eq hR.1
  exact ⟨q.1, q.2.1, fun k hk => ⟨fun x => absurd x (by omega), fun _ => by rw [q.2.2]⟩⟩
theorem ev_X12_image {m : Nat} (hm : m < 4294967296) (hI : Iv n t) (hl : (ix_g t 84).2.1 = 2) (h : ty_ev (ix_tbl O) 410 132 [.inr (.inr (.inl 80)), .inl m] n t C) : imB t m C.2.2.1 C.2.2.2.1 := by
  obtain ⟨g, e⟩ := ev_at h
  by_cases m0 : m = 0
  · subst m0
    obtain ⟨q0, q1, q2, q3⟩ := wr_X12_image_0 (d := 409) hI hl e _ List.mem_cons_self
    refine ⟨q0, q1, fun k hk => ⟨fun x => by subst x; exact q2, fun x => ?_⟩⟩
    obtain rfl : k = 1 := by omega
    exact q3
  by_cases m1 : m = 1
  · subst m1
    obtain ⟨q0, q1, q2, q3⟩ := wr_X12_image_1 (d := 409) hI hl e _ List.mem_cons_self
    refine ⟨q0, q1, fun k hk => ⟨fun x => by subst x; exact q2, fun x => ?_⟩⟩
    obtain rfl : k = 0 := by omega
    exact q3
  have q := (wr_X12_image_o (d := 409) (ofr_of hm m0 m1) e _ List.mem_cons_self).2.eq hI
  exact ⟨q.1, q.2.2, fun k hk => ⟨fun x => absurd x (by omega), fun _ => by rw [q.2.1]⟩⟩
/-- the first heap -/
noncomputable def iv_n (v : ix_V) : Bool := match v with
  | .inr (.inr (.inl r)) => !(Nat.beq r 85) && !(Nat.beq r 35)
  | _ => true
noncomputable def iv_k (t : ix_T) (v : ix_V) : Bool := match v with
  | .inr (.inr (.inl r)) => Nat.beq r 0 || (Nat.ble r 114 && Nat.beq (ix_g t (Nat.pred r)).1 4)
  | _ => true
noncomputable def iv_c (t : ix_T) (i : Nat) : Bool := cond (Nat.beq (ix_g t i).1 112) (iv_n (ix_g (ix_g t i).2.2 15) && (iv_n (ix_g (ix_g t i).2.2 32) && iv_n (ix_g (ix_g t i).2.2 39))) true && cond (Nat.beq (ix_g t i).1 101) (iv_k t (ix_g (ix_g t i).2.2 8)) true
noncomputable def iv_a (t : ix_T) : Nat → Bool
  | 0 => true
  | k + 1 => iv_c t k && iv_a t k
theorem iv_a_ok {t : ix_T} : ∀ (k i : Nat), iv_a t k = true → i < k → iv_c t i = true
  | 0, i, _, hi => absurd hi (Nat.not_lt_zero _)
  | k + 1, i, h, hi => by
    have c := Bool.and_eq_true_iff.mp (show (iv_c t k && iv_a t k) = true from h)
    by_cases q : i = k
    · rw [q]; exact c.1
    · exact iv_a_ok k i c.2 (by omega)
theorem iv_n_ok {v : ix_V} (h : iv_n v = true) : v ≠ .inr (.inr (.inl 85)) ∧ v ≠ .inr (.inr (.inl 35)) := by
  constructor
  · intro e
    rw [e] at h
    cases h
  · intro e
    rw [e] at h
    cases h
theorem iv_k_ok {v : ix_V} {j : Nat} (h : iv_k t v = true) (e : v = .inr (.inr (.inl (j + 1)))) : j < 114 ∧ (ix_g t j).1 = 4 := by
  rw [e] at h
  have h' : (Nat.ble (j + 1) 114 && Nat.beq (ix_g t j).1 4) = true := h
  have c := Bool.and_eq_true_iff.mp h'
  exact ⟨ix_ble.mp c.1, ix_beq.mp c.2⟩
noncomputable def iv_r (v : ix_V) (m : Nat) : Bool := match v with
  | .inr (.inr (.inl r)) => Nat.beq r m
  | _ => false
theorem iv_r_ok {v : ix_V} {m : Nat} (h : iv_r v m = true) : v = .inr (.inr (.inl m)) := by
  rcases v with a | a | a | a
  · cases h
  · cases h
  · rw [ix_beq.mp (show Nat.beq a m = true from h)]
  · cases h
noncomputable def lw_z (v : ix_V) : Bool := match v with
  | .inl m => Nat.beq m 0
  | _ => false
theorem lw_z_ok {v : ix_V} (h : lw_z v = true) : v = .inl 0 := by
  rcases v with m | m | m | m
  · rw [ix_beq.mp (show Nat.beq m 0 = true from h)]
  · cases h
  · cases h
  · cases h
set_option maxRecDepth 10000000 in
theorem lw_ia : iv_a lw_t3 114 = true := by decide +kernel
set_option maxRecDepth 10000000 in
theorem lw_I0 : Iv 114 lw_t3 := ⟨by decide, by decide, ix_beq.mp (by decide +kernel), ix_beq.mp (by decide +kernel), fun i hi hk f hf => by
    have c := (Bool.and_eq_true_iff.mp (iv_a_ok 114 i lw_ia hi)).1
    rw [ix_beq.mpr hk, cond_true] at c
    have c2 := Bool.and_eq_true_iff.mp c
    have c3 := Bool.and_eq_true_iff.mp c2.2
    rcases hf with rfl | rfl | rfl
    · exact iv_n_ok c2.1
    · exact iv_n_ok c3.1
    · exact iv_n_ok c3.2, fun i hi hk j hj => by
    have c := (Bool.and_eq_true_iff.mp (iv_a_ok 114 i lw_ia hi)).2
    rw [ix_beq.mpr hk, cond_true] at c
    exact iv_k_ok c hj, ix_beq.mp (by decide +kernel), iv_r_ok (by decide +kernel)⟩
set_option maxRecDepth 10000000 in
theorem lw_R0 : lw_R 114 lw_t3 := ⟨lw_I0, Or.inl ⟨lw_z_ok (by decide +kernel), iv_r_ok (by decide +kernel)⟩, Or.inl ⟨lw_z_ok (by decide +kernel), iv_r_ok (by decide +kernel)⟩⟩
def lw_hq (n : Nat) (t : ix_T) : Prop := lw_hp n t ∧ lw_R n t
theorem lw_hq0 : lw_hq 114 lw_t3 := ⟨lw_hp0, lw_R0⟩
end LWG
