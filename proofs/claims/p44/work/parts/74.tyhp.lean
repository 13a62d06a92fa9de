/-! the typed machine's heap: fields -/
section TYH
variable {h : ty_H} {cp : Nat × Nat} {pc : Nat}
/-- the type of a named reference -/
noncomputable def ty_ty (h : ty_H) (W : ty_W) (p : Nat) : Nat := cond (Nat.blt p h.1) p (ix_g W.2.2.1.2 (Nat.sub p h.1))
theorem ty_ty_ok {σ : ty_Sg} {W : ty_W} {n p : Nat} {t : ix_T} (hw : ty_wk h σ W n t) (hp : p < h.1 + W.2.2.1.1) : σ.2.2.1 p < n ∧ σ.2.2.2 (σ.2.2.1 p) = ty_ty h W p := by
  obtain ⟨_, _, hh, hr, _⟩ := hw
  unfold ty_ty
  cases hc : Nat.blt p h.1 with
  | true =>
    have hlt := ix_blt.mp hc
    have e := hh.2.2.1 p hlt
    have := hh.1
    rw [e]
    exact ⟨by omega, (hh.2.2.2.2.1 p (by omega)).1 hlt⟩
  | false =>
    have hge := ix_blt_f.mp hc
    have := hr.2 (p - h.1) (by omega)
    rw [show h.1 + (p - h.1) = p by omega] at this
    exact this
/-- two places are surely one -/
noncomputable def ty_sj (A : ty_A) (i j : ix_V) : Bool := match ty_nz A i, ty_nz A j with
  | .inl a, .inl b => Nat.beq a b
  | .inr (.inr (.inr (x, c))), .inr (.inr (.inr (y, d))) => Nat.beq x y && Nat.beq c d
  | _, _ => false
theorem ty_sj_ok {σ : Nat → Nat} {A : ty_A} {i j : ix_V} {m k : Nat} (hA : ty_bx σ A) (hs : ty_sj A i j = true) (hm : ty_iv A.1 σ i m) (hk : ty_iv A.1 σ j k) : m = k := by
  have h1 := ty_nz_ok hA hm
  have h2 := ty_nz_ok hA hk
  unfold ty_sj at hs
  split at hs
  · rename_i a b ea eb
    rw [ea] at h1
    rw [eb] at h2
    have e := ix_beq.mp hs
    exact ty_kp_inj hm.1 hk.1 ((show a = ty_kp m from h1.2).symm.trans (e.trans (show b = ty_kp k from h2.2)))
  · rename_i x c y d ea eb
    rw [ea] at h1
    rw [eb] at h2
    have c1 := Bool.and_eq_true_iff.mp hs
    rw [h1.2.2, h2.2.2, ix_beq.mp c1.1, ix_beq.mp c1.2]
  · cases hs
noncomputable def ty_find (A : ty_A) (p : Nat) (j : ix_V) : ty_X → Option ix_V
  | [] => none
  | f :: X => cond (Nat.beq f.1.1 p && ty_sj A f.1.2 j) (some f.2) (ty_find A p j X)
theorem ty_find_ok {k2 : Nat × Nat} {σ : ty_Sg} {A : ty_A} {t : ix_T} {p m : Nat} {j v : ix_V} (hA : ty_bx σ.1 A) (hj : ty_iv A.1 σ.1 j m) : ∀ (X : ty_X), (∀ f ∈ X, ty_fok (A.1, k2) σ t f) → ty_find A p j X = some v → ty_rv (A.1, k2) σ v (ix_g (ix_g t (σ.2.2.1 p)).2.2 m)
  | [], _, he => by cases he
  | f :: X, hX, he => by
    change cond (Nat.beq f.1.1 p && ty_sj A f.1.2 j) (some f.2) (ty_find A p j X) = some v at he
    cases hc : (Nat.beq f.1.1 p && ty_sj A f.1.2 j) with
    | false => rw [hc] at he; exact ty_find_ok hA hj X (fun f hf => hX f (List.mem_cons_of_mem _ hf)) he
    | true =>
      rw [hc] at he
      cases he
      have c1 := Bool.and_eq_true_iff.mp hc
      have hf := hX f List.mem_cons_self
      obtain ⟨⟨q, i⟩, v⟩ := f
      have eq : q = p := ix_beq.mp c1.1
      subst eq
      rcases i with b | l | r | y
      · obtain ⟨m', m1, m0, m2⟩ := hf.2
        rw [← ty_sj_ok hA c1.2 m1 hj]
        exact m2
      · have c2 : ty_sj A (.inr (.inl l)) j = true := c1.2
        unfold ty_sj at c2
        cases c2
      · have c2 : ty_sj A (.inr (.inr (.inl r))) j = true := c1.2
        unfold ty_sj at c2
        cases c2
      · obtain ⟨m', m1, m0, m2⟩ := hf.2
        rw [← ty_sj_ok hA c1.2 m1 hj]
        exact m2
/-- one more known slot -/
noncomputable def ty_kn (W : ty_W) (f : (Nat × ix_V) × ix_V) : ty_W := (W.1, (W.2.1, (W.2.2.1, (W.2.2.2.1, f :: W.2.2.2.2))))
theorem ty_wk.kn {σ : ty_Sg} {W : ty_W} {n : Nat} {t : ix_T} {f : (Nat × ix_V) × ix_V} (hw : ty_wk h σ W n t) (hf : ty_fok (ty_k h W) σ t f) : ty_wk h σ (ty_kn W f) n t := by
  obtain ⟨h1, h2, h3, h4, h5, h6⟩ := hw
  refine ⟨h1, h2, h3, h4, h5, fun g hg => ?_⟩
  rcases List.mem_cons.mp hg with rfl | hg
  · exact hf
  · exact h6 g hg
theorem ty_fok_int {k : ty_K} {σ : ty_Sg} {t : ix_T} {p m : Nat} {j v : ix_V} (hp : p < k.2.2) (hj : ty_iv k.1 σ.1 j m) (hl : m < (ix_g t (σ.2.2.1 p)).2.1) (hv : ty_rv k σ v (ix_g (ix_g t (σ.2.2.1 p)).2.2 m)) : ty_fok k σ t ((p, j), v) := by
  refine ⟨hp, ?_⟩
  rcases j with b | l | r | y
  · exact ⟨m, hj, hl, hv⟩
  · exact hj.2.elim
  · exact hj.2.elim
  · exact ⟨m, hj, hl, hv⟩
/-- a new reference of a type -/
noncomputable def ty_rf (h : ty_H) (a : Nat) (W : ty_W) : Option (ix_V × ty_W) := cond (Nat.blt W.2.2.1.1 256) (some (.inr (.inr (.inl (Nat.succ (Nat.add h.1 W.2.2.1.1)))), (W.1, (W.2.1, ((Nat.succ W.2.2.1.1, ix_u 8 W.2.2.1.2 W.2.2.1.1 a), W.2.2.2))))) none
theorem ty_rf_ok {σ : ty_Sg} {W W' : ty_W} {n a j : Nat} {t : ix_T} {v : ix_V} (hw : ty_wk h σ W n t) (he : ty_rf h a W = some (v, W')) (hj : j < n) (ha : σ.2.2.2 j = a) : ∃ σ', ty_mo W W' ∧ ty_agr (ty_k h W) σ σ' ∧ ty_wk h σ' W' n t ∧ ty_rv (ty_k h W') σ' v (.inr (.inr (.inl (j + 1)))) ∧ σ'.1 = σ.1 := by
  unfold ty_rf at he
  cases hc : Nat.blt W.2.2.1.1 256 with
  | false => rw [hc] at he; cases he
  | true =>
    rw [hc] at he
    obtain ⟨A, L, R, Q, X⟩ := W
    have hlt : R.1 < 256 := ix_blt.mp hc
    have h2 := Option.some.inj he
    have e1 := congrArg Prod.fst h2
    have e2 := congrArg Prod.snd h2
    dsimp only at e1 e2
    subst e1
    subst e2
    obtain ⟨h1, hl, hh, hr, hq, hx⟩ := hw
    have hm : ty_mo (A, (L, (R, (Q, X)))) (A, (L, ((Nat.succ R.1, ix_u 8 R.2 R.1 a), (Q, X)))) := ⟨Nat.le_refl _, Nat.le_refl _, Nat.le_succ _⟩
    have hg : ty_agr (ty_k h (A, (L, (R, (Q, X))))) σ (σ.1, (σ.2.1, (ty_new σ.2.2.1 (h.1 + R.1) j, σ.2.2.2))) := ⟨ty_ag.rf, ty_ag.rf, ty_new_ag _ _ _ (by have := hh.2.2.2.2.2.1.1; show h.1 + R.1 < 1000; omega), fun _ _ => rfl⟩
    refine ⟨(σ.1, (σ.2.1, (ty_new σ.2.2.1 (h.1 + R.1) j, σ.2.2.2))), hm, hg, ⟨h1, hl, ⟨hh.1, hh.2.1, fun p hp => ?_, hh.2.2.2⟩, ⟨hlt, fun p hp => ?_⟩, hq, fun f hf => (hx f hf).ag hg hm.k⟩, Or.inl ⟨?_, ?_⟩, rfl⟩
    · show ty_new σ.2.2.1 (h.1 + R.1) j p = p
      unfold ty_new
      rw [if_neg (by omega)]
      exact hh.2.2.1 p hp
    · have hp2 : p < R.1 + 1 := hp
      show ty_new σ.2.2.1 (h.1 + R.1) j (h.1 + p) < n ∧ σ.2.2.2 (ty_new σ.2.2.1 (h.1 + R.1) j (h.1 + p)) = ix_g (ix_u 8 R.2 R.1 a) p
      rw [ix_gu 8 R.2 R.1 p a (by show R.1 < 256; omega) (by show p < 256; omega)]
      unfold ty_new
      by_cases e : p = R.1
      · rw [if_pos (by omega), if_pos e]
        exact ⟨hj, ha⟩
      · rw [if_neg (by omega), if_neg e]
        exact hr.2 p (by show p < R.1; omega)
    · show h.1 + R.1 < h.1 + (R.1 + 1)
      omega
    · show _ = Sum.inr (Sum.inr (Sum.inl (ty_new σ.2.2.1 (h.1 + R.1) j (h.1 + R.1) + 1)))
      unfold ty_new
      rw [if_pos rfl]
/-- longs -/
noncomputable def ty_kj (m : Nat) : Nat := Nat.add (Nat.mod (Nat.add m 9223372036854775808) 18446744073709551616) 9223372036854775808
theorem ty_kj_eq (m : Nat) : ty_kj m = (m + 9223372036854775808) % 18446744073709551616 + 9223372036854775808 := rfl
/-- a new long between two numbers -/
noncomputable def ty_fj (lo hi : Nat) (W : ty_W) : Option (ix_V × ty_W) := cond (Nat.blt W.2.1.1 256 && (Nat.ble 9223372036854775808 lo && Nat.blt hi 27670116110564327424)) (some (.inr (.inl (Nat.add 18446744073709551617 W.2.1.1)), (W.1, ((Nat.succ W.2.1.1, ix_u 8 W.2.1.2 W.2.1.1 (lo, hi)), W.2.2)))) none
theorem ty_fj_ok {σ : ty_Sg} {W W' : ty_W} {n lo hi m : Nat} {t : ix_T} {v : ix_V} (hw : ty_wk h σ W n t) (he : ty_fj lo hi W = some (v, W')) (hm : m < 18446744073709551616) (hlo : lo ≤ ty_kj m) (hhi : ty_kj m ≤ hi) : ∃ σ', ty_mo W W' ∧ ty_agr (ty_k h W) σ σ' ∧ ty_wk h σ' W' n t ∧ ty_rv (ty_k h W') σ' v (.inr (.inl m)) ∧ σ'.1 = σ.1 ∧ σ'.2.2.2 = σ.2.2.2 := by
  unfold ty_fj at he
  cases hc : (Nat.blt W.2.1.1 256 && (Nat.ble 9223372036854775808 lo && Nat.blt hi 27670116110564327424)) with
  | false => rw [hc] at he; cases he
  | true =>
    rw [hc] at he
    obtain ⟨A, L, W3⟩ := W
    have c1 := Bool.and_eq_true_iff.mp hc
    have c2 := Bool.and_eq_true_iff.mp c1.2
    have hlt : L.1 < 256 := ix_blt.mp c1.1
    have g1 := ix_ble.mp c2.1
    have g2 := ix_blt.mp c2.2
    have h2 := Option.some.inj he
    have e1 := congrArg Prod.fst h2
    have e2 := congrArg Prod.snd h2
    dsimp only at e1 e2
    subst e1
    subst e2
    obtain ⟨h1, hl, hh, hr, hq, hx⟩ := hw
    have hmo : ty_mo (A, (L, W3)) (A, ((Nat.succ L.1, ix_u 8 L.2 L.1 (lo, hi)), W3)) := ⟨Nat.le_refl _, Nat.le_succ _, Nat.le_refl _⟩
    have hg : ty_agr (ty_k h (A, (L, W3))) σ (σ.1, (ty_new σ.2.1 L.1 (ty_kj m), σ.2.2)) := ⟨ty_ag.rf, ty_new_ag _ _ _ (by show L.1 < 1000; omega), ty_ag.rf, fun _ _ => rfl⟩
    refine ⟨(σ.1, (ty_new σ.2.1 L.1 (ty_kj m), σ.2.2)), hmo, hg, ⟨h1, ⟨hlt, fun x hx => ?_⟩, hh.lg hg.2.1, hr, hq, fun f hf => (hx f hf).ag hg hmo.k⟩, ⟨m, rfl, hm, Or.inr (Or.inr ⟨L.1, Nat.lt_succ_self _, rfl, ?_⟩)⟩, rfl, rfl⟩
    · have hx2 : x < L.1 + 1 := hx
      show 9223372036854775808 ≤ (ix_g (ix_u 8 L.2 L.1 (lo, hi)) x).1 ∧ (ix_g (ix_u 8 L.2 L.1 (lo, hi)) x).1 ≤ ty_new σ.2.1 L.1 (ty_kj m) x ∧ ty_new σ.2.1 L.1 (ty_kj m) x ≤ (ix_g (ix_u 8 L.2 L.1 (lo, hi)) x).2 ∧ (ix_g (ix_u 8 L.2 L.1 (lo, hi)) x).2 < 27670116110564327424
      rw [ix_gu 8 L.2 L.1 x (lo, hi) (by show L.1 < 256; omega) (by show x < 256; omega)]
      unfold ty_new
      by_cases e : x = L.1
      · rw [if_pos e, if_pos e]; exact ⟨g1, hlo, hhi, g2⟩
      · rw [if_neg e, if_neg e]; exact hl.2 x (by show x < L.1; omega)
    · show m = ty_new σ.2.1 L.1 (ty_kj m) L.1 % 18446744073709551616
      unfold ty_new
      rw [if_pos rfl, ty_kj_eq]
      omega
/-- a slot is read by its type: values, and what is known then -/
noncomputable def ty_slt (h : ty_H) (q : Nat × (Nat × Nat)) (p : Nat) (j : ix_V) (W : ty_W) : Option (List (ix_V × ty_W)) :=
  cond (Nat.beq q.1 0) (match ty_fr q.2.1 q.2.2 W.1 with
    | some (v, A) => some [(v, ty_kn (A, W.2) ((p, j), v))]
    | none => none)
  (cond (Nat.beq q.1 1) (match ty_fj 9223372036854775808 27670116110564327423 W with
    | some (v, W') => some [(v, ty_kn W' ((p, j), v))]
    | none => none)
  (cond (Nat.beq q.1 2) (cond (Nat.blt q.2.1 h.1) (some [(.inr (.inr (.inl (Nat.succ q.2.1))), W)]) (match ty_rf h q.2.1 W with
    | some (v, W') => some [(v, ty_kn W' ((p, j), v))]
    | none => none))
  (cond (Nat.beq q.1 3) (match ty_rf h q.2.1 W with
    | some (v, W') => some [(v, ty_kn W' ((p, j), v)), (.inr (.inr (.inl 0)), ty_kn W ((p, j), .inr (.inr (.inl 0))))]
    | none => none) none)))
theorem ty_slt_ok {σ : ty_Sg} {W : ty_W} {n p m : Nat} {t : ix_T} {q : Nat × (Nat × Nat)} {j : ix_V} {outs : List (ix_V × ty_W)} (hw : ty_wk h σ W n t) (he : ty_slt h q p j W = some outs) (hp : p < h.1 + W.2.2.1.1) (hj : ty_iv W.1.1 σ.1 j m) (hl : m < (ix_g t (σ.2.2.1 p)).2.1) (hs : ty_sok σ.2.2.2 n q (ix_g (ix_g t (σ.2.2.1 p)).2.2 m)) : ∃ o ∈ outs, ∃ σ', ty_mo W o.2 ∧ ty_agr (ty_k h W) σ σ' ∧ ty_wk h σ' o.2 n t ∧ ty_rv (ty_k h o.2) σ' o.1 (ix_g (ix_g t (σ.2.2.1 p)).2.2 m) := by
  unfold ty_slt at he
  obtain ⟨kd, a, b⟩ := q
  dsimp only at he
  match kd, hs, he with
  | 0, hs, he =>
    change (match ty_fr a b W.1 with
    | some (v, A) => some [(v, ty_kn (A, W.2) ((p, j), v))]
    | none => none) = some outs at he
    split at he
    · rename_i v A hf
      cases he
      obtain ⟨k, k1, k2, k3, k4⟩ := hs
      obtain ⟨s, s1, s2, s3, s4⟩ := ty_fr_ok hw.1 hf k2 k3 k4
      obtain ⟨B, W2⟩ := W
      obtain ⟨g1, g2, g3⟩ := ty_wk.boxes hw s1 s2 s3
      have hv : ty_rv (ty_k h (A, W2)) (s, σ.2) v (ix_g (ix_g t (σ.2.2.1 p)).2.2 m) := by rw [k1]; exact ty_rv.int s4
      exact ⟨_, List.mem_cons_self, (s, σ.2), g3, g2, g1.kn (ty_fok_int hp (hj.ag s1 s2) hl hv), hv⟩
    · cases he
  | 1, hs, he =>
    change (match ty_fj 9223372036854775808 27670116110564327423 W with
    | some (v, W') => some [(v, ty_kn W' ((p, j), v))]
    | none => none) = some outs at he
    split at he
    · rename_i v W' hf
      cases he
      obtain ⟨k, k1, k2⟩ := hs
      have ek := ty_kj_eq k
      obtain ⟨σ', s1, s2, s3, s4, s5, _⟩ := ty_fj_ok hw hf k2 (by omega) (by omega)
      have ep : σ'.2.2.1 p = σ.2.2.1 p := s2.2.2.1 p (Or.inl hp)
      have hv : ty_rv (ty_k h W') σ' v (ix_g (ix_g t (σ.2.2.1 p)).2.2 m) := by rw [k1]; exact s4
      exact ⟨_, List.mem_cons_self, σ', s1, s2, s3.kn (ty_fok_int (Nat.lt_of_lt_of_le hp (s1.k (h := h)).2.2) (hj.ag s2.1 s1.1) (by rw [ep]; exact hl) (by rw [ep]; exact hv)), hv⟩
    · cases he
  | 2, hs, he =>
    change (cond (Nat.blt a h.1) (some [(.inr (.inr (.inl (Nat.succ a))), W)]) (match ty_rf h a W with
    | some (v, W') => some [(v, ty_kn W' ((p, j), v))]
    | none => none)) = some outs at he
    obtain ⟨k, k1, k2, k3⟩ := hs
    have k3' : σ.2.2.2 k = a := k3
    cases hc : Nat.blt a h.1 with
    | true =>
      rw [hc] at he
      cases he
      have ha := ix_blt.mp hc
      have hk : k = a := by
        have := hw.2.2.1.2.2.2.2.1 k k2
        by_cases q : k < h.1
        · rw [← k3', this.1 q]
        · have := this.2 (by omega); omega
      subst hk
      refine ⟨_, List.mem_cons_self, σ, ty_mo.rf, ty_agr.rf, hw, ?_⟩
      rw [k1]
      refine Or.inl ⟨Nat.lt_of_lt_of_le ha (Nat.le_add_right _ _), ?_⟩
      rw [hw.2.2.1.2.2.1 k ha]
    | false =>
      rw [hc] at he
      dsimp only [cond_false] at he
      split at he
      · rename_i v W' hf
        cases he
        obtain ⟨σ', s1, s2, s3, s4, s5⟩ := ty_rf_ok hw hf k2 k3'
        have ep : σ'.2.2.1 p = σ.2.2.1 p := s2.2.2.1 p (Or.inl hp)
        have hv : ty_rv (ty_k h W') σ' v (ix_g (ix_g t (σ.2.2.1 p)).2.2 m) := by rw [k1]; exact s4
        exact ⟨_, List.mem_cons_self, σ', s1, s2, s3.kn (ty_fok_int (Nat.lt_of_lt_of_le hp (s1.k (h := h)).2.2) (hj.ag s2.1 s1.1) (by rw [ep]; exact hl) (by rw [ep]; exact hv)), hv⟩
      · cases he
  | 3, hs, he =>
    change (match ty_rf h a W with
    | some (v, W') => some [(v, ty_kn W' ((p, j), v)), (.inr (.inr (.inl 0)), ty_kn W ((p, j), .inr (.inr (.inl 0))))]
    | none => none) = some outs at he
    split at he
    · rename_i v W' hf
      cases he
      rcases hs with hs | ⟨k, k1, k2, k3⟩
      · have hv : ty_rv (ty_k h W) σ (.inr (.inr (.inl 0))) (ix_g (ix_g t (σ.2.2.1 p)).2.2 m) := hs
        exact ⟨_, List.mem_cons_of_mem _ List.mem_cons_self, σ, ty_mo.rf, ty_agr.rf, hw.kn (ty_fok_int hp hj hl hv), hv⟩
      · have k3' : σ.2.2.2 k = a := k3
        obtain ⟨σ', s1, s2, s3, s4, s5⟩ := ty_rf_ok hw hf k2 k3'
        have ep : σ'.2.2.1 p = σ.2.2.1 p := s2.2.2.1 p (Or.inl hp)
        have hv : ty_rv (ty_k h W') σ' v (ix_g (ix_g t (σ.2.2.1 p)).2.2 m) := by rw [k1]; exact s4
        exact ⟨_, List.mem_cons_self, σ', s1, s2, s3.kn (ty_fok_int (Nat.lt_of_lt_of_le hp (s1.k (h := h)).2.2) (hj.ag s2.1 s1.1) (by rw [ep]; exact hl) (by rw [ep]; exact hv)), hv⟩
    · cases he
  | kd + 4, hs, he => cases he
end TYH
