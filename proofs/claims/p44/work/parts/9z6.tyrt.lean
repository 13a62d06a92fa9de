/-! an object that is finished gets its type -/
section TYRT
variable {h : ty_H} {cp : Nat × Nat} {pc : Nat}
noncomputable def ty_n240 (q : Nat × (Nat × Nat)) : Bool := Nat.blt q.2.1 240 || !(Nat.beq q.1 2 || Nat.beq q.1 3)
theorem ty_sok.rt {Γ : Nat → Nat} {n j b : Nat} {q : Nat × (Nat × Nat)} {v : ix_V} (hs : ty_sok Γ n q v) (hq : ty_n240 q = true) (hj : 240 ≤ Γ j) : ty_sok (ty_new Γ j b) n q v := by
  obtain ⟨k, lo, hi⟩ := q
  unfold ty_sok at hs ⊢
  dsimp only at hs ⊢
  split at hs
  · exact hs
  · exact hs
  · obtain ⟨i, j1, j2, j3⟩ := hs
    have hlt : lo < 240 := by
      rcases (Bool.or_eq_true _ _).mp hq with z | z
      · exact ix_blt.mp z
      · cases z
    exact ⟨i, j1, j2, by unfold ty_new; rw [if_neg (fun e => by subst e; omega)]; exact j3⟩
  · rcases hs with hs | ⟨i, j1, j2, j3⟩
    · exact Or.inl hs
    · have hlt : lo < 240 := by
        rcases (Bool.or_eq_true _ _).mp hq with z | z
        · exact ix_blt.mp z
        · cases z
      exact Or.inr ⟨i, j1, j2, by unfold ty_new; rw [if_neg (fun e => by subst e; omega)]; exact j3⟩
  · trivial
/-- the fields below k are known and fit -/
noncomputable def ty_rtf (h : ty_H) (W : ty_W) (p : Nat) (F : Lean.RArray (Nat × (Nat × Nat))) (k : Nat) : Bool :=
  Nat.rec (motive := fun _ => Bool) true (fun i ih => (match ty_find W.1 p (.inl (Nat.add 4294967296 i)) W.2.2.2.2 with
    | some v => ty_vok h W (ix_g F i) v
    | none => false) && ih) k
theorem ty_rtf_ok {W : ty_W} {p : Nat} {F : Lean.RArray (Nat × (Nat × Nat))} : ∀ (k i : Nat), ty_rtf h W p F k = true → i < k → ∃ v, ty_find W.1 p (.inl (Nat.add 4294967296 i)) W.2.2.2.2 = some v ∧ ty_vok h W (ix_g F i) v = true
  | 0, i, _, hi => by omega
  | k + 1, i, he, hi => by
    have c := Bool.and_eq_true_iff.mp (show ((match ty_find W.1 p (.inl (Nat.add 4294967296 k)) W.2.2.2.2 with
    | some v => ty_vok h W (ix_g F k) v
    | none => false) && ty_rtf h W p F k) = true from he)
    by_cases e : i = k
    · subst e
      have c1 := c.1
      split at c1
      · rename_i v hv
        exact ⟨v, hv, c1⟩
      · cases c1
    · exact ty_rtf_ok k i c.2 (by omega)
/-- no other name has such a type -/
noncomputable def ty_nms (R : Lean.RArray Nat) (p a : Nat) (k : Nat) : Bool :=
  Nat.rec (motive := fun _ => Bool) true (fun i ih => (Nat.beq i p || !(Nat.beq (ix_g R i) a)) && ih) k
theorem ty_nms_ok {R : Lean.RArray Nat} {p a : Nat} : ∀ (k i : Nat), ty_nms R p a k = true → i < k → ¬ i = p → ¬ ix_g R i = a
  | 0, i, _, hi, _ => by omega
  | k + 1, i, he, hi, hp => by
    have c := Bool.and_eq_true_iff.mp (show ((Nat.beq k p || !(Nat.beq (ix_g R k) a)) && ty_nms R p a k) = true from he)
    by_cases e : i = k
    · subst e
      rcases (Bool.or_eq_true _ _).mp c.1 with z | z
      · exact absurd (ix_beq.mp z) hp
      · intro e2
        rw [ix_beq.mpr e2] at z
        cases z
    · exact ty_nms_ok k i c.2 (by omega) hp
noncomputable def ty_rtc (h : ty_H) (a b : Nat) (W : ty_W) (p : Nat) : Bool := Nat.blt p (Nat.add h.1 W.2.2.1.1) && (Nat.ble h.1 p && (Nat.beq (ty_ty h W p) a && (Nat.ble 240 a && (Nat.ble 114 b && (Nat.beq (h.2 b).1 (h.2 a).1 && (Nat.ble 100 (h.2 a).1 && (Nat.ble (h.2 b).2.1 (h.2 a).2.1 && (Nat.ble (h.2 a).2.2.1 (h.2 b).2.2.1 && (Nat.ble (h.2 a).2.2.1 64 && (ty_rtf h W p (h.2 b).2.2.2.1 (h.2 a).2.2.1 && ty_nms W.2.2.1.2 (Nat.sub p h.1) a W.2.2.1.1))))))))))
noncomputable def ty_rtw (h : ty_H) (b : Nat) (W : ty_W) (p : Nat) : ty_W := (W.1, (W.2.1, ((W.2.2.1.1, ix_u 8 W.2.2.1.2 (Nat.sub p h.1) b), W.2.2.2)))
theorem ty_rt_ok {σ : ty_Sg} {W : ty_W} {n a b p : Nat} {t : ix_T} (hd : ∀ i k, ty_n240 (ix_g (h.2 i).2.2.2.1 k) = true) (hw : ty_wk h σ W n t) (he : ty_rtc h a b W p = true) : ∃ σ', ty_mo W (ty_rtw h b W p) ∧ ty_agr (ty_k h W) σ σ' ∧ ty_wk h σ' (ty_rtw h b W p) n t := by
  have c1 := Bool.and_eq_true_iff.mp he
  have c2 := Bool.and_eq_true_iff.mp c1.2
  have c3 := Bool.and_eq_true_iff.mp c2.2
  have c4 := Bool.and_eq_true_iff.mp c3.2
  have c5 := Bool.and_eq_true_iff.mp c4.2
  have c6 := Bool.and_eq_true_iff.mp c5.2
  have c7 := Bool.and_eq_true_iff.mp c6.2
  have c8 := Bool.and_eq_true_iff.mp c7.2
  have c9 := Bool.and_eq_true_iff.mp c8.2
  have c10 := Bool.and_eq_true_iff.mp c9.2
  have c11 := Bool.and_eq_true_iff.mp c10.2
  have hp : p < h.1 + W.2.2.1.1 := ix_blt.mp c1.1
  have hp0 : h.1 ≤ p := ix_ble.mp c2.1
  have eta : ty_ty h W p = a := ix_beq.mp c3.1
  have ha : 240 ≤ a := ix_ble.mp c4.1
  have hb : 114 ≤ b := ix_ble.mp c5.1
  have ekd : (h.2 b).1 = (h.2 a).1 := ix_beq.mp c6.1
  have h100 : 100 ≤ (h.2 a).1 := ix_ble.mp c7.1
  have hmn : (h.2 b).2.1 ≤ (h.2 a).2.1 := ix_ble.mp c8.1
  have hmx : (h.2 a).2.2.1 ≤ (h.2 b).2.2.1 := ix_ble.mp c9.1
  have h64 : (h.2 a).2.2.1 ≤ 64 := ix_ble.mp c10.1
  obtain ⟨hn, hty⟩ := ty_ty_ok hw hp
  have hΓ : σ.2.2.2 (σ.2.2.1 p) = a := hty.trans eta
  have hj : 240 ≤ σ.2.2.2 (σ.2.2.1 p) := by omega
  have hw0 := hw
  obtain ⟨h1, hl, hh, hr, hq, hx⟩ := hw
  obtain ⟨b1, b2, b3, b4, b5, b6, b7, b8⟩ := hh
  have h114 : h.1 = 114 := b6.1
  have hcell : 114 ≤ σ.2.2.1 p := Nat.le_of_not_lt fun q => by
    have := (b5 _ hn).1 (by omega)
    omega
  have hag : ty_agr (ty_k h W) σ (σ.1, (σ.2.1, (σ.2.2.1, ty_new σ.2.2.2 (σ.2.2.1 p) b))) := ⟨ty_ag.rf, ty_ag.rf, ty_ag.rf, fun i hi => by
    show ty_new σ.2.2.2 (σ.2.2.1 p) b i = σ.2.2.2 i
    unfold ty_new
    rw [if_neg (fun e => by subst e; omega)]⟩
  have hm : ty_mo W (ty_rtw h b W p) := ⟨Nat.le_refl _, Nat.le_refl _, Nat.le_refl _⟩
  refine ⟨_, hm, hag, h1, hl, ⟨b1, b2, b3, fun i hi => ?_, fun i hi => ?_, b6, b7, fun i hi => ?_⟩, ⟨hr.1, fun q hqn => ?_⟩, hq, fun f hf => (hx f hf).ag hag hm.k⟩
  · show ty_cok (ty_new σ.2.2.2 (σ.2.2.1 p) b) n (h.2 (ty_new σ.2.2.2 (σ.2.2.1 p) b i)) (ix_g t i)
    by_cases e : i = σ.2.2.1 p
    · subst e
      have e2 : ty_new σ.2.2.2 (σ.2.2.1 p) b (σ.2.2.1 p) = b := if_pos rfl
      rw [e2]
      have z := b4 _ hn
      rw [hΓ] at z
      obtain ⟨z1, z2, z3, z4⟩ := z
      refine ⟨z1.trans ekd.symm, by omega, by omega, fun k hk => ⟨fun _ => ?_, fun q => absurd q (by omega), fun q => absurd q (by omega)⟩⟩
      obtain ⟨v, v1, v2⟩ := ty_rtf_ok _ k c11.1 (by omega)
      have hjv : ty_iv W.1.1 σ.1 (.inl (Nat.add 4294967296 k)) k := ty_ivk (by omega)
      have hv := ty_find_ok (k2 := (W.2.1.1, h.1 + W.2.2.1.1)) h1 hjv W.2.2.2.2 hx v1
      exact (ty_vok_ok hw0 hv v2).rt (hd _ _) hj
    · have e2 : ty_new σ.2.2.2 (σ.2.2.1 p) b i = σ.2.2.2 i := if_neg e
      rw [e2]
      have z := b4 i hi
      exact ⟨z.1, z.2.1, z.2.2.1, fun k hk => ⟨fun q => ((z.2.2.2 k hk).1 q).rt (hd _ _) hj, fun q => ((z.2.2.2 k hk).2.1 q).rt (hd _ _) hj, (z.2.2.2 k hk).2.2⟩⟩
  · show (i < h.1 → ty_new σ.2.2.2 (σ.2.2.1 p) b i = i) ∧ (h.1 ≤ i → h.1 ≤ ty_new σ.2.2.2 (σ.2.2.1 p) b i)
    unfold ty_new
    by_cases e : i = σ.2.2.1 p
    · rw [if_pos e]
      exact ⟨fun q => by omega, fun _ => by omega⟩
    · rw [if_neg e]
      exact b5 i hi
  · show ty_new σ.2.2.2 (σ.2.2.1 p) b i = 255
    unfold ty_new
    rw [if_neg (by omega)]
    exact b8 i hi
  · have hqn : q < W.2.2.1.1 := hqn
    have z := hr.2 q hqn
    have r256 : W.2.2.1.1 ≤ 256 := hr.1
    refine ⟨z.1, ?_⟩
    show ty_new σ.2.2.2 (σ.2.2.1 p) b (σ.2.2.1 (h.1 + q)) = ix_g (ix_u 8 W.2.2.1.2 (Nat.sub p h.1) b) q
    have hs : Nat.sub p h.1 = p - h.1 := rfl
    rw [hs, ix_gu 8 W.2.2.1.2 (p - h.1) q b (by show p - h.1 < 256; omega) (by show q < 256; omega)]
    unfold ty_new
    by_cases e : q = p - h.1
    · rw [if_pos e, if_pos (by rw [e, show h.1 + (p - h.1) = p by omega])]
    · have ne := ty_nms_ok _ q c11.2 hqn e
      rw [if_neg e, if_neg (fun e3 => ne (by rw [← z.2, e3]; exact hΓ))]
      exact z.2
/-- where such an object lies on the stack, it gets its type; else the row's own step -/
noncomputable def ty_rtq (h : ty_H) (a b pc : Nat) (f : ty_S → ty_R) (S : ty_S) : ty_R := match S.2.2.1 with
  | .inr (.inr (.inl r)) :: _ => cond (Nat.blt 0 r && ty_rtc h a b S.1 (Nat.pred r)) (some [(pc, (ty_rtw h b S.1 (Nat.pred r), S.2))]) (f S)
  | _ => f S
theorem ts_rtq {a b : Nat} {P : Nat → ix_S → ix_R} {f : ty_S → ty_R} (hd : ∀ i k, ty_n240 (ix_g (h.2 i).2.2.2.1 k) = true) (hf : ty_sd h cp pc P f) : ty_sd h cp pc P (ty_rtq h a b pc f) := by
  intro S outs hs σ C hi
  unfold ty_rtq at hs
  split at hs
  · rename_i r _ est
    cases hc : (Nat.blt 0 r && ty_rtc h a b S.1 (Nat.pred r)) with
    | false => rw [hc] at hs; exact hf S outs hs σ C hi
    | true =>
      rw [hc, cond_true] at hs
      cases hs
      obtain ⟨σ', s1, s2, s3⟩ := ty_rt_ok hd hi.1 (Bool.and_eq_true_iff.mp hc).2
      exact ⟨_, List.mem_cons_self, σ', C, s1, s2, ⟨s3, hi.2.1.ag s2 s1.k, hi.2.2.1.ag s2 s1.k, hi.2.2.2⟩, Or.inl ⟨rfl, rfl⟩⟩
  · exact hf S outs hs σ C hi
end TYRT
