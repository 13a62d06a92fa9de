/-! runs of the typed machine: steps, loops -/
section TYN
variable {h : ty_H} {cp : Nat × Nat} {M : ix_M} {d : Nat} {P : ix_Call → ix_P}
noncomputable def ty_no : Nat → ix_Call := fun _ _ _ _ _ _ => none
/-- from a place and a state the plain machine ends so -/
def ty_rn (M : ix_M) (d : Nat) (P : ix_Call → ix_P) (pc : Nat) (C : ty_C) (o : ix_S) : Prop := ∃ f0, ∀ g, f0 ≤ g → ∀ u, f0 ≤ u → ix_loop (P (ix_exec M ty_no g d)) u pc ([], C) = some [o]
/-- what ends from there, ends from here -/
def ty_rt (M : ix_M) (d : Nat) (P : ix_Call → ix_P) (pc : Nat) (C : ty_C) (pc' : Nat) (C' : ty_C) : Prop := ∀ o, ty_rn M d P pc' C' o → ty_rn M d P pc C o
theorem ty_rt.tr {a b c : Nat} {A B C : ty_C} (h1 : ty_rt M d P a A b B) (h2 : ty_rt M d P b B c C) : ty_rt M d P a A c C := fun o ho => h1 o (h2 o ho)
theorem ty_rt_step {pc pc' : Nat} {C C' : ty_C} (hp : ¬ pc = 99999) (hs : ∃ f0, ∀ g, f0 ≤ g → P (ix_exec M ty_no g d) pc ([], C) = some [(pc', ([], C'))]) : ty_rt M d P pc C pc' C' := by
  obtain ⟨f0, h0⟩ := hs
  rintro o ⟨f1, h1⟩
  refine ⟨f0 + f1 + 1, fun g hg u hu => ?_⟩
  obtain ⟨v, rfl⟩ : ∃ v, u = v + 1 := ⟨u - 1, by omega⟩
  rw [ix_loop_succ, ix_beq_f.mpr hp, cond_false, h0 g (by omega)]
  exact h1 g (by omega) v (by omega)
/-- a loop: locals set free with their boxes, facts dropped, the local that rises or falls -/
noncomputable def ty_veq (a b : ix_V) : Bool := match a, b with
  | .inl m, .inl n => Nat.beq m n
  | .inr (.inl m), .inr (.inl n) => Nat.beq m n
  | .inr (.inr (.inl m)), .inr (.inr (.inl n)) => Nat.beq m n
  | .inr (.inr (.inr (x, c))), .inr (.inr (.inr (y, d))) => Nat.beq x y && Nat.beq c d
  | _, _ => false
theorem ty_veq_ok {a b : ix_V} (he : ty_veq a b = true) : a = b := by
  unfold ty_veq at he
  split at he
  · rw [ix_beq.mp he]
  · rw [ix_beq.mp he]
  · rw [ix_beq.mp he]
  · have c := Bool.and_eq_true_iff.mp he
    rw [ix_beq.mp c.1, ix_beq.mp c.2]
  · cases he
noncomputable def ty_feq (f g : (Nat × ix_V) × ix_V) : Bool := Nat.beq f.1.1 g.1.1 && (ty_veq f.1.2 g.1.2 && ty_veq f.2 g.2)
theorem ty_feq_ok {f g : (Nat × ix_V) × ix_V} (he : ty_feq f g = true) : f = g := by
  have c1 := Bool.and_eq_true_iff.mp he
  have c2 := Bool.and_eq_true_iff.mp c1.2
  obtain ⟨⟨p, j⟩, v⟩ := f
  obtain ⟨⟨q, i⟩, w⟩ := g
  have e1 : p = q := ix_beq.mp c1.1
  have e2 : j = i := ty_veq_ok c2.1
  have e3 : v = w := ty_veq_ok c2.2
  rw [e1, e2, e3]
/-- what a value speaks of is there -/
def ty_sc (k : ty_K) (v : ix_V) : Prop := match v with
  | .inl _ => True
  | .inr (.inl q) => ∀ x, q = 18446744073709551617 + x → x < k.2.1
  | .inr (.inr (.inl r)) => (match r with
    | 0 => True
    | p + 1 => p < k.2.2 ∨ 1000000 ≤ p)
  | .inr (.inr (.inr (x, _))) => x < k.1
theorem ty_rv.sc {k : ty_K} {σ : ty_Sg} {v w : ix_V} (hr : ty_rv k σ v w) : ty_sc k v := by
  rcases v with b | q | r | ⟨x, c⟩
  · trivial
  · obtain ⟨m, _, hm⟩ := hr
    intro x hx
    rcases hm.2 with e | e | ⟨y, y1, y2, _⟩
    · omega
    · have := hm.1; omega
    · omega
  · cases r with
    | zero => trivial
    | succ p =>
      rcases hr with hr | hr
      · exact Or.inl hr.1
      · exact Or.inr hr.1
  · obtain ⟨n, _, hn⟩ := hr
    exact hn.2.1
theorem ty_iv.sc {k : ty_K} {σ : Nat → Nat} {v : ix_V} {n : Nat} (hr : ty_iv k.1 σ v n) : ty_sc k v := by
  rcases v with b | q | r | ⟨x, c⟩
  · trivial
  · exact hr.2.elim
  · exact hr.2.elim
  · exact hr.2.1
theorem ty_iv.dn {k k' : ty_K} {σ σ' : Nat → Nat} {v : ix_V} {n : Nat} (hr : ty_iv k'.1 σ' v n) (hs : ty_sc k v) (ha : ty_ag k.1 σ σ') : ty_iv k.1 σ v n := by
  rcases v with b | q | r | ⟨x, c⟩
  · exact hr
  · exact hr
  · exact hr
  · refine ⟨hr.1, hs, ?_⟩
    rw [← ha x (Or.inl hs)]
    exact hr.2.2
theorem ty_rv.dn {k k' : ty_K} {σ σ' : ty_Sg} {v w : ix_V} (hr : ty_rv k' σ' v w) (hs : ty_sc k v) (ha : ty_agr k σ σ') (h6 : k.2.2 ≤ 1000000) (h7 : k'.2.2 ≤ 1000000) : ty_rv k σ v w := by
  rcases v with b | q | r | ⟨x, c⟩
  · obtain ⟨n, e, hn⟩ := hr
    exact ⟨n, e, hn⟩
  · obtain ⟨m, e, hm⟩ := hr
    refine ⟨m, e, hm.1, ?_⟩
    rcases hm.2 with e | e | ⟨y, y1, y2, y3⟩
    · exact Or.inl e
    · exact Or.inr (Or.inl e)
    · exact Or.inr (Or.inr ⟨y, hs y y2, y2, by rw [← ha.2.1 y (Or.inl (hs y y2))]; exact y3⟩)
  · cases r with
    | zero => exact hr
    | succ p =>
      rcases hr with hr | hr
      · rcases hs with hs | hs
        · refine Or.inl ⟨hs, ?_⟩
          rw [← ha.2.2.1 p (Or.inl hs)]
          exact hr.2
        · have := hr.1; omega
      · exact Or.inr hr
  · obtain ⟨n, e, hn⟩ := hr
    exact ⟨n, e, ty_iv.dn hn hs ha.1⟩
theorem ty_fok.dn {k k' : ty_K} {σ σ' σ0 : ty_Sg} {t t0 : ix_T} {f : (Nat × ix_V) × ix_V} (hf : ty_fok k' σ' t f) (h0 : ty_fok k σ0 t0 f) (ha : ty_agr k σ σ') (h6 : k.2.2 ≤ 1000000) (h7 : k'.2.2 ≤ 1000000) : ty_fok k σ t f := by
  obtain ⟨⟨p, j⟩, v⟩ := f
  obtain ⟨z1, z2⟩ := h0
  obtain ⟨h1, h2⟩ := hf
  have ep : σ'.2.2.1 p = σ.2.2.1 p := ha.2.2.1 p (Or.inl z1)
  refine ⟨z1, ?_⟩
  rcases j with b | q | r | q
  · obtain ⟨m, m1, m0, m2⟩ := h2
    obtain ⟨_, i1, _, i2⟩ := z2
    dsimp only at m0 m2 ⊢
    rw [ep] at m0 m2
    exact ⟨m, m1, m0, m2.dn i2.sc ha h6 h7⟩
  · obtain ⟨m, m1, m2⟩ := h2
    obtain ⟨_, i1, _⟩ := z2
    exact ⟨m, ty_iv.dn m1 (ty_iv.sc i1) ha.1, m2.ga ha.2.1⟩
  · show ty_iv k.1 σ.1 v (ix_g t (σ.2.2.1 p)).2.1
    rw [← ep]
    exact ty_iv.dn h2 (ty_iv.sc z2) ha.1
  · obtain ⟨m, m1, m0, m2⟩ := h2
    obtain ⟨_, i1, _, i2⟩ := z2
    dsimp only at m0 m2 ⊢
    rw [ep] at m0 m2
    exact ⟨m, ty_iv.dn m1 (ty_iv.sc i1) ha.1, m0, m2.dn i2.sc ha h6 h7⟩
/-- locals set free -/
noncomputable def ty_gl : List (Nat × (Nat × Nat)) → ty_A → ix_L → Option (ty_A × ix_L)
  | [], A, L => some (A, L)
  | q :: l, A, L => (match L[q.1]? with
    | some (some v) => cond (ty_isI v) (cond (Nat.blt A.1 256 && (Nat.ble 2147483648 q.2.1 && Nat.blt q.2.2 6442450944)) (ty_gl l (Nat.succ A.1, ix_u 8 A.2 A.1 q.2) (L.set q.1 (some (.inr (.inr (.inr (A.1, 4294967296))))))) none) (cond (ix_isLong v) (ty_gl l A (L.set q.1 (some (.inr (.inl 0))))) none)
    | _ => none)
/-- a value that may stand for a local that is set free -/
def ty_fit (q : Nat × (Nat × Nat)) (v : ix_V) (w : ix_V) : Prop := (ty_isI v = true → ∃ m, w = .inl m ∧ m < 4294967296 ∧ q.2.1 ≤ ty_kp m ∧ ty_kp m ≤ q.2.2) ∧ (ix_isLong v = true → ∃ m, w = .inr (.inl m) ∧ m < 18446744073709551616 ∧ q.2.1 ≤ ty_kj m ∧ ty_kj m ≤ q.2.2)
theorem ty_gl_ok {k2 : Nat × Nat} {s : (Nat → Nat) × ((Nat → Nat) × (Nat → Nat))} {ls : ix_L} : ∀ (l : List (Nat × (Nat × Nat))) (A A' : ty_A) (L L' : ix_L) (σ : Nat → Nat), ty_gl l A L = some (A', L') → ty_bx σ A → L.length = ls.length → (∀ (i : Nat) (v : ix_V), L[i]? = some (some v) → ∃ w, ls[i]? = some (some w) ∧ ((∃ q ∈ l, q.1 = i) ∨ ty_rv (A.1, k2) (σ, s) v w)) → (∀ q ∈ l, ∀ v, L[q.1]? = some (some v) → ∀ w, ls[q.1]? = some (some w) → ty_fit q v w) → (l.map (fun q => q.1)).Nodup → ∃ σ', ty_ag A.1 σ σ' ∧ A.1 ≤ A'.1 ∧ ty_bx σ' A' ∧ ty_lv (A'.1, k2) (σ', s) L' ls
  | [], A, A', L, L', σ, he, hA, hl, hL, hf, hn => by
    cases he
    exact ⟨σ, ty_ag.rf, Nat.le_refl _, hA, hl, fun i v hv => by
      obtain ⟨w, w1, w2⟩ := hL i v hv
      rcases w2 with ⟨q, hq, _⟩ | w2
      · cases hq
      · exact ⟨w, w1, w2⟩⟩
  | q :: l, A, A', L, L', σ, he, hA, hl, hL, hf, hn => by
    have hn2 := List.nodup_cons.mp (show (q.1 :: l.map (fun q => q.1)).Nodup from hn)
    change (match L[q.1]? with
    | some (some v) => cond (ty_isI v) (cond (Nat.blt A.1 256 && (Nat.ble 2147483648 q.2.1 && Nat.blt q.2.2 6442450944)) (ty_gl l (Nat.succ A.1, ix_u 8 A.2 A.1 q.2) (L.set q.1 (some (.inr (.inr (.inr (A.1, 4294967296))))))) none) (cond (ix_isLong v) (ty_gl l A (L.set q.1 (some (.inr (.inl 0))))) none)
    | _ => none) = some (A', L') at he
    split at he
    · rename_i v hv
      obtain ⟨w, w1, _⟩ := hL q.1 v hv
      have hfit := hf q List.mem_cons_self v hv w w1
      have hne : ∀ r ∈ l, ¬ r.1 = q.1 := fun r hr e => hn2.1 (List.mem_map.mpr ⟨r, hr, e⟩)
      cases hI : ty_isI v with
      | true =>
        rw [hI] at he
        dsimp only [cond_true] at he
        cases hc : (Nat.blt A.1 256 && (Nat.ble 2147483648 q.2.1 && Nat.blt q.2.2 6442450944)) with
        | false => rw [hc] at he; cases he
        | true =>
          rw [hc] at he
          dsimp only [cond_true] at he
          have c1 := Bool.and_eq_true_iff.mp hc
          have c2 := Bool.and_eq_true_iff.mp c1.2
          obtain ⟨m, rfl, m1, m2, m3⟩ := hfit.1 hI
          have hb := ty_bx_push (lo := q.2.1) (hi := q.2.2) (b := ty_kp m) hA (ix_blt.mp c1.1) (ix_ble.mp c2.1) m2 m3 (ix_blt.mp c2.2)
          have hag : ty_ag A.1 σ (ty_new σ A.1 (ty_kp m)) := ty_new_ag _ _ _ (by have := ix_blt.mp c1.1; omega)
          obtain ⟨σ', s1, s2, s3, s4⟩ := ty_gl_ok (k2 := k2) (s := s) (ls := ls) l _ A' _ L' (ty_new σ A.1 (ty_kp m)) he hb (by rw [List.length_set]; exact hl) (fun i u hu => by
            by_cases e : q.1 = i
            · subst e
              rw [List.getElem?_set] at hu
              simp only [if_true] at hu
              split at hu
              · cases hu
                refine ⟨_, w1, Or.inr ⟨m, rfl, m1, Nat.lt_succ_self _, ?_⟩⟩
                show m = (ty_new σ A.1 (ty_kp m) A.1 + 4294967296) % 4294967296
                unfold ty_new
                rw [if_pos rfl, Nat.add_mod_right, ty_kp_mod m1]
              · cases hu
            · rw [List.getElem?_set_ne e] at hu
              obtain ⟨y, y1, y2⟩ := hL i u hu
              refine ⟨y, y1, ?_⟩
              rcases y2 with ⟨r, hr, er⟩ | y2
              · rcases List.mem_cons.mp hr with rfl | hr
                · exact absurd er e
                · exact Or.inl ⟨r, hr, er⟩
              · exact Or.inr (y2.ag (k' := (Nat.succ A.1, k2)) ⟨hag, ty_ag.rf, ty_ag.rf, fun _ _ => rfl⟩ ⟨Nat.le_succ _, Nat.le_refl _, Nat.le_refl _⟩)) (fun r hr u hu y hy => by
            rw [List.getElem?_set_ne (fun e => hne r hr e.symm)] at hu
            exact hf r (List.mem_cons_of_mem _ hr) u hu y hy) hn2.2
          exact ⟨σ', hag.tr s1 (Nat.le_succ _), Nat.le_trans (Nat.le_succ _) s2, s3, s4⟩
      | false =>
        rw [hI] at he
        dsimp only [cond_false] at he
        cases hJ : ix_isLong v with
        | false => rw [hJ] at he; cases he
        | true =>
          rw [hJ] at he
          dsimp only [cond_true] at he
          obtain ⟨m, rfl, m1, _⟩ := hfit.2 hJ
          exact ty_gl_ok (k2 := k2) (s := s) (ls := ls) l A A' _ L' σ he hA (by rw [List.length_set]; exact hl) (fun i u hu => by
            by_cases e : q.1 = i
            · subst e
              rw [List.getElem?_set] at hu
              simp only [if_true] at hu
              split at hu
              · cases hu
                exact ⟨_, w1, Or.inr ⟨m, rfl, m1, Or.inl rfl⟩⟩
              · cases hu
            · rw [List.getElem?_set_ne e] at hu
              obtain ⟨y, y1, y2⟩ := hL i u hu
              refine ⟨y, y1, ?_⟩
              rcases y2 with ⟨r, hr, er⟩ | y2
              · rcases List.mem_cons.mp hr with rfl | hr
                · exact absurd er e
                · exact Or.inl ⟨r, hr, er⟩
              · exact Or.inr y2) (fun r hr u hu y hy => by
            rw [List.getElem?_set_ne (fun e => hne r hr e.symm)] at hu
            exact hf r (List.mem_cons_of_mem _ hr) u hu y hy) hn2.2
    · cases he
end TYN
