/-! runs of the typed machine through loops -/
section TYO
variable {h : ty_H} {cp : Nat × Nat} {M : ix_M} {d : Nat} {P : ix_Call → ix_P}
noncomputable def ty_app (a b : ty_R) : ty_R := match a with
  | none => none
  | some x => match b with
    | none => none
    | some y => some (x ++ y)
theorem ty_app_mem {a b : ty_R} {r : List (Nat × ty_S)} (he : ty_app a b = some r) : ∃ x y, a = some x ∧ b = some y ∧ r = x ++ y := by
  unfold ty_app at he
  split at he
  · cases he
  · rename_i x
    split at he
    · cases he
    · rename_i y
      cases he
      exact ⟨x, y, rfl, rfl, rfl⟩
theorem ty_fold_mem {f : Nat × ty_S → ty_R} : ∀ (l r : List (Nat × ty_S)), l.foldr (fun o acc => ty_app (f o) acc) (some []) = some r → ∀ o ∈ l, ∃ x, f o = some x ∧ ∀ q ∈ x, q ∈ r
  | [], r, he, o, ho => by cases ho
  | p :: l, r, he, o, ho => by
    obtain ⟨x, y, h1, h2, rfl⟩ := ty_app_mem he
    rcases List.mem_cons.mp ho with rfl | ho
    · exact ⟨x, h1, fun q hq => List.mem_append.mpr (Or.inl hq)⟩
    · obtain ⟨z, z1, z2⟩ := ty_fold_mem l y h2 o ho
      exact ⟨z, z1, fun q hq => List.mem_append.mpr (Or.inr (z2 q hq))⟩
/-- a label that isn't for good -/
noncomputable def ty_nst (v : ix_V) : Bool := match v with
  | .inr (.inl q) => !(Nat.beq (Nat.mod q 4) 2)
  | _ => false
noncomputable def ty_dr (ds : List (Nat × Nat)) (X : ty_X) : ty_X := X.filter (fun f => !(ds.any (fun q => Nat.beq q.1 f.1.1 && (Nat.beq q.2 0 || (ty_veq f.1.2 (.inl q.2) || (Nat.beq q.2 1 && ty_nst f.1.2))))))
noncomputable def ty_fitv (A Lg : ty_A) (q : Nat × (Nat × Nat)) (v : ix_V) : Bool := (!(ty_isI v) || (Nat.ble q.2.1 (ty_rng A v).1 && Nat.ble (ty_rng A v).2 q.2.2)) && (match v with
  | .inr (.inl j) => Nat.ble q.2.1 (ty_jr Lg j).1 && Nat.ble (ty_jr Lg j).2 q.2.2
  | _ => true)
noncomputable def ty_ndb : List (Nat × (Nat × Nat)) → Bool
  | [] => true
  | q :: l => !(l.any (fun r => Nat.beq r.1 q.1)) && ty_ndb l
theorem ty_ndb_ok : ∀ (l : List (Nat × (Nat × Nat))), ty_ndb l = true → (l.map (fun q => q.1)).Nodup
  | [], _ => List.nodup_nil
  | q :: l, he => by
    have c := Bool.and_eq_true_iff.mp (show (!(l.any (fun r => Nat.beq r.1 q.1)) && ty_ndb l) = true from he)
    refine List.nodup_cons.mpr ⟨fun hm => ?_, ty_ndb_ok l c.2⟩
    obtain ⟨r, r1, r2⟩ := List.mem_map.mp hm
    have : l.any (fun r => Nat.beq r.1 q.1) = true := List.any_eq_true.mpr ⟨r, r1, ix_beq.mpr r2⟩
    rw [this] at c
    cases c.1
/-- slots of known cells: cell, place, between what, label and one (0: none) -/
abbrev ty_V : Type := List (Nat × (Nat × (Nat × (Nat × Nat))))
/-- a loop: locals set free with their boxes, facts dropped, what rises or falls, slots set free, what lies below what -/
abbrev ty_L : Type := List (Nat × (Nat × Nat)) × (List (Nat × Nat) × ((Nat × Bool) × (ty_V × List (Nat × (Nat × Nat)))))
/-- a value by its number: a local, or 1000 and a slot's number -/
noncomputable def ty_ref (W : ty_W) (L : ix_L) (V : ty_V) (r : Nat) : Option ix_V := cond (Nat.blt r 1000) (match L[r]? with
  | some (some v) => some v
  | _ => none) (match V[Nat.sub r 1000]? with
  | some e => cond (Nat.blt e.1 114 && Nat.blt e.2.1 2147483648) (ty_find W.1 e.1 (.inl (Nat.add 4294967296 e.2.1)) W.2.2.2.2) none
  | none => none)
noncomputable def ty_pref (C : ty_C) (V : ty_V) (r : Nat) : Option Nat := cond (Nat.blt r 1000) (match C.1[r]? with
  | some (some (.inl n)) => some n
  | _ => none) (match V[Nat.sub r 1000]? with
  | some e => (match ix_g (ix_g C.2.2.2.1 e.1).2.2 e.2.1 with
    | .inl n => some n
    | _ => none)
  | none => none)
/-- as above; from 2000 on a slot's value at the first arrival -/
noncomputable def ty_rfb (S : ty_S) (W : ty_W) (L : ix_L) (V : ty_V) (r : Nat) : Option ix_V := cond (Nat.blt r 2000) (ty_ref W L V r) (ty_ref S.1 S.2.1 V (Nat.sub r 1000))
noncomputable def ty_prb (C0 C : ty_C) (V : ty_V) (r : Nat) : Option Nat := cond (Nat.blt r 2000) (ty_pref C V r) (ty_pref C0 V (Nat.sub r 1000))
/-- the slots, and what lies below what, are so -/
noncomputable def ty_chv (h : ty_H) (W : ty_W) (e : Nat × (Nat × (Nat × (Nat × Nat)))) : Bool := Nat.blt e.1 114 && (Nat.blt e.2.1 2147483648 && (match ty_find W.1 e.1 (.inl (Nat.add 4294967296 e.2.1)) W.2.2.2.2 with
  | some v => ty_isI v && (Nat.ble e.2.2.1 (ty_rng W.1 v).1 && (Nat.ble (ty_rng W.1 v).2 e.2.2.2.1 && (Nat.beq e.2.2.2.2 0 || ty_lbl W (Nat.pred e.2.2.2.2) v)))
  | none => Nat.blt e.2.1 (h.2 e.1).2.1 && (match ix_g (h.2 e.1).2.2.2.1 (cond (Nat.ble 100 (h.2 e.1).1) e.2.1 0) with
    | (k, l, u) => Nat.beq k 0 && (Nat.ble e.2.2.1 l && (Nat.ble u e.2.2.2.1 && Nat.beq e.2.2.2.2 0)))))
/-- one lies below another by so much; from 1000000 on: it lies above it by no more than so much -/
noncomputable def ty_lex (A : ty_A) (Q : ty_Q) (a b : ix_V) (c : Nat) : Bool := cond (Nat.blt c 1000000) (ty_le A Q a b c) (Nat.ble (ty_rng A a).2 (Nat.add (ty_rng A b).1 (Nat.sub c 1000000)))
def ty_rsm (c a b : Nat) : Prop := (c < 1000000 → a + c ≤ b) ∧ (1000000 ≤ c → a ≤ b + (c - 1000000))
theorem ty_lex_ok {σ : Nat → Nat} {A : ty_A} {Q : ty_Q} {c m n : Nat} {a b : ix_V} (hA : ty_bx σ A) (hQ : ∀ q ∈ Q, q.1 < A.1 ∧ q.2.2 < A.1 ∧ σ q.1 + q.2.1 ≤ σ q.2.2 + 4294967296) (ha : ty_iv A.1 σ a m) (hb : ty_iv A.1 σ b n) (he : ty_lex A Q a b c = true) : ty_rsm c (ty_kp m) (ty_kp n) := by
  unfold ty_lex at he
  cases hc : Nat.blt c 1000000 with
  | true =>
    rw [hc, cond_true] at he
    have h1 := ix_blt.mp hc
    exact ⟨fun _ => ty_le_ok hA hQ ha hb he, fun h2 => by omega⟩
  | false =>
    rw [hc, cond_false] at he
    have h1 : ¬ c < 1000000 := fun h => by rw [ix_blt.mpr h] at hc; cases hc
    have e1 : (ty_rng A a).2 ≤ (ty_rng A b).1 + (c - 1000000) := ix_ble.mp he
    have r1 := ty_rng_ok hA ha
    have r2 := ty_rng_ok hA hb
    exact ⟨fun h2 => by omega, fun _ => by omega⟩
noncomputable def ty_qan (A : ty_A) (a b : ix_V) (j : Nat) (Q : ty_Q) : ty_Q := match ty_sy A a, ty_sy A b with
  | some (x, c), some (y, d) => cond (Nat.beq x y) Q (cond (Nat.ble (Nat.add d j) (Nat.add c 4294967296)) ((x, (Nat.sub (Nat.add c 4294967296) (Nat.add d j), y)) :: Q) Q)
  | _, _ => Q
theorem ty_qan_ok {σ : Nat → Nat} {A : ty_A} {a b : ix_V} {m n j : Nat} {Q : ty_Q} (hA : ty_bx σ A) (ia : ty_iv A.1 σ a m) (ib : ty_iv A.1 σ b n) (hj : ty_kp m ≤ ty_kp n + j) (hQ : ∀ q ∈ Q, q.1 < A.1 ∧ q.2.2 < A.1 ∧ σ q.1 + q.2.1 ≤ σ q.2.2 + 4294967296) : ∀ q ∈ ty_qan A a b j Q, q.1 < A.1 ∧ q.2.2 < A.1 ∧ σ q.1 + q.2.1 ≤ σ q.2.2 + 4294967296 := by
  unfold ty_qan
  cases ea : ty_sy A a with
  | none => exact hQ
  | some qa =>
    cases eb : ty_sy A b with
    | none => exact hQ
    | some qb =>
      obtain ⟨x, c⟩ := qa
      obtain ⟨y, d⟩ := qb
      obtain ⟨x1, x2⟩ := ty_sy_ok hA ia ea
      obtain ⟨y1, y2⟩ := ty_sy_ok hA ib eb
      dsimp only
      cases Nat.beq x y with
      | true => exact hQ
      | false =>
        cases hd : Nat.ble (Nat.add d j) (Nat.add c 4294967296) with
        | false => exact hQ
        | true =>
          intro q hq
          rcases List.mem_cons.mp hq with rfl | hq
          · refine ⟨x1, y1, ?_⟩
            have hd2 : d + j ≤ c + 4294967296 := ix_ble.mp hd
            show σ x + (c + 4294967296 - (d + j)) ≤ σ y + 4294967296
            omega
          · exact hQ q hq
noncomputable def ty_qax (A : ty_A) (a b : ix_V) (j : Nat) (Q : ty_Q) : ty_Q := cond (Nat.blt j 1000000) (ty_qa A a b j Q) (ty_qan A a b (Nat.sub j 1000000) Q)
theorem ty_qax_ok {σ : Nat → Nat} {A : ty_A} {a b : ix_V} {m n j : Nat} {Q : ty_Q} (hA : ty_bx σ A) (ia : ty_iv A.1 σ a m) (ib : ty_iv A.1 σ b n) (hj : ty_rsm j (ty_kp m) (ty_kp n)) (hQ : ∀ q ∈ Q, q.1 < A.1 ∧ q.2.2 < A.1 ∧ σ q.1 + q.2.1 ≤ σ q.2.2 + 4294967296) : ∀ q ∈ ty_qax A a b j Q, q.1 < A.1 ∧ q.2.2 < A.1 ∧ σ q.1 + q.2.1 ≤ σ q.2.2 + 4294967296 := by
  unfold ty_qax
  cases hc : Nat.blt j 1000000 with
  | true => exact ty_qa_ok hA ia ib (hj.1 (ix_blt.mp hc)) hQ
  | false =>
    have h1 : ¬ j < 1000000 := fun h => by rw [ix_blt.mpr h] at hc; cases hc
    exact ty_qan_ok hA ia ib (hj.2 (by omega)) hQ
noncomputable def ty_chk (h : ty_H) (V : ty_V) (rs : List (Nat × (Nat × Nat))) (S : ty_S) (W : ty_W) (L : ix_L) : Bool := V.all (ty_chv h W) && rs.all (fun r => match ty_rfb S W L V r.1 with
  | some a => (match ty_rfb S W L V r.2.2 with
    | some b => ty_isI a && (ty_isI b && ty_lex W.1 W.2.2.2.1 a b r.2.1)
    | none => false)
  | none => false)
def ty_sev (γ : Nat → Nat) (t : ix_T) (e : Nat × (Nat × (Nat × (Nat × Nat)))) : Prop := ∃ n, ix_g (ix_g t e.1).2.2 e.2.1 = .inl n ∧ n < 4294967296 ∧ e.2.2.1 ≤ ty_kp n ∧ ty_kp n ≤ e.2.2.2.1 ∧ (e.2.2.2.2 = 0 ∨ ty_lab γ (e.2.2.2.2 - 1) t n)
def ty_sem (γ : Nat → Nat) (V : ty_V) (rs : List (Nat × (Nat × Nat))) (C0 C : ty_C) : Prop := (∀ e ∈ V, ty_sev γ C.2.2.2.1 e) ∧ ∀ r ∈ rs, ∀ a b, ty_prb C0 C V r.1 = some a → ty_prb C0 C V r.2.2 = some b → ty_rsm r.2.1 (ty_kp a) (ty_kp b)
theorem ty_ref_ok {σ : ty_Sg} {W : ty_W} {L : ix_L} {C : ty_C} {V : ty_V} {r : Nat} {v : ix_V} (hw : ty_wk h σ W C.2.2.1 C.2.2.2.1) (hl : ty_lv (ty_k h W) σ L C.1) (he : ty_ref W L V r = some v) (hi : ty_isI v = true) : ∃ n, ty_pref C V r = some n ∧ ty_iv W.1.1 σ.1 v n := by
  unfold ty_ref at he
  unfold ty_pref
  cases hr : Nat.blt r 1000 with
  | true =>
    rw [hr, cond_true] at he
    rw [cond_true]
    split at he
    · rename_i u hu
      cases he
      obtain ⟨w, w1, w2⟩ := hl.2 r _ hu
      obtain ⟨n, rfl, hn⟩ := w2.toint hi
      exact ⟨n, by rw [w1], hn⟩
    · cases he
  | false =>
    rw [hr, cond_false] at he
    rw [cond_false]
    split at he
    · rename_i e hV
      cases hc : (Nat.blt e.1 114 && Nat.blt e.2.1 2147483648) with
      | false => rw [hc] at he; cases he
      | true =>
        rw [hc, cond_true] at he
        have c := Bool.and_eq_true_iff.mp hc
        obtain ⟨n, n1, n2⟩ := (ty_fslot hw (ix_blt.mp c.1) (ix_blt.mp c.2) he).toint hi
        exact ⟨n, by rw [n1], n2⟩
    · cases he
/-- the first arrival, as it stays known -/
def ty_fst (h : ty_H) (σ : ty_Sg) (S : ty_S) (C0 : ty_C) (k : Nat) : Prop := S.1.1.1 ≤ k ∧ ∃ σ0 : ty_Sg, ty_ag S.1.1.1 σ0.1 σ.1 ∧ ty_wk h σ0 S.1 C0.2.2.1 C0.2.2.2.1 ∧ ty_lv (ty_k h S.1) σ0 S.2.1 C0.1
theorem ty_rfb_ok {σ : ty_Sg} {S : ty_S} {W : ty_W} {L : ix_L} {C0 C : ty_C} {V : ty_V} {r : Nat} {v : ix_V} (hf : ty_fst h σ S C0 W.1.1) (hw : ty_wk h σ W C.2.2.1 C.2.2.2.1) (hl : ty_lv (ty_k h W) σ L C.1) (he : ty_rfb S W L V r = some v) (hi : ty_isI v = true) : ∃ n, ty_prb C0 C V r = some n ∧ ty_iv W.1.1 σ.1 v n := by
  unfold ty_rfb at he
  unfold ty_prb
  cases hr : Nat.blt r 2000 with
  | true =>
    rw [hr, cond_true] at he
    rw [cond_true]
    exact ty_ref_ok hw hl he hi
  | false =>
    rw [hr, cond_false] at he
    rw [cond_false]
    generalize Nat.sub r 1000 = r2 at he ⊢
    obtain ⟨hk, σ0, a0, w0, l0⟩ := hf
    obtain ⟨n, n1, n2⟩ := ty_ref_ok (C := C0) w0 l0 he hi
    exact ⟨n, n1, n2.ag a0 hk⟩
theorem ty_chv_ok {σ : ty_Sg} {W : ty_W} {n : Nat} {t : ix_T} {e : Nat × (Nat × (Nat × (Nat × Nat)))} (hw : ty_wk h σ W n t) (he : ty_chv h W e = true) : ty_sev σ.2.1 t e := by
  have c1 := Bool.and_eq_true_iff.mp he
  have c2 := Bool.and_eq_true_iff.mp c1.2
  have g1 := ix_blt.mp c1.1
  have g2 := ix_blt.mp c2.1
  have hz := c2.2
  split at hz
  · rename_i v hv
    have c3 := Bool.and_eq_true_iff.mp hz
    have c4 := Bool.and_eq_true_iff.mp c3.2
    have c5 := Bool.and_eq_true_iff.mp c4.2
    obtain ⟨x, x1, x2⟩ := (ty_fslot hw g1 g2 hv).toint c3.1
    have r : (ty_rng W.1 v).1 ≤ ty_kp x ∧ ty_kp x ≤ (ty_rng W.1 v).2 := ty_rng_ok hw.1 x2
    have g3 := ix_ble.mp c4.1
    have g4 := ix_ble.mp c5.1
    refine ⟨x, x1, x2.1, by omega, by omega, ?_⟩
    rcases (Bool.or_eq_true _ _).mp c5.2 with z | z
    · exact Or.inl (ix_beq.mp z)
    · exact Or.inr (ty_lbl_ok hw x2 z)
  · have c3 := Bool.and_eq_true_iff.mp hz
    have hh := hw.2.2.1
    have hn : e.1 < n := by have := hh.1; have := hh.2.2.2.2.2.1.1; omega
    have hc := hh.2.2.2.1 e.1 hn
    rw [(hh.2.2.2.2.1 e.1 hn).1 (by have := hh.2.2.2.2.2.1.1; omega)] at hc
    have hs0 := hc.2.2.2 e.2.1 (Nat.lt_of_lt_of_le (ix_blt.mp c3.1) hc.2.1)
    have hs : ty_sok σ.2.2.2 n (ix_g (h.2 e.1).2.2.2.1 (cond (Nat.ble 100 (h.2 e.1).1) e.2.1 0)) (ix_g (ix_g t e.1).2.2 e.2.1) := by
      cases hb : Nat.ble 100 (h.2 e.1).1 with
      | true => exact hs0.1 (ix_ble.mp hb)
      | false => exact hs0.2.1 (by
          rcases Nat.lt_or_ge (h.2 e.1).1 100 with z | z
          · exact z
          · rw [ix_ble.mpr z] at hb; cases hb)
    have hz2 := c3.2
    split at hz2
    rename_i k l u hq
    rw [hq] at hs
    have c5 := Bool.and_eq_true_iff.mp hz2
    have c6 := Bool.and_eq_true_iff.mp c5.2
    have c7 := Bool.and_eq_true_iff.mp c6.2
    unfold ty_sok at hs
    rw [show (k, l, u).1 = 0 from ix_beq.mp c5.1] at hs
    obtain ⟨m, m1, m2, m3, m4⟩ := hs
    have g3 : e.2.2.1 ≤ l := ix_ble.mp c6.1
    have g4 : u ≤ e.2.2.2.1 := ix_ble.mp c7.1
    have m3' : l ≤ ty_kp m := m3
    have m4' : ty_kp m ≤ u := m4
    exact ⟨m, m1, m2, by omega, by omega, Or.inl (ix_beq.mp c7.2)⟩
theorem ty_chk_ok {σ : ty_Sg} {S : ty_S} {W : ty_W} {L : ix_L} {C0 C : ty_C} {V : ty_V} {rs : List (Nat × (Nat × Nat))} (hf : ty_fst h σ S C0 W.1.1) (hw : ty_wk h σ W C.2.2.1 C.2.2.2.1) (hl : ty_lv (ty_k h W) σ L C.1) (he : ty_chk h V rs S W L = true) : ty_sem σ.2.1 V rs C0 C := by
  have c := Bool.and_eq_true_iff.mp he
  refine ⟨fun e hm => ty_chv_ok hw (List.all_eq_true.mp c.1 e hm), fun r hr a b ha hb => ?_⟩
  have hz := List.all_eq_true.mp c.2 r hr
  split at hz
  · rename_i va hva
    split at hz
    · rename_i vb hvb
      have c2 := Bool.and_eq_true_iff.mp hz
      have c3 := Bool.and_eq_true_iff.mp c2.2
      obtain ⟨x, x1, x2⟩ := ty_rfb_ok hf hw hl hva c2.1
      obtain ⟨y, y1, y2⟩ := ty_rfb_ok hf hw hl hvb c3.1
      rw [ha] at x1
      rw [hb] at y1
      cases x1
      cases y1
      exact ty_lex_ok hw.1 hw.2.2.2.2.1 x2 y2 c3.2
    · cases hz
  · cases hz
/-- slots set free -/
noncomputable def ty_gv (h : ty_H) : ty_V → ty_A → ty_X → Option (ty_A × ty_X)
  | [], A, X => some (A, X)
  | e :: V, A, X => cond (Nat.blt A.1 256 && (Nat.ble 2147483648 e.2.2.1 && (Nat.blt e.2.2.2.1 6442450944 && (Nat.blt e.1 114 && (Nat.blt e.2.1 2147483648 && Nat.blt e.2.1 (h.2 e.1).2.1))))) (ty_gv h V (Nat.succ A.1, ix_u 8 A.2 A.1 (e.2.2.1, e.2.2.2.1)) (((e.1, .inl (Nat.add 4294967296 e.2.1)), .inr (.inr (.inr (A.1, 4294967296)))) :: cond (Nat.beq e.2.2.2.2 0) X (((113, .inr (.inl (Nat.pred e.2.2.2.2))), .inr (.inr (.inr (A.1, 4294967296)))) :: X))) none
theorem ty_gv_ok {Lg : ty_A} {R : Nat × Lean.RArray Nat} {Q : ty_Q} {n : Nat} {t : ix_T} : ∀ (V : ty_V) (A A' : ty_A) (X X' : ty_X) (σ : ty_Sg), ty_gv h V A X = some (A', X') → ty_wk h σ (A, (Lg, (R, (Q, X)))) n t → (∀ e ∈ V, ty_sev σ.2.1 t e) → ∃ s, ty_ag A.1 σ.1 s ∧ A.1 ≤ A'.1 ∧ ty_wk h (s, σ.2) (A', (Lg, (R, (Q, X')))) n t
  | [], A, A', X, X', σ, he, hw, _ => by
    cases he
    exact ⟨σ.1, ty_ag.rf, Nat.le_refl _, hw⟩
  | e :: V, A, A', X, X', σ, he, hw, hs => by
    change cond (Nat.blt A.1 256 && (Nat.ble 2147483648 e.2.2.1 && (Nat.blt e.2.2.2.1 6442450944 && (Nat.blt e.1 114 && (Nat.blt e.2.1 2147483648 && Nat.blt e.2.1 (h.2 e.1).2.1))))) (ty_gv h V (Nat.succ A.1, ix_u 8 A.2 A.1 (e.2.2.1, e.2.2.2.1)) (((e.1, .inl (Nat.add 4294967296 e.2.1)), .inr (.inr (.inr (A.1, 4294967296)))) :: cond (Nat.beq e.2.2.2.2 0) X (((113, .inr (.inl (Nat.pred e.2.2.2.2))), .inr (.inr (.inr (A.1, 4294967296)))) :: X))) none = some (A', X') at he
    cases hc : (Nat.blt A.1 256 && (Nat.ble 2147483648 e.2.2.1 && (Nat.blt e.2.2.2.1 6442450944 && (Nat.blt e.1 114 && (Nat.blt e.2.1 2147483648 && Nat.blt e.2.1 (h.2 e.1).2.1))))) with
    | false => rw [hc] at he; cases he
    | true =>
      rw [hc, cond_true] at he
      have c1 := Bool.and_eq_true_iff.mp hc
      have c2 := Bool.and_eq_true_iff.mp c1.2
      have c3 := Bool.and_eq_true_iff.mp c2.2
      have c4 := Bool.and_eq_true_iff.mp c3.2
      have c5 := Bool.and_eq_true_iff.mp c4.2
      have h256 := ix_blt.mp c1.1
      have hp := ix_blt.mp c4.1
      obtain ⟨m, m1, m2, m3, m4, m5⟩ := hs e List.mem_cons_self
      have hb := ty_bx_push (lo := e.2.2.1) (hi := e.2.2.2.1) (b := ty_kp m) hw.1 h256 (ix_ble.mp c2.1) m3 m4 (ix_blt.mp c3.1)
      have hag : ty_ag A.1 σ.1 (ty_new σ.1 A.1 (ty_kp m)) := ty_new_ag _ _ _ (by omega)
      obtain ⟨g1, g2, g3⟩ := ty_wk.boxes hw hag (Nat.le_succ _) hb
      have hv : ty_iv (Nat.succ A.1) (ty_new σ.1 A.1 (ty_kp m)) (.inr (.inr (.inr (A.1, 4294967296)))) m := by
        refine ⟨m2, Nat.lt_succ_self _, ?_⟩
        show m = (ty_new σ.1 A.1 (ty_kp m) A.1 + 4294967296) % 4294967296
        unfold ty_new
        rw [if_pos rfl, Nat.add_mod_right, ty_kp_mod m2]
      have hh := hw.2.2.1
      have e114 := hh.2.2.2.2.2.1.1
      have hn : e.1 < n := by have := hh.1; omega
      have ep : σ.2.2.1 e.1 = e.1 := hh.2.2.1 e.1 (by omega)
      have hcok := hh.2.2.2.1 e.1 hn
      rw [(hh.2.2.2.2.1 e.1 hn).1 (by omega)] at hcok
      have hk : e.1 < h.1 + R.1 := by omega
      have hslot : ty_fok (ty_k h ((Nat.succ A.1, ix_u 8 A.2 A.1 (e.2.2.1, e.2.2.2.1)), (Lg, (R, (Q, X))))) (ty_new σ.1 A.1 (ty_kp m), σ.2) t ((e.1, .inl (Nat.add 4294967296 e.2.1)), .inr (.inr (.inr (A.1, 4294967296)))) := by
        refine ty_fok_int (m := e.2.1) hk (ty_ivk (ix_blt.mp c5.1)) ?_ ?_
        · show e.2.1 < (ix_g t (σ.2.2.1 e.1)).2.1
          rw [ep]
          exact Nat.lt_of_lt_of_le (ix_blt.mp c5.2) hcok.2.1
        · show ty_rv _ _ _ (ix_g (ix_g t (σ.2.2.1 e.1)).2.2 e.2.1)
          rw [ep, m1]
          exact ty_rv.int hv
      have gX : ty_wk h (ty_new σ.1 A.1 (ty_kp m), σ.2) ((Nat.succ A.1, ix_u 8 A.2 A.1 (e.2.2.1, e.2.2.2.1)), (Lg, (R, (Q, cond (Nat.beq e.2.2.2.2 0) X (((113, .inr (.inl (Nat.pred e.2.2.2.2))), .inr (.inr (.inr (A.1, 4294967296)))) :: X))))) n t := by
        cases hq : Nat.beq e.2.2.2.2 0 with
        | true => exact g1
        | false =>
          refine g1.kn ⟨by show 113 < h.1 + R.1; omega, m, hv, ?_⟩
          rcases m5 with m5 | m5
          · rw [ix_beq.mpr m5] at hq; cases hq
          · exact m5
      have gY := gX.kn (f := ((e.1, .inl (Nat.add 4294967296 e.2.1)), .inr (.inr (.inr (A.1, 4294967296))))) hslot
      obtain ⟨s, s1, s2, s3⟩ := ty_gv_ok V _ A' _ X' (ty_new σ.1 A.1 (ty_kp m), σ.2) he gY (fun e' he' => hs e' (List.mem_cons_of_mem _ he'))
      exact ⟨s, hag.tr s1 (Nat.le_succ _), Nat.le_trans (Nat.le_succ _) s2, s3⟩
noncomputable def ty_gq (S : ty_S) (W : ty_W) (L : ix_L) (V : ty_V) : List (Nat × (Nat × Nat)) → ty_Q
  | [] => W.2.2.2.1
  | r :: rs => (match ty_rfb S W L V r.1 with
    | some a => (match ty_rfb S W L V r.2.2 with
      | some b => cond (ty_isI a && ty_isI b) (ty_qax W.1 a b r.2.1 (ty_gq S W L V rs)) (ty_gq S W L V rs)
      | none => ty_gq S W L V rs)
    | none => ty_gq S W L V rs)
theorem ty_gq_ok {σ : ty_Sg} {S : ty_S} {W : ty_W} {L : ix_L} {C0 C : ty_C} {V : ty_V} (hf : ty_fst h σ S C0 W.1.1) (hw : ty_wk h σ W C.2.2.1 C.2.2.2.1) (hl : ty_lv (ty_k h W) σ L C.1) : ∀ (rs : List (Nat × (Nat × Nat))), (∀ r ∈ rs, ∀ a b, ty_prb C0 C V r.1 = some a → ty_prb C0 C V r.2.2 = some b → ty_rsm r.2.1 (ty_kp a) (ty_kp b)) → ∀ q ∈ ty_gq S W L V rs, q.1 < W.1.1 ∧ q.2.2 < W.1.1 ∧ σ.1 q.1 + q.2.1 ≤ σ.1 q.2.2 + 4294967296
  | [], _ => hw.2.2.2.2.1
  | r :: rs, hr => by
    have IH := ty_gq_ok hf hw hl rs (fun r' h' => hr r' (List.mem_cons_of_mem _ h'))
    show ∀ q ∈ (match ty_rfb S W L V r.1 with
    | some a => (match ty_rfb S W L V r.2.2 with
      | some b => cond (ty_isI a && ty_isI b) (ty_qax W.1 a b r.2.1 (ty_gq S W L V rs)) (ty_gq S W L V rs)
      | none => ty_gq S W L V rs)
    | none => ty_gq S W L V rs), _
    split
    · rename_i va hva
      split
      · rename_i vb hvb
        cases hc : (ty_isI va && ty_isI vb) with
        | false => exact IH
        | true =>
          have c := Bool.and_eq_true_iff.mp hc
          obtain ⟨x, x1, x2⟩ := ty_rfb_ok hf hw hl hva c.1
          obtain ⟨y, y1, y2⟩ := ty_rfb_ok hf hw hl hvb c.2
          exact ty_qax_ok hw.1 x2 y2 (hr r List.mem_cons_self x y x1 y1) IH
      · exact IH
    · exact IH
/-- longs set free between their bounds -/
noncomputable def ty_glj (LS : ix_L) : List (Nat × (Nat × Nat)) → ty_W → ix_L → Option (ty_W × ix_L)
  | [], W, L => some (W, L)
  | q :: l, W, L => (match LS[q.1]? with
    | some (some v) => cond (ix_isLong v) (match ty_fj q.2.1 q.2.2 W with
      | some (u, W') => ty_glj LS l W' (L.set q.1 (some u))
      | none => none) (ty_glj LS l W L)
    | _ => ty_glj LS l W L)
theorem ty_glj_ok {LS ls : ix_L} {n : Nat} {t : ix_T} (hw0 : ∀ (i : Nat) (v : ix_V), LS[i]? = some (some v) → ∃ w, ls[i]? = some (some w)) : ∀ (l : List (Nat × (Nat × Nat))) (W W' : ty_W) (L L' : ix_L) (σ : ty_Sg), ty_glj LS l W L = some (W', L') → ty_wk h σ W n t → ty_lv (ty_k h W) σ L ls → (∀ q ∈ l, ∀ v, LS[q.1]? = some (some v) → ∀ w, ls[q.1]? = some (some w) → ty_fit q v w) → ∃ σ', ty_mo W W' ∧ ty_agr (ty_k h W) σ σ' ∧ ty_wk h σ' W' n t ∧ ty_lv (ty_k h W') σ' L' ls
  | [], W, W', L, L', σ, he, hw, hl, hf => by
    cases he
    exact ⟨σ, ty_mo.rf, ty_agr.rf, hw, hl⟩
  | q :: l, W, W', L, L', σ, he, hw, hl, hf => by
    have hf2 : ∀ r ∈ l, ∀ v, LS[r.1]? = some (some v) → ∀ w, ls[r.1]? = some (some w) → ty_fit r v w := fun r hr => hf r (List.mem_cons_of_mem _ hr)
    change (match LS[q.1]? with
    | some (some v) => cond (ix_isLong v) (match ty_fj q.2.1 q.2.2 W with
      | some (u, W') => ty_glj LS l W' (L.set q.1 (some u))
      | none => none) (ty_glj LS l W L)
    | _ => ty_glj LS l W L) = some (W', L') at he
    split at he
    · rename_i v hv
      cases hJ : ix_isLong v with
      | false =>
        rw [hJ] at he
        exact ty_glj_ok hw0 l W W' L L' σ he hw hl hf2
      | true =>
        rw [hJ] at he
        dsimp only [cond_true] at he
        split at he
        · rename_i u W1 hu
          obtain ⟨w, hw1⟩ := hw0 q.1 v hv
          obtain ⟨m, rfl, m1, m2, m3⟩ := (hf q List.mem_cons_self v hv w hw1).2 hJ
          obtain ⟨σ1, a1, a2, a3, a4, _, _⟩ := ty_fj_ok hw hu m1 m2 m3
          have hl1 := hl.ag a2 a1.k
          obtain ⟨σ2, b1, b2, b3, b4⟩ := ty_glj_ok hw0 l W1 W' (L.set q.1 (some u)) L' σ1 he a3 ⟨by rw [List.length_set]; exact hl1.1, fun i x hx => by
            by_cases e : q.1 = i
            · subst e
              rw [List.getElem?_set] at hx
              simp only [if_true] at hx
              split at hx
              · cases hx
                exact ⟨_, hw1, a4⟩
              · cases hx
            · rw [List.getElem?_set_ne e] at hx
              exact hl1.2 i x hx⟩ hf2
          exact ⟨σ2, a1.tr b1, a2.tr b2 a1.k, b3, b4⟩
        · cases he
    · exact ty_glj_ok hw0 l W W' L L' σ he hw hl hf2
/-- a state at a loop's head, made free -/
noncomputable def ty_gen (h : ty_H) (sp : ty_L) (S : ty_S) : Option ty_S := cond (S.2.2.1.isEmpty && (ty_ndb sp.1 && (sp.1.all (fun q => match S.2.1[q.1]? with
    | some (some v) => ty_fitv S.1.1 S.1.2.1 q v
    | _ => false) && ty_chk h sp.2.2.2.1 sp.2.2.2.2 S S.1 S.2.1))) (match ty_gl sp.1 S.1.1 S.2.1 with
    | some (A, L) => (match ty_gv h sp.2.2.2.1 A (ty_dr sp.2.1 S.1.2.2.2.2) with
      | some (B, X) => (match ty_glj S.2.1 sp.1 (B, (S.1.2.1, (S.1.2.2.1, (ty_gq S (B, (S.1.2.1, (S.1.2.2.1, (S.1.2.2.2.1, X)))) L sp.2.2.2.1 sp.2.2.2.2, X)))) L with
        | some (W', L') => some (W', (L', ([], S.2.2.2)))
        | none => none)
      | none => none)
    | none => none) none
/-- a state that comes back to the head is one of those -/
noncomputable def ty_arr (h : ty_H) (sp : ty_L) (S G o : ty_S) : Bool := o.2.2.1.isEmpty && (Nat.ble o.2.2.2.1 S.2.2.2.1 && (Nat.ble o.2.2.2.2 S.2.2.2.2 && (Nat.ble S.1.2.2.1.1 o.1.2.2.1.1 && ((List.range S.1.2.2.1.1).all (fun p => Nat.beq (ix_g o.1.2.2.1.2 p) (ix_g S.1.2.2.1.2 p)) && (Nat.beq o.2.1.length S.2.1.length && ((List.range S.2.1.length).all (fun i => match S.2.1[i]? with
    | some (some v) => (match o.2.1[i]? with
      | some (some u) => cond (sp.1.any (fun q => Nat.beq q.1 i)) true (ty_veq v u)
      | _ => false)
    | _ => true) && (sp.1.all (fun q => match S.2.1[q.1]? with
    | some (some v) => (match o.2.1[q.1]? with
      | some (some u) => ty_fitv o.1.1 o.1.2.1 q u && ((!(ty_isI v) || ty_isI u) && (!(ix_isLong v) || ix_isLong u))
      | _ => false)
    | _ => true) && ((ty_dr sp.2.1 S.1.2.2.2.2).all (fun f => o.1.2.2.2.2.any (fun g => ty_feq f g)) && (ty_chk h sp.2.2.2.1 sp.2.2.2.2 S o.1 o.2.1 && (match ty_ref G.1 G.2.1 sp.2.2.2.1 sp.2.2.1.1 with
    | some a => (match ty_ref o.1 o.2.1 sp.2.2.2.1 sp.2.2.1.1 with
      | some b => ty_isI a && (ty_isI b && cond sp.2.2.1.2 (ty_le o.1.1 o.1.2.2.2.1 a b 1) (ty_le o.1.1 o.1.2.2.2.1 b a 1))
      | none => false)
    | none => false))))))))))
/-- a slot's label as at the first arrival: 1000000000000 and the kind; and 2: the end of a part of a text -/
noncomputable def ty_dyl (W : ty_W) (q : Nat) : Option ix_V → Nat
  | none => 0
  | some v => (match ty_lfd (cond (Nat.beq q 2) 1 q) W.1 v W.2.2.2.2 with
    | some l => cond (Nat.beq q 2) (Nat.succ (Nat.succ (Nat.mul 4 (tx_mk (tx_g l) 5 0 0 10)))) (Nat.succ (Nat.add (Nat.mul 4 l) q))
    | none => 0)
/-- a slot's least value: 7: -1, or 0 where it was not less at the first arrival -/
noncomputable def ty_dlo (W : ty_W) : Option ix_V → Nat
  | none => 4294967295
  | some v => cond (ty_isI v && Nat.blt 4294967295 (ty_rng W.1 v).1) 4294967296 4294967295
noncomputable def ty_dyv (W : ty_W) (e : Nat × (Nat × (Nat × (Nat × Nat)))) : Nat × (Nat × (Nat × (Nat × Nat))) := (e.1, (e.2.1, (cond (Nat.beq e.2.2.1 7) (ty_dlo W (ty_find W.1 e.1 (.inl (Nat.add 4294967296 e.2.1)) W.2.2.2.2)) e.2.2.1, (e.2.2.2.1, cond (Nat.ble 1000000000000 e.2.2.2.2) (ty_dyl W (Nat.sub e.2.2.2.2 1000000000000) (ty_find W.1 e.1 (.inl (Nat.add 4294967296 e.2.1)) W.2.2.2.2)) e.2.2.2.2))))
noncomputable def ty_dyn (sp : ty_L) (S : ty_S) : ty_L := (sp.1, (sp.2.1, (sp.2.2.1, (sp.2.2.2.1.map (ty_dyv S.1), sp.2.2.2.2))))
noncomputable def ty_run (h : ty_H) (A : Nat → ty_S → ty_R) (H : Nat → Option ty_L) (fuel : Nat) : List Nat → Nat → ty_S → ty_R :=
  Nat.rec (motive := fun _ => List Nat → Nat → ty_S → ty_R) (fun _ _ _ => none)
    (fun _ ih act pc S => cond (Nat.beq pc 99999 || act.any (fun q => Nat.beq q pc)) (some [(pc, S)]) (match H pc with
      | none => (match A pc S with
        | none => none
        | some outs => outs.foldr (fun o acc => ty_app (ih act o.1 o.2) acc) (some []))
      | some sp => (match ty_gen h (ty_dyn sp S) S with
        | none => none
        | some G => (match A pc G with
          | none => none
          | some outs => (match outs.foldr (fun o acc => ty_app (ih (pc :: act) o.1 o.2) acc) (some []) with
            | none => none
            | some l => cond (l.all (fun o => !(Nat.beq o.1 pc) || ty_arr h (ty_dyn sp S) S G o.2)) (some (l.filter (fun o => !(Nat.beq o.1 pc)))) none))))) fuel
theorem ty_run_succ (A : Nat → ty_S → ty_R) (H : Nat → Option ty_L) (f : Nat) (act : List Nat) (pc : Nat) (S : ty_S) : ty_run h A H (f + 1) act pc S = cond (Nat.beq pc 99999 || act.any (fun q => Nat.beq q pc)) (some [(pc, S)]) (match H pc with
      | none => (match A pc S with
        | none => none
        | some outs => outs.foldr (fun o acc => ty_app (ty_run h A H f act o.1 o.2) acc) (some []))
      | some sp => (match ty_gen h (ty_dyn sp S) S with
        | none => none
        | some G => (match A pc G with
          | none => none
          | some outs => (match outs.foldr (fun o acc => ty_app (ty_run h A H f (pc :: act) o.1 o.2) acc) (some []) with
            | none => none
            | some l => cond (l.all (fun o => !(Nat.beq o.1 pc) || ty_arr h (ty_dyn sp S) S G o.2)) (some (l.filter (fun o => !(Nat.beq o.1 pc)))) none)))) := rfl
/-- there is an outcome that the plain machine comes to -/
def ty_res (h : ty_H) (cp : Nat × Nat) (M : ix_M) (d : Nat) (P : ix_Call → ix_P) (pc : Nat) (C : ty_C) (σ : ty_Sg) (W : ty_W) (outs : List (Nat × ty_S)) : Prop := ∃ o ∈ outs, ∃ σ' C', ty_mo W o.2.1 ∧ ty_agr (ty_k h W) σ σ' ∧ ty_in h cp σ' o.2 C' ∧ ty_rt M d P pc C o.1 C'
theorem ty_k6 {σ : ty_Sg} {W : ty_W} {n : Nat} {t : ix_T} (hw : ty_wk h σ W n t) : (ty_k h W).2.2 ≤ 1000000 := by
  have h1 := hw.2.2.1.1
  have h2 := hw.2.2.1.2.1
  have h3 := hw.2.2.2.1.1
  show h.1 + W.2.2.1.1 ≤ _
  omega
theorem ty_fitv_ok {σ : ty_Sg} {W : ty_W} {n : Nat} {t : ix_T} {q : Nat × (Nat × Nat)} {v w : ix_V} (hw : ty_wk h σ W n t) (hr : ty_rv (ty_k h W) σ v w) (he : ty_fitv W.1 W.2.1 q v = true) : ty_fit q v w := by
  have c0 := Bool.and_eq_true_iff.mp he
  refine ⟨fun hi => ?_, fun hj => ?_⟩
  · obtain ⟨m, rfl, hm⟩ := hr.toint hi
    rcases (Bool.or_eq_true _ _).mp c0.1 with z | z
    · rw [hi] at z; cases z
    · have c := Bool.and_eq_true_iff.mp z
      have g1 := ix_ble.mp c.1
      have g2 := ix_ble.mp c.2
      have r : (ty_rng W.1 v).1 ≤ ty_kp m ∧ ty_kp m ≤ (ty_rng W.1 v).2 := ty_rng_ok hw.1 hm
      exact ⟨m, rfl, hm.1, by omega, by omega⟩
  · rcases v with b | l | r | y
    · cases hj
    · obtain ⟨m, rfl, hm⟩ := hr
      have c := Bool.and_eq_true_iff.mp (show (Nat.ble q.2.1 (ty_jr W.2.1 l).1 && Nat.ble (ty_jr W.2.1 l).2 q.2.2) = true from c0.2)
      have g1 := ix_ble.mp c.1
      have g2 := ix_ble.mp c.2
      have r := ty_jr_ok hw.2.1 hm
      exact ⟨m, rfl, hm.1, Nat.le_trans g1 r.1, Nat.le_trans r.2 g2⟩
    · cases hj
    · cases hj
/-- fewer facts -/
theorem ty_wk.fewer {σ : ty_Sg} {A L : ty_A} {R : Nat × Lean.RArray Nat} {Q : ty_Q} {X X' : ty_X} {n : Nat} {t : ix_T} (hw : ty_wk h σ (A, (L, (R, (Q, X)))) n t) (hX : ∀ f ∈ X', f ∈ X) : ty_wk h σ (A, (L, (R, (Q, X')))) n t := by
  obtain ⟨h1, h2, h3, h4, h5, h6⟩ := hw
  exact ⟨h1, h2, h3, h4, h5, fun f hf => h6 f (hX f hf)⟩
/-- from a world at the head that holds but for the locals, the free state -/
theorem ty_gen_in {sp : ty_L} {S G : ty_S} {σ : ty_Sg} {C0 C : ty_C} (hf0 : ty_fst h σ S C0 S.1.1.1) (he : ty_gen h sp S = some G) (hw : ty_wk h σ (S.1.1, (S.1.2.1, (S.1.2.2.1, (S.1.2.2.2.1, ty_dr sp.2.1 S.1.2.2.2.2)))) C.2.2.1 C.2.2.2.1) (hl : S.2.1.length = C.1.length) (hL : ∀ (i : Nat) (v : ix_V), S.2.1[i]? = some (some v) → ∃ w, C.1[i]? = some (some w) ∧ ((∃ q ∈ sp.1, q.1 = i) ∨ ty_rv (ty_k h S.1) σ v w)) (hf : ∀ q ∈ sp.1, ∀ v, S.2.1[q.1]? = some (some v) → ∀ w, C.1[q.1]? = some (some w) → ty_fit q v w) (hse : ty_sem σ.2.1 sp.2.2.2.1 sp.2.2.2.2 C0 C) (hst : C.2.1 = []) (hc : ty_cn cp σ S.2.2.2 C.2.2.1 C.2.2.2.2.1 C.2.2.2.2.2) : ∃ σ', ty_mo S.1 G.1 ∧ ty_agr (ty_k h S.1) σ σ' ∧ ty_in h cp σ' G C := by
  unfold ty_gen at he
  cases hb : (S.2.2.1.isEmpty && (ty_ndb sp.1 && (sp.1.all (fun q => match S.2.1[q.1]? with
    | some (some v) => ty_fitv S.1.1 S.1.2.1 q v
    | _ => false) && ty_chk h sp.2.2.2.1 sp.2.2.2.2 S S.1 S.2.1))) with
  | false => rw [hb] at he; cases he
  | true =>
    rw [hb] at he
    dsimp only [cond_true] at he
    have c1 := Bool.and_eq_true_iff.mp hb
    have c2 := Bool.and_eq_true_iff.mp c1.2
    split at he
    · rename_i A L hgl
      split at he
      · rename_i B' X' hgv
        split at he
        rotate_left
        · cases he
        rename_i WJ LJ hgj
        cases he
        obtain ⟨⟨B, Lg, R, Q, X⟩, LL, st, w⟩ := S
        obtain ⟨ls, stk, n, t, ce, sl⟩ := C
        obtain ⟨s, s1, s2, s3, s4⟩ := ty_gl_ok (k2 := (Lg.1, h.1 + R.1)) (s := σ.2) (ls := ls) sp.1 B A LL L σ.1 hgl hw.1 hl hL hf (ty_ndb_ok _ c2.1)
        obtain ⟨g1, g2, g3⟩ := ty_wk.boxes hw s1 s2 s3
        obtain ⟨s', t1, t2, t3⟩ := ty_gv_ok sp.2.2.2.1 A B' _ X' (s, σ.2) hgv g1 hse.1
        have ag2 : ty_agr (A.1, (Lg.1, h.1 + R.1)) (s, σ.2) (s', σ.2) := ⟨t1, ty_ag.rf, ty_ag.rf, fun _ _ => rfl⟩
        have kl2 : ty_kl (A.1, (Lg.1, h.1 + R.1)) (B'.1, (Lg.1, h.1 + R.1)) := ⟨t2, Nat.le_refl _, Nat.le_refl _⟩
        have lv2 : ty_lv (B'.1, (Lg.1, h.1 + R.1)) (s', σ.2) L ls := s4.ag ag2 kl2
        have hst' : stk = [] := hst
        subst hst'
        have hf1 : ty_fst h (s', σ.2) ((B, (Lg, (R, (Q, X)))), (LL, (st, w))) C0 B'.1 := by
          obtain ⟨_, σ0, z1, z2, z3⟩ := hf0
          have z1' : ty_ag B.1 σ0.1 σ.1 := z1
          exact ⟨Nat.le_trans s2 t2, σ0, z1'.tr (s1.tr t1 s2) (Nat.le_refl _), z2, z3⟩
        have hq := ty_gq_ok (W := (B', (Lg, (R, (Q, X'))))) (C := (ls, [], n, t, ce, sl)) (V := sp.2.2.2.1) hf1 t3 lv2 sp.2.2.2.2 hse.2
        obtain ⟨σJ, j1, j2, j3, j4⟩ := ty_glj_ok (ls := ls) (fun i v hv => (hL i v hv).imp fun w hw => hw.1) sp.1 _ WJ L LJ (s', σ.2) hgj (t3.q hq) lv2 hf
        have mo1 : ty_mo (B, (Lg, (R, (Q, X)))) (B', (Lg, (R, (ty_gq ((B, (Lg, (R, (Q, X)))), (LL, (st, w))) (B', (Lg, (R, (Q, X')))) L sp.2.2.2.1 sp.2.2.2.2, X')))) := ⟨Nat.le_trans s2 t2, Nat.le_refl _, Nat.le_refl _⟩
        exact ⟨σJ, mo1.tr j1, (g2.tr ag2 g3.k).tr j2 mo1.k, j3, j4, trivial, hc⟩
      · cases he
    · cases he
theorem ty_gen_fit {sp : ty_L} {S G : ty_S} (he : ty_gen h sp S = some G) : S.2.2.1 = [] ∧ (∀ q ∈ sp.1, ∀ v, S.2.1[q.1]? = some (some v) → ty_fitv S.1.1 S.1.2.1 q v = true) ∧ ty_chk h sp.2.2.2.1 sp.2.2.2.2 S S.1 S.2.1 = true := by
  unfold ty_gen at he
  cases hb : (S.2.2.1.isEmpty && (ty_ndb sp.1 && (sp.1.all (fun q => match S.2.1[q.1]? with
    | some (some v) => ty_fitv S.1.1 S.1.2.1 q v
    | _ => false) && ty_chk h sp.2.2.2.1 sp.2.2.2.2 S S.1 S.2.1))) with
  | false => rw [hb] at he; cases he
  | true =>
    have c1 := Bool.and_eq_true_iff.mp hb
    have c2 := Bool.and_eq_true_iff.mp c1.2
    have c3 := Bool.and_eq_true_iff.mp c2.2
    refine ⟨List.isEmpty_iff.mp c1.1, fun q hq v hv => ?_, c3.2⟩
    have := List.all_eq_true.mp c3.1 q hq
    rw [hv] at this
    exact this
/-- a state that comes back is one of the free ones -/
theorem ty_arr_ok {sp : ty_L} {S G o : ty_S} {σ0 σ σ' : ty_Sg} {C0 C C' : ty_C} (hg : ty_gen h sp S = some G) (he : ty_arr h sp S G o = true) (h0 : ty_in h cp σ0 S C0) (hmo : ty_mo S.1 G.1) (ha0 : ty_agr (ty_k h S.1) σ0 σ) (hG : ty_in h cp σ G C) (hmo2 : ty_mo G.1 o.1) (ha : ty_agr (ty_k h G.1) σ σ') (hi : ty_in h cp σ' o C') : (∃ σ2, ty_agr (ty_k h S.1) σ0 σ2 ∧ ty_in h cp σ2 G C') ∧ ∃ ma mb, ty_pref C sp.2.2.2.1 sp.2.2.1.1 = some ma ∧ ty_pref C' sp.2.2.2.1 sp.2.2.1.1 = some mb ∧ (sp.2.2.1.2 = true → ty_kp ma + 1 ≤ ty_kp mb) ∧ (sp.2.2.1.2 = false → ty_kp mb + 1 ≤ ty_kp ma) := by
  have c1 := Bool.and_eq_true_iff.mp he
  have c2 := Bool.and_eq_true_iff.mp c1.2
  have c3 := Bool.and_eq_true_iff.mp c2.2
  have c4 := Bool.and_eq_true_iff.mp c3.2
  have c5 := Bool.and_eq_true_iff.mp c4.2
  have c6 := Bool.and_eq_true_iff.mp c5.2
  have c7 := Bool.and_eq_true_iff.mp c6.2
  have c8 := Bool.and_eq_true_iff.mp c7.2
  have c9 := Bool.and_eq_true_iff.mp c8.2
  have c10 := Bool.and_eq_true_iff.mp c9.2
  have hkSG : ty_kl (ty_k h S.1) (ty_k h G.1) := hmo.k
  have haS : ty_agr (ty_k h S.1) σ0 σ' := ha0.tr ha hkSG
  have k6S := ty_k6 h0.1
  have k6o := ty_k6 hi.1
  have hb : ty_agr (ty_k h S.1) (σ0.1, (σ0.2.1, (σ'.2.2.1, σ'.2.2.2))) σ' := ⟨haS.1, haS.2.1, ty_ag.rf, fun _ _ => rfl⟩
  have hb0 : ty_agr (ty_k h S.1) σ0 (σ0.1, (σ0.2.1, (σ'.2.2.1, σ'.2.2.2))) := ⟨ty_ag.rf, ty_ag.rf, haS.2.2⟩
  constructor
  · have hlen : o.2.1.length = S.2.1.length := ix_beq.mp c6.1
    have hwk : ty_wk h (σ0.1, (σ0.2.1, (σ'.2.2.1, σ'.2.2.2))) (S.1.1, (S.1.2.1, (S.1.2.2.1, (S.1.2.2.2.1, ty_dr sp.2.1 S.1.2.2.2.2)))) C'.2.2.1 C'.2.2.2.1 := by
      refine ⟨h0.1.1, h0.1.2.1, ⟨hi.1.2.2.1.1, hi.1.2.2.1.2.1, hi.1.2.2.1.2.2.1, hi.1.2.2.1.2.2.2.1, hi.1.2.2.1.2.2.2.2.1, hi.1.2.2.1.2.2.2.2.2.1, hi.1.2.2.1.2.2.2.2.2.2.1.ga haS.2.1, hi.1.2.2.1.2.2.2.2.2.2.2⟩, ⟨h0.1.2.2.2.1.1, fun p hp => ?_⟩, h0.1.2.2.2.2.1, fun f hf => ?_⟩
      · have hp' : p < S.1.2.2.1.1 := hp
        have := hi.1.2.2.2.1.2 p (Nat.lt_of_lt_of_le hp' (ix_ble.mp c4.1))
        have e := ix_beq.mp (List.all_eq_true.mp c5.1 p (List.mem_range.mpr hp'))
        rw [e] at this
        exact this
      · have hm : f ∈ S.1.2.2.2.2 := (List.mem_filter.mp hf).1
        obtain ⟨g, g1, g2⟩ := List.any_eq_true.mp (List.all_eq_true.mp c9.1 f hf)
        have e := ty_feq_ok g2
        subst e
        exact (hi.1.2.2.2.2.2 f g1).dn (h0.1.2.2.2.2.2 f hm) hb k6S k6o
    have hse0 : ty_sem σ'.2.1 sp.2.2.2.1 sp.2.2.2.2 C0 C' := ty_chk_ok ⟨Nat.le_trans hmo.1 hmo2.1, σ0, haS.1, h0.1, h0.2.1⟩ hi.1 hi.2.1 c10.1
    have hse : ty_sem σ0.2.1 sp.2.2.2.1 sp.2.2.2.2 C0 C' := ⟨fun e he => by
      obtain ⟨m, m1, m2, m3, m4, m5⟩ := hse0.1 e he
      exact ⟨m, m1, m2, m3, m4, m5.imp id (fun q => q.ga haS.2.1)⟩, hse0.2⟩
    have hcn : ty_cn cp σ0 S.2.2.2 C'.2.2.1 C'.2.2.2.2.1 C'.2.2.2.2.2 := by
      have q := hi.2.2.2
      exact ⟨Nat.le_trans q.1 (ix_ble.mp c2.1), Nat.le_trans q.2.1 (ix_ble.mp c3.1), q.2.2.1, q.2.2.2.1, h0.2.2.2.2.2.2.2⟩
    obtain ⟨σ2, _, s2, s3⟩ := ty_gen_in (cp := cp) (σ := (σ0.1, (σ0.2.1, (σ'.2.2.1, σ'.2.2.2)))) (C0 := C0) ⟨Nat.le_refl _, σ0, ty_ag.rf, h0.1, h0.2.1⟩ hg hwk (hlen.symm.trans hi.2.1.1) (fun i v hv => by
        have hlt : i < S.2.1.length := (List.getElem?_eq_some_iff.mp hv).1
        have hz := List.all_eq_true.mp c7.1 i (List.mem_range.mpr hlt)
        rw [hv] at hz
        dsimp only at hz
        split at hz
        · rename_i u hu
          obtain ⟨w, w1, w2⟩ := hi.2.1.2 i u hu
          refine ⟨w, w1, ?_⟩
          cases hq : sp.1.any (fun q => Nat.beq q.1 i) with
          | true =>
            obtain ⟨q, q1, q2⟩ := List.any_eq_true.mp hq
            exact Or.inl ⟨q, q1, ix_beq.mp q2⟩
          | false =>
            rw [hq] at hz
            have e := ty_veq_ok hz
            subst e
            obtain ⟨w0, _, z0⟩ := h0.2.1.2 i v hv
            exact Or.inr (w2.dn z0.sc hb k6S k6o)
        · cases hz) (fun q hq v hv w hw => by
        have hz := List.all_eq_true.mp c8.1 q hq
        rw [hv] at hz
        dsimp only at hz
        split at hz
        · rename_i u hu
          have z1 := Bool.and_eq_true_iff.mp hz
          have z2 := Bool.and_eq_true_iff.mp z1.2
          obtain ⟨w', w1, w2⟩ := hi.2.1.2 q.1 u hu
          rw [hw] at w1
          cases w1
          have hfit := ty_fitv_ok hi.1 w2 z1.1
          refine ⟨fun hI => hfit.1 ?_, fun hJ => hfit.2 ?_⟩
          · rcases (Bool.or_eq_true _ _).mp z2.1 with y | y
            · rw [hI] at y; cases y
            · exact y
          · rcases (Bool.or_eq_true _ _).mp z2.2 with y | y
            · rw [hJ] at y; cases y
            · exact y
        · cases hz) hse (by
        have : o.2.2.1 = [] := List.isEmpty_iff.mp c1.1
        have hv := hi.2.2.1
        rw [this] at hv
        exact ty_vs_0 hv) hcn
    exact ⟨σ2, hb0.tr s2 ty_kl.rf, s3⟩
  · have hz := c10.2
    split at hz
    · rename_i a hA
      split at hz
      · rename_i b hB
        have z1 := Bool.and_eq_true_iff.mp hz
        have z2 := Bool.and_eq_true_iff.mp z1.2
        obtain ⟨ma, wa1, ia⟩ := ty_ref_ok hG.1 hG.2.1 hA z1.1
        obtain ⟨mb, wb1, ib⟩ := ty_ref_ok hi.1 hi.2.1 hB z2.1
        have ia' : ty_iv o.1.1.1 σ'.1 a ma := ia.ag ha.1 hmo2.1
        refine ⟨ma, mb, wa1, wb1, fun hup => ?_, fun hup => ?_⟩
        · have z3 := z2.2
          rw [hup] at z3
          exact ty_le_ok hi.1.1 hi.1.2.2.2.2.1 ia' ib z3
        · have z3 := z2.2
          rw [hup] at z3
          exact ty_le_ok hi.1.1 hi.1.2.2.2.2.1 ib ia' z3
      · cases hz
    · cases hz
/-- some steps of the plain machine, or none -/
def ty_sm (h : ty_H) (cp : Nat × Nat) (M : ix_M) (d : Nat) (P : ix_Call → ix_P) (pc : Nat) (a : ty_S → ty_R) : Prop := ∀ S outs, a S = some outs → ∀ σ C, ty_in h cp σ S C → ∃ o ∈ outs, ∃ σ' C', ty_mo S.1 o.2.1 ∧ ty_agr (ty_k h S.1) σ σ' ∧ ty_in h cp σ' o.2 C' ∧ ((o.1 = pc ∧ C' = C) ∨ ty_rt M d P pc C o.1 C')
theorem ty_sm.of {pc : Nat} {a : ty_S → ty_R} (hp : ¬ pc = 99999) (hs : ty_sd h cp pc (fun g => P (ix_exec M ty_no g d) pc) a) : ty_sm h cp M d P pc a := by
  intro S outs he σ C hi
  obtain ⟨o, om, σ', C', m1, a1, i1, s1⟩ := hs S outs he σ C hi
  exact ⟨o, om, σ', C', m1, a1, i1, s1.imp id (fun q => ty_rt_step hp q)⟩
/-- what our machine runs to, the plain one comes to -/
theorem ty_run_ok {A : Nat → ty_S → ty_R} {H : Nat → Option ty_L} (hA : ∀ pc, ¬ pc = 99999 → ty_sm h cp M d P pc (A pc)) : ∀ (f : Nat) (act : List Nat) (pc : Nat) (S : ty_S) (outs : List (Nat × ty_S)), ty_run h A H f act pc S = some outs → ∀ σ C, ty_in h cp σ S C → ty_res h cp M d P pc C σ S.1 outs
  | 0, act, pc, S, outs, he, σ, C, hi => by cases he
  | f + 1, act, pc, S, outs, he, σ, C, hi => by
    rw [ty_run_succ] at he
    cases hb : (Nat.beq pc 99999 || act.any (fun q => Nat.beq q pc)) with
    | true =>
      rw [hb] at he
      cases he
      exact ⟨_, List.mem_cons_self, σ, C, ty_mo.rf, ty_agr.rf, hi, fun o ho => ho⟩
    | false =>
      rw [hb, cond_false] at he
      have hpc : ¬ pc = 99999 := fun e => by
        have := (Bool.or_eq_false_iff.mp hb).1
        rw [ix_beq.mpr e] at this
        cases this
      -- one step, then a run
      have hstep : ∀ (act2 : List Nat) (G : ty_S) (o1 l : List (Nat × ty_S)), A pc G = some o1 → o1.foldr (fun o acc => ty_app (ty_run h A H f act2 o.1 o.2) acc) (some []) = some l → ∀ σ1 C1, ty_in h cp σ1 G C1 → ty_res h cp M d P pc C1 σ1 G.1 l := by
        intro act2 G o1 l e1 e2 σ1 C1 hi1
        obtain ⟨o, om, σ2, C2, m2, a2, i2, hs⟩ := hA pc hpc G o1 e1 σ1 C1 hi1
        obtain ⟨x, x1, x2⟩ := ty_fold_mem (f := fun o => ty_run h A H f act2 o.1 o.2) o1 l e2 o om
        obtain ⟨q, qm, σ3, C3, m3, a3, i3, r3⟩ := ty_run_ok hA f act2 o.1 o.2 x x1 σ2 C2 i2
        refine ⟨q, x2 q qm, σ3, C3, m2.tr m3, a2.tr a3 m2.k, i3, ?_⟩
        rcases hs with ⟨e3, e4⟩ | hs
        · rw [e3, e4] at r3; exact r3
        · exact hs.tr r3
      cases hH : H pc with
      | none =>
        rw [hH] at he
        dsimp only at he
        split at he
        · cases he
        · rename_i o1 e1
          exact hstep act S o1 outs e1 he σ C hi
      | some sp0 =>
        rw [hH] at he
        dsimp only at he
        generalize ty_dyn sp0 S = sp at he
        split at he
        · cases he
        · rename_i G hG
          split at he
          · cases he
          · rename_i o1 e1
            split at he
            · cases he
            · rename_i l e2
              cases hc : l.all (fun o => !(Nat.beq o.1 pc) || ty_arr h sp S G o.2) with
              | false => rw [hc] at he; cases he
              | true =>
                rw [hc] at he
                cases he
                have hall := List.all_eq_true.mp hc
                obtain ⟨est, hfit, hchk⟩ := ty_gen_fit hG
                -- the head, free
                have hent : ∃ σ', ty_mo S.1 G.1 ∧ ty_agr (ty_k h S.1) σ σ' ∧ ty_in h cp σ' G C := by
                  obtain ⟨⟨B, Lg, R, Q, X⟩, LL, st, w⟩ := S
                  refine ty_gen_in (C0 := C) ⟨Nat.le_refl _, σ, ty_ag.rf, hi.1, hi.2.1⟩ hG (hi.1.fewer (fun f hf => (List.mem_filter.mp hf).1)) hi.2.1.1 (fun i v hv => by
                    obtain ⟨w, w1, w2⟩ := hi.2.1.2 i v hv
                    exact ⟨w, w1, Or.inr w2⟩) (fun q hq v hv w hw => by
                    obtain ⟨w', w1, w2⟩ := hi.2.1.2 q.1 v hv
                    rw [hw] at w1
                    cases w1
                    exact ty_fitv_ok hi.1 w2 (hfit q hq v hv)) (ty_chk_ok ⟨Nat.le_refl _, σ, ty_ag.rf, hi.1, hi.2.1⟩ hi.1 hi.2.1 hchk) (by
                    have hv := hi.2.2.1
                    have e9 : st = [] := est
                    subst e9
                    exact ty_vs_0 hv) hi.2.2.2
                obtain ⟨σg, mg, ag, ig⟩ := hent
                have claim : ∀ (N : Nat) (σ1 : ty_Sg) (C1 : ty_C), ty_agr (ty_k h S.1) σ σ1 → ty_in h cp σ1 G C1 → (∀ m, ty_pref C1 sp.2.2.2.1 sp.2.2.1.1 = some m → (sp.2.2.1.2 = true → 6442450944 ≤ ty_kp m + N) ∧ (sp.2.2.1.2 = false → ty_kp m ≤ N)) → ty_res h cp M d P pc C1 σ S.1 (l.filter (fun o => !(Nat.beq o.1 pc))) := by
                  intro N
                  induction N with
                  | zero =>
                    intro σ1 C1 a1 i1 hN
                    obtain ⟨o, om, σ2, C2, m2, a2, i2, r2⟩ := hstep (pc :: act) G o1 l e1 e2 σ1 C1 i1
                    cases hq : Nat.beq o.1 pc with
                    | false => exact ⟨o, List.mem_filter.mpr ⟨om, by rw [hq]; rfl⟩, σ2, C2, mg.tr m2, a1.tr a2 mg.k, i2, r2⟩
                    | true =>
                      have ha := hall o om
                      rw [hq] at ha
                      obtain ⟨_, ma, mb, w1, w2, w3, w4⟩ := ty_arr_ok hG ha hi mg a1 i1 m2 a2 i2
                      have hz := hN ma w1
                      have u1 := ty_kp_hi ma
                      have u2 := ty_kp_lo ma
                      cases hup : sp.2.2.1.2 with
                      | true => have := hz.1 hup; omega
                      | false => have := hz.2 hup; omega
                  | succ N ih =>
                    intro σ1 C1 a1 i1 hN
                    obtain ⟨o, om, σ2, C2, m2, a2, i2, r2⟩ := hstep (pc :: act) G o1 l e1 e2 σ1 C1 i1
                    cases hq : Nat.beq o.1 pc with
                    | false => exact ⟨o, List.mem_filter.mpr ⟨om, by rw [hq]; rfl⟩, σ2, C2, mg.tr m2, a1.tr a2 mg.k, i2, r2⟩
                    | true =>
                      have ha := hall o om
                      rw [hq] at ha
                      obtain ⟨⟨σ3, a3, i3⟩, ma, mb, w1, w2, w3, w4⟩ := ty_arr_ok hG ha hi mg a1 i1 m2 a2 i2
                      have hz := hN ma w1
                      obtain ⟨o4, om4, σ4, C4, m4, a4, i4, r4⟩ := ih σ3 C2 a3 i3 (fun m hm => by
                        rw [w2] at hm
                        cases hm
                        refine ⟨fun hup => ?_, fun hup => ?_⟩
                        · have := hz.1 hup; have := w3 hup; omega
                        · have := hz.2 hup; have := w4 hup; omega)
                      have eo := ix_beq.mp hq
                      rw [eo] at r2
                      exact ⟨o4, om4, σ4, C4, m4, a4, i4, r2.tr r4⟩
                exact claim 6442450944 σg C ag ig (fun m _ => by
                  have u1 := ty_kp_hi m
                  exact ⟨fun _ => by omega, fun _ => by omega⟩)
end TYO
