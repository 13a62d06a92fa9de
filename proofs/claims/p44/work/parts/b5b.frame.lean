/-! frames: the flags' row, the class's images -/
section FRG
variable {A : Nat → Prop} {outs : List (Nat × ix_S)}
/-- rows that stores of booleans go to aren't the flags' row; a hall's laws are a row of texts -/
def Iv (n : Nat) (t : ix_T) : Prop := n ≤ 16384 ∧ 84 < n ∧ (ix_g t 84).1 = 2 ∧ (ix_g t 34).1 = 5 ∧ (∀ i, i < n → (ix_g t i).1 = 112 → ∀ f, f = 15 ∨ f = 32 ∨ f = 39 → ix_g (ix_g t i).2.2 f ≠ .inr (.inr (.inl 85)) ∧ ix_g (ix_g t i).2.2 f ≠ .inr (.inr (.inl 35))) ∧ (∀ i, i < n → (ix_g t i).1 = 101 → ∀ j, ix_g (ix_g t i).2.2 8 = .inr (.inr (.inl (j + 1))) → j < n ∧ (ix_g t j).1 = 4) ∧ (ix_g t 79).1 = 112 ∧ ix_g (ix_g t 79).2.2 6 = .inr (.inr (.inl 85))
def Gr (n : Nat) (t : ix_T) (n' : Nat) (t' : ix_T) : Prop := Iv n t → Iv n' t' ∧ n ≤ n' ∧ ix_g t' 84 = ix_g t 84 ∧ ix_g t' 34 = ix_g t 34
theorem Gr.rf {n : Nat} {t : ix_T} : Gr n t n t := fun h => ⟨h, Nat.le_refl _, rfl, rfl⟩
theorem Gr.tr {n n1 n2 : Nat} {t t1 t2 : ix_T} (h1 : Gr n t n1 t1) (h2 : Gr n1 t1 n2 t2) : Gr n t n2 t2 := fun h => by
  obtain ⟨a1, a2, a3, a4⟩ := h1 h
  obtain ⟨b1, b2, b3, b4⟩ := h2 a1
  exact ⟨b1, Nat.le_trans a2 b2, b3.trans a3, b4.trans a4⟩
theorem Gr.of {n : Nat} {t t' : ix_T} (h84 : ix_g t' 84 = ix_g t 84) (h34 : ix_g t' 34 = ix_g t 34) (hk : ∀ j, j < n → j < 16384 → (ix_g t' j).1 = (ix_g t j).1) (h112 : ∀ j, j < n → j < 16384 → (ix_g t j).1 = 112 → ∀ f, f = 6 ∨ f = 15 ∨ f = 32 ∨ f = 39 → ix_g (ix_g t' j).2.2 f = ix_g (ix_g t j).2.2 f) (h101 : ∀ j, j < n → j < 16384 → (ix_g t j).1 = 101 → ix_g (ix_g t' j).2.2 8 = ix_g (ix_g t j).2.2 8) : Gr n t n t' := fun h => by
  obtain ⟨a1, a2, a3, a4, a5, a6, a7, a8⟩ := h
  refine ⟨⟨a1, a2, by rw [h84]; exact a3, by rw [h34]; exact a4, fun i hi hki f hf => ?_, fun i hi hki j hj => ?_, by rw [hk 79 (by omega) (by decide)]; exact a7, by rw [h112 79 (by omega) (by decide) a7 6 (Or.inl rfl)]; exact a8⟩, Nat.le_refl _, h84, h34⟩
  · rw [hk i hi (by omega)] at hki
    rw [h112 i hi (by omega) hki f (Or.inr hf)]
    exact a5 i hi hki f hf
  · rw [hk i hi (by omega)] at hki
    rw [h101 i hi (by omega) hki] at hj
    obtain ⟨b1, b2⟩ := a6 i hi hki j hj
    exact ⟨b1, by rw [hk j b1 (by omega)]; exact b2⟩
def gr_P (A : Nat → Prop) (r : ix_S → ix_R) : Prop := ∀ (B : ix_B) (ls : ix_L) (st : List ix_V) (n : Nat) (t : ix_T) (w : Nat × Nat) (outs : List (Nat × ix_S)), r (B, ls, st, n, t, w) = some outs → ∀ o ∈ outs, A o.1 ∧ Gr n t o.2.2.2.2.1 o.2.2.2.2.2.1
theorem fr_N.G {r : ix_S → ix_R} (h : fr_N A r) : gr_P A r := fun B ls st n t w outs e o ho => by
  obtain ⟨h1, h2⟩ := h B ls st (n, t, w) outs e o ho
  refine ⟨h1, ?_⟩
  rw [h2]
  exact Gr.rf
theorem gr_w1 {pc : Nat} {S : ix_S} {n : Nat} {t : ix_T} (e : some [(pc, S)] = some outs) (hA : A pc) (hR : Gr n t S.2.2.2.1 S.2.2.2.2.1) : ∀ o ∈ outs, A o.1 ∧ Gr n t o.2.2.2.2.1 o.2.2.2.2.2.1 := by
  cases e
  intro o ho
  cases List.mem_singleton.mp ho
  exact ⟨hA, hR⟩
theorem gr_sN {n : Nat} {t : ix_T} {w : Nat × Nat} (h : ∀ o ∈ outs, A o.1 ∧ o.2.2.2.2 = (n, t, w)) : ∀ o ∈ outs, A o.1 ∧ Gr n t o.2.2.2.2.1 o.2.2.2.2.2.1 := fun o ho => by
  obtain ⟨h1, h2⟩ := h o ho
  refine ⟨h1, ?_⟩
  rw [h2]
  exact Gr.rf
/-- a row is set anew: neither of the two -/
theorem Gr.ar {n i : Nat} {t : ix_T} {f : ix_A} (hi : i < n) (hk : (ix_g t i).1 < 100) (h84 : (ix_g t 84).1 = 2 → ¬ i = 84) (h34 : (ix_g t 34).1 = 5 → ¬ i = 34) : Gr n t n (ix_u 14 t i ((ix_g t i).1, (ix_g t i).2.1, f)) := fun h => by
  have hn := h.1
  have e84 := h84 h.2.2.1
  have e34 := h34 h.2.2.2.1
  have g : ∀ j, j < 16384 → ix_g (ix_u 14 t i ((ix_g t i).1, (ix_g t i).2.1, f)) j = if j = i then ((ix_g t i).1, (ix_g t i).2.1, f) else ix_g t j := fun j hj => ix_gu 14 t i j _ (by show i < 16384; omega) hj
  refine Gr.of (by rw [g 84 (by decide), if_neg (fun q => e84 q.symm)]) (by rw [g 34 (by decide), if_neg (fun q => e34 q.symm)]) (fun j _ hj => ?_) (fun j _ hj hkj f hf => ?_) (fun j _ hj hkj => ?_) h
  · rw [g j hj]
    by_cases q : j = i
    · rw [if_pos q, q]
    · rw [if_neg q]
  · rw [g j hj, if_neg (fun q => by subst q; omega)]
  · rw [g j hj, if_neg (fun q => by subst q; omega)]
def gr_X (ci k : Nat) : Bool := (Nat.beq ci 112 && (Nat.beq k 6 || (Nat.beq k 15 || (Nat.beq k 32 || Nat.beq k 39)))) || (Nat.beq ci 101 && Nat.beq k 8)
theorem gp4_putf {ci k nx : Nat} {ok : ix_V → Bool} (h : A nx) (hk : k < 64) (hc100 : 100 ≤ ci) (hq : gr_X ci k = false) : gr_P A (ix_putf ci k nx ok) := by
  intro B ls st n t w outs e
  rcases st with _ | ⟨v, _ | ⟨a, st⟩⟩
  · exact fr_no e
  · exact fr_no e
  · rcases a with a | a | a | a
    · exact fr_no e
    · exact fr_no e
    · cases a with
      | zero => exact fr_no e
      | succ i =>
        change cond (Nat.blt i n && ok v) (cond (Nat.beq (ix_g t i).1 ci && Nat.blt k (ix_g t i).2.1) (some [(nx, (B, ls, st, n, ix_u 14 t i ((ix_g t i).1, (ix_g t i).2.1, ix_u 6 (ix_g t i).2.2 k v), w))]) none) none = some outs at e
        cases hb : (Nat.blt i n && ok v) with
        | false => rw [hb] at e; cases e
        | true =>
          rw [hb, cond_true] at e
          have hi := ix_blt.mp (Bool.and_eq_true_iff.mp hb).1
          cases hb2 : (Nat.beq (ix_g t i).1 ci && Nat.blt k (ix_g t i).2.1) with
          | false => rw [hb2] at e; cases e
          | true =>
            rw [hb2, cond_true] at e
            have hc : (ix_g t i).1 = ci := ix_beq.mp (Bool.and_eq_true_iff.mp hb2).1
            refine gr_w1 e h (fun hv => ?_)
            have hn := hv.1
            have e84 : ¬ i = 84 := fun q => by rw [q, hv.2.2.1] at hc; omega
            have e34 : ¬ i = 34 := fun q => by rw [q, hv.2.2.2.1] at hc; omega
            have g : ∀ j, j < 16384 → ix_g (ix_u 14 t i ((ix_g t i).1, (ix_g t i).2.1, ix_u 6 (ix_g t i).2.2 k v)) j = if j = i then ((ix_g t i).1, (ix_g t i).2.1, ix_u 6 (ix_g t i).2.2 k v) else ix_g t j := fun j hj => ix_gu 14 t i j _ (by show i < 16384; omega) hj
            have sl : ∀ j f, j < 16384 → f < 64 → (j = i → ¬ f = k) → ix_g (ix_g (ix_u 14 t i ((ix_g t i).1, (ix_g t i).2.1, ix_u 6 (ix_g t i).2.2 k v)) j).2.2 f = ix_g (ix_g t j).2.2 f := fun j f hj hf hne => by
              rw [g j hj]
              by_cases q : j = i
              · rw [if_pos q]
                show ix_g (ix_u 6 (ix_g t i).2.2 k v) f = _
                rw [ix_gu 6 _ k f v (by show k < 64; exact hk) (by show f < 64; exact hf), if_neg (hne q), q]
              · rw [if_neg q]
            refine Gr.of (t' := ix_u 14 t i ((ix_g t i).1, (ix_g t i).2.1, ix_u 6 (ix_g t i).2.2 k v)) (by rw [g 84 (by decide), if_neg (fun q => e84 q.symm)]) (by rw [g 34 (by decide), if_neg (fun q => e34 q.symm)]) (fun j _ hj => ?_) (fun j _ hj hkj f hf => ?_) (fun j _ hj hkj => ?_) hv
            · rw [g j hj]
              by_cases q : j = i
              · rw [if_pos q, q]
              · rw [if_neg q]
            · refine sl j f hj (by omega) (fun q qf => ?_)
              subst q
              subst qf
              have ec : ci = 112 := hc.symm.trans hkj
              rw [ec] at hq
              rcases hf with rfl | rfl | rfl | rfl <;> cases hq
            · refine sl j 8 hj (by decide) (fun q qf => ?_)
              subst q
              subst qf
              have ec : ci = 101 := hc.symm.trans hkj
              rw [ec] at hq
              cases hq
    · exact fr_no e
theorem gp4_ast {k0 k1 pc nx : Nat} {nar : Nat → ix_V → ix_V} {ok : ix_V → Bool} (h : A nx) (hp : A pc) (h1 : k1 < 2 ∨ (3 ≤ k0 ∧ k1 < 5)) : gr_P A (ix_ast k0 k1 pc nx nar ok) := by
  intro B ls st n t w outs e
  rcases st with _ | ⟨v, _ | ⟨j, _ | ⟨a, st⟩⟩⟩
  · exact fr_no e
  · exact fr_no e
  · exact fr_no e
  · rcases a with a | a | a | a
    · exact fr_no e
    · exact fr_no e
    · cases a with
      | zero => exact fr_no e
      | succ i =>
        change cond (Nat.blt i n && ok v) (cond (Nat.ble k0 (ix_g t i).1 && Nat.ble (ix_g t i).1 k1) (match ix_nrm B j with
          | .inl m => cond (Nat.blt m (ix_g t i).2.1) (some [(nx, (B, ls, st, n, ix_u 14 t i ((ix_g t i).1, (ix_g t i).2.1, ix_u (ix_dep (ix_g t i).2.1) (ix_g t i).2.2 m (nar (ix_g t i).1 v)), w))]) none
          | .inr (.inr (.inr (x, _))) => ix_split pc (B, ls, v :: j :: .inr (.inr (.inl (i + 1))) :: st, n, t, w) x
          | _ => none) none) none = some outs at e
        cases hb : (Nat.blt i n && ok v) with
        | false => rw [hb] at e; cases e
        | true =>
          rw [hb, cond_true] at e
          have hi := ix_blt.mp (Bool.and_eq_true_iff.mp hb).1
          cases hb2 : (Nat.ble k0 (ix_g t i).1 && Nat.ble (ix_g t i).1 k1) with
          | false => rw [hb2] at e; cases e
          | true =>
            rw [hb2, cond_true] at e
            have hc0 := ix_ble.mp (Bool.and_eq_true_iff.mp hb2).1
            have hc := ix_ble.mp (Bool.and_eq_true_iff.mp hb2).2
            split at e
            · exact fr_c e (fun e => gr_w1 e h (Gr.ar hi (by omega) (fun q q2 => by rw [q2] at hc hc0; omega) (fun q q2 => by rw [q2] at hc hc0; omega)))
            · exact gr_sN (fr_sp hp e)
            · exact fr_no e
    · exact fr_no e
theorem Gr.nw {n kd len : Nat} {f : ix_A} {t : ix_T} (hn : n < 16384) (h1 : ¬ kd = 112) (h2 : ¬ kd = 101) : Gr n t (Nat.succ n) (ix_u 14 t n (kd, len, f)) := fun h => by
  obtain ⟨a1, a2, a3, a4, a5, a6, a7, a8⟩ := h
  have g : ∀ j, j < 16384 → ix_g (ix_u 14 t n (kd, len, f)) j = if j = n then (kd, len, f) else ix_g t j := fun j hj => ix_gu 14 t n j _ (by show n < 16384; exact hn) hj
  have e84 : ix_g (ix_u 14 t n (kd, len, f)) 84 = ix_g t 84 := by rw [g 84 (by decide), if_neg (by omega)]
  have e34 : ix_g (ix_u 14 t n (kd, len, f)) 34 = ix_g t 34 := by rw [g 34 (by decide), if_neg (by omega)]
  have e79 : ix_g (ix_u 14 t n (kd, len, f)) 79 = ix_g t 79 := by rw [g 79 (by decide), if_neg (by omega)]
  refine ⟨⟨hn, Nat.lt_succ_of_lt a2, by rw [e84]; exact a3, by rw [e34]; exact a4, fun i hi hki f' hf => ?_, fun i hi hki j hj => ?_, by rw [e79]; exact a7, by rw [e79]; exact a8⟩, Nat.le_succ _, e84, e34⟩
  · have hi' : i < n + 1 := hi
    by_cases q : i = n
    · rw [g i (by omega), if_pos q] at hki
      exact absurd hki h1
    · rw [g i (by omega), if_neg q] at hki ⊢
      exact a5 i (by omega) hki f' hf
  · have hi' : i < n + 1 := hi
    by_cases q : i = n
    · rw [g i (by omega), if_pos q] at hki
      exact absurd hki h2
    · rw [g i (by omega), if_neg q] at hki hj
      obtain ⟨b1, b2⟩ := a6 i (by omega) hki j hj
      exact ⟨Nat.lt_succ_of_lt b1, by rw [g j (by omega), if_neg (by omega)]; exact b2⟩
theorem gp4_new {kd len : Nat} {fs : ix_A} {capC capS nx : Nat} (h : A nx) (h1 : ¬ kd = 112) (h2 : ¬ kd = 101) : gr_P A (ix_new kd len fs capC capS nx) := by
  intro B ls st n t w outs e
  obtain ⟨ce, sl⟩ := w
  unfold ix_new at e
  dsimp only at e
  cases hb : (Nat.blt n 16384 && (Nat.ble (Nat.succ ce) capC && Nat.ble (Nat.add sl len) capS)) with
  | false => rw [hb] at e; cases e
  | true =>
    rw [hb, cond_true] at e
    exact gr_w1 e h (Gr.nw (ix_blt.mp (Bool.and_eq_true_iff.mp hb).1) h1 h2)
theorem gp4_newa {kd : Nat} {z : ix_V} {capC capS nx : Nat} (h : A nx) (h1 : ¬ kd = 112) (h2 : ¬ kd = 101) : gr_P A (ix_newa kd z capC capS nx) := by
  intro B ls st n t w outs e
  obtain ⟨ce, sl⟩ := w
  rcases st with _ | ⟨a, st⟩
  · exact fr_no e
  · unfold ix_newa at e
    dsimp only at e
    split at e
    · rename_i m _
      cases hb : (Nat.ble m 16384 && (Nat.blt n 16384 && (Nat.ble (Nat.succ ce) capC && Nat.ble (Nat.add sl m) capS))) with
      | false => rw [hb] at e; cases e
      | true =>
        rw [hb, cond_true] at e
        exact gr_w1 e h (Gr.nw (ix_blt.mp (Bool.and_eq_true_iff.mp (Bool.and_eq_true_iff.mp hb).2).1) h1 h2)
    · exact fr_no e
def gr_C (wr : Nat → Bool) (c : ix_Call) : Prop := ∀ y as B n t outs, wr y = false → c y as B n t = some outs → ∀ o ∈ outs, Gr n t o.2.2.2.1 o.2.2.2.2.1
theorem gp4_call {wr : Nat → Bool} {chk : List ix_V → Nat → ix_T → Bool} {c : ix_Call} {na y mc ms cC cS nx : Nat} (hc : gr_C wr c) (hy : wr y = false) (h : A nx) : gr_P A (ix_call chk c na y mc ms cC cS nx) := by
  intro B ls st n t w outs e
  obtain ⟨ce, sl⟩ := w
  unfold ix_call at e
  dsimp only at e
  split at e
  · rename_i as rest _
    refine fr_c e (fun e => ?_)
    split at e
    · rename_i o2 ho
      cases e
      intro o hm
      obtain ⟨q, q1, rfl⟩ := List.mem_map.mp hm
      exact ⟨h, hc y as B n t o2 hy ho q q1⟩
    · exact fr_no e
  · exact fr_no e
def gr_Q (A : Nat → Prop) (pc : Nat) (r : ix_S → ix_R) : Prop := A pc → gr_P A r
theorem gr_b {x : Bool} {pc : Nat} {a b : ix_S → ix_R} (h1 : gr_Q A pc a) (h2 : gr_Q A pc b) : gr_Q A pc (cond x a b) := by
  cases x
  · exact h2
  · exact h1
theorem gr_l {pc k : Nat} {a : ix_S → ix_R} (h : A k → gr_P A a) : gr_Q A pc (cond (Nat.beq pc k) a ix_no) := fun hp => by
  cases hb : Nat.beq pc k with
  | true => exact h (by rw [← ix_beq.mp hb]; exact hp)
  | false => exact fr_N.G fn_no
/-- what holds at each place, holds to the end -/
theorem fj_loop {P : ix_P} {J : Nat → ix_S → Prop} (hJ : ∀ pc S outs, J pc S → P pc S = some outs → ∀ o ∈ outs, J o.1 o.2) : ∀ (fuel pc : Nat) (S : ix_S) (outs : List ix_S), J pc S → ix_loop P fuel pc S = some outs → ∀ o ∈ outs, J 99999 o
  | 0, pc, S, outs, _, e => fr_nn e
  | g + 1, pc, S, outs, hA, e => by
    change cond (Nat.beq pc 99999) (some [S]) (match P pc S with
      | none => none
      | some outs => (match outs with
        | [] => some []
        | (pc1, S1) :: r => (match r with
          | [] => ix_loop P g pc1 S1
          | _ => outs.foldr (fun o acc => ix_app (ix_loop P g o.1 o.2) acc) (some [])))) = some outs at e
    cases hb : Nat.beq pc 99999 with
    | true =>
      rw [hb, cond_true] at e
      rw [ix_beq.mp hb] at hA
      cases e
      intro o ho
      cases List.mem_singleton.mp ho
      exact hA
    | false =>
      rw [hb, cond_false] at e
      split at e
      · cases e
      · rename_i l hl
        have hs := hJ pc S l hA hl
        have fold : ∀ (l : List (Nat × ix_S)) (outs : List ix_S), (∀ o ∈ l, J o.1 o.2) → l.foldr (fun o acc => ix_app (ix_loop P g o.1 o.2) acc) (some []) = some outs → ∀ o ∈ outs, J 99999 o := by
          intro l
          induction l with
          | nil =>
            intro outs _ e
            have e0 := fr_e0 e
            subst e0
            intro o ho
            cases ho
          | cons q l ih =>
            intro outs hl e
            change ix_app (ix_loop P g q.1 q.2) (l.foldr (fun o acc => ix_app (ix_loop P g o.1 o.2) acc) (some [])) = some outs at e
            unfold ix_app at e
            split at e
            · cases e
            · rename_i x hx
              split at e
              · cases e
              · rename_i y hy
                cases e
                intro o ho
                rcases List.mem_append.mp ho with ho | ho
                · exact fj_loop hJ g q.1 q.2 x (hl q List.mem_cons_self) hx o ho
                · exact ih y (fun o ho => hl o (List.mem_cons_of_mem _ ho)) hy o ho
        rcases l with _ | ⟨⟨pc1, S1⟩, r⟩
        · have e0 := fr_e0 e
          subst e0
          intro o ho
          cases ho
        · rcases r with _ | ⟨q, r⟩
          · exact fj_loop hJ g pc1 S1 outs (hs _ List.mem_cons_self) e
          · exact fold _ outs hs e
theorem gr_loop {P : ix_P} (hP : ∀ pc, A pc → gr_P A (P pc)) (fuel pc : Nat) (S : ix_S) (outs : List ix_S) (hA : A pc) (e : ix_loop P fuel pc S = some outs) : ∀ o ∈ outs, Gr S.2.2.2.1 S.2.2.2.2.1 o.2.2.2.1 o.2.2.2.2.1 := fun o ho =>
  (fj_loop (J := fun pc S' => A pc ∧ Gr S.2.2.2.1 S.2.2.2.2.1 S'.2.2.2.1 S'.2.2.2.2.1) (fun pc S' l hj h q hq => by
    obtain ⟨B, ls, st, n, t, w⟩ := S'
    obtain ⟨z1, z2⟩ := hP pc hj.1 B ls st n t w l h q hq
    exact ⟨z1, hj.2.tr z2⟩) fuel pc S outs ⟨hA, Gr.rf⟩ e o ho).2
end FRG
