/-! frames: five methods by places -/
section FRH
variable {O : ix_O} {outs : List (Nat × ix_S)} {dep : Nat → Option Nat}
def Pv (v : ix_V) : Prop := v ≠ .inr (.inr (.inl 85)) ∧ v ≠ .inr (.inr (.inl 35))
def Jd (n0 : Nat) (t0 : ix_T) (dep : Nat → Option Nat) (pc : Nat) (S : ix_S) : Prop := Gr n0 t0 S.2.2.2.1 S.2.2.2.2.1 ∧ (Iv n0 t0 → ∀ d, dep pc = some d → ∃ v, S.2.2.1[d]? = some v ∧ Pv v)
def JR (dep : Nat → Option Nat) (pc : Nat) (r : ix_S → ix_R) : Prop := ∀ n0 t0 (S : ix_S) (outs : List (Nat × ix_S)), Jd n0 t0 dep pc S → r S = some outs → ∀ o ∈ outs, Jd n0 t0 dep o.1 o.2
theorem jr_b {x : Bool} {pc : Nat} {a b : ix_S → ix_R} (h1 : JR dep pc a) (h2 : JR dep pc b) : JR dep pc (cond x a b) := by
  cases x
  · exact h2
  · exact h1
theorem jr_l {pc k : Nat} {a : ix_S → ix_R} (h : JR dep k a) : JR dep pc (cond (Nat.beq pc k) a ix_no) := by
  cases hb : Nat.beq pc k with
  | true =>
    rw [ix_beq.mp hb]
    exact h
  | false => exact fun n0 t0 S outs _ e => fr_no e
/-- a step to places where nothing is followed -/
theorem jr_n {pc : Nat} {r : ix_S → ix_R} (h : gr_P (fun p => dep p = none) r) : JR dep pc r := fun n0 t0 S outs hj e o ho => by
  obtain ⟨B, ls, st, n, t, w⟩ := S
  obtain ⟨z1, z2⟩ := h B ls st n t w outs e o ho
  exact ⟨hj.1.tr z2, fun _ d hd => by rw [z1] at hd; cases hd⟩
/-- so many values go, so many come -/
def sk (a b : Nat) (N : List Nat) (pc : Nat) (r : ix_S → ix_R) : Prop := ∀ (B : ix_B) (ls : ix_L) (st : List ix_V) (n : Nat) (t : ix_T) (w : Nat × Nat) (outs : List (Nat × ix_S)), r (B, ls, st, n, t, w) = some outs → ∀ o ∈ outs, o.2.2.1 = ls ∧ ((o.1 ∈ N ∧ ∃ xs ys rest : List ix_V, st = xs ++ rest ∧ xs.length = a ∧ o.2.2.2.1 = ys ++ rest ∧ ys.length = b) ∨ (o.1 = pc ∧ o.2.2.2.1 = st))
theorem jr_s {a b d pc : Nat} {N : List Nat} {r : ix_S → ix_R} (hs : sk a b N pc r) (hg : gr_P (fun _ => True) r) (hd : dep pc = some d) (had : a ≤ d) (hN : ∀ nx ∈ N, ∀ d', dep nx = some d' → d' = d - a + b) : JR dep pc r := fun n0 t0 S outs hj e o ho => by
  obtain ⟨B, ls, st, n, t, w⟩ := S
  obtain ⟨_, z2⟩ := hg B ls st n t w outs e o ho
  refine ⟨hj.1.tr z2, fun hi d' hd' => ?_⟩
  obtain ⟨v, v1, v2⟩ := hj.2 hi d hd
  rcases (hs B ls st n t w outs e o ho).2 with ⟨q1, xs, ys, rest, q2, q3, q4, q5⟩ | ⟨q1, q2⟩
  · have e1 := hN _ q1 d' hd'
    refine ⟨v, ?_, v2⟩
    change st[d]? = some v at v1
    rw [q2, List.getElem?_append_right (by omega), q3] at v1
    show o.2.2.2.1[d']? = some v
    rw [q4, List.getElem?_append_right (by omega), q5, e1, show d - a + b - b = d - a by omega]
    exact v1
  · rw [q1, hd] at hd'
    cases hd'
    refine ⟨v, ?_, v2⟩
    show o.2.2.2.1[d]? = some v
    rw [q2]
    exact v1
/-- the reference of a row, read -/
theorem jr_g {ci f pc nx : Nat} (hN : ∀ d', dep nx = some d' → d' = 0) (hcf : (ci = 112 ∧ (f = 15 ∨ f = 32 ∨ f = 39)) ∨ (ci = 101 ∧ f = 8)) : JR dep pc (ix_getf ci f nx) := fun n0 t0 S outs hj e o ho => by
  obtain ⟨B, ls, st, n, t, w⟩ := S
  rcases st with _ | ⟨a, st⟩
  · exact fr_no e
  · rcases a with a | a | a | a
    · exact fr_no e
    · exact fr_no e
    · cases a with
      | zero => exact fr_no e
      | succ i =>
        change cond (Nat.blt i n) (cond (Nat.beq (ix_g t i).1 ci && Nat.blt f (ix_g t i).2.1) (some [(nx, (B, ls, ix_g (ix_g t i).2.2 f :: st, n, t, w))]) none) none = some outs at e
        cases hb : Nat.blt i n with
        | false => rw [hb] at e; cases e
        | true =>
          rw [hb, cond_true] at e
          have hi := ix_blt.mp hb
          cases hb2 : (Nat.beq (ix_g t i).1 ci && Nat.blt f (ix_g t i).2.1) with
          | false => rw [hb2] at e; cases e
          | true =>
            rw [hb2, cond_true] at e
            have hc : (ix_g t i).1 = ci := ix_beq.mp (Bool.and_eq_true_iff.mp hb2).1
            cases e
            cases List.mem_singleton.mp ho
            refine ⟨hj.1, fun hv d' hd' => ?_⟩
            have e0 := hN d' hd'
            subst e0
            refine ⟨_, rfl, ?_⟩
            have hv' : Iv n t := (hj.1 hv).1
            rcases hcf with ⟨e1, e2⟩ | ⟨e1, e2⟩
            · exact hv'.2.2.2.2.1 i hi (hc.trans e1) f e2
            · subst e2
              refine ⟨fun q => ?_, fun q => ?_⟩
              · obtain ⟨b1, b2⟩ := hv'.2.2.2.2.2.1 i hi (hc.trans e1) 84 q
                rw [hv'.2.2.1] at b2
                cases b2
              · obtain ⟨b1, b2⟩ := hv'.2.2.2.2.2.1 i hi (hc.trans e1) 34 q
                rw [hv'.2.2.2.1] at b2
                cases b2
    · exact fr_no e
theorem Gr.pv {n i : Nat} {t : ix_T} {f : ix_A} (hi : i < n) (hk : (ix_g t i).1 < 100) (hp : Pv (.inr (.inr (.inl (i + 1))))) : Gr n t n (ix_u 14 t i ((ix_g t i).1, (ix_g t i).2.1, f)) := Gr.ar hi hk (fun _ q => hp.1 (by rw [q])) (fun _ q => hp.2 (by rw [q]))
theorem jr_ast {k0 k1 pc nx : Nat} {nar : Nat → ix_V → ix_V} {ok : ix_V → Bool} (h1 : k1 < 100) (hd : dep pc = some 2) (hN : dep nx = none) : JR dep pc (ix_ast k0 k1 pc nx nar ok) := fun n0 t0 S outs hj e o ho => by
  obtain ⟨B, ls, st, n, t, w⟩ := S
  rcases st with _ | ⟨v, _ | ⟨j, _ | ⟨a, st⟩⟩⟩
  · exact fr_no e
  · exact fr_no e
  · exact fr_no e
  · rcases a with a | a | a | a
    · exact fr_no e
    · exact fr_no e
    · cases a with
      | zero => exact fr_no e
      | succ i =>
        change cond (Nat.blt i n && ok v) (cond (Nat.ble k0 (ix_g t i).1 && Nat.ble (ix_g t i).1 k1) (match ix_nrm B j with
          | .inl m => cond (Nat.blt m (ix_g t i).2.1) (some [(nx, (B, ls, st, n, ix_u 14 t i ((ix_g t i).1, (ix_g t i).2.1, ix_u (ix_dep (ix_g t i).2.1) (ix_g t i).2.2 m (nar (ix_g t i).1 v)), w))]) none
          | .inr (.inr (.inr (x, _))) => ix_split pc (B, ls, v :: j :: .inr (.inr (.inl (i + 1))) :: st, n, t, w) x
          | _ => none) none) none = some outs at e
        cases hb : (Nat.blt i n && ok v) with
        | false => rw [hb] at e; cases e
        | true =>
          rw [hb, cond_true] at e
          have hi := ix_blt.mp (Bool.and_eq_true_iff.mp hb).1
          cases hb2 : (Nat.ble k0 (ix_g t i).1 && Nat.ble (ix_g t i).1 k1) with
          | false => rw [hb2] at e; cases e
          | true =>
            rw [hb2, cond_true] at e
            have hc := ix_ble.mp (Bool.and_eq_true_iff.mp hb2).2
            split at e
            · refine fr_c e (fun e => ?_)
              cases e
              cases List.mem_singleton.mp ho
              refine ⟨fun hv => ?_, fun _ d' hd' => by rw [hN] at hd'; cases hd'⟩
              obtain ⟨u, u1, u2⟩ := hj.2 hv 2 hd
              have eu : u = .inr (.inr (.inl (i + 1))) := (Option.some.inj u1).symm
              subst eu
              exact (hj.1.tr (Gr.pv hi (show (ix_g t i).1 < 100 by omega) u2)) hv
            · obtain ⟨q1, q2⟩ := fn_split e o ho
              obtain ⟨p, B', R⟩ := o
              dsimp only at q1 q2
              subst q1
              subst q2
              exact hj
            · exact fr_no e
    · exact fr_no e
theorem jr_aast {pc nx : Nat} (hd : dep pc = some 2) (hN : dep nx = none) : JR dep pc (ix_aast pc nx) := fun n0 t0 S outs hj e o ho => by
  obtain ⟨B, ls, st, n, t, w⟩ := S
  rcases st with _ | ⟨v, _ | ⟨j, _ | ⟨a, st⟩⟩⟩
  · exact fr_no e
  · rcases v with v | v | v | v <;> exact fr_no e
  · rcases v with v | v | v | v <;> exact fr_no e
  · rcases v with v | v | v | v
    · exact fr_no e
    · exact fr_no e
    · rcases a with a | a | a | a
      · exact fr_no e
      · exact fr_no e
      · cases a with
        | zero => exact fr_no e
        | succ i =>
          change cond (Nat.blt i n) (cond ((Nat.beq (ix_g t i).1 4 || Nat.beq (ix_g t i).1 5) && ix_aok (ix_g t i).1 v n t) (match ix_nrm B j with
            | .inl m => cond (Nat.blt m (ix_g t i).2.1) (some [(nx, (B, ls, st, n, ix_u 14 t i ((ix_g t i).1, (ix_g t i).2.1, ix_u (ix_dep (ix_g t i).2.1) (ix_g t i).2.2 m (.inr (.inr (.inl v)))), w))]) none
            | .inr (.inr (.inr (x, _))) => ix_split pc (B, ls, .inr (.inr (.inl v)) :: j :: .inr (.inr (.inl (i + 1))) :: st, n, t, w) x
            | _ => none) none) none = some outs at e
          cases hb : Nat.blt i n with
          | false => rw [hb] at e; cases e
          | true =>
            rw [hb, cond_true] at e
            have hi := ix_blt.mp hb
            cases hb2 : ((Nat.beq (ix_g t i).1 4 || Nat.beq (ix_g t i).1 5) && ix_aok (ix_g t i).1 v n t) with
            | false => rw [hb2] at e; cases e
            | true =>
              rw [hb2, cond_true] at e
              have hc : (ix_g t i).1 < 100 := by
                rcases (Bool.or_eq_true _ _).mp (Bool.and_eq_true_iff.mp hb2).1 with z | z
                · have := ix_beq.mp z; omega
                · have := ix_beq.mp z; omega
              split at e
              · refine fr_c e (fun e => ?_)
                cases e
                cases List.mem_singleton.mp ho
                refine ⟨fun hv => ?_, fun _ d' hd' => by rw [hN] at hd'; cases hd'⟩
                obtain ⟨u, u1, u2⟩ := hj.2 hv 2 hd
                have eu : u = .inr (.inr (.inl (i + 1))) := (Option.some.inj u1).symm
                subst eu
                exact (hj.1.tr (Gr.pv hi hc u2)) hv
              · obtain ⟨q1, q2⟩ := fn_split e o ho
                obtain ⟨p, B', R⟩ := o
                dsimp only at q1 q2
                subst q1
                subst q2
                exact hj
              · exact fr_no e
      · exact fr_no e
    · exact fr_no e
theorem sk_one {pc pc' a b : Nat} {N : List Nat} {S : ix_S} {ls : ix_L} {st xs ys rest : List ix_V} (e : some [(pc', S)] = some outs) (h0 : S.2.1 = ls) (hN : pc' ∈ N) (h1 : st = xs ++ rest) (h2 : xs.length = a) (h3 : S.2.2.1 = ys ++ rest) (h4 : ys.length = b) : ∀ o ∈ outs, o.2.2.1 = ls ∧ ((o.1 ∈ N ∧ ∃ xs ys rest : List ix_V, st = xs ++ rest ∧ xs.length = a ∧ o.2.2.2.1 = ys ++ rest ∧ ys.length = b) ∨ (o.1 = pc ∧ o.2.2.2.1 = st)) := by
  cases e
  intro o ho
  cases List.mem_singleton.mp ho
  exact ⟨h0, Or.inl ⟨hN, xs, ys, rest, h1, h2, h3, h4⟩⟩
theorem sk_sp {pc a b x : Nat} {N : List Nat} {S : ix_S} {ls : ix_L} {st : List ix_V} (e : ix_split pc S x = some outs) (h : S.2.2.1 = st) (h0 : S.2.1 = ls) : ∀ o ∈ outs, o.2.2.1 = ls ∧ ((o.1 ∈ N ∧ ∃ xs ys rest : List ix_V, st = xs ++ rest ∧ xs.length = a ∧ o.2.2.2.1 = ys ++ rest ∧ ys.length = b) ∨ (o.1 = pc ∧ o.2.2.2.1 = st)) := fun o ho => by
  obtain ⟨q1, q2⟩ := fn_split e o ho
  exact ⟨by rw [q2]; exact h0, Or.inr ⟨q1, by rw [q2]; exact h⟩⟩
/-- the places that follow: their depths -/
noncomputable def jn (dep : Nat → Option Nat) (d : Nat) : List Nat → Bool
  | [] => true
  | x :: N => (match dep x with
    | some d' => Nat.beq d' d
    | none => true) && jn dep d N
theorem jn_ok {d : Nat} : ∀ {N : List Nat}, jn dep d N = true → ∀ nx ∈ N, ∀ d', dep nx = some d' → d' = d
  | [], _, nx, h, _, _ => by cases h
  | x :: N, h, nx, hm, d', hd => by
    have c := Bool.and_eq_true_iff.mp (show ((match dep x with
      | some d' => Nat.beq d' d
      | none => true) && jn dep d N) = true from h)
    rcases List.mem_cons.mp hm with rfl | hm
    · have c1 := c.1
      rw [hd] at c1
      exact ix_beq.mp c1
    · exact jn_ok c.2 nx hm d' hd
theorem sk_load {pc : Nat} {ok : ix_V → Bool} {i nx : Nat} : sk 0 1 [nx] pc (ix_load ok i nx) := by
  intro B ls st n t w outs e
  unfold ix_load at e
  dsimp only at e
  split at e
  · exact fr_c e (fun e => sk_one e rfl List.mem_cons_self (xs := []) (ys := [_]) (rest := st) rfl rfl rfl rfl)
  · exact fr_no e
theorem sk_push {pc : Nat} {v : ix_V} {nx : Nat} : sk 0 1 [nx] pc (ix_push nx v) := by
  intro B ls st n t w outs e
  exact sk_one e rfl List.mem_cons_self (xs := []) (ys := [_]) (rest := st) rfl rfl rfl rfl
theorem sk_goto {pc : Nat} {nx : Nat} : sk 0 0 [nx] pc (ix_goto nx) := by
  intro B ls st n t w outs e
  exact sk_one e rfl List.mem_cons_self (xs := []) (ys := []) (rest := st) rfl rfl rfl rfl
theorem sk_getf {pc : Nat} {ci k nx : Nat} : sk 1 1 [nx] pc (ix_getf ci k nx) := by
  intro B ls st n t w outs e
  rcases st with _ | ⟨a, st⟩
  · exact fr_no e
  · rcases a with a | a | a | a
    · exact fr_no e
    · exact fr_no e
    · cases a with
      | zero => exact fr_no e
      | succ i => exact fr_c (show cond (Nat.blt i n) (cond (Nat.beq (ix_g t i).1 ci && Nat.blt k (ix_g t i).2.1) (some [(nx, (B, ls, ix_g (ix_g t i).2.2 k :: st, n, t, w))]) none) none = some outs from e) (fun e => fr_c e (fun e => sk_one e rfl List.mem_cons_self (xs := [_]) (ys := [_]) (rest := st) rfl rfl rfl rfl))
    · exact fr_no e
theorem sk_iadd {pc : Nat} {nx : Nat} : sk 2 1 [nx] pc (ix_iadd nx) := by
  intro B ls st n t w outs e
  rcases st with _ | ⟨b, _ | ⟨a, st⟩⟩
  · exact fr_no e
  · exact fr_no e
  · unfold ix_iadd at e
    dsimp only at e
    split at e
    · exact sk_one e rfl List.mem_cons_self (xs := [_, _]) (ys := [_]) (rest := st) rfl rfl rfl rfl
    · exact fr_no e
theorem sk_isub {pc : Nat} {nx : Nat} : sk 2 1 [nx] pc (ix_isub nx) := by
  intro B ls st n t w outs e
  rcases st with _ | ⟨b, _ | ⟨a, st⟩⟩
  · exact fr_no e
  · exact fr_no e
  · unfold ix_isub at e
    dsimp only at e
    split at e
    · exact sk_one e rfl List.mem_cons_self (xs := [_, _]) (ys := [_]) (rest := st) rfl rfl rfl rfl
    · exact fr_no e
theorem sk_ibin {pc : Nat} {op : Nat → Nat → Nat} {nx : Nat} : sk 2 1 [nx] pc (ix_ibin op pc nx) := by
  intro B ls st n t w outs e
  rcases st with _ | ⟨b, _ | ⟨a, st⟩⟩
  · exact fr_no e
  · exact fr_no e
  · unfold ix_ibin at e
    dsimp only at e
    split at e
    · exact sk_one e rfl List.mem_cons_self (xs := [_, _]) (ys := [_]) (rest := st) rfl rfl rfl rfl
    · split at e
      · rename_i r hr
        cases e
        exact sk_sp hr rfl rfl
      · exact sk_one e rfl List.mem_cons_self (xs := [_, _]) (ys := [_]) (rest := st) rfl rfl rfl rfl
    · split at e
      · rename_i r hr
        cases e
        exact sk_sp hr rfl rfl
      · exact sk_one e rfl List.mem_cons_self (xs := [_, _]) (ys := [_]) (rest := st) rfl rfl rfl rfl
    · exact sk_one e rfl List.mem_cons_self (xs := [_, _]) (ys := [_]) (rest := st) rfl rfl rfl rfl
    · exact fr_no e
theorem sk_idiv {pc : Nat} {op : Nat → Nat → Nat} {nx : Nat} : sk 2 1 [nx] pc (ix_idiv op pc nx) := by
  intro B ls st n t w outs e
  rcases st with _ | ⟨b, _ | ⟨a, st⟩⟩
  · exact fr_no e
  · exact fr_no e
  · unfold ix_idiv at e
    dsimp only at e
    split at e
    · exact fr_d e (fun e => sk_one e rfl List.mem_cons_self (xs := [_, _]) (ys := [_]) (rest := st) rfl rfl rfl rfl)
    · refine fr_d e (fun e => ?_)
      split at e
      · rename_i r hr
        cases e
        exact sk_sp hr rfl rfl
      · exact sk_one e rfl List.mem_cons_self (xs := [_, _]) (ys := [_]) (rest := st) rfl rfl rfl rfl
    · exact fr_no e
theorem sk_iun {pc : Nat} {op : Nat → Nat} {nx : Nat} : sk 1 1 [nx] pc (ix_iun op nx) := by
  intro B ls st n t w outs e
  rcases st with _ | ⟨a, st⟩
  · exact fr_no e
  · unfold ix_iun at e
    dsimp only at e
    split at e
    · exact sk_one e rfl List.mem_cons_self (xs := [_]) (ys := [_]) (rest := st) rfl rfl rfl rfl
    · exact sk_one e rfl List.mem_cons_self (xs := [_]) (ys := [_]) (rest := st) rfl rfl rfl rfl
    · exact fr_no e
theorem sk_iald {pc : Nat} {O : ix_O} {nx : Nat} : sk 2 1 [nx] pc (ix_iald O pc nx) := by
  intro B ls st n t w outs e
  rcases st with _ | ⟨j, _ | ⟨a, st⟩⟩
  · exact fr_no e
  · exact fr_no e
  · rcases a with a | a | a | a
    · exact fr_no e
    · exact fr_no e
    · cases a with
      | zero => exact fr_no e
      | succ i =>
        change (match cond (Nat.blt i n) (cond (Nat.beq (ix_g t i).1 0) (some (ix_g t i).2) none) (cond (Nat.blt i 1000000) none (O i)) with
          | some (len, f) => (match ix_nrm B j with
            | .inl m => cond (Nat.blt m len) (some [(nx, (B, ls, ix_g f m :: st, n, t, w))]) none
            | .inr (.inr (.inr (x, _))) => ix_split pc (B, ls, j :: .inr (.inr (.inl (i + 1))) :: st, n, t, w) x
            | _ => none)
          | none => none) = some outs at e
        split at e
        · split at e
          · exact fr_c e (fun e => sk_one e rfl List.mem_cons_self (xs := [_, _]) (ys := [_]) (rest := st) rfl rfl rfl rfl)
          · exact sk_sp e rfl rfl
          · exact fr_no e
        · exact fr_no e
    · exact fr_no e
theorem sk_ald {pc : Nat} {k0 k1 nx : Nat} : sk 2 1 [nx] pc (ix_ald k0 k1 pc nx) := by
  intro B ls st n t w outs e
  rcases st with _ | ⟨j, _ | ⟨a, st⟩⟩
  · exact fr_no e
  · exact fr_no e
  · rcases a with a | a | a | a
    · exact fr_no e
    · exact fr_no e
    · cases a with
      | zero => exact fr_no e
      | succ i =>
        change cond (Nat.blt i n) (cond (Nat.ble k0 (ix_g t i).1 && Nat.ble (ix_g t i).1 k1) (match ix_nrm B j with
          | .inl m => cond (Nat.blt m (ix_g t i).2.1) (some [(nx, (B, ls, ix_g (ix_g t i).2.2 m :: st, n, t, w))]) none
          | .inr (.inr (.inr (x, _))) => ix_split pc (B, ls, j :: .inr (.inr (.inl (i + 1))) :: st, n, t, w) x
          | _ => none) none) none = some outs at e
        refine fr_c e (fun e => fr_c e (fun e => ?_))
        split at e
        · exact fr_c e (fun e => sk_one e rfl List.mem_cons_self (xs := [_, _]) (ys := [_]) (rest := st) rfl rfl rfl rfl)
        · exact sk_sp e rfl rfl
        · exact fr_no e
    · exact fr_no e
theorem sk_br {pc a y z : Nat} {r : Option (List ix_B × List ix_B)} {st xs rest : List ix_V} {ls : ix_L} {W : Nat × (ix_T × (Nat × Nat))} (e : ix_br r y z (ls, rest, W) = some outs) (h1 : st = xs ++ rest) (h2 : xs.length = a) : ∀ o ∈ outs, o.2.2.1 = ls ∧ ((o.1 ∈ [y, z] ∧ ∃ xs ys rest : List ix_V, st = xs ++ rest ∧ xs.length = a ∧ o.2.2.2.1 = ys ++ rest ∧ ys.length = 0) ∨ (o.1 = pc ∧ o.2.2.2.1 = st)) := by
  unfold ix_br at e
  split at e
  · cases e
    intro o ho
    rcases List.mem_append.mp ho with ho | ho
    · obtain ⟨b, _, rfl⟩ := List.mem_map.mp ho
      exact ⟨rfl, Or.inl ⟨List.mem_cons_self, xs, [], rest, h1, h2, rfl, rfl⟩⟩
    · obtain ⟨b, _, rfl⟩ := List.mem_map.mp ho
      exact ⟨rfl, Or.inl ⟨List.mem_cons_of_mem _ List.mem_cons_self, xs, [], rest, h1, h2, rfl, rfl⟩⟩
  · cases e
theorem sk_icmp {pc tgt nx : Nat} {lt neg swap : Bool} : sk 2 0 [cond neg nx tgt, cond neg tgt nx] pc (ix_icmp lt neg swap tgt nx) := by
  intro B ls st n t w outs e
  rcases st with _ | ⟨b, _ | ⟨a, st⟩⟩
  · exact fr_no e
  · exact fr_no e
  · exact sk_br e (xs := [b, a]) rfl rfl
theorem sk_if {pc tgt nx : Nat} {lt neg swap : Bool} : sk 1 0 [cond neg nx tgt, cond neg tgt nx] pc (ix_if lt neg swap tgt nx) := by
  intro B ls st n t w outs e
  rcases st with _ | ⟨a, st⟩
  · exact fr_no e
  · exact sk_br e (xs := [a]) rfl rfl
theorem sk_take : ∀ (k : Nat) (acc st as rest : List ix_V), ix_take k acc st = some (as, rest) → ∃ xs, st = xs ++ rest ∧ xs.length = k
  | 0, acc, st, as, rest, e => by
    cases (show some (acc, st) = some (as, rest) from e)
    exact ⟨[], rfl, rfl⟩
  | k + 1, acc, [], as, rest, e => by cases (show (none : Option (List ix_V × List ix_V)) = some (as, rest) from e)
  | k + 1, acc, v :: st, as, rest, e => by
    obtain ⟨xs, h1, h2⟩ := sk_take k (v :: acc) st as rest e
    exact ⟨v :: xs, by rw [h1]; rfl, by rw [List.length_cons, h2]⟩
/-- calls that leave one value -/
def ln_C (ys : List Nat) (c : ix_Call) : Prop := ∀ y as B n t outs, y ∈ ys → c y as B n t = some outs → ∀ o ∈ outs, o.2.2.1.length = 1
theorem sk_call {pc na y mc ms cC cS nx : Nat} {ys : List Nat} {chk : List ix_V → Nat → ix_T → Bool} {c : ix_Call} (hl : ln_C ys c) (hy : y ∈ ys) : sk na 1 [nx] pc (ix_call chk c na y mc ms cC cS nx) := by
  intro B ls st n t w outs e
  obtain ⟨ce, sl⟩ := w
  unfold ix_call at e
  dsimp only at e
  split at e
  · rename_i as rest htk
    refine fr_c e (fun e => ?_)
    split at e
    · rename_i o2 ho2
      cases e
      intro o ho
      obtain ⟨q, q1, rfl⟩ := List.mem_map.mp ho
      obtain ⟨xs, h1, h2⟩ := sk_take na [] st as rest htk
      exact ⟨rfl, Or.inl ⟨List.mem_cons_self, xs, q.2.2.1, rest, h1, h2, rfl, hl y as B n t o2 hy ho2 q q1⟩⟩
    · exact fr_no e
  · exact fr_no e
/-- one value is left at the end -/
def ln_P (L : Nat) (r : ix_S → ix_R) : Prop := ∀ (S : ix_S) (outs : List (Nat × ix_S)), r S = some outs → ∀ o ∈ outs, o.1 = 99999 → o.2.2.2.1.length = L
theorem ln_b {L : Nat} {x : Bool} {a b : ix_S → ix_R} (h1 : ln_P L a) (h2 : ln_P L b) : ln_P L (cond x a b) := by
  cases x
  · exact h2
  · exact h1
theorem ln_l {L pc k : Nat} {a : ix_S → ix_R} (h : ln_P L a) : ln_P L (cond (Nat.beq pc k) a ix_no) := by
  cases Nat.beq pc k
  · exact fun S outs e => fr_no e
  · exact h
theorem ln_n {L : Nat} {r : ix_S → ix_R} (h : fr_N (fun p => ¬ p = 99999) r) : ln_P L r := fun S outs e o ho q => by
  obtain ⟨B, ls, st, W⟩ := S
  exact absurd q (h B ls st W outs e o ho).1
theorem ln_g {L : Nat} {r : ix_S → ix_R} (h : gr_P (fun p => ¬ p = 99999) r) : ln_P L r := fun S outs e o ho q => by
  obtain ⟨B, ls, st, n, t, w⟩ := S
  exact absurd q (h B ls st n t w outs e o ho).1
theorem ln_ret {ok : ix_V → Bool} : ln_P 1 (ix_ret ok) := fun S outs e o ho _ => by
  obtain ⟨B, ls, st, W⟩ := S
  rcases st with _ | ⟨a, _ | ⟨b, st⟩⟩
  · exact fr_no e
  · unfold ix_ret at e
    dsimp only at e
    refine fr_c e (fun e => ?_)
    cases e
    cases List.mem_singleton.mp ho
    rfl
  · exact fr_no e
theorem ln_retv : ln_P 0 ix_retv := fun S outs e o ho _ => by
  obtain ⟨B, ls, st, W⟩ := S
  rcases st with _ | ⟨a, st⟩
  · cases (show some [(99999, (B, [], [], W))] = some outs from e)
    cases List.mem_singleton.mp ho
    rfl
  · exact fr_no e
theorem ln_call {L : Nat} {chk : List ix_V → Nat → ix_T → Bool} {c : ix_Call} {na y mc ms cC cS nx : Nat} (h : ¬ nx = 99999) : ln_P L (ix_call chk c na y mc ms cC cS nx) := fun S outs e o ho q => by
  obtain ⟨B, ls, st, n, t, ce, sl⟩ := S
  unfold ix_call at e
  dsimp only at e
  split at e
  · refine fr_c e (fun e => ?_)
    split at e
    · cases e
      obtain ⟨p, p1, rfl⟩ := List.mem_map.mp ho
      exact absurd q h
    · exact fr_no e
  · exact fr_no e
theorem ln_loop {L : Nat} {P : ix_P} (hP : ∀ pc, ln_P L (P pc)) (fuel : Nat) (S : ix_S) (outs : List ix_S) (e : ix_loop P fuel 0 S = some outs) : ∀ o ∈ outs, o.2.2.1.length = L := fun o ho =>
  (fj_loop (J := fun pc S' => pc = 99999 → S'.2.2.1.length = L) (fun pc S' l _ h q hq => hP pc S' l h q hq) fuel 0 S outs (fun q => absurd q (by decide)) e o ho) rfl
set_option maxRecDepth 100000 in
theorem ln_X12_told {c : ix_Call} (pc : Nat) : ln_P 1 (ix_cX12_told O c pc) := (ln_b (ln_b (ln_b (ln_b (ln_b (ln_b (ln_l (ln_n (fn_load (by decide)))) (ln_b (ln_l (ln_n (fn_getf (by decide)))) (ln_l (ln_n (fn_push (by decide)))))) (ln_b (ln_b (ln_l (ln_n (fn_iald (by decide) (by decide)))) (ln_l (ln_n (fn_push (by decide))))) (ln_b (ln_l (ln_n (fn_icmp (by decide) (by decide)))) (ln_l (ln_n (fn_load (by decide))))))) (ln_b (ln_b (ln_l ln_ret) (ln_b (ln_l (ln_n (fn_load (by decide)))) (ln_l (ln_n (fn_push (by decide)))))) (ln_b (ln_b (ln_l (ln_g (gp4_putf (by decide) (by decide) (by decide) rfl))) (ln_l (ln_n (fn_load (by decide))))) (ln_b (ln_l (ln_n (fn_i2l (by decide)))) (ln_l (ln_n (fn_lstore (by decide)))))))) (ln_b (ln_b (ln_b (ln_l (ln_n (fn_load (by decide)))) (ln_b (ln_l (ln_n (fn_push (by decide)))) (ln_l (ln_n (fn_load (by decide)))))) (ln_b (ln_b (ln_l (ln_n (fn_getf (by decide)))) (ln_l (ln_n (fn_push (by decide))))) (ln_b (ln_l (ln_n (fn_iald (by decide) (by decide)))) (ln_l (ln_n (fn_ibin (by decide) (by decide))))))) (ln_b (ln_b (ln_b (ln_l (ln_g (gp4_putf (by decide) (by decide) (by decide) rfl))) (ln_l (ln_n (fn_load (by decide))))) (ln_b (ln_l (ln_n (fn_load (by decide)))) (ln_l (ln_n (fn_getf (by decide)))))) (ln_b (ln_b (ln_l (ln_n (fn_load (by decide)))) (ln_l (ln_n (fn_getf (by decide))))) (ln_b (ln_l (ln_n (fn_push (by decide)))) (ln_l (ln_n (fn_load (by decide))))))))) (ln_b (ln_b (ln_b (ln_b (ln_l (ln_n (fn_getf (by decide)))) (ln_b (ln_l (ln_n (fn_push (by decide)))) (ln_l (ln_n (fn_iald (by decide) (by decide)))))) (ln_b (ln_b (ln_l (ln_n (fn_iadd (by decide)))) (ln_l (ln_n (fn_iald (by decide) (by decide))))) (ln_b (ln_l (ln_n (fn_iadd (by decide)))) (ln_l (ln_g (gp4_putf (by decide) (by decide) (by decide) rfl)))))) (ln_b (ln_b (ln_b (ln_l (ln_n (fn_load (by decide)))) (ln_l (ln_n (fn_getf (by decide))))) (ln_b (ln_l (ln_n (fn_load (by decide)))) (ln_l (ln_n (fn_getf (by decide)))))) (ln_b (ln_b (ln_l (ln_n (fn_icmp (by decide) (by decide)))) (ln_l (ln_n (fn_load (by decide))))) (ln_b (ln_l (ln_n (fn_load (by decide)))) (ln_l (ln_n (fn_getf (by decide)))))))) (ln_b (ln_b (ln_b (ln_l (ln_call (by decide))) (ln_b (ln_l (ln_n (fn_store (by decide)))) (ln_l (ln_n (fn_load (by decide)))))) (ln_b (ln_b (ln_l (ln_n (fn_push (by decide)))) (ln_l (ln_g (gp4_putf (by decide) (by decide) (by decide) rfl)))) (ln_b (ln_l (ln_n (fn_load (by decide)))) (ln_l (ln_n (fn_dup (by decide))))))) (ln_b (ln_b (ln_b (ln_l (ln_n (fn_getf (by decide)))) (ln_l (ln_n (fn_push (by decide))))) (ln_b (ln_l (ln_n (fn_iadd (by decide)))) (ln_l (ln_g (gp4_putf (by decide) (by decide) (by decide) rfl))))) (ln_b (ln_b (ln_l (ln_n (fn_load (by decide)))) (ln_l (ln_n (fn_push (by decide))))) (ln_b (ln_l (ln_n (fn_icmp (by decide) (by decide)))) (ln_l (ln_n (fn_load (by decide)))))))))) (ln_b (ln_b (ln_b (ln_b (ln_b (ln_l (ln_n (fn_push (by decide)))) (ln_b (ln_l (ln_call (by decide))) (ln_l (ln_n (fn_goto (by decide)))))) (ln_b (ln_b (ln_l (ln_n (fn_push (by decide)))) (ln_l (ln_n (fn_lstore (by decide))))) (ln_b (ln_l (ln_n (fn_load (by decide)))) (ln_l (ln_n (fn_getf (by decide))))))) (ln_b (ln_b (ln_l (ln_n (fn_store (by decide)))) (ln_b (ln_l (ln_n (fn_load (by decide)))) (ln_l (ln_n (fn_push (by decide)))))) (ln_b (ln_b (ln_l (ln_g (gp4_putf (by decide) (by decide) (by decide) rfl))) (ln_l (ln_n (fn_load (by decide))))) (ln_b (ln_l (ln_n (fn_push (by decide)))) (ln_l (ln_call (by decide))))))) (ln_b (ln_b (ln_b (ln_l (ln_n (fn_if (by decide) (by decide)))) (ln_b (ln_l (ln_n (fn_load (by decide)))) (ln_l (ln_n (fn_push (by decide)))))) (ln_b (ln_b (ln_l (ln_call (by decide))) (ln_l (ln_n (fn_if (by decide) (by decide))))) (ln_b (ln_l (ln_n (fn_push (by decide)))) (ln_l (ln_n (fn_goto (by decide))))))) (ln_b (ln_b (ln_b (ln_l (ln_n (fn_push (by decide)))) (ln_l (ln_n (fn_store (by decide))))) (ln_b (ln_l (ln_n (fn_load (by decide)))) (ln_l (ln_n (fn_load (by decide)))))) (ln_b (ln_b (ln_l (ln_n (fn_icmp (by decide) (by decide)))) (ln_l (ln_n (fn_load (by decide))))) (ln_b (ln_l (ln_n (fn_if (by decide) (by decide)))) (ln_l (ln_n (fn_load (by decide))))))))) (ln_b (ln_b (ln_b (ln_b (ln_l (ln_n (fn_getf (by decide)))) (ln_b (ln_l (ln_n (fn_if (by decide) (by decide)))) (ln_l (ln_n (fn_load (by decide)))))) (ln_b (ln_b (ln_l (ln_n (fn_if (by decide) (by decide)))) (ln_l (ln_n (fn_load (by decide))))) (ln_b (ln_l (ln_n (fn_push (by decide)))) (ln_l (ln_n (fn_lcmp (by decide))))))) (ln_b (ln_b (ln_b (ln_l (ln_n (fn_if (by decide) (by decide)))) (ln_l (ln_n (fn_push (by decide))))) (ln_b (ln_l (ln_n (fn_goto (by decide)))) (ln_l (ln_n (fn_load (by decide)))))) (ln_b (ln_b (ln_l (ln_n (fn_load (by decide)))) (ln_l (ln_n (fn_i2l (by decide))))) (ln_b (ln_l (ln_n (fn_lcmp (by decide)))) (ln_l (ln_n (fn_if (by decide) (by decide)))))))) (ln_b (ln_b (ln_b (ln_l (ln_n (fn_load (by decide)))) (ln_b (ln_l (ln_n (fn_i2l (by decide)))) (ln_l (ln_n (fn_goto (by decide)))))) (ln_b (ln_b (ln_l (ln_n (fn_load (by decide)))) (ln_l (ln_n (fn_lstore (by decide))))) (ln_b (ln_l (ln_n (fn_load (by decide)))) (ln_l (ln_n (fn_dup (by decide))))))) (ln_b (ln_b (ln_b (ln_l (ln_n (fn_getf (by decide)))) (ln_l (ln_n (fn_push (by decide))))) (ln_b (ln_l (ln_n (fn_iadd (by decide)))) (ln_l (ln_g (gp4_putf (by decide) (by decide) (by decide) rfl))))) (ln_b (ln_b (ln_l (ln_n (fn_goto (by decide)))) (ln_l (ln_n (fn_load (by decide))))) (ln_b (ln_l (ln_n (fn_l2i (by decide)))) (ln_l ln_ret))))))))
set_option maxRecDepth 100000 in
theorem ln_X12_arePaired {c : ix_Call} (pc : Nat) : ln_P 1 (ix_cX12_arePaired O c pc) := (ln_b (ln_b (ln_b (ln_b (ln_b (ln_l (ln_n (fn_load (by decide)))) (ln_l (ln_n (fn_getf (by decide))))) (ln_b (ln_l (ln_n (fn_push (by decide)))) (ln_l (ln_n (fn_load (by decide)))))) (ln_b (ln_b (ln_l (ln_n (fn_ibin (by decide) (by decide)))) (ln_l (ln_n (fn_load (by decide))))) (ln_b (ln_l (ln_n (fn_getf (by decide)))) (ln_b (ln_l (ln_n (fn_push (by decide)))) (ln_l (ln_n (fn_push (by decide)))))))) (ln_b (ln_b (ln_b (ln_l (ln_n (fn_load (by decide)))) (ln_l (ln_n (fn_ibin (by decide) (by decide))))) (ln_b (ln_l (ln_n (fn_iadd (by decide)))) (ln_b (ln_l (ln_n (fn_iald (by decide) (by decide)))) (ln_l (ln_n (fn_iadd (by decide))))))) (ln_b (ln_b (ln_l (ln_n (fn_iald (by decide) (by decide)))) (ln_l (ln_n (fn_push (by decide))))) (ln_b (ln_l (ln_n (fn_icmp (by decide) (by decide)))) (ln_b (ln_l (ln_n (fn_load (by decide)))) (ln_l (ln_n (fn_getf (by decide))))))))) (ln_b (ln_b (ln_b (ln_b (ln_l (ln_n (fn_push (by decide)))) (ln_l (ln_n (fn_load (by decide))))) (ln_b (ln_l (ln_n (fn_ibin (by decide) (by decide)))) (ln_l (ln_n (fn_load (by decide)))))) (ln_b (ln_b (ln_l (ln_n (fn_getf (by decide)))) (ln_l (ln_n (fn_push (by decide))))) (ln_b (ln_l (ln_n (fn_push (by decide)))) (ln_b (ln_l (ln_n (fn_load (by decide)))) (ln_l (ln_n (fn_ibin (by decide) (by decide)))))))) (ln_b (ln_b (ln_b (ln_l (ln_n (fn_iadd (by decide)))) (ln_l (ln_n (fn_iald (by decide) (by decide))))) (ln_b (ln_l (ln_n (fn_iadd (by decide)))) (ln_b (ln_l (ln_n (fn_iald (by decide) (by decide)))) (ln_l (ln_n (fn_push (by decide))))))) (ln_b (ln_b (ln_l (ln_n (fn_icmp (by decide) (by decide)))) (ln_l (ln_n (fn_push (by decide))))) (ln_b (ln_l (ln_n (fn_goto (by decide)))) (ln_b (ln_l (ln_n (fn_push (by decide)))) (ln_l ln_ret)))))))
set_option maxRecDepth 100000 in
theorem ln_X4_init {c : ix_Call} (pc : Nat) : ln_P 0 (ix_cX4_init O c pc) := (ln_b (ln_b (ln_b (ln_b (ln_l (ln_n (fn_load (by decide)))) (ln_l (ln_n (fn_obj (by decide))))) (ln_b (ln_l (ln_n (fn_load (by decide)))) (ln_b (ln_l (ln_n (fn_load (by decide)))) (ln_l (ln_g (gp4_putf (by decide) (by decide) (by decide) rfl)))))) (ln_b (ln_b (ln_l (ln_n (fn_load (by decide)))) (ln_l (ln_n (fn_load (by decide))))) (ln_b (ln_l (ln_g (gp4_putf (by decide) (by decide) (by decide) rfl))) (ln_b (ln_l (ln_n (fn_load (by decide)))) (ln_l (ln_n (fn_load (by decide)))))))) (ln_b (ln_b (ln_b (ln_l (ln_n (fn_load (by decide)))) (ln_l (ln_n (fn_ibin (by decide) (by decide))))) (ln_b (ln_l (ln_n (fn_push (by decide)))) (ln_b (ln_l (ln_n (fn_m2 (by decide)))) (ln_l (ln_g (gp4_newa (by decide) (by decide) (by decide))))))) (ln_b (ln_b (ln_l (ln_g (gp4_putf (by decide) (by decide) (by decide) rfl))) (ln_l (ln_n (fn_load (by decide))))) (ln_b (ln_l (ln_n (fn_push (by decide)))) (ln_b (ln_l (ln_g (gp4_putf (by decide) (by decide) (by decide) rfl))) (ln_l ln_retv))))))
noncomputable def dp_X12_laysFog (pc : Nat) : Option Nat := cond (Nat.beq pc 130) (some 0) (cond (Nat.beq pc 132) (some 1) (cond (Nat.beq pc 133) (some 2) (cond (Nat.beq pc 134) (some 1) (cond (Nat.beq pc 135) (some 2) (cond (Nat.beq pc 136) (some 1) (cond (Nat.beq pc 137) (some 2) (cond (Nat.beq pc 138) (some 3) (cond (Nat.beq pc 139) (some 4) (cond (Nat.beq pc 140) (some 5) (cond (Nat.beq pc 143) (some 2) (cond (Nat.beq pc 144) (some 3) (cond (Nat.beq pc 147) (some 1) (cond (Nat.beq pc 148) (some 2) (cond (Nat.beq pc 151) (some 1) (cond (Nat.beq pc 152) (some 2) (none))))))))))))))))
set_option maxRecDepth 100000 in
set_option maxHeartbeats 4000000 in
theorem jm_X12_laysFog {c : ix_Call} (hc : gr_C gr_W c) (hl : ln_C [211, 95] c) (pc : Nat) : JR dp_X12_laysFog pc (ix_cX12_laysFog O c pc) := (jr_b (jr_b (jr_b (jr_b (jr_b (jr_b (jr_l (jr_n (fr_N.G (fn_load rfl)))) (jr_l (jr_n (fr_N.G (fn_getf rfl))))) (jr_b (jr_l (jr_n (fr_N.G (fn_load rfl)))) (jr_b (jr_l (jr_n (fr_N.G (fn_getf rfl)))) (jr_l (jr_n (fr_N.G (fn_icmp rfl rfl))))))) (jr_b (jr_b (jr_l (jr_n (fr_N.G (fn_load rfl)))) (jr_b (jr_l (jr_n (fr_N.G (fn_getf rfl)))) (jr_l (jr_n (fr_N.G (fn_load rfl)))))) (jr_b (jr_l (jr_n (fr_N.G (fn_getf rfl)))) (jr_b (jr_l (jr_n (fr_N.G (fn_push rfl)))) (jr_l (jr_n (fr_N.G (fn_iald rfl rfl)))))))) (jr_b (jr_b (jr_b (jr_l (jr_n (fr_N.G (fn_icmp rfl rfl)))) (jr_b (jr_l (jr_n (fr_N.G (fn_retv rfl)))) (jr_l (jr_n (fr_N.G (fn_load rfl)))))) (jr_b (jr_l (jr_n (fr_N.G (fn_load rfl)))) (jr_b (jr_l (jr_n (fr_N.G (fn_getf rfl)))) (jr_l (jr_n (gp4_putf rfl (by decide) (by decide) rfl)))))) (jr_b (jr_b (jr_l (jr_n (fr_N.G (fn_load rfl)))) (jr_b (jr_l (jr_n (fr_N.G (fn_load rfl)))) (jr_l (jr_n (fr_N.G (fn_getf rfl)))))) (jr_b (jr_l (jr_n (fr_N.G (fn_push rfl)))) (jr_b (jr_l (jr_n (fr_N.G (fn_iald rfl rfl)))) (jr_l (jr_n (gp4_putf rfl (by decide) (by decide) rfl)))))))) (jr_b (jr_b (jr_b (jr_b (jr_l (jr_n (fr_N.G (fn_push rfl)))) (jr_b (jr_l (jr_n (fr_N.G (fn_store rfl)))) (jr_l (jr_n (fr_N.G (fn_load rfl)))))) (jr_b (jr_l (jr_n (fr_N.G (fn_push rfl)))) (jr_b (jr_l (jr_n (fr_N.G (fn_icmp rfl rfl)))) (jr_l (jr_n (fr_N.G (fn_push rfl))))))) (jr_b (jr_b (jr_l (jr_n (fr_N.G (fn_store rfl)))) (jr_b (jr_l (jr_n (fr_N.G (fn_load rfl)))) (jr_l (jr_n (fr_N.G (fn_push rfl)))))) (jr_b (jr_l (jr_n (fr_N.G (fn_icmp rfl rfl)))) (jr_b (jr_l (jr_n (fr_N.G (fn_push rfl)))) (jr_l (jr_n (fr_N.G (fn_store rfl)))))))) (jr_b (jr_b (jr_b (jr_l (jr_n (fr_N.G (fn_load rfl)))) (jr_b (jr_l (jr_n (fr_N.G (fn_push rfl)))) (jr_l (jr_n (fr_N.G (fn_icmp rfl rfl)))))) (jr_b (jr_l (jr_n (fr_N.G (fn_load rfl)))) (jr_b (jr_l (jr_n (fr_N.G (fn_getf rfl)))) (jr_l (jr_n (fr_N.G (fn_load rfl))))))) (jr_b (jr_b (jr_l (jr_n (fr_N.G (fn_push rfl)))) (jr_b (jr_l (jr_n (gp4_ast rfl rfl (by decide)))) (jr_l (jr_n (fr_N.G (fn_iinc rfl)))))) (jr_b (jr_l (jr_n (fr_N.G (fn_goto rfl)))) (jr_b (jr_l (jr_n (fr_N.G (fn_load rfl)))) (jr_l (jr_n (fr_N.G (fn_getf rfl)))))))))) (jr_b (jr_b (jr_b (jr_b (jr_b (jr_l (jr_n (fr_N.G (fn_push rfl)))) (jr_b (jr_l (jr_n (fr_N.G (fn_load rfl)))) (jr_l (jr_n (fr_N.G (fn_push rfl)))))) (jr_b (jr_l (jr_n (fr_N.G (fn_idiv rfl rfl)))) (jr_b (jr_l (jr_n (gp4_ast rfl rfl (by decide)))) (jr_l (jr_n (fr_N.G (fn_load rfl))))))) (jr_b (jr_b (jr_l (jr_n (fr_N.G (fn_getf rfl)))) (jr_b (jr_l (jr_n (fr_N.G (fn_push rfl)))) (jr_l (jr_n (fr_N.G (fn_load rfl)))))) (jr_b (jr_l (jr_n (fr_N.G (fn_push rfl)))) (jr_b (jr_l (jr_n (fr_N.G (fn_idiv rfl rfl)))) (jr_l (jr_n (gp4_ast rfl rfl (by decide)))))))) (jr_b (jr_b (jr_b (jr_l (jr_n (fr_N.G (fn_load rfl)))) (jr_b (jr_l (jr_n (fr_N.G (fn_getf rfl)))) (jr_l (jr_n (fr_N.G (fn_push rfl)))))) (jr_b (jr_l (jr_n (fr_N.G (fn_load rfl)))) (jr_b (jr_l (jr_n (gp4_ast rfl rfl (by decide)))) (jr_l (jr_n (fr_N.G (fn_load rfl))))))) (jr_b (jr_b (jr_l (jr_n (fr_N.G (fn_getf rfl)))) (jr_b (jr_l (jr_n (fr_N.G (fn_push rfl)))) (jr_l (jr_n (fr_N.G (fn_load rfl)))))) (jr_b (jr_l (jr_n (fr_N.G (fn_getf rfl)))) (jr_b (jr_l (jr_n (fr_N.G (fn_push rfl)))) (jr_l (jr_n (fr_N.G (fn_iald rfl rfl))))))))) (jr_b (jr_b (jr_b (jr_b (jr_l (jr_n (gp4_ast rfl rfl (by decide)))) (jr_b (jr_l (jr_n (fr_N.G (fn_load rfl)))) (jr_l (jr_g (fun d' h => (Option.some.inj h).symm) (by decide))))) (jr_b (jr_l (jr_s (d := 0) sk_push (fr_N.G (fn_push trivial)) rfl (by decide) (jn_ok rfl))) (jr_b (jr_l (jr_s (d := 1) sk_load (fr_N.G (fn_load trivial)) rfl (by decide) (jn_ok rfl))) (jr_l (jr_s (d := 2) sk_ibin (fr_N.G (fn_ibin trivial trivial)) rfl (by decide) (jn_ok rfl)))))) (jr_b (jr_b (jr_l (jr_s (d := 1) sk_load (fr_N.G (fn_load trivial)) rfl (by decide) (jn_ok rfl))) (jr_b (jr_l (jr_s (d := 2) sk_iadd (fr_N.G (fn_iadd trivial)) rfl (by decide) (jn_ok rfl))) (jr_l (jr_s (d := 1) sk_load (fr_N.G (fn_load trivial)) rfl (by decide) (jn_ok rfl))))) (jr_b (jr_l (jr_s (d := 2) sk_push (fr_N.G (fn_push trivial)) rfl (by decide) (jn_ok rfl))) (jr_b (jr_l (jr_s (d := 3) sk_push (fr_N.G (fn_push trivial)) rfl (by decide) (jn_ok rfl))) (jr_l (jr_s (d := 4) sk_push (fr_N.G (fn_push trivial)) rfl (by decide) (jn_ok rfl))))))) (jr_b (jr_b (jr_b (jr_l (jr_s (d := 5) (sk_call hl (by decide)) (gp4_call hc rfl trivial) rfl (by decide) (jn_ok rfl))) (jr_b (jr_l (jr_s (d := 2) sk_push (fr_N.G (fn_push trivial)) rfl (by decide) (jn_ok rfl))) (jr_l (jr_s (d := 3) sk_icmp (fr_N.G (fn_icmp trivial trivial)) rfl (by decide) (jn_ok rfl))))) (jr_b (jr_l (jr_s (d := 1) sk_push (fr_N.G (fn_push trivial)) rfl (by decide) (jn_ok rfl))) (jr_b (jr_l (jr_s (d := 2) sk_goto (fr_N.G (fn_goto trivial)) rfl (by decide) (jn_ok rfl))) (jr_l (jr_s (d := 1) sk_push (fr_N.G (fn_push trivial)) rfl (by decide) (jn_ok rfl)))))) (jr_b (jr_b (jr_l (jr_ast (by decide) rfl rfl)) (jr_b (jr_l (jr_n (fr_N.G (fn_iinc rfl)))) (jr_l (jr_n (fr_N.G (fn_goto rfl)))))) (jr_b (jr_l (jr_n (fr_N.G (fn_iinc rfl)))) (jr_b (jr_l (jr_n (fr_N.G (fn_goto rfl)))) (jr_l (jr_n (fr_N.G (fn_retv rfl)))))))))))
noncomputable def dp_X12_looks (pc : Nat) : Option Nat := cond (Nat.beq pc 83) (some 0) (cond (Nat.beq pc 84) (some 1) (cond (Nat.beq pc 85) (some 2) (cond (Nat.beq pc 104) (some 0) (cond (Nat.beq pc 105) (some 1) (cond (Nat.beq pc 106) (some 2) (cond (Nat.beq pc 109) (some 2) (cond (Nat.beq pc 110) (some 3) (cond (Nat.beq pc 111) (some 2) (cond (Nat.beq pc 114) (some 1) (cond (Nat.beq pc 115) (some 2) (cond (Nat.beq pc 116) (some 3) (cond (Nat.beq pc 119) (some 1) (cond (Nat.beq pc 120) (some 2) (cond (Nat.beq pc 121) (some 3) (cond (Nat.beq pc 122) (some 4) (cond (Nat.beq pc 125) (some 2) (cond (Nat.beq pc 128) (some 1) (cond (Nat.beq pc 129) (some 2) (cond (Nat.beq pc 132) (some 1) (cond (Nat.beq pc 133) (some 2) (none)))))))))))))))))))))
set_option maxRecDepth 100000 in
set_option maxHeartbeats 4000000 in
theorem jm_X12_looks {c : ix_Call} (hc : gr_C gr_W c) (hl : ln_C [211, 95] c) (pc : Nat) : JR dp_X12_looks pc (ix_cX12_looks O c pc) := (jr_b (jr_b (jr_b (jr_b (jr_b (jr_b (jr_b (jr_l (jr_n (fr_N.G (fn_load rfl)))) (jr_l (jr_n (fr_N.G (fn_getf rfl))))) (jr_b (jr_l (jr_n (fr_N.G (fn_push rfl)))) (jr_b (jr_l (jr_n (fr_N.G (fn_iald rfl rfl)))) (jr_l (jr_n (fr_N.G (fn_store rfl))))))) (jr_b (jr_b (jr_l (jr_n (fr_N.G (fn_load rfl)))) (jr_b (jr_l (jr_n (gp4_call hc rfl rfl))) (jr_l (jr_n (fr_N.G (fn_push rfl)))))) (jr_b (jr_l (jr_n (fr_N.G (fn_store rfl)))) (jr_b (jr_l (jr_n (fr_N.G (fn_load rfl)))) (jr_l (jr_n (fr_N.G (fn_load rfl)))))))) (jr_b (jr_b (jr_b (jr_l (jr_n (fr_N.G (fn_icmp rfl rfl)))) (jr_b (jr_l (jr_n (fr_N.G (fn_load rfl)))) (jr_l (jr_n (fr_N.G (fn_load rfl)))))) (jr_b (jr_l (jr_n (fr_N.G (fn_getf rfl)))) (jr_b (jr_l (jr_n (fr_N.G (fn_push rfl)))) (jr_l (jr_n (fr_N.G (fn_push rfl))))))) (jr_b (jr_b (jr_l (jr_n (fr_N.G (fn_load rfl)))) (jr_b (jr_l (jr_n (fr_N.G (fn_ibin rfl rfl)))) (jr_l (jr_n (fr_N.G (fn_iadd rfl)))))) (jr_b (jr_l (jr_n (fr_N.G (fn_iald rfl rfl)))) (jr_b (jr_l (jr_n (gp4_call hc rfl rfl))) (jr_l (jr_n (fr_N.G (fn_push rfl))))))))) (jr_b (jr_b (jr_b (jr_b (jr_l (jr_n (fr_N.G (fn_store rfl)))) (jr_l (jr_n (fr_N.G (fn_load rfl))))) (jr_b (jr_l (jr_n (fr_N.G (fn_push rfl)))) (jr_b (jr_l (jr_n (fr_N.G (fn_icmp rfl rfl)))) (jr_l (jr_n (fr_N.G (fn_load rfl))))))) (jr_b (jr_b (jr_l (jr_n (fr_N.G (fn_getf rfl)))) (jr_b (jr_l (jr_n (fr_N.G (fn_push rfl)))) (jr_l (jr_n (fr_N.G (fn_load rfl)))))) (jr_b (jr_l (jr_n (fr_N.G (fn_ibin rfl rfl)))) (jr_b (jr_l (jr_n (fr_N.G (fn_load rfl)))) (jr_l (jr_n (fr_N.G (fn_iadd rfl)))))))) (jr_b (jr_b (jr_b (jr_l (jr_n (fr_N.G (fn_load rfl)))) (jr_b (jr_l (jr_n (fr_N.G (fn_getf rfl)))) (jr_l (jr_n (fr_N.G (fn_load rfl)))))) (jr_b (jr_l (jr_n (fr_N.G (fn_iald rfl rfl)))) (jr_b (jr_l (jr_n (gp4_ast rfl rfl (by decide)))) (jr_l (jr_n (fr_N.G (fn_iinc rfl))))))) (jr_b (jr_b (jr_l (jr_n (fr_N.G (fn_goto rfl)))) (jr_b (jr_l (jr_n (fr_N.G (fn_iinc rfl)))) (jr_l (jr_n (fr_N.G (fn_goto rfl)))))) (jr_b (jr_l (jr_n (fr_N.G (fn_push rfl)))) (jr_b (jr_l (jr_n (fr_N.G (fn_store rfl)))) (jr_l (jr_n (fr_N.G (fn_load rfl)))))))))) (jr_b (jr_b (jr_b (jr_b (jr_b (jr_l (jr_n (fr_N.G (fn_load rfl)))) (jr_l (jr_n (fr_N.G (fn_icmp rfl rfl))))) (jr_b (jr_l (jr_n (fr_N.G (fn_load rfl)))) (jr_b (jr_l (jr_g (fun d' h => (Option.some.inj h).symm) (by decide))) (jr_l (jr_s (d := 0) sk_load (fr_N.G (fn_load trivial)) rfl (by decide) (jn_ok rfl)))))) (jr_b (jr_b (jr_l (jr_s (d := 1) sk_push (fr_N.G (fn_push trivial)) rfl (by decide) (jn_ok rfl))) (jr_b (jr_l (jr_ast (by decide) rfl rfl)) (jr_l (jr_n (fr_N.G (fn_load rfl)))))) (jr_b (jr_l (jr_n (fr_N.G (fn_getf rfl)))) (jr_b (jr_l (jr_n (fr_N.G (fn_load rfl)))) (jr_l (jr_n (fr_N.G (fn_push rfl)))))))) (jr_b (jr_b (jr_b (jr_l (jr_n (gp4_ast rfl rfl (by decide)))) (jr_b (jr_l (jr_n (fr_N.G (fn_push rfl)))) (jr_l (jr_n (fr_N.G (fn_store rfl)))))) (jr_b (jr_l (jr_n (fr_N.G (fn_load rfl)))) (jr_b (jr_l (jr_n (fr_N.G (fn_load rfl)))) (jr_l (jr_n (fr_N.G (fn_icmp rfl rfl))))))) (jr_b (jr_b (jr_l (jr_n (fr_N.G (fn_load rfl)))) (jr_b (jr_l (jr_g (fun d' h => (Option.some.inj h).symm) (by decide))) (jr_l (jr_s (d := 0) sk_load (fr_N.G (fn_load trivial)) rfl (by decide) (jn_ok rfl))))) (jr_b (jr_l (jr_s (d := 1) sk_load (fr_N.G (fn_load trivial)) rfl (by decide) (jn_ok rfl))) (jr_b (jr_l (jr_s (d := 2) sk_getf (fr_N.G (fn_getf trivial)) rfl (by decide) (jn_ok rfl))) (jr_l (jr_s (d := 2) sk_load (fr_N.G (fn_load trivial)) rfl (by decide) (jn_ok rfl)))))))) (jr_b (jr_b (jr_b (jr_b (jr_l (jr_s (d := 3) sk_ald (fr_N.G (fn_ald trivial trivial)) rfl (by decide) (jn_ok rfl))) (jr_l (jr_s (d := 2) sk_if (fr_N.G (fn_if trivial trivial)) rfl (by decide) (jn_ok rfl)))) (jr_b (jr_l (jr_s (d := 1) sk_load (fr_N.G (fn_load trivial)) rfl (by decide) (jn_ok rfl))) (jr_b (jr_l (jr_s (d := 2) sk_load (fr_N.G (fn_load trivial)) rfl (by decide) (jn_ok rfl))) (jr_l (jr_s (d := 3) sk_icmp (fr_N.G (fn_icmp trivial trivial)) rfl (by decide) (jn_ok rfl)))))) (jr_b (jr_b (jr_l (jr_s (d := 1) sk_load (fr_N.G (fn_load trivial)) rfl (by decide) (jn_ok rfl))) (jr_b (jr_l (jr_s (d := 2) sk_load (fr_N.G (fn_load trivial)) rfl (by decide) (jn_ok rfl))) (jr_l (jr_s (d := 3) sk_load (fr_N.G (fn_load trivial)) rfl (by decide) (jn_ok rfl))))) (jr_b (jr_l (jr_s (d := 4) (sk_call hl (by decide)) (gp4_call hc rfl trivial) rfl (by decide) (jn_ok rfl))) (jr_b (jr_l (jr_s (d := 2) sk_if (fr_N.G (fn_if trivial trivial)) rfl (by decide) (jn_ok rfl))) (jr_l (jr_s (d := 1) sk_push (fr_N.G (fn_push trivial)) rfl (by decide) (jn_ok rfl))))))) (jr_b (jr_b (jr_b (jr_l (jr_s (d := 2) sk_goto (fr_N.G (fn_goto trivial)) rfl (by decide) (jn_ok rfl))) (jr_b (jr_l (jr_s (d := 1) sk_push (fr_N.G (fn_push trivial)) rfl (by decide) (jn_ok rfl))) (jr_l (jr_ast (by decide) rfl rfl)))) (jr_b (jr_l (jr_n (fr_N.G (fn_iinc rfl)))) (jr_b (jr_l (jr_n (fr_N.G (fn_goto rfl)))) (jr_l (jr_n (fr_N.G (fn_iinc rfl))))))) (jr_b (jr_b (jr_l (jr_n (fr_N.G (fn_goto rfl)))) (jr_b (jr_l (jr_n (fr_N.G (fn_push rfl)))) (jr_l (jr_n (fr_N.G (fn_store rfl)))))) (jr_b (jr_l (jr_n (fr_N.G (fn_load rfl)))) (jr_b (jr_l (jr_n (fr_N.G (fn_load rfl)))) (jr_l (jr_n (fr_N.G (fn_getf rfl))))))))))) (jr_b (jr_b (jr_b (jr_b (jr_b (jr_b (jr_l (jr_n (fr_N.G (fn_push rfl)))) (jr_l (jr_n (fr_N.G (fn_iald rfl rfl))))) (jr_b (jr_l (jr_n (fr_N.G (fn_icmp rfl rfl)))) (jr_b (jr_l (jr_n (fr_N.G (fn_load rfl)))) (jr_l (jr_n (fr_N.G (fn_getf rfl))))))) (jr_b (jr_b (jr_l (jr_n (fr_N.G (fn_load rfl)))) (jr_b (jr_l (jr_n (fr_N.G (fn_push rfl)))) (jr_l (jr_n (gp4_ast rfl rfl (by decide)))))) (jr_b (jr_l (jr_n (fr_N.G (fn_push rfl)))) (jr_b (jr_l (jr_n (fr_N.G (fn_store rfl)))) (jr_l (jr_n (fr_N.G (fn_load rfl)))))))) (jr_b (jr_b (jr_b (jr_l (jr_n (fr_N.G (fn_load rfl)))) (jr_b (jr_l (jr_n (fr_N.G (fn_icmp rfl rfl)))) (jr_l (jr_n (fr_N.G (fn_load rfl)))))) (jr_b (jr_l (jr_n (fr_N.G (fn_getf rfl)))) (jr_b (jr_l (jr_n (fr_N.G (fn_push rfl)))) (jr_l (jr_n (fr_N.G (fn_load rfl))))))) (jr_b (jr_b (jr_l (jr_n (fr_N.G (fn_ibin rfl rfl)))) (jr_b (jr_l (jr_n (fr_N.G (fn_load rfl)))) (jr_l (jr_n (fr_N.G (fn_iadd rfl)))))) (jr_b (jr_l (jr_n (fr_N.G (fn_load rfl)))) (jr_b (jr_l (jr_n (fr_N.G (fn_load rfl)))) (jr_l (jr_n (fr_N.G (fn_load rfl))))))))) (jr_b (jr_b (jr_b (jr_b (jr_l (jr_n (gp4_call hc rfl rfl))) (jr_l (jr_n (gp4_ast rfl rfl (by decide))))) (jr_b (jr_l (jr_n (fr_N.G (fn_load rfl)))) (jr_b (jr_l (jr_n (fr_N.G (fn_getf rfl)))) (jr_l (jr_n (fr_N.G (fn_load rfl))))))) (jr_b (jr_b (jr_l (jr_n (fr_N.G (fn_dup2 rfl)))) (jr_b (jr_l (jr_n (fr_N.G (fn_iald rfl rfl)))) (jr_l (jr_n (fr_N.G (fn_load rfl)))))) (jr_b (jr_l (jr_n (fr_N.G (fn_getf rfl)))) (jr_b (jr_l (jr_n (fr_N.G (fn_push rfl)))) (jr_l (jr_n (fr_N.G (fn_load rfl)))))))) (jr_b (jr_b (jr_b (jr_l (jr_n (fr_N.G (fn_ibin rfl rfl)))) (jr_b (jr_l (jr_n (fr_N.G (fn_load rfl)))) (jr_l (jr_n (fr_N.G (fn_iadd rfl)))))) (jr_b (jr_l (jr_n (fr_N.G (fn_iald rfl rfl)))) (jr_b (jr_l (jr_n (fr_N.G (fn_iadd rfl)))) (jr_l (jr_n (gp4_ast rfl rfl (by decide))))))) (jr_b (jr_b (jr_l (jr_n (fr_N.G (fn_iinc rfl)))) (jr_b (jr_l (jr_n (fr_N.G (fn_goto rfl)))) (jr_l (jr_n (fr_N.G (fn_push rfl)))))) (jr_b (jr_l (jr_n (fr_N.G (fn_store rfl)))) (jr_b (jr_l (jr_n (fr_N.G (fn_load rfl)))) (jr_l (jr_n (fr_N.G (fn_load rfl)))))))))) (jr_b (jr_b (jr_b (jr_b (jr_b (jr_l (jr_n (fr_N.G (fn_icmp rfl rfl)))) (jr_l (jr_n (fr_N.G (fn_load rfl))))) (jr_b (jr_l (jr_n (fr_N.G (fn_getf rfl)))) (jr_b (jr_l (jr_n (fr_N.G (fn_load rfl)))) (jr_l (jr_n (fr_N.G (fn_dup2 rfl))))))) (jr_b (jr_b (jr_l (jr_n (fr_N.G (fn_iald rfl rfl)))) (jr_b (jr_l (jr_n (fr_N.G (fn_load rfl)))) (jr_l (jr_n (fr_N.G (fn_getf rfl)))))) (jr_b (jr_l (jr_n (fr_N.G (fn_load rfl)))) (jr_b (jr_l (jr_n (fr_N.G (fn_iald rfl rfl)))) (jr_l (jr_n (fr_N.G (fn_if rfl rfl)))))))) (jr_b (jr_b (jr_b (jr_l (jr_n (fr_N.G (fn_push rfl)))) (jr_b (jr_l (jr_n (fr_N.G (fn_goto rfl)))) (jr_l (jr_n (fr_N.G (fn_push rfl)))))) (jr_b (jr_l (jr_n (fr_N.G (fn_load rfl)))) (jr_b (jr_l (jr_n (fr_N.G (fn_getf rfl)))) (jr_l (jr_n (fr_N.G (fn_push rfl))))))) (jr_b (jr_b (jr_l (jr_n (fr_N.G (fn_push rfl)))) (jr_b (jr_l (jr_n (fr_N.G (fn_load rfl)))) (jr_l (jr_n (fr_N.G (fn_ibin rfl rfl)))))) (jr_b (jr_l (jr_n (fr_N.G (fn_iadd rfl)))) (jr_b (jr_l (jr_n (fr_N.G (fn_push rfl)))) (jr_l (jr_n (fr_N.G (fn_iadd rfl))))))))) (jr_b (jr_b (jr_b (jr_b (jr_l (jr_n (fr_N.G (fn_iald rfl rfl)))) (jr_l (jr_n (fr_N.G (fn_ibin rfl rfl))))) (jr_b (jr_l (jr_n (fr_N.G (fn_load rfl)))) (jr_b (jr_l (jr_n (fr_N.G (fn_getf rfl)))) (jr_l (jr_n (fr_N.G (fn_push rfl))))))) (jr_b (jr_b (jr_l (jr_n (fr_N.G (fn_load rfl)))) (jr_b (jr_l (jr_n (fr_N.G (fn_ibin rfl rfl)))) (jr_l (jr_n (fr_N.G (fn_load rfl)))))) (jr_b (jr_l (jr_n (fr_N.G (fn_iadd rfl)))) (jr_b (jr_l (jr_n (fr_N.G (fn_iald rfl rfl)))) (jr_l (jr_n (fr_N.G (fn_ibin rfl rfl)))))))) (jr_b (jr_b (jr_b (jr_l (jr_n (fr_N.G (fn_load rfl)))) (jr_b (jr_l (jr_n (fr_N.G (fn_getf rfl)))) (jr_l (jr_n (fr_N.G (fn_load rfl)))))) (jr_b (jr_l (jr_n (fr_N.G (fn_iald rfl rfl)))) (jr_b (jr_l (jr_n (fr_N.G (fn_idiv rfl rfl)))) (jr_l (jr_n (fr_N.G (fn_iadd rfl))))))) (jr_b (jr_b (jr_l (jr_n (gp4_ast rfl rfl (by decide)))) (jr_b (jr_l (jr_n (fr_N.G (fn_iinc rfl)))) (jr_l (jr_n (fr_N.G (fn_goto rfl)))))) (jr_b (jr_l (jr_n (fr_N.G (fn_iinc rfl)))) (jr_b (jr_l (jr_n (fr_N.G (fn_goto rfl)))) (jr_l (jr_n (fr_N.G (fn_retv rfl))))))))))))
noncomputable def dp_X12_feed (pc : Nat) : Option Nat := cond (Nat.beq pc 66) (some 0) (cond (Nat.beq pc 67) (some 1) (cond (Nat.beq pc 70) (some 1) (cond (Nat.beq pc 72) (some 2) (cond (Nat.beq pc 73) (some 1) (cond (Nat.beq pc 74) (some 2) (cond (Nat.beq pc 77) (some 2) (cond (Nat.beq pc 79) (some 3) (cond (Nat.beq pc 80) (some 4) (cond (Nat.beq pc 81) (some 3) (cond (Nat.beq pc 82) (some 2) (cond (Nat.beq pc 84) (some 3) (cond (Nat.beq pc 86) (some 4) (cond (Nat.beq pc 88) (some 5) (cond (Nat.beq pc 89) (some 6) (cond (Nat.beq pc 90) (some 5) (cond (Nat.beq pc 91) (some 4) (cond (Nat.beq pc 92) (some 3) (cond (Nat.beq pc 93) (some 2) (cond (Nat.beq pc 94) (some 2) (none))))))))))))))))))))
set_option maxRecDepth 100000 in
set_option maxHeartbeats 4000000 in
theorem jm_X12_feed {c : ix_Call} (hc : gr_C gr_W c) (hl : ln_C [211, 95] c) (pc : Nat) : JR dp_X12_feed pc (ix_cX12_feed O c pc) := (jr_b (jr_b (jr_b (jr_b (jr_b (jr_b (jr_l (jr_n (fr_N.G (fn_load rfl)))) (jr_l (jr_n (fr_N.G (fn_getf rfl))))) (jr_b (jr_l (jr_n (fr_N.G (fn_push rfl)))) (jr_l (jr_n (fr_N.G (fn_iadd rfl)))))) (jr_b (jr_b (jr_l (jr_n (fr_N.G (fn_push rfl)))) (jr_l (jr_n (fr_N.G (fn_icmp rfl rfl))))) (jr_b (jr_l (jr_n (fr_N.G (fn_push rfl)))) (jr_l (jr_n (fr_N.G (fn_ret rfl))))))) (jr_b (jr_b (jr_b (jr_l (jr_n (fr_N.G (fn_load rfl)))) (jr_l (jr_n (fr_N.G (fn_getf rfl))))) (jr_b (jr_l (jr_n (fr_N.G (fn_push rfl)))) (jr_l (jr_n (fr_N.G (fn_load rfl)))))) (jr_b (jr_b (jr_l (jr_n (gp4_ast rfl rfl (by decide)))) (jr_l (jr_n (fr_N.G (fn_load rfl))))) (jr_b (jr_l (jr_n (fr_N.G (fn_getf rfl)))) (jr_b (jr_l (jr_n (fr_N.G (fn_push rfl)))) (jr_l (jr_n (fr_N.G (fn_load rfl))))))))) (jr_b (jr_b (jr_b (jr_b (jr_l (jr_n (gp4_ast rfl rfl (by decide)))) (jr_l (jr_n (fr_N.G (fn_load rfl))))) (jr_b (jr_l (jr_n (fr_N.G (fn_getf rfl)))) (jr_l (jr_n (fr_N.G (fn_push rfl)))))) (jr_b (jr_b (jr_l (jr_n (fr_N.G (fn_load rfl)))) (jr_l (jr_n (gp4_ast rfl rfl (by decide))))) (jr_b (jr_l (jr_n (fr_N.G (fn_load rfl)))) (jr_b (jr_l (jr_n (fr_N.G (fn_getf rfl)))) (jr_l (jr_n (fr_N.G (fn_push rfl)))))))) (jr_b (jr_b (jr_b (jr_l (jr_n (fr_N.G (fn_load rfl)))) (jr_l (jr_n (gp4_ast rfl rfl (by decide))))) (jr_b (jr_l (jr_n (fr_N.G (fn_load rfl)))) (jr_l (jr_n (fr_N.G (fn_getf rfl)))))) (jr_b (jr_b (jr_l (jr_n (fr_N.G (fn_push rfl)))) (jr_l (jr_n (fr_N.G (fn_load rfl))))) (jr_b (jr_l (jr_n (gp4_ast rfl rfl (by decide)))) (jr_b (jr_l (jr_n (fr_N.G (fn_push rfl)))) (jr_l (jr_n (fr_N.G (fn_store rfl)))))))))) (jr_b (jr_b (jr_b (jr_b (jr_b (jr_l (jr_n (fr_N.G (fn_load rfl)))) (jr_l (jr_n (fr_N.G (fn_push rfl))))) (jr_b (jr_l (jr_n (fr_N.G (fn_icmp rfl rfl)))) (jr_l (jr_n (fr_N.G (fn_load rfl)))))) (jr_b (jr_b (jr_l (jr_g (fun d' h => (Option.some.inj h).symm) (by decide))) (jr_l (jr_s (d := 0) sk_load (fr_N.G (fn_load trivial)) rfl (by decide) (jn_ok rfl)))) (jr_b (jr_l (jr_s (d := 1) sk_getf (fr_N.G (fn_getf trivial)) rfl (by decide) (jn_ok rfl))) (jr_b (jr_l (jr_s (d := 1) sk_load (fr_N.G (fn_load trivial)) rfl (by decide) (jn_ok rfl))) (jr_l (jr_s (d := 2) sk_iadd (fr_N.G (fn_iadd trivial)) rfl (by decide) (jn_ok rfl))))))) (jr_b (jr_b (jr_b (jr_l (jr_s (d := 1) sk_load (fr_N.G (fn_load trivial)) rfl (by decide) (jn_ok rfl))) (jr_l (jr_s (d := 2) sk_getf (fr_N.G (fn_getf trivial)) rfl (by decide) (jn_ok rfl)))) (jr_b (jr_l (jr_s (d := 2) sk_load (fr_N.G (fn_load trivial)) rfl (by decide) (jn_ok rfl))) (jr_l (jr_s (d := 3) sk_push (fr_N.G (fn_push trivial)) rfl (by decide) (jn_ok rfl))))) (jr_b (jr_b (jr_l (jr_s (d := 4) sk_idiv (fr_N.G (fn_idiv trivial trivial)) rfl (by decide) (jn_ok rfl))) (jr_l (jr_s (d := 3) sk_iald (fr_N.G (fn_iald trivial trivial)) rfl (by decide) (jn_ok rfl)))) (jr_b (jr_l (jr_s (d := 2) sk_push (fr_N.G (fn_push trivial)) rfl (by decide) (jn_ok rfl))) (jr_b (jr_l (jr_s (d := 3) sk_push (fr_N.G (fn_push trivial)) rfl (by decide) (jn_ok rfl))) (jr_l (jr_s (d := 4) sk_load (fr_N.G (fn_load trivial)) rfl (by decide) (jn_ok rfl)))))))) (jr_b (jr_b (jr_b (jr_b (jr_l (jr_s (d := 5) sk_push (fr_N.G (fn_push trivial)) rfl (by decide) (jn_ok rfl))) (jr_l (jr_s (d := 6) sk_idiv (fr_N.G (fn_idiv trivial trivial)) rfl (by decide) (jn_ok rfl)))) (jr_b (jr_l (jr_s (d := 5) sk_ibin (fr_N.G (fn_ibin trivial trivial)) rfl (by decide) (jn_ok rfl))) (jr_l (jr_s (d := 4) sk_isub (fr_N.G (fn_isub trivial)) rfl (by decide) (jn_ok rfl))))) (jr_b (jr_b (jr_l (jr_s (d := 3) sk_ibin (fr_N.G (fn_ibin trivial trivial)) rfl (by decide) (jn_ok rfl))) (jr_l (jr_s (d := 2) sk_iun (fr_N.G (fn_iun trivial)) rfl (by decide) (jn_ok rfl)))) (jr_b (jr_l (jr_ast (by decide) rfl rfl)) (jr_b (jr_l (jr_n (fr_N.G (fn_iinc rfl)))) (jr_l (jr_n (fr_N.G (fn_goto rfl)))))))) (jr_b (jr_b (jr_b (jr_l (jr_n (fr_N.G (fn_load rfl)))) (jr_l (jr_n (fr_N.G (fn_dup rfl))))) (jr_b (jr_l (jr_n (fr_N.G (fn_getf rfl)))) (jr_l (jr_n (fr_N.G (fn_push rfl)))))) (jr_b (jr_b (jr_l (jr_n (fr_N.G (fn_iadd rfl)))) (jr_l (jr_n (gp4_putf rfl (by decide) (by decide) rfl)))) (jr_b (jr_l (jr_n (fr_N.G (fn_load rfl)))) (jr_b (jr_l (jr_n (fr_N.G (fn_getf rfl)))) (jr_l (jr_n (fr_N.G (fn_ret rfl)))))))))))
noncomputable def dp_X1_addLaw (pc : Nat) : Option Nat := cond (Nat.beq pc 25) (some 0) (cond (Nat.beq pc 26) (some 1) (cond (Nat.beq pc 29) (some 1) (cond (Nat.beq pc 30) (some 2) (none))))
set_option maxRecDepth 100000 in
set_option maxHeartbeats 4000000 in
theorem jm_X1_addLaw {c : ix_Call} (hc : gr_C gr_W c) (hl : ln_C [211, 95] c) (pc : Nat) : JR dp_X1_addLaw pc (ix_cX1_addLaw O c pc) := (jr_b (jr_b (jr_b (jr_b (jr_l (jr_n (fr_N.G (fn_load rfl)))) (jr_b (jr_l (jr_n (fr_N.G (fn_getf rfl)))) (jr_l (jr_n (fr_N.G (fn_if rfl rfl)))))) (jr_b (jr_b (jr_l (jr_n (fr_N.G (fn_load rfl)))) (jr_l (jr_n (fr_N.G (fn_getf rfl))))) (jr_b (jr_l (jr_n (fr_N.G (fn_load rfl)))) (jr_l (jr_n (fr_N.G (fn_getf rfl))))))) (jr_b (jr_b (jr_l (jr_n (fr_N.G (fn_alen rfl)))) (jr_b (jr_l (jr_n (fr_N.G (fn_icmp rfl rfl)))) (jr_l (jr_n (fr_N.G (fn_push rfl)))))) (jr_b (jr_b (jr_l (jr_n (fr_N.G (fn_ret rfl)))) (jr_l (jr_n (fr_N.G (fn_load rfl))))) (jr_b (jr_l (jr_g (fun d' h => (Option.some.inj h).symm) (by decide))) (jr_l (jr_s (d := 0) sk_load (fr_N.G (fn_load trivial)) rfl (by decide) (jn_ok rfl))))))) (jr_b (jr_b (jr_b (jr_l (jr_s (d := 1) sk_getf (fr_N.G (fn_getf trivial)) rfl (by decide) (jn_ok rfl))) (jr_b (jr_l (jr_s (d := 1) sk_load (fr_N.G (fn_load trivial)) rfl (by decide) (jn_ok rfl))) (jr_l (jr_aast rfl rfl)))) (jr_b (jr_b (jr_l (jr_n (fr_N.G (fn_load rfl)))) (jr_l (jr_n (fr_N.G (fn_dup rfl))))) (jr_b (jr_l (jr_n (fr_N.G (fn_getf rfl)))) (jr_l (jr_n (fr_N.G (fn_push rfl))))))) (jr_b (jr_b (jr_l (jr_n (fr_N.G (fn_iadd rfl)))) (jr_b (jr_l (jr_n (gp4_putf rfl (by decide) (by decide) rfl))) (jr_l (jr_n (fr_N.G (fn_load rfl)))))) (jr_b (jr_b (jr_l (jr_n (fr_N.G (fn_getf rfl)))) (jr_l (jr_n (fr_N.G (fn_push rfl))))) (jr_b (jr_l (jr_n (fr_N.G (fn_isub rfl)))) (jr_l (jr_n (fr_N.G (fn_ret rfl)))))))))
noncomputable def dp_X1_copy (pc : Nat) : Option Nat := cond (Nat.beq pc 100) (some 0) (cond (Nat.beq pc 101) (some 1) (cond (Nat.beq pc 102) (some 2) (cond (Nat.beq pc 105) (some 2) (cond (Nat.beq pc 106) (some 3) (cond (Nat.beq pc 107) (some 2) (none))))))
set_option maxRecDepth 100000 in
set_option maxHeartbeats 4000000 in
theorem jm_X1_copy {c : ix_Call} (hc : gr_C gr_W c) (hl : ln_C [211, 95] c) (pc : Nat) : JR dp_X1_copy pc (ix_cX1_copy O c pc) := (jr_b (jr_b (jr_b (jr_b (jr_b (jr_b (jr_l (jr_n (fr_N.G (fn_push rfl)))) (jr_b (jr_l (jr_n (fr_N.G (fn_store rfl)))) (jr_l (jr_n (fr_N.G (fn_load rfl)))))) (jr_b (jr_l (jr_n (fr_N.G (fn_load rfl)))) (jr_b (jr_l (jr_n (fr_N.G (fn_getf rfl)))) (jr_l (jr_n (fr_N.G (fn_alen rfl))))))) (jr_b (jr_b (jr_l (jr_n (fr_N.G (fn_icmp rfl rfl)))) (jr_b (jr_l (jr_n (fr_N.G (fn_load rfl)))) (jr_l (jr_n (fr_N.G (fn_load rfl)))))) (jr_b (jr_b (jr_l (jr_n (fr_N.G (fn_getf rfl)))) (jr_l (jr_n (fr_N.G (fn_alen rfl))))) (jr_b (jr_l (jr_n (fr_N.G (fn_icmp rfl rfl)))) (jr_l (jr_n (fr_N.G (fn_load rfl)))))))) (jr_b (jr_b (jr_b (jr_l (jr_n (fr_N.G (fn_getf rfl)))) (jr_b (jr_l (jr_n (fr_N.G (fn_load rfl)))) (jr_l (jr_n (fr_N.G (fn_load rfl)))))) (jr_b (jr_l (jr_n (fr_N.G (fn_getf rfl)))) (jr_b (jr_l (jr_n (fr_N.G (fn_load rfl)))) (jr_l (jr_n (fr_N.G (fn_iald rfl rfl))))))) (jr_b (jr_b (jr_l (jr_n (gp4_ast rfl rfl (by decide)))) (jr_b (jr_l (jr_n (fr_N.G (fn_iinc rfl)))) (jr_l (jr_n (fr_N.G (fn_goto rfl)))))) (jr_b (jr_b (jr_l (jr_n (fr_N.G (fn_push rfl)))) (jr_l (jr_n (fr_N.G (fn_store rfl))))) (jr_b (jr_l (jr_n (fr_N.G (fn_load rfl)))) (jr_l (jr_n (fr_N.G (fn_load rfl))))))))) (jr_b (jr_b (jr_b (jr_b (jr_l (jr_n (fr_N.G (fn_getf rfl)))) (jr_b (jr_l (jr_n (fr_N.G (fn_alen rfl)))) (jr_l (jr_n (fr_N.G (fn_icmp rfl rfl)))))) (jr_b (jr_l (jr_n (fr_N.G (fn_load rfl)))) (jr_b (jr_l (jr_n (fr_N.G (fn_load rfl)))) (jr_l (jr_n (fr_N.G (fn_getf rfl))))))) (jr_b (jr_b (jr_l (jr_n (fr_N.G (fn_alen rfl)))) (jr_b (jr_l (jr_n (fr_N.G (fn_icmp rfl rfl)))) (jr_l (jr_n (fr_N.G (fn_load rfl)))))) (jr_b (jr_b (jr_l (jr_n (fr_N.G (fn_getf rfl)))) (jr_l (jr_n (fr_N.G (fn_load rfl))))) (jr_b (jr_l (jr_n (fr_N.G (fn_load rfl)))) (jr_l (jr_n (fr_N.G (fn_getf rfl)))))))) (jr_b (jr_b (jr_b (jr_l (jr_n (fr_N.G (fn_load rfl)))) (jr_b (jr_l (jr_n (fr_N.G (fn_iald rfl rfl)))) (jr_l (jr_n (gp4_ast rfl rfl (by decide)))))) (jr_b (jr_l (jr_n (fr_N.G (fn_iinc rfl)))) (jr_b (jr_l (jr_n (fr_N.G (fn_goto rfl)))) (jr_l (jr_n (fr_N.G (fn_push rfl))))))) (jr_b (jr_b (jr_l (jr_n (fr_N.G (fn_store rfl)))) (jr_b (jr_l (jr_n (fr_N.G (fn_load rfl)))) (jr_l (jr_n (fr_N.G (fn_load rfl)))))) (jr_b (jr_b (jr_l (jr_n (fr_N.G (fn_getf rfl)))) (jr_l (jr_n (fr_N.G (fn_alen rfl))))) (jr_b (jr_l (jr_n (fr_N.G (fn_icmp rfl rfl)))) (jr_l (jr_n (fr_N.G (fn_load rfl)))))))))) (jr_b (jr_b (jr_b (jr_b (jr_b (jr_l (jr_n (fr_N.G (fn_load rfl)))) (jr_b (jr_l (jr_n (fr_N.G (fn_getf rfl)))) (jr_l (jr_n (fr_N.G (fn_alen rfl)))))) (jr_b (jr_l (jr_n (fr_N.G (fn_icmp rfl rfl)))) (jr_b (jr_l (jr_n (fr_N.G (fn_load rfl)))) (jr_l (jr_g (fun d' h => (Option.some.inj h).symm) (by decide)))))) (jr_b (jr_b (jr_l (jr_s (d := 0) sk_load (fr_N.G (fn_load trivial)) rfl (by decide) (jn_ok rfl))) (jr_b (jr_l (jr_s (d := 1) sk_load (fr_N.G (fn_load trivial)) rfl (by decide) (jn_ok rfl))) (jr_l (jr_s (d := 2) sk_getf (fr_N.G (fn_getf trivial)) rfl (by decide) (jn_ok rfl))))) (jr_b (jr_b (jr_l (jr_s (d := 2) sk_load (fr_N.G (fn_load trivial)) rfl (by decide) (jn_ok rfl))) (jr_l (jr_s (d := 3) sk_ald (fr_N.G (fn_ald trivial trivial)) rfl (by decide) (jn_ok rfl)))) (jr_b (jr_l (jr_aast rfl rfl)) (jr_l (jr_n (fr_N.G (fn_iinc rfl)))))))) (jr_b (jr_b (jr_b (jr_l (jr_n (fr_N.G (fn_goto rfl)))) (jr_b (jr_l (jr_n (fr_N.G (fn_load rfl)))) (jr_l (jr_n (fr_N.G (fn_getf rfl)))))) (jr_b (jr_l (jr_n (fr_N.G (fn_load rfl)))) (jr_b (jr_l (jr_n (fr_N.G (fn_getf rfl)))) (jr_l (jr_n (gp4_call hc rfl rfl)))))) (jr_b (jr_b (jr_l (jr_n (fr_N.G (fn_load rfl)))) (jr_b (jr_l (jr_n (fr_N.G (fn_getf rfl)))) (jr_l (jr_n (fr_N.G (fn_load rfl)))))) (jr_b (jr_b (jr_l (jr_n (fr_N.G (fn_getf rfl)))) (jr_l (jr_n (gp4_call hc rfl rfl)))) (jr_b (jr_l (jr_n (fr_N.G (fn_load rfl)))) (jr_l (jr_n (fr_N.G (fn_getf rfl))))))))) (jr_b (jr_b (jr_b (jr_b (jr_l (jr_n (fr_N.G (fn_load rfl)))) (jr_b (jr_l (jr_n (fr_N.G (fn_getf rfl)))) (jr_l (jr_n (gp4_call hc rfl rfl))))) (jr_b (jr_l (jr_n (fr_N.G (fn_load rfl)))) (jr_b (jr_l (jr_n (fr_N.G (fn_getf rfl)))) (jr_l (jr_n (fr_N.G (fn_load rfl))))))) (jr_b (jr_b (jr_l (jr_n (fr_N.G (fn_getf rfl)))) (jr_b (jr_l (jr_n (gp4_call hc rfl rfl))) (jr_l (jr_n (fr_N.G (fn_load rfl)))))) (jr_b (jr_b (jr_l (jr_n (fr_N.G (fn_getf rfl)))) (jr_l (jr_n (fr_N.G (fn_load rfl))))) (jr_b (jr_l (jr_n (fr_N.G (fn_getf rfl)))) (jr_l (jr_n (gp4_call hc rfl rfl))))))) (jr_b (jr_b (jr_b (jr_l (jr_n (fr_N.G (fn_load rfl)))) (jr_b (jr_l (jr_n (fr_N.G (fn_getf rfl)))) (jr_l (jr_n (fr_N.G (fn_load rfl)))))) (jr_b (jr_b (jr_l (jr_n (fr_N.G (fn_getf rfl)))) (jr_l (jr_n (gp4_call hc rfl rfl)))) (jr_b (jr_l (jr_n (fr_N.G (fn_load rfl)))) (jr_l (jr_n (fr_N.G (fn_load rfl))))))) (jr_b (jr_b (jr_l (jr_n (fr_N.G (fn_getf rfl)))) (jr_b (jr_l (jr_n (gp4_putf rfl (by decide) (by decide) rfl))) (jr_l (jr_n (fr_N.G (fn_load rfl)))))) (jr_b (jr_b (jr_l (jr_n (fr_N.G (fn_load rfl)))) (jr_l (jr_n (fr_N.G (fn_getf rfl))))) (jr_b (jr_l (jr_n (gp4_putf rfl (by decide) (by decide) rfl))) (jr_l (jr_n (fr_N.G (fn_retv rfl)))))))))))
end FRH
