/-! texts: what may follow what, as states; what is kept of texts -/
/-- a state: language, place, brackets of tests, brackets of sums, phase -/
noncomputable def tx_mk (g X a b ph : Nat) : Nat := Nat.add (Nat.mul (Nat.add (Nat.mul (Nat.add (Nat.mul (Nat.add (Nat.mul g 8) X) 9) a) 9) b) 16) ph
noncomputable def tx_ph (l : Nat) : Nat := Nat.mod l 16
noncomputable def tx_b (l : Nat) : Nat := Nat.mod (Nat.div l 16) 9
noncomputable def tx_a (l : Nat) : Nat := Nat.mod (Nat.div l 144) 9
noncomputable def tx_X (l : Nat) : Nat := Nat.mod (Nat.div l 1296) 8
noncomputable def tx_g (l : Nat) : Nat := Nat.mod (Nat.div l 10368) 2
noncomputable def tx_END : Nat := 99999
abbrev tx_C : Type := List (Nat × (Nat × Nat))
noncomputable def tx_S (g : Nat) : Nat := tx_mk g 0 0 0 11
noncomputable def tx_SE (g : Nat) : Nat := tx_mk g 0 0 0 12
/-- behind a plain test: 1 and, or; 2 or alone; 3 neither -/
noncomputable def tx_at (g a k : Nat) : tx_C := (cond (Nat.ble k 1) [(6, (6, tx_mk g 4 a 0 7))] []) ++ ((cond (Nat.ble k 2) [(5, (5, tx_mk g 4 a 0 7))] []) ++ (cond (Nat.beq a 0) [(159, (159, tx_S g)), (0, (0, tx_END))] [(141, (141, tx_mk g 5 (Nat.pred a) 0 8))]))
/-- behind a head: 1 how often, if; 2 if -/
noncomputable def tx_hd (g k : Nat) : tx_C := (cond (Nat.beq k 1) [(27, (27, tx_mk g 0 0 0 14))] []) ++ [(4, (4, tx_mk g 4 0 0 7)), (159, (159, tx_S g)), (0, (0, tx_END))]
/-- behind a sum that is in no bracket -/
noncomputable def tx_ex (g X a : Nat) : tx_C := cond (Nat.beq X 0) (tx_hd g 2) (cond (Nat.beq X 2) [(25, (25, tx_mk g 3 0 0 0))] (cond (Nat.beq X 4) [(160, (160, tx_mk g 5 a 0 0)), (161, (161, tx_mk g 5 a 0 0)), (162, (162, tx_mk g 5 a 0 0))] (cond (Nat.beq X 5) (tx_at g a 1) (tx_hd g 1))))
/-- an operand begins -/
noncomputable def tx_op (g X a b : Nat) : tx_C := (cond (Nat.blt (Nat.add a b) 8) [(191, (191, tx_mk g X a (Nat.succ b) 0))] []) ++ ((50, (50, tx_mk g X a b 1)) :: (cond (Nat.beq g 0) [(8, (17, tx_mk g X a b 1))] [(17, (20, tx_mk g X a b 1)), (21, (21, tx_mk g X a b 4)), (22, (22, tx_mk g X a b 5))]))
/-- behind an operand -/
noncomputable def tx_bh (g X a b k : Nat) : tx_C := (cond (Nat.ble k 1) [(142, (142, tx_mk g X a b 0)), (147, (147, tx_mk g X a b 0)), (137, (137, tx_mk g X a b 0))] []) ++ ((cond (Nat.ble k 2) [(143, (143, tx_mk g X a b 0)), (145, (145, tx_mk g X a b 0))] []) ++ (cond (Nat.beq b 0) (tx_ex g X a) [(193, (193, tx_mk g X a (Nat.pred b) 1))]))
noncomputable def tx_st (g : Nat) : tx_C := cond (Nat.beq g 0) [(1, (1, tx_mk 0 0 0 0 0)), (2, (3, tx_mk 0 0 0 0 13))] [(23, (23, tx_mk 1 1 0 0 0)), (24, (24, tx_mk 1 2 0 0 0)), (26, (26, tx_mk 1 0 0 0 13))]
noncomputable def tx_ci (g X a b : Nat) (ph : Nat) : tx_C :=
  cond (Nat.beq ph 0) (tx_op g X a b) (cond (Nat.ble ph 3) (tx_bh g X a b ph) (cond (Nat.beq ph 4) [(50, (50, tx_mk g X a b 1))] (cond (Nat.beq ph 5) [(50, (50, tx_mk g X a b 6))] (cond (Nat.beq ph 6) [(50, (50, tx_mk g X a b 1))]
  (cond (Nat.beq ph 7) ((7, (7, tx_mk g 4 a 0 7)) :: ((cond (Nat.blt a 8) [(140, (140, tx_mk g 4 (Nat.succ a) 0 7))] []) ++ tx_op g 4 a 0))
  (cond (Nat.ble ph 10) (tx_at g a (Nat.sub ph 7)) (cond (Nat.beq ph 11) (tx_st g) (cond (Nat.beq ph 12) ((0, (0, tx_END)) :: tx_st g) (cond (Nat.beq ph 13) (tx_hd g (cond (Nat.beq g 0) 2 1)) (cond (Nat.beq ph 14) [(50, (50, tx_mk g 0 0 0 15))] (tx_hd g 2)))))))))))
/-- a token, or some: 1000 a law's word, 1001 an order's, 1002 fogs or bars -/
noncomputable def tx_rr (c l : Nat) : tx_C := cond (Nat.blt c 1000) [(c, (c, l))] (cond (Nat.beq c 1000) [(8, (17, l))] (cond (Nat.beq c 1001) [(17, (20, l))] [(2, (3, l))]))
/-- what may come in a state, and the state then; 99999 the end, 100000 (τ + 1) + l: τ comes, then l -/
noncomputable def tx_cls (l : Nat) : tx_C := cond (Nat.blt l 99999) (tx_ci (tx_g l) (tx_X l) (tx_a l) (tx_b l) (tx_ph l)) (cond (Nat.beq l 99999) [(0, (0, 99999))] (tx_rr (Nat.pred (Nat.div l 100000)) (Nat.mod l 100000)))
/-- between what a number lies then -/
noncomputable def tx_nb (l : Nat) : Nat × Nat := cond (Nat.blt l 99999) (cond (Nat.beq (tx_ph l) 4 || Nat.beq (tx_ph l) 5) (0, 5) (cond (Nat.beq (tx_ph l) 6) (0, 11) (cond (Nat.beq (tx_ph l) 14) (1, 20) (0, 1000)))) (0, 4294967295)
/-- a number is bound then -/
noncomputable def tx_nm (l : Nat) : Bool := Nat.blt l 99999 && (Nat.beq (tx_ph l) 4 || (Nat.beq (tx_ph l) 5 || (Nat.beq (tx_ph l) 6 || Nat.beq (tx_ph l) 14)))
noncomputable def tx_find (c : Nat) : tx_C → Option Nat
  | [] => none
  | q :: r => cond (Nat.ble q.1 c && Nat.ble c q.2.1) (some q.2.2) (tx_find c r)
noncomputable def tx_de (l c v : Nat) : Option Nat := cond (Nat.beq c 50 && (tx_nm l && !(Nat.ble (tx_nb l).1 v && Nat.ble v (tx_nb l).2))) none (tx_find c (tx_cls l))
/-- so many tokens from a place on may come in a state -/
def tx_ok (f : Nat → Nat × Nat) : Nat → Nat → Nat → Prop
  | 0, _, _ => True
  | n + 1, l, v => ∃ l', tx_de l (f v).1 (f v).2 = some l' ∧ tx_ok f n l' (v + 1)
def tx_acc (f : Nat → Nat × Nat) (l v : Nat) : Prop := ∀ n, tx_ok f n l v
theorem tx_acc.step {f : Nat → Nat × Nat} {l v : Nat} (h : tx_acc f l v) : ∃ l', tx_de l (f v).1 (f v).2 = some l' ∧ tx_acc f l' (v + 1) := by
  obtain ⟨l', h1, _⟩ := h 1
  refine ⟨l', h1, fun n => ?_⟩
  obtain ⟨l2, h2, h3⟩ := h (n + 1)
  rw [h1] at h2
  cases h2
  exact h3
theorem tx_acc.mk {f : Nat → Nat × Nat} {l l' v : Nat} (h1 : tx_de l (f v).1 (f v).2 = some l') (h2 : tx_acc f l' (v + 1)) : tx_acc f l v := fun n => by
  cases n with
  | zero => trivial
  | succ n => exact ⟨l', h1, h2 n⟩
theorem tx_acc.at {f : Nat → Nat × Nat} {l l' v : Nat} (h : tx_acc f l v) (h1 : tx_de l (f v).1 (f v).2 = some l') : tx_acc f l' (v + 1) := by
  obtain ⟨l2, h2, h3⟩ := h.step
  rw [h1] at h2
  cases h2
  exact h3
theorem tx_ok.congr {f f' : Nat → Nat × Nat} : ∀ (n l v : Nat), (∀ u, v ≤ u → f' u = f u) → tx_ok f n l v → tx_ok f' n l v
  | 0, _, _, _, _ => trivial
  | n + 1, l, v, he, h => by
    obtain ⟨l', h1, h2⟩ := h
    exact ⟨l', by rw [he v (Nat.le_refl _)]; exact h1, tx_ok.congr n l' (v + 1) (fun u hu => he u (by omega)) h2⟩
theorem tx_acc.congr {f f' : Nat → Nat × Nat} {l v : Nat} (he : ∀ u, v ≤ u → f' u = f u) (h : tx_acc f l v) : tx_acc f' l v := fun n => tx_ok.congr n l v he (h n)
theorem tx_find_ok : ∀ (r : tx_C) (c x : Nat), tx_find c r = some x → ∃ q ∈ r, q.1 ≤ c ∧ c ≤ q.2.1 ∧ x = q.2.2
  | [], c, x, h => by cases h
  | q :: r, c, x, h => by
    change cond (Nat.ble q.1 c && Nat.ble c q.2.1) (some q.2.2) (tx_find c r) = some x at h
    cases hc : (Nat.ble q.1 c && Nat.ble c q.2.1) with
    | true =>
      rw [hc] at h
      cases h
      have c1 := Bool.and_eq_true_iff.mp hc
      exact ⟨q, List.mem_cons_self, ix_ble.mp c1.1, ix_ble.mp c1.2, rfl⟩
    | false =>
      rw [hc] at h
      obtain ⟨p, p1, p2⟩ := tx_find_ok r c x h
      exact ⟨p, List.mem_cons_of_mem _ p1, p2⟩
theorem tx_de_ok {l c v x : Nat} (h : tx_de l c v = some x) : (∃ q ∈ tx_cls l, q.1 ≤ c ∧ c ≤ q.2.1 ∧ x = q.2.2) ∧ (c = 50 → tx_nm l = true → (tx_nb l).1 ≤ v ∧ v ≤ (tx_nb l).2) := by
  unfold tx_de at h
  cases hc : (Nat.beq c 50 && (tx_nm l && !(Nat.ble (tx_nb l).1 v && Nat.ble v (tx_nb l).2))) with
  | true => rw [hc] at h; cases h
  | false =>
    rw [hc] at h
    refine ⟨tx_find_ok _ _ _ h, fun e en => ?_⟩
    rw [ix_beq.mpr e, en] at hc
    cases hb : (Nat.ble (tx_nb l).1 v && Nat.ble v (tx_nb l).2) with
    | false => rw [hb] at hc; cases hc
    | true =>
      have c1 := Bool.and_eq_true_iff.mp hb
      exact ⟨ix_ble.mp c1.1, ix_ble.mp c1.2⟩
/-- a token comes in a state: the state then, where all between two lead to one -/
noncomputable def tx_rg (lo hi : Nat) : tx_C → Option Nat
  | [] => none
  | q :: r => cond (Nat.ble q.1 lo && Nat.ble hi q.2.1) (some q.2.2) (cond (Nat.blt hi q.1 || Nat.blt q.2.1 lo) (tx_rg lo hi r) none)
theorem tx_rg_ok {lo hi c : Nat} (h1 : lo ≤ c) (h2 : c ≤ hi) : ∀ (r : tx_C) (x : Nat), tx_rg lo hi r = some x → tx_find c r = some x
  | [], x, he => by cases he
  | q :: r, x, he => by
    change cond (Nat.ble q.1 lo && Nat.ble hi q.2.1) (some q.2.2) (cond (Nat.blt hi q.1 || Nat.blt q.2.1 lo) (tx_rg lo hi r) none) = some x at he
    show cond (Nat.ble q.1 c && Nat.ble c q.2.1) (some q.2.2) (tx_find c r) = some x
    cases hc : (Nat.ble q.1 lo && Nat.ble hi q.2.1) with
    | true =>
      rw [hc] at he
      have d := Bool.and_eq_true_iff.mp hc
      have d1 := ix_ble.mp d.1
      have d2 := ix_ble.mp d.2
      rw [ix_ble.mpr (show q.1 ≤ c by omega), ix_ble.mpr (show c ≤ q.2.1 by omega)]
      exact he
    | false =>
      rw [hc, cond_false] at he
      cases hd : (Nat.blt hi q.1 || Nat.blt q.2.1 lo) with
      | false => rw [hd] at he; cases he
      | true =>
        rw [hd, cond_true] at he
        have hn : (Nat.ble q.1 c && Nat.ble c q.2.1) = false := by
          rcases (Bool.or_eq_true _ _).mp hd with z | z
          · have := ix_blt.mp z
            rw [ix_ble_f.mpr (show ¬ q.1 ≤ c by omega)]
            rfl
          · have := ix_blt.mp z
            rw [ix_ble_f.mpr (show ¬ c ≤ q.2.1 by omega)]
            cases Nat.ble q.1 c <;> rfl
        rw [hn]
        exact tx_rg_ok h1 h2 r x he
/-- all that may come in the first may come in the second, and leads as far -/
noncomputable def tx_oeq (o : Option Nat) (x : Nat) : Bool := match o with
  | some y => Nat.beq y x
  | none => false
noncomputable def tx_sub (l2 l : Nat) : Bool := Nat.beq l2 l || (tx_cls l2).all (fun q => (Nat.blt q.2.1 50 || (Nat.blt 50 q.1 || !(tx_nm l))) && tx_oeq (tx_rg q.1 q.2.1 (tx_cls l)) q.2.2)
theorem tx_oeq_ok {o : Option Nat} {x : Nat} (h : tx_oeq o x = true) : o = some x := by
  cases o with
  | none => cases h
  | some y => rw [ix_beq.mp (show Nat.beq y x = true from h)]
theorem tx_sub_ok {f : Nat → Nat × Nat} {l2 l v : Nat} (h : tx_sub l2 l = true) (ha : tx_acc f l2 v) : tx_acc f l v := by
  rcases (Bool.or_eq_true _ _).mp h with h | h
  · rw [← ix_beq.mp h]; exact ha
  · obtain ⟨x, x1, x2⟩ := ha.step
    obtain ⟨⟨q, q1, q2, q3, q4⟩, _⟩ := tx_de_ok x1
    have hq := List.all_eq_true.mp h q q1
    have c1 := Bool.and_eq_true_iff.mp hq
    refine tx_acc.mk (l' := x) ?_ x2
    unfold tx_de
    have hn : (Nat.beq (f v).1 50 && (tx_nm l && !(Nat.ble (tx_nb l).1 (f v).2 && Nat.ble (f v).2 (tx_nb l).2))) = false := by
      rcases (Bool.or_eq_true _ _).mp c1.1 with z | z
      · have := ix_blt.mp z
        rw [ix_beq_f.mpr (show ¬ (f v).1 = 50 by omega)]
        rfl
      · rcases (Bool.or_eq_true _ _).mp z with z | z
        · have := ix_blt.mp z
          rw [ix_beq_f.mpr (show ¬ (f v).1 = 50 by omega)]
          rfl
        · cases hm : tx_nm l with
          | true => rw [hm] at z; cases z
          | false => cases Nat.beq (f v).1 50 <;> rfl
    rw [hn, q4]
    exact tx_rg_ok q2 q3 _ _ (tx_oeq_ok c1.2)
/-- whatever comes in the first, the second holds behind it -/
noncomputable def tx_nxt (l l2 : Nat) : Bool := (tx_cls l).all (fun q => tx_sub q.2.2 l2)
theorem tx_nxt_ok {f : Nat → Nat × Nat} {l l2 v : Nat} (h : tx_nxt l l2 = true) (ha : tx_acc f l v) : tx_acc f l2 (v + 1) := by
  obtain ⟨x, x1, x2⟩ := ha.step
  obtain ⟨⟨q, q1, _, _, q4⟩, _⟩ := tx_de_ok x1
  have := List.all_eq_true.mp h q q1
  rw [← q4] at this
  exact tx_sub_ok this x2
/-- what holds behind one token, where that is sure; 0: nothing -/
noncomputable def tx_uni (l : Nat) : Nat := match tx_cls l with
  | [] => 0
  | q :: r => cond (tx_nxt l q.2.2) q.2.2 (cond (tx_nxt l (tx_SE (tx_g l))) (tx_SE (tx_g l)) 0)
/-! what lies in the heap -/
noncomputable def tx_n (t : ix_T) (i k : Nat) : Nat := match ix_g (ix_g t i).2.2 k with
  | .inl n => n
  | _ => 0
/-- a text's tokens: row, where it begins in the row, where it ends -/
noncomputable def tx_k (t : ix_T) (c o e : Nat) (v : Nat) : Nat × Nat := if v < e then (if tx_n t c (o + 200 + v) = 0 then 999 else tx_n t c (o + 200 + v), tx_n t c (o + 3000 + v)) else (0, 0)
/-- the tokens that were read last -/
noncomputable def tx_p (t : ix_T) (v : Nat) : Nat × Nat := if v < tx_n t 79 22 then (if tx_n t 90 v = 0 then 999 else tx_n t 90 v, tx_n t 91 v) else (0, 0)
/-- a row's text of a number is right -/
def tx_t (t : ix_T) (c o k : Nat) : Prop := tx_n t c (o + 193 + k) ≤ 400 ∧ tx_acc (tx_k t c o (400 * k + tx_n t c (o + 193 + k))) (tx_SE 0) (400 * k)
/-- all laws are right; where orders are run, they are -/
def ty_inv0 (γ : Nat → Nat) (t : ix_T) : Prop := (∀ k, k < 6 → tx_t t 81 0 k ∧ tx_t t 82 0 k ∧ tx_t t 82 5800 k ∧ tx_t t 83 0 k) ∧ (γ 1001 = 1 → tx_n t 81 199 = γ 1002 ∧ γ 1002 ≤ 400 ∧ γ (2000 + tx_n t 79 51) = 1 ∧ ∀ m, γ (2000 + m) = 1 ↔ tx_acc (tx_k t 81 0 (2400 + γ 1002)) (tx_SE 1) m)
/-- what an image holds that was taken: its greatest glance is at least 1 -/
def tx_Im (γ : Nat → Nat) (t : ix_T) : Prop := (∀ k, k < 2 → tx_n t 84 k = 0 ∨ 1 ≤ tx_n t 82 (5800 * k + 182)) ∧ (γ 1001 = 1 → 1 ≤ tx_n t 83 182)
def ty_inv (γ : Nat → Nat) (t : ix_T) : Prop := ty_inv0 γ t ∧ tx_Im γ t
theorem tx_Im.al {γ γ' : Nat → Nat} {t t' : ix_T} (h : tx_Im γ t) (hg : γ' 1001 = 1 → γ 1001 = 1) (h84 : ∀ k, k < 2 → tx_n t' 84 k = tx_n t 84 k) (h82 : ∀ k, k < 2 → tx_n t' 82 (5800 * k + 182) = tx_n t 82 (5800 * k + 182)) (h83 : tx_n t' 83 182 = tx_n t 83 182) : tx_Im γ' t' := ⟨fun k hk => by
  rw [h84 k hk, h82 k hk]
  exact h.1 k hk, fun g => by
  rw [h83]
  exact h.2 (hg g)⟩
/-- labels of values: 4 l a state of what is evaluated, 4 l + 1 a state of what is read, 2 orders are run, 6 their end, 4 g + 3 a whole text -/
def ty_lab (γ : Nat → Nat) (q : Nat) (t : ix_T) (m : Nat) : Prop := match q % 4 with
  | 0 => tx_n t 79 27 ≤ 2800 ∧ tx_acc (tx_k t 81 0 (tx_n t 79 27)) (q / 4) m
  | 1 => tx_n t 79 25 = 4294967295 → (m ≤ tx_n t 79 22 ∧ tx_n t 79 22 ≤ 400 ∧ tx_n t 90 (tx_n t 79 22) = 0 ∧ (tx_acc (tx_p t) (q / 4) m → tx_acc (tx_p t) (tx_S (tx_g (q / 4))) 0))
  | 2 => (q = 2 → γ 1001 = 1) ∧ (q = 6 → m = 2400 + γ 1002) ∧ (q = 10 → γ (2000 + m) = 1) ∧ (q = 14 → γ 1001 = 0)
  | _ => tx_n t 79 22 ≤ 400 ∧ tx_acc (tx_p t) (tx_S (q / 4)) 0
/-- which places a store may touch: cell's type, places between -/
noncomputable def ty_npr (a lo hi : Nat) : Bool := cond (Nat.beq a 81) (Nat.blt hi 193) (cond (Nat.beq a 82 || (Nat.beq a 83 || Nat.beq a 84)) false (cond (Nat.beq a 79) (Nat.blt hi 51 || Nat.blt 51 lo) true))
/-- is a label kept over a store -/
noncomputable def ty_lkp (a lo hi q : Nat) : Bool := cond (Nat.beq (Nat.mod q 4) 0) (!(Nat.beq a 79) || (Nat.blt hi 27 || Nat.blt 27 lo)) (cond (Nat.beq (Nat.mod q 4) 2) true (cond (Nat.beq a 79) (Nat.blt hi 22 || (Nat.blt 25 lo || (Nat.blt 22 lo && Nat.blt hi 25))) (!(Nat.beq a 90 || Nat.beq a 91))))
/-- two heaps alike but for a place of one cell -/
def tx_rw (i : Nat) : Prop := i = 81 ∨ i = 82 ∨ i = 83 ∨ i = 90 ∨ i = 91
def tx_alike (t t' : ix_T) (a lo hi : Nat) : Prop := ∀ i k, ((i = 79 ∨ i = 84) ∧ k < 64) ∨ (tx_rw i ∧ k < 16384) → (i = a → k < lo ∨ hi < k) → tx_n t' i k = tx_n t i k
theorem tx_k_al {t t' : ix_T} {c o e : Nat} (he : e ≤ 2800) (h : ∀ k, 193 ≤ k → k < 5800 → tx_n t' c (o + k) = tx_n t c (o + k)) : tx_k t' c o e = tx_k t c o e := funext fun u => by
  unfold tx_k
  by_cases hu : u < e
  · have h1 := h (200 + u) (by omega) (by omega)
    have h2 := h (3000 + u) (by omega) (by omega)
    rw [← Nat.add_assoc] at h1 h2
    rw [if_pos hu, if_pos hu, h1, h2]
  · rw [if_neg hu, if_neg hu]
theorem tx_t_al {t t' : ix_T} {c o k : Nat} (hk : k < 6) (h : ∀ k, 193 ≤ k → k < 5800 → tx_n t' c (o + k) = tx_n t c (o + k)) (ht : tx_t t c o k) : tx_t t' c o k := by
  have e := h (193 + k) (by omega) (by omega)
  rw [← Nat.add_assoc] at e
  have h4 := ht.1
  unfold tx_t at *
  rw [e, tx_k_al (by omega) h]
  exact ht
theorem ty_inv_al {γ : Nat → Nat} {t t' : ix_T} {a lo hi : Nat} (hal : tx_alike t t' a lo hi) (hn : ty_npr a lo hi = true) (hi0' : ty_inv γ t) : ty_inv γ t' := by
  have hi0 := hi0'.1
  have hk : ∀ k, 193 ≤ k → k < 16384 → tx_n t' 81 k = tx_n t 81 k := fun k h1 h2 => hal 81 k (Or.inr ⟨Or.inl rfl, h2⟩) (fun e => by
    rw [← e, show ty_npr 81 lo hi = Nat.blt hi 193 from rfl] at hn
    have := ix_blt.mp hn
    omega)
  have h2 : ∀ k, k < 16384 → tx_n t' 82 k = tx_n t 82 k := fun k h2 => hal 82 k (Or.inr ⟨Or.inr (Or.inl rfl), h2⟩) (fun e => by
    rw [← e, show ty_npr 82 lo hi = false from rfl] at hn
    cases hn)
  have h3 : ∀ k, k < 16384 → tx_n t' 83 k = tx_n t 83 k := fun k h2 => hal 83 k (Or.inr ⟨Or.inr (Or.inr (Or.inl rfl)), h2⟩) (fun e => by
    rw [← e, show ty_npr 83 lo hi = false from rfl] at hn
    cases hn)
  have ho : tx_n t' 79 51 = tx_n t 79 51 := hal 79 51 (Or.inl ⟨Or.inl rfl, by decide⟩) (fun e => by
    rw [← e, show ty_npr 79 lo hi = (Nat.blt hi 51 || Nat.blt 51 lo) from rfl] at hn
    rcases (Bool.or_eq_true _ _).mp hn with z | z
    · have := ix_blt.mp z; omega
    · have := ix_blt.mp z; omega)
  have hk0 : ∀ k, 193 ≤ k → k < 5800 → tx_n t' 81 (0 + k) = tx_n t 81 (0 + k) := fun k g1 _ => hk _ (by omega) (by omega)
  have h84 : ∀ k, k < 2 → tx_n t' 84 k = tx_n t 84 k := fun k hk2 => hal 84 k (Or.inl ⟨Or.inr rfl, by omega⟩) (fun e => by
    rw [← e, show ty_npr 84 lo hi = false from rfl] at hn
    cases hn)
  refine ⟨?_, hi0'.2.al (fun g => g) h84 (fun k hk2 => h2 _ (by omega)) (h3 182 (by decide))⟩
  refine ⟨fun k g => ?_, fun g => ?_⟩
  · obtain ⟨q1, q2, q3, q4⟩ := hi0.1 k g
    exact ⟨tx_t_al g hk0 q1, tx_t_al g (fun k _ _ => h2 _ (by omega)) q2, tx_t_al g (fun k _ _ => h2 _ (by omega)) q3, tx_t_al g (fun k _ _ => h3 _ (by omega)) q4⟩
  · obtain ⟨q1, q2, q3, q4⟩ := hi0.2 g
    refine ⟨by rw [hk 199 (by decide) (by decide)]; exact q1, q2, ?_, ?_⟩
    · rw [ho]; exact q3
    · rw [tx_k_al (by omega) hk0]
      exact q4
theorem tx_p_al {t t' : ix_T} (h4 : tx_n t 79 22 ≤ 400) (hs : tx_n t' 79 22 = tx_n t 79 22) (hc : ∀ i k, i = 90 ∨ i = 91 → k < 16384 → tx_n t' i k = tx_n t i k) : tx_p t' = tx_p t := funext fun u => by
  unfold tx_p
  rw [hs]
  by_cases hu : u < tx_n t 79 22
  · rw [if_pos hu, if_pos hu, hc 90 u (Or.inl rfl) (by omega), hc 91 u (Or.inr rfl) (by omega)]
  · rw [if_neg hu, if_neg hu]
theorem ty_lab_al {γ : Nat → Nat} {t t' : ix_T} {a lo hi q m : Nat} (hal : tx_alike t t' a lo hi) (hn : a = 81 → hi < 193) (hk : ty_lkp a lo hi q = true) (hl : ty_lab γ q t m) : ty_lab γ q t' m := by
  have hm4 : q % 4 < 4 := Nat.mod_lt _ (by decide)
  have hk0 : ∀ k, 193 ≤ k → k < 5800 → tx_n t' 81 (0 + k) = tx_n t 81 (0 + k) := fun k g1 _ => hal 81 _ (Or.inr ⟨Or.inl rfl, by omega⟩) (fun e => by
    have := hn e.symm
    omega)
  unfold ty_lkp at hk
  unfold ty_lab at hl ⊢
  by_cases e0 : q % 4 = 0
  · rw [ix_beq.mpr (show Nat.mod q 4 = 0 from e0), cond_true] at hk
    rw [e0] at hl ⊢
    have hg : tx_n t' 79 27 = tx_n t 79 27 := hal 79 27 (Or.inl ⟨Or.inl rfl, by decide⟩) (fun e => by
      rw [ix_beq.mpr e.symm] at hk
      rcases (Bool.or_eq_true _ _).mp hk with z | z
      · cases z
      · rcases (Bool.or_eq_true _ _).mp z with z | z
        · have := ix_blt.mp z; omega
        · have := ix_blt.mp z; omega)
    rw [hg, tx_k_al hl.1 hk0]
    exact hl
  · rw [ix_beq_f.mpr (show ¬ Nat.mod q 4 = 0 from e0), cond_false] at hk
    by_cases e2 : q % 4 = 2
    · rw [e2] at hl ⊢
      exact hl
    · rw [ix_beq_f.mpr (show ¬ Nat.mod q 4 = 2 from e2), cond_false] at hk
      have hs : ∀ k, k = 22 ∨ k = 25 → tx_n t' 79 k = tx_n t 79 k := fun k hk2 => hal 79 k (Or.inl ⟨Or.inl rfl, by omega⟩) (fun e => by
        rw [ix_beq.mpr e.symm, cond_true] at hk
        rcases (Bool.or_eq_true _ _).mp hk with z | z
        · have := ix_blt.mp z; omega
        · rcases (Bool.or_eq_true _ _).mp z with z | z
          · have := ix_blt.mp z; omega
          · have c := Bool.and_eq_true_iff.mp z
            have z1 := ix_blt.mp c.1
            have z2 := ix_blt.mp c.2
            omega)
      have hc : ∀ i k, i = 90 ∨ i = 91 → k < 16384 → tx_n t' i k = tx_n t i k := fun i k hk2 h6 => hal i k (Or.inr ⟨Or.inr (Or.inr (Or.inr hk2)), h6⟩) (fun e => by
        rw [← e, ix_beq_f.mpr (by omega), cond_false] at hk
        rcases hk2 with e9 | e9
        · rw [e9] at hk; cases hk
        · rw [e9] at hk; cases hk)
      by_cases e1 : q % 4 = 1
      · rw [e1] at hl ⊢
        rw [hs 25 (Or.inr rfl)]
        intro hb
        obtain ⟨l1, l2, l3, l4⟩ := hl hb
        rw [tx_p_al l2 (hs 22 (Or.inl rfl)) hc, hs 22 (Or.inl rfl), hc 90 _ (Or.inl rfl) (by omega)]
        exact ⟨l1, l2, l3, l4⟩
      · have e3 : q % 4 = 3 := by omega
        rw [e3] at hl ⊢
        rw [tx_p_al hl.1 (hs 22 (Or.inl rfl)) hc, hs 22 (Or.inl rfl)]
        exact hl
theorem tx_alike.rf {t : ix_T} {a lo hi : Nat} : tx_alike t t a lo hi := fun _ _ _ _ => rfl
theorem ty_npr81 {a lo hi : Nat} (hn : ty_npr a lo hi = true) (e : a = 81) : hi < 193 := by
  rw [e, show ty_npr 81 lo hi = Nat.blt hi 193 from rfl] at hn
  exact ix_blt.mp hn
