/-! frames: what a step leaves as it was -/
section FRA
variable {Φ : Nat → Nat → Bool} {A : Nat → Prop} {outs : List (Nat × ix_S)}
def fr_R (Φ : Nat → Nat → Bool) (n : Nat) (t : ix_T) (n' : Nat) (t' : ix_T) : Prop := n ≤ 16384 → n ≤ n' ∧ n' ≤ 16384 ∧ ∀ i, i < n → 100 ≤ (ix_g t i).1 → (ix_g t' i).1 = (ix_g t i).1 ∧ ∀ f, f < 64 → Φ (ix_g t i).1 f = true → ix_g (ix_g t' i).2.2 f = ix_g (ix_g t i).2.2 f
theorem fr_R.rf {n : Nat} {t : ix_T} : fr_R Φ n t n t := fun h => ⟨Nat.le_refl _, h, fun _ _ _ => ⟨rfl, fun _ _ _ => rfl⟩⟩
theorem fr_R.tr {n n1 n2 : Nat} {t t1 t2 : ix_T} (h1 : fr_R Φ n t n1 t1) (h2 : fr_R Φ n1 t1 n2 t2) : fr_R Φ n t n2 t2 := fun h => by
  obtain ⟨a1, a2, a3⟩ := h1 h
  obtain ⟨b1, b2, b3⟩ := h2 a2
  refine ⟨Nat.le_trans a1 b1, b2, fun i hi hk => ?_⟩
  obtain ⟨c1, c2⟩ := a3 i hi hk
  obtain ⟨d1, d2⟩ := b3 i (Nat.lt_of_lt_of_le hi a1) (by rw [c1]; exact hk)
  refine ⟨d1.trans c1, fun f hf hq => ?_⟩
  rw [d2 f hf (by rw [c1]; exact hq), c2 f hf hq]
def fr_P (Φ : Nat → Nat → Bool) (A : Nat → Prop) (r : ix_S → ix_R) : Prop := ∀ (B : ix_B) (ls : ix_L) (st : List ix_V) (n : Nat) (t : ix_T) (w : Nat × Nat) (outs : List (Nat × ix_S)), r (B, ls, st, n, t, w) = some outs → ∀ o ∈ outs, A o.1 ∧ fr_R Φ n t o.2.2.2.2.1 o.2.2.2.2.2.1
def fr_N (A : Nat → Prop) (r : ix_S → ix_R) : Prop := ∀ (B : ix_B) (ls : ix_L) (st : List ix_V) (W : Nat × (ix_T × (Nat × Nat))) (outs : List (Nat × ix_S)), r (B, ls, st, W) = some outs → ∀ o ∈ outs, A o.1 ∧ o.2.2.2.2 = W
theorem fr_N.P {r : ix_S → ix_R} (h : fr_N A r) : fr_P Φ A r := fun B ls st n t w outs e o ho => by
  obtain ⟨h1, h2⟩ := h B ls st (n, t, w) outs e o ho
  refine ⟨h1, ?_⟩
  rw [h2]
  exact fr_R.rf
theorem fr_one {pc : Nat} {S : ix_S} {W : Nat × (ix_T × (Nat × Nat))} (e : some [(pc, S)] = some outs) (hA : A pc) (hW : S.2.2.2 = W) : ∀ o ∈ outs, A o.1 ∧ o.2.2.2.2 = W := by
  cases e
  intro o ho
  cases List.mem_singleton.mp ho
  exact ⟨hA, hW⟩
theorem fr_c {b : Bool} {x : ix_R} {C : Prop} (e : cond b x none = some outs) (h : x = some outs → C) : C := by
  cases b
  · cases e
  · exact h e
theorem fr_d {b : Bool} {x : ix_R} {C : Prop} (e : cond b none x = some outs) (h : x = some outs → C) : C := by
  cases b
  · exact h e
  · cases e
theorem fr_no {C : Prop} (e : (none : ix_R) = some outs) : C := by cases e
theorem fr_nn {C : Prop} {o : List ix_S} (e : (none : Option (List ix_S)) = some o) : C := by cases e
theorem fr_e0 {o : List ix_S} (e : some ([] : List ix_S) = some o) : o = [] := by
  cases e
  rfl
theorem fn_split {pc x : Nat} {S : ix_S} (e : ix_split pc S x = some outs) : ∀ o ∈ outs, o.1 = pc ∧ o.2.2 = S.2 := by
  unfold ix_split at e
  dsimp only at e
  refine fr_c e (fun e => ?_)
  cases e
  intro o ho
  obtain ⟨b, _, rfl⟩ := List.mem_map.mp ho
  exact ⟨rfl, rfl⟩
theorem fr_sp {pc x : Nat} {S : ix_S} (h : A pc) (e : ix_split pc S x = some outs) : ∀ o ∈ outs, A o.1 ∧ o.2.2.2.2 = S.2.2.2 := fun o ho => by
  obtain ⟨h1, h2⟩ := fn_split e o ho
  rw [h1, h2]
  exact ⟨h, rfl⟩
theorem fr_br {r : Option (List ix_B × List ix_B)} {y z : Nat} {S : ix_L × (List ix_V × (Nat × (ix_T × (Nat × Nat))))} (hy : A y) (hz : A z) (e : ix_br r y z S = some outs) : ∀ o ∈ outs, A o.1 ∧ o.2.2.2.2 = S.2.2 := by
  unfold ix_br at e
  split at e
  · cases e
    intro o ho
    rcases List.mem_append.mp ho with ho | ho
    · obtain ⟨b, _, rfl⟩ := List.mem_map.mp ho
      exact ⟨hy, rfl⟩
    · obtain ⟨b, _, rfl⟩ := List.mem_map.mp ho
      exact ⟨hz, rfl⟩
  · cases e
theorem fr_cA {b : Bool} {x y : Nat} (hx : A x) (hy : A y) : A (cond b x y) := by
  cases b
  · exact hy
  · exact hx
theorem fn_load {ok : ix_V → Bool} {i nx : Nat} (h : A nx) : fr_N A (ix_load ok i nx) := by
  intro B ls st W outs e
  unfold ix_load at e
  dsimp only at e
  split at e
  · exact fr_c e (fun e => fr_one e h rfl)
  · exact fr_no e
theorem fn_store {ok : ix_V → Bool} {i nx : Nat} (h : A nx) : fr_N A (ix_store ok i nx) := by
  intro B ls st W outs e
  rcases st with _ | ⟨a, st⟩
  · exact fr_no e
  · unfold ix_store at e
    dsimp only at e
    exact fr_c e (fun e => fr_one e h rfl)
theorem fn_lstore {i nx : Nat} (h : A nx) : fr_N A (ix_lstore i nx) := by
  intro B ls st W outs e
  rcases st with _ | ⟨a, st⟩
  · exact fr_no e
  · unfold ix_lstore at e
    dsimp only at e
    exact fr_c e (fun e => fr_one e h rfl)
theorem fn_push {v : ix_V} {nx : Nat} (h : A nx) : fr_N A (ix_push nx v) := by
  intro B ls st W outs e
  exact fr_one e h rfl
theorem fn_iinc {i k nx : Nat} (h : A nx) : fr_N A (ix_iinc i k nx) := by
  intro B ls st W outs e
  unfold ix_iinc at e
  dsimp only at e
  split at e
  · split at e
    · exact fr_one e h rfl
    · exact fr_no e
  · exact fr_no e
theorem fn_iadd {nx : Nat} (h : A nx) : fr_N A (ix_iadd nx) := by
  intro B ls st W outs e
  rcases st with _ | ⟨b, _ | ⟨a, st⟩⟩
  · exact fr_no e
  · exact fr_no e
  · unfold ix_iadd at e
    dsimp only at e
    split at e
    · exact fr_one e h rfl
    · exact fr_no e
theorem fn_isub {nx : Nat} (h : A nx) : fr_N A (ix_isub nx) := by
  intro B ls st W outs e
  rcases st with _ | ⟨b, _ | ⟨a, st⟩⟩
  · exact fr_no e
  · exact fr_no e
  · unfold ix_isub at e
    dsimp only at e
    split at e
    · exact fr_one e h rfl
    · exact fr_no e
theorem fn_ibin {op : Nat → Nat → Nat} {pc nx : Nat} (h : A nx) (hp : A pc) : fr_N A (ix_ibin op pc nx) := by
  intro B ls st W outs e
  rcases st with _ | ⟨b, _ | ⟨a, st⟩⟩
  · exact fr_no e
  · exact fr_no e
  · unfold ix_ibin at e
    dsimp only at e
    split at e
    · exact fr_one e h rfl
    · split at e
      · rename_i r hr
        cases e
        exact fr_sp hp hr
      · exact fr_one e h rfl
    · split at e
      · rename_i r hr
        cases e
        exact fr_sp hp hr
      · exact fr_one e h rfl
    · exact fr_one e h rfl
    · exact fr_no e
theorem fn_idiv {op : Nat → Nat → Nat} {pc nx : Nat} (h : A nx) (hp : A pc) : fr_N A (ix_idiv op pc nx) := by
  intro B ls st W outs e
  rcases st with _ | ⟨b, _ | ⟨a, st⟩⟩
  · exact fr_no e
  · exact fr_no e
  · unfold ix_idiv at e
    dsimp only at e
    split at e
    · exact fr_d e (fun e => fr_one e h rfl)
    · refine fr_d e (fun e => ?_)
      split at e
      · rename_i r hr
        cases e
        exact fr_sp hp hr
      · exact fr_one e h rfl
    · exact fr_no e
theorem fn_iun {op : Nat → Nat} {nx : Nat} (h : A nx) : fr_N A (ix_iun op nx) := by
  intro B ls st W outs e
  rcases st with _ | ⟨a, st⟩
  · exact fr_no e
  · unfold ix_iun at e
    dsimp only at e
    split at e
    · exact fr_one e h rfl
    · exact fr_one e h rfl
    · exact fr_no e
theorem fn_lbin {op : Nat → Nat → Nat} {nx : Nat} (h : A nx) : fr_N A (ix_lbin op nx) := by
  intro B ls st W outs e
  rcases st with _ | ⟨b, _ | ⟨a, st⟩⟩
  · exact fr_no e
  · rcases b with b | b | b | b <;> exact fr_no e
  · rcases b with b | b | b | b
    · exact fr_no e
    · rcases a with a | a | a | a
      · exact fr_no e
      · exact fr_one e h rfl
      · exact fr_no e
      · exact fr_no e
    · exact fr_no e
    · exact fr_no e
theorem fn_ldiv {op : Nat → Nat → Nat} {nx : Nat} (h : A nx) : fr_N A (ix_ldiv op nx) := by
  intro B ls st W outs e
  rcases st with _ | ⟨b, _ | ⟨a, st⟩⟩
  · exact fr_no e
  · rcases b with b | b | b | b <;> exact fr_no e
  · rcases b with b | b | b | b
    · exact fr_no e
    · rcases a with a | a | a | a
      · exact fr_no e
      · exact fr_d e (fun e => fr_one e h rfl)
      · exact fr_no e
      · exact fr_no e
    · exact fr_no e
    · exact fr_no e
theorem fn_lcmp {nx : Nat} (h : A nx) : fr_N A (ix_lcmp nx) := by
  intro B ls st W outs e
  rcases st with _ | ⟨b, _ | ⟨a, st⟩⟩
  · exact fr_no e
  · rcases b with b | b | b | b <;> exact fr_no e
  · rcases b with b | b | b | b
    · exact fr_no e
    · rcases a with a | a | a | a
      · exact fr_no e
      · exact fr_one e h rfl
      · exact fr_no e
      · exact fr_no e
    · exact fr_no e
    · exact fr_no e
theorem fn_lsh {op : Nat → Nat → Nat} {nx : Nat} (h : A nx) : fr_N A (ix_lsh op nx) := by
  intro B ls st W outs e
  rcases st with _ | ⟨b, _ | ⟨a, st⟩⟩
  · exact fr_no e
  · exact fr_no e
  · rcases a with a | a | a | a
    · exact fr_no e
    · unfold ix_lsh at e
      dsimp only at e
      split at e
      · exact fr_one e h rfl
      · exact fr_no e
    · exact fr_no e
    · exact fr_no e
theorem fn_lun {op : Nat → Nat} {nx : Nat} (h : A nx) : fr_N A (ix_lun op nx) := by
  intro B ls st W outs e
  rcases st with _ | ⟨a, st⟩
  · exact fr_no e
  · rcases a with a | a | a | a
    · exact fr_no e
    · exact fr_one e h rfl
    · exact fr_no e
    · exact fr_no e
theorem fn_l2i {nx : Nat} (h : A nx) : fr_N A (ix_l2i nx) := by
  intro B ls st W outs e
  rcases st with _ | ⟨a, st⟩
  · exact fr_no e
  · rcases a with a | a | a | a
    · exact fr_no e
    · exact fr_one e h rfl
    · exact fr_no e
    · exact fr_no e
theorem fn_i2l {nx : Nat} (h : A nx) : fr_N A (ix_i2l nx) := by
  intro B ls st W outs e
  rcases st with _ | ⟨a, st⟩
  · exact fr_no e
  · unfold ix_i2l at e
    dsimp only at e
    split at e
    · exact fr_one e h rfl
    · exact fr_no e
theorem fn_dup {nx : Nat} (h : A nx) : fr_N A (ix_dup nx) := by
  intro B ls st W outs e
  rcases st with _ | ⟨a, st⟩
  · exact fr_no e
  · unfold ix_dup at e
    dsimp only at e
    exact fr_d e (fun e => fr_one e h rfl)
theorem fn_dup2 {nx : Nat} (h : A nx) : fr_N A (ix_dup2 nx) := by
  intro B ls st W outs e
  rcases st with _ | ⟨b, _ | ⟨a, st⟩⟩
  · exact fr_no e
  · exact fr_no e
  · unfold ix_dup2 at e
    dsimp only at e
    exact fr_d e (fun e => fr_one e h rfl)
theorem fn_pop {nx : Nat} (h : A nx) : fr_N A (ix_pop nx) := by
  intro B ls st W outs e
  rcases st with _ | ⟨a, st⟩
  · exact fr_no e
  · unfold ix_pop at e
    dsimp only at e
    exact fr_d e (fun e => fr_one e h rfl)
theorem fn_goto {nx : Nat} (h : A nx) : fr_N A (ix_goto nx) := by
  intro B ls st W outs e
  exact fr_one e h rfl
theorem fn_icmp {lt neg swap : Bool} {tgt nx : Nat} (h1 : A tgt) (h2 : A nx) : fr_N A (ix_icmp lt neg swap tgt nx) := by
  intro B ls st W outs e
  rcases st with _ | ⟨b, _ | ⟨a, st⟩⟩
  · exact fr_no e
  · exact fr_no e
  · exact fr_br (fr_cA h2 h1) (fr_cA h1 h2) e
theorem fn_if {lt neg swap : Bool} {tgt nx : Nat} (h1 : A tgt) (h2 : A nx) : fr_N A (ix_if lt neg swap tgt nx) := by
  intro B ls st W outs e
  rcases st with _ | ⟨a, st⟩
  · exact fr_no e
  · exact fr_br (fr_cA h2 h1) (fr_cA h1 h2) e
theorem fn_ifnull {yes no : Nat} (h1 : A yes) (h2 : A no) : fr_N A (ix_ifnull yes no) := by
  intro B ls st W outs e
  rcases st with _ | ⟨a, st⟩
  · exact fr_no e
  · rcases a with a | a | a | a
    · exact fr_no e
    · exact fr_no e
    · exact fr_one e (fr_cA h1 h2) rfl
    · exact fr_no e
theorem fr_fd {cs : List (Nat × Nat)} {d m : Nat} (h : ∀ q ∈ cs, A q.2) (hd : A d) : A ((cs.find? (fun q => Nat.beq q.1 m)).elim d (fun q => q.2)) := by
  cases hf : cs.find? (fun q => Nat.beq q.1 m) with
  | none => exact hd
  | some q => exact h q (List.mem_of_find?_eq_some hf)
theorem fr_mem0 {q : Nat × Nat} (h : q ∈ ([] : List (Nat × Nat))) : A q.2 := by cases h
theorem fr_memc {p : Nat × Nat} {cs : List (Nat × Nat)} (h1 : A p.2) (h2 : ∀ q ∈ cs, A q.2) : ∀ q ∈ p :: cs, A q.2 := fun q h => by
  rcases List.mem_cons.mp h with rfl | h
  · exact h1
  · exact h2 q h
theorem fn_sw {cs : List (Nat × Nat)} {d pc : Nat} (h : ∀ q ∈ cs, A q.2) (hd : A d) (hp : A pc) : fr_N A (ix_sw cs d pc) := by
  intro B ls st W outs e
  rcases st with _ | ⟨a, st⟩
  · exact fr_no e
  · unfold ix_sw at e
    dsimp only at e
    split at e
    · exact fr_one e (fr_fd h hd) rfl
    · refine fr_c e (fun e => ?_)
      split at e
      · exact fr_one e hd rfl
      · exact fr_br hp hp e
    · exact fr_no e
theorem fn_getf {ci k nx : Nat} (h : A nx) : fr_N A (ix_getf ci k nx) := by
  intro B ls st W outs e
  obtain ⟨n, t, w⟩ := W
  rcases st with _ | ⟨a, st⟩
  · exact fr_no e
  · rcases a with a | a | a | a
    · exact fr_no e
    · exact fr_no e
    · cases a with
      | zero => exact fr_no e
      | succ i => exact fr_c (show cond (Nat.blt i n) (cond (Nat.beq (ix_g t i).1 ci && Nat.blt k (ix_g t i).2.1) (some [(nx, (B, ls, ix_g (ix_g t i).2.2 k :: st, n, t, w))]) none) none = some outs from e) (fun e => fr_c e (fun e => fr_one e h rfl))
    · exact fr_no e
theorem fr_al {x : Option (Nat × ix_A)} {f : Nat → ix_A → ix_R} {C : Prop} (h : ∀ l a, f l a = some outs → C) (e : (match x with | some (len, g) => f len g | none => none) = some outs) : C := by
  cases x with
  | none => cases e
  | some q => exact h q.1 q.2 e
theorem fn_iald {O : ix_O} {pc nx : Nat} (h : A nx) (hp : A pc) : fr_N A (ix_iald O pc nx) := by
  intro B ls st W outs e
  obtain ⟨n, t, w⟩ := W
  rcases st with _ | ⟨j, _ | ⟨a, st⟩⟩
  · exact fr_no e
  · exact fr_no e
  · rcases a with a | a | a | a
    · exact fr_no e
    · exact fr_no e
    · cases a with
      | zero => exact fr_no e
      | succ i =>
        change (match cond (Nat.blt i n) (cond (Nat.beq (ix_g t i).1 0) (some (ix_g t i).2) none) (cond (Nat.blt i 1000000) none (O i)) with
          | some (len, f) => (match ix_nrm B j with
            | .inl m => cond (Nat.blt m len) (some [(nx, (B, ls, ix_g f m :: st, n, t, w))]) none
            | .inr (.inr (.inr (x, _))) => ix_split pc (B, ls, j :: .inr (.inr (.inl (i + 1))) :: st, n, t, w) x
            | _ => none)
          | none => none) = some outs at e
        split at e
        · split at e
          · exact fr_c e (fun e => fr_one e h rfl)
          · exact fr_sp hp e
          · exact fr_no e
        · exact fr_no e
    · exact fr_no e
theorem fn_ald {k0 k1 pc nx : Nat} (h : A nx) (hp : A pc) : fr_N A (ix_ald k0 k1 pc nx) := by
  intro B ls st W outs e
  obtain ⟨n, t, w⟩ := W
  rcases st with _ | ⟨j, _ | ⟨a, st⟩⟩
  · exact fr_no e
  · exact fr_no e
  · rcases a with a | a | a | a
    · exact fr_no e
    · exact fr_no e
    · cases a with
      | zero => exact fr_no e
      | succ i =>
        change cond (Nat.blt i n) (cond (Nat.ble k0 (ix_g t i).1 && Nat.ble (ix_g t i).1 k1) (match ix_nrm B j with
          | .inl m => cond (Nat.blt m (ix_g t i).2.1) (some [(nx, (B, ls, ix_g (ix_g t i).2.2 m :: st, n, t, w))]) none
          | .inr (.inr (.inr (x, _))) => ix_split pc (B, ls, j :: .inr (.inr (.inl (i + 1))) :: st, n, t, w) x
          | _ => none) none) none = some outs at e
        refine fr_c e (fun e => fr_c e (fun e => ?_))
        split at e
        · exact fr_c e (fun e => fr_one e h rfl)
        · exact fr_sp hp e
        · exact fr_no e
    · exact fr_no e
theorem fn_alen {O : ix_O} {nx : Nat} (h : A nx) : fr_N A (ix_alen O nx) := by
  intro B ls st W outs e
  obtain ⟨n, t, w⟩ := W
  rcases st with _ | ⟨a, st⟩
  · exact fr_no e
  · rcases a with a | a | a | a
    · exact fr_no e
    · exact fr_no e
    · cases a with
      | zero => exact fr_no e
      | succ i =>
        change (match cond (Nat.blt i n) (cond (Nat.blt (ix_g t i).1 98) (some (ix_g t i).2) none) (cond (Nat.blt i 1000000) none (O i)) with
          | some (len, _) => some [(nx, (B, ls, ix_vI len :: st, n, t, w))]
          | none => none) = some outs at e
        split at e
        · exact fr_one e h rfl
        · exact fr_no e
    · exact fr_no e
theorem fn_ret {ok : ix_V → Bool} (h : A 99999) : fr_N A (ix_ret ok) := by
  intro B ls st W outs e
  rcases st with _ | ⟨a, _ | ⟨b, st⟩⟩
  · exact fr_no e
  · exact fr_c e (fun e => fr_one e h rfl)
  · exact fr_no e
theorem fn_retv (h : A 99999) : fr_N A (ix_retv) := by
  intro B ls st W outs e
  rcases st with _ | ⟨a, st⟩
  · exact fr_one e h rfl
  · exact fr_no e
theorem fn_obj {nx : Nat} (h : A nx) : fr_N A (ix_obj nx) := by
  intro B ls st W outs e
  rcases st with _ | ⟨a, st⟩
  · exact fr_no e
  · rcases a with a | a | a | a
    · exact fr_no e
    · exact fr_no e
    · exact fr_c e (fun e => fr_one e h rfl)
    · exact fr_no e
theorem fn_m2 {f : Int32 → Int32 → Int32} {nx : Nat} (h : A nx) : fr_N A (ix_m2 f nx) := by
  intro B ls st W outs e
  rcases st with _ | ⟨b, _ | ⟨a, st⟩⟩
  · exact fr_no e
  · exact fr_no e
  · unfold ix_m2 at e
    dsimp only at e
    refine fr_c e (fun e => ?_)
    split at e
    · exact fr_one e h rfl
    · exact fr_one e h rfl
theorem fn_ab {nx : Nat} (h : A nx) : fr_N A (ix_ab nx) := by
  intro B ls st W outs e
  rcases st with _ | ⟨a, st⟩
  · exact fr_no e
  · unfold ix_ab at e
    dsimp only at e
    exact fr_c e (fun e => fn_iun h B ls (a :: st) W outs e)
theorem fn_acm {tgt nx : Nat} (h1 : A tgt) (h2 : A nx) : fr_N A (ix_acm tgt nx) := by
  intro B ls st W outs e
  obtain ⟨n, t, w⟩ := W
  rcases st with _ | ⟨b, _ | ⟨a, st⟩⟩
  · exact fr_no e
  · rcases b with b | b | b | b <;> exact fr_no e
  · rcases b with b | b | b | b
    · exact fr_no e
    · exact fr_no e
    · rcases a with a | a | a | a
      · exact fr_no e
      · exact fr_no e
      · exact fr_c e (fun e => fr_one e (fr_cA h2 h1) rfl)
      · exact fr_no e
    · exact fr_no e
theorem fn_ogf {fld nx : Nat} (h : A nx) : fr_N A (ix_ogf fld nx) := by
  intro B ls st W outs e
  rcases st with _ | ⟨a, st⟩
  · exact fr_no e
  · rcases a with a | a | a | a
    · exact fr_no e
    · exact fr_no e
    · cases a with
      | zero => exact fr_no e
      | succ i =>
        unfold ix_ogf at e
        dsimp only at e
        split at e
        · exact fr_one e h rfl
        · exact fr_no e
    · exact fr_no e
theorem fn_olen {nx : Nat} (h : A nx) : fr_N A (ix_olen nx) := by
  intro B ls st W outs e
  rcases st with _ | ⟨a, st⟩
  · exact fr_no e
  · rcases a with a | a | a | a
    · exact fr_no e
    · exact fr_no e
    · cases a with
      | zero => exact fr_no e
      | succ i =>
        unfold ix_olen at e
        dsimp only at e
        split at e
        · exact fr_one e h rfl
        · exact fr_no e
    · exact fr_no e
theorem fn_obd {nx : Nat} (h : A nx) : fr_N A (ix_obd nx) := by
  intro B ls st W outs e
  rcases st with _ | ⟨j, _ | ⟨a, st⟩⟩
  · exact fr_no e
  · rcases j with j | j | j | j <;> exact fr_no e
  · rcases j with j | j | j | j
    · rcases a with a | a | a | a
      · exact fr_no e
      · exact fr_no e
      · cases a with
        | zero => exact fr_no e
        | succ i =>
          unfold ix_obd at e
          dsimp only at e
          split at e
          · exact fr_c e (fun e => fr_one e h rfl)
          · exact fr_no e
      · exact fr_no e
    · exact fr_no e
    · exact fr_no e
    · exact fr_no e
theorem fn_gfm {O : ix_O} {nx : Nat} (h : A nx) : fr_N A (ix_gfm O nx) := by
  intro B ls st W outs e
  exact fr_one e h rfl
theorem fn_no  : fr_N A (ix_no) := by
  intro B ls st W outs e
  exact fr_no e
/-- a step that changes the heap -/
theorem fr_w1 {pc : Nat} {S : ix_S} {n : Nat} {t : ix_T} (e : some [(pc, S)] = some outs) (hA : A pc) (hR : fr_R Φ n t S.2.2.2.1 S.2.2.2.2.1) : ∀ o ∈ outs, A o.1 ∧ fr_R Φ n t o.2.2.2.2.1 o.2.2.2.2.2.1 := by
  cases e
  intro o ho
  cases List.mem_singleton.mp ho
  exact ⟨hA, hR⟩
theorem fr_sN {n : Nat} {t : ix_T} {w : Nat × Nat} (h : ∀ o ∈ outs, A o.1 ∧ o.2.2.2.2 = (n, t, w)) : ∀ o ∈ outs, A o.1 ∧ fr_R Φ n t o.2.2.2.2.1 o.2.2.2.2.2.1 := fun o ho => by
  obtain ⟨h1, h2⟩ := h o ho
  refine ⟨h1, ?_⟩
  rw [h2]
  exact fr_R.rf
/-- an array's cell is set anew -/
theorem fr_ar {n i : Nat} {t : ix_T} {c : ix_C} (hi : i < n) (hk : (ix_g t i).1 < 100) : fr_R Φ n t n (ix_u 14 t i c) := fun hn => ⟨Nat.le_refl _, hn, fun j hj h100 => by
  have e : ix_g (ix_u 14 t i c) j = ix_g t j := by
    rw [ix_gu 14 t i j c (by show i < 16384; omega) (by show j < 16384; omega), if_neg (fun q => by subst q; omega)]
  rw [e]
  exact ⟨rfl, fun _ _ _ => rfl⟩⟩
theorem fp_putf {ci k nx : Nat} {ok : ix_V → Bool} (h : A nx) (hk : k < 64) (hq : Φ ci k = false) : fr_P Φ A (ix_putf ci k nx ok) := by
  intro B ls st n t w outs e
  rcases st with _ | ⟨v, _ | ⟨a, st⟩⟩
  · exact fr_no e
  · exact fr_no e
  · rcases a with a | a | a | a
    · exact fr_no e
    · exact fr_no e
    · cases a with
      | zero => exact fr_no e
      | succ i =>
        change cond (Nat.blt i n && ok v) (cond (Nat.beq (ix_g t i).1 ci && Nat.blt k (ix_g t i).2.1) (some [(nx, (B, ls, st, n, ix_u 14 t i ((ix_g t i).1, (ix_g t i).2.1, ix_u 6 (ix_g t i).2.2 k v), w))]) none) none = some outs at e
        cases hb : (Nat.blt i n && ok v) with
        | false => rw [hb] at e; cases e
        | true =>
          rw [hb, cond_true] at e
          have hi := ix_blt.mp (Bool.and_eq_true_iff.mp hb).1
          cases hb2 : (Nat.beq (ix_g t i).1 ci && Nat.blt k (ix_g t i).2.1) with
          | false => rw [hb2] at e; cases e
          | true =>
            rw [hb2, cond_true] at e
            have hc : (ix_g t i).1 = ci := ix_beq.mp (Bool.and_eq_true_iff.mp hb2).1
            refine fr_w1 e h (fun hn => ⟨Nat.le_refl _, hn, fun j hj h100 => ?_⟩)
            show (ix_g (ix_u 14 t i ((ix_g t i).1, (ix_g t i).2.1, ix_u 6 (ix_g t i).2.2 k v)) j).1 = _ ∧ ∀ f, f < 64 → Φ (ix_g t j).1 f = true → ix_g (ix_g (ix_u 14 t i ((ix_g t i).1, (ix_g t i).2.1, ix_u 6 (ix_g t i).2.2 k v)) j).2.2 f = _
            rw [ix_gu 14 t i j _ (by show i < 16384; omega) (by show j < 16384; omega)]
            by_cases q : j = i
            · subst q
              rw [if_pos rfl]
              refine ⟨rfl, fun f hf hfq => ?_⟩
              show ix_g (ix_u 6 (ix_g t j).2.2 k v) f = _
              rw [ix_gu 6 _ k f v (by show k < 64; exact hk) (by show f < 64; exact hf), if_neg (fun q => by
                subst q
                rw [hc, hq] at hfq
                cases hfq)]
            · rw [if_neg q]
              exact ⟨rfl, fun _ _ _ => rfl⟩
    · exact fr_no e
theorem fp_ast {k0 k1 pc nx : Nat} {nar : Nat → ix_V → ix_V} {ok : ix_V → Bool} (h : A nx) (hp : A pc) (h1 : k1 < 100) : fr_P Φ A (ix_ast k0 k1 pc nx nar ok) := by
  intro B ls st n t w outs e
  rcases st with _ | ⟨v, _ | ⟨j, _ | ⟨a, st⟩⟩⟩
  · exact fr_no e
  · exact fr_no e
  · exact fr_no e
  · rcases a with a | a | a | a
    · exact fr_no e
    · exact fr_no e
    · cases a with
      | zero => exact fr_no e
      | succ i =>
        change cond (Nat.blt i n && ok v) (cond (Nat.ble k0 (ix_g t i).1 && Nat.ble (ix_g t i).1 k1) (match ix_nrm B j with
          | .inl m => cond (Nat.blt m (ix_g t i).2.1) (some [(nx, (B, ls, st, n, ix_u 14 t i ((ix_g t i).1, (ix_g t i).2.1, ix_u (ix_dep (ix_g t i).2.1) (ix_g t i).2.2 m (nar (ix_g t i).1 v)), w))]) none
          | .inr (.inr (.inr (x, _))) => ix_split pc (B, ls, v :: j :: .inr (.inr (.inl (i + 1))) :: st, n, t, w) x
          | _ => none) none) none = some outs at e
        cases hb : (Nat.blt i n && ok v) with
        | false => rw [hb] at e; cases e
        | true =>
          rw [hb, cond_true] at e
          have hi := ix_blt.mp (Bool.and_eq_true_iff.mp hb).1
          cases hb2 : (Nat.ble k0 (ix_g t i).1 && Nat.ble (ix_g t i).1 k1) with
          | false => rw [hb2] at e; cases e
          | true =>
            rw [hb2, cond_true] at e
            have hc := ix_ble.mp (Bool.and_eq_true_iff.mp hb2).2
            split at e
            · exact fr_c e (fun e => fr_w1 e h (fr_ar hi (by omega)))
            · exact fr_sN (fr_sp hp e)
            · exact fr_no e
    · exact fr_no e
theorem fp_aast {pc nx : Nat} (h : A nx) (hp : A pc) : fr_P Φ A (ix_aast pc nx) := by
  intro B ls st n t w outs e
  rcases st with _ | ⟨v, _ | ⟨j, _ | ⟨a, st⟩⟩⟩
  · exact fr_no e
  · rcases v with v | v | v | v <;> exact fr_no e
  · rcases v with v | v | v | v <;> exact fr_no e
  · rcases v with v | v | v | v
    · exact fr_no e
    · exact fr_no e
    · rcases a with a | a | a | a
      · exact fr_no e
      · exact fr_no e
      · cases a with
        | zero => exact fr_no e
        | succ i =>
          change cond (Nat.blt i n) (cond ((Nat.beq (ix_g t i).1 4 || Nat.beq (ix_g t i).1 5) && ix_aok (ix_g t i).1 v n t) (match ix_nrm B j with
            | .inl m => cond (Nat.blt m (ix_g t i).2.1) (some [(nx, (B, ls, st, n, ix_u 14 t i ((ix_g t i).1, (ix_g t i).2.1, ix_u (ix_dep (ix_g t i).2.1) (ix_g t i).2.2 m (.inr (.inr (.inl v)))), w))]) none
            | .inr (.inr (.inr (x, _))) => ix_split pc (B, ls, .inr (.inr (.inl v)) :: j :: .inr (.inr (.inl (i + 1))) :: st, n, t, w) x
            | _ => none) none) none = some outs at e
          cases hb : Nat.blt i n with
          | false => rw [hb] at e; cases e
          | true =>
            rw [hb, cond_true] at e
            have hi := ix_blt.mp hb
            cases hb2 : ((Nat.beq (ix_g t i).1 4 || Nat.beq (ix_g t i).1 5) && ix_aok (ix_g t i).1 v n t) with
            | false => rw [hb2] at e; cases e
            | true =>
              rw [hb2, cond_true] at e
              have hc : (ix_g t i).1 < 100 := by
                rcases (Bool.or_eq_true _ _).mp (Bool.and_eq_true_iff.mp hb2).1 with z | z
                · have := ix_beq.mp z; omega
                · have := ix_beq.mp z; omega
              split at e
              · exact fr_c e (fun e => fr_w1 e h (fr_ar hi hc))
              · exact fr_sN (fr_sp hp e)
              · exact fr_no e
      · exact fr_no e
    · exact fr_no e
theorem fr_nw {n : Nat} {t : ix_T} {c : ix_C} (hn : n < 16384) : fr_R Φ n t (Nat.succ n) (ix_u 14 t n c) := fun _ => ⟨Nat.le_succ _, hn, fun j hj h100 => by
  have e : ix_g (ix_u 14 t n c) j = ix_g t j := by
    rw [ix_gu 14 t n j c (by show n < 16384; omega) (by show j < 16384; omega), if_neg (fun q => by omega)]
  rw [e]
  exact ⟨rfl, fun _ _ _ => rfl⟩⟩
theorem fp_new {kd len : Nat} {fs : ix_A} {capC capS nx : Nat} (h : A nx) : fr_P Φ A (ix_new kd len fs capC capS nx) := by
  intro B ls st n t w outs e
  obtain ⟨ce, sl⟩ := w
  unfold ix_new at e
  dsimp only at e
  cases hb : (Nat.blt n 16384 && (Nat.ble (Nat.succ ce) capC && Nat.ble (Nat.add sl len) capS)) with
  | false => rw [hb] at e; cases e
  | true =>
    rw [hb, cond_true] at e
    exact fr_w1 e h (fr_nw (ix_blt.mp (Bool.and_eq_true_iff.mp hb).1))
theorem fp_newa {kd : Nat} {z : ix_V} {capC capS nx : Nat} (h : A nx) : fr_P Φ A (ix_newa kd z capC capS nx) := by
  intro B ls st n t w outs e
  obtain ⟨ce, sl⟩ := w
  rcases st with _ | ⟨a, st⟩
  · exact fr_no e
  · unfold ix_newa at e
    dsimp only at e
    split at e
    · rename_i m _
      cases hb : (Nat.ble m 16384 && (Nat.blt n 16384 && (Nat.ble (Nat.succ ce) capC && Nat.ble (Nat.add sl m) capS))) with
      | false => rw [hb] at e; cases e
      | true =>
        rw [hb, cond_true] at e
        exact fr_w1 e h (fr_nw (ix_blt.mp (Bool.and_eq_true_iff.mp (Bool.and_eq_true_iff.mp hb).2).1))
    · exact fr_no e
/-- calls: all but those that write -/
def fr_C (Φ : Nat → Nat → Bool) (wr : Nat → Bool) (c : ix_Call) : Prop := ∀ y as B n t outs, wr y = false → c y as B n t = some outs → ∀ o ∈ outs, fr_R Φ n t o.2.2.2.1 o.2.2.2.2.1
theorem fp_call {wr : Nat → Bool} {chk : List ix_V → Nat → ix_T → Bool} {c : ix_Call} {na y mc ms cC cS nx : Nat} (hc : fr_C Φ wr c) (hy : wr y = false) (h : A nx) : fr_P Φ A (ix_call chk c na y mc ms cC cS nx) := by
  intro B ls st n t w outs e
  obtain ⟨ce, sl⟩ := w
  unfold ix_call at e
  dsimp only at e
  split at e
  · rename_i as rest _
    refine fr_c e (fun e => ?_)
    split at e
    · rename_i o2 ho
      cases e
      intro o hm
      obtain ⟨q, q1, rfl⟩ := List.mem_map.mp hm
      exact ⟨h, hc y as B n t o2 hy ho q q1⟩
    · exact fr_no e
  · exact fr_no e
/-- a method's code -/
def fr_Q (Φ : Nat → Nat → Bool) (A : Nat → Prop) (pc : Nat) (r : ix_S → ix_R) : Prop := A pc → fr_P Φ A r
theorem fr_b {x : Bool} {pc : Nat} {a b : ix_S → ix_R} (h1 : fr_Q Φ A pc a) (h2 : fr_Q Φ A pc b) : fr_Q Φ A pc (cond x a b) := by
  cases x
  · exact h2
  · exact h1
theorem fr_l {pc k : Nat} {a : ix_S → ix_R} (h : A k → fr_P Φ A a) : fr_Q Φ A pc (cond (Nat.beq pc k) a ix_no) := fun hp => by
  cases hb : Nat.beq pc k with
  | true => exact h (by rw [← ix_beq.mp hb]; exact hp)
  | false => exact fn_no.P
theorem fr_fold {P : Nat → ix_S → Option (List ix_S)} {n : Nat} {t : ix_T} (hP : ∀ pc S outs, A pc → P pc S = some outs → ∀ o ∈ outs, fr_R Φ S.2.2.2.1 S.2.2.2.2.1 o.2.2.2.1 o.2.2.2.2.1) : ∀ (l : List (Nat × ix_S)) (outs : List ix_S), (∀ o ∈ l, A o.1 ∧ fr_R Φ n t o.2.2.2.2.1 o.2.2.2.2.2.1) → l.foldr (fun o acc => ix_app (P o.1 o.2) acc) (some []) = some outs → ∀ o ∈ outs, fr_R Φ n t o.2.2.2.1 o.2.2.2.2.1
  | [], outs, _, e => by
    have e0 := fr_e0 e
    subst e0
    intro o ho
    cases ho
  | q :: l, outs, hl, e => by
    change ix_app (P q.1 q.2) (l.foldr (fun o acc => ix_app (P o.1 o.2) acc) (some [])) = some outs at e
    unfold ix_app at e
    split at e
    · cases e
    · rename_i x hx
      split at e
      · cases e
      · rename_i y hy
        cases e
        intro o ho
        rcases List.mem_append.mp ho with ho | ho
        · have z := hl q List.mem_cons_self
          exact z.2.tr (hP q.1 q.2 x z.1 hx o ho)
        · exact fr_fold hP l y (fun o ho => hl o (List.mem_cons_of_mem _ ho)) hy o ho
theorem fr_loop {P : ix_P} (hP : ∀ pc, A pc → fr_P Φ A (P pc)) : ∀ (fuel pc : Nat) (S : ix_S) (outs : List ix_S), A pc → ix_loop P fuel pc S = some outs → ∀ o ∈ outs, fr_R Φ S.2.2.2.1 S.2.2.2.2.1 o.2.2.2.1 o.2.2.2.2.1
  | 0, pc, S, outs, _, e => fr_nn e
  | g + 1, pc, S, outs, hA, e => by
    change cond (Nat.beq pc 99999) (some [S]) (match P pc S with
      | none => none
      | some outs => (match outs with
        | [] => some []
        | (pc1, S1) :: r => (match r with
          | [] => ix_loop P g pc1 S1
          | _ => outs.foldr (fun o acc => ix_app (ix_loop P g o.1 o.2) acc) (some [])))) = some outs at e
    cases hb : Nat.beq pc 99999 with
    | true =>
      rw [hb, cond_true] at e
      cases e
      intro o ho
      cases List.mem_singleton.mp ho
      exact fr_R.rf
    | false =>
      rw [hb, cond_false] at e
      split at e
      · cases e
      · rename_i l hl
        obtain ⟨B, ls, st, n, t, w⟩ := S
        have hs := hP pc hA B ls st n t w l hl
        rcases l with _ | ⟨⟨pc1, S1⟩, r⟩
        · have e0 := fr_e0 e
          subst e0
          intro o ho
          cases ho
        · rcases r with _ | ⟨q, r⟩
          · have z := hs _ List.mem_cons_self
            intro o ho
            exact z.2.tr (fr_loop hP g pc1 S1 outs z.1 e o ho)
          · exact fr_fold (fun pc S outs => fr_loop hP g pc S outs) _ outs hs e
theorem fr_exec {wr : Nat → Bool} {M : ix_M} {g : Nat} (hM : ∀ y, wr y = false → ∀ P nL, M y = some (P, nL) → ∀ c, fr_C Φ wr c → ∀ pc, fr_P Φ (fun _ => True) (P c pc)) : ∀ d, fr_C Φ wr (ix_exec M ty_no g d)
  | 0 => fun y as B n t outs _ e => fr_nn e
  | d + 1 => fun y as B n t outs hy e => by
    change (match M y with
      | none => none
      | some (P, nL) => cond (Nat.ble (ix_args as).length nL) (ix_loop (P (ix_exec M ty_no g d)) g 0 (B, ix_pad (ix_args as) (Nat.sub nL (ix_args as).length), [], n, t, 0, 0)) none) = some outs at e
    split at e
    · cases e
    · rename_i P nL hP
      cases hb : Nat.ble (ix_args as).length nL with
      | false => rw [hb] at e; cases e
      | true =>
        rw [hb, cond_true] at e
        intro o ho
        exact fr_loop (A := fun _ => True) (fun pc _ => hM y hy P nL hP _ (fr_exec hM d) pc) g 0 _ outs trivial e o ho
end FRA
