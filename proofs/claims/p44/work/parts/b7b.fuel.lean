/-! more fuel: what ends so, ends so -/
section LWB
def pm_c (c c' : ix_Call) : Prop := ∀ y as B n t outs, c y as B n t = some outs → c' y as B n t = some outs
def pm_o (O O' : ix_O) : Prop := ∀ i q, O i = some q → O' i = some q
def pm_r (r r' : ix_S → ix_R) : Prop := ∀ S outs, r S = some outs → r' S = some outs
theorem pm_i {r : ix_S → ix_R} : pm_r r r := fun _ _ h => h
theorem pm_b {x : Bool} {a a' b b' : ix_S → ix_R} (h1 : pm_r a a') (h2 : pm_r b b') : pm_r (cond x a b) (cond x a' b') := by
  cases x
  · exact h2
  · exact h1
theorem pm_call {chk : List ix_V → Nat → ix_T → Bool} {c c' : ix_Call} {na y mc ms cC cS nx : Nat} (hcc : pm_c c c') : pm_r (ix_call chk c na y mc ms cC cS nx) (ix_call chk c' na y mc ms cC cS nx) := by
  intro S outs h
  obtain ⟨B, ls, st, n, t, ce, sl⟩ := S
  unfold ix_call at h ⊢
  dsimp only at h ⊢
  split at h
  · rename_i as rest htk
    cases hb : (chk as n t && (Nat.ble (ix_cats rest) 8 && (Nat.ble (Nat.add ce mc) cC && Nat.ble (Nat.add sl ms) cS))) with
    | false => rw [hb] at h; cases h
    | true =>
      rw [hb, cond_true] at h
      rw [cond_true]
      split at h
      · rename_i o2 ho
        rw [hcc y as B n t o2 ho]
        exact h
      · cases h
  · cases h
theorem pm_iald {O O' : ix_O} {p nx : Nat} (hO : pm_o O O') : pm_r (ix_iald O p nx) (ix_iald O' p nx) := by
  intro S outs h
  obtain ⟨B, ls, st, n, t, w⟩ := S
  unfold ix_iald at h ⊢
  split at h
  · rename_i j r st0 _ _ _ e9
    cases e9
    try dsimp only
    split at h
    · cases h
    · rename_i i
      try dsimp only
      cases hb : Nat.blt i n with
      | true => rw [hb] at h; exact h
      | false =>
        rw [hb] at h
        dsimp only [cond_false] at h ⊢
        cases h6 : Nat.blt i 1000000 with
        | true => rw [h6] at h; exact h
        | false =>
          rw [h6] at h
          dsimp only [cond_false] at h ⊢
          cases ho : O i with
          | none => rw [ho] at h; cases h
          | some q => rw [hO i q ho]; rw [ho] at h; exact h
  · cases h
theorem pm_alen {O O' : ix_O} {nx : Nat} (hO : pm_o O O') : pm_r (ix_alen O nx) (ix_alen O' nx) := by
  intro S outs h
  obtain ⟨B, ls, st, n, t, w⟩ := S
  unfold ix_alen at h ⊢
  split at h
  · rename_i r st0 _ _ _ e9
    cases e9
    try dsimp only
    split at h
    · cases h
    · rename_i i
      try dsimp only
      cases hb : Nat.blt i n with
      | true => rw [hb] at h; exact h
      | false =>
        rw [hb] at h
        dsimp only [cond_false] at h ⊢
        cases h6 : Nat.blt i 1000000 with
        | true => rw [h6] at h; exact h
        | false =>
          rw [h6] at h
          dsimp only [cond_false] at h ⊢
          cases ho : O i with
          | none => rw [ho] at h; cases h
          | some q => rw [hO i q ho]; rw [ho] at h; exact h
  · cases h
theorem pm_fold {f f' : Nat × ix_S → Option (List ix_S)} (hf : ∀ o r, f o = some r → f' o = some r) : ∀ (l : List (Nat × ix_S)) (r : List ix_S), l.foldr (fun o acc => ix_app (f o) acc) (some []) = some r → l.foldr (fun o acc => ix_app (f' o) acc) (some []) = some r
  | [], r, h => h
  | p :: l, r, h => by
    obtain ⟨x, y, h1, h2, rfl⟩ := ix_app_mem h
    show ix_app (f' p) (l.foldr (fun o acc => ix_app (f' o) acc) (some [])) = _
    rw [hf p x h1, pm_fold hf l y h2]
    rfl
theorem pm_loop {P P' : ix_P} (hP : ∀ pc, pm_r (P pc) (P' pc)) : ∀ (f f' : Nat) (pc : Nat) (S : ix_S) (outs : List ix_S), f ≤ f' → ix_loop P f pc S = some outs → ix_loop P' f' pc S = some outs
  | 0, _, pc, S, outs, _, h => by cases h
  | f + 1, f', pc, S, outs, hf, h => by
    obtain ⟨g, rfl⟩ : ∃ g, f' = g + 1 := ⟨f' - 1, by omega⟩
    rw [ix_loop_succ] at h ⊢
    cases hb : Nat.beq pc 99999 with
    | true => rw [hb] at h; exact h
    | false =>
      rw [hb, cond_false] at h
      rw [cond_false]
      cases ho : P pc S with
      | none => rw [ho] at h; cases h
      | some o2 =>
        rw [ho] at h
        rw [hP pc S o2 ho]
        match o2, h with
        | [], h => exact h
        | [(pc1, S1)], h => exact pm_loop hP f g pc1 S1 outs (by omega) h
        | q1 :: q2 :: r, h => exact pm_fold (fun o r hr => pm_loop hP f g o.1 o.2 r (by omega) hr) (q1 :: q2 :: r) outs h
def pm_t (a b : Option ((ix_Call → ix_P) × Nat)) : Prop := ∀ P nL, a = some (P, nL) → ∃ P', b = some (P', nL) ∧ ∀ c c', pm_c c c' → ∀ pc, pm_r (P c pc) (P' c' pc)
theorem pm_exec {M M' : ix_M} (hM : ∀ y, pm_t (M y) (M' y)) : ∀ (d d' g g' : Nat), d ≤ d' → g ≤ g' → pm_c (ix_exec M ty_no g d) (ix_exec M' ty_no g' d')
  | 0, _, _, _, _, _ => fun y as B n t outs h => by cases h
  | d + 1, d', g, g', hd, hg => fun y as B n t outs h => by
    obtain ⟨e, rfl⟩ : ∃ e, d' = e + 1 := ⟨d' - 1, by omega⟩
    rw [ix_exec_succ] at h ⊢
    change (match M y with
      | none => none
      | some (P, nL) => cond (Nat.ble (ix_args as).length nL) (ix_loop (P (ix_exec M ty_no g d)) g 0 (B, ix_pad (ix_args as) (Nat.sub nL (ix_args as).length), [], n, t, 0, 0)) none) = some outs at h
    show (match M' y with
      | none => none
      | some (P, nL) => cond (Nat.ble (ix_args as).length nL) (ix_loop (P (ix_exec M' ty_no g' e)) g' 0 (B, ix_pad (ix_args as) (Nat.sub nL (ix_args as).length), [], n, t, 0, 0)) none) = some outs
    cases hm : M y with
    | none => rw [hm] at h; cases h
    | some q =>
      obtain ⟨P, nL⟩ := q
      obtain ⟨P', h1, h2⟩ := hM y P nL hm
      rw [hm] at h
      rw [h1]
      dsimp only at h ⊢
      cases hb : Nat.ble (ix_args as).length nL with
      | false => rw [hb] at h; cases h
      | true =>
        rw [hb, cond_true] at h
        rw [cond_true]
        exact pm_loop (h2 _ _ (pm_exec hM d e g g' (by omega) hg)) g g' 0 _ outs hg h
variable {O O' : ix_O}
set_option maxRecDepth 100000 in
set_option maxHeartbeats 4000000 in
theorem pm_J7_fill_53178 (hO : pm_o O O') : ∀ c c', pm_c c c' → ∀ pc, pm_r (ix_cJ7_fill_53178 O c pc) (ix_cJ7_fill_53178 O' c' pc) := fun c c' hcc pc => by
  unfold ix_cJ7_fill_53178
  exact (pm_b (pm_b (pm_b (pm_b pm_i pm_i) (pm_b (pm_b pm_i pm_i) (pm_b pm_i pm_i))) (pm_b (pm_b (pm_b (pm_alen hO) pm_i) (pm_b pm_i pm_i)) (pm_b (pm_b pm_i pm_i) (pm_b pm_i pm_i)))) (pm_b (pm_b (pm_b (pm_b pm_i pm_i) (pm_b pm_i pm_i)) (pm_b (pm_b pm_i pm_i) (pm_b pm_i pm_i))) (pm_b (pm_b (pm_b pm_i pm_i) (pm_b pm_i pm_i)) (pm_b (pm_b pm_i pm_i) (pm_b pm_i pm_i)))))
set_option maxRecDepth 100000 in
set_option maxHeartbeats 4000000 in
theorem pm_X0_init (hO : pm_o O O') : ∀ c c', pm_c c c' → ∀ pc, pm_r (ix_cX0_init O c pc) (ix_cX0_init O' c' pc) := fun c c' hcc pc => by
  unfold ix_cX0_init
  exact (pm_b (pm_b (pm_b (pm_b (pm_b (pm_b pm_i pm_i) (pm_b pm_i pm_i)) (pm_b (pm_b pm_i pm_i) (pm_b pm_i pm_i))) (pm_b (pm_b (pm_b pm_i pm_i) (pm_b pm_i pm_i)) (pm_b (pm_b pm_i pm_i) (pm_b (pm_b pm_i pm_i) (pm_b pm_i pm_i))))) (pm_b (pm_b (pm_b (pm_b pm_i pm_i) (pm_b pm_i pm_i)) (pm_b (pm_b pm_i pm_i) (pm_b (pm_b pm_i pm_i) (pm_b (pm_call hcc) pm_i)))) (pm_b (pm_b (pm_b pm_i pm_i) (pm_b pm_i pm_i)) (pm_b (pm_b pm_i pm_i) (pm_b (pm_b pm_i pm_i) (pm_b pm_i pm_i)))))) (pm_b (pm_b (pm_b (pm_b (pm_b pm_i pm_i) (pm_b (pm_call hcc) pm_i)) (pm_b (pm_b pm_i pm_i) (pm_b pm_i pm_i))) (pm_b (pm_b (pm_b pm_i pm_i) (pm_b pm_i pm_i)) (pm_b (pm_b (pm_call hcc) pm_i) (pm_b (pm_b pm_i pm_i) (pm_b pm_i pm_i))))) (pm_b (pm_b (pm_b (pm_b pm_i pm_i) (pm_b pm_i pm_i)) (pm_b (pm_b pm_i pm_i) (pm_b (pm_b pm_i pm_i) (pm_b (pm_call hcc) pm_i)))) (pm_b (pm_b (pm_b pm_i pm_i) (pm_b pm_i pm_i)) (pm_b (pm_b pm_i pm_i) (pm_b (pm_b pm_i pm_i) (pm_b pm_i pm_i)))))))
set_option maxRecDepth 100000 in
set_option maxHeartbeats 4000000 in
theorem pm_X10_init (hO : pm_o O O') : ∀ c c', pm_c c c' → ∀ pc, pm_r (ix_cX10_init O c pc) (ix_cX10_init O' c' pc) := fun c c' hcc pc => by
  unfold ix_cX10_init
  exact (pm_b (pm_b (pm_b (pm_b (pm_b pm_i pm_i) (pm_b pm_i pm_i)) (pm_b (pm_b pm_i pm_i) (pm_b pm_i pm_i))) (pm_b (pm_b (pm_b pm_i pm_i) (pm_b pm_i pm_i)) (pm_b (pm_b pm_i pm_i) (pm_b (pm_b pm_i pm_i) (pm_b pm_i pm_i))))) (pm_b (pm_b (pm_b (pm_b pm_i pm_i) (pm_b pm_i pm_i)) (pm_b (pm_b pm_i pm_i) (pm_b (pm_b pm_i pm_i) (pm_b (pm_call hcc) pm_i)))) (pm_b (pm_b (pm_b pm_i pm_i) (pm_b pm_i pm_i)) (pm_b (pm_b pm_i pm_i) (pm_b (pm_b pm_i pm_i) (pm_b pm_i pm_i))))))
set_option maxRecDepth 100000 in
set_option maxHeartbeats 4000000 in
theorem pm_X11_init (hO : pm_o O O') : ∀ c c', pm_c c c' → ∀ pc, pm_r (ix_cX11_init O c pc) (ix_cX11_init O' c' pc) := fun c c' hcc pc => by
  unfold ix_cX11_init
  exact (pm_b (pm_b (pm_b (pm_b (pm_b (pm_b (pm_b pm_i pm_i) (pm_b pm_i pm_i)) (pm_b (pm_b pm_i pm_i) (pm_b (pm_b pm_i pm_i) (pm_b (pm_call hcc) pm_i)))) (pm_b (pm_b (pm_b pm_i pm_i) (pm_b (pm_b pm_i pm_i) (pm_b pm_i pm_i))) (pm_b (pm_b pm_i pm_i) (pm_b (pm_b pm_i pm_i) (pm_b pm_i pm_i))))) (pm_b (pm_b (pm_b (pm_b pm_i pm_i) (pm_b (pm_call hcc) pm_i)) (pm_b (pm_b pm_i pm_i) (pm_b (pm_b pm_i pm_i) (pm_b pm_i pm_i)))) (pm_b (pm_b (pm_b pm_i pm_i) (pm_b (pm_b pm_i pm_i) (pm_b (pm_call hcc) pm_i))) (pm_b (pm_b pm_i pm_i) (pm_b (pm_b pm_i pm_i) (pm_b pm_i pm_i)))))) (pm_b (pm_b (pm_b (pm_b (pm_b pm_i pm_i) (pm_b pm_i pm_i)) (pm_b (pm_b pm_i pm_i) (pm_b (pm_b pm_i pm_i) (pm_b pm_i pm_i)))) (pm_b (pm_b (pm_b pm_i pm_i) (pm_b (pm_b pm_i pm_i) (pm_b pm_i pm_i))) (pm_b (pm_b pm_i pm_i) (pm_b (pm_b pm_i pm_i) (pm_b pm_i pm_i))))) (pm_b (pm_b (pm_b (pm_b pm_i pm_i) (pm_b pm_i pm_i)) (pm_b (pm_b pm_i pm_i) (pm_b (pm_b pm_i pm_i) (pm_b pm_i pm_i)))) (pm_b (pm_b (pm_b pm_i pm_i) (pm_b (pm_b pm_i pm_i) (pm_b pm_i pm_i))) (pm_b (pm_b pm_i pm_i) (pm_b (pm_b pm_i pm_i) (pm_b pm_i pm_i))))))) (pm_b (pm_b (pm_b (pm_b (pm_b (pm_b (pm_call hcc) pm_i) (pm_b pm_i pm_i)) (pm_b (pm_b pm_i pm_i) (pm_b (pm_b pm_i pm_i) (pm_b pm_i pm_i)))) (pm_b (pm_b (pm_b pm_i pm_i) (pm_b (pm_b pm_i pm_i) (pm_b pm_i pm_i))) (pm_b (pm_b (pm_call hcc) pm_i) (pm_b (pm_b pm_i pm_i) (pm_b pm_i pm_i))))) (pm_b (pm_b (pm_b (pm_b pm_i pm_i) (pm_b pm_i pm_i)) (pm_b (pm_b pm_i pm_i) (pm_b (pm_b pm_i pm_i) (pm_b (pm_call hcc) pm_i)))) (pm_b (pm_b (pm_b pm_i pm_i) (pm_b (pm_b pm_i pm_i) (pm_b pm_i pm_i))) (pm_b (pm_b pm_i pm_i) (pm_b (pm_b pm_i pm_i) (pm_b pm_i pm_i)))))) (pm_b (pm_b (pm_b (pm_b (pm_b (pm_call hcc) pm_i) (pm_b pm_i pm_i)) (pm_b (pm_b pm_i pm_i) (pm_b (pm_b pm_i pm_i) (pm_b pm_i pm_i)))) (pm_b (pm_b (pm_b pm_i pm_i) (pm_b (pm_b pm_i pm_i) (pm_b (pm_call hcc) pm_i))) (pm_b (pm_b pm_i pm_i) (pm_b (pm_b pm_i pm_i) (pm_b pm_i pm_i))))) (pm_b (pm_b (pm_b (pm_b pm_i pm_i) (pm_b pm_i pm_i)) (pm_b (pm_b pm_i pm_i) (pm_b (pm_b pm_i pm_i) (pm_b pm_i pm_i)))) (pm_b (pm_b (pm_b pm_i pm_i) (pm_b (pm_b pm_i pm_i) (pm_b pm_i pm_i))) (pm_b (pm_b pm_i pm_i) (pm_b (pm_b pm_i pm_i) (pm_b pm_i pm_i))))))))
set_option maxRecDepth 100000 in
set_option maxHeartbeats 4000000 in
theorem pm_X12_init (hO : pm_o O O') : ∀ c c', pm_c c c' → ∀ pc, pm_r (ix_cX12_init O c pc) (ix_cX12_init O' c' pc) := fun c c' hcc pc => by
  unfold ix_cX12_init
  exact (pm_b (pm_b (pm_b (pm_b (pm_b (pm_b (pm_b (pm_b (pm_b (pm_b pm_i pm_i) (pm_b pm_i pm_i)) (pm_b (pm_b pm_i pm_i) (pm_b (pm_b pm_i pm_i) (pm_b pm_i pm_i)))) (pm_b (pm_b (pm_b pm_i pm_i) (pm_b pm_i pm_i)) (pm_b (pm_b pm_i pm_i) (pm_b (pm_b pm_i pm_i) (pm_b pm_i pm_i))))) (pm_b (pm_b (pm_b (pm_b pm_i pm_i) (pm_b pm_i pm_i)) (pm_b (pm_b pm_i pm_i) (pm_b (pm_b pm_i pm_i) (pm_b pm_i pm_i)))) (pm_b (pm_b (pm_b pm_i pm_i) (pm_b (pm_b pm_i pm_i) (pm_b pm_i pm_i))) (pm_b (pm_b pm_i pm_i) (pm_b (pm_b pm_i pm_i) (pm_b pm_i pm_i)))))) (pm_b (pm_b (pm_b (pm_b (pm_b pm_i pm_i) (pm_b pm_i pm_i)) (pm_b (pm_b pm_i pm_i) (pm_b (pm_b pm_i pm_i) (pm_b pm_i pm_i)))) (pm_b (pm_b (pm_b pm_i pm_i) (pm_b pm_i pm_i)) (pm_b (pm_b pm_i pm_i) (pm_b (pm_b pm_i pm_i) (pm_b pm_i pm_i))))) (pm_b (pm_b (pm_b (pm_b pm_i pm_i) (pm_b pm_i pm_i)) (pm_b (pm_b pm_i pm_i) (pm_b (pm_b pm_i pm_i) (pm_b pm_i pm_i)))) (pm_b (pm_b (pm_b pm_i pm_i) (pm_b (pm_b pm_i pm_i) (pm_b pm_i pm_i))) (pm_b (pm_b pm_i pm_i) (pm_b (pm_b pm_i pm_i) (pm_b pm_i pm_i))))))) (pm_b (pm_b (pm_b (pm_b (pm_b (pm_b pm_i pm_i) (pm_b pm_i pm_i)) (pm_b (pm_b pm_i pm_i) (pm_b (pm_b pm_i pm_i) (pm_b pm_i pm_i)))) (pm_b (pm_b (pm_b pm_i pm_i) (pm_b pm_i pm_i)) (pm_b (pm_b pm_i pm_i) (pm_b (pm_b pm_i pm_i) (pm_b pm_i pm_i))))) (pm_b (pm_b (pm_b (pm_b pm_i pm_i) (pm_b pm_i pm_i)) (pm_b (pm_b pm_i pm_i) (pm_b (pm_b pm_i pm_i) (pm_b pm_i pm_i)))) (pm_b (pm_b (pm_b pm_i pm_i) (pm_b (pm_b pm_i pm_i) (pm_b pm_i pm_i))) (pm_b (pm_b pm_i pm_i) (pm_b (pm_b pm_i pm_i) (pm_b pm_i pm_i)))))) (pm_b (pm_b (pm_b (pm_b (pm_b pm_i pm_i) (pm_b pm_i pm_i)) (pm_b (pm_b pm_i pm_i) (pm_b (pm_b pm_i pm_i) (pm_b pm_i pm_i)))) (pm_b (pm_b (pm_b pm_i pm_i) (pm_b (pm_b pm_i pm_i) (pm_b pm_i pm_i))) (pm_b (pm_b pm_i pm_i) (pm_b (pm_b pm_i pm_i) (pm_b pm_i pm_i))))) (pm_b (pm_b (pm_b (pm_b pm_i pm_i) (pm_b pm_i pm_i)) (pm_b (pm_b pm_i pm_i) (pm_b (pm_b pm_i pm_i) (pm_b pm_i pm_i)))) (pm_b (pm_b (pm_b pm_i pm_i) (pm_b (pm_b pm_i pm_i) (pm_b pm_i pm_i))) (pm_b (pm_b pm_i pm_i) (pm_b (pm_b pm_i pm_i) (pm_b pm_i pm_i)))))))) (pm_b (pm_b (pm_b (pm_b (pm_b (pm_b (pm_b pm_i pm_i) (pm_b pm_i pm_i)) (pm_b (pm_b pm_i pm_i) (pm_b (pm_b pm_i pm_i) (pm_b pm_i pm_i)))) (pm_b (pm_b (pm_b pm_i pm_i) (pm_b pm_i pm_i)) (pm_b (pm_b pm_i pm_i) (pm_b (pm_b pm_i pm_i) (pm_b pm_i pm_i))))) (pm_b (pm_b (pm_b (pm_b pm_i pm_i) (pm_b pm_i pm_i)) (pm_b (pm_b pm_i pm_i) (pm_b (pm_b pm_i pm_i) (pm_b pm_i pm_i)))) (pm_b (pm_b (pm_b pm_i pm_i) (pm_b (pm_b pm_i pm_i) (pm_b pm_i pm_i))) (pm_b (pm_b pm_i pm_i) (pm_b (pm_b pm_i pm_i) (pm_b pm_i pm_i)))))) (pm_b (pm_b (pm_b (pm_b (pm_b pm_i pm_i) (pm_b pm_i pm_i)) (pm_b (pm_b pm_i pm_i) (pm_b (pm_b pm_i pm_i) (pm_b pm_i pm_i)))) (pm_b (pm_b (pm_b pm_i pm_i) (pm_b pm_i pm_i)) (pm_b (pm_b pm_i pm_i) (pm_b (pm_b pm_i pm_i) (pm_b pm_i pm_i))))) (pm_b (pm_b (pm_b (pm_b pm_i pm_i) (pm_b pm_i pm_i)) (pm_b (pm_b pm_i pm_i) (pm_b (pm_b pm_i pm_i) (pm_b pm_i pm_i)))) (pm_b (pm_b (pm_b pm_i pm_i) (pm_b (pm_b pm_i pm_i) (pm_b pm_i pm_i))) (pm_b (pm_b pm_i pm_i) (pm_b (pm_b pm_i pm_i) (pm_b pm_i pm_i))))))) (pm_b (pm_b (pm_b (pm_b (pm_b (pm_b pm_i pm_i) (pm_b pm_i pm_i)) (pm_b (pm_b pm_i pm_i) (pm_b (pm_b pm_i pm_i) (pm_b pm_i pm_i)))) (pm_b (pm_b (pm_b pm_i pm_i) (pm_b pm_i pm_i)) (pm_b (pm_b pm_i pm_i) (pm_b (pm_b pm_i pm_i) (pm_b pm_i pm_i))))) (pm_b (pm_b (pm_b (pm_b pm_i pm_i) (pm_b pm_i pm_i)) (pm_b (pm_b pm_i pm_i) (pm_b (pm_b pm_i pm_i) (pm_b pm_i pm_i)))) (pm_b (pm_b (pm_b pm_i pm_i) (pm_b (pm_b pm_i pm_i) (pm_b pm_i pm_i))) (pm_b (pm_b pm_i pm_i) (pm_b (pm_b pm_i pm_i) (pm_b pm_i pm_i)))))) (pm_b (pm_b (pm_b (pm_b (pm_b pm_i pm_i) (pm_b pm_i pm_i)) (pm_b (pm_b pm_i pm_i) (pm_b (pm_b pm_i pm_i) (pm_b pm_i pm_i)))) (pm_b (pm_b (pm_b pm_i pm_i) (pm_b (pm_b pm_i pm_i) (pm_b pm_i pm_i))) (pm_b (pm_b pm_i pm_i) (pm_b (pm_b pm_i pm_i) (pm_b pm_i pm_i))))) (pm_b (pm_b (pm_b (pm_b pm_i pm_i) (pm_b pm_i pm_i)) (pm_b (pm_b pm_i pm_i) (pm_b (pm_b pm_i pm_i) (pm_b pm_i pm_i)))) (pm_b (pm_b (pm_b pm_i pm_i) (pm_b (pm_b pm_i pm_i) (pm_b pm_i pm_i))) (pm_b (pm_b pm_i pm_i) (pm_b (pm_b pm_i pm_i) (pm_b pm_i pm_i))))))))) (pm_b (pm_b (pm_b (pm_b (pm_b (pm_b (pm_b (pm_b pm_i pm_i) (pm_b pm_i pm_i)) (pm_b (pm_b pm_i pm_i) (pm_b (pm_b pm_i pm_i) (pm_b pm_i pm_i)))) (pm_b (pm_b (pm_b pm_i pm_i) (pm_b pm_i pm_i)) (pm_b (pm_b pm_i pm_i) (pm_b (pm_b pm_i pm_i) (pm_b pm_i pm_i))))) (pm_b (pm_b (pm_b (pm_b pm_i pm_i) (pm_b pm_i pm_i)) (pm_b (pm_b pm_i pm_i) (pm_b (pm_b pm_i pm_i) (pm_b pm_i pm_i)))) (pm_b (pm_b (pm_b pm_i pm_i) (pm_b (pm_b pm_i pm_i) (pm_b pm_i pm_i))) (pm_b (pm_b pm_i pm_i) (pm_b (pm_b pm_i pm_i) (pm_b pm_i pm_i)))))) (pm_b (pm_b (pm_b (pm_b (pm_b pm_i pm_i) (pm_b pm_i pm_i)) (pm_b (pm_b pm_i pm_i) (pm_b (pm_b pm_i pm_i) (pm_b pm_i pm_i)))) (pm_b (pm_b (pm_b pm_i pm_i) (pm_b pm_i pm_i)) (pm_b (pm_b pm_i pm_i) (pm_b (pm_b pm_i pm_i) (pm_b pm_i pm_i))))) (pm_b (pm_b (pm_b (pm_b pm_i pm_i) (pm_b pm_i pm_i)) (pm_b (pm_b pm_i pm_i) (pm_b (pm_b pm_i pm_i) (pm_b pm_i pm_i)))) (pm_b (pm_b (pm_b pm_i pm_i) (pm_b (pm_b pm_i pm_i) (pm_b pm_i pm_i))) (pm_b (pm_b pm_i pm_i) (pm_b (pm_b pm_i pm_i) (pm_b pm_i pm_i))))))) (pm_b (pm_b (pm_b (pm_b (pm_b (pm_b pm_i pm_i) (pm_b pm_i pm_i)) (pm_b (pm_b pm_i pm_i) (pm_b (pm_b pm_i pm_i) (pm_b pm_i pm_i)))) (pm_b (pm_b (pm_b pm_i pm_i) (pm_b pm_i pm_i)) (pm_b (pm_b pm_i pm_i) (pm_b (pm_b pm_i pm_i) (pm_b pm_i pm_i))))) (pm_b (pm_b (pm_b (pm_b pm_i pm_i) (pm_b pm_i pm_i)) (pm_b (pm_b pm_i pm_i) (pm_b (pm_b pm_i pm_i) (pm_b pm_i pm_i)))) (pm_b (pm_b (pm_b pm_i pm_i) (pm_b (pm_b pm_i pm_i) (pm_b pm_i pm_i))) (pm_b (pm_b pm_i pm_i) (pm_b (pm_b pm_i pm_i) (pm_b pm_i pm_i)))))) (pm_b (pm_b (pm_b (pm_b (pm_b pm_i pm_i) (pm_b pm_i pm_i)) (pm_b (pm_b pm_i pm_i) (pm_b (pm_b pm_i pm_i) (pm_b pm_i pm_i)))) (pm_b (pm_b (pm_b pm_i pm_i) (pm_b (pm_b pm_i pm_i) (pm_b pm_i pm_i))) (pm_b (pm_b pm_i pm_i) (pm_b (pm_b pm_i pm_i) (pm_b pm_i pm_i))))) (pm_b (pm_b (pm_b (pm_b pm_i pm_i) (pm_b pm_i pm_i)) (pm_b (pm_b pm_i pm_i) (pm_b (pm_b pm_i pm_i) (pm_b pm_i pm_i)))) (pm_b (pm_b (pm_b pm_i pm_i) (pm_b (pm_b pm_i pm_i) (pm_b pm_i pm_i))) (pm_b (pm_b pm_i pm_i) (pm_b (pm_b pm_i pm_i) (pm_b pm_i pm_i)))))))) (pm_b (pm_b (pm_b (pm_b (pm_b (pm_b (pm_b pm_i pm_i) (pm_b pm_i pm_i)) (pm_b (pm_b pm_i pm_i) (pm_b (pm_b pm_i pm_i) (pm_b pm_i pm_i)))) (pm_b (pm_b (pm_b pm_i pm_i) (pm_b pm_i pm_i)) (pm_b (pm_b pm_i pm_i) (pm_b (pm_b pm_i pm_i) (pm_b pm_i pm_i))))) (pm_b (pm_b (pm_b (pm_b pm_i pm_i) (pm_b pm_i pm_i)) (pm_b (pm_b pm_i pm_i) (pm_b (pm_b pm_i pm_i) (pm_b pm_i pm_i)))) (pm_b (pm_b (pm_b pm_i pm_i) (pm_b (pm_b pm_i pm_i) (pm_b pm_i pm_i))) (pm_b (pm_b pm_i pm_i) (pm_b (pm_b pm_i pm_i) (pm_b pm_i pm_i)))))) (pm_b (pm_b (pm_b (pm_b (pm_b pm_i pm_i) (pm_b pm_i pm_i)) (pm_b (pm_b pm_i pm_i) (pm_b (pm_b pm_i pm_i) (pm_b pm_i pm_i)))) (pm_b (pm_b (pm_b pm_i pm_i) (pm_b (pm_b pm_i pm_i) (pm_b pm_i pm_i))) (pm_b (pm_b pm_i pm_i) (pm_b (pm_b pm_i pm_i) (pm_b pm_i pm_i))))) (pm_b (pm_b (pm_b (pm_b pm_i pm_i) (pm_b pm_i pm_i)) (pm_b (pm_b pm_i pm_i) (pm_b (pm_b pm_i pm_i) (pm_b pm_i pm_i)))) (pm_b (pm_b (pm_b pm_i pm_i) (pm_b (pm_b pm_i pm_i) (pm_b pm_i pm_i))) (pm_b (pm_b pm_i pm_i) (pm_b (pm_b pm_i pm_i) (pm_b pm_i pm_i))))))) (pm_b (pm_b (pm_b (pm_b (pm_b (pm_b pm_i pm_i) (pm_b pm_i pm_i)) (pm_b (pm_b pm_i pm_i) (pm_b (pm_b pm_i pm_i) (pm_b pm_i pm_i)))) (pm_b (pm_b (pm_b pm_i pm_i) (pm_b pm_i pm_i)) (pm_b (pm_b pm_i pm_i) (pm_b (pm_b pm_i pm_i) (pm_b pm_i pm_i))))) (pm_b (pm_b (pm_b (pm_b pm_i pm_i) (pm_b pm_i pm_i)) (pm_b (pm_b pm_i pm_i) (pm_b (pm_b pm_i pm_i) (pm_b pm_i pm_i)))) (pm_b (pm_b (pm_b pm_i pm_i) (pm_b (pm_b pm_i pm_i) (pm_b pm_i pm_i))) (pm_b (pm_b pm_i pm_i) (pm_b (pm_b pm_i pm_i) (pm_b pm_i pm_i)))))) (pm_b (pm_b (pm_b (pm_b (pm_b pm_i pm_i) (pm_b pm_i pm_i)) (pm_b (pm_b pm_i pm_i) (pm_b (pm_b pm_i pm_i) (pm_b pm_i pm_i)))) (pm_b (pm_b (pm_b pm_i pm_i) (pm_b (pm_b pm_i pm_i) (pm_b pm_i pm_i))) (pm_b (pm_b pm_i pm_i) (pm_b (pm_b pm_i pm_i) (pm_b pm_i pm_i))))) (pm_b (pm_b (pm_b (pm_b pm_i pm_i) (pm_b pm_i pm_i)) (pm_b (pm_b pm_i pm_i) (pm_b (pm_b pm_i pm_i) (pm_b pm_i pm_i)))) (pm_b (pm_b (pm_b pm_i pm_i) (pm_b (pm_b pm_i pm_i) (pm_b pm_i pm_i))) (pm_b (pm_b pm_i pm_i) (pm_b (pm_b pm_i pm_i) (pm_b pm_i pm_i)))))))))) (pm_b (pm_b (pm_b (pm_b (pm_b (pm_b (pm_b (pm_b (pm_b pm_i pm_i) (pm_b pm_i pm_i)) (pm_b (pm_b pm_i pm_i) (pm_b (pm_b pm_i pm_i) (pm_b pm_i pm_i)))) (pm_b (pm_b (pm_b pm_i pm_i) (pm_b pm_i pm_i)) (pm_b (pm_b pm_i pm_i) (pm_b (pm_b pm_i pm_i) (pm_b pm_i pm_i))))) (pm_b (pm_b (pm_b (pm_b pm_i pm_i) (pm_b pm_i pm_i)) (pm_b (pm_b pm_i pm_i) (pm_b (pm_b pm_i pm_i) (pm_b pm_i pm_i)))) (pm_b (pm_b (pm_b pm_i pm_i) (pm_b (pm_b pm_i pm_i) (pm_b pm_i pm_i))) (pm_b (pm_b pm_i pm_i) (pm_b (pm_b pm_i pm_i) (pm_b pm_i pm_i)))))) (pm_b (pm_b (pm_b (pm_b (pm_b pm_i pm_i) (pm_b pm_i pm_i)) (pm_b (pm_b pm_i pm_i) (pm_b (pm_b pm_i pm_i) (pm_b pm_i pm_i)))) (pm_b (pm_b (pm_b pm_i pm_i) (pm_b pm_i pm_i)) (pm_b (pm_b pm_i pm_i) (pm_b (pm_b pm_i pm_i) (pm_b pm_i pm_i))))) (pm_b (pm_b (pm_b (pm_b pm_i pm_i) (pm_b pm_i pm_i)) (pm_b (pm_b pm_i pm_i) (pm_b (pm_b pm_i pm_i) (pm_b pm_i pm_i)))) (pm_b (pm_b (pm_b pm_i pm_i) (pm_b (pm_b pm_i pm_i) (pm_b pm_i pm_i))) (pm_b (pm_b pm_i pm_i) (pm_b (pm_b pm_i pm_i) (pm_b pm_i pm_i))))))) (pm_b (pm_b (pm_b (pm_b (pm_b (pm_b pm_i pm_i) (pm_b pm_i pm_i)) (pm_b (pm_b pm_i pm_i) (pm_b (pm_b pm_i pm_i) (pm_b pm_i pm_i)))) (pm_b (pm_b (pm_b pm_i pm_i) (pm_b pm_i pm_i)) (pm_b (pm_b pm_i pm_i) (pm_b (pm_b pm_i pm_i) (pm_b pm_i pm_i))))) (pm_b (pm_b (pm_b (pm_b pm_i pm_i) (pm_b pm_i pm_i)) (pm_b (pm_b pm_i pm_i) (pm_b (pm_b pm_i pm_i) (pm_b pm_i pm_i)))) (pm_b (pm_b (pm_b pm_i pm_i) (pm_b (pm_b pm_i pm_i) (pm_b pm_i pm_i))) (pm_b (pm_b pm_i pm_i) (pm_b (pm_b pm_i pm_i) (pm_b pm_i pm_i)))))) (pm_b (pm_b (pm_b (pm_b (pm_b pm_i pm_i) (pm_b pm_i pm_i)) (pm_b (pm_b pm_i pm_i) (pm_b (pm_b pm_i pm_i) (pm_b pm_i pm_i)))) (pm_b (pm_b (pm_b pm_i pm_i) (pm_b (pm_b pm_i pm_i) (pm_b pm_i pm_i))) (pm_b (pm_b pm_i pm_i) (pm_b (pm_b pm_i pm_i) (pm_b pm_i pm_i))))) (pm_b (pm_b (pm_b (pm_b pm_i pm_i) (pm_b pm_i pm_i)) (pm_b (pm_b pm_i pm_i) (pm_b (pm_b pm_i pm_i) (pm_b pm_i pm_i)))) (pm_b (pm_b (pm_b pm_i pm_i) (pm_b (pm_b pm_i pm_i) (pm_b pm_i pm_i))) (pm_b (pm_b pm_i pm_i) (pm_b (pm_b pm_i pm_i) (pm_b pm_i pm_i)))))))) (pm_b (pm_b (pm_b (pm_b (pm_b (pm_b (pm_b pm_i pm_i) (pm_b pm_i pm_i)) (pm_b (pm_b pm_i pm_i) (pm_b (pm_b pm_i pm_i) (pm_b pm_i pm_i)))) (pm_b (pm_b (pm_b pm_i pm_i) (pm_b pm_i pm_i)) (pm_b (pm_b pm_i pm_i) (pm_b (pm_b pm_i pm_i) (pm_b pm_i pm_i))))) (pm_b (pm_b (pm_b (pm_b pm_i pm_i) (pm_b pm_i pm_i)) (pm_b (pm_b pm_i pm_i) (pm_b (pm_b pm_i pm_i) (pm_b pm_i pm_i)))) (pm_b (pm_b (pm_b pm_i pm_i) (pm_b (pm_b pm_i pm_i) (pm_b pm_i pm_i))) (pm_b (pm_b pm_i pm_i) (pm_b (pm_b pm_i pm_i) (pm_b pm_i pm_i)))))) (pm_b (pm_b (pm_b (pm_b (pm_b pm_i pm_i) (pm_b pm_i pm_i)) (pm_b (pm_b pm_i pm_i) (pm_b (pm_b pm_i pm_i) (pm_b pm_i pm_i)))) (pm_b (pm_b (pm_b pm_i pm_i) (pm_b (pm_b pm_i pm_i) (pm_b pm_i pm_i))) (pm_b (pm_b pm_i pm_i) (pm_b (pm_b pm_i pm_i) (pm_b pm_i pm_i))))) (pm_b (pm_b (pm_b (pm_b pm_i pm_i) (pm_b pm_i pm_i)) (pm_b (pm_b pm_i pm_i) (pm_b (pm_b pm_i pm_i) (pm_b pm_i pm_i)))) (pm_b (pm_b (pm_b pm_i pm_i) (pm_b (pm_b pm_i pm_i) (pm_b pm_i pm_i))) (pm_b (pm_b pm_i pm_i) (pm_b (pm_b pm_i pm_i) (pm_b pm_i pm_i))))))) (pm_b (pm_b (pm_b (pm_b (pm_b (pm_b pm_i pm_i) (pm_b pm_i pm_i)) (pm_b (pm_b pm_i pm_i) (pm_b (pm_b pm_i pm_i) (pm_b pm_i pm_i)))) (pm_b (pm_b (pm_b pm_i pm_i) (pm_b pm_i pm_i)) (pm_b (pm_b pm_i pm_i) (pm_b (pm_b pm_i pm_i) (pm_b pm_i pm_i))))) (pm_b (pm_b (pm_b (pm_b pm_i pm_i) (pm_b pm_i pm_i)) (pm_b (pm_b pm_i pm_i) (pm_b (pm_b pm_i pm_i) (pm_b pm_i pm_i)))) (pm_b (pm_b (pm_b pm_i pm_i) (pm_b (pm_b pm_i pm_i) (pm_b pm_i pm_i))) (pm_b (pm_b pm_i pm_i) (pm_b (pm_b pm_i pm_i) (pm_b pm_i pm_i)))))) (pm_b (pm_b (pm_b (pm_b (pm_b pm_i pm_i) (pm_b pm_i pm_i)) (pm_b (pm_b pm_i pm_i) (pm_b (pm_b pm_i pm_i) (pm_b pm_i pm_i)))) (pm_b (pm_b (pm_b pm_i pm_i) (pm_b (pm_b pm_i pm_i) (pm_b pm_i pm_i))) (pm_b (pm_b pm_i pm_i) (pm_b (pm_b pm_i pm_i) (pm_b pm_i pm_i))))) (pm_b (pm_b (pm_b (pm_b pm_i pm_i) (pm_b pm_i pm_i)) (pm_b (pm_b pm_i pm_i) (pm_b (pm_b pm_i pm_i) (pm_b pm_i pm_i)))) (pm_b (pm_b (pm_b pm_i pm_i) (pm_b (pm_b pm_i pm_i) (pm_b pm_i pm_i))) (pm_b (pm_b pm_i pm_i) (pm_b (pm_b pm_i pm_i) (pm_b pm_i pm_i))))))))) (pm_b (pm_b (pm_b (pm_b (pm_b (pm_b (pm_b (pm_b pm_i pm_i) (pm_b pm_i pm_i)) (pm_b (pm_b pm_i pm_i) (pm_b (pm_b pm_i pm_i) (pm_b pm_i pm_i)))) (pm_b (pm_b (pm_b pm_i pm_i) (pm_b pm_i pm_i)) (pm_b (pm_b pm_i pm_i) (pm_b (pm_b pm_i pm_i) (pm_b pm_i pm_i))))) (pm_b (pm_b (pm_b (pm_b pm_i pm_i) (pm_b pm_i pm_i)) (pm_b (pm_b pm_i pm_i) (pm_b (pm_b pm_i pm_i) (pm_b pm_i pm_i)))) (pm_b (pm_b (pm_b pm_i pm_i) (pm_b (pm_b pm_i pm_i) (pm_b pm_i pm_i))) (pm_b (pm_b pm_i pm_i) (pm_b (pm_b pm_i pm_i) (pm_b pm_i pm_i)))))) (pm_b (pm_b (pm_b (pm_b (pm_b pm_i pm_i) (pm_b pm_i pm_i)) (pm_b (pm_b pm_i pm_i) (pm_b (pm_b pm_i pm_i) (pm_b pm_i pm_i)))) (pm_b (pm_b (pm_b pm_i pm_i) (pm_b pm_i pm_i)) (pm_b (pm_b pm_i pm_i) (pm_b (pm_b pm_i pm_i) (pm_b pm_i pm_i))))) (pm_b (pm_b (pm_b (pm_b pm_i pm_i) (pm_b pm_i pm_i)) (pm_b (pm_b pm_i pm_i) (pm_b (pm_b pm_i pm_i) (pm_b pm_i pm_i)))) (pm_b (pm_b (pm_b pm_i pm_i) (pm_b (pm_b pm_i pm_i) (pm_b pm_i pm_i))) (pm_b (pm_b pm_i pm_i) (pm_b (pm_b pm_i pm_i) (pm_b pm_i pm_i))))))) (pm_b (pm_b (pm_b (pm_b (pm_b (pm_b pm_i pm_i) (pm_b pm_i pm_i)) (pm_b (pm_b pm_i pm_i) (pm_b (pm_b pm_i pm_i) (pm_b pm_i pm_i)))) (pm_b (pm_b (pm_b pm_i pm_i) (pm_b pm_i pm_i)) (pm_b (pm_b pm_i pm_i) (pm_b (pm_b pm_i pm_i) (pm_b pm_i pm_i))))) (pm_b (pm_b (pm_b (pm_b pm_i pm_i) (pm_b pm_i pm_i)) (pm_b (pm_b pm_i pm_i) (pm_b (pm_b pm_i pm_i) (pm_b pm_i pm_i)))) (pm_b (pm_b (pm_b pm_i pm_i) (pm_b (pm_b pm_i pm_i) (pm_b pm_i pm_i))) (pm_b (pm_b pm_i pm_i) (pm_b (pm_b pm_i pm_i) (pm_b pm_i pm_i)))))) (pm_b (pm_b (pm_b (pm_b (pm_b pm_i pm_i) (pm_b pm_i pm_i)) (pm_b (pm_b pm_i pm_i) (pm_b (pm_b pm_i pm_i) (pm_b pm_i pm_i)))) (pm_b (pm_b (pm_b pm_i pm_i) (pm_b (pm_b pm_i pm_i) (pm_b pm_i pm_i))) (pm_b (pm_b pm_i pm_i) (pm_b (pm_b pm_i pm_i) (pm_b pm_i pm_i))))) (pm_b (pm_b (pm_b (pm_b pm_i pm_i) (pm_b pm_i pm_i)) (pm_b (pm_b pm_i pm_i) (pm_b (pm_b pm_i pm_i) (pm_b pm_i pm_i)))) (pm_b (pm_b (pm_b pm_i pm_i) (pm_b (pm_b pm_i pm_i) (pm_b pm_i pm_i))) (pm_b (pm_b pm_i pm_i) (pm_b (pm_b pm_i pm_i) (pm_b pm_i pm_i)))))))) (pm_b (pm_b (pm_b (pm_b (pm_b (pm_b (pm_b pm_i pm_i) (pm_b pm_i pm_i)) (pm_b (pm_b pm_i pm_i) (pm_b (pm_b pm_i pm_i) (pm_b pm_i pm_i)))) (pm_b (pm_b (pm_b pm_i pm_i) (pm_b pm_i pm_i)) (pm_b (pm_b pm_i pm_i) (pm_b (pm_b pm_i pm_i) (pm_b pm_i pm_i))))) (pm_b (pm_b (pm_b (pm_b pm_i pm_i) (pm_b pm_i pm_i)) (pm_b (pm_b pm_i pm_i) (pm_b (pm_b pm_i pm_i) (pm_b pm_i pm_i)))) (pm_b (pm_b (pm_b pm_i pm_i) (pm_b (pm_b pm_i pm_i) (pm_b pm_i pm_i))) (pm_b (pm_b pm_i pm_i) (pm_b (pm_b pm_i pm_i) (pm_b pm_i pm_i)))))) (pm_b (pm_b (pm_b (pm_b (pm_b pm_i pm_i) (pm_b pm_i pm_i)) (pm_b (pm_b pm_i pm_i) (pm_b (pm_b pm_i pm_i) (pm_b pm_i pm_i)))) (pm_b (pm_b (pm_b pm_i pm_i) (pm_b (pm_b pm_i pm_i) (pm_b pm_i pm_i))) (pm_b (pm_b pm_i pm_i) (pm_b (pm_b pm_i pm_i) (pm_b pm_i pm_i))))) (pm_b (pm_b (pm_b (pm_b pm_i pm_i) (pm_b pm_i pm_i)) (pm_b (pm_b pm_i pm_i) (pm_b (pm_b pm_i pm_i) (pm_b pm_i pm_i)))) (pm_b (pm_b (pm_b pm_i pm_i) (pm_b (pm_b pm_i pm_i) (pm_b pm_i pm_i))) (pm_b (pm_b pm_i pm_i) (pm_b (pm_b pm_i pm_i) (pm_b pm_i pm_i))))))) (pm_b (pm_b (pm_b (pm_b (pm_b (pm_b pm_i pm_i) (pm_b pm_i pm_i)) (pm_b (pm_b pm_i pm_i) (pm_b (pm_b pm_i pm_i) (pm_b pm_i pm_i)))) (pm_b (pm_b (pm_b pm_i pm_i) (pm_b pm_i pm_i)) (pm_b (pm_b pm_i pm_i) (pm_b (pm_b pm_i pm_i) (pm_b pm_i pm_i))))) (pm_b (pm_b (pm_b (pm_b pm_i pm_i) (pm_b pm_i pm_i)) (pm_b (pm_b pm_i pm_i) (pm_b (pm_b pm_i pm_i) (pm_b pm_i pm_i)))) (pm_b (pm_b (pm_b pm_i pm_i) (pm_b (pm_b pm_i pm_i) (pm_b pm_i pm_i))) (pm_b (pm_b pm_i pm_i) (pm_b (pm_b pm_i pm_i) (pm_b pm_i pm_i)))))) (pm_b (pm_b (pm_b (pm_b (pm_b pm_i pm_i) (pm_b pm_i pm_i)) (pm_b (pm_b pm_i pm_i) (pm_b (pm_b pm_i pm_i) (pm_b pm_i pm_i)))) (pm_b (pm_b (pm_b pm_i pm_i) (pm_b (pm_b pm_i pm_i) (pm_b pm_i pm_i))) (pm_b (pm_b pm_i pm_i) (pm_b (pm_b pm_i pm_i) (pm_b pm_i pm_i))))) (pm_b (pm_b (pm_b (pm_b pm_i pm_i) (pm_b pm_i pm_i)) (pm_b (pm_b pm_i pm_i) (pm_b (pm_b pm_i pm_i) (pm_b pm_i pm_i)))) (pm_b (pm_b (pm_b pm_i pm_i) (pm_b (pm_b pm_i pm_i) (pm_b pm_i pm_i))) (pm_b (pm_b pm_i pm_i) (pm_b (pm_b pm_i pm_i) (pm_b pm_i pm_i)))))))))))
set_option maxRecDepth 100000 in
set_option maxHeartbeats 4000000 in
theorem pm_X1_init (hO : pm_o O O') : ∀ c c', pm_c c c' → ∀ pc, pm_r (ix_cX1_init O c pc) (ix_cX1_init O' c' pc) := fun c c' hcc pc => by
  unfold ix_cX1_init
  exact (pm_b (pm_b (pm_b (pm_b (pm_b (pm_b (pm_b pm_i pm_i) (pm_b pm_i pm_i)) (pm_b (pm_b pm_i pm_i) (pm_b pm_i pm_i))) (pm_b (pm_b (pm_b pm_i pm_i) (pm_b pm_i pm_i)) (pm_b (pm_b pm_i pm_i) (pm_b (pm_b pm_i pm_i) (pm_b pm_i pm_i))))) (pm_b (pm_b (pm_b (pm_b pm_i pm_i) (pm_b pm_i pm_i)) (pm_b (pm_b pm_i pm_i) (pm_b pm_i pm_i))) (pm_b (pm_b (pm_b pm_i pm_i) (pm_b pm_i pm_i)) (pm_b (pm_b pm_i pm_i) (pm_b (pm_b pm_i pm_i) (pm_b pm_i pm_i)))))) (pm_b (pm_b (pm_b (pm_b (pm_b pm_i pm_i) (pm_b pm_i pm_i)) (pm_b (pm_b pm_i pm_i) (pm_b pm_i pm_i))) (pm_b (pm_b (pm_b pm_i pm_i) (pm_b pm_i pm_i)) (pm_b (pm_b pm_i pm_i) (pm_b (pm_b (pm_call hcc) pm_i) (pm_b pm_i pm_i))))) (pm_b (pm_b (pm_b (pm_b pm_i pm_i) (pm_b pm_i pm_i)) (pm_b (pm_b pm_i pm_i) (pm_b pm_i pm_i))) (pm_b (pm_b (pm_b pm_i pm_i) (pm_b (pm_call hcc) pm_i)) (pm_b (pm_b pm_i pm_i) (pm_b (pm_b pm_i pm_i) (pm_b pm_i pm_i))))))) (pm_b (pm_b (pm_b (pm_b (pm_b (pm_b pm_i pm_i) (pm_b pm_i pm_i)) (pm_b (pm_b pm_i pm_i) (pm_b (pm_call hcc) pm_i))) (pm_b (pm_b (pm_b pm_i pm_i) (pm_b pm_i pm_i)) (pm_b (pm_b pm_i pm_i) (pm_b (pm_b pm_i pm_i) (pm_b pm_i pm_i))))) (pm_b (pm_b (pm_b (pm_b pm_i pm_i) (pm_b (pm_call hcc) pm_i)) (pm_b (pm_b pm_i pm_i) (pm_b pm_i pm_i))) (pm_b (pm_b (pm_b pm_i pm_i) (pm_b pm_i pm_i)) (pm_b (pm_b pm_i pm_i) (pm_b (pm_b pm_i pm_i) (pm_b (pm_call hcc) pm_i)))))) (pm_b (pm_b (pm_b (pm_b (pm_b pm_i pm_i) (pm_b pm_i pm_i)) (pm_b (pm_b pm_i pm_i) (pm_b pm_i pm_i))) (pm_b (pm_b (pm_b pm_i pm_i) (pm_b pm_i pm_i)) (pm_b (pm_b (pm_call hcc) pm_i) (pm_b (pm_b pm_i pm_i) (pm_b pm_i pm_i))))) (pm_b (pm_b (pm_b (pm_b pm_i pm_i) (pm_b pm_i pm_i)) (pm_b (pm_b pm_i pm_i) (pm_b (pm_b pm_i pm_i) (pm_b pm_i pm_i)))) (pm_b (pm_b (pm_b pm_i pm_i) (pm_b pm_i pm_i)) (pm_b (pm_b pm_i pm_i) (pm_b (pm_b pm_i pm_i) (pm_b pm_i pm_i))))))))
set_option maxRecDepth 100000 in
set_option maxHeartbeats 4000000 in
theorem pm_X2_init (hO : pm_o O O') : ∀ c c', pm_c c c' → ∀ pc, pm_r (ix_cX2_init O c pc) (ix_cX2_init O' c' pc) := fun c c' hcc pc => by
  unfold ix_cX2_init
  exact (pm_b (pm_b (pm_b (pm_b (pm_b (pm_b pm_i pm_i) (pm_b pm_i pm_i)) (pm_b (pm_b pm_i pm_i) (pm_b pm_i pm_i))) (pm_b (pm_b (pm_b pm_i pm_i) (pm_b pm_i pm_i)) (pm_b (pm_b pm_i pm_i) (pm_b (pm_b pm_i pm_i) (pm_b pm_i pm_i))))) (pm_b (pm_b (pm_b (pm_b pm_i pm_i) (pm_b pm_i pm_i)) (pm_b (pm_b pm_i pm_i) (pm_b pm_i pm_i))) (pm_b (pm_b (pm_b pm_i pm_i) (pm_b pm_i pm_i)) (pm_b (pm_b pm_i pm_i) (pm_b (pm_b pm_i pm_i) (pm_b pm_i pm_i)))))) (pm_b (pm_b (pm_b (pm_b (pm_b pm_i pm_i) (pm_b pm_i pm_i)) (pm_b (pm_b pm_i pm_i) (pm_b pm_i pm_i))) (pm_b (pm_b (pm_b pm_i pm_i) (pm_b pm_i pm_i)) (pm_b (pm_b pm_i pm_i) (pm_b (pm_b pm_i pm_i) (pm_b pm_i pm_i))))) (pm_b (pm_b (pm_b (pm_b pm_i pm_i) (pm_b pm_i pm_i)) (pm_b (pm_b pm_i pm_i) (pm_b pm_i pm_i))) (pm_b (pm_b (pm_b pm_i pm_i) (pm_b pm_i pm_i)) (pm_b (pm_b pm_i pm_i) (pm_b (pm_b pm_i pm_i) (pm_b pm_i pm_i)))))))
set_option maxRecDepth 100000 in
set_option maxHeartbeats 4000000 in
theorem pm_X3_init (hO : pm_o O O') : ∀ c c', pm_c c c' → ∀ pc, pm_r (ix_cX3_init O c pc) (ix_cX3_init O' c' pc) := fun c c' hcc pc => by
  unfold ix_cX3_init
  exact (pm_b (pm_b (pm_b (pm_b (pm_b (pm_b pm_i pm_i) (pm_b pm_i pm_i)) (pm_b (pm_b pm_i pm_i) (pm_b (pm_b pm_i pm_i) (pm_b pm_i pm_i)))) (pm_b (pm_b (pm_b pm_i pm_i) (pm_b pm_i pm_i)) (pm_b (pm_b pm_i pm_i) (pm_b (pm_b pm_i pm_i) (pm_b (pm_alen hO) pm_i))))) (pm_b (pm_b (pm_b (pm_b (pm_call hcc) pm_i) (pm_b pm_i pm_i)) (pm_b (pm_b pm_i pm_i) (pm_b (pm_b pm_i pm_i) (pm_b pm_i pm_i)))) (pm_b (pm_b (pm_b pm_i pm_i) (pm_b (pm_b pm_i pm_i) (pm_b pm_i pm_i))) (pm_b (pm_b pm_i pm_i) (pm_b (pm_b pm_i pm_i) (pm_b pm_i pm_i)))))) (pm_b (pm_b (pm_b (pm_b (pm_b pm_i pm_i) (pm_b pm_i pm_i)) (pm_b (pm_b pm_i pm_i) (pm_b (pm_b pm_i pm_i) (pm_b pm_i pm_i)))) (pm_b (pm_b (pm_b pm_i pm_i) (pm_b (pm_b pm_i pm_i) (pm_b pm_i pm_i))) (pm_b (pm_b pm_i pm_i) (pm_b (pm_b pm_i pm_i) (pm_b pm_i pm_i))))) (pm_b (pm_b (pm_b (pm_b pm_i pm_i) (pm_b pm_i pm_i)) (pm_b (pm_b pm_i pm_i) (pm_b (pm_b pm_i pm_i) (pm_b pm_i pm_i)))) (pm_b (pm_b (pm_b pm_i pm_i) (pm_b (pm_b pm_i pm_i) (pm_b pm_i pm_i))) (pm_b (pm_b pm_i pm_i) (pm_b (pm_b pm_i pm_i) (pm_b pm_i pm_i)))))))
set_option maxRecDepth 100000 in
set_option maxHeartbeats 4000000 in
theorem pm_X4_init (hO : pm_o O O') : ∀ c c', pm_c c c' → ∀ pc, pm_r (ix_cX4_init O c pc) (ix_cX4_init O' c' pc) := fun c c' hcc pc => by
  unfold ix_cX4_init
  exact (pm_b (pm_b (pm_b (pm_b (pm_b pm_i pm_i) (pm_b pm_i pm_i)) (pm_b (pm_b pm_i pm_i) (pm_b (pm_b pm_i pm_i) (pm_b pm_i pm_i)))) (pm_b (pm_b (pm_b pm_i pm_i) (pm_b pm_i pm_i)) (pm_b (pm_b pm_i pm_i) (pm_b (pm_b pm_i pm_i) (pm_b pm_i pm_i))))) (pm_b (pm_b (pm_b (pm_b pm_i pm_i) (pm_b pm_i pm_i)) (pm_b (pm_b pm_i pm_i) (pm_b (pm_b pm_i pm_i) (pm_b pm_i pm_i)))) (pm_b (pm_b (pm_b pm_i pm_i) (pm_b pm_i pm_i)) (pm_b (pm_b pm_i pm_i) (pm_b (pm_b pm_i pm_i) (pm_b pm_i pm_i))))))
set_option maxRecDepth 100000 in
set_option maxHeartbeats 4000000 in
theorem pm_X5_init (hO : pm_o O O') : ∀ c c', pm_c c c' → ∀ pc, pm_r (ix_cX5_init O c pc) (ix_cX5_init O' c' pc) := fun c c' hcc pc => by
  unfold ix_cX5_init
  exact (pm_b (pm_b (pm_b (pm_b (pm_b (pm_b pm_i pm_i) (pm_b (pm_b pm_i pm_i) (pm_b pm_i pm_i))) (pm_b (pm_b pm_i pm_i) (pm_b (pm_b pm_i pm_i) (pm_b pm_i pm_i)))) (pm_b (pm_b (pm_b pm_i pm_i) (pm_b (pm_b pm_i pm_i) (pm_b pm_i pm_i))) (pm_b (pm_b pm_i pm_i) (pm_b (pm_b pm_i pm_i) (pm_b pm_i pm_i))))) (pm_b (pm_b (pm_b (pm_b pm_i pm_i) (pm_b (pm_b pm_i pm_i) (pm_b pm_i pm_i))) (pm_b (pm_b pm_i pm_i) (pm_b (pm_b pm_i pm_i) (pm_b pm_i pm_i)))) (pm_b (pm_b (pm_b pm_i pm_i) (pm_b (pm_b pm_i pm_i) (pm_b pm_i pm_i))) (pm_b (pm_b pm_i pm_i) (pm_b (pm_b pm_i pm_i) (pm_b pm_i pm_i)))))) (pm_b (pm_b (pm_b (pm_b (pm_b pm_i pm_i) (pm_b (pm_b pm_i pm_i) (pm_b pm_i pm_i))) (pm_b (pm_b pm_i pm_i) (pm_b (pm_b pm_i pm_i) (pm_b pm_i pm_i)))) (pm_b (pm_b (pm_b pm_i pm_i) (pm_b (pm_b pm_i pm_i) (pm_b pm_i pm_i))) (pm_b (pm_b pm_i pm_i) (pm_b (pm_b pm_i pm_i) (pm_b pm_i pm_i))))) (pm_b (pm_b (pm_b (pm_b pm_i pm_i) (pm_b (pm_b pm_i pm_i) (pm_b pm_i pm_i))) (pm_b (pm_b pm_i pm_i) (pm_b (pm_b pm_i pm_i) (pm_b pm_i pm_i)))) (pm_b (pm_b (pm_b pm_i pm_i) (pm_b (pm_b pm_i pm_i) (pm_b pm_i pm_i))) (pm_b (pm_b pm_i pm_i) (pm_b (pm_b pm_i pm_i) (pm_b pm_i pm_i)))))))
set_option maxRecDepth 100000 in
set_option maxHeartbeats 4000000 in
theorem pm_X6_init (hO : pm_o O O') : ∀ c c', pm_c c c' → ∀ pc, pm_r (ix_cX6_init O c pc) (ix_cX6_init O' c' pc) := fun c c' hcc pc => by
  unfold ix_cX6_init
  exact (pm_b (pm_b (pm_b (pm_b (pm_b (pm_b pm_i pm_i) (pm_b pm_i pm_i)) (pm_b (pm_b pm_i pm_i) (pm_b pm_i pm_i))) (pm_b (pm_b (pm_b pm_i pm_i) (pm_b pm_i pm_i)) (pm_b (pm_b pm_i pm_i) (pm_b pm_i pm_i)))) (pm_b (pm_b (pm_b (pm_b pm_i pm_i) (pm_b pm_i pm_i)) (pm_b (pm_b pm_i pm_i) (pm_b pm_i pm_i))) (pm_b (pm_b (pm_b pm_i pm_i) (pm_b (pm_call hcc) pm_i)) (pm_b (pm_b pm_i pm_i) (pm_b (pm_b pm_i pm_i) (pm_b pm_i pm_i)))))) (pm_b (pm_b (pm_b (pm_b (pm_b pm_i pm_i) (pm_b pm_i pm_i)) (pm_b (pm_b pm_i pm_i) (pm_b pm_i pm_i))) (pm_b (pm_b (pm_b pm_i pm_i) (pm_b pm_i pm_i)) (pm_b (pm_b pm_i pm_i) (pm_b (pm_b pm_i pm_i) (pm_b pm_i pm_i))))) (pm_b (pm_b (pm_b (pm_b pm_i pm_i) (pm_b pm_i pm_i)) (pm_b (pm_b pm_i pm_i) (pm_b pm_i pm_i))) (pm_b (pm_b (pm_b pm_i pm_i) (pm_b pm_i pm_i)) (pm_b (pm_b pm_i pm_i) (pm_b (pm_b pm_i pm_i) (pm_b pm_i pm_i)))))))
set_option maxRecDepth 100000 in
set_option maxHeartbeats 4000000 in
theorem pm_X7_init (hO : pm_o O O') : ∀ c c', pm_c c c' → ∀ pc, pm_r (ix_cX7_init O c pc) (ix_cX7_init O' c' pc) := fun c c' hcc pc => by
  unfold ix_cX7_init
  exact (pm_b (pm_b (pm_b (pm_b (pm_b (pm_b pm_i pm_i) (pm_b pm_i pm_i)) (pm_b (pm_b pm_i pm_i) (pm_b (pm_b pm_i pm_i) (pm_b pm_i pm_i)))) (pm_b (pm_b (pm_b pm_i pm_i) (pm_b (pm_b pm_i pm_i) (pm_b pm_i pm_i))) (pm_b (pm_b pm_i pm_i) (pm_b (pm_b pm_i pm_i) (pm_b (pm_call hcc) pm_i))))) (pm_b (pm_b (pm_b (pm_b pm_i pm_i) (pm_b (pm_b pm_i pm_i) (pm_b pm_i pm_i))) (pm_b (pm_b pm_i pm_i) (pm_b (pm_b pm_i pm_i) (pm_b pm_i pm_i)))) (pm_b (pm_b (pm_b pm_i pm_i) (pm_b (pm_b pm_i pm_i) (pm_b pm_i pm_i))) (pm_b (pm_b pm_i pm_i) (pm_b (pm_b pm_i pm_i) (pm_b pm_i pm_i)))))) (pm_b (pm_b (pm_b (pm_b (pm_b pm_i pm_i) (pm_b (pm_b pm_i pm_i) (pm_b pm_i pm_i))) (pm_b (pm_b pm_i pm_i) (pm_b (pm_b pm_i pm_i) (pm_b pm_i pm_i)))) (pm_b (pm_b (pm_b pm_i pm_i) (pm_b (pm_b pm_i pm_i) (pm_b pm_i pm_i))) (pm_b (pm_b pm_i pm_i) (pm_b (pm_b pm_i pm_i) (pm_b pm_i pm_i))))) (pm_b (pm_b (pm_b (pm_b pm_i pm_i) (pm_b (pm_b pm_i pm_i) (pm_b pm_i pm_i))) (pm_b (pm_b pm_i pm_i) (pm_b (pm_b pm_i pm_i) (pm_b pm_i pm_i)))) (pm_b (pm_b (pm_b pm_i pm_i) (pm_b (pm_b pm_i pm_i) (pm_b pm_i pm_i))) (pm_b (pm_b pm_i pm_i) (pm_b (pm_b pm_i pm_i) (pm_b pm_i pm_i)))))))
set_option maxRecDepth 100000 in
set_option maxHeartbeats 4000000 in
theorem pm_X8_init (hO : pm_o O O') : ∀ c c', pm_c c c' → ∀ pc, pm_r (ix_cX8_init O c pc) (ix_cX8_init O' c' pc) := fun c c' hcc pc => by
  unfold ix_cX8_init
  exact (pm_b (pm_b (pm_b (pm_b (pm_b pm_i pm_i) (pm_b pm_i pm_i)) (pm_b (pm_b pm_i pm_i) (pm_b pm_i pm_i))) (pm_b (pm_b (pm_b pm_i pm_i) (pm_b pm_i pm_i)) (pm_b (pm_b pm_i pm_i) (pm_b (pm_b pm_i pm_i) (pm_b pm_i pm_i))))) (pm_b (pm_b (pm_b (pm_b (pm_call hcc) pm_i) (pm_b pm_i pm_i)) (pm_b (pm_b pm_i pm_i) (pm_b pm_i pm_i))) (pm_b (pm_b (pm_b pm_i pm_i) (pm_b pm_i pm_i)) (pm_b (pm_b pm_i pm_i) (pm_b (pm_b pm_i pm_i) (pm_b pm_i pm_i))))))
set_option maxRecDepth 100000 in
set_option maxHeartbeats 4000000 in
theorem pm_X9_init (hO : pm_o O O') : ∀ c c', pm_c c c' → ∀ pc, pm_r (ix_cX9_init O c pc) (ix_cX9_init O' c' pc) := fun c c' hcc pc => by
  unfold ix_cX9_init
  exact (pm_b (pm_b (pm_b (pm_b (pm_b pm_i pm_i) (pm_b (pm_b pm_i pm_i) (pm_b pm_i pm_i))) (pm_b (pm_b (pm_b pm_i pm_i) (pm_b pm_i pm_i)) (pm_b (pm_b pm_i pm_i) (pm_b pm_i pm_i)))) (pm_b (pm_b (pm_b pm_i pm_i) (pm_b (pm_b pm_i pm_i) (pm_b pm_i pm_i))) (pm_b (pm_b (pm_b pm_i pm_i) (pm_b pm_i pm_i)) (pm_b (pm_b pm_i pm_i) (pm_b (pm_call hcc) pm_i))))) (pm_b (pm_b (pm_b (pm_b pm_i pm_i) (pm_b (pm_b pm_i pm_i) (pm_b pm_i pm_i))) (pm_b (pm_b (pm_b pm_i pm_i) (pm_b pm_i pm_i)) (pm_b (pm_b pm_i pm_i) (pm_b pm_i pm_i)))) (pm_b (pm_b (pm_b pm_i pm_i) (pm_b (pm_b pm_i pm_i) (pm_b pm_i pm_i))) (pm_b (pm_b (pm_b pm_i pm_i) (pm_b pm_i pm_i)) (pm_b (pm_b pm_i pm_i) (pm_b pm_i pm_i))))))
/-- the constructors' methods alone -/
noncomputable def lw_tb0 (O : ix_O) : ix_M := fun y => (cond (Nat.blt y 252) (cond (Nat.blt y 59) (cond (Nat.blt y 19) (cond (Nat.beq y 13) (some (ix_cJ7_fill_53178 O, 4)) none) (cond (Nat.blt y 30) (cond (Nat.beq y 19) (some (ix_cX0_init O, 3)) none) (cond (Nat.beq y 30) (some (ix_cX10_init O, 3)) none))) (cond (Nat.blt y 226) (cond (Nat.blt y 133) (cond (Nat.beq y 59) (some (ix_cX11_init O, 5)) none) (cond (Nat.beq y 133) (some (ix_cX12_init O, 1)) none)) (cond (Nat.blt y 239) (cond (Nat.beq y 226) (some (ix_cX1_init O, 1)) none) (cond (Nat.beq y 239) (some (ix_cX2_init O, 3)) none)))) (cond (Nat.blt y 304) (cond (Nat.blt y 276) (cond (Nat.beq y 252) (some (ix_cX3_init O, 2)) none) (cond (Nat.blt y 287) (cond (Nat.beq y 276) (some (ix_cX4_init O, 3)) none) (cond (Nat.beq y 287) (some (ix_cX5_init O, 4)) none))) (cond (Nat.blt y 324) (cond (Nat.blt y 317) (cond (Nat.beq y 304) (some (ix_cX6_init O, 3)) none) (cond (Nat.beq y 317) (some (ix_cX7_init O, 2)) none)) (cond (Nat.blt y 330) (cond (Nat.beq y 324) (some (ix_cX8_init O, 4)) none) (cond (Nat.beq y 330) (some (ix_cX9_init O, 2)) none)))))
theorem pm_tb {x : Bool} {a b c : Option ((ix_Call → ix_P) × Nat)} (h1 : pm_t a c) (h2 : pm_t b c) : pm_t (cond x a b) c := by
  cases x
  · exact h2
  · exact h1
theorem pm_tl {M' : ix_M} {y k nL : Nat} {P P' : ix_Call → ix_P} (hb : M' k = some (P', nL)) (h : ∀ c c', pm_c c c' → ∀ pc, pm_r (P c pc) (P' c' pc)) : pm_t (cond (Nat.beq y k) (some (P, nL)) none) (M' y) := by
  intro Q n hq
  cases hy : Nat.beq y k with
  | false => rw [hy] at hq; cases hq
  | true =>
    rw [hy] at hq
    cases hq
    rw [ix_beq.mp hy]
    exact ⟨P', hb, h⟩
set_option maxRecDepth 100000 in
theorem lw_tb0_ok (hO : pm_o O O') (y : Nat) : pm_t (lw_tb0 O y) (ix_tbl O' y) := by
  unfold lw_tb0
  exact (pm_tb (pm_tb (pm_tb (pm_tl (hb := rfl) (pm_J7_fill_53178 hO)) (pm_tb (pm_tl (hb := rfl) (pm_X0_init hO)) (pm_tl (hb := rfl) (pm_X10_init hO)))) (pm_tb (pm_tb (pm_tl (hb := rfl) (pm_X11_init hO)) (pm_tl (hb := rfl) (pm_X12_init hO))) (pm_tb (pm_tl (hb := rfl) (pm_X1_init hO)) (pm_tl (hb := rfl) (pm_X2_init hO))))) (pm_tb (pm_tb (pm_tl (hb := rfl) (pm_X3_init hO)) (pm_tb (pm_tl (hb := rfl) (pm_X4_init hO)) (pm_tl (hb := rfl) (pm_X5_init hO)))) (pm_tb (pm_tb (pm_tl (hb := rfl) (pm_X6_init hO)) (pm_tl (hb := rfl) (pm_X7_init hO))) (pm_tb (pm_tl (hb := rfl) (pm_X8_init hO)) (pm_tl (hb := rfl) (pm_X9_init hO))))))
end LWB
