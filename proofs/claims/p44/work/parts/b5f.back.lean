/-! image and back: what they answer, flags and images then -/
section FRI
variable {O : ix_O} {P : ix_P} {Q : ix_S → Prop} {A : Nat → Prop} {B : ix_B} {ls : ix_L} {st : List ix_V} {n nx : Nat} {t : ix_T}
theorem gd_gr {pc : Nat} {S : ix_S} (hP : ∀ pc, A pc → gr_P A (P pc)) (hA : A pc) (hQ : ∀ o : ix_S, Gr S.2.2.2.1 S.2.2.2.2.1 o.2.2.2.1 o.2.2.2.2.1 → Q o) : gd P pc S Q := fun fuel outs e o ho => hQ o (gr_loop hP fuel pc S outs hA e o ho)
/-- till a place is reached -/
theorem gd_till {J : Nat → ix_S → Prop} {x : Nat} (hJ : ∀ pc S outs, ¬ pc = x → J pc S → P pc S = some outs → ∀ o ∈ outs, J o.1 o.2) (h9 : ∀ pc S, J pc S → ¬ pc = 99999) (k : ∀ S, J x S → gd P x S Q) : ∀ (pc : Nat) (S : ix_S), J pc S → gd P pc S Q := by
  have key : ∀ (fuel pc : Nat) (S : ix_S) (outs : List ix_S), J pc S → ix_loop P fuel pc S = some outs → ∀ o ∈ outs, Q o := by
    intro fuel
    induction fuel with
    | zero => exact fun pc S outs _ e => fr_nn e
    | succ g ih =>
      intro pc S outs hj e
      by_cases hx : pc = x
      · subst hx
        exact k S hj (g + 1) outs e
      · change cond (Nat.beq pc 99999) (some [S]) (match P pc S with
          | none => none
          | some outs => (match outs with
            | [] => some []
            | (pc1, S1) :: r => (match r with
              | [] => ix_loop P g pc1 S1
              | _ => outs.foldr (fun o acc => ix_app (ix_loop P g o.1 o.2) acc) (some [])))) = some outs at e
        rw [ix_beq_f.mpr (h9 pc S hj), cond_false] at e
        split at e
        · cases e
        · rename_i l hl
          have hs := hJ pc S l hx hj hl
          have fold : ∀ (l : List (Nat × ix_S)) (outs : List ix_S), (∀ o ∈ l, J o.1 o.2) → l.foldr (fun o acc => ix_app (ix_loop P g o.1 o.2) acc) (some []) = some outs → ∀ o ∈ outs, Q o := by
            intro l
            induction l with
            | nil =>
              intro outs _ e
              have e0 := fr_e0 e
              subst e0
              intro o ho
              cases ho
            | cons q l ih2 =>
              intro outs hl e
              change ix_app (ix_loop P g q.1 q.2) (l.foldr (fun o acc => ix_app (ix_loop P g o.1 o.2) acc) (some [])) = some outs at e
              unfold ix_app at e
              split at e
              · cases e
              · rename_i x hx
                split at e
                · cases e
                · rename_i y hy
                  cases e
                  intro o ho
                  rcases List.mem_append.mp ho with ho | ho
                  · exact ih q.1 q.2 x (hl q List.mem_cons_self) hx o ho
                  · exact ih2 y (fun o ho => hl o (List.mem_cons_of_mem _ ho)) hy o ho
          rcases l with _ | ⟨⟨pc1, S1⟩, r⟩
          · have e0 := fr_e0 e
            subst e0
            intro o ho
            cases ho
          · rcases r with _ | ⟨q, r⟩
            · exact ih pc1 S1 outs (hs _ List.mem_cons_self) e
            · exact fold _ outs hs e
  exact fun pc S hj fuel outs e => key fuel pc S outs hj e
/-- the first two locals stay -/
def lk (r : ix_S → ix_R) : Prop := ∀ (B : ix_B) (ls : ix_L) (st : List ix_V) (n : Nat) (t : ix_T) (w : Nat × Nat) (outs : List (Nat × ix_S)), r (B, ls, st, n, t, w) = some outs → ∀ u v, ls[0]? = some (some u) → ls[1]? = some (some v) → ix_cat2 u = false → ix_cat2 v = false → ∀ o ∈ outs, o.2.2.1[0]? = some (some u) ∧ o.2.2.1[1]? = some (some v)
theorem lk_s {a b pc : Nat} {N : List Nat} {r : ix_S → ix_R} (h : sk a b N pc r) : lk r := fun B ls st n t w outs e u v h0 h1 _ _ o ho => by
  rw [(h B ls st n t w outs e o ho).1]
  exact ⟨h0, h1⟩
theorem lk_set {ls : ix_L} {x : ix_V} {u v : ix_V} (h0 : ls[0]? = some (some u)) (h1 : ls[1]? = some (some v)) (hv : ix_cat2 v = false) : ((ix_clr ls 2).set 2 (some x))[0]? = some (some u) ∧ ((ix_clr ls 2).set 2 (some x))[1]? = some (some v) := by
  have e : ix_clr ls 2 = ls := by
    show (match ls[1]? with
      | some (some v) => cond (ix_cat2 v) (ls.set 1 none) ls
      | _ => ls) = ls
    rw [h1]
    dsimp only
    rw [hv]
    rfl
  rw [e, List.getElem?_set, List.getElem?_set, if_neg (by decide), if_neg (by decide)]
  exact ⟨h0, h1⟩
theorem lk_store {ok : ix_V → Bool} {nx : Nat} : lk (ix_store ok 2 nx) := fun B ls st n t w outs e u v h0 h1 _ hv o ho => by
  rcases st with _ | ⟨x, st⟩
  · exact fr_no e
  · rw [gp_store e] at ho
    cases List.mem_singleton.mp ho
    exact lk_set h0 h1 hv
theorem lk_iinc {k nx : Nat} : lk (ix_iinc 2 k nx) := fun B ls st n t w outs e u v h0 h1 _ hv o ho => by
  unfold ix_iinc at e
  dsimp only at e
  split at e
  · split at e
    · cases e
      cases List.mem_singleton.mp ho
      exact lk_set h0 h1 hv
    · exact fr_no e
  · exact fr_no e
theorem lk_ast {k0 k1 pc nx : Nat} {nar : Nat → ix_V → ix_V} {ok : ix_V → Bool} : lk (ix_ast k0 k1 pc nx nar ok) := fun B ls st n t w outs e u v h0 h1 _ _ o ho => by
  rcases st with _ | ⟨x, _ | ⟨j, _ | ⟨a, st⟩⟩⟩
  · exact fr_no e
  · exact fr_no e
  · exact fr_no e
  · rcases a with a | a | a | a
    · exact fr_no e
    · exact fr_no e
    · cases a with
      | zero => exact fr_no e
      | succ i =>
        change cond (Nat.blt i n && ok x) (cond (Nat.ble k0 (ix_g t i).1 && Nat.ble (ix_g t i).1 k1) (match ix_nrm B j with
          | .inl m => cond (Nat.blt m (ix_g t i).2.1) (some [(nx, (B, ls, st, n, ix_u 14 t i ((ix_g t i).1, (ix_g t i).2.1, ix_u (ix_dep (ix_g t i).2.1) (ix_g t i).2.2 m (nar (ix_g t i).1 x)), w))]) none
          | .inr (.inr (.inr (y, _))) => ix_split pc (B, ls, x :: j :: .inr (.inr (.inl (i + 1))) :: st, n, t, w) y
          | _ => none) none) none = some outs at e
        refine fr_c e (fun e => fr_c e (fun e => ?_))
        split at e
        · refine fr_c e (fun e => ?_)
          cases e
          cases List.mem_singleton.mp ho
          exact ⟨h0, h1⟩
        · obtain ⟨q1, q2⟩ := fn_split e o ho
          rw [q2]
          exact ⟨h0, h1⟩
        · exact fr_no e
    · exact fr_no e
theorem lk_putf {ci k nx : Nat} {ok : ix_V → Bool} : lk (ix_putf ci k nx ok) := fun B ls st n t w outs e u v h0 h1 _ _ o ho => by
  rcases st with _ | ⟨x, _ | ⟨a, st⟩⟩
  · exact fr_no e
  · exact fr_no e
  · rcases a with a | a | a | a
    · exact fr_no e
    · exact fr_no e
    · cases a with
      | zero => exact fr_no e
      | succ i =>
        rw [gp_putf e] at ho
        cases List.mem_singleton.mp ho
        exact ⟨h0, h1⟩
    · exact fr_no e
theorem lk_dup {nx : Nat} : lk (ix_dup nx) := fun B ls st n t w outs e u v h0 h1 _ _ o ho => by
  rcases st with _ | ⟨x, st⟩
  · exact fr_no e
  · rw [gp_dup e] at ho
    cases List.mem_singleton.mp ho
    exact ⟨h0, h1⟩
theorem lk_dup2 {nx : Nat} : lk (ix_dup2 nx) := fun B ls st n t w outs e u v h0 h1 _ _ o ho => by
  rcases st with _ | ⟨x, _ | ⟨y, st⟩⟩
  · exact fr_no e
  · exact fr_no e
  · unfold ix_dup2 at e
    dsimp only at e
    refine fr_d e (fun e => ?_)
    cases e
    cases List.mem_singleton.mp ho
    exact ⟨h0, h1⟩
theorem lk_alen {O : ix_O} {nx : Nat} : lk (ix_alen O nx) := fun B ls st n t w outs e u v h0 h1 _ _ o ho => by
  rcases st with _ | ⟨a, st⟩
  · exact fr_no e
  · rcases a with a | a | a | a
    · exact fr_no e
    · exact fr_no e
    · cases a with
      | zero => exact fr_no e
      | succ i =>
        change (match cond (Nat.blt i n) (cond (Nat.blt (ix_g t i).1 98) (some (ix_g t i).2) none) (cond (Nat.blt i 1000000) none (O i)) with
          | some (len, _) => some [(nx, (B, ls, ix_vI len :: st, n, t, w))]
          | none => none) = some outs at e
        split at e
        · cases e
          cases List.mem_singleton.mp ho
          exact ⟨h0, h1⟩
        · exact fr_no e
    · exact fr_no e
theorem lk_b {x : Bool} {a b : ix_S → ix_R} (h1 : lk a) (h2 : lk b) : lk (cond x a b) := by
  cases x
  · exact h2
  · exact h1
/-- a step of a stretch: the frames, the locals -/
def lj (A : Nat → Prop) (r : ix_S → ix_R) : Prop := gr_P A r ∧ lk r
def ljQ (A : Nat → Prop) (x pc : Nat) (r : ix_S → ix_R) : Prop := ¬ pc = x → A pc → lj A r
theorem lj_b {x pc : Nat} {q : Bool} {a b : ix_S → ix_R} (h1 : ljQ A x pc a) (h2 : ljQ A x pc b) : ljQ A x pc (cond q a b) := by
  cases q
  · exact h2
  · exact h1
theorem lj_l {x pc k : Nat} {a : ix_S → ix_R} (h : ¬ k = x → A k → lj A a) : ljQ A x pc (cond (Nat.beq pc k) a ix_no) := fun hx hp => by
  cases hb : Nat.beq pc k with
  | true => exact h (by rw [← ix_beq.mp hb]; exact hx) (by rw [← ix_beq.mp hb]; exact hp)
  | false => exact ⟨fr_N.G fn_no, fun B ls st n t w outs e => fr_no e⟩
/-- a stretch of places: to its end -/
theorem gd_str {x pc : Nat} {u v : ix_V} (h : ∀ pc, ljQ A x pc (P pc)) (h9 : ¬ A 99999) (hu : ix_cat2 u = false) (hv : ix_cat2 v = false) (hA : A pc) {w : Nat × Nat} (h0 : ls[0]? = some (some u)) (h1 : ls[1]? = some (some v)) (k : ∀ B ls st n' t' w, ls[0]? = some (some u) → ls[1]? = some (some v) → Gr n t n' t' → gd P x (B, ls, st, n', t', w) Q) : gd P pc (B, ls, st, n, t, w) Q := by
  refine gd_till (J := fun pc S => A pc ∧ (Gr n t S.2.2.2.1 S.2.2.2.2.1 ∧ (S.2.1[0]? = some (some u) ∧ S.2.1[1]? = some (some v)))) (x := x) (fun pc S outs hx hj e o ho => ?_) (fun pc S hj q => h9 (by rw [← q]; exact hj.1)) (fun S hj => ?_) pc (B, ls, st, n, t, w) ⟨hA, Gr.rf, h0, h1⟩
  · obtain ⟨B, ls, st, n2, t2, w⟩ := S
    obtain ⟨g1, g2⟩ := h pc hx hj.1
    obtain ⟨z1, z2⟩ := g1 B ls st n2 t2 w outs e o ho
    exact ⟨z1, hj.2.1.tr z2, g2 B ls st n2 t2 w outs e u v hj.2.2.1 hj.2.2.2 hu hv o ho⟩
  · obtain ⟨B, ls, st, n2, t2, w⟩ := S
    exact k B ls st n2 t2 w hj.2.2.1 hj.2.2.2 hj.2.1
set_option maxRecDepth 100000 in
theorem st_X11_refused {c : ix_Call} (pc : Nat) : ljQ (fun p : Nat => 0 ≤ p ∧ p ≤ 32) 32 pc (ix_cX11_refused O c pc) := (lj_b (lj_b (lj_b (lj_b (lj_l (fun _ _ => ⟨fr_N.G (fn_load (by decide)), lk_s (pc := 0) sk_load⟩)) (lj_b (lj_l (fun _ _ => ⟨fr_N.G (fn_load (by decide)), lk_s (pc := 1) sk_load⟩)) (lj_l (fun _ _ => ⟨gp4_putf (by decide) (by decide) (by decide) rfl, lk_putf⟩)))) (lj_b (lj_l (fun _ _ => ⟨fr_N.G (fn_push (by decide)), lk_s (pc := 5) sk_push⟩)) (lj_b (lj_l (fun _ _ => ⟨fr_N.G (fn_load (by decide)), lk_s (pc := 6) sk_load⟩)) (lj_l (fun _ _ => ⟨fr_N.G (fn_isub (by decide)), lk_s (pc := 7) sk_isub⟩))))) (lj_b (lj_b (lj_l (fun _ _ => ⟨fr_N.G (fn_store (by decide)), lk_store⟩)) (lj_b (lj_l (fun _ _ => ⟨fr_N.G (fn_load (by decide)), lk_s (pc := 9) sk_load⟩)) (lj_l (fun _ _ => ⟨fr_N.G (fn_if (by decide) (by decide)), lk_s (pc := 10) sk_if⟩)))) (lj_b (lj_l (fun _ _ => ⟨fr_N.G (fn_load (by decide)), lk_s (pc := 13) sk_load⟩)) (lj_b (lj_l (fun _ _ => ⟨fr_N.G (fn_load (by decide)), lk_s (pc := 14) sk_load⟩)) (lj_l (fun _ _ => ⟨fr_N.G (fn_getf (by decide)), lk_s (pc := 15) sk_getf⟩)))))) (lj_b (lj_b (lj_b (lj_l (fun _ _ => ⟨fr_N.G (fn_alen (by decide)), lk_alen⟩)) (lj_b (lj_l (fun _ _ => ⟨fr_N.G (fn_icmp (by decide) (by decide)), lk_s (pc := 19) sk_icmp⟩)) (lj_l (fun _ _ => ⟨fr_N.G (fn_load (by decide)), lk_s (pc := 22) sk_load⟩)))) (lj_b (lj_l (fun _ _ => ⟨fr_N.G (fn_getf (by decide)), lk_s (pc := 23) sk_getf⟩)) (lj_b (lj_l (fun _ _ => ⟨fr_N.G (fn_load (by decide)), lk_s (pc := 26) sk_load⟩)) (lj_l (fun _ _ => ⟨fr_N.G (fn_dup2 (by decide)), lk_dup2⟩))))) (lj_b (lj_b (lj_l (fun _ _ => ⟨fr_N.G (fn_iald (by decide) (by decide)), lk_s (pc := 28) sk_iald⟩)) (lj_b (lj_l (fun _ _ => ⟨fr_N.G (fn_push (by decide)), lk_s (pc := 29) sk_push⟩)) (lj_l (fun _ _ => ⟨fr_N.G (fn_iadd (by decide)), lk_s (pc := 30) sk_iadd⟩)))) (lj_b (lj_l (fun _ _ => ⟨gp4_ast (by decide) (by decide) (by decide), lk_ast⟩)) (lj_b (lj_l (fun h _ => absurd rfl h)) (lj_l (fun _ h => absurd h (by decide))))))))
theorem wr_X11_refused {g d : Nat} {u v : ix_V} {outs : List ix_S} (hu : ix_cat2 u = false) (hv : ix_cat2 v = false) (e : ix_exec (ix_tbl O) ty_no g (d + 1) 78 [u, v] B n t = some outs) : ∀ o ∈ outs, o.2.2.1 = [v] ∧ Gr n t o.2.2.2.1 o.2.2.2.2.1 := by
  have ha : ix_args [u, v] = [some u, some v] := by
    show cond (ix_cat2 u) _ (some u :: cond (ix_cat2 v) (some v :: none :: []) (some v :: [])) = _
    rw [hu, hv]
    rfl
  refine gd_ex (Q := fun o => o.2.2.1 = [v] ∧ Gr n t o.2.2.2.1 o.2.2.2.2.1) (show ix_tbl O 78 = some (ix_cX11_refused O, 3) from rfl) (fun c hc => ?_) e
  rw [ha]
  refine gd_str (A := fun p : Nat => 0 ≤ p ∧ p ≤ 32) (x := 32) (u := u) (v := v) (fun pc => st_X11_refused pc) (by decide) hu hv (by decide) rfl rfl (fun B ls st n' t' w h0 h1 hg => ?_)
  refine gd_s (r := ix_load ix_isInt 1 33) (by decide) rfl (fun outs e => gp_load e h1) ?_
  refine gd_s (r := ix_ret ix_isInt) (by decide) rfl (fun outs e => gp_ret e) ?_
  exact gd_ends ⟨rfl, hg⟩

set_option maxRecDepth 100000 in
theorem st_X11_granted {c : ix_Call} (pc : Nat) : ljQ (fun p : Nat => 0 ≤ p ∧ p ≤ 13) 13 pc (ix_cX11_granted O c pc) := (lj_b (lj_b (lj_b (lj_l (fun _ _ => ⟨fr_N.G (fn_load (by decide)), lk_s (pc := 0) sk_load⟩)) (lj_l (fun _ _ => ⟨fr_N.G (fn_push (by decide)), lk_s (pc := 1) sk_push⟩))) (lj_b (lj_l (fun _ _ => ⟨gp4_putf (by decide) (by decide) (by decide) rfl, lk_putf⟩)) (lj_l (fun _ _ => ⟨fr_N.G (fn_load (by decide)), lk_s (pc := 5) sk_load⟩)))) (lj_b (lj_b (lj_l (fun _ _ => ⟨fr_N.G (fn_getf (by decide)), lk_s (pc := 6) sk_getf⟩)) (lj_l (fun _ _ => ⟨fr_N.G (fn_push (by decide)), lk_s (pc := 9) sk_push⟩))) (lj_b (lj_l (fun _ _ => ⟨gp4_putf (by decide) (by decide) (by decide) rfl, lk_putf⟩)) (lj_b (lj_l (fun h _ => absurd rfl h)) (lj_l (fun _ h => absurd h (by decide)))))))
theorem wr_X11_granted {g d : Nat} {u v : ix_V} {outs : List ix_S} (hu : ix_cat2 u = false) (hv : ix_cat2 v = false) (e : ix_exec (ix_tbl O) ty_no g (d + 1) 52 [u, v] B n t = some outs) : ∀ o ∈ outs, o.2.2.1 = [v] ∧ Gr n t o.2.2.2.1 o.2.2.2.2.1 := by
  have ha : ix_args [u, v] = [some u, some v] := by
    show cond (ix_cat2 u) _ (some u :: cond (ix_cat2 v) (some v :: none :: []) (some v :: [])) = _
    rw [hu, hv]
    rfl
  refine gd_ex (Q := fun o => o.2.2.1 = [v] ∧ Gr n t o.2.2.2.1 o.2.2.2.2.1) (show ix_tbl O 52 = some (ix_cX11_granted O, 2) from rfl) (fun c hc => ?_) e
  rw [ha]
  refine gd_str (A := fun p : Nat => 0 ≤ p ∧ p ≤ 13) (x := 13) (u := u) (v := v) (fun pc => st_X11_granted pc) (by decide) hu hv (by decide) rfl rfl (fun B ls st n' t' w h0 h1 hg => ?_)
  refine gd_s (r := ix_load ix_isInt 1 14) (by decide) rfl (fun outs e => gp_load e h1) ?_
  refine gd_s (r := ix_ret ix_isInt) (by decide) rfl (fun outs e => gp_ret e) ?_
  exact gd_ends ⟨rfl, hg⟩

set_option maxRecDepth 100000 in
theorem st_X12_refuses {c : ix_Call} (pc : Nat) : ljQ (fun p : Nat => 0 ≤ p ∧ p ≤ 16) 16 pc (ix_cX12_refuses O c pc) := (lj_b (lj_b (lj_b (lj_l (fun _ _ => ⟨fr_N.G (fn_load (by decide)), lk_s (pc := 0) sk_load⟩)) (lj_b (lj_l (fun _ _ => ⟨fr_N.G (fn_load (by decide)), lk_s (pc := 1) sk_load⟩)) (lj_l (fun _ _ => ⟨gp4_putf (by decide) (by decide) (by decide) rfl, lk_putf⟩)))) (lj_b (lj_b (lj_l (fun _ _ => ⟨fr_N.G (fn_load (by decide)), lk_s (pc := 5) sk_load⟩)) (lj_l (fun _ _ => ⟨fr_N.G (fn_getf (by decide)), lk_s (pc := 6) sk_getf⟩))) (lj_b (lj_l (fun _ _ => ⟨fr_N.G (fn_load (by decide)), lk_s (pc := 9) sk_load⟩)) (lj_l (fun _ _ => ⟨fr_N.G (fn_iun (by decide)), lk_s (pc := 10) sk_iun⟩))))) (lj_b (lj_b (lj_l (fun _ _ => ⟨fr_N.G (fn_dup2 (by decide)), lk_dup2⟩)) (lj_b (lj_l (fun _ _ => ⟨fr_N.G (fn_iald (by decide) (by decide)), lk_s (pc := 12) sk_iald⟩)) (lj_l (fun _ _ => ⟨fr_N.G (fn_push (by decide)), lk_s (pc := 13) sk_push⟩)))) (lj_b (lj_b (lj_l (fun _ _ => ⟨fr_N.G (fn_iadd (by decide)), lk_s (pc := 14) sk_iadd⟩)) (lj_l (fun _ _ => ⟨gp4_ast (by decide) (by decide) (by decide), lk_ast⟩))) (lj_b (lj_l (fun h _ => absurd rfl h)) (lj_l (fun _ h => absurd h (by decide)))))))
theorem wr_X12_refuses {g d : Nat} {u v : ix_V} {outs : List ix_S} (hu : ix_cat2 u = false) (hv : ix_cat2 v = false) (e : ix_exec (ix_tbl O) ty_no g (d + 1) 188 [u, v] B n t = some outs) : ∀ o ∈ outs, o.2.2.1 = [v] ∧ Gr n t o.2.2.2.1 o.2.2.2.2.1 := by
  have ha : ix_args [u, v] = [some u, some v] := by
    show cond (ix_cat2 u) _ (some u :: cond (ix_cat2 v) (some v :: none :: []) (some v :: [])) = _
    rw [hu, hv]
    rfl
  refine gd_ex (Q := fun o => o.2.2.1 = [v] ∧ Gr n t o.2.2.2.1 o.2.2.2.2.1) (show ix_tbl O 188 = some (ix_cX12_refuses O, 2) from rfl) (fun c hc => ?_) e
  rw [ha]
  refine gd_str (A := fun p : Nat => 0 ≤ p ∧ p ≤ 16) (x := 16) (u := u) (v := v) (fun pc => st_X12_refuses pc) (by decide) hu hv (by decide) rfl rfl (fun B ls st n' t' w h0 h1 hg => ?_)
  refine gd_s (r := ix_load ix_isInt 1 17) (by decide) rfl (fun outs e => gp_load e h1) ?_
  refine gd_s (r := ix_ret ix_isInt) (by decide) rfl (fun outs e => gp_ret e) ?_
  exact gd_ends ⟨rfl, hg⟩

set_option maxRecDepth 100000 in
theorem st_X12_good {c : ix_Call} (pc : Nat) : ljQ (fun p : Nat => 0 ≤ p ∧ p ≤ 15) 15 pc (ix_cX12_good O c pc) := (lj_b (lj_b (lj_b (lj_l (fun _ _ => ⟨fr_N.G (fn_load (by decide)), lk_s (pc := 0) sk_load⟩)) (lj_l (fun _ _ => ⟨fr_N.G (fn_push (by decide)), lk_s (pc := 1) sk_push⟩))) (lj_b (lj_l (fun _ _ => ⟨gp4_putf (by decide) (by decide) (by decide) rfl, lk_putf⟩)) (lj_b (lj_l (fun _ _ => ⟨fr_N.G (fn_load (by decide)), lk_s (pc := 5) sk_load⟩)) (lj_l (fun _ _ => ⟨fr_N.G (fn_dup (by decide)), lk_dup⟩))))) (lj_b (lj_b (lj_l (fun _ _ => ⟨fr_N.G (fn_getf (by decide)), lk_s (pc := 7) sk_getf⟩)) (lj_b (lj_l (fun _ _ => ⟨fr_N.G (fn_push (by decide)), lk_s (pc := 10) sk_push⟩)) (lj_l (fun _ _ => ⟨fr_N.G (fn_iadd (by decide)), lk_s (pc := 11) sk_iadd⟩)))) (lj_b (lj_l (fun _ _ => ⟨gp4_putf (by decide) (by decide) (by decide) rfl, lk_putf⟩)) (lj_b (lj_l (fun h _ => absurd rfl h)) (lj_l (fun _ h => absurd h (by decide)))))))
theorem wr_X12_good {g d : Nat} {u v : ix_V} {outs : List ix_S} (hu : ix_cat2 u = false) (hv : ix_cat2 v = false) (e : ix_exec (ix_tbl O) ty_no g (d + 1) 126 [u, v] B n t = some outs) : ∀ o ∈ outs, o.2.2.1 = [v] ∧ Gr n t o.2.2.2.1 o.2.2.2.2.1 := by
  have ha : ix_args [u, v] = [some u, some v] := by
    show cond (ix_cat2 u) _ (some u :: cond (ix_cat2 v) (some v :: none :: []) (some v :: [])) = _
    rw [hu, hv]
    rfl
  refine gd_ex (Q := fun o => o.2.2.1 = [v] ∧ Gr n t o.2.2.2.1 o.2.2.2.2.1) (show ix_tbl O 126 = some (ix_cX12_good O, 2) from rfl) (fun c hc => ?_) e
  rw [ha]
  refine gd_str (A := fun p : Nat => 0 ≤ p ∧ p ≤ 15) (x := 15) (u := u) (v := v) (fun pc => st_X12_good pc) (by decide) hu hv (by decide) rfl rfl (fun B ls st n' t' w h0 h1 hg => ?_)
  refine gd_s (r := ix_load ix_isInt 1 16) (by decide) rfl (fun outs e => gp_load e h1) ?_
  refine gd_s (r := ix_ret ix_isInt) (by decide) rfl (fun outs e => gp_ret e) ?_
  exact gd_ends ⟨rfl, hg⟩

theorem gp_ald {k0 k1 pc i m : Nat} {outs : List (Nat × ix_S)} {w : Nat × Nat} (e : ix_ald k0 k1 pc nx (B, ls, .inl m :: .inr (.inr (.inl (i + 1))) :: st, n, t, w) = some outs) : outs = [(nx, (B, ls, ix_g (ix_g t i).2.2 m :: st, n, t, w))] ∧ m < (ix_g t i).2.1 := by
  change cond (Nat.blt i n) (cond (Nat.ble k0 (ix_g t i).1 && Nat.ble (ix_g t i).1 k1) (cond (Nat.blt m (ix_g t i).2.1) (some [(nx, (B, ls, ix_g (ix_g t i).2.2 m :: st, n, t, w))]) none) none) none = some outs at e
  refine fr_c e (fun e => fr_c e (fun e => ?_))
  cases hm : Nat.blt m (ix_g t i).2.1 with
  | true =>
    rw [hm, cond_true] at e
    cases e
    exact ⟨rfl, ix_blt.mp hm⟩
  | false => rw [hm] at e; cases e
theorem gp_ifnull {yes no r : Nat} {outs : List (Nat × ix_S)} {w : Nat × (ix_T × (Nat × Nat))} (e : ix_ifnull yes no (B, ls, .inr (.inr (.inl r)) :: st, w) = some outs) : outs = [(cond (Nat.beq r 0) yes no, (B, ls, st, w))] := (Option.some.inj (show some [_] = some outs from e)).symm
/-- any value of a row of references -/
theorem gd_ald {pc k0 k1 : Nat} {m : Nat} {a : ix_V} {w : Nat × Nat} (hp : ¬ pc = 99999) (hr : P pc = ix_ald k0 k1 pc nx) (k : ∀ v, gd P nx (B, ls, v :: st, n, t, w) Q) : gd P pc (B, ls, .inl m :: a :: st, n, t, w) Q := gd_step hp (fun outs e o ho => by
  rw [hr] at e
  rcases a with a | a | a | a
  · exact fr_no e
  · exact fr_no e
  · cases a with
    | zero => exact fr_no e
    | succ i =>
      rw [(gp_ald e).1] at ho
      cases List.mem_singleton.mp ho
      exact k _
  · exact fr_no e)
theorem gd_gf {pc ci f : Nat} {a : ix_V} {w : Nat × Nat} (hp : ¬ pc = 99999) (hr : P pc = ix_getf ci f nx) (k : ∀ v, gd P nx (B, ls, v :: st, n, t, w) Q) : gd P pc (B, ls, a :: st, n, t, w) Q := gd_step hp (fun outs e o ho => by
  rw [hr] at e
  rcases a with a | a | a | a
  · exact fr_no e
  · exact fr_no e
  · cases a with
    | zero => exact fr_no e
    | succ i =>
      rw [gp_getf e] at ho
      cases List.mem_singleton.mp ho
      exact k _
  · exact fr_no e)
/-- flags and images: cells alike -/
def eqc (t t' : ix_T) : Prop := ix_g t' 84 = ix_g t 84 ∧ ix_g t' 34 = ix_g t 34
theorem Gr.eq {n' : Nat} {t' : ix_T} (h : Gr n t n' t') (hv : Iv n t) : Iv n' t' ∧ eqc t t' := ⟨(h hv).1, (h hv).2.2.1, (h hv).2.2.2⟩
/-- out of range -/
def ofr (m : Nat) : Prop := Nat.blt (ix_bias m) (ix_bias 0) = true ∨ (Nat.blt (ix_bias m) (ix_bias 0) = false ∧ (Nat.blt (ix_bias m) (ix_bias 2) = false ∧ Nat.blt (ix_bias 1) (ix_bias m) = true))
theorem ofr_of {m : Nat} (hm : m < 4294967296) (h0 : ¬ m = 0) (h1 : ¬ m = 1) : ofr m := by
  have e0 : ix_bias 0 = 2147483648 := rfl
  have e1 : ix_bias 1 = 2147483649 := rfl
  have e2 : ix_bias 2 = 2147483650 := rfl
  have em : ix_bias m = (m + 2147483648) % 4294967296 := rfl
  cases hb : Nat.blt (ix_bias m) (ix_bias 0) with
  | true => exact Or.inl hb
  | false =>
    have g1 := ix_blt_f.mp hb
    exact Or.inr ⟨hb, ix_blt_f.mpr (by omega), ix_blt.mpr (by omega)⟩
theorem ofr_enq {m : Nat} (h : ofr m) : enq m 1 = false := by
  unfold enq
  rcases h with h | ⟨h1, h2, h3⟩
  · rw [h]; rfl
  · rw [h1, h3]; rfl
set_option maxRecDepth 100000 in
theorem ga_X11_back {c : ix_Call} (hc : gr_C gr_W c) (pc : Nat) (h : (fun p : Nat => (13 ≤ p ∧ p ≤ 18) ∨ p = 99999) pc) : gr_P (fun p : Nat => (13 ≤ p ∧ p ≤ 18) ∨ p = 99999) (ix_cX11_back O c pc) := (show gr_Q (fun p : Nat => (13 ≤ p ∧ p ≤ 18) ∨ p = 99999) pc (ix_cX11_back O c pc) from (gr_b (gr_b (gr_b (gr_b (gr_b (gr_l (fun h => absurd h (by decide))) (gr_l (fun h => absurd h (by decide)))) (gr_b (gr_l (fun h => absurd h (by decide))) (gr_l (fun h => absurd h (by decide))))) (gr_b (gr_b (gr_l (fun h => absurd h (by decide))) (gr_l (fun h => absurd h (by decide)))) (gr_b (gr_l (fun h => absurd h (by decide))) (gr_l (fun _ => fr_N.G (fn_load (by decide))))))) (gr_b (gr_b (gr_b (gr_l (fun _ => fr_N.G (fn_push (by decide)))) (gr_l (fun _ => gp4_call hc rfl (by decide)))) (gr_b (gr_l (fun _ => fr_N.G (fn_ret (by decide)))) (gr_l (fun h => absurd h (by decide))))) (gr_b (gr_b (gr_l (fun h => absurd h (by decide))) (gr_l (fun h => absurd h (by decide)))) (gr_b (gr_l (fun h => absurd h (by decide))) (gr_b (gr_l (fun h => absurd h (by decide))) (gr_l (fun h => absurd h (by decide)))))))) (gr_b (gr_b (gr_b (gr_b (gr_l (fun h => absurd h (by decide))) (gr_l (fun h => absurd h (by decide)))) (gr_b (gr_l (fun h => absurd h (by decide))) (gr_l (fun h => absurd h (by decide))))) (gr_b (gr_b (gr_l (fun h => absurd h (by decide))) (gr_l (fun h => absurd h (by decide)))) (gr_b (gr_l (fun h => absurd h (by decide))) (gr_l (fun h => absurd h (by decide)))))) (gr_b (gr_b (gr_b (gr_l (fun h => absurd h (by decide))) (gr_l (fun h => absurd h (by decide)))) (gr_b (gr_l (fun h => absurd h (by decide))) (gr_l (fun h => absurd h (by decide))))) (gr_b (gr_b (gr_l (fun h => absurd h (by decide))) (gr_l (fun h => absurd h (by decide)))) (gr_b (gr_l (fun h => absurd h (by decide))) (gr_b (gr_l (fun h => absurd h (by decide))) (gr_l (fun h => absurd h (by decide)))))))))) h
set_option maxRecDepth 100000 in
theorem ga_X11_image {c : ix_Call} (hc : gr_C gr_W c) (pc : Nat) (h : (fun p : Nat => (13 ≤ p ∧ p ≤ 18) ∨ p = 99999) pc) : gr_P (fun p : Nat => (13 ≤ p ∧ p ≤ 18) ∨ p = 99999) (ix_cX11_image O c pc) := (show gr_Q (fun p : Nat => (13 ≤ p ∧ p ≤ 18) ∨ p = 99999) pc (ix_cX11_image O c pc) from (gr_b (gr_b (gr_b (gr_b (gr_b (gr_l (fun h => absurd h (by decide))) (gr_l (fun h => absurd h (by decide)))) (gr_b (gr_l (fun h => absurd h (by decide))) (gr_l (fun h => absurd h (by decide))))) (gr_b (gr_b (gr_l (fun h => absurd h (by decide))) (gr_l (fun h => absurd h (by decide)))) (gr_b (gr_l (fun h => absurd h (by decide))) (gr_l (fun _ => fr_N.G (fn_load (by decide))))))) (gr_b (gr_b (gr_b (gr_l (fun _ => fr_N.G (fn_push (by decide)))) (gr_l (fun _ => gp4_call hc rfl (by decide)))) (gr_b (gr_l (fun _ => fr_N.G (fn_ret (by decide)))) (gr_l (fun h => absurd h (by decide))))) (gr_b (gr_b (gr_l (fun h => absurd h (by decide))) (gr_l (fun h => absurd h (by decide)))) (gr_b (gr_l (fun h => absurd h (by decide))) (gr_b (gr_l (fun h => absurd h (by decide))) (gr_l (fun h => absurd h (by decide)))))))) (gr_b (gr_b (gr_b (gr_b (gr_l (fun h => absurd h (by decide))) (gr_l (fun h => absurd h (by decide)))) (gr_b (gr_l (fun h => absurd h (by decide))) (gr_l (fun h => absurd h (by decide))))) (gr_b (gr_b (gr_l (fun h => absurd h (by decide))) (gr_l (fun h => absurd h (by decide)))) (gr_b (gr_l (fun h => absurd h (by decide))) (gr_l (fun h => absurd h (by decide)))))) (gr_b (gr_b (gr_b (gr_l (fun h => absurd h (by decide))) (gr_l (fun h => absurd h (by decide)))) (gr_b (gr_l (fun h => absurd h (by decide))) (gr_l (fun h => absurd h (by decide))))) (gr_b (gr_b (gr_l (fun h => absurd h (by decide))) (gr_l (fun h => absurd h (by decide)))) (gr_b (gr_l (fun h => absurd h (by decide))) (gr_b (gr_l (fun h => absurd h (by decide))) (gr_l (fun h => absurd h (by decide)))))))))) h
theorem wr_X11_back_o {g d m : Nat} {outs : List ix_S} (hn : 34 < n) (h1 : ix_g (ix_g t 0).2.2 1 = .inr (.inr (.inl 35))) (hl : (ix_g t 34).2.1 = 2) (hm : ofr m) (e : ix_exec (ix_tbl O) ty_no g (d + 1) 35 [.inr (.inr (.inl 1)), .inl m] B n t = some outs) : ∀ o ∈ outs, o.2.2.1 = [.inl 4294967295] ∧ Gr n t o.2.2.2.1 o.2.2.2.2.1 := by
  refine gd_ex (Q := fun o => o.2.2.1 = [.inl 4294967295] ∧ Gr n t o.2.2.2.1 o.2.2.2.2.1) (show ix_tbl O 35 = some (ix_cX11_back O, 2) from rfl) (fun c hc => ?_) e
  have no : ∀ B st, gd (ix_cX11_back O c) 13 (B, [some (.inr (.inr (.inl 1))), some (.inl m)], st, n, t, 0, 0) (fun o => o.2.2.1 = [.inl 4294967295] ∧ Gr n t o.2.2.2.1 o.2.2.2.2.1) := fun B st => by
    refine gd_s (r := ix_load ix_isRef 0 14) (by decide) rfl (fun outs e => gp_load e rfl) ?_
    refine gd_s (r := ix_push 15 (ix_vI 4294967295)) (by decide) rfl (fun outs e => gp_push e) ?_
    refine gd_callx (R := fun o => o.2.2.1 = [.inl 4294967295] ∧ Gr n t o.2.2.2.1 o.2.2.2.2.1) (by decide) (show ix_cX11_back O c 15 = ix_call (ix_rcv 111) c 2 78 0 0 0 0 18 from rfl) rfl (fun outs e o ho => ?_) (fun o w hR => ?_)
    · rw [hc] at e
      cases d with
      | zero => exact fr_nn e
      | succ d => exact wr_X11_refused rfl rfl e o ho
    · rw [hR.1]
      refine gd_s (r := ix_ret ix_isInt) (by decide) rfl (fun outs e => gp_ret e) ?_
      exact gd_ends ⟨rfl, hR.2⟩
  refine gd_s (r := ix_load ix_isInt 1 1) (by decide) rfl (fun outs e => gp_load e rfl) ?_
  refine gd_s (r := ix_if true false false 13 4) (by decide) rfl (fun outs e => gp_ifl e) ?_
  cases c1 : Nat.blt (ix_bias m) (ix_bias 0) with
  | true => exact no _ _
  | false =>
    have c2 : Nat.blt (ix_bias m) (ix_bias 2) = false := by
      rcases hm with q | q
      · rw [c1] at q; cases q
      · exact q.2.1
    show gd _ 4 _ _
    refine gd_s (r := ix_load ix_isInt 1 5) (by decide) rfl (fun outs e => gp_load e rfl) ?_
    refine gd_s (r := ix_load ix_isRef 0 6) (by decide) rfl (fun outs e => gp_load e rfl) ?_
    refine gd_s (r := ix_getf 111 1 9) (by decide) rfl (fun outs e => gp_getf e) ?_
    rw [h1]
    refine gd_s (r := ix_alen O 10) (by decide) rfl (fun outs e => gp_alen e hn) ?_
    rw [hl]
    refine gd_s (r := ix_icmp true false false 19 13) (by decide) rfl (fun outs e => gp_cmp e) ?_
    rw [c2]
    exact no _ _

theorem wr_X11_back_0 {g d r : Nat} {outs : List ix_S} (hn : 34 < n) (h1 : ix_g (ix_g t 0).2.2 1 = .inr (.inr (.inl 35))) (hl : (ix_g t 34).2.1 = 2) (hr : ix_g (ix_g t 34).2.2 0 = .inr (.inr (.inl r))) (e : ix_exec (ix_tbl O) ty_no g (d + 1) 35 [.inr (.inr (.inl 1)), .inl 0] B n t = some outs) : ∀ o ∈ outs, o.2.2.1 = [.inl (cond (Nat.beq r 0) 4294967294 0)] ∧ Gr n t o.2.2.2.1 o.2.2.2.2.1 := by
  refine gd_ex (Q := fun o => o.2.2.1 = [.inl (cond (Nat.beq r 0) 4294967294 0)] ∧ Gr n t o.2.2.2.1 o.2.2.2.2.1) (show ix_tbl O 35 = some (ix_cX11_back O, 2) from rfl) (fun c hc => ?_) e
  refine gd_s (r := ix_load ix_isInt 1 1) (by decide) rfl (fun outs e => gp_load e rfl) ?_
  refine gd_s (r := ix_if true false false 13 4) (by decide) rfl (fun outs e => gp_ifl e) ?_
  rw [show Nat.blt (ix_bias 0) (ix_bias 0) = false by decide]
  show gd _ 4 _ _
  refine gd_s (r := ix_load ix_isInt 1 5) (by decide) rfl (fun outs e => gp_load e rfl) ?_
  refine gd_s (r := ix_load ix_isRef 0 6) (by decide) rfl (fun outs e => gp_load e rfl) ?_
  refine gd_s (r := ix_getf 111 1 9) (by decide) rfl (fun outs e => gp_getf e) ?_
  rw [h1]
  refine gd_s (r := ix_alen O 10) (by decide) rfl (fun outs e => gp_alen e hn) ?_
  rw [hl]
  refine gd_s (r := ix_icmp true false false 19 13) (by decide) rfl (fun outs e => gp_cmp e) ?_
  rw [show Nat.blt (ix_bias 0) (ix_bias 2) = true by decide]
  show gd _ 19 _ _
  refine gd_s (r := ix_load ix_isRef 0 20) (by decide) rfl (fun outs e => gp_load e rfl) ?_
  refine gd_s (r := ix_getf 111 1 23) (by decide) rfl (fun outs e => gp_getf e) ?_
  rw [h1]
  refine gd_s (r := ix_load ix_isInt 1 24) (by decide) rfl (fun outs e => gp_load e rfl) ?_
  refine gd_s (r := ix_ald 4 97 24 25) (by decide) rfl (fun outs e => (gp_ald e).1) ?_
  rw [hr]
  refine gd_s (r := ix_ifnull 28 35) (by decide) rfl (fun outs e => gp_ifnull e) ?_
  cases hz : Nat.beq r 0 with
  | true =>
    show gd _ 28 _ _
    refine gd_s (r := ix_load ix_isRef 0 29) (by decide) rfl (fun outs e => gp_load e rfl) ?_
    refine gd_s (r := ix_push 31 (ix_vI 4294967294)) (by decide) rfl (fun outs e => gp_push e) ?_
    refine gd_callx (R := fun o => o.2.2.1 = [.inl 4294967294] ∧ Gr n t o.2.2.2.1 o.2.2.2.2.1) (by decide) (show ix_cX11_back O c 31 = ix_call (ix_rcv 111) c 2 78 0 0 0 0 34 from rfl) rfl (fun outs e o ho => ?_) (fun o w hR => ?_)
    · rw [hc] at e
      cases d with
      | zero => exact fr_nn e
      | succ d => exact wr_X11_refused rfl rfl e o ho
    · rw [hR.1]
      refine gd_s (r := ix_ret ix_isInt) (by decide) rfl (fun outs e => gp_ret e) ?_
      exact gd_ends ⟨rfl, hR.2⟩
  | false =>
    show gd _ 35 _ _
    have gc : gr_C gr_W c := by
      rw [hc]
      exact gr_exec d
    refine gd_s (r := ix_load ix_isRef 0 36) (by decide) rfl (fun outs e => gp_load e rfl) ?_
    refine gd_s (r := ix_getf 111 0 39) (by decide) rfl (fun outs e => gp_getf e) ?_
    refine gd_s (r := ix_load ix_isRef 0 40) (by decide) rfl (fun outs e => gp_load e rfl) ?_
    refine gd_s (r := ix_getf 111 1 43) (by decide) rfl (fun outs e => gp_getf e) ?_
    refine gd_s (r := ix_load ix_isInt 1 44) (by decide) rfl (fun outs e => gp_load e rfl) ?_
    refine gd_ald (by decide) (show ix_cX11_back O c 44 = ix_ald 4 97 44 45 from rfl) (fun v => ?_)
    refine gd_call (R := fun n' t' => Gr n t n' t') (by decide) (show ix_cX11_back O c 45 = ix_call (ix_rcv 101) c 2 223 0 0 0 0 48 from rfl) rfl (fun outs e o ho => gc _ _ _ _ _ _ rfl e o ho) (fun B st n1 t1 w g1 => ?_)
    refine gd_s (r := ix_load ix_isRef 0 49) (by decide) rfl (fun outs e => gp_load e rfl) ?_
    refine gd_gf (by decide) (show ix_cX11_back O c 49 = ix_getf 111 10 52 from rfl) (fun v => ?_)
    refine gd_call (R := fun n' t' => Gr n t n' t') (by decide) (show ix_cX11_back O c 52 = ix_call (ix_rcv 100) c 1 18 0 0 0 0 55 from rfl) rfl (fun outs e o ho => g1.tr (gc _ _ _ _ _ _ rfl e o ho)) (fun B st n2 t2 w g2 => ?_)
    refine gd_s (r := ix_load ix_isRef 0 56) (by decide) rfl (fun outs e => gp_load e rfl) ?_
    refine gd_s (r := ix_push 57 (ix_vI 0)) (by decide) rfl (fun outs e => gp_push e) ?_
    refine gd_callx (R := fun o => o.2.2.1 = [.inl 0] ∧ Gr n2 t2 o.2.2.2.1 o.2.2.2.2.1) (by decide) (show ix_cX11_back O c 57 = ix_call (ix_rcv 111) c 2 52 0 0 0 0 60 from rfl) rfl (fun outs e o ho => ?_) (fun o w hR => ?_)
    · rw [hc] at e
      cases d with
      | zero => exact fr_nn e
      | succ d => exact wr_X11_granted rfl rfl e o ho
    · rw [hR.1]
      refine gd_s (r := ix_ret ix_isInt) (by decide) rfl (fun outs e => gp_ret e) ?_
      exact gd_ends ⟨rfl, g2.tr hR.2⟩
theorem wr_X11_back_1 {g d r : Nat} {outs : List ix_S} (hn : 34 < n) (h1 : ix_g (ix_g t 0).2.2 1 = .inr (.inr (.inl 35))) (hl : (ix_g t 34).2.1 = 2) (hr : ix_g (ix_g t 34).2.2 1 = .inr (.inr (.inl r))) (e : ix_exec (ix_tbl O) ty_no g (d + 1) 35 [.inr (.inr (.inl 1)), .inl 1] B n t = some outs) : ∀ o ∈ outs, o.2.2.1 = [.inl (cond (Nat.beq r 0) 4294967294 0)] ∧ Gr n t o.2.2.2.1 o.2.2.2.2.1 := by
  refine gd_ex (Q := fun o => o.2.2.1 = [.inl (cond (Nat.beq r 0) 4294967294 0)] ∧ Gr n t o.2.2.2.1 o.2.2.2.2.1) (show ix_tbl O 35 = some (ix_cX11_back O, 2) from rfl) (fun c hc => ?_) e
  refine gd_s (r := ix_load ix_isInt 1 1) (by decide) rfl (fun outs e => gp_load e rfl) ?_
  refine gd_s (r := ix_if true false false 13 4) (by decide) rfl (fun outs e => gp_ifl e) ?_
  rw [show Nat.blt (ix_bias 1) (ix_bias 0) = false by decide]
  show gd _ 4 _ _
  refine gd_s (r := ix_load ix_isInt 1 5) (by decide) rfl (fun outs e => gp_load e rfl) ?_
  refine gd_s (r := ix_load ix_isRef 0 6) (by decide) rfl (fun outs e => gp_load e rfl) ?_
  refine gd_s (r := ix_getf 111 1 9) (by decide) rfl (fun outs e => gp_getf e) ?_
  rw [h1]
  refine gd_s (r := ix_alen O 10) (by decide) rfl (fun outs e => gp_alen e hn) ?_
  rw [hl]
  refine gd_s (r := ix_icmp true false false 19 13) (by decide) rfl (fun outs e => gp_cmp e) ?_
  rw [show Nat.blt (ix_bias 1) (ix_bias 2) = true by decide]
  show gd _ 19 _ _
  refine gd_s (r := ix_load ix_isRef 0 20) (by decide) rfl (fun outs e => gp_load e rfl) ?_
  refine gd_s (r := ix_getf 111 1 23) (by decide) rfl (fun outs e => gp_getf e) ?_
  rw [h1]
  refine gd_s (r := ix_load ix_isInt 1 24) (by decide) rfl (fun outs e => gp_load e rfl) ?_
  refine gd_s (r := ix_ald 4 97 24 25) (by decide) rfl (fun outs e => (gp_ald e).1) ?_
  rw [hr]
  refine gd_s (r := ix_ifnull 28 35) (by decide) rfl (fun outs e => gp_ifnull e) ?_
  cases hz : Nat.beq r 0 with
  | true =>
    show gd _ 28 _ _
    refine gd_s (r := ix_load ix_isRef 0 29) (by decide) rfl (fun outs e => gp_load e rfl) ?_
    refine gd_s (r := ix_push 31 (ix_vI 4294967294)) (by decide) rfl (fun outs e => gp_push e) ?_
    refine gd_callx (R := fun o => o.2.2.1 = [.inl 4294967294] ∧ Gr n t o.2.2.2.1 o.2.2.2.2.1) (by decide) (show ix_cX11_back O c 31 = ix_call (ix_rcv 111) c 2 78 0 0 0 0 34 from rfl) rfl (fun outs e o ho => ?_) (fun o w hR => ?_)
    · rw [hc] at e
      cases d with
      | zero => exact fr_nn e
      | succ d => exact wr_X11_refused rfl rfl e o ho
    · rw [hR.1]
      refine gd_s (r := ix_ret ix_isInt) (by decide) rfl (fun outs e => gp_ret e) ?_
      exact gd_ends ⟨rfl, hR.2⟩
  | false =>
    show gd _ 35 _ _
    have gc : gr_C gr_W c := by
      rw [hc]
      exact gr_exec d
    refine gd_s (r := ix_load ix_isRef 0 36) (by decide) rfl (fun outs e => gp_load e rfl) ?_
    refine gd_s (r := ix_getf 111 0 39) (by decide) rfl (fun outs e => gp_getf e) ?_
    refine gd_s (r := ix_load ix_isRef 0 40) (by decide) rfl (fun outs e => gp_load e rfl) ?_
    refine gd_s (r := ix_getf 111 1 43) (by decide) rfl (fun outs e => gp_getf e) ?_
    refine gd_s (r := ix_load ix_isInt 1 44) (by decide) rfl (fun outs e => gp_load e rfl) ?_
    refine gd_ald (by decide) (show ix_cX11_back O c 44 = ix_ald 4 97 44 45 from rfl) (fun v => ?_)
    refine gd_call (R := fun n' t' => Gr n t n' t') (by decide) (show ix_cX11_back O c 45 = ix_call (ix_rcv 101) c 2 223 0 0 0 0 48 from rfl) rfl (fun outs e o ho => gc _ _ _ _ _ _ rfl e o ho) (fun B st n1 t1 w g1 => ?_)
    refine gd_s (r := ix_load ix_isRef 0 49) (by decide) rfl (fun outs e => gp_load e rfl) ?_
    refine gd_gf (by decide) (show ix_cX11_back O c 49 = ix_getf 111 10 52 from rfl) (fun v => ?_)
    refine gd_call (R := fun n' t' => Gr n t n' t') (by decide) (show ix_cX11_back O c 52 = ix_call (ix_rcv 100) c 1 18 0 0 0 0 55 from rfl) rfl (fun outs e o ho => g1.tr (gc _ _ _ _ _ _ rfl e o ho)) (fun B st n2 t2 w g2 => ?_)
    refine gd_s (r := ix_load ix_isRef 0 56) (by decide) rfl (fun outs e => gp_load e rfl) ?_
    refine gd_s (r := ix_push 57 (ix_vI 0)) (by decide) rfl (fun outs e => gp_push e) ?_
    refine gd_callx (R := fun o => o.2.2.1 = [.inl 0] ∧ Gr n2 t2 o.2.2.2.1 o.2.2.2.2.1) (by decide) (show ix_cX11_back O c 57 = ix_call (ix_rcv 111) c 2 52 0 0 0 0 60 from rfl) rfl (fun outs e o ho => ?_) (fun o w hR => ?_)
    · rw [hc] at e
      cases d with
      | zero => exact fr_nn e
      | succ d => exact wr_X11_granted rfl rfl e o ho
    · rw [hR.1]
      refine gd_s (r := ix_ret ix_isInt) (by decide) rfl (fun outs e => gp_ret e) ?_
      exact gd_ends ⟨rfl, g2.tr hR.2⟩
end FRI
