/-! those that write: row, law, orders -/
section FRW
variable {O : ix_O} {Φ : Nat → Nat → Bool} {A : Nat → Prop} {P : ix_P} {Q : ix_S → Prop}
def gd (P : ix_P) (pc : Nat) (S : ix_S) (Q : ix_S → Prop) : Prop := ∀ fuel outs, ix_loop P fuel pc S = some outs → ∀ o ∈ outs, Q o
theorem gd_fold {g : Nat} : ∀ (l : List (Nat × ix_S)) (outs : List ix_S), (∀ o ∈ l, gd P o.1 o.2 Q) → l.foldr (fun o acc => ix_app (ix_loop P g o.1 o.2) acc) (some []) = some outs → ∀ o ∈ outs, Q o
  | [], outs, _, e => by
    have e0 := fr_e0 e
    subst e0
    intro o ho
    cases ho
  | q :: l, outs, hl, e => by
    change ix_app (ix_loop P g q.1 q.2) (l.foldr (fun o acc => ix_app (ix_loop P g o.1 o.2) acc) (some [])) = some outs at e
    unfold ix_app at e
    split at e
    · cases e
    · rename_i x hx
      split at e
      · cases e
      · rename_i y hy
        cases e
        intro o ho
        rcases List.mem_append.mp ho with ho | ho
        · exact hl q List.mem_cons_self g x hx o ho
        · exact gd_fold l y (fun o ho => hl o (List.mem_cons_of_mem _ ho)) hy o ho
theorem gd_step {pc : Nat} {S : ix_S} (hp : ¬ pc = 99999) (h : ∀ outs, P pc S = some outs → ∀ o ∈ outs, gd P o.1 o.2 Q) : gd P pc S Q := by
  intro fuel outs e
  cases fuel with
  | zero => exact fr_nn e
  | succ g =>
    change cond (Nat.beq pc 99999) (some [S]) (match P pc S with
      | none => none
      | some outs => (match outs with
        | [] => some []
        | (pc1, S1) :: r => (match r with
          | [] => ix_loop P g pc1 S1
          | _ => outs.foldr (fun o acc => ix_app (ix_loop P g o.1 o.2) acc) (some [])))) = some outs at e
    rw [ix_beq_f.mpr hp, cond_false] at e
    split at e
    · cases e
    · rename_i l hl
      have hs := h l hl
      rcases l with _ | ⟨⟨pc1, S1⟩, r⟩
      · have e0 := fr_e0 e
        subst e0
        intro o ho
        cases ho
      · rcases r with _ | ⟨q, r⟩
        · exact hs _ List.mem_cons_self g outs e
        · exact gd_fold _ outs hs e
theorem gd_s {pc pc' : Nat} {S S' : ix_S} {r : ix_S → ix_R} (hp : ¬ pc = 99999) (hr : P pc = r) (h : ∀ outs, r S = some outs → outs = [(pc', S')]) (k : gd P pc' S' Q) : gd P pc S Q := gd_step hp (fun outs e o ho => by
  rw [hr] at e
  rw [h outs e] at ho
  cases List.mem_singleton.mp ho
  exact k)
theorem gd_ends {S : ix_S} (h : Q S) : gd P 99999 S Q := by
  intro fuel outs e
  cases fuel with
  | zero => exact fr_nn e
  | succ g =>
    have e1 : some [S] = some outs := e
    cases e1
    intro o ho
    cases List.mem_singleton.mp ho
    exact h
theorem gd_fr {pc : Nat} {S : ix_S} (hP : ∀ pc, A pc → fr_P Φ A (P pc)) (hA : A pc) (hQ : ∀ o : ix_S, fr_R Φ S.2.2.2.1 S.2.2.2.2.1 o.2.2.2.1 o.2.2.2.2.1 → Q o) : gd P pc S Q := fun fuel outs e o ho => hQ o (fr_loop hP fuel pc S outs hA e o ho)
theorem gd_jmp {pc y z : Nat} {r : ix_S → ix_R} {q : Option (List ix_B × List ix_B)} {R : ix_L × (List ix_V × (Nat × (ix_T × (Nat × Nat))))} {S : ix_S} (hp : ¬ pc = 99999) (hr : P pc = r) (h : r S = ix_br q y z R) (k1 : ∀ B, gd P y (B, R) Q) (k2 : ∀ B, gd P z (B, R) Q) : gd P pc S Q := gd_step hp (fun outs e o ho => by
  rw [hr, h] at e
  unfold ix_br at e
  split at e
  · cases e
    rcases List.mem_append.mp ho with ho | ho
    · obtain ⟨b, _, rfl⟩ := List.mem_map.mp ho
      exact k1 b
    · obtain ⟨b, _, rfl⟩ := List.mem_map.mp ho
      exact k2 b
  · cases e)
theorem gd_call {pc na y mc ms cC cS nx n ce sl : Nat} {chk : List ix_V → Nat → ix_T → Bool} {c : ix_Call} {B : ix_B} {ls : ix_L} {st as rest : List ix_V} {t : ix_T} {R : Nat → ix_T → Prop} (hp : ¬ pc = 99999) (hr : P pc = ix_call chk c na y mc ms cC cS nx) (ht : ix_take na [] st = some (as, rest)) (hc : ∀ outs, c y as B n t = some outs → ∀ o ∈ outs, R o.2.2.2.1 o.2.2.2.2.1) (k : ∀ B st n' t' w, R n' t' → gd P nx (B, ls, st, n', t', w) Q) : gd P pc (B, ls, st, n, t, ce, sl) Q := gd_step hp (fun outs e o ho => by
  rw [hr] at e
  unfold ix_call at e
  dsimp only at e
  rw [ht] at e
  dsimp only at e
  refine fr_c e (fun e => ?_)
  split at e
  · rename_i o2 ho2
    cases e
    obtain ⟨q, q1, rfl⟩ := List.mem_map.mp ho
    exact k _ _ _ _ _ (hc o2 ho2 q q1)
  · cases e)
/-- what one step gives, if it gives anything -/
theorem gp_load {ok : ix_V → Bool} {i nx : Nat} {B : ix_B} {ls : ix_L} {st : List ix_V} {w : Nat × (ix_T × (Nat × Nat))} {v : ix_V} {outs : List (Nat × ix_S)} (e : ix_load ok i nx (B, ls, st, w) = some outs) (h : ls[i]? = some (some v)) : outs = [(nx, (B, ls, v :: st, w))] := by
  unfold ix_load at e
  dsimp only at e
  rw [h] at e
  dsimp only at e
  refine fr_c e (fun e => ?_)
  cases e
  rfl
theorem gp_push {nx : Nat} {B : ix_B} {ls : ix_L} {st : List ix_V} {w : Nat × (ix_T × (Nat × Nat))} {v : ix_V} {outs : List (Nat × ix_S)} (e : ix_push nx v (B, ls, st, w) = some outs) : outs = [(nx, (B, ls, v :: st, w))] := by
  cases e
  rfl
theorem gp_goto {nx : Nat} {S : ix_S} {outs : List (Nat × ix_S)} (e : ix_goto nx S = some outs) : outs = [(nx, S)] := by
  cases e
  rfl
theorem gp_store {ok : ix_V → Bool} {i nx : Nat} {B : ix_B} {ls : ix_L} {st : List ix_V} {w : Nat × (ix_T × (Nat × Nat))} {v : ix_V} {outs : List (Nat × ix_S)} (e : ix_store ok i nx (B, ls, v :: st, w) = some outs) : outs = [(nx, (B, (ix_clr ls i).set i (some v), st, w))] := by
  unfold ix_store at e
  dsimp only at e
  refine fr_c e (fun e => ?_)
  cases e
  rfl
theorem gp_getf {ci k nx i n : Nat} {B : ix_B} {ls : ix_L} {st : List ix_V} {t : ix_T} {w : Nat × Nat} {outs : List (Nat × ix_S)} (e : ix_getf ci k nx (B, ls, .inr (.inr (.inl (i + 1))) :: st, n, t, w) = some outs) : outs = [(nx, (B, ls, ix_g (ix_g t i).2.2 k :: st, n, t, w))] := by
  change cond (Nat.blt i n) (cond (Nat.beq (ix_g t i).1 ci && Nat.blt k (ix_g t i).2.1) (some [(nx, (B, ls, ix_g (ix_g t i).2.2 k :: st, n, t, w))]) none) none = some outs at e
  refine fr_c e (fun e => fr_c e (fun e => ?_))
  cases e
  rfl
theorem gp_putf {ci k nx i n : Nat} {ok : ix_V → Bool} {B : ix_B} {ls : ix_L} {st : List ix_V} {t : ix_T} {w : Nat × Nat} {v : ix_V} {outs : List (Nat × ix_S)} (e : ix_putf ci k nx ok (B, ls, v :: .inr (.inr (.inl (i + 1))) :: st, n, t, w) = some outs) : outs = [(nx, (B, ls, st, n, pl_fld i k v t, w))] := by
  change cond (Nat.blt i n && ok v) (cond (Nat.beq (ix_g t i).1 ci && Nat.blt k (ix_g t i).2.1) (some [(nx, (B, ls, st, n, pl_fld i k v t, w))]) none) none = some outs at e
  refine fr_c e (fun e => fr_c e (fun e => ?_))
  cases e
  rfl
/-- a value from the script's or another row: any -/
theorem gd_iald {pc nx pc0 : Nat} {B : ix_B} {ls : ix_L} {j a : ix_V} {st : List ix_V} {n : Nat} {t : ix_T} {w : Nat × Nat} (hp : ¬ pc = 99999) (hr : P pc = ix_iald O pc0 nx) (hj : ∃ m, j = .inl m) (k : ∀ v, gd P nx (B, ls, v :: st, n, t, w) Q) : gd P pc (B, ls, j :: a :: st, n, t, w) Q := gd_step hp (fun outs e o ho => by
  obtain ⟨m, rfl⟩ := hj
  rw [hr] at e
  rcases a with a | a | a | a
  · exact fr_no e
  · exact fr_no e
  · cases a with
    | zero => exact fr_no e
    | succ i =>
      change (match cond (Nat.blt i n) (cond (Nat.beq (ix_g t i).1 0) (some (ix_g t i).2) none) (cond (Nat.blt i 1000000) none (O i)) with
        | some (len, f) => cond (Nat.blt m len) (some [(nx, (B, ls, ix_g f m :: st, n, t, w))]) none
        | none => none) = some outs at e
      split at e
      · refine fr_c e (fun e => ?_)
        cases e
        cases List.mem_singleton.mp ho
        exact k _
      · cases e
  · exact fr_no e)
/-- a method's run, taken apart -/
theorem gd_ex {M : ix_M} {g d y nL n : Nat} {P : ix_Call → ix_P} {as : List ix_V} {B : ix_B} {t : ix_T} {outs : List ix_S} (hM : M y = some (P, nL)) (k : ∀ c, c = ix_exec M ty_no g d → gd (P c) 0 (B, ix_pad (ix_args as) (Nat.sub nL (ix_args as).length), [], n, t, 0, 0) Q) (e : ix_exec M ty_no g (d + 1) y as B n t = some outs) : ∀ o ∈ outs, Q o := by
  change (match M y with
    | none => none
    | some (P, nL) => cond (Nat.ble (ix_args as).length nL) (ix_loop (P (ix_exec M ty_no g d)) g 0 (B, ix_pad (ix_args as) (Nat.sub nL (ix_args as).length), [], n, t, 0, 0)) none) = some outs at e
  rw [hM] at e
  dsimp only at e
  cases hb : Nat.ble (ix_args as).length nL with
  | false => rw [hb] at e; cases e
  | true =>
    rw [hb, cond_true] at e
    exact k _ rfl g outs e
/-- both objects, where they lie -/
def K2 (n : Nat) (t : ix_T) : Prop := n ≤ 16384 ∧ 79 < n ∧ (ix_g t 0).1 = 111 ∧ (ix_g t 79).1 = 112
noncomputable def tpc (t : ix_T) : ix_V := ix_g (ix_g t 0).2.2 11
noncomputable def tpr (t : ix_T) : ix_V := ix_g (ix_g t 79).2.2 17
def fY (t : ix_T) (n' : Nat) (t' : ix_T) : Prop := K2 n' t' ∧ tpc t' = tpc t ∧ tpr t' = tpr t
def fZc (t : ix_T) (n' : Nat) (t' : ix_T) : Prop := K2 n' t' ∧ tpc t' = .inl 0 ∧ tpr t' = tpr t
def fZr (t : ix_T) (n' : Nat) (t' : ix_T) : Prop := K2 n' t' ∧ tpc t' = tpc t ∧ tpr t' = .inl 0
theorem fr_Y {n n' : Nat} {t t' : ix_T} (hk : K2 n t) (h : fr_R fr_F n t n' t') : fY t n' t' := by
  obtain ⟨k1, k2, k3, k4⟩ := hk
  obtain ⟨a1, a2, a3⟩ := h k1
  obtain ⟨b1, b2⟩ := a3 0 (by omega) (by rw [k3]; decide)
  obtain ⟨c1, c2⟩ := a3 79 (by omega) (by rw [k4]; decide)
  exact ⟨⟨a2, by omega, b1.trans k3, c1.trans k4⟩, b2 11 (by decide) (by rw [k3]; rfl), c2 17 (by decide) (by rw [k4]; rfl)⟩
theorem K2.fld {n i k : Nat} {v : ix_V} {t : ix_T} (h : K2 n t) (hi : i = 0 ∨ i = 79) : K2 n (pl_fld i k v t) := by
  obtain ⟨k1, k2, k3, k4⟩ := h
  refine ⟨k1, k2, ?_, ?_⟩
  · rcases hi with rfl | rfl
    · rw [pl_fld_s (by decide)]
      exact k3
    · rw [pl_fld_o (by decide) (by decide) (by decide)]
      exact k3
  · rcases hi with rfl | rfl
    · rw [pl_fld_o (by decide) (by decide) (by decide)]
      exact k4
    · rw [pl_fld_s (by decide)]
      exact k4
theorem tpc_0 {v : ix_V} {t : ix_T} : tpc (pl_fld 0 11 v t) = v := by
  unfold tpc
  rw [pl_fld_g (by decide) (by decide) (by decide), if_pos rfl]
theorem tpr_0 {k : Nat} {v : ix_V} {t : ix_T} : tpr (pl_fld 0 k v t) = tpr t := by
  unfold tpr
  rw [pl_fld_o (by decide) (by decide) (by decide)]
theorem tpr_79 {v : ix_V} {t : ix_T} : tpr (pl_fld 79 17 v t) = v := by
  unfold tpr
  rw [pl_fld_g (by decide) (by decide) (by decide), if_pos rfl]
theorem tpr_x {k : Nat} {v : ix_V} {t : ix_T} (hk : k < 64) (h : ¬ 17 = k) : tpr (pl_fld 79 k v t) = tpr t := by
  unfold tpr
  rw [pl_fld_g (by decide) hk (by decide), if_neg h]
theorem tpc_79 {k : Nat} {v : ix_V} {t : ix_T} : tpc (pl_fld 79 k v t) = tpc t := by
  unfold tpc
  rw [pl_fld_o (by decide) (by decide) (by decide)]
theorem fr_all {g d : Nat} : fr_C fr_F fr_W (ix_exec (ix_tbl O) ty_no g d) := fr_exec (fun y hy P nL hP => fr_tbl y hy P nL hP) d
set_option maxRecDepth 100000 in
theorem fg_X11_row {c : ix_Call} (hc : fr_C fr_F fr_W c) (pc : Nat) (h : (fun p : Nat => 10 ≤ p) pc) : fr_P fr_F (fun p : Nat => 10 ≤ p) (ix_cX11_row O c pc) := (show fr_Q fr_F (fun p : Nat => 10 ≤ p) pc (ix_cX11_row O c pc) from (fr_b (fr_b (fr_b (fr_b (fr_b (fr_b (fr_l (fun h => absurd h (by decide))) (fr_l (fun h => absurd h (by decide)))) (fr_b (fr_l (fun h => absurd h (by decide))) (fr_l (fun h => absurd h (by decide))))) (fr_b (fr_b (fr_l (fun h => absurd h (by decide))) (fr_l (fun h => absurd h (by decide)))) (fr_b (fr_l (fun _ => fr_N.P (fn_load (by decide)))) (fr_b (fr_l (fun _ => fr_N.P (fn_push (by decide)))) (fr_l (fun _ => fr_N.P (fn_icmp (by decide) (by decide)))))))) (fr_b (fr_b (fr_b (fr_l (fun _ => fr_N.P (fn_load (by decide)))) (fr_l (fun _ => fr_N.P (fn_getf (by decide))))) (fr_b (fr_l (fun _ => fr_N.P (fn_push (by decide)))) (fr_b (fr_l (fun _ => fr_N.P (fn_iald (by decide) (by decide)))) (fr_l (fun _ => fr_N.P (fn_push (by decide))))))) (fr_b (fr_b (fr_l (fun _ => fr_N.P (fn_icmp (by decide) (by decide)))) (fr_l (fun _ => fr_N.P (fn_load (by decide))))) (fr_b (fr_l (fun _ => fr_N.P (fn_push (by decide)))) (fr_b (fr_l (fun _ => fp_call hc rfl (by decide))) (fr_l (fun _ => fr_N.P (fn_ret (by decide))))))))) (fr_b (fr_b (fr_b (fr_b (fr_l (fun _ => fr_N.P (fn_push (by decide)))) (fr_l (fun _ => fr_N.P (fn_store (by decide))))) (fr_b (fr_l (fun _ => fr_N.P (fn_push (by decide)))) (fr_b (fr_l (fun _ => fr_N.P (fn_store (by decide)))) (fr_l (fun _ => fr_N.P (fn_load (by decide))))))) (fr_b (fr_b (fr_l (fun _ => fr_N.P (fn_push (by decide)))) (fr_l (fun _ => fr_N.P (fn_icmp (by decide) (by decide))))) (fr_b (fr_l (fun _ => fr_N.P (fn_load (by decide)))) (fr_b (fr_l (fun _ => fr_N.P (fn_push (by decide)))) (fr_l (fun _ => fr_N.P (fn_iadd (by decide)))))))) (fr_b (fr_b (fr_b (fr_l (fun _ => fr_N.P (fn_load (by decide)))) (fr_l (fun _ => fr_N.P (fn_icmp (by decide) (by decide))))) (fr_b (fr_l (fun _ => fr_N.P (fn_load (by decide)))) (fr_b (fr_l (fun _ => fr_N.P (fn_getf (by decide)))) (fr_l (fun _ => fr_N.P (fn_push (by decide))))))) (fr_b (fr_b (fr_l (fun _ => fr_N.P (fn_iald (by decide) (by decide)))) (fr_l (fun _ => fr_N.P (fn_push (by decide))))) (fr_b (fr_l (fun _ => fr_N.P (fn_ibin (by decide) (by decide)))) (fr_b (fr_l (fun _ => fr_N.P (fn_load (by decide)))) (fr_l (fun _ => fr_N.P (fn_iadd (by decide)))))))))) (fr_b (fr_b (fr_b (fr_b (fr_b (fr_l (fun _ => fr_N.P (fn_store (by decide)))) (fr_l (fun _ => fr_N.P (fn_load (by decide))))) (fr_b (fr_l (fun _ => fr_N.P (fn_getf (by decide)))) (fr_l (fun _ => fr_N.P (fn_load (by decide)))))) (fr_b (fr_b (fr_l (fun _ => fr_N.P (fn_push (by decide)))) (fr_l (fun _ => fr_N.P (fn_iadd (by decide))))) (fr_b (fr_l (fun _ => fr_N.P (fn_iald (by decide) (by decide)))) (fr_b (fr_l (fun _ => fr_N.P (fn_store (by decide)))) (fr_l (fun _ => fr_N.P (fn_load (by decide)))))))) (fr_b (fr_b (fr_b (fr_l (fun _ => fp_call hc rfl (by decide))) (fr_l (fun _ => fr_N.P (fn_if (by decide) (by decide))))) (fr_b (fr_l (fun _ => fr_N.P (fn_load (by decide)))) (fr_b (fr_l (fun _ => fr_N.P (fn_getf (by decide)))) (fr_l (fun _ => fr_N.P (fn_load (by decide))))))) (fr_b (fr_b (fr_l (fun _ => fr_N.P (fn_load (by decide)))) (fr_l (fun _ => fp_call hc rfl (by decide)))) (fr_b (fr_l (fun _ => fr_N.P (fn_if (by decide) (by decide)))) (fr_b (fr_l (fun _ => fr_N.P (fn_load (by decide)))) (fr_l (fun _ => fr_N.P (fn_getf (by decide))))))))) (fr_b (fr_b (fr_b (fr_b (fr_l (fun _ => fr_N.P (fn_load (by decide)))) (fr_l (fun _ => fr_N.P (fn_load (by decide))))) (fr_b (fr_l (fun _ => fp_call hc rfl (by decide))) (fr_b (fr_l (fun _ => fr_N.P (fn_iinc (by decide)))) (fr_l (fun _ => fr_N.P (fn_iinc (by decide))))))) (fr_b (fr_b (fr_l (fun _ => fr_N.P (fn_goto (by decide)))) (fr_l (fun _ => fr_N.P (fn_load (by decide))))) (fr_b (fr_l (fun _ => fr_N.P (fn_load (by decide)))) (fr_b (fr_l (fun _ => fr_N.P (fn_push (by decide)))) (fr_l (fun _ => fr_N.P (fn_isub (by decide)))))))) (fr_b (fr_b (fr_b (fr_l (fun _ => fr_N.P (fn_load (by decide)))) (fr_l (fun _ => fr_N.P (fn_isub (by decide))))) (fr_b (fr_l (fun _ => fp_putf (by decide) (by decide) rfl)) (fr_b (fr_l (fun _ => fr_N.P (fn_load (by decide)))) (fr_l (fun _ => fr_N.P (fn_getf (by decide))))))) (fr_b (fr_b (fr_l (fun _ => fp_call hc rfl (by decide))) (fr_l (fun _ => fr_N.P (fn_load (by decide))))) (fr_b (fr_l (fun _ => fr_N.P (fn_load (by decide)))) (fr_b (fr_l (fun _ => fp_call hc rfl (by decide))) (fr_l (fun _ => fr_N.P (fn_ret (by decide)))))))))))) h
theorem wr_X11_row {g d n : Nat} {t : ix_T} {B : ix_B} {outs : List ix_S} (hk : K2 n t) (e : ix_exec (ix_tbl O) ty_no g (d + 1) 80 [.inr (.inr (.inl 1))] B n t = some outs) : ∀ o ∈ outs, fZc t o.2.2.2.1 o.2.2.2.2.1 := by
  refine gd_ex (Q := fun o => fZc t o.2.2.2.1 o.2.2.2.2.1) (show ix_tbl O 80 = some (ix_cX11_row O, 6) from rfl) (fun c hc => ?_) e
  refine gd_s (r := ix_load ix_isRef 0 1) (by decide) rfl (fun outs e => gp_load e rfl) ?_
  refine gd_s (r := ix_getf 111 11 4) (by decide) rfl (fun outs e => gp_getf e) ?_
  refine gd_s (r := ix_store ix_isInt 1 5) (by decide) rfl (fun outs e => gp_store e) ?_
  refine gd_s (r := ix_load ix_isRef 0 6) (by decide) rfl (fun outs e => gp_load e rfl) ?_
  refine gd_s (r := ix_push 7 (ix_vI 0)) (by decide) rfl (fun outs e => gp_push e) ?_
  refine gd_s (r := ix_putf 111 11 10 ix_isInt) (by decide) rfl (fun outs e => gp_putf e) ?_
  refine gd_fr (Φ := fr_F) (A := fun p : Nat => 10 ≤ p) (fun pc h => fg_X11_row (by rw [hc]; exact fr_all) pc h) (by decide) (fun o ho => ?_)
  obtain ⟨q1, q2, q3⟩ := fr_Y (hk.fld (Or.inl rfl)) ho
  exact ⟨q1, q2.trans tpc_0, q3.trans tpr_0⟩
set_option maxRecDepth 100000 in
theorem fg_X11_law {c : ix_Call} (hc : fr_C fr_F fr_W c) (pc : Nat) (h : (fun p : Nat => 10 ≤ p) pc) : fr_P fr_F (fun p : Nat => 10 ≤ p) (ix_cX11_law O c pc) := (show fr_Q fr_F (fun p : Nat => 10 ≤ p) pc (ix_cX11_law O c pc) from (fr_b (fr_b (fr_b (fr_b (fr_b (fr_l (fun h => absurd h (by decide))) (fr_l (fun h => absurd h (by decide)))) (fr_b (fr_l (fun h => absurd h (by decide))) (fr_l (fun h => absurd h (by decide))))) (fr_b (fr_b (fr_l (fun h => absurd h (by decide))) (fr_l (fun h => absurd h (by decide)))) (fr_b (fr_l (fun _ => fr_N.P (fn_load (by decide)))) (fr_b (fr_l (fun _ => fr_N.P (fn_getf (by decide)))) (fr_l (fun _ => fr_N.P (fn_getf (by decide)))))))) (fr_b (fr_b (fr_b (fr_l (fun _ => fr_N.P (fn_push (by decide)))) (fr_l (fun _ => fr_N.P (fn_icmp (by decide) (by decide))))) (fr_b (fr_l (fun _ => fr_N.P (fn_load (by decide)))) (fr_b (fr_l (fun _ => fr_N.P (fn_push (by decide)))) (fr_l (fun _ => fp_call hc rfl (by decide)))))) (fr_b (fr_b (fr_l (fun _ => fr_N.P (fn_ret (by decide)))) (fr_l (fun _ => fr_N.P (fn_load (by decide))))) (fr_b (fr_l (fun _ => fr_N.P (fn_load (by decide)))) (fr_b (fr_l (fun _ => fr_N.P (fn_getf (by decide)))) (fr_l (fun _ => fr_N.P (fn_load (by decide))))))))) (fr_b (fr_b (fr_b (fr_b (fr_l (fun _ => fp_call hc rfl (by decide))) (fr_l (fun _ => fp_putf (by decide) (by decide) rfl))) (fr_b (fr_l (fun _ => fr_N.P (fn_load (by decide)))) (fr_b (fr_l (fun _ => fr_N.P (fn_getf (by decide)))) (fr_l (fun _ => fr_N.P (fn_push (by decide))))))) (fr_b (fr_b (fr_l (fun _ => fr_N.P (fn_icmp (by decide) (by decide)))) (fr_l (fun _ => fr_N.P (fn_load (by decide))))) (fr_b (fr_l (fun _ => fr_N.P (fn_push (by decide)))) (fr_b (fr_l (fun _ => fp_call hc rfl (by decide))) (fr_l (fun _ => fr_N.P (fn_ret (by decide)))))))) (fr_b (fr_b (fr_b (fr_l (fun _ => fr_N.P (fn_load (by decide)))) (fr_l (fun _ => fr_N.P (fn_load (by decide))))) (fr_b (fr_l (fun _ => fr_N.P (fn_getf (by decide)))) (fr_b (fr_l (fun _ => fr_N.P (fn_load (by decide)))) (fr_l (fun _ => fr_N.P (fn_getf (by decide))))))) (fr_b (fr_b (fr_l (fun _ => fr_N.P (fn_getf (by decide)))) (fr_l (fun _ => fp_call hc rfl (by decide)))) (fr_b (fr_l (fun _ => fp_call hc rfl (by decide))) (fr_b (fr_l (fun _ => fp_call hc rfl (by decide))) (fr_l (fun _ => fr_N.P (fn_ret (by decide))))))))))) h
theorem wr_X11_law {g d n : Nat} {t : ix_T} {B : ix_B} {outs : List ix_S} (hk : K2 n t) (e : ix_exec (ix_tbl O) ty_no g (d + 1) 64 [.inr (.inr (.inl 1))] B n t = some outs) : ∀ o ∈ outs, fZc t o.2.2.2.1 o.2.2.2.2.1 := by
  refine gd_ex (Q := fun o => fZc t o.2.2.2.1 o.2.2.2.2.1) (show ix_tbl O 64 = some (ix_cX11_law O, 2) from rfl) (fun c hc => ?_) e
  refine gd_s (r := ix_load ix_isRef 0 1) (by decide) rfl (fun outs e => gp_load e rfl) ?_
  refine gd_s (r := ix_getf 111 11 4) (by decide) rfl (fun outs e => gp_getf e) ?_
  refine gd_s (r := ix_store ix_isInt 1 5) (by decide) rfl (fun outs e => gp_store e) ?_
  refine gd_s (r := ix_load ix_isRef 0 6) (by decide) rfl (fun outs e => gp_load e rfl) ?_
  refine gd_s (r := ix_push 7 (ix_vI 0)) (by decide) rfl (fun outs e => gp_push e) ?_
  refine gd_s (r := ix_putf 111 11 10 ix_isInt) (by decide) rfl (fun outs e => gp_putf e) ?_
  refine gd_fr (Φ := fr_F) (A := fun p : Nat => 10 ≤ p) (fun pc h => fg_X11_law (by rw [hc]; exact fr_all) pc h) (by decide) (fun o ho => ?_)
  obtain ⟨q1, q2, q3⟩ := fr_Y (hk.fld (Or.inl rfl)) ho
  exact ⟨q1, q2.trans tpc_0, q3.trans tpr_0⟩
set_option maxRecDepth 100000 in
theorem fg_X11_orders {c : ix_Call} (hc : fr_C fr_F fr_W c) (pc : Nat) (h : (fun p : Nat => 10 ≤ p) pc) : fr_P fr_F (fun p : Nat => 10 ≤ p) (ix_cX11_orders O c pc) := (show fr_Q fr_F (fun p : Nat => 10 ≤ p) pc (ix_cX11_orders O c pc) from (fr_b (fr_b (fr_b (fr_b (fr_b (fr_l (fun h => absurd h (by decide))) (fr_l (fun h => absurd h (by decide)))) (fr_b (fr_l (fun h => absurd h (by decide))) (fr_b (fr_l (fun h => absurd h (by decide))) (fr_l (fun h => absurd h (by decide)))))) (fr_b (fr_b (fr_l (fun h => absurd h (by decide))) (fr_l (fun _ => fr_N.P (fn_load (by decide))))) (fr_b (fr_l (fun _ => fr_N.P (fn_getf (by decide)))) (fr_b (fr_l (fun _ => fr_N.P (fn_push (by decide)))) (fr_l (fun _ => fp_putf (by decide) (by decide) rfl)))))) (fr_b (fr_b (fr_b (fr_l (fun _ => fr_N.P (fn_load (by decide)))) (fr_l (fun _ => fr_N.P (fn_load (by decide))))) (fr_b (fr_l (fun _ => fr_N.P (fn_getf (by decide)))) (fr_b (fr_l (fun _ => fr_N.P (fn_load (by decide)))) (fr_l (fun _ => fp_call hc rfl (by decide)))))) (fr_b (fr_b (fr_l (fun _ => fp_putf (by decide) (by decide) rfl)) (fr_b (fr_l (fun _ => fr_N.P (fn_load (by decide)))) (fr_l (fun _ => fr_N.P (fn_getf (by decide)))))) (fr_b (fr_l (fun _ => fr_N.P (fn_push (by decide)))) (fr_b (fr_l (fun _ => fr_N.P (fn_icmp (by decide) (by decide)))) (fr_l (fun _ => fr_N.P (fn_load (by decide))))))))) (fr_b (fr_b (fr_b (fr_b (fr_l (fun _ => fr_N.P (fn_push (by decide)))) (fr_l (fun _ => fp_call hc rfl (by decide)))) (fr_b (fr_l (fun _ => fr_N.P (fn_ret (by decide)))) (fr_b (fr_l (fun _ => fr_N.P (fn_load (by decide)))) (fr_l (fun _ => fr_N.P (fn_getf (by decide))))))) (fr_b (fr_b (fr_l (fun _ => fr_N.P (fn_load (by decide)))) (fr_l (fun _ => fr_N.P (fn_getf (by decide))))) (fr_b (fr_l (fun _ => fr_N.P (fn_getf (by decide)))) (fr_b (fr_l (fun _ => fp_call hc rfl (by decide))) (fr_l (fun _ => fr_N.P (fn_store (by decide)))))))) (fr_b (fr_b (fr_b (fr_l (fun _ => fr_N.P (fn_load (by decide)))) (fr_l (fun _ => fr_N.P (fn_push (by decide))))) (fr_b (fr_l (fun _ => fr_N.P (fn_icmp (by decide) (by decide)))) (fr_b (fr_l (fun _ => fr_N.P (fn_load (by decide)))) (fr_l (fun _ => fr_N.P (fn_push (by decide))))))) (fr_b (fr_b (fr_l (fun _ => fp_call hc rfl (by decide))) (fr_b (fr_l (fun _ => fr_N.P (fn_goto (by decide)))) (fr_l (fun _ => fr_N.P (fn_load (by decide)))))) (fr_b (fr_l (fun _ => fr_N.P (fn_load (by decide)))) (fr_b (fr_l (fun _ => fp_call hc rfl (by decide))) (fr_l (fun _ => fr_N.P (fn_ret (by decide))))))))))) h
theorem wr_X11_orders {g d n : Nat} {t : ix_T} {B : ix_B} {outs : List ix_S} (hk : K2 n t) (e : ix_exec (ix_tbl O) ty_no g (d + 1) 68 [.inr (.inr (.inl 1))] B n t = some outs) : ∀ o ∈ outs, fZc t o.2.2.2.1 o.2.2.2.2.1 := by
  refine gd_ex (Q := fun o => fZc t o.2.2.2.1 o.2.2.2.2.1) (show ix_tbl O 68 = some (ix_cX11_orders O, 3) from rfl) (fun c hc => ?_) e
  refine gd_s (r := ix_load ix_isRef 0 1) (by decide) rfl (fun outs e => gp_load e rfl) ?_
  refine gd_s (r := ix_getf 111 11 4) (by decide) rfl (fun outs e => gp_getf e) ?_
  refine gd_s (r := ix_store ix_isInt 1 5) (by decide) rfl (fun outs e => gp_store e) ?_
  refine gd_s (r := ix_load ix_isRef 0 6) (by decide) rfl (fun outs e => gp_load e rfl) ?_
  refine gd_s (r := ix_push 7 (ix_vI 0)) (by decide) rfl (fun outs e => gp_push e) ?_
  refine gd_s (r := ix_putf 111 11 10 ix_isInt) (by decide) rfl (fun outs e => gp_putf e) ?_
  refine gd_fr (Φ := fr_F) (A := fun p : Nat => 10 ≤ p) (fun pc h => fg_X11_orders (by rw [hc]; exact fr_all) pc h) (by decide) (fun o ho => ?_)
  obtain ⟨q1, q2, q3⟩ := fr_Y (hk.fld (Or.inl rfl)) ho
  exact ⟨q1, q2.trans tpc_0, q3.trans tpr_0⟩
set_option maxRecDepth 100000 in
theorem fg_X12_row {c : ix_Call} (hc : fr_C fr_F fr_W c) (pc : Nat) (h : (fun p : Nat => 10 ≤ p) pc) : fr_P fr_F (fun p : Nat => 10 ≤ p) (ix_cX12_row O c pc) := (show fr_Q fr_F (fun p : Nat => 10 ≤ p) pc (ix_cX12_row O c pc) from (fr_b (fr_b (fr_b (fr_b (fr_b (fr_b (fr_l (fun h => absurd h (by decide))) (fr_l (fun h => absurd h (by decide)))) (fr_b (fr_l (fun h => absurd h (by decide))) (fr_b (fr_l (fun h => absurd h (by decide))) (fr_l (fun h => absurd h (by decide)))))) (fr_b (fr_b (fr_l (fun h => absurd h (by decide))) (fr_l (fun _ => fr_N.P (fn_load (by decide))))) (fr_b (fr_l (fun _ => fr_N.P (fn_if (by decide) (by decide)))) (fr_b (fr_l (fun _ => fr_N.P (fn_load (by decide)))) (fr_l (fun _ => fr_N.P (fn_getf (by decide)))))))) (fr_b (fr_b (fr_b (fr_l (fun _ => fr_N.P (fn_push (by decide)))) (fr_l (fun _ => fr_N.P (fn_ald (by decide) (by decide))))) (fr_b (fr_l (fun _ => fr_N.P (fn_push (by decide)))) (fr_b (fr_l (fun _ => fr_N.P (fn_push (by decide)))) (fr_l (fun _ => fp_call hc rfl (by decide)))))) (fr_b (fr_b (fr_l (fun _ => fr_N.P (fn_if (by decide) (by decide)))) (fr_l (fun _ => fr_N.P (fn_load (by decide))))) (fr_b (fr_l (fun _ => fr_N.P (fn_push (by decide)))) (fr_b (fr_l (fun _ => fp_call hc rfl (by decide))) (fr_l (fun _ => fr_N.P (fn_ret (by decide))))))))) (fr_b (fr_b (fr_b (fr_b (fr_l (fun _ => fr_N.P (fn_push (by decide)))) (fr_l (fun _ => fr_N.P (fn_store (by decide))))) (fr_b (fr_l (fun _ => fr_N.P (fn_push (by decide)))) (fr_b (fr_l (fun _ => fr_N.P (fn_store (by decide)))) (fr_l (fun _ => fr_N.P (fn_load (by decide))))))) (fr_b (fr_b (fr_l (fun _ => fr_N.P (fn_load (by decide)))) (fr_l (fun _ => fr_N.P (fn_icmp (by decide) (by decide))))) (fr_b (fr_l (fun _ => fr_N.P (fn_load (by decide)))) (fr_b (fr_l (fun _ => fr_N.P (fn_push (by decide)))) (fr_l (fun _ => fr_N.P (fn_icmp (by decide) (by decide)))))))) (fr_b (fr_b (fr_b (fr_l (fun _ => fr_N.P (fn_push (by decide)))) (fr_l (fun _ => fr_N.P (fn_load (by decide))))) (fr_b (fr_l (fun _ => fr_N.P (fn_getf (by decide)))) (fr_b (fr_l (fun _ => fr_N.P (fn_push (by decide)))) (fr_l (fun _ => fr_N.P (fn_ald (by decide) (by decide))))))) (fr_b (fr_b (fr_l (fun _ => fr_N.P (fn_ibin (by decide) (by decide)))) (fr_b (fr_l (fun _ => fr_N.P (fn_load (by decide)))) (fr_l (fun _ => fr_N.P (fn_iadd (by decide)))))) (fr_b (fr_l (fun _ => fr_N.P (fn_push (by decide)))) (fr_b (fr_l (fun _ => fr_N.P (fn_isub (by decide)))) (fr_l (fun _ => fr_N.P (fn_store (by decide)))))))))) (fr_b (fr_b (fr_b (fr_b (fr_b (fr_l (fun _ => fr_N.P (fn_load (by decide)))) (fr_l (fun _ => fr_N.P (fn_getf (by decide))))) (fr_b (fr_l (fun _ => fr_N.P (fn_load (by decide)))) (fr_b (fr_l (fun _ => fr_N.P (fn_ald (by decide) (by decide)))) (fr_l (fun _ => fr_N.P (fn_push (by decide))))))) (fr_b (fr_b (fr_l (fun _ => fr_N.P (fn_push (by decide)))) (fr_l (fun _ => fp_call hc rfl (by decide)))) (fr_b (fr_l (fun _ => fr_N.P (fn_if (by decide) (by decide)))) (fr_b (fr_l (fun _ => fr_N.P (fn_load (by decide)))) (fr_l (fun _ => fr_N.P (fn_load (by decide)))))))) (fr_b (fr_b (fr_b (fr_l (fun _ => fr_N.P (fn_load (by decide)))) (fr_l (fun _ => fr_N.P (fn_getf (by decide))))) (fr_b (fr_l (fun _ => fr_N.P (fn_load (by decide)))) (fr_b (fr_l (fun _ => fr_N.P (fn_ald (by decide) (by decide)))) (fr_l (fun _ => fp_call hc rfl (by decide)))))) (fr_b (fr_b (fr_l (fun _ => fr_N.P (fn_if (by decide) (by decide)))) (fr_l (fun _ => fr_N.P (fn_goto (by decide))))) (fr_b (fr_l (fun _ => fr_N.P (fn_load (by decide)))) (fr_b (fr_l (fun _ => fr_N.P (fn_load (by decide)))) (fr_l (fun _ => fr_N.P (fn_load (by decide))))))))) (fr_b (fr_b (fr_b (fr_b (fr_l (fun _ => fr_N.P (fn_getf (by decide)))) (fr_l (fun _ => fr_N.P (fn_load (by decide))))) (fr_b (fr_l (fun _ => fr_N.P (fn_ald (by decide) (by decide)))) (fr_b (fr_l (fun _ => fp_call hc rfl (by decide))) (fr_l (fun _ => fr_N.P (fn_iinc (by decide))))))) (fr_b (fr_b (fr_l (fun _ => fr_N.P (fn_iinc (by decide)))) (fr_l (fun _ => fr_N.P (fn_goto (by decide))))) (fr_b (fr_l (fun _ => fr_N.P (fn_load (by decide)))) (fr_b (fr_l (fun _ => fr_N.P (fn_load (by decide)))) (fr_l (fun _ => fr_N.P (fn_push (by decide)))))))) (fr_b (fr_b (fr_b (fr_l (fun _ => fr_N.P (fn_isub (by decide)))) (fr_l (fun _ => fr_N.P (fn_load (by decide))))) (fr_b (fr_l (fun _ => fr_N.P (fn_isub (by decide)))) (fr_b (fr_l (fun _ => fp_putf (by decide) (by decide) rfl)) (fr_l (fun _ => fr_N.P (fn_load (by decide))))))) (fr_b (fr_b (fr_l (fun _ => fr_N.P (fn_push (by decide)))) (fr_b (fr_l (fun _ => fp_putf (by decide) (by decide) rfl)) (fr_l (fun _ => fr_N.P (fn_load (by decide)))))) (fr_b (fr_l (fun _ => fr_N.P (fn_load (by decide)))) (fr_b (fr_l (fun _ => fp_call hc rfl (by decide))) (fr_l (fun _ => fr_N.P (fn_ret (by decide)))))))))))) h
theorem wr_X12_row {g d n : Nat} {t : ix_T} {B : ix_B} {outs : List ix_S} (hk : K2 n t) (e : ix_exec (ix_tbl O) ty_no g (d + 1) 192 [.inr (.inr (.inl 80))] B n t = some outs) : ∀ o ∈ outs, fZr t o.2.2.2.1 o.2.2.2.2.1 := by
  refine gd_ex (Q := fun o => fZr t o.2.2.2.1 o.2.2.2.2.1) (show ix_tbl O 192 = some (ix_cX12_row O, 5) from rfl) (fun c hc => ?_) e
  refine gd_s (r := ix_load ix_isRef 0 1) (by decide) rfl (fun outs e => gp_load e rfl) ?_
  refine gd_s (r := ix_getf 112 17 4) (by decide) rfl (fun outs e => gp_getf e) ?_
  refine gd_s (r := ix_store ix_isInt 1 5) (by decide) rfl (fun outs e => gp_store e) ?_
  refine gd_s (r := ix_load ix_isRef 0 6) (by decide) rfl (fun outs e => gp_load e rfl) ?_
  refine gd_s (r := ix_push 7 (ix_vI 0)) (by decide) rfl (fun outs e => gp_push e) ?_
  refine gd_s (r := ix_putf 112 17 10 ix_isInt) (by decide) rfl (fun outs e => gp_putf e) ?_
  refine gd_fr (Φ := fr_F) (A := fun p : Nat => 10 ≤ p) (fun pc h => fg_X12_row (by rw [hc]; exact fr_all) pc h) (by decide) (fun o ho => ?_)
  obtain ⟨q1, q2, q3⟩ := fr_Y (hk.fld (Or.inr rfl)) ho
  exact ⟨q1, q2.trans tpc_79, q3.trans tpr_79⟩
set_option maxRecDepth 100000 in
theorem fg_X12_reads {c : ix_Call} (hc : fr_C fr_F fr_W c) (pc : Nat) (h : (fun p : Nat => 13 ≤ p) pc) : fr_P fr_F (fun p : Nat => 13 ≤ p) (ix_cX12_reads O c pc) := (show fr_Q fr_F (fun p : Nat => 13 ≤ p) pc (ix_cX12_reads O c pc) from (fr_b (fr_b (fr_b (fr_b (fr_b (fr_l (fun h => absurd h (by decide))) (fr_b (fr_l (fun h => absurd h (by decide))) (fr_l (fun h => absurd h (by decide))))) (fr_b (fr_l (fun h => absurd h (by decide))) (fr_b (fr_l (fun h => absurd h (by decide))) (fr_l (fun h => absurd h (by decide)))))) (fr_b (fr_b (fr_l (fun h => absurd h (by decide))) (fr_b (fr_l (fun _ => fr_N.P (fn_load (by decide)))) (fr_l (fun _ => fr_N.P (fn_push (by decide)))))) (fr_b (fr_b (fr_l (fun _ => fp_putf (by decide) (by decide) rfl)) (fr_l (fun _ => fr_N.P (fn_load (by decide))))) (fr_b (fr_l (fun _ => fr_N.P (fn_push (by decide)))) (fr_l (fun _ => fp_putf (by decide) (by decide) rfl)))))) (fr_b (fr_b (fr_b (fr_l (fun _ => fr_N.P (fn_load (by decide)))) (fr_b (fr_l (fun _ => fr_N.P (fn_push (by decide)))) (fr_l (fun _ => fp_putf (by decide) (by decide) rfl)))) (fr_b (fr_b (fr_l (fun _ => fr_N.P (fn_load (by decide)))) (fr_l (fun _ => fp_call hc rfl (by decide)))) (fr_b (fr_l (fun _ => fr_N.P (fn_push (by decide)))) (fr_l (fun _ => fr_N.P (fn_store (by decide))))))) (fr_b (fr_b (fr_l (fun _ => fr_N.P (fn_load (by decide)))) (fr_b (fr_l (fun _ => fr_N.P (fn_push (by decide)))) (fr_l (fun _ => fp_call hc rfl (by decide))))) (fr_b (fr_b (fr_l (fun _ => fp_call hc rfl (by decide))) (fr_l (fun _ => fr_N.P (fn_if (by decide) (by decide))))) (fr_b (fr_l (fun _ => fr_N.P (fn_load (by decide)))) (fr_l (fun _ => fr_N.P (fn_push (by decide))))))))) (fr_b (fr_b (fr_b (fr_b (fr_l (fun _ => fr_N.P (fn_icmp (by decide) (by decide)))) (fr_b (fr_l (fun _ => fr_N.P (fn_load (by decide)))) (fr_l (fun _ => fp_call hc rfl (by decide))))) (fr_b (fr_l (fun _ => fr_N.P (fn_load (by decide)))) (fr_b (fr_l (fun _ => fp_call hc rfl (by decide))) (fr_l (fun _ => fr_N.P (fn_if (by decide) (by decide))))))) (fr_b (fr_b (fr_l (fun _ => fr_N.P (fn_load (by decide)))) (fr_b (fr_l (fun _ => fp_call hc rfl (by decide))) (fr_l (fun _ => fr_N.P (fn_iinc (by decide)))))) (fr_b (fr_b (fr_l (fun _ => fr_N.P (fn_goto (by decide)))) (fr_l (fun _ => fr_N.P (fn_load (by decide))))) (fr_b (fr_l (fun _ => fp_call hc rfl (by decide))) (fr_l (fun _ => fr_N.P (fn_if (by decide) (by decide)))))))) (fr_b (fr_b (fr_b (fr_l (fun _ => fr_N.P (fn_load (by decide)))) (fr_b (fr_l (fun _ => fr_N.P (fn_getf (by decide)))) (fr_l (fun _ => fr_N.P (fn_load (by decide)))))) (fr_b (fr_b (fr_l (fun _ => fr_N.P (fn_getf (by decide)))) (fr_l (fun _ => fr_N.P (fn_icmp (by decide) (by decide))))) (fr_b (fr_l (fun _ => fr_N.P (fn_load (by decide)))) (fr_l (fun _ => fp_call hc rfl (by decide)))))) (fr_b (fr_b (fr_l (fun _ => fr_N.P (fn_load (by decide)))) (fr_b (fr_l (fun _ => fr_N.P (fn_load (by decide)))) (fr_l (fun _ => fr_N.P (fn_getf (by decide)))))) (fr_b (fr_b (fr_l (fun _ => fp_putf (by decide) (by decide) rfl)) (fr_l (fun _ => fr_N.P (fn_load (by decide))))) (fr_b (fr_l (fun _ => fp_call hc rfl (by decide))) (fr_l (fun _ => fr_N.P (fn_ret (by decide))))))))))) h
theorem wr_X12_reads {g d n : Nat} {t : ix_T} {B : ix_B} {outs : List ix_S} (hk : K2 n t) (e : ix_exec (ix_tbl O) ty_no g (d + 1) 186 [.inr (.inr (.inl 80))] B n t = some outs) : ∀ o ∈ outs, fZr t o.2.2.2.1 o.2.2.2.2.1 := by
  refine gd_ex (Q := fun o => fZr t o.2.2.2.1 o.2.2.2.2.1) (show ix_tbl O 186 = some (ix_cX12_reads O, 2) from rfl) (fun c hc => ?_) e
  refine gd_s (r := ix_load ix_isRef 0 1) (by decide) rfl (fun outs e => gp_load e rfl) ?_
  refine gd_s (r := ix_load ix_isRef 0 2) (by decide) rfl (fun outs e => gp_load e rfl) ?_
  refine gd_s (r := ix_getf 112 17 5) (by decide) rfl (fun outs e => gp_getf e) ?_
  refine gd_call (R := fun n' t' => fY t n' t') (by decide) (show ix_cX12_reads O c 5 = ix_call (ix_rcv 112) c 2 196 0 0 0 0 8 from rfl) rfl (fun outs e o ho => fr_Y hk ((show fr_C fr_F fr_W c by rw [hc]; exact fr_all) _ _ _ _ _ _ rfl e o ho)) (fun B st n' t' w hR => ?_)
  refine gd_s (r := ix_load ix_isRef 0 9) (by decide) rfl (fun outs e => gp_load e rfl) ?_
  refine gd_s (r := ix_push 10 (ix_vI 0)) (by decide) rfl (fun outs e => gp_push e) ?_
  refine gd_s (r := ix_putf 112 17 13 ix_isInt) (by decide) rfl (fun outs e => gp_putf e) ?_
  refine gd_fr (Φ := fr_F) (A := fun p : Nat => 13 ≤ p) (fun pc h => fg_X12_reads (by rw [hc]; exact fr_all) pc h) (by decide) (fun o ho => ?_)
  obtain ⟨q1, q2, q3⟩ := fr_Y (hR.1.fld (Or.inr rfl)) ho
  exact ⟨q1, q2.trans (tpc_79.trans hR.2.1), q3.trans tpr_79⟩
set_option maxRecDepth 100000 in
theorem fg_X12_readsAs {c : ix_Call} (hc : fr_C fr_F fr_W c) (pc : Nat) (h : (fun p : Nat => 39 ≤ p) pc) : fr_P fr_F (fun p : Nat => 39 ≤ p) (ix_cX12_readsAs O c pc) := (show fr_Q fr_F (fun p : Nat => 39 ≤ p) pc (ix_cX12_readsAs O c pc) from (fr_b (fr_b (fr_b (fr_b (fr_l (fun h => absurd h (by decide))) (fr_l (fun h => absurd h (by decide)))) (fr_b (fr_l (fun h => absurd h (by decide))) (fr_b (fr_l (fun h => absurd h (by decide))) (fr_l (fun h => absurd h (by decide)))))) (fr_b (fr_b (fr_l (fun h => absurd h (by decide))) (fr_l (fun h => absurd h (by decide)))) (fr_b (fr_l (fun h => absurd h (by decide))) (fr_b (fr_l (fun h => absurd h (by decide))) (fr_l (fun h => absurd h (by decide))))))) (fr_b (fr_b (fr_b (fr_l (fun h => absurd h (by decide))) (fr_l (fun h => absurd h (by decide)))) (fr_b (fr_l (fun h => absurd h (by decide))) (fr_b (fr_l (fun h => absurd h (by decide))) (fr_l (fun h => absurd h (by decide)))))) (fr_b (fr_b (fr_l (fun h => absurd h (by decide))) (fr_l (fun h => absurd h (by decide)))) (fr_b (fr_l (fun h => absurd h (by decide))) (fr_b (fr_l (fun h => absurd h (by decide))) (fr_l (fun _ => fr_N.P (fn_ret (by decide)))))))))) h
theorem wr_X12_readsAs {g d n : Nat} {t : ix_T} {B : ix_B} {b : ix_V} {outs : List ix_S} (hb : ix_cat2 b = false) (hk : K2 n t) (e : ix_exec (ix_tbl O) ty_no g (d + 1) 187 [.inr (.inr (.inl 80)), b] B n t = some outs) : ∀ o ∈ outs, fZr t o.2.2.2.1 o.2.2.2.2.1 := by
  have ha : ix_args [.inr (.inr (.inl 80)), b] = [some (.inr (.inr (.inl 80))), some b] := by
    show cond (ix_cat2 (.inr (.inr (.inl 80)))) _ (some (.inr (.inr (.inl 80))) :: cond (ix_cat2 b) (some b :: none :: []) (some b :: [])) = _
    rw [hb]
    rfl
  refine gd_ex (Q := fun o => fZr t o.2.2.2.1 o.2.2.2.2.1) (show ix_tbl O 187 = some (ix_cX12_readsAs O, 2) from rfl) (fun c hc => ?_) e
  rw [ha]
  show gd _ 0 (B, [some (.inr (.inr (.inl 80))), some b], [], n, t, 0, 0) _
  refine gd_s (r := ix_load ix_isRef 0 1) (by decide) rfl (fun outs e => gp_load e rfl) ?_
  refine gd_s (r := ix_load ix_isInt 1 2) (by decide) rfl (fun outs e => gp_load e rfl) ?_
  refine gd_s (r := ix_putf 112 14 5 ix_isBit) (by decide) rfl (fun outs e => gp_putf e) ?_
  refine gd_s (r := ix_load ix_isRef 0 6) (by decide) rfl (fun outs e => gp_load e rfl) ?_
  refine gd_s (r := ix_load ix_isInt 1 7) (by decide) rfl (fun outs e => gp_load e rfl) ?_
  have two : ∀ (B : ix_B) (v : ix_V), gd (ix_cX12_readsAs O c) 17 (B, [some (.inr (.inr (.inl 80))), some b], [v, .inr (.inr (.inl 80))], n, pl_fld 79 14 b t, 0, 0) (fun o => fZr t o.2.2.2.1 o.2.2.2.2.1) := fun B v => by
    refine gd_s (r := ix_putf 112 12 20 ix_isInt) (by decide) rfl (fun outs e => gp_putf e) ?_
    refine gd_s (r := ix_load ix_isRef 0 21) (by decide) rfl (fun outs e => gp_load e rfl) ?_
    refine gd_s (r := ix_load ix_isInt 1 22) (by decide) rfl (fun outs e => gp_load e rfl) ?_
    have three : ∀ (B : ix_B) (u : ix_V), gd (ix_cX12_readsAs O c) 32 (B, [some (.inr (.inr (.inl 80))), some b], [u, .inr (.inr (.inl 80))], n, pl_fld 79 12 v (pl_fld 79 14 b t), 0, 0) (fun o => fZr t o.2.2.2.1 o.2.2.2.2.1) := fun B u => by
      refine gd_s (r := ix_putf 112 13 35 ix_isInt) (by decide) rfl (fun outs e => gp_putf e) ?_
      refine gd_s (r := ix_load ix_isRef 0 36) (by decide) rfl (fun outs e => gp_load e rfl) ?_
      refine gd_call (R := fun n' t' => fZr t n' t') (by decide) (show ix_cX12_readsAs O c 36 = ix_call (ix_rcv 112) c 1 186 0 0 0 0 39 from rfl) rfl (fun outs e o ho => ?_) (fun B st n' t' w hR => ?_)
      · rw [hc] at e
        cases d with
        | zero => exact fr_nn e
        | succ d =>
          obtain ⟨q1, q2, q3⟩ := wr_X12_reads (((hk.fld (Or.inr rfl)).fld (Or.inr rfl)).fld (Or.inr rfl)) e o ho
          exact ⟨q1, q2.trans (tpc_79.trans (tpc_79.trans tpc_79)), q3⟩
      · refine gd_fr (Φ := fr_F) (A := fun p : Nat => 39 ≤ p) (fun pc h => fg_X12_readsAs (by rw [hc]; exact fr_all) pc h) (by decide) (fun o ho => ?_)
        obtain ⟨q1, q2, q3⟩ := fr_Y hR.1 ho
        exact ⟨q1, q2.trans hR.2.1, q3.trans hR.2.2⟩
    refine gd_jmp (r := ix_if false false false 30 25) (by decide) rfl rfl (fun B => ?_) (fun B => ?_)
    · first
      | (refine gd_s (r := ix_push 32 (ix_vI 17)) (by decide) rfl (fun outs e => gp_push e) ?_; exact three B _)
      | (refine gd_s (r := ix_push 27 (ix_vI 22)) (by decide) rfl (fun outs e => gp_push e) ?_; refine gd_s (r := ix_goto 32) (by decide) rfl (fun outs e => gp_goto e) ?_; exact three B _)
    · first
      | (refine gd_s (r := ix_push 32 (ix_vI 17)) (by decide) rfl (fun outs e => gp_push e) ?_; exact three B _)
      | (refine gd_s (r := ix_push 27 (ix_vI 22)) (by decide) rfl (fun outs e => gp_push e) ?_; refine gd_s (r := ix_goto 32) (by decide) rfl (fun outs e => gp_goto e) ?_; exact three B _)
  refine gd_jmp (r := ix_if false false false 15 10) (by decide) rfl rfl (fun B => ?_) (fun B => ?_)
  · first
    | (refine gd_s (r := ix_push 17 (ix_vI 8)) (by decide) rfl (fun outs e => gp_push e) ?_; exact two B _)
    | (refine gd_s (r := ix_push 12 (ix_vI 17)) (by decide) rfl (fun outs e => gp_push e) ?_; refine gd_s (r := ix_goto 17) (by decide) rfl (fun outs e => gp_goto e) ?_; exact two B _)
  · first
    | (refine gd_s (r := ix_push 17 (ix_vI 8)) (by decide) rfl (fun outs e => gp_push e) ?_; exact two B _)
    | (refine gd_s (r := ix_push 12 (ix_vI 17)) (by decide) rfl (fun outs e => gp_push e) ?_; refine gd_s (r := ix_goto 17) (by decide) rfl (fun outs e => gp_goto e) ?_; exact two B _)
set_option maxRecDepth 100000 in
theorem fg_X12_orders {c : ix_Call} (hc : fr_C fr_F fr_W c) (pc : Nat) (h : (fun p : Nat => 10 ≤ p) pc) : fr_P fr_F (fun p : Nat => 10 ≤ p) (ix_cX12_orders O c pc) := (show fr_Q fr_F (fun p : Nat => 10 ≤ p) pc (ix_cX12_orders O c pc) from (fr_b (fr_b (fr_b (fr_b (fr_b (fr_b (fr_l (fun h => absurd h (by decide))) (fr_b (fr_l (fun h => absurd h (by decide))) (fr_l (fun h => absurd h (by decide))))) (fr_b (fr_b (fr_l (fun h => absurd h (by decide))) (fr_l (fun h => absurd h (by decide)))) (fr_b (fr_l (fun h => absurd h (by decide))) (fr_l (fun _ => fr_N.P (fn_if (by decide) (by decide))))))) (fr_b (fr_b (fr_l (fun _ => fr_N.P (fn_load (by decide)))) (fr_b (fr_l (fun _ => fr_N.P (fn_push (by decide)))) (fr_l (fun _ => fp_call hc rfl (by decide))))) (fr_b (fr_b (fr_l (fun _ => fr_N.P (fn_ret (by decide)))) (fr_l (fun _ => fr_N.P (fn_push (by decide))))) (fr_b (fr_l (fun _ => fr_N.P (fn_store (by decide)))) (fr_l (fun _ => fr_N.P (fn_load (by decide)))))))) (fr_b (fr_b (fr_b (fr_l (fun _ => fr_N.P (fn_push (by decide)))) (fr_b (fr_l (fun _ => fr_N.P (fn_icmp (by decide) (by decide)))) (fr_l (fun _ => fr_N.P (fn_load (by decide)))))) (fr_b (fr_b (fr_l (fun _ => fr_N.P (fn_getf (by decide)))) (fr_l (fun _ => fr_N.P (fn_load (by decide))))) (fr_b (fr_l (fun _ => fr_N.P (fn_load (by decide)))) (fr_l (fun _ => fr_N.P (fn_getf (by decide))))))) (fr_b (fr_b (fr_b (fr_l (fun _ => fr_N.P (fn_load (by decide)))) (fr_l (fun _ => fr_N.P (fn_iald (by decide) (by decide))))) (fr_b (fr_l (fun _ => fp_ast (by decide) (by decide) (by decide))) (fr_l (fun _ => fr_N.P (fn_iinc (by decide)))))) (fr_b (fr_b (fr_l (fun _ => fr_N.P (fn_goto (by decide)))) (fr_l (fun _ => fr_N.P (fn_push (by decide))))) (fr_b (fr_l (fun _ => fr_N.P (fn_store (by decide)))) (fr_l (fun _ => fr_N.P (fn_load (by decide))))))))) (fr_b (fr_b (fr_b (fr_b (fr_l (fun _ => fr_N.P (fn_push (by decide)))) (fr_b (fr_l (fun _ => fr_N.P (fn_icmp (by decide) (by decide)))) (fr_l (fun _ => fr_N.P (fn_load (by decide)))))) (fr_b (fr_b (fr_l (fun _ => fr_N.P (fn_getf (by decide)))) (fr_l (fun _ => fr_N.P (fn_load (by decide))))) (fr_b (fr_l (fun _ => fr_N.P (fn_load (by decide)))) (fr_l (fun _ => fr_N.P (fn_getf (by decide))))))) (fr_b (fr_b (fr_b (fr_l (fun _ => fr_N.P (fn_load (by decide)))) (fr_l (fun _ => fr_N.P (fn_iald (by decide) (by decide))))) (fr_b (fr_l (fun _ => fp_ast (by decide) (by decide) (by decide))) (fr_l (fun _ => fr_N.P (fn_iinc (by decide)))))) (fr_b (fr_b (fr_l (fun _ => fr_N.P (fn_goto (by decide)))) (fr_l (fun _ => fr_N.P (fn_load (by decide))))) (fr_b (fr_l (fun _ => fr_N.P (fn_getf (by decide)))) (fr_l (fun _ => fr_N.P (fn_store (by decide)))))))) (fr_b (fr_b (fr_b (fr_l (fun _ => fr_N.P (fn_load (by decide)))) (fr_b (fr_l (fun _ => fr_N.P (fn_push (by decide)))) (fr_l (fun _ => fp_call hc rfl (by decide))))) (fr_b (fr_b (fr_l (fun _ => fr_N.P (fn_load (by decide)))) (fr_l (fun _ => fr_N.P (fn_push (by decide))))) (fr_b (fr_l (fun _ => fp_putf (by decide) (by decide) rfl)) (fr_l (fun _ => fr_N.P (fn_load (by decide))))))) (fr_b (fr_b (fr_b (fr_l (fun _ => fr_N.P (fn_push (by decide)))) (fr_l (fun _ => fp_putf (by decide) (by decide) rfl))) (fr_b (fr_l (fun _ => fr_N.P (fn_load (by decide)))) (fr_l (fun _ => fr_N.P (fn_getf (by decide)))))) (fr_b (fr_b (fr_l (fun _ => fr_N.P (fn_load (by decide)))) (fr_l (fun _ => fr_N.P (fn_getf (by decide))))) (fr_b (fr_l (fun _ => fr_N.P (fn_push (by decide)))) (fr_l (fun _ => fr_N.P (fn_iald (by decide) (by decide)))))))))) (fr_b (fr_b (fr_b (fr_b (fr_b (fr_l (fun _ => fr_N.P (fn_iadd (by decide)))) (fr_b (fr_l (fun _ => fr_N.P (fn_store (by decide)))) (fr_l (fun _ => fr_N.P (fn_push (by decide)))))) (fr_b (fr_b (fr_l (fun _ => fr_N.P (fn_store (by decide)))) (fr_l (fun _ => fr_N.P (fn_load (by decide))))) (fr_b (fr_l (fun _ => fr_N.P (fn_getf (by decide)))) (fr_l (fun _ => fr_N.P (fn_load (by decide))))))) (fr_b (fr_b (fr_b (fr_l (fun _ => fr_N.P (fn_icmp (by decide) (by decide)))) (fr_l (fun _ => fr_N.P (fn_load (by decide))))) (fr_b (fr_l (fun _ => fr_N.P (fn_load (by decide)))) (fr_l (fun _ => fp_call hc rfl (by decide))))) (fr_b (fr_b (fr_l (fun _ => fr_N.P (fn_if (by decide) (by decide)))) (fr_l (fun _ => fr_N.P (fn_goto (by decide))))) (fr_b (fr_l (fun _ => fr_N.P (fn_push (by decide)))) (fr_l (fun _ => fr_N.P (fn_store (by decide)))))))) (fr_b (fr_b (fr_b (fr_l (fun _ => fr_N.P (fn_load (by decide)))) (fr_b (fr_l (fun _ => fr_N.P (fn_push (by decide)))) (fr_l (fun _ => fr_N.P (fn_icmp (by decide) (by decide)))))) (fr_b (fr_b (fr_l (fun _ => fr_N.P (fn_load (by decide)))) (fr_l (fun _ => fr_N.P (fn_getf (by decide))))) (fr_b (fr_l (fun _ => fr_N.P (fn_load (by decide)))) (fr_l (fun _ => fr_N.P (fn_load (by decide))))))) (fr_b (fr_b (fr_b (fr_l (fun _ => fr_N.P (fn_getf (by decide)))) (fr_l (fun _ => fr_N.P (fn_load (by decide))))) (fr_b (fr_l (fun _ => fr_N.P (fn_iald (by decide) (by decide)))) (fr_l (fun _ => fp_ast (by decide) (by decide) (by decide))))) (fr_b (fr_b (fr_l (fun _ => fr_N.P (fn_iinc (by decide)))) (fr_l (fun _ => fr_N.P (fn_goto (by decide))))) (fr_b (fr_l (fun _ => fr_N.P (fn_push (by decide)))) (fr_l (fun _ => fr_N.P (fn_store (by decide))))))))) (fr_b (fr_b (fr_b (fr_b (fr_l (fun _ => fr_N.P (fn_load (by decide)))) (fr_b (fr_l (fun _ => fr_N.P (fn_push (by decide)))) (fr_l (fun _ => fr_N.P (fn_icmp (by decide) (by decide)))))) (fr_b (fr_b (fr_l (fun _ => fr_N.P (fn_load (by decide)))) (fr_l (fun _ => fr_N.P (fn_getf (by decide))))) (fr_b (fr_l (fun _ => fr_N.P (fn_load (by decide)))) (fr_l (fun _ => fr_N.P (fn_load (by decide))))))) (fr_b (fr_b (fr_b (fr_l (fun _ => fr_N.P (fn_getf (by decide)))) (fr_l (fun _ => fr_N.P (fn_load (by decide))))) (fr_b (fr_l (fun _ => fr_N.P (fn_iald (by decide) (by decide)))) (fr_l (fun _ => fp_ast (by decide) (by decide) (by decide))))) (fr_b (fr_b (fr_l (fun _ => fr_N.P (fn_iinc (by decide)))) (fr_l (fun _ => fr_N.P (fn_goto (by decide))))) (fr_b (fr_l (fun _ => fr_N.P (fn_load (by decide)))) (fr_l (fun _ => fr_N.P (fn_load (by decide)))))))) (fr_b (fr_b (fr_b (fr_l (fun _ => fp_putf (by decide) (by decide) rfl)) (fr_b (fr_l (fun _ => fr_N.P (fn_load (by decide)))) (fr_l (fun _ => fr_N.P (fn_load (by decide)))))) (fr_b (fr_b (fr_l (fun _ => fp_putf (by decide) (by decide) rfl)) (fr_l (fun _ => fr_N.P (fn_load (by decide))))) (fr_b (fr_l (fun _ => fr_N.P (fn_push (by decide)))) (fr_l (fun _ => fp_call hc rfl (by decide)))))) (fr_b (fr_b (fr_b (fr_l (fun _ => fr_N.P (fn_ret (by decide)))) (fr_l (fun _ => fr_N.P (fn_iinc (by decide))))) (fr_b (fr_l (fun _ => fr_N.P (fn_goto (by decide)))) (fr_l (fun _ => fr_N.P (fn_load (by decide)))))) (fr_b (fr_b (fr_l (fun _ => fr_N.P (fn_load (by decide)))) (fr_l (fun _ => fr_N.P (fn_getf (by decide))))) (fr_b (fr_l (fun _ => fp_call hc rfl (by decide))) (fr_l (fun _ => fr_N.P (fn_ret (by decide)))))))))))) h
theorem wr_X12_orders {g d n : Nat} {t : ix_T} {B : ix_B} {outs : List ix_S} (hk : K2 n t) (e : ix_exec (ix_tbl O) ty_no g (d + 1) 163 [.inr (.inr (.inl 80))] B n t = some outs) : ∀ o ∈ outs, fZr t o.2.2.2.1 o.2.2.2.2.1 := by
  refine gd_ex (Q := fun o => fZr t o.2.2.2.1 o.2.2.2.2.1) (show ix_tbl O 163 = some (ix_cX12_orders O, 5) from rfl) (fun c hc => ?_) e
  refine gd_s (r := ix_load ix_isRef 0 1) (by decide) rfl (fun outs e => gp_load e rfl) ?_
  refine gd_s (r := ix_push 2 (ix_vI 4294967295)) (by decide) rfl (fun outs e => gp_push e) ?_
  refine gd_s (r := ix_putf 112 49 5 ix_isInt) (by decide) rfl (fun outs e => gp_putf e) ?_
  refine gd_s (r := ix_load ix_isRef 0 6) (by decide) rfl (fun outs e => gp_load e rfl) ?_
  refine gd_s (r := ix_push 7 (ix_vI 1)) (by decide) rfl (fun outs e => gp_push e) ?_
  refine gd_call (R := fun n' t' => fZr t n' t') (by decide) (show ix_cX12_orders O c 7 = ix_call (ix_rcv 112) c 2 187 0 0 0 0 10 from rfl) rfl (fun outs e o ho => ?_) (fun B st n' t' w hR => ?_)
  · rw [hc] at e
    cases d with
    | zero => exact fr_nn e
    | succ d =>
      obtain ⟨q1, q2, q3⟩ := wr_X12_readsAs rfl (hk.fld (Or.inr rfl)) e o ho
      exact ⟨q1, q2.trans tpc_79, q3⟩
  · refine gd_fr (Φ := fr_F) (A := fun p : Nat => 10 ≤ p) (fun pc h => fg_X12_orders (by rw [hc]; exact fr_all) pc h) (by decide) (fun o ho => ?_)
    obtain ⟨q1, q2, q3⟩ := fr_Y hR.1 ho
    exact ⟨q1, q2.trans hR.2.1, q3.trans hR.2.2⟩
set_option maxRecDepth 100000 in
theorem fg_X12_law {c : ix_Call} (hc : fr_C fr_F fr_W c) (pc : Nat) (h : (fun p : Nat => 30 ≤ p) pc) : fr_P fr_F (fun p : Nat => 30 ≤ p) (ix_cX12_law O c pc) := (show fr_Q fr_F (fun p : Nat => 30 ≤ p) pc (ix_cX12_law O c pc) from (fr_b (fr_b (fr_b (fr_b (fr_b (fr_l (fun h => absurd h (by decide))) (fr_l (fun h => absurd h (by decide)))) (fr_b (fr_l (fun h => absurd h (by decide))) (fr_b (fr_l (fun h => absurd h (by decide))) (fr_l (fun h => absurd h (by decide)))))) (fr_b (fr_b (fr_l (fun h => absurd h (by decide))) (fr_b (fr_l (fun h => absurd h (by decide))) (fr_l (fun h => absurd h (by decide))))) (fr_b (fr_l (fun h => absurd h (by decide))) (fr_b (fr_l (fun h => absurd h (by decide))) (fr_l (fun h => absurd h (by decide))))))) (fr_b (fr_b (fr_b (fr_l (fun h => absurd h (by decide))) (fr_l (fun h => absurd h (by decide)))) (fr_b (fr_l (fun h => absurd h (by decide))) (fr_b (fr_l (fun h => absurd h (by decide))) (fr_l (fun h => absurd h (by decide)))))) (fr_b (fr_b (fr_l (fun _ => fr_N.P (fn_if (by decide) (by decide)))) (fr_b (fr_l (fun _ => fr_N.P (fn_load (by decide)))) (fr_l (fun _ => fr_N.P (fn_push (by decide)))))) (fr_b (fr_l (fun _ => fp_call hc rfl (by decide))) (fr_b (fr_l (fun _ => fr_N.P (fn_ret (by decide)))) (fr_l (fun _ => fr_N.P (fn_load (by decide))))))))) (fr_b (fr_b (fr_b (fr_b (fr_l (fun _ => fr_N.P (fn_load (by decide)))) (fr_l (fun _ => fr_N.P (fn_getf (by decide))))) (fr_b (fr_l (fun _ => fr_N.P (fn_push (by decide)))) (fr_b (fr_l (fun _ => fr_N.P (fn_iald (by decide) (by decide)))) (fr_l (fun _ => fp_call hc rfl (by decide)))))) (fr_b (fr_b (fr_l (fun _ => fr_N.P (fn_load (by decide)))) (fr_b (fr_l (fun _ => fr_N.P (fn_getf (by decide)))) (fr_l (fun _ => fr_N.P (fn_push (by decide)))))) (fr_b (fr_l (fun _ => fr_N.P (fn_dup2 (by decide)))) (fr_b (fr_l (fun _ => fr_N.P (fn_iald (by decide) (by decide)))) (fr_l (fun _ => fr_N.P (fn_push (by decide)))))))) (fr_b (fr_b (fr_b (fr_l (fun _ => fr_N.P (fn_iadd (by decide)))) (fr_l (fun _ => fp_ast (by decide) (by decide) (by decide)))) (fr_b (fr_l (fun _ => fr_N.P (fn_load (by decide)))) (fr_b (fr_l (fun _ => fr_N.P (fn_load (by decide)))) (fr_l (fun _ => fr_N.P (fn_getf (by decide))))))) (fr_b (fr_b (fr_l (fun _ => fr_N.P (fn_push (by decide)))) (fr_b (fr_l (fun _ => fr_N.P (fn_iald (by decide) (by decide)))) (fr_l (fun _ => fr_N.P (fn_push (by decide)))))) (fr_b (fr_l (fun _ => fr_N.P (fn_isub (by decide)))) (fr_b (fr_l (fun _ => fp_call hc rfl (by decide))) (fr_l (fun _ => fr_N.P (fn_ret (by decide))))))))))) h
set_option maxRecDepth 100000 in
theorem fh_X12_law {c : ix_Call} (hc : fr_C fr_F fr_W c) (pc : Nat) (h : (fun p : Nat => (18 ≤ p ∧ p ≤ 24) ∨ p = 99999) pc) : fr_P fr_F (fun p : Nat => (18 ≤ p ∧ p ≤ 24) ∨ p = 99999) (ix_cX12_law O c pc) := (show fr_Q fr_F (fun p : Nat => (18 ≤ p ∧ p ≤ 24) ∨ p = 99999) pc (ix_cX12_law O c pc) from (fr_b (fr_b (fr_b (fr_b (fr_b (fr_l (fun h => absurd h (by decide))) (fr_l (fun h => absurd h (by decide)))) (fr_b (fr_l (fun h => absurd h (by decide))) (fr_b (fr_l (fun h => absurd h (by decide))) (fr_l (fun h => absurd h (by decide)))))) (fr_b (fr_b (fr_l (fun h => absurd h (by decide))) (fr_b (fr_l (fun h => absurd h (by decide))) (fr_l (fun h => absurd h (by decide))))) (fr_b (fr_l (fun h => absurd h (by decide))) (fr_b (fr_l (fun _ => fr_N.P (fn_load (by decide)))) (fr_l (fun _ => fr_N.P (fn_push (by decide)))))))) (fr_b (fr_b (fr_b (fr_l (fun _ => fp_call hc rfl (by decide))) (fr_l (fun _ => fr_N.P (fn_ret (by decide))))) (fr_b (fr_l (fun h => absurd h (by decide))) (fr_b (fr_l (fun h => absurd h (by decide))) (fr_l (fun h => absurd h (by decide)))))) (fr_b (fr_b (fr_l (fun h => absurd h (by decide))) (fr_b (fr_l (fun h => absurd h (by decide))) (fr_l (fun h => absurd h (by decide))))) (fr_b (fr_l (fun h => absurd h (by decide))) (fr_b (fr_l (fun h => absurd h (by decide))) (fr_l (fun h => absurd h (by decide)))))))) (fr_b (fr_b (fr_b (fr_b (fr_l (fun h => absurd h (by decide))) (fr_l (fun h => absurd h (by decide)))) (fr_b (fr_l (fun h => absurd h (by decide))) (fr_b (fr_l (fun h => absurd h (by decide))) (fr_l (fun h => absurd h (by decide)))))) (fr_b (fr_b (fr_l (fun h => absurd h (by decide))) (fr_b (fr_l (fun h => absurd h (by decide))) (fr_l (fun h => absurd h (by decide))))) (fr_b (fr_l (fun h => absurd h (by decide))) (fr_b (fr_l (fun h => absurd h (by decide))) (fr_l (fun h => absurd h (by decide))))))) (fr_b (fr_b (fr_b (fr_l (fun h => absurd h (by decide))) (fr_l (fun h => absurd h (by decide)))) (fr_b (fr_l (fun h => absurd h (by decide))) (fr_b (fr_l (fun h => absurd h (by decide))) (fr_l (fun h => absurd h (by decide)))))) (fr_b (fr_b (fr_l (fun h => absurd h (by decide))) (fr_b (fr_l (fun h => absurd h (by decide))) (fr_l (fun h => absurd h (by decide))))) (fr_b (fr_l (fun h => absurd h (by decide))) (fr_b (fr_l (fun h => absurd h (by decide))) (fr_l (fun h => absurd h (by decide)))))))))) h
theorem wr_X12_law {g d n : Nat} {t : ix_T} {B : ix_B} {outs : List ix_S} (hk : K2 n t) (e : ix_exec (ix_tbl O) ty_no g (d + 1) 144 [.inr (.inr (.inl 80))] B n t = some outs) : ∀ o ∈ outs, fZr t o.2.2.2.1 o.2.2.2.2.1 := by
  refine gd_ex (Q := fun o => fZr t o.2.2.2.1 o.2.2.2.2.1) (show ix_tbl O 144 = some (ix_cX12_law O, 1) from rfl) (fun c hc => ?_) e
  refine gd_s (r := ix_load ix_isRef 0 1) (by decide) rfl (fun outs e => gp_load e rfl) ?_
  refine gd_s (r := ix_getf 112 3 4) (by decide) rfl (fun outs e => gp_getf e) ?_
  refine gd_s (r := ix_push 7 (ix_vI 191)) (by decide) rfl (fun outs e => gp_push e) ?_
  refine gd_iald (by decide) (show ix_cX12_law O c 7 = ix_iald O 7 8 from rfl) ⟨_, rfl⟩ (fun v => ?_)
  refine gd_s (r := ix_push 10 (ix_vI 6)) (by decide) rfl (fun outs e => gp_push e) ?_
  have yes : ∀ B, gd (ix_cX12_law O c) 13 (B, [some (.inr (.inr (.inl 80)))], [], n, t, 0, 0) (fun o => fZr t o.2.2.2.1 o.2.2.2.2.1) := fun B => by
    refine gd_s (r := ix_load ix_isRef 0 14) (by decide) rfl (fun outs e => gp_load e rfl) ?_
    refine gd_s (r := ix_push 15 (ix_vI 0)) (by decide) rfl (fun outs e => gp_push e) ?_
    refine gd_s (r := ix_putf 112 17 18 ix_isInt) (by decide) rfl (fun outs e => gp_putf e) ?_
    refine gd_fr (Φ := fr_F) (A := fun p : Nat => (18 ≤ p ∧ p ≤ 24) ∨ p = 99999) (fun pc h => fh_X12_law (by rw [hc]; exact fr_all) pc h) (by decide) (fun o ho => ?_)
    obtain ⟨q1, q2, q3⟩ := fr_Y (hk.fld (Or.inr rfl)) ho
    exact ⟨q1, q2.trans tpc_79, q3.trans tpr_79⟩
  have no : ∀ B, gd (ix_cX12_law O c) 25 (B, [some (.inr (.inr (.inl 80)))], [], n, t, 0, 0) (fun o => fZr t o.2.2.2.1 o.2.2.2.2.1) := fun B => by
    refine gd_s (r := ix_load ix_isRef 0 26) (by decide) rfl (fun outs e => gp_load e rfl) ?_
    refine gd_s (r := ix_push 27 (ix_vI 0)) (by decide) rfl (fun outs e => gp_push e) ?_
    refine gd_call (R := fun n' t' => fZr t n' t') (by decide) (show ix_cX12_law O c 27 = ix_call (ix_rcv 112) c 2 187 0 0 0 0 30 from rfl) rfl (fun outs e o ho => ?_) (fun B st n' t' w hR => ?_)
    · rw [hc] at e
      cases d with
      | zero => exact fr_nn e
      | succ d =>
        obtain ⟨q1, q2, q3⟩ := wr_X12_readsAs rfl hk e o ho
        exact ⟨q1, q2, q3⟩
    · refine gd_fr (Φ := fr_F) (A := fun p : Nat => 30 ≤ p) (fun pc h => fg_X12_law (by rw [hc]; exact fr_all) pc h) (by decide) (fun o ho => ?_)
      obtain ⟨q1, q2, q3⟩ := fr_Y hR.1 ho
      exact ⟨q1, q2.trans hR.2.1, q3.trans hR.2.2⟩
  refine gd_jmp (r := ix_icmp false true false 25 13) (by decide) rfl rfl (fun B => ?_) (fun B => ?_)
  · first
    | exact yes B
    | exact no B
  · first
    | exact yes B
    | exact no B
end FRW
