/-! more instructions of the typed machine: increments, parts and rests, switches, splits -/
section TYM
variable {h : ty_H} {cp : Nat × Nat} {pc : Nat}
noncomputable def ty_iinc (i k nx : Nat) : ty_S → ty_R
  | (W, L, st, w) => match L[i]? with
    | some (some v) => cond (ty_isI v) (match ty_add W.1 (ty_nz W.1 v) (.inl (ty_kp k)) with
      | some (r, A) => some [(nx, ((A, W.2), (ix_clr L i).set i (some r), st, w))]
      | none => none) none
    | _ => none
theorem ts_iinc {i k nx : Nat} (hk : k < 4294967296) : ty_sd h cp pc (fun _ => ix_iinc i k nx) (ty_iinc i k nx) := by
  intro S outs hf σ C hi
  obtain ⟨W, L, st, w⟩ := S
  obtain ⟨ls, stk, n, t, ce, sl⟩ := C
  unfold ty_iinc at hf
  dsimp only at hf
  split at hf
  · rename_i v hv
    cases ho : ty_isI v with
    | false => rw [ho] at hf; cases hf
    | true =>
      rw [ho] at hf
      dsimp only [cond_true] at hf
      split at hf
      · rename_i r A hr
        cases hf
        obtain ⟨x, x1, x2⟩ := hi.2.1.2 i v hv
        obtain ⟨m, rfl, hm⟩ := x2.toint ho
        obtain ⟨s, s1, s2, s3, s4⟩ := ty_add_ok σ.1 W.1 A _ _ m k r hi.1.1 (ty_nz_ok hi.1.1 hm) ⟨hk, rfl⟩ hr
        obtain ⟨B, W2⟩ := W
        obtain ⟨g1, g2, g3⟩ := ty_wk.boxes hi.1 s1 s2 s3
        refine ty_sd1 g3 g2 (C' := ((ix_clr ls i).set i (some (.inl (ix_add m k))), stk, n, t, ce, sl)) ⟨g1, (hi.2.1.ag g2 g3.k).set (ty_rv.int s4), hi.2.2.1.ag g2 g3.k, hi.2.2.2⟩ (fun g => ?_)
        show ix_iinc i k nx ([], ls, stk, n, t, ce, sl) = _
        unfold ix_iinc
        dsimp only
        rw [x1]
        rfl
      · cases hf
  · cases hf
/-- a part or a rest: what it is divided by isn't 0 -/
noncomputable def ty_n0 (A : ty_A) (v : ix_V) : Bool := Nat.blt 4294967296 (ty_rng A v).1 || Nat.blt (ty_rng A v).2 4294967296
noncomputable def ty_idv (o : ty_A → ix_V → ix_V → Option (ix_V × ty_A)) (nx : Nat) : ty_S → ty_R
  | (W, L, b :: a :: st, w) => cond (ty_n0 W.1 b) (ty_i2 o nx (W, L, b :: a :: st, w)) none
  | _ => none
theorem ts_idiv {op : Nat → Nat → Nat} {o : ty_A → ix_V → ix_V → Option (ix_V × ty_A)} (ho : ty_op2 op o) {p nx : Nat} : ty_sd h cp pc (fun _ => ix_idiv op p nx) (ty_idv o nx) := by
  intro S outs hs σ C hi
  obtain ⟨W, L, st, w⟩ := S
  obtain ⟨ls, stk, n, t, ce, sl⟩ := C
  rcases st with _ | ⟨b, _ | ⟨a, st⟩⟩
  · cases hs
  · cases hs
  · change cond (ty_n0 W.1 b) (ty_i2 o nx (W, L, b :: a :: st, w)) none = _ at hs
    cases hc : ty_n0 W.1 b with
    | false => rw [hc] at hs; cases hs
    | true =>
      rw [hc] at hs
      dsimp only [cond_true] at hs
      have hs2 : ty_i2 o nx (W, L, b :: a :: st, w) = some outs := hs
      change cond (ty_isI a && ty_isI b) (match o W.1 (ty_nz W.1 a) (ty_nz W.1 b) with
    | some (v, A) => some [(nx, ((A, W.2), L, v :: st, w))]
    | none => none) none = _ at hs
      cases hd : (ty_isI a && ty_isI b) with
      | false => rw [hd] at hs; cases hs
      | true =>
        rw [hd] at hs
        dsimp only [cond_true] at hs
        have c1 := Bool.and_eq_true_iff.mp hd
        split at hs
        · rename_i v A hv
          cases hs
          obtain ⟨x, stk', e, x2, x3⟩ := ty_vs_1 hi.2.2.1
          obtain ⟨y, stk2, e2, y2, y3⟩ := ty_vs_1 x3
          have e' : stk = x :: y :: stk2 := by rw [← e2]; exact e
          subst e'
          obtain ⟨nb, rfl, hb⟩ := x2.toint c1.2
          obtain ⟨na, rfl, ha⟩ := y2.toint c1.1
          have r : (ty_rng W.1 b).1 ≤ ty_kp nb ∧ ty_kp nb ≤ (ty_rng W.1 b).2 := ty_rng_ok hi.1.1 hb
          have nz : Nat.beq nb 0 = false := ix_beq_f.mpr (fun e9 => by
            rw [e9] at r
            have k0 : ty_kp 0 = 4294967296 := rfl
            rcases (Bool.or_eq_true _ _).mp hc with q | q
            · have := ix_blt.mp q; omega
            · have := ix_blt.mp q; omega)
          obtain ⟨s, s1, s2, s3, s4⟩ := ho σ.1 W.1 A _ _ na nb v hi.1.1 (ty_nz_ok hi.1.1 ha) (ty_nz_ok hi.1.1 hb) hv
          obtain ⟨B, W2⟩ := W
          obtain ⟨g1, g2, g3⟩ := ty_wk.boxes hi.1 s1 s2 s3
          refine ty_sd1 g3 g2 (C' := (ls, .inl (op na nb) :: stk2, n, t, ce, sl)) ⟨g1, hi.2.1.ag g2 g3.k, ⟨ty_rv.int s4, y3.ag g2 g3.k⟩, hi.2.2.2.ag g2⟩ (fun g => ?_)
          show cond (Nat.beq nb 0) none (some [(nx, ([], ls, ix_vI (op na nb) :: stk2, n, t, ce, sl))]) = _
          rw [nz]
          rfl
        · cases hs
/-- one int makes another -/
noncomputable def ty_i1 (o : ty_A → ix_V → Option (ix_V × ty_A)) (nx : Nat) : ty_S → ty_R
  | (W, L, a :: st, w) => cond (ty_isI a) (match o W.1 (ty_nz W.1 a) with
    | some (v, A) => some [(nx, ((A, W.2), L, v :: st, w))]
    | none => none) none
  | _ => none
theorem ts_i1 {o : ty_A → ix_V → Option (ix_V × ty_A)} {op : Nat → Nat} (ho : ty_op1 op o) {nx : Nat} : ty_sd h cp pc (fun _ => ix_iun op nx) (ty_i1 o nx) := by
  intro S outs hs σ C hi
  obtain ⟨W, L, st, w⟩ := S
  obtain ⟨ls, stk, n, t, ce, sl⟩ := C
  rcases st with _ | ⟨a, st⟩
  · cases hs
  · change cond (ty_isI a) (match o W.1 (ty_nz W.1 a) with
    | some (v, A) => some [(nx, ((A, W.2), L, v :: st, w))]
    | none => none) none = _ at hs
    cases hc : ty_isI a with
    | false => rw [hc] at hs; cases hs
    | true =>
      rw [hc] at hs
      dsimp only [cond_true] at hs
      split at hs
      · rename_i v A hv
        cases hs
        obtain ⟨x, stk', e, x2, x3⟩ := ty_vs_1 hi.2.2.1
        have e' : stk = x :: stk' := e
        subst e'
        obtain ⟨na, rfl, ha⟩ := x2.toint hc
        obtain ⟨s, s1, s2, s3, s4⟩ := ho σ.1 W.1 A _ na v hi.1.1 (ty_nz_ok hi.1.1 ha) hv
        obtain ⟨B, W2⟩ := W
        obtain ⟨g1, g2, g3⟩ := ty_wk.boxes hi.1 s1 s2 s3
        exact ty_sd1 g3 g2 (C' := (ls, .inl (op na) :: stk', n, t, ce, sl)) ⟨g1, hi.2.1.ag g2 g3.k, ⟨ty_rv.int s4, x3.ag g2 g3.k⟩, hi.2.2.2⟩ (fun g => rfl)
      · cases hs
/-- what is known is made; else between two numbers -/
noncomputable def ty_un (f : Nat → Nat) (lo hi : Nat) (A : ty_A) (a : ix_V) : Option (ix_V × ty_A) := match a with
  | .inl p => some (.inl (ty_kp (f (Nat.mod p 4294967296))), A)
  | _ => ty_fr lo hi A
theorem ty_un_ok {f : Nat → Nat} {lo hi : Nat} (hf : ∀ m, m < 4294967296 → f m < 4294967296 ∧ lo ≤ ty_kp (f m) ∧ ty_kp (f m) ≤ hi) : ty_op1 f (ty_un f lo hi) := by
  intro σ A A' a m v hA ha he
  have hm := hf m ha.1
  rcases a with p | a | a | ⟨x, c⟩
  · cases he
    refine ty_keep hA ⟨hm.1, ?_⟩
    show ty_kp (f (p % 4294967296)) = _
    rw [ty_lit ha]
  · exact ha.2.elim
  · exact ha.2.elim
  · exact ty_fr_ok hA he hm.1 hm.2.1 hm.2.2
theorem ty_s1_ok (f : Int32 → Int32) : ty_op1 (ix_s1 f) (ty_un (ix_s1 f) 2147483648 6442450943) := ty_un_ok (fun m _ => ⟨(f (Int32.ofNat m)).toBitVec.isLt, ty_kp_lo _, by have := ty_kp_hi (ix_s1 f m); omega⟩)
theorem ty_s2_lt (f : Int32 → Int32 → Int32) (m n : Nat) : ix_s2 f m n < 4294967296 := (f (Int32.ofNat m) (Int32.ofNat n)).toBitVec.isLt
theorem ty_s2_ok (f : Int32 → Int32 → Int32) : ty_op2 (ix_s2 f) (ty_bin (ix_s2 f) ty_gno) := ty_bin_ok (fun m n _ _ => ty_s2_lt f m n) (ty_gno_ok _)
theorem ty_land_lt (m n : Nat) (hm : m < 4294967296) : Nat.land m n < 4294967296 := Nat.lt_of_le_of_lt Nat.and_le_left hm
theorem ty_and_ok : ty_op2 Nat.land (ty_bin Nat.land ty_gand) := ty_bin_ok (fun m n hm _ => ty_land_lt m n hm) ty_gand_ok
theorem ty_or_ok : ty_op2 Nat.lor (ty_bin Nat.lor ty_gor) := ty_bin_ok (fun m n hm hn => Nat.or_lt_two_pow (n := 32) hm hn) ty_gor_ok
theorem ty_xor_ok : ty_op2 Nat.xor (ty_bin Nat.xor ty_gor) := ty_bin_ok (fun m n hm hn => Nat.xor_lt_two_pow (n := 32) hm hn) ty_gxor_ok
theorem ty_mul_ok : ty_op2 ix_mul (ty_bin ix_mul ty_gmul) := ty_bin_ok (fun m n _ _ => ix_mul_lt m n) ty_gmul_ok
theorem ty_div_lt (m n : Nat) (hm : m < 4294967296) : ix_div m n < 4294967296 := by
  unfold ix_div
  cases hc : (Nat.blt m ix_h32 && Nat.blt n ix_h32) with
  | true => exact Nat.lt_of_le_of_lt (Nat.div_le_self _ _) hm
  | false => exact ty_s2_lt _ m n
theorem ty_rem_lt (m n : Nat) (hm : m < 4294967296) : ix_rem m n < 4294967296 := by
  unfold ix_rem
  cases hc : (Nat.blt m ix_h32 && Nat.blt n ix_h32) with
  | true => exact Nat.lt_of_le_of_lt (Nat.mod_le _ _) hm
  | false => exact ty_s2_lt (fun x y => x - x / y * y) m n
theorem ty_div_ok : ty_op2 ix_div (ty_bin ix_div ty_gdiv) := ty_bin_ok (fun m n hm _ => ty_div_lt m n hm) ty_gdiv_ok
theorem ty_rem_ok : ty_op2 ix_rem (ty_bin ix_rem ty_grem) := ty_bin_ok (fun m n hm _ => ty_rem_lt m n hm) ty_grem_ok
/-- switches -/
noncomputable def ty_sw (cs : List (Nat × Nat)) (dflt : Nat) : ty_S → ty_R
  | (W, L, a :: st, w) => cond (ty_isI a) (some ((cs.filterMap (fun q => (ty_bset W.1 a (ty_kp q.1) (ty_kp q.1)).map (fun A => (q.2, ((A, W.2), L, st, w))))) ++ [(dflt, (W, L, st, w))])) none
  | _ => none
theorem ts_sw {cs : List (Nat × Nat)} {dflt p : Nat} : ty_sd h cp pc (fun _ => ix_sw cs dflt p) (ty_sw cs dflt) := by
  intro S outs hs σ C hi
  obtain ⟨W, L, st, w⟩ := S
  obtain ⟨ls, stk, n, t, ce, sl⟩ := C
  rcases st with _ | ⟨a, st⟩
  · cases hs
  · change cond (ty_isI a) _ none = _ at hs
    cases hc : ty_isI a with
    | false => rw [hc] at hs; cases hs
    | true =>
      rw [hc] at hs
      dsimp only [cond_true] at hs
      have ho := Option.some.inj hs
      obtain ⟨x, stk', e, x2, x3⟩ := ty_vs_1 hi.2.2.1
      have e' : stk = x :: stk' := e
      subst e'
      obtain ⟨m, rfl, hm⟩ := x2.toint hc
      have hstep : ∀ g : Nat, ix_sw cs dflt p ([], ls, .inl m :: stk', n, t, ce, sl) = some [((cs.find? (fun q => Nat.beq q.1 m)).elim dflt (fun q => q.2), ([], ls, stk', n, t, ce, sl))] := fun _ => rfl
      cases hfd : cs.find? (fun q => Nat.beq q.1 m) with
      | none =>
        refine ⟨(dflt, (W, L, st, w)), by rw [← ho]; exact List.mem_append.mpr (Or.inr List.mem_cons_self), σ, (ls, stk', n, t, ce, sl), ty_mo.rf, ty_agr.rf, ⟨hi.1, hi.2.1, x3, hi.2.2.2⟩, Or.inr ⟨0, fun g _ => ?_⟩⟩
        show ix_sw cs dflt p ([], ls, .inl m :: stk', n, t, ce, sl) = _
        rw [hstep g, hfd]
        rfl
      | some q =>
        have q1 : Nat.beq q.1 m = true := List.find?_some (p := fun q : Nat × Nat => Nat.beq q.1 m) hfd
        have q2 : q ∈ cs := List.mem_of_find?_eq_some hfd
        have qe := ix_beq.mp q1
        obtain ⟨A', b1, b2, b3⟩ := ty_bset_ok (lo := ty_kp q.1) (hi := ty_kp q.1) hi.1.1 hm (by rw [qe]; exact Nat.le_refl _) (by rw [qe]; exact Nat.le_refl _)
        obtain ⟨B, W2⟩ := W
        have kk : ty_k h (A', W2) = ty_k h (B, W2) := by show (A'.1, _) = (B.1, _); rw [show A'.1 = B.1 from b2]
        refine ⟨(q.2, ((A', W2), L, st, w)), ?_, σ, (ls, stk', n, t, ce, sl), ty_mo_k kk, ty_agr.rf, ty_in.cd (ty_wk.set hi.1 b2 b3) kk hi.2.1 x3 hi.2.2.2, Or.inr ⟨0, fun g _ => ?_⟩⟩
        · rw [← ho]
          refine List.mem_append.mpr (Or.inl (List.mem_filterMap.mpr ⟨q, q2, ?_⟩))
          have b1' : ty_bset B a (ty_kp q.1) (ty_kp q.1) = some A' := b1
          show (ty_bset B a (ty_kp q.1) (ty_kp q.1)).map _ = _
          rw [b1']
          rfl
        · show ix_sw cs dflt p ([], ls, .inl m :: stk', n, t, ce, sl) = _
          rw [hstep g, hfd]
          rfl
/-- a small symbol, value by value -/
noncomputable def ty_each (A : ty_A) (x : Nat) : Nat → Nat → List ty_A
  | _, 0 => []
  | lo, k + 1 => (A.1, ix_u 8 A.2 x (lo, lo)) :: ty_each A x (lo + 1) k
theorem ty_each_mem (A : ty_A) (x : Nat) : ∀ (k lo j : Nat), lo ≤ j → j < lo + k → (A.1, ix_u 8 A.2 x (j, j)) ∈ ty_each A x lo k
  | 0, lo, j, h1, h2 => by omega
  | k + 1, lo, j, h1, h2 => by
    show _ ∈ (A.1, ix_u 8 A.2 x (lo, lo)) :: ty_each A x (lo + 1) k
    by_cases e : lo = j
    · subst e; exact List.mem_cons_self
    · exact List.mem_cons_of_mem _ (ty_each_mem A x k (lo + 1) j (by omega) (by omega))
noncomputable def ty_spv (lim pc : Nat) (S : ty_S) (v : ix_V) (els : ty_R) : ty_R := match v with
  | .inr (.inr (.inr (x, _))) => (match ix_g S.1.1.2 x with
    | (lo, hi) => cond (Nat.blt lo hi && (Nat.ble (Nat.sub hi lo) lim && Nat.blt x S.1.1.1)) (some ((ty_each S.1.1 x lo (Nat.succ (Nat.sub hi lo))).map (fun A => (pc, ((A, S.1.2), S.2))))) els)
  | _ => els
theorem ty_spv_ok {lim : Nat} {f : Nat → ix_S → ix_R} {S : ty_S} {v : ix_V} {els : ty_R} {outs : List (Nat × ty_S)} {σ : ty_Sg} {C : ty_C} (he : ty_spv lim pc S v els = some outs) (hi : ty_in h cp σ S C) (hels : els = some outs → ∃ o ∈ outs, ∃ σ' C', ty_mo S.1 o.2.1 ∧ ty_agr (ty_k h S.1) σ σ' ∧ ty_in h cp σ' o.2 C' ∧ ((o.1 = pc ∧ C' = C) ∨ ∃ f0, ∀ g, f0 ≤ g → f g ([], C) = some [(o.1, ([], C'))])) : ∃ o ∈ outs, ∃ σ' C', ty_mo S.1 o.2.1 ∧ ty_agr (ty_k h S.1) σ σ' ∧ ty_in h cp σ' o.2 C' ∧ ((o.1 = pc ∧ C' = C) ∨ ∃ f0, ∀ g, f0 ≤ g → f g ([], C) = some [(o.1, ([], C'))]) := by
  rcases v with b | q | r | ⟨x, c⟩
  · exact hels he
  · exact hels he
  · exact hels he
  · change (match ix_g S.1.1.2 x with
    | (lo, hi) => cond (Nat.blt lo hi && (Nat.ble (Nat.sub hi lo) lim && Nat.blt x S.1.1.1)) (some ((ty_each S.1.1 x lo (Nat.succ (Nat.sub hi lo))).map (fun A => (pc, ((A, S.1.2), S.2))))) els) = some outs at he
    obtain ⟨⟨B, W2⟩, L, st, w⟩ := S
    obtain ⟨ls, stk, n, t, ce, sl⟩ := C
    have hb := hi.1.1.2 x
    have hset := @ty_bx_set σ.1 B x
    revert he hb hset
    dsimp only
    generalize ix_g B.2 x = q
    obtain ⟨lo, u⟩ := q
    intro he hb hset
    dsimp only at he hb hset
    cases hc : (Nat.blt lo u && (Nat.ble (Nat.sub u lo) lim && Nat.blt x B.1)) with
    | false => rw [hc] at he; exact hels he
    | true =>
      rw [hc] at he
      have c1 := Bool.and_eq_true_iff.mp hc
      have c2 := Bool.and_eq_true_iff.mp c1.2
      have hx : x < B.1 := ix_blt.mp c2.2
      have hb := hb hx
      have ho := Option.some.inj he
      have kk : ty_k h ((B.1, ix_u 8 B.2 x (σ.1 x, σ.1 x)), W2) = ty_k h (B, W2) := rfl
      refine ⟨(pc, (((B.1, ix_u 8 B.2 x (σ.1 x, σ.1 x)), W2), L, st, w)), ?_, σ, (ls, stk, n, t, ce, sl), ty_mo_k kk, ty_agr.rf, ty_in.cd (ty_wk.set hi.1 rfl (hset hi.1.1 hx hb.2.1 (Nat.le_refl _) (Nat.le_refl _) hb.2.2.1)) kk hi.2.1 hi.2.2.1 hi.2.2.2, Or.inl ⟨rfl, rfl⟩⟩
      rw [← ho]
      exact List.mem_map.mpr ⟨_, ty_each_mem B x _ lo _ hb.2.1 (by show σ.1 x < lo + ((u - lo) + 1); omega), rfl⟩
noncomputable def ty_sp0 (lim pc : Nat) (a : ty_S → ty_R) : ty_S → ty_R := fun S => match S.2.2.1 with
  | v :: _ => ty_spv lim pc S v (a S)
  | [] => a S
theorem ts_sp0 {lim : Nat} {f : Nat → ix_S → ix_R} {a : ty_S → ty_R} (ha : ty_sd h cp pc f a) : ty_sd h cp pc f (ty_sp0 lim pc a) := by
  intro S outs hs σ C hi
  unfold ty_sp0 at hs
  split at hs
  · exact ty_spv_ok hs hi (fun e => ha S outs e σ C hi)
  · exact ha S outs hs σ C hi
noncomputable def ty_sp1 (lim pc : Nat) (a : ty_S → ty_R) : ty_S → ty_R := fun S => match S.2.2.1 with
  | _ :: v :: _ => ty_spv lim pc S v (a S)
  | _ => a S
theorem ts_sp1 {lim : Nat} {f : Nat → ix_S → ix_R} {a : ty_S → ty_R} (ha : ty_sd h cp pc f a) : ty_sd h cp pc f (ty_sp1 lim pc a) := by
  intro S outs hs σ C hi
  unfold ty_sp1 at hs
  split at hs
  · exact ty_spv_ok hs hi (fun e => ha S outs e σ C hi)
  · exact ha S outs hs σ C hi
end TYM
